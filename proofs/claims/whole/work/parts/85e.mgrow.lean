/-! THE PLAIN FORM GROWS. (Printed by wip/whole/pp.py from wip/whole/src.) -/
section ZGR
variable {e : zE} {s s' : zS} {ex qy pr : zP}
/-- an answer leaves the plain form as long as before, or longer -/
def zgw (f : zP) : Prop := ∀ s v s', f s = some (some v, s') → s.2.2.2.2.length ≤ s'.2.2.2.2.length
theorem zgw_q {a b : zP} (ha : zgw a) (hb : zgw b) : zgw (zq a b) := by
  intro s v s' h
  rcases zbd_inv h with ⟨-, q⟩ | ⟨a1, s1, h1, h2⟩
  · cases q
  · exact Nat.le_trans (ha _ _ _ h1) (hb _ _ _ h2)
theorem zgw_i {a b c : zP} (ha : zgw a) (hb : zgw b) (hc : zgw c) : zgw (zi a b c) := by
  intro s v s' h
  rcases zbd_inv h with ⟨-, q⟩ | ⟨a1, s1, h1, h2⟩
  · cases q
  · by_cases h0 : a1 = 0
    · rw [if_pos h0] at h2; exact Nat.le_trans (ha _ _ _ h1) (hc _ _ _ h2)
    · rw [if_neg h0] at h2; exact Nat.le_trans (ha _ _ _ h1) (hb _ _ _ h2)
theorem zgw_if {b : zS → Prop} [∀ s, Decidable (b s)] {x y : zP} (hx : zgw x) (hy : zgw y) : zgw (fun s => if b s then x s else y s) := by
  intro s v s' h
  have h : (if b s then x s else y s) = some (some v, s') := h
  by_cases hk : b s
  · rw [if_pos hk] at h; exact hx _ _ _ h
  · rw [if_neg hk] at h; exact hy _ _ _ h
theorem zgw_c {k : Nat} {a b : zP} (ha : zgw a) (hb : zgw b) : zgw (zc e k a b) := zgw_if ha hb
theorem zgw_v {v : Nat} : zgw (zv v) := by intro s v s' h; cases h; exact Nat.le_refl _
theorem zgw_f : zgw zf := by intro s v s' h; cases h
theorem zgw_put {t : List Int32} : zgw (zput t) := by
  intro s v s' h
  rw [(zput_inv h).2.2]
  show s.2.2.2.2.length ≤ (s.2.2.2.2 ++ t ++ [32]).length
  rw [List.length_append, List.length_append]
  omega
theorem zgw_rise : zgw zrise := by
  intro s v s' h
  rcases zrise_inv h with ⟨q, -⟩ | ⟨-, -, q⟩
  · cases q
  · rw [q]; exact Nat.le_refl _
theorem zgw_down : zgw zdown := by intro s v s' h; rw [(zdown_inv h).2.2]; exact Nat.le_refl _
theorem zgw_next : zgw znext := by intro s v s' h; rw [(znext_inv h).2.2]; exact Nat.le_refl _
theorem zgw_step : zgw (zstep e) := zgw_if (zgw_q zgw_rise zgw_next) (zgw_if (zgw_q zgw_down zgw_next) zgw_next)
theorem zgw_cp {k : Nat} : zgw (zcp e k) := zgw_c (zgw_q zgw_put zgw_step) zgw_f
theorem zgw_ci {k : Nat} : zgw (zci e k) := zgw_c (zgw_q zgw_put (zgw_q zgw_step zgw_v)) zgw_v
theorem zgw_sk {k : Nat} : zgw (zsk e k) := zgw_c zgw_step zgw_f
theorem zgw_si {k : Nat} : zgw (zsi e k) := zgw_c (zgw_q zgw_step zgw_v) zgw_v
theorem zgw_nm : zgw (znm e) := by
  refine zgw_c (fun s v s' h => ?_) zgw_f
  exact zgw_q zgw_put zgw_step s v s' h
theorem zgw_st : zgw (zst e) := fun s v s' h => zgw_q zgw_put zgw_step s v s' h
theorem zgw_nu : zgw (znu e) := by
  refine zgw_c (fun s v s' h => ?_) zgw_f
  exact zgw_q zgw_put zgw_step s v s' h
theorem zgw_lp {a : zP} (ha : zgw a) : ∀ n, zgw (zlp a n) := by
  intro n
  induction n with
  | zero => intro s v s' h; cases h
  | succ n ih =>
    intro s v s' h
    rw [zlp_succ] at h
    rcases zbd_inv h with ⟨-, q⟩ | ⟨a1, s1, h1, h2⟩
    · cases q
    · by_cases h0 : a1 = 0
      · rw [if_pos h0] at h2; cases h2; exact ha _ _ _ h1
      · rw [if_neg h0] at h2
        split at h2
        · cases h2
        · exact Nat.le_trans (ha _ _ _ h1) (ih _ _ _ h2)
theorem zgw_exs (hex : zgw ex) : zgw (z_exs e ex) := zgw_q hex (zgw_lp (zgw_i zgw_ci (zgw_q hex zgw_v) zgw_v) _)
theorem zgw_cond (hex : zgw ex) : zgw (z_cond e ex) := zgw_i zgw_ci (zgw_q hex zgw_v) zgw_v
theorem zgw_alias : zgw (z_alias e) := zgw_i zgw_ci (zgw_q zgw_nm zgw_v) zgw_v
theorem zgw_item (hex : zgw ex) : zgw (z_item e ex) := zgw_if (zgw_if (zgw_if (zgw_q zgw_nm (zgw_q zgw_cp zgw_cp)) (zgw_q hex zgw_alias)) (zgw_q hex zgw_alias)) (zgw_q hex zgw_alias)
theorem zgw_items (hex : zgw ex) : zgw (z_items e ex) := zgw_lp (zgw_q (zgw_item hex) zgw_ci) _
theorem zgw_source : zgw (z_source e) := zgw_q zgw_nm zgw_alias
theorem zgw_on (hex : zgw ex) : zgw (z_on e ex) := zgw_q zgw_source (zgw_q zgw_cp (zgw_q hex zgw_v))
theorem zgw_join (hex : zgw ex) : zgw (z_join e ex) := zgw_i zgw_si (zgw_q zgw_put (zgw_q zgw_source zgw_v)) (zgw_i zgw_ci (zgw_q zgw_si (zgw_q zgw_cp (zgw_on hex))) (zgw_i zgw_ci (zgw_q zgw_cp (zgw_q zgw_source zgw_v)) (zgw_i zgw_si (zgw_q zgw_cp (zgw_on hex)) (zgw_c (zgw_q zgw_cp (zgw_on hex)) zgw_v))))
theorem zgw_sources (hex : zgw ex) : zgw (z_sources e ex) := zgw_q zgw_source (zgw_lp (zgw_join hex) _)
theorem zgw_orders (hex : zgw ex) : zgw (z_orders e ex) := zgw_lp (zgw_q (zgw_q hex (zgw_i zgw_si zgw_v (zgw_q zgw_ci zgw_v))) zgw_ci) _
theorem zgw_query (hex : zgw ex) : zgw (z_query e ex) := zgw_q zgw_cp (zgw_q zgw_ci (zgw_q (zgw_i zgw_ci zgw_v (zgw_items hex)) (zgw_q (zgw_i zgw_ci (zgw_sources hex) zgw_v) (zgw_q (zgw_cond hex) (zgw_q (zgw_i zgw_ci (zgw_q zgw_cp (zgw_exs hex)) zgw_v) (zgw_q (zgw_i zgw_ci (zgw_q hex zgw_v) zgw_v) (zgw_q (zgw_i zgw_ci (zgw_q zgw_cp (zgw_orders hex)) zgw_v) (zgw_i zgw_ci (zgw_q zgw_nu (zgw_i zgw_ci (zgw_q zgw_nu zgw_v) zgw_v)) zgw_v))))))))
theorem zgw_members (hex : zgw ex) (hqy : zgw qy) : zgw (z_members e ex qy) := zgw_q zgw_cp (zgw_q (zgw_c hqy (zgw_exs hex)) zgw_cp)
theorem zgw_cases (hex : zgw ex) : zgw (z_cases e ex) := zgw_q zgw_cp (zgw_q (zgw_lp (zgw_q zgw_cp (zgw_q hex (zgw_q zgw_cp (zgw_q hex (zgw_c zgw_v zgw_v))))) _) (zgw_q (zgw_i zgw_ci hex zgw_v) zgw_cp))
theorem zgw_args {a : zP} (ha : zgw a) : zgw (z_args e a) := fun s v s' h => zgw_q zgw_cp (zgw_q zgw_cp (zgw_q ha zgw_cp)) s v s' h
theorem zgw_agg (hex : zgw ex) : zgw (z_agg e ex) := by
  intro s v s' h
  refine zgw_q zgw_cp (zgw_q zgw_cp (zgw_q ?_ zgw_cp)) s v s' h
  split
  · exact zgw_i zgw_ci zgw_v (zgw_q zgw_ci hex)
  · exact zgw_q zgw_ci hex
theorem zgw_cast (hex : zgw ex) : zgw (z_cast e ex) := zgw_q zgw_cp (zgw_q zgw_cp (zgw_q hex (zgw_q zgw_cp (zgw_q (zgw_i zgw_ci zgw_v zgw_cp) zgw_cp))))
theorem zgw_fun (hex : zgw ex) : zgw (z_fun e ex) := by
  have h1 := zgw_args (e := e) hex
  have ha := zgw_agg (e := e) hex
  refine zgw_if h1 (zgw_if h1 (zgw_if h1 (zgw_if h1 (zgw_if (zgw_args ?_) (zgw_if (zgw_args (zgw_exs hex)) (zgw_if (zgw_args ?_) (zgw_if (zgw_cast hex) (zgw_if ha (zgw_if ha (zgw_if ha (zgw_if ha (zgw_if ha zgw_f))))))))))))
  · exact zgw_q hex (zgw_q zgw_cp (zgw_q hex (zgw_i zgw_ci hex zgw_v)))
  · exact zgw_q hex (zgw_q zgw_cp hex)
theorem zgw_prim (hex : zgw ex) (hqy : zgw qy) : zgw (z_prim e ex qy) := by
  refine zgw_if (zgw_q zgw_nu zgw_v) (zgw_if (zgw_q zgw_st zgw_v) (zgw_if (zgw_q zgw_cp zgw_v) (zgw_if (zgw_q zgw_nm (zgw_i zgw_ci (zgw_q zgw_nm zgw_v) zgw_v)) (zgw_if (zgw_q zgw_sk ?_) (zgw_if (zgw_q zgw_cp (zgw_q zgw_cp (zgw_q hqy (zgw_q zgw_cp zgw_v)))) (zgw_if (zgw_q (zgw_cases hex) zgw_v) (zgw_q (zgw_fun hex) zgw_v)))))))
  intro s v s' h
  rcases zbd_inv h with ⟨-, q⟩ | ⟨a1, s1, h1, h2⟩
  · cases q
  · exact Nat.le_trans (hex _ _ _ h1) (zgw_q zgw_sk zgw_v _ _ _ h2)

theorem zpre_g {k ma : Nat} : ∀ (n : Nat) (p : zK) (s : zS) (r : zK) (s' : zS), zpre e k ma n p s = some (some r, s') → s.2.2.2.2.length ≤ s'.2.2.2.2.length := by
  intro n
  induction n with
  | zero => intro p s r s' h; cases h
  | succ n ih =>
    intro p s r s' h
    simp only [zpre] at h
    by_cases h1 : ztk e s.1 = k
    · rw [if_pos h1] at h
      rcases zbd_inv h with ⟨-, q⟩ | ⟨a1, s1, h1, h⟩
      · cases q
      have e1 := zgw_rise _ _ _ h1
      rcases zbd_inv h with ⟨-, q⟩ | ⟨a2, s2, h2, h⟩
      · cases q
      obtain ⟨-, q, e2⟩ := zpush_inv h2
      have e2 : s2.2.2.2.2.length = s1.2.2.2.2.length := by rw [e2]
      rcases zbd_inv h with ⟨-, q⟩ | ⟨a3, s3, h3, h⟩
      · cases q
      have e3 := zgw_put _ _ _ h3
      rcases zbd_inv h with ⟨-, q⟩ | ⟨a4, s4, h4, h⟩
      · cases q
      have e4 := zgw_put _ _ _ h4
      rcases zbd_inv h with ⟨-, q⟩ | ⟨a5, s5, h5, h⟩
      · cases q
      have e5 := zgw_step _ _ _ h5
      have := ih _ s5 r s' h
      omega
    · rw [if_neg h1] at h
      cases h; exact Nat.le_refl _
theorem zcb_g {nx : Nat} : ∀ (p : zK) (st ma : Nat) (s : zS) (r : zK × Nat × Nat) (s' : zS), zcb nx p st ma s = some (some r, s') → s.2.2.2.2.length ≤ s'.2.2.2.2.length := by
  intro p
  induction p with
  | nil => intro st ma s r s' h; cases h; exact Nat.le_refl _
  | cons q p ih =>
    intro st ma s r s' h
    simp only [zcb] at h
    by_cases hq : nx ≤ q.2
    · rw [if_pos hq] at h
      rcases zbd_inv h with ⟨-, q⟩ | ⟨a1, s1, h1, h⟩
      · cases q
      have e1 : s1.2.2.2.2.length = s.2.2.2.2.length := by rw [(zpop_inv h1).2.2]
      rcases zbd_inv h with ⟨-, q⟩ | ⟨a2, s2, h2, h⟩
      · cases q
      have e2 := zgw_put _ _ _ h2
      rcases zbd_inv h with ⟨-, q⟩ | ⟨a3, s3, h3, h⟩
      · cases q
      have e3 : s2.2.2.2.2.length ≤ s3.2.2.2.2.length := by
        split at h3
        · exact zgw_down _ _ _ h3
        · exact zgw_v _ _ _ h3
      have := ih q.1 q.2 s3 r s' h
      omega
    · rw [if_neg hq] at h
      cases h; exact Nat.le_refl _
theorem zcomb_g {nx st ma : Nat} {p : zK} {r : zK × Nat} (h : zcomb nx st ma p s = some (some r, s')) : s.2.2.2.2.length ≤ s'.2.2.2.2.length + 2 ∧ (nx = 0 → s.2.2.2.2.length ≤ s'.2.2.2.2.length) := by
  unfold zcomb at h
  rcases zbd_inv h with ⟨-, q⟩ | ⟨a1, s1, h1, h⟩
  · cases q
  have e1 := zcb_g p st ma s _ _ h1
  by_cases h0 : nx = 0
  · rw [if_pos h0] at h
    cases h
    exact ⟨by omega, fun _ => e1⟩
  · rw [if_neg h0] at h
    rcases zbd_inv h with ⟨-, q⟩ | ⟨a2, s2, h2, h⟩
    · cases q
    have e2 : s2.2.2.2.2.length = s1.2.2.2.2.length := by rw [(zpush_inv h2).2.2]
    rcases zbd_inv h with ⟨-, q⟩ | ⟨a3, s3, h3, h⟩
    · cases q
    cases h
    refine ⟨?_, fun q => absurd q h0⟩
    split at h3
    · rw [(zreopen_inv h3).2.2]
      show s.2.2.2.2.length ≤ (s2.2.2.2.2.take (s2.2.2.2.2.length - 2)).length + 2
      rw [List.length_take]
      omega
    · rw [(zopen_inv h3).2.2.2]
      show s.2.2.2.2.length ≤ (s2.2.2.2.2.take a1.2.1 ++ [40, 32] ++ s2.2.2.2.2.drop a1.2.1).length + 2
      simp only [List.length_append, List.length_take, List.length_drop, List.length_cons, List.length_nil]
      omega
theorem zcomb_at {nx st ma : Nat} {p : zK} {r : zK × Nat} (h : zcomb nx st ma p s = some (some r, s')) : s'.1 = s.1 := by
  unfold zcomb at h
  rcases zbd_inv h with ⟨-, q⟩ | ⟨a1, s1, h1, h⟩
  · cases q
  obtain ⟨_, _, _, -, e1, -⟩ := zcb_ok _ _ _ _ _ _ h1
  by_cases h0 : nx = 0
  · rw [if_pos h0] at h
    cases h
    exact e1
  · rw [if_neg h0] at h
    rcases zbd_inv h with ⟨-, q⟩ | ⟨a2, s2, h2, h⟩
    · cases q
    have e2 : s2.1 = s1.1 := by rw [(zpush_inv h2).2.2]
    rcases zbd_inv h with ⟨-, q⟩ | ⟨a3, s3, h3, h⟩
    · cases q
    cases h
    rw [← e1, ← e2]
    split at h3
    · rw [(zreopen_inv h3).2.2]
    · rw [(zopen_inv h3).2.2.2]
/-- a kept token makes it longer -/
theorem zcp_g {k v : Nat} (hk : 1 ≤ (zw k).length) (h : zcp e k s = some (some v, s')) : s.2.2.2.2.length + 2 ≤ s'.2.2.2.2.length := by
  unfold zcp zc at h
  by_cases t : ztk e s.1 = k
  · rw [if_pos t] at h
    rcases zbd_inv h with ⟨-, q⟩ | ⟨a1, s1, h1, h⟩
    · cases q
    have e1 := (zput_inv h1).2.2
    have e2 := zgw_step _ _ _ h
    rw [e1] at e2
    have e2 : (s.2.2.2.2 ++ zw k ++ [32]).length ≤ s'.2.2.2.2.length := e2
    rw [List.length_append, List.length_append] at e2
    have : [(32 : Int32)].length = 1 := rfl
    omega
  · rw [if_neg t] at h; cases h
theorem zw_pos0 : (List.range 99).all (fun k => decide (1 ≤ (zw k).length)) = true := by decide +kernel
theorem zw_pos {k : Nat} (hk : k < 99) : 1 ≤ (zw k).length := of_decide_eq_true (List.all_eq_true.mp zw_pos0 k (List.mem_range.mpr hk))
theorem zmk_99 : (List.range 104).all (fun k => decide ((qr_en.getD k (0, 0)).2.toNatClampNeg = 0 ∨ k < 99)) = true := by decide +kernel
theorem zops_g {kp mp : Nat} {fam : Nat → Bool} {od : zP} (hlt : ∀ i, ztk e i < 104) (hfam : fam 0 = false) (hod : zgw od) : ∀ (n : Nat) (p : zK), zgw (zops e kp mp fam od n p) := by
  intro n
  induction n with
  | zero => intro p s v s' h; cases h
  | succ n ih =>
    intro p s v s' h
    simp only [zops] at h
    rcases zbd_inv h with ⟨-, q⟩ | ⟨p1, s1, h1, h⟩
    · cases q
    have e1 := zpre_g 42 p s p1 s1 h1
    rcases zbd_inv h with ⟨-, q⟩ | ⟨ma, s4, h2, h⟩
    · cases q
    have e2 := hod _ _ _ h2
    rcases zbd_inv h with ⟨-, q⟩ | ⟨q, s2, h3, h⟩
    · cases q
    have e3 := zcomb_g h3
    have a3 := zcomb_at h3
    by_cases hf : fam (zmk e s2.1) = true
    · rw [if_pos hf] at h
      have h99 : ztk e s2.1 < 99 := by
        rcases of_decide_eq_true (List.all_eq_true.mp zmk_99 (ztk e s2.1) (List.mem_range.mpr (hlt _))) with z | z
        · have : zmk e s2.1 = 0 := z
          rw [this, hfam] at hf; cases hf
        · exact z
      rcases zbd_inv h with ⟨-, q⟩ | ⟨a5, s5, h5, h⟩
      · cases q
      have e5 := zcp_g (zw_pos h99) h5
      split at h
      · cases h
      · have := ih _ _ _ _ h
        omega
    · rw [if_neg hf] at h
      cases h
      rw [a3] at hf
      rw [if_neg hf] at e3
      have := e3.2 rfl
      omega
theorem zgw_pop : zgw zpop := by intro s v s' h; rw [(zpop_inv h).2.2]; exact Nat.le_refl _
theorem zgw_test : zgw ztest := by intro s v s' h; rw [(ztest_inv h).2.2]; exact Nat.le_refl _
theorem zgw_open {st : Nat} : zgw (zopen st) := by
  intro s v s' h
  rw [(zopen_inv h).2.2.2]
  show s.2.2.2.2.length ≤ (s.2.2.2.2.take st ++ [40, 32] ++ s.2.2.2.2.drop st).length
  simp only [List.length_append, List.length_take, List.length_drop, List.length_cons, List.length_nil]
  omega
theorem zgw_sum (hlt : ∀ i, ztk e i < 104) (hpr : zgw pr) : zgw (z_sum e pr) := zops_g hlt rfl hpr zN []
theorem zgw_cmp (hlt : ∀ i, ztk e i < 104) (hpr : zgw pr) (hex : zgw ex) (hqy : zgw qy) : zgw (z_cmp e pr ex qy) := by
  intro s v s' h
  have hs := zgw_sum hlt hpr
  rcases zbd_inv h with ⟨-, q⟩ | ⟨a1, s1, h1, h2⟩
  · cases q
  · have e1 := hs _ _ _ h1
    split at h2
    · refine Nat.le_trans e1 ?_
      refine zgw_q zgw_open (zgw_q (zgw_if (fun s v s' h => ?_) ?_) (zgw_q zgw_put zgw_v)) s1 v s' h2
      · exact zgw_q zgw_cp (zgw_q zgw_test (zgw_q hs zgw_pop)) s v s' h
      · exact zgw_i zgw_ci (zgw_q zgw_ci zgw_cp) (zgw_q zgw_ci (zgw_i zgw_ci (zgw_members hex hqy) (zgw_i zgw_ci (zgw_q zgw_test (zgw_q hs (zgw_q zgw_cp (zgw_q hs zgw_pop)))) (zgw_q zgw_cp (zgw_q zgw_test (zgw_q hs zgw_pop))))))
    · cases h2; exact e1
theorem zsp_g (hlt : ∀ i, ztk e i < 104) : ∀ n b, zgw (zsp e n b) := by
  intro n
  induction n with
  | zero => intro b s v s' h; cases h
  | succ n ih =>
    intro b
    cases b with
    | true => exact zops_g hlt rfl (zgw_cmp hlt (zgw_prim (ih true) (ih false)) (ih true) (ih false)) zN []
    | false => exact zgw_query (ih true)
/-- what begins with a kept token makes it longer -/
theorem zgw_1 {k v : Nat} {f : zP} (hk : k < 99) (hf : zgw f) (h : zq (zcp e k) f s = some (some v, s')) : s.2.2.2.2.length < s'.2.2.2.2.length := by
  rcases zbd_inv h with ⟨-, q⟩ | ⟨a1, s1, h1, h2⟩
  · cases q
  · have := zcp_g (zw_pos hk) h1
    have := hf _ _ _ h2
    omega
theorem zgw_fun1 {v : Nat} (hlt : ∀ i, ztk e i < 104) (hex : zgw ex) (h : z_fun e ex s = some (some v, s')) : s.2.2.2.2.length < s'.2.2.2.2.length := by
  have ha : ∀ {k : Nat} {a : zP}, k < 99 → ztk e s.1 = k → zgw a → z_args e a s = some (some v, s') → s.2.2.2.2.length < s'.2.2.2.2.length := by
    intro k a hk t hg hz
    unfold z_args at hz
    rw [t] at hz
    exact zgw_1 hk (zgw_q zgw_cp (zgw_q hg zgw_cp)) hz
  have hb : ∀ {k : Nat}, k < 99 → ztk e s.1 = k → z_agg e ex s = some (some v, s') → s.2.2.2.2.length < s'.2.2.2.2.length := by
    intro k hk t hz
    unfold z_agg at hz
    rw [t] at hz
    refine zgw_1 hk (zgw_q zgw_cp (zgw_q ?_ zgw_cp)) hz
    split
    · exact zgw_i zgw_ci zgw_v (zgw_q zgw_ci hex)
    · exact zgw_q zgw_ci hex
  unfold z_fun at h
  by_cases t : ztk e s.1 = 0
  · rw [if_pos t] at h
    exact ha (by decide) t hex h
  rw [if_neg t] at h
  clear t
  by_cases t : ztk e s.1 = 41
  · rw [if_pos t] at h
    exact ha (by decide) t hex h
  rw [if_neg t] at h
  clear t
  by_cases t : ztk e s.1 = 78
  · rw [if_pos t] at h
    exact ha (by decide) t hex h
  rw [if_neg t] at h
  clear t
  by_cases t : ztk e s.1 = 45
  · rw [if_pos t] at h
    exact ha (by decide) t hex h
  rw [if_neg t] at h
  clear t
  by_cases t : ztk e s.1 = 69
  · rw [if_pos t] at h
    exact ha (by decide) t (zgw_q hex (zgw_q zgw_cp (zgw_q hex (zgw_i zgw_ci hex zgw_v)))) h
  rw [if_neg t] at h
  clear t
  by_cases t : ztk e s.1 = 13
  · rw [if_pos t] at h
    exact ha (by decide) t (zgw_exs hex) h
  rw [if_neg t] at h
  clear t
  by_cases t : ztk e s.1 = 51
  · rw [if_pos t] at h
    exact ha (by decide) t (zgw_q hex (zgw_q zgw_cp hex)) h
  rw [if_neg t] at h
  clear t
  by_cases t : ztk e s.1 = 11
  · rw [if_pos t] at h
    exact zgw_1 (by decide) (zgw_q zgw_cp (zgw_q hex (zgw_q zgw_cp (zgw_q (zgw_i zgw_ci zgw_v zgw_cp) zgw_cp)))) h
  rw [if_neg t] at h
  clear t
  by_cases t : ztk e s.1 = 16
  · rw [if_pos t] at h
    exact hb (by decide) t h
  rw [if_neg t] at h
  clear t
  by_cases t : ztk e s.1 = 70
  · rw [if_pos t] at h
    exact hb (by decide) t h
  rw [if_neg t] at h
  clear t
  by_cases t : ztk e s.1 = 47
  · rw [if_pos t] at h
    exact hb (by decide) t h
  rw [if_neg t] at h
  clear t
  by_cases t : ztk e s.1 = 46
  · rw [if_pos t] at h
    exact hb (by decide) t h
  rw [if_neg t] at h
  clear t
  by_cases t : ztk e s.1 = 5
  · rw [if_pos t] at h
    exact hb (by decide) t h
  rw [if_neg t] at h
  clear t
  cases h
end ZGR
