/-! THE PLAIN FORM GROWS. (Printed by wip/whole/pp.py from wip/whole/src.) -/
section ZGR
variable {e : zE} {s s' : zS} {ex qy pr : zP}
/-- an answer leaves the plain form as long as before, or longer -/
def zgr (f : zP) : Prop := ∀ s v s', f s = some (some v, s') → s.2.2.2.2.length ≤ s'.2.2.2.2.length
theorem zgr_q {a b : zP} (ha : zgr a) (hb : zgr b) : zgr (zq a b) := by
  intro s v s' h
  rcases zbd_inv h with ⟨-, q⟩ | ⟨a1, s1, h1, h2⟩
  · cases q
  · exact Nat.le_trans (ha _ _ _ h1) (hb _ _ _ h2)
theorem zgr_i {a b c : zP} (ha : zgr a) (hb : zgr b) (hc : zgr c) : zgr (zi a b c) := by
  intro s v s' h
  rcases zbd_inv h with ⟨-, q⟩ | ⟨a1, s1, h1, h2⟩
  · cases q
  · by_cases h0 : a1 = 0
    · rw [if_pos h0] at h2; exact Nat.le_trans (ha _ _ _ h1) (hc _ _ _ h2)
    · rw [if_neg h0] at h2; exact Nat.le_trans (ha _ _ _ h1) (hb _ _ _ h2)
theorem zgr_if {b : zS → Prop} [∀ s, Decidable (b s)] {x y : zP} (hx : zgr x) (hy : zgr y) : zgr (fun s => if b s then x s else y s) := by
  intro s v s' h
  have h : (if b s then x s else y s) = some (some v, s') := h
  by_cases hk : b s
  · rw [if_pos hk] at h; exact hx _ _ _ h
  · rw [if_neg hk] at h; exact hy _ _ _ h
theorem zgr_c {k : Nat} {a b : zP} (ha : zgr a) (hb : zgr b) : zgr (zc e k a b) := zgr_if ha hb
theorem zgr_v {v : Nat} : zgr (zv v) := by intro s v s' h; cases h; exact Nat.le_refl _
theorem zgr_f : zgr zf := by intro s v s' h; cases h
theorem zgr_put {t : List Int32} : zgr (zput t) := by
  intro s v s' h
  rw [(zput_inv h).2.2]
  show s.2.2.2.2.length ≤ (s.2.2.2.2 ++ t ++ [32]).length
  rw [List.length_append, List.length_append]
  omega
theorem zgr_rise : zgr zrise := by
  intro s v s' h
  rcases zrise_inv h with ⟨q, -⟩ | ⟨-, -, q⟩
  · cases q
  · rw [q]; exact Nat.le_refl _
theorem zgr_down : zgr zdown := by intro s v s' h; rw [(zdown_inv h).2.2]; exact Nat.le_refl _
theorem zgr_next : zgr znext := by intro s v s' h; rw [(znext_inv h).2.2]; exact Nat.le_refl _
theorem zgr_step : zgr (zstep e) := zgr_if (zgr_q zgr_rise zgr_next) (zgr_if (zgr_q zgr_down zgr_next) zgr_next)
theorem zgr_cp {k : Nat} : zgr (zcp e k) := zgr_c (zgr_q zgr_put zgr_step) zgr_f
theorem zgr_ci {k : Nat} : zgr (zci e k) := zgr_c (zgr_q zgr_put (zgr_q zgr_step zgr_v)) zgr_v
theorem zgr_sk {k : Nat} : zgr (zsk e k) := zgr_c zgr_step zgr_f
theorem zgr_si {k : Nat} : zgr (zsi e k) := zgr_c (zgr_q zgr_step zgr_v) zgr_v
theorem zgr_nm : zgr (znm e) := by
  refine zgr_c (fun s v s' h => ?_) zgr_f
  exact zgr_q zgr_put zgr_step s v s' h
theorem zgr_st : zgr (zst e) := fun s v s' h => zgr_q zgr_put zgr_step s v s' h
theorem zgr_nu : zgr (znu e) := by
  refine zgr_c (fun s v s' h => ?_) zgr_f
  exact zgr_q zgr_put zgr_step s v s' h
theorem zgr_lp {a : zP} (ha : zgr a) : ∀ n, zgr (zlp a n) := by
  intro n
  induction n with
  | zero => intro s v s' h; cases h
  | succ n ih =>
    intro s v s' h
    rw [zlp_succ] at h
    rcases zbd_inv h with ⟨-, q⟩ | ⟨a1, s1, h1, h2⟩
    · cases q
    · by_cases h0 : a1 = 0
      · rw [if_pos h0] at h2; cases h2; exact ha _ _ _ h1
      · rw [if_neg h0] at h2
        split at h2
        · cases h2
        · exact Nat.le_trans (ha _ _ _ h1) (ih _ _ _ h2)
theorem zgr_exs (hex : zgr ex) : zgr (z_exs e ex) := zgr_q hex (zgr_lp (zgr_i zgr_ci (zgr_q hex zgr_v) zgr_v) _)
theorem zgr_cond (hex : zgr ex) : zgr (z_cond e ex) := zgr_i zgr_ci (zgr_q hex zgr_v) zgr_v
theorem zgr_alias : zgr (z_alias e) := zgr_i zgr_ci (zgr_q zgr_nm zgr_v) zgr_v
theorem zgr_item (hex : zgr ex) : zgr (z_item e ex) := zgr_if (zgr_if (zgr_if (zgr_q zgr_nm (zgr_q zgr_cp zgr_cp)) (zgr_q hex zgr_alias)) (zgr_q hex zgr_alias)) (zgr_q hex zgr_alias)
theorem zgr_items (hex : zgr ex) : zgr (z_items e ex) := zgr_lp (zgr_q (zgr_item hex) zgr_ci) _
theorem zgr_source : zgr (z_source e) := zgr_q zgr_nm zgr_alias
theorem zgr_on (hex : zgr ex) : zgr (z_on e ex) := zgr_q zgr_source (zgr_q zgr_cp (zgr_q hex zgr_v))
theorem zgr_join (hex : zgr ex) : zgr (z_join e ex) := zgr_i zgr_si (zgr_q zgr_put (zgr_q zgr_source zgr_v)) (zgr_i zgr_ci (zgr_q zgr_si (zgr_q zgr_cp (zgr_on hex))) (zgr_i zgr_ci (zgr_q zgr_cp (zgr_q zgr_source zgr_v)) (zgr_i zgr_si (zgr_q zgr_cp (zgr_on hex)) (zgr_c (zgr_q zgr_cp (zgr_on hex)) zgr_v))))
theorem zgr_sources (hex : zgr ex) : zgr (z_sources e ex) := zgr_q zgr_source (zgr_lp (zgr_join hex) _)
theorem zgr_orders (hex : zgr ex) : zgr (z_orders e ex) := zgr_lp (zgr_q (zgr_q hex (zgr_i zgr_si zgr_v (zgr_q zgr_ci zgr_v))) zgr_ci) _
theorem zgr_query (hex : zgr ex) : zgr (z_query e ex) := zgr_q zgr_cp (zgr_q zgr_ci (zgr_q (zgr_i zgr_ci zgr_v (zgr_items hex)) (zgr_q (zgr_i zgr_ci (zgr_sources hex) zgr_v) (zgr_q (zgr_cond hex) (zgr_q (zgr_i zgr_ci (zgr_q zgr_cp (zgr_exs hex)) zgr_v) (zgr_q (zgr_i zgr_ci (zgr_q hex zgr_v) zgr_v) (zgr_q (zgr_i zgr_ci (zgr_q zgr_cp (zgr_orders hex)) zgr_v) (zgr_i zgr_ci (zgr_q zgr_nu (zgr_i zgr_ci (zgr_q zgr_nu zgr_v) zgr_v)) zgr_v))))))))
theorem zgr_members (hex : zgr ex) (hqy : zgr qy) : zgr (z_members e ex qy) := zgr_q zgr_cp (zgr_q (zgr_c hqy (zgr_exs hex)) zgr_cp)
theorem zgr_cases (hex : zgr ex) : zgr (z_cases e ex) := zgr_q zgr_cp (zgr_q (zgr_lp (zgr_q zgr_cp (zgr_q hex (zgr_q zgr_cp (zgr_q hex (zgr_c zgr_v zgr_v))))) _) (zgr_q (zgr_i zgr_ci hex zgr_v) zgr_cp))
theorem zgr_args {a : zP} (ha : zgr a) : zgr (z_args e a) := fun s v s' h => zgr_q zgr_cp (zgr_q zgr_cp (zgr_q ha zgr_cp)) s v s' h
theorem zgr_agg (hex : zgr ex) : zgr (z_agg e ex) := by
  intro s v s' h
  refine zgr_q zgr_cp (zgr_q zgr_cp (zgr_q ?_ zgr_cp)) s v s' h
  split
  · exact zgr_i zgr_ci zgr_v (zgr_q zgr_ci hex)
  · exact zgr_q zgr_ci hex
theorem zgr_cast (hex : zgr ex) : zgr (z_cast e ex) := zgr_q zgr_cp (zgr_q zgr_cp (zgr_q hex (zgr_q zgr_cp (zgr_q (zgr_i zgr_ci zgr_v zgr_cp) zgr_cp))))
theorem zgr_fun (hex : zgr ex) : zgr (z_fun e ex) := by
  have h1 := zgr_args (e := e) hex
  have ha := zgr_agg (e := e) hex
  refine zgr_if h1 (zgr_if h1 (zgr_if h1 (zgr_if h1 (zgr_if (zgr_args ?_) (zgr_if (zgr_args (zgr_exs hex)) (zgr_if (zgr_args ?_) (zgr_if (zgr_cast hex) (zgr_if ha (zgr_if ha (zgr_if ha (zgr_if ha (zgr_if ha zgr_f))))))))))))
  · exact zgr_q hex (zgr_q zgr_cp (zgr_q hex (zgr_i zgr_ci hex zgr_v)))
  · exact zgr_q hex (zgr_q zgr_cp hex)
theorem zgr_prim (hex : zgr ex) (hqy : zgr qy) : zgr (z_prim e ex qy) := by
  refine zgr_if (zgr_q zgr_nu zgr_v) (zgr_if (zgr_q zgr_st zgr_v) (zgr_if (zgr_q zgr_cp zgr_v) (zgr_if (zgr_q zgr_nm (zgr_i zgr_ci (zgr_q zgr_nm zgr_v) zgr_v)) (zgr_if (zgr_q zgr_sk ?_) (zgr_if (zgr_q zgr_cp (zgr_q zgr_cp (zgr_q hqy (zgr_q zgr_cp zgr_v)))) (zgr_if (zgr_q (zgr_cases hex) zgr_v) (zgr_q (zgr_fun hex) zgr_v)))))))
  intro s v s' h
  rcases zbd_inv h with ⟨-, q⟩ | ⟨a1, s1, h1, h2⟩
  · cases q
  · exact Nat.le_trans (hex _ _ _ h1) (zgr_q zgr_sk zgr_v _ _ _ h2)

theorem zpre_g {k ma : Nat} : ∀ (n : Nat) (p : zK) (s : zS) (r : zK) (s' : zS), zpre e k ma n p s = some (some r, s') → s.2.2.2.2.length ≤ s'.2.2.2.2.length := by
  intro n
  induction n with
  | zero => intro p s r s' h; cases h
  | succ n ih =>
    intro p s r s' h
    simp only [zpre] at h
    by_cases h1 : ztk e s.1 = k
    · rw [if_pos h1] at h
      rcases zbd_inv h with ⟨-, q⟩ | ⟨a1, s1, h1, h⟩
      · cases q
      have e1 := zgr_rise _ _ _ h1
      rcases zbd_inv h with ⟨-, q⟩ | ⟨a2, s2, h2, h⟩
      · cases q
      obtain ⟨-, q, e2⟩ := zpush_inv h2
      have e2 : s2.2.2.2.2.length = s1.2.2.2.2.length := by rw [e2]
      rcases zbd_inv h with ⟨-, q⟩ | ⟨a3, s3, h3, h⟩
      · cases q
      have e3 := zgr_put _ _ _ h3
      rcases zbd_inv h with ⟨-, q⟩ | ⟨a4, s4, h4, h⟩
      · cases q
      have e4 := zgr_put _ _ _ h4
      rcases zbd_inv h with ⟨-, q⟩ | ⟨a5, s5, h5, h⟩
      · cases q
      have e5 := zgr_step _ _ _ h5
      have := ih _ s5 r s' h
      omega
    · rw [if_neg h1] at h
      cases h; exact Nat.le_refl _
theorem zcb_g {nx : Nat} : ∀ (p : zK) (st ma : Nat) (s : zS) (r : zK × Nat × Nat) (s' : zS), zcb nx p st ma s = some (some r, s') → s.2.2.2.2.length ≤ s'.2.2.2.2.length := by
  intro p
  induction p with
  | nil => intro st ma s r s' h; cases h; exact Nat.le_refl _
  | cons q p ih =>
    intro st ma s r s' h
    simp only [zcb] at h
    by_cases hq : nx ≤ q.2
    · rw [if_pos hq] at h
      rcases zbd_inv h with ⟨-, q⟩ | ⟨a1, s1, h1, h⟩
      · cases q
      have e1 : s1.2.2.2.2.length = s.2.2.2.2.length := by rw [(zpop_inv h1).2.2]
      rcases zbd_inv h with ⟨-, q⟩ | ⟨a2, s2, h2, h⟩
      · cases q
      have e2 := zgr_put _ _ _ h2
      rcases zbd_inv h with ⟨-, q⟩ | ⟨a3, s3, h3, h⟩
      · cases q
      have e3 : s2.2.2.2.2.length ≤ s3.2.2.2.2.length := by
        split at h3
        · exact zgr_down _ _ _ h3
        · exact zgr_v _ _ _ h3
      have := ih q.1 q.2 s3 r s' h
      omega
    · rw [if_neg hq] at h
      cases h; exact Nat.le_refl _
theorem zcomb_g {nx st ma : Nat} {p : zK} {r : zK × Nat} (h : zcomb nx st ma p s = some (some r, s')) : s.2.2.2.2.length ≤ s'.2.2.2.2.length + 2 ∧ (nx = 0 → s.2.2.2.2.length ≤ s'.2.2.2.2.length) := by
  unfold zcomb at h
  rcases zbd_inv h with ⟨-, q⟩ | ⟨a1, s1, h1, h⟩
  · cases q
  have e1 := zcb_g p st ma s _ _ h1
  by_cases h0 : nx = 0
  · rw [if_pos h0] at h
    cases h
    exact ⟨by omega, fun _ => e1⟩
  · rw [if_neg h0] at h
    rcases zbd_inv h with ⟨-, q⟩ | ⟨a2, s2, h2, h⟩
    · cases q
    have e2 : s2.2.2.2.2.length = s1.2.2.2.2.length := by rw [(zpush_inv h2).2.2]
    rcases zbd_inv h with ⟨-, q⟩ | ⟨a3, s3, h3, h⟩
    · cases q
    cases h
    refine ⟨?_, fun q => absurd q h0⟩
    split at h3
    · rw [(zreopen_inv h3).2.2]
      show s.2.2.2.2.length ≤ (s2.2.2.2.2.take (s2.2.2.2.2.length - 2)).length + 2
      rw [List.length_take]
      omega
    · rw [(zopen_inv h3).2.2.2]
      show s.2.2.2.2.length ≤ (s2.2.2.2.2.take a1.2.1 ++ [40, 32] ++ s2.2.2.2.2.drop a1.2.1).length + 2
      simp only [List.length_append, List.length_take, List.length_drop, List.length_cons, List.length_nil]
      omega
theorem zcomb_at {nx st ma : Nat} {p : zK} {r : zK × Nat} (h : zcomb nx st ma p s = some (some r, s')) : s'.1 = s.1 := by
  unfold zcomb at h
  rcases zbd_inv h with ⟨-, q⟩ | ⟨a1, s1, h1, h⟩
  · cases q
  obtain ⟨_, _, _, -, e1, -⟩ := zcb_ok _ _ _ _ _ _ h1
  by_cases h0 : nx = 0
  · rw [if_pos h0] at h
    cases h
    exact e1
  · rw [if_neg h0] at h
    rcases zbd_inv h with ⟨-, q⟩ | ⟨a2, s2, h2, h⟩
    · cases q
    have e2 : s2.1 = s1.1 := by rw [(zpush_inv h2).2.2]
    rcases zbd_inv h with ⟨-, q⟩ | ⟨a3, s3, h3, h⟩
    · cases q
    cases h
    rw [← e1, ← e2]
    split at h3
    · rw [(zreopen_inv h3).2.2]
    · rw [(zopen_inv h3).2.2.2]
/-- a kept token makes it longer -/
theorem zcp_g {k v : Nat} (hk : 1 ≤ (zw k).length) (h : zcp e k s = some (some v, s')) : s.2.2.2.2.length + 2 ≤ s'.2.2.2.2.length := by
  unfold zcp zc at h
  by_cases t : ztk e s.1 = k
  · rw [if_pos t] at h
    rcases zbd_inv h with ⟨-, q⟩ | ⟨a1, s1, h1, h⟩
    · cases q
    have e1 := (zput_inv h1).2.2
    have e2 := zgr_step _ _ _ h
    rw [e1] at e2
    have e2 : (s.2.2.2.2 ++ zw k ++ [32]).length ≤ s'.2.2.2.2.length := e2
    rw [List.length_append, List.length_append] at e2
    have : [(32 : Int32)].length = 1 := rfl
    omega
  · rw [if_neg t] at h; cases h
theorem zw_pos0 : (List.range 99).all (fun k => decide (1 ≤ (zw k).length)) = true := by decide +kernel
theorem zw_pos {k : Nat} (hk : k < 99) : 1 ≤ (zw k).length := of_decide_eq_true (List.all_eq_true.mp zw_pos0 k (List.mem_range.mpr hk))
theorem zmk_99 : (List.range 104).all (fun k => decide ((qr_en.getD k (0, 0)).2.toNatClampNeg = 0 ∨ k < 99)) = true := by decide +kernel
theorem zops_g {kp mp : Nat} {fam : Nat → Bool} {od : zP} (hlt : ∀ i, ztk e i < 104) (hfam : fam 0 = false) (hod : zgr od) : ∀ (n : Nat) (p : zK), zgr (zops e kp mp fam od n p) := by
  intro n
  induction n with
  | zero => intro p s v s' h; cases h
  | succ n ih =>
    intro p s v s' h
    simp only [zops] at h
    rcases zbd_inv h with ⟨-, q⟩ | ⟨p1, s1, h1, h⟩
    · cases q
    have e1 := zpre_g 42 p s p1 s1 h1
    rcases zbd_inv h with ⟨-, q⟩ | ⟨ma, s4, h2, h⟩
    · cases q
    have e2 := hod _ _ _ h2
    rcases zbd_inv h with ⟨-, q⟩ | ⟨q, s2, h3, h⟩
    · cases q
    have e3 := zcomb_g h3
    have a3 := zcomb_at h3
    by_cases hf : fam (zmk e s2.1) = true
    · rw [if_pos hf] at h
      have h99 : ztk e s2.1 < 99 := by
        rcases of_decide_eq_true (List.all_eq_true.mp zmk_99 (ztk e s2.1) (List.mem_range.mpr (hlt _))) with z | z
        · have : zmk e s2.1 = 0 := z
          rw [this, hfam] at hf; cases hf
        · exact z
      rcases zbd_inv h with ⟨-, q⟩ | ⟨a5, s5, h5, h⟩
      · cases q
      have e5 := zcp_g (zw_pos h99) h5
      split at h
      · cases h
      · have := ih _ _ _ _ h
        omega
    · rw [if_neg hf] at h
      cases h
      rw [a3] at hf
      rw [if_neg hf] at e3
      have := e3.2 rfl
      omega
theorem zgr_pop : zgr zpop := by intro s v s' h; rw [(zpop_inv h).2.2]; exact Nat.le_refl _
theorem zgr_test : zgr ztest := by intro s v s' h; rw [(ztest_inv h).2.2]; exact Nat.le_refl _
theorem zgr_open {st : Nat} : zgr (zopen st) := by
  intro s v s' h
  rw [(zopen_inv h).2.2.2]
  show s.2.2.2.2.length ≤ (s.2.2.2.2.take st ++ [40, 32] ++ s.2.2.2.2.drop st).length
  simp only [List.length_append, List.length_take, List.length_drop, List.length_cons, List.length_nil]
  omega
theorem zgr_sum (hlt : ∀ i, ztk e i < 104) (hpr : zgr pr) : zgr (z_sum e pr) := zops_g hlt rfl hpr zN []
theorem zgr_cmp (hlt : ∀ i, ztk e i < 104) (hpr : zgr pr) (hex : zgr ex) (hqy : zgr qy) : zgr (z_cmp e pr ex qy) := by
  intro s v s' h
  have hs := zgr_sum hlt hpr
  rcases zbd_inv h with ⟨-, q⟩ | ⟨a1, s1, h1, h2⟩
  · cases q
  · have e1 := hs _ _ _ h1
    split at h2
    · refine Nat.le_trans e1 ?_
      refine zgr_q zgr_open (zgr_q (zgr_if (fun s v s' h => ?_) ?_) (zgr_q zgr_put zgr_v)) s1 v s' h2
      · exact zgr_q zgr_cp (zgr_q zgr_test (zgr_q hs zgr_pop)) s v s' h
      · exact zgr_i zgr_ci (zgr_q zgr_ci zgr_cp) (zgr_q zgr_ci (zgr_i zgr_ci (zgr_members hex hqy) (zgr_i zgr_ci (zgr_q zgr_test (zgr_q hs (zgr_q zgr_cp (zgr_q hs zgr_pop)))) (zgr_q zgr_cp (zgr_q zgr_test (zgr_q hs zgr_pop))))))
    · cases h2; exact e1
theorem zsp_g (hlt : ∀ i, ztk e i < 104) : ∀ n b, zgr (zsp e n b) := by
  intro n
  induction n with
  | zero => intro b s v s' h; cases h
  | succ n ih =>
    intro b
    cases b with
    | true => exact zops_g hlt rfl (zgr_cmp hlt (zgr_prim (ih true) (ih false)) (ih true) (ih false)) zN []
    | false => exact zgr_query (ih true)
/-- what begins with a kept token makes it longer -/
theorem zgr_1 {k v : Nat} {f : zP} (hk : k < 99) (hf : zgr f) (h : zq (zcp e k) f s = some (some v, s')) : s.2.2.2.2.length < s'.2.2.2.2.length := by
  rcases zbd_inv h with ⟨-, q⟩ | ⟨a1, s1, h1, h2⟩
  · cases q
  · have := zcp_g (zw_pos hk) h1
    have := hf _ _ _ h2
    omega
theorem zgr_fun1 {v : Nat} (hlt : ∀ i, ztk e i < 104) (hex : zgr ex) (h : z_fun e ex s = some (some v, s')) : s.2.2.2.2.length < s'.2.2.2.2.length := by
  have ha : ∀ {k : Nat} {a : zP}, k < 99 → ztk e s.1 = k → zgr a → z_args e a s = some (some v, s') → s.2.2.2.2.length < s'.2.2.2.2.length := by
    intro k a hk t hg hz
    unfold z_args at hz
    rw [t] at hz
    exact zgr_1 hk (zgr_q zgr_cp (zgr_q hg zgr_cp)) hz
  have hb : ∀ {k : Nat}, k < 99 → ztk e s.1 = k → z_agg e ex s = some (some v, s') → s.2.2.2.2.length < s'.2.2.2.2.length := by
    intro k hk t hz
    unfold z_agg at hz
    rw [t] at hz
    refine zgr_1 hk (zgr_q zgr_cp (zgr_q ?_ zgr_cp)) hz
    split
    · exact zgr_i zgr_ci zgr_v (zgr_q zgr_ci hex)
    · exact zgr_q zgr_ci hex
  unfold z_fun at h
  repeat' split at h
  all_goals first
    | exact ha (by decide) (by assumption) hex h
    | exact ha (by decide) (by assumption) (zgr_exs hex) h
    | exact ha (by decide) (by assumption) (zgr_q hex (zgr_q zgr_cp hex)) h
    | exact ha (by decide) (by assumption) (zgr_q hex (zgr_q zgr_cp (zgr_q hex (zgr_i zgr_ci hex zgr_v)))) h
    | exact hb (by decide) (by assumption) h
    | exact zgr_1 (by decide) (zgr_q zgr_cp (zgr_q hex (zgr_q zgr_cp (zgr_q (zgr_i zgr_ci zgr_v zgr_cp) zgr_cp)))) h
    | cases h
end ZGR
