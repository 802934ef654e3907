/-! THERE IS ALWAYS ROOM: the grammar but expressions. (Printed by wip/whole/pp.py from wip/whole/src.) -/
section ZRS
variable {e : zE} {s s' : zS} {o w a o' w' a' o2 w2 a2 : Nat} {f g c ex qy : zP}
def zoB (k : Nat) : Bool := decide (k < 99) && decide (¬ (k = 82 ∨ k = 10)) && decide (¬ (k = 83 ∨ k = 25))
theorem zoB_o {k : Nat} (h : zoB k = true) : zor k ∧ k < 99 := by
  unfold zoB at h
  rw [Bool.and_eq_true, Bool.and_eq_true] at h
  have h1 := of_decide_eq_true h.1.1
  exact ⟨⟨of_decide_eq_true h.1.2, of_decide_eq_true h.2, by omega⟩, h1⟩
theorem pV {k : Nat} (hE : zge e) (h : zoB k = true := by rfl) : zV e o w o w (zcp e k) := zV_cp hE (zoB_o h).1 (zoB_o h).2
theorem iV {k : Nat} (hE : zge e) (h : zoB k = true := by rfl) : zV e o w o w (zci e k) := zV_ci hE (zoB_o h).1 (zoB_o h).2
theorem ciM {k : Nat} (hE : zge e) (h : zoB k = true := by rfl) : zM e (zci e k) o w a o w a := zM_ci hE (zoB_o h).1 (zoB_o h).2
theorem siV {k : Nat} (hE : zge e) (h : zoB k = true := by rfl) : zV e o w o w (zsi e k) := zV_si hE (zoB_o h).1
theorem zV_op (hE : zge e) : zV e o w (o + 1) w (zcp e 82) := fun _ _ => zM_open hE
theorem zV_cl (hE : zge e) : zV e (o + 1) w o w (zcp e 83) := fun _ _ => zM_close hE (Or.inl rfl)
theorem zM_nm (hE : zge e) : zM e (znm e) o w a o w (a + 6) := by
  intro s hs
  unfold znm zc
  by_cases t : ztk e s.1 = 99
  · obtain ⟨s1, k1, -, k2, -⟩ := zM_tok (u := (zsl e s.1).map zsm) hE hs (by rw [t]; unfold zor; omega) (by
      intro x hx
      obtain ⟨y, -, rfl⟩ := List.mem_map.mp hx
      exact zb_zb _) (by rw [List.length_map]; exact zsl_ln)
    exact ⟨some 0, s1, by rw [if_pos t]; exact k1, k2.2.2.2.2.2, fun _ _ => k2⟩
  · exact ⟨none, s, by rw [if_neg t]; rfl, hs.2.2.2.2.2, fun _ q => by cases q⟩
theorem zss_c {k : Nat} (hf : zss f) (hg : zss g) : zss (zc e k f g) := by
  intro s v s' h hv
  unfold zc at h
  split at h
  · exact hf _ _ _ h hv
  · exact hg _ _ _ h hv
/-! names in brackets -/
theorem zV_names (hE : zge e) : zV e o w o w (z_names e) := zV_q (zV_op hE) (zV_q (zV_nm hE) (zV_q (zV_lp hE (zV_i (iV hE) (zV_q (zV_nm hE) zV_v) zV_v) (zss_i zss_ci zga_ci (zga_q zga_nm zga_v) zss_0)) (zV_cl hE)))
theorem zga_names : zga (z_names e) := zga_q zga_cp (zga_q zga_nm (zga_q (zga_lp (zga_i zga_ci (zga_q zga_nm zga_v) zga_v) _) zga_cp))
theorem zV_brex (hE : zge e) (hx : zV e (o + 1) w (o + 1) w ex) : zV e o w o w (z_brex e ex) := zV_q (zV_op hE) (zV_q hx (zV_cl hE))
theorem zga_brex (hx : zga ex) : zga (z_brex e ex) := zga_q zga_cp (zga_q hx zga_cp)
theorem zV_preset (hE : zge e) : zV e o w o w (z_preset e) := zV_cst hE (zV_i (iV hE) zV_v (zV_q (iV hE) (zV_nu hE)))
theorem zga_preset : zga (z_preset e) := zga_c zga_st (zga_i zga_ci zga_v (zga_q zga_ci zga_nu))
theorem zga_refer : zga (z_refer e) := zga_q zga_nm (zga_i zga_ci (zga_q zga_cp (zga_i zga_ci zga_cp (zga_i zga_ci zga_v zga_cp))) zga_put)
theorem zM_refer (hE : zge e) (ha : 8 ≤ a) : zM e (z_refer e) o w (a + 69) o w a := by
  have h1 : zV e o w o w (zq (zcp e 20) (zi (zci e 67) (zcp e 50) (zi (zci e 9) (zv 0) (zcp e 62)))) := zV_q (pV hE) (zV_i (iV hE) (pV hE) (zV_i (iV hE) zV_v (pV hE)))
  refine zM_q (zV_nm hE (a + 69) (by omega)) (zM_i (ciM hE) (zM_le (a1 := a + 69) (b1 := a) (h1 a ha) (by omega) (Nat.le_refl _)) (zM_put hE (zt_b _ (by decide)) ?_))
  have : (zt 1009).length = 18 := rfl
  omega
theorem zV_option (hE : zge e) (hx : zV e (o + 1) w (o + 1) w ex) : zV e o w o w (z_option e ex) := by
  refine zV_i (iV hE) (zV_q (pV hE) zV_v) (zV_i (iV hE) (zV_q (pV hE) zV_v) (zV_i (iV hE) (zV_q (zV_preset hE) zV_v) (zV_i (iV hE) (zV_q (zV_brex hE hx) zV_v) ?_)))
  intro a ha
  refine zM_ici hE (by unfold zor; omega) (by decide) (zM_q (zM_le (zM_refer hE ha) ?_ (Nat.le_refl _)) zM_v) (ciM hE)
  have : (zw 61).length = 10 := rfl
  omega
theorem zss_option (hx : zga ex) : zss (z_option e ex) := zss_i zss_ci zga_ci (zga_q zga_cp zga_v) (zss_i zss_ci zga_ci (zga_q zga_cp zga_v) (zss_i zss_ci zga_ci (zga_q zga_preset zga_v) (zss_i zss_ci zga_ci (zga_q (zga_brex hx) zga_v) (zss_i zss_ci zga_ci (zga_q zga_refer zga_v) zss_ci))))
theorem zV_type (hE : zge e) : zV e o w o w (z_type e) := zV_i (iV hE) zV_v (pV hE)
theorem zV_elem (hE : zge e) (hx : zV e (o + 1) w (o + 1) w ex) (hg : zga ex) : zV e o w o w (z_elem e ex) := zV_c (zV_q (zV_nm hE) (zV_q (zV_type hE) (zV_lp hE (zV_option hE hx) (zss_option hg)))) (zV_i (iV hE) (zV_brex hE hx) (zV_i (iV hE) (zV_names hE) (zV_q (pV hE) (zV_q (pV hE) (zV_names hE)))))
theorem zss_ga {f : zP} (h : zga f) (hs : zss f) : zga f := h
theorem zga_option (hx : zga ex) : zga (z_option e ex) := zga_i zga_ci (zga_q zga_cp zga_v) (zga_i zga_ci (zga_q zga_cp zga_v) (zga_i zga_ci (zga_q zga_preset zga_v) (zga_i zga_ci (zga_q (zga_brex hx) zga_v) (zga_i zga_ci (zga_q zga_refer zga_v) zga_ci))))
theorem zga_elem (hx : zga ex) : zga (z_elem e ex) := zga_c (zga_q zga_nm (zga_q (zga_i zga_ci zga_v zga_cp) (zga_lp (zga_option hx) _))) (zga_i zga_ci (zga_brex hx) (zga_i zga_ci zga_names (zga_q zga_cp (zga_q zga_cp zga_names))))
theorem zV_table (hE : zge e) (hx : zV e (o + 2) w (o + 2) w ex) (hg : zga ex) : zV e o w o w (z_table e ex) := zV_q (pV hE) (zV_q (zV_nm hE) (zV_q (zV_op hE) (zV_q (zV_lp hE (zV_q (zV_elem hE hx hg) (iV hE)) (zss_q2 (zga_elem hg) zss_ci)) (zV_q (zV_cl hE) zV_v))))
theorem zV_index (hE : zge e) : zV e o w o w (z_index e) := zV_q (iV hE) (zV_q (pV hE) (zV_q (zV_nm hE) (zV_q (pV hE) (zV_q (zV_nm hE) (zV_q (zV_names hE) zV_v)))))
theorem zV_exs (hE : zge e) (hx : zV e o w o w ex) (hg : zga ex) : zV e o w o w (z_exs e ex) := zV_q hx (zV_lp hE (zV_i (iV hE) (zV_q hx zV_v) zV_v) (zss_i zss_ci zga_ci (zga_q hg zga_v) zss_0))
theorem zV_rows (hE : zge e) (hx : zV e (o + 1) w (o + 1) w ex) (hg : zga ex) : zV e o w o w (zlp (zl_rows e ex) zN) := zV_lp hE (zV_q (zV_op hE) (zV_q (zV_exs hE hx hg) (zV_q (zV_cl hE) (iV hE)))) (zss_q1 (zga_q (zga_exs hg) (zga_q zga_cp zga_ci)))
theorem zV_cond (hE : zge e) (hx : zV e o w o w ex) : zV e o w o w (z_cond e ex) := zV_i (iV hE) (zV_q hx zV_v) zV_v
theorem zV_alias (hE : zge e) : zV e o w o w (z_alias e) := zV_i (iV hE) (zV_q (zV_nm hE) zV_v) zV_v
theorem zV_item (hE : zge e) (hx : zV e o w o w ex) : zV e o w o w (z_item e ex) := zV_if (zV_if (zV_if (zV_q (zV_nm hE) (zV_q (pV hE) (pV hE))) (zV_q hx (zV_alias hE))) (zV_q hx (zV_alias hE))) (zV_q hx (zV_alias hE))
theorem zV_items (hE : zge e) (hx : zV e o w o w ex) (hg : zga ex) : zV e o w o w (z_items e ex) := zV_lp hE (zV_q (zV_item hE hx) (iV hE)) (zss_q2 (zga_item hg) zss_ci)
theorem zV_source (hE : zge e) : zV e o w o w (z_source e) := zV_q (zV_nm hE) (zV_alias hE)
theorem zV_on (hE : zge e) (hx : zV e o w o w ex) : zV e o w o w (z_on e ex) := zV_q (zV_source hE) (zV_q (pV hE) (zV_q hx zV_v))
theorem zV_join (hE : zge e) (hx : zV e o w o w ex) : zV e o w o w (z_join e ex) := by
  intro a ha
  have hon := zV_on hE hx
  refine zM_isi hE (by unfold zor; omega) ?_ (zV_i (iV hE) (zV_q (siV hE) (zV_q (pV hE) hon)) (zV_i (iV hE) (zV_q (pV hE) (zV_q (zV_source hE) zV_v)) (zV_i (siV hE) (zV_q (pV hE) hon) (zV_c (zV_q (pV hE) hon) zV_v))) a ha)
  refine zM_q (zM_put (a' := a - 3) hE (zt_b _ (by decide)) ?_) (zM_q (zM_q (zM_nm hE) (zM_le (zV_alias hE a ha) ?_ (Nat.le_refl _))) zM_v)
  · have : (zt 1006).length = 10 := rfl
    omega
  · omega
theorem zss_join (hg : zga ex) : zss (z_join e ex) := zss_i zss_si zga_si (zga_q zga_put (zga_q zga_source zga_v)) (zss_i zss_ci zga_ci (zga_q zga_si (zga_q zga_cp (zga_on hg))) (zss_i zss_ci zga_ci (zga_q zga_cp (zga_q zga_source zga_v)) (zss_i zss_si zga_si (zga_q zga_cp (zga_on hg)) (zss_c (zss_q1 (zga_on hg)) zss_0))))
theorem zV_orders (hE : zge e) (hx : zV e o w o w ex) (hg : zga ex) : zV e o w o w (z_orders e ex) := zV_lp hE (zV_q (zV_q hx (zV_i (siV hE) zV_v (zV_q (iV hE) zV_v))) (iV hE)) (zss_q2 (zga_q hg (zga_i zga_si zga_v (zga_q zga_ci zga_v))) zss_ci)
/-- a query, behind its first word -/
def z_qrest (e : zE) (ex : zP) : zP := zq (zci e 22) (zq (zi (zci e 89) (zv 0) (z_items e ex)) (zq (zi (zci e 28) (z_sources e ex) (zv 0)) (zq (z_cond e ex) (zq (zi (zci e 29) (zq (zcp e 8) (z_exs e ex)) (zv 0)) (zq (zi (zci e 30) (zq ex (zv 0)) (zv 0)) (zq (zi (zci e 55) (zq (zcp e 8) (z_orders e ex)) (zv 0)) (zi (zci e 43) (zq (znu e) (zi (zci e 52) (zq (znu e) (zv 0)) (zv 0))) (zv 0))))))))
theorem zV_qrest (hE : zge e) (hx : zV e o w o w ex) (hg : zga ex) : zV e o w o w (z_qrest e ex) := zV_q (iV hE) (zV_q (zV_i (iV hE) zV_v (zV_items hE hx hg)) (zV_q (zV_i (iV hE) (zV_q (zV_source hE) (zV_lp hE (zV_join hE hx) (zss_join hg))) zV_v) (zV_q (zV_cond hE hx) (zV_q (zV_i (iV hE) (zV_q (pV hE) (zV_exs hE hx hg)) zV_v) (zV_q (zV_i (iV hE) (zV_q hx zV_v) zV_v) (zV_q (zV_i (iV hE) (zV_q (pV hE) (zV_orders hE hx hg)) zV_v) (zV_i (iV hE) (zV_q (zV_nu hE) (zV_i (iV hE) (zV_q (zV_nu hE) zV_v) zV_v)) zV_v)))))))
theorem zV_query (hE : zge e) (hx : zV e o w o w ex) (hg : zga ex) : zV e o w o w (z_query e ex) := zV_q (f := zcp e 65) (g := z_qrest e ex) (pV hE) (zV_qrest hE hx hg)
/-! the first word gives what there is to spare -/
def zST (e : zE) (f : zP) : Prop := zM e f 0 0 0 0 0 8
theorem zST_q {k : Nat} (hE : zge e) (hg : zV e 0 0 0 0 g) (h : zoB k = true := by rfl) (h4 : 2 ≤ (zw k).length := by decide) : zST e (zq (zcp e k) g) := zM_q (zM_le (zM_cp hE (zoB_o h).1 (zoB_o h).2) (Nat.le_refl _) (show 8 ≤ 0 + 7 * (zw k).length - 1 by omega)) (hg 8 (Nat.le_refl _))
theorem zST_stmt (hE : zge e) (hx : ∀ o, zV e o 0 o 0 ex) (hg : zga ex) (hq : zST e qy) (hq0 : zV e 0 0 0 0 qy) : zST e (z_stmt e ex qy) := by
  refine zM_if (zST_q hE (zV_c (zV_table hE (hx 2) hg) (zV_index hE))) ?_
  refine zM_if (zST_q hE (zV_c (zV_q (pV hE) (zV_q (zV_nm hE) zV_v)) (zV_q (pV hE) (zV_q (zV_nm hE) zV_v)))) ?_
  refine zM_if (zST_q hE (zV_q (pV hE) (zV_q (zV_nm hE) (zV_q (zV_c (zV_names hE) zV_v) (zV_c (zV_q hq0 zV_v) (zV_q (pV hE) (zV_q (zV_rows hE (hx 1) hg) zV_v))))))) ?_
  refine zM_if (zST_q hE (zV_q (zV_nm hE) (zV_q (pV hE) (zV_q (zV_lp hE (zV_q (zV_nm hE) (zV_q (pV hE) (zV_q (hx 0) (iV hE)))) (zss_q2 zga_nm (zss_q2 zga_cp (zss_q2 hg zss_ci)))) (zV_q (zV_cond hE (hx 0)) zV_v))))) ?_
  refine zM_if (zST_q hE (zV_q (pV hE) (zV_q (zV_nm hE) (zV_q (zV_cond hE (hx 0)) zV_v)))) ?_
  refine zM_if (zM_q hq zM_v) ?_
  refine zM_if ?_ ?_
  · refine zM_q (zM_le (a1 := 0) (b1 := 34) (zM_cp hE (zoB_o rfl).1 (zoB_o rfl).2) (Nat.le_refl _) (by decide)) (zM_q (zM_i (ciM hE) (zM_le (a1 := 34) (b1 := 8) (zV_i (iV hE) zV_v (pV hE) 8 (Nat.le_refl _)) (by omega) (Nat.le_refl _)) (zM_i (ciM hE) (zM_le (a := 8) (a1 := 34) (b1 := 8) zM_v (by omega) (Nat.le_refl _)) (zM_put hE (zt_b _ (by decide)) ?_))) zM_v)
    have : (zt 1010).length = 12 := rfl
    omega
  refine zM_if (zST_q hE (zV_i (iV hE) (zV_q (zV_nu hE) zV_v) zV_v)) ?_
  refine zM_if (zST_q hE (zV_i (iV hE) (zV_q (zV_nm hE) zV_v) (zV_i (iV hE) (zV_q (zV_nu hE) zV_v) zV_v))) ?_
  refine zM_if (zST_q hE (zV_q (zV_nm hE) zV_v)) ?_
  refine zM_if (zST_q hE (zV_q (pV hE) (zV_q (zV_nm hE) (zV_q (pV hE) (zV_q (zV_i (iV hE) zV_v (pV hE)) (zV_q (pV hE) zV_v)))))) ?_
  exact zM_if (zST_q hE (zV_q (zV_nu hE) zV_v)) zM_f
end ZRS
