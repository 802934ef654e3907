/-! THE CLASS COUNTS NAMES: all. (Printed by wip/whole/pp.py from wip/whole/src.) -/
section CNP
variable {L : Nat} {xs : Nat → Int32} {d : Nat} {h : ai_H} {r b len : Nat} {t : List Int32}
abbrev zbg (bf c : Int32) : Prop := bf = 32 ∧ (c = 95 ∨ (¬ c < 97 ∧ ¬ 122 < c))
def zqd (c : Int32) (qd : Bool) : Bool := if c = 39 then !qd else qd
/-- where names begin -/
def zscn (t : List Int32) : Nat → Nat → Int32 → Bool → List Nat
  | 0, _, _, _ => []
  | n + 1, i, bf, qd => if zbg bf (zat t i) ∧ zqd (zat t i) qd = false then i :: zscn t n (i + 1) (zat t i) (zqd (zat t i) qd) else zscn t n (i + 1) (zat t i) (zqd (zat t i) qd)
def zqi (qd : Bool) : Int32 := if qd = true then 1 else 0
theorem zpl_up {M p : Nat} {sn : Nat → Int32} (h : zpl M (fun u => u < p) sn) : zpl M (fun u => u < p + 1) sn := fun j hj => by
  rcases h j hj with z | ⟨u, z1, z2⟩
  · exact Or.inl z
  · exact Or.inr ⟨u, z1, Nat.lt_succ_of_lt z2⟩
theorem qrow_set {sb : Nat} {c : ai_C} {n : Nat × Nat} (hr : qrow h r b len t) (h1 : sb ≠ r) (h2 : sb ≠ b) : qrow (h.1.set sb c, n) r b len t := by
  obtain ⟨f, a1, a2, a3⟩ := hr
  exact ⟨f, q_stay a1 h1, q_stay a2 h2, a3⟩
/-- Names.different, behind clearSlots -/
theorem q_diffl (hr : qrow h r b len t) (hl : t.length ≤ 1048576) {sb k k1 : Nat} (h12 : h.1[12]? = some (ai_obj 2 [.ref sb])) (hk : k ≤ k1) (hk1 : k1 ≤ 20) {sn0 : Nat → Int32} (hsb : h.1[sb]? = some (ai_num .int (2 ^ k1) sn0)) (hlt : t.length < 2 ^ k) (d1 : sb ≠ r) (d2 : sb ≠ b) (d3 : sb ≠ 12) : ∀ (m i n : Nat) (bf : Int32) (qd : Bool) (sn : Nat → Int32) (S : List (List Int32)) (x7 x8 : Option Value), t.length - i = m → i ≤ t.length → ztb (2 ^ k) 0 (zna t) (zHc k) sn S → zpl (2 ^ k) (fun u => u < i) sn → ∃ sn', qg L xs (d + 4) qm_98 13 [some (.ref 12), some (.ref r), some (.int (nI (2 ^ k))), some (.int (nI n)), some (.int bf), some (.int (zqi qd)), some (.int (nI i)), x7, x8] [] (h.1.set sb (ai_num .int (2 ^ k1) sn), h.2) (.inl (some (.int (nI (n + zdn S ((zscn t m i bf qd).map (zna t)))))), (h.1.set sb (ai_num .int (2 ^ k1) sn'), h.2)) := by
  intro m
  induction m with
  | zero =>
    intro i n bf qd sn S x7 x8 hm hi hb hp
    have hr1 := qrow_set (c := ai_num .int (2 ^ k1) sn) (n := h.2) hr d1 d2
    refine ⟨sn, ?_⟩
    show qg L xs (d + 4) qm_98 13 _ _ _ (.inl (some (.int (nI n))), _)
    refine qg_pls (n := 2) (k' := 15) (lo' := [some (.ref 12), some (.ref r), some (.int (nI (2 ^ k))), some (.int (nI n)), some (.int bf), some (.int (zqi qd)), some (.int (nI i)), x7, x8]) (S' := [.ref r, .int (nI i)]) (h' := (h.1.set sb (ai_num .int (2 ^ k1) sn), h.2)) rfl ?_
    refine qg_call (v := some (.int (nI t.length))) (h' := (h.1.set sb (ai_num .int (2 ^ k1) sn), h.2)) (as := [.ref r]) rfl rfl rfl rfl rfl rfl rfl (ai_rcv1 rfl rfl (qrow_obj hr1)) ((qe_up (by omega) (q_size (d := d) hr1))) ?_
    show qg L xs _ qm_98 16 [some (.ref 12), some (.ref r), some (.int (nI (2 ^ k))), some (.int (nI n)), some (.int bf), some (.int (zqi qd)), some (.int (nI i)), x7, x8] [.int (nI t.length), .int (nI i)] (h.1.set sb (ai_num .int (2 ^ k1) sn), h.2) _
    refine qg_icmp true rfl (qc_geT (by omega) (by omega)) rfl ?_
    refine qg_pls (n := 1) (k' := 62) (lo' := [some (.ref 12), some (.ref r), some (.int (nI (2 ^ k))), some (.int (nI n)), some (.int bf), some (.int (zqi qd)), some (.int (nI i)), x7, x8]) (S' := [.int (nI n)]) (h' := (h.1.set sb (ai_num .int (2 ^ k1) sn), h.2)) rfl ?_
    exact qg_ret5 rfl rfl rfl
  | succ m ih =>
    intro i n bf qd sn S x7 x8 hm hi hb hp
    have hr1 := qrow_set (c := ai_num .int (2 ^ k1) sn) (n := h.2) hr d1 d2
    have hnew := q_isNew (L := L) (xs := xs) (d := d) hr1 hl (q_stay h12 d3) hk hk1 (q_set hsb) hlt (p := i) (by omega) hb hp
    simp only [zscn]
    have r1 : ∀ o, qg L xs (d + 4) qm_98 21 [some (.ref 12), some (.ref r), some (.int (nI (2 ^ k))), some (.int (nI n)), some (.int bf), some (.int (zqi qd)), some (.int (nI i)), some (.int (zat t i)), x8] [] (h.1.set sb (ai_num .int (2 ^ k1) sn), h.2) o → qg L xs (d + 4) qm_98 13 [some (.ref 12), some (.ref r), some (.int (nI (2 ^ k))), some (.int (nI n)), some (.int bf), some (.int (zqi qd)), some (.int (nI i)), x7, x8] [] (h.1.set sb (ai_num .int (2 ^ k1) sn), h.2) o := by
      intro o hg
      refine qg_pls (n := 2) (k' := 15) (lo' := [some (.ref 12), some (.ref r), some (.int (nI (2 ^ k))), some (.int (nI n)), some (.int bf), some (.int (zqi qd)), some (.int (nI i)), x7, x8]) (S' := [.ref r, .int (nI i)]) (h' := (h.1.set sb (ai_num .int (2 ^ k1) sn), h.2)) rfl ?_
      refine qg_call (v := some (.int (nI t.length))) (h' := (h.1.set sb (ai_num .int (2 ^ k1) sn), h.2)) (as := [.ref r]) rfl rfl rfl rfl rfl rfl rfl (ai_rcv1 rfl rfl (qrow_obj hr1)) ((qe_up (by omega) (q_size (d := d) hr1))) ?_
      show qg L xs _ qm_98 16 [some (.ref 12), some (.ref r), some (.int (nI (2 ^ k))), some (.int (nI n)), some (.int bf), some (.int (zqi qd)), some (.int (nI i)), x7, x8] [.int (nI t.length), .int (nI i)] (h.1.set sb (ai_num .int (2 ^ k1) sn), h.2) _
      refine qg_icmp false rfl (qc_geF (by omega) (by omega)) rfl ?_
      refine qg_pls (n := 2) (k' := 19) (lo' := [some (.ref 12), some (.ref r), some (.int (nI (2 ^ k))), some (.int (nI n)), some (.int bf), some (.int (zqi qd)), some (.int (nI i)), x7, x8]) (S' := [.int (nI i), .ref r]) (h' := (h.1.set sb (ai_num .int (2 ^ k1) sn), h.2)) rfl ?_
      refine qg_call (v := some (.int (zat t i))) (h' := (h.1.set sb (ai_num .int (2 ^ k1) sn), h.2)) (as := [.ref r, .int (nI i)]) rfl rfl rfl rfl rfl rfl rfl (ai_rcv1 rfl rfl (qrow_obj hr1)) ((qe_up (by omega) (q_at (d := d) hr1 (by omega)))) ?_
      show qg L xs _ qm_98 20 [some (.ref 12), some (.ref r), some (.int (nI (2 ^ k))), some (.int (nI n)), some (.int bf), some (.int (zqi qd)), some (.int (nI i)), x7, x8] [.int (zat t i)] (h.1.set sb (ai_num .int (2 ^ k1) sn), h.2) _
      refine qg_pls (n := 1) (k' := 21) (lo' := [some (.ref 12), some (.ref r), some (.int (nI (2 ^ k))), some (.int (nI n)), some (.int bf), some (.int (zqi qd)), some (.int (nI i)), some (.int (zat t i)), x8]) (S' := []) (h' := (h.1.set sb (ai_num .int (2 ^ k1) sn), h.2)) rfl ?_
      exact hg
    generalize hc : zat t i = c at r1 ⊢
    have r2 : ∀ o, qg L xs (d + 4) qm_98 30 [some (.ref 12), some (.ref r), some (.int (nI (2 ^ k))), some (.int (nI n)), some (.int bf), some (.int (zqi (zqd c qd))), some (.int (nI i)), some (.int c), x8] [] (h.1.set sb (ai_num .int (2 ^ k1) sn), h.2) o → qg L xs (d + 4) qm_98 21 [some (.ref 12), some (.ref r), some (.int (nI (2 ^ k))), some (.int (nI n)), some (.int bf), some (.int (zqi qd)), some (.int (nI i)), some (.int c), x8] [] (h.1.set sb (ai_num .int (2 ^ k1) sn), h.2) o := by
      intro o hg
      by_cases h39 : c = 39
      · rw [show zqd c qd = !qd from if_pos h39] at hg
        cases qd with
        | true =>
          refine qg_pls (n := 2) (k' := 23) (lo' := [some (.ref 12), some (.ref r), some (.int (nI (2 ^ k))), some (.int (nI n)), some (.int bf), some (.int (zqi true)), some (.int (nI i)), some (.int c), x8]) (S' := [.int 39, .int c]) (h' := (h.1.set sb (ai_num .int (2 ^ k1) sn), h.2)) rfl ?_
          refine qg_icmp false rfl ((qb_neF h39)) rfl ?_
          refine qg_pls (n := 1) (k' := 25) (lo' := [some (.ref 12), some (.ref r), some (.int (nI (2 ^ k))), some (.int (nI n)), some (.int bf), some (.int (zqi true)), some (.int (nI i)), some (.int c), x8]) (S' := [.int (zqi true)]) (h' := (h.1.set sb (ai_num .int (2 ^ k1) sn), h.2)) rfl ?_
          refine qg_if true rfl (rfl) rfl ?_
          refine qg_pls (n := 2) (k' := 30) (lo' := [some (.ref 12), some (.ref r), some (.int (nI (2 ^ k))), some (.int (nI n)), some (.int bf), some (.int 0), some (.int (nI i)), some (.int c), x8]) (S' := []) (h' := (h.1.set sb (ai_num .int (2 ^ k1) sn), h.2)) rfl ?_
          exact hg
        | false =>
          refine qg_pls (n := 2) (k' := 23) (lo' := [some (.ref 12), some (.ref r), some (.int (nI (2 ^ k))), some (.int (nI n)), some (.int bf), some (.int (zqi false)), some (.int (nI i)), some (.int c), x8]) (S' := [.int 39, .int c]) (h' := (h.1.set sb (ai_num .int (2 ^ k1) sn), h.2)) rfl ?_
          refine qg_icmp false rfl ((qb_neF h39)) rfl ?_
          refine qg_pls (n := 1) (k' := 25) (lo' := [some (.ref 12), some (.ref r), some (.int (nI (2 ^ k))), some (.int (nI n)), some (.int bf), some (.int (zqi false)), some (.int (nI i)), some (.int c), x8]) (S' := [.int (zqi false)]) (h' := (h.1.set sb (ai_num .int (2 ^ k1) sn), h.2)) rfl ?_
          refine qg_if false rfl (rfl) rfl ?_
          refine qg_pls (n := 3) (k' := 30) (lo' := [some (.ref 12), some (.ref r), some (.int (nI (2 ^ k))), some (.int (nI n)), some (.int bf), some (.int 1), some (.int (nI i)), some (.int c), x8]) (S' := []) (h' := (h.1.set sb (ai_num .int (2 ^ k1) sn), h.2)) rfl ?_
          exact hg
      · rw [show zqd c qd = qd from if_neg h39] at hg
        refine qg_pls (n := 2) (k' := 23) (lo' := [some (.ref 12), some (.ref r), some (.int (nI (2 ^ k))), some (.int (nI n)), some (.int bf), some (.int (zqi qd)), some (.int (nI i)), some (.int c), x8]) (S' := [.int 39, .int c]) (h' := (h.1.set sb (ai_num .int (2 ^ k1) sn), h.2)) rfl ?_
        refine qg_icmp true rfl ((qb_neT h39)) rfl ?_
        exact hg
    have r44 : ∀ o, ¬ zbg bf c → qg L xs (d + 4) qm_98 46 [some (.ref 12), some (.ref r), some (.int (nI (2 ^ k))), some (.int (nI n)), some (.int bf), some (.int (zqi (zqd c qd))), some (.int (nI i)), some (.int c), some (.int (if zbg bf c then 1 else 0))] [] (h.1.set sb (ai_num .int (2 ^ k1) sn), h.2) o → qg L xs (d + 4) qm_98 44 [some (.ref 12), some (.ref r), some (.int (nI (2 ^ k))), some (.int (nI n)), some (.int bf), some (.int (zqi (zqd c qd))), some (.int (nI i)), some (.int c), x8] [] (h.1.set sb (ai_num .int (2 ^ k1) sn), h.2) o := by
      intro o hz hg
      rw [if_neg hz] at hg
      refine qg_pls (n := 2) (k' := 46) (lo' := [some (.ref 12), some (.ref r), some (.int (nI (2 ^ k))), some (.int (nI n)), some (.int bf), some (.int (zqi (zqd c qd))), some (.int (nI i)), some (.int c), some (.int 0)]) (S' := []) (h' := (h.1.set sb (ai_num .int (2 ^ k1) sn), h.2)) rfl ?_
      exact hg
    have r42 : ∀ o, zbg bf c → qg L xs (d + 4) qm_98 46 [some (.ref 12), some (.ref r), some (.int (nI (2 ^ k))), some (.int (nI n)), some (.int bf), some (.int (zqi (zqd c qd))), some (.int (nI i)), some (.int c), some (.int (if zbg bf c then 1 else 0))] [] (h.1.set sb (ai_num .int (2 ^ k1) sn), h.2) o → qg L xs (d + 4) qm_98 42 [some (.ref 12), some (.ref r), some (.int (nI (2 ^ k))), some (.int (nI n)), some (.int bf), some (.int (zqi (zqd c qd))), some (.int (nI i)), some (.int c), x8] [] (h.1.set sb (ai_num .int (2 ^ k1) sn), h.2) o := by
      intro o hz hg
      rw [if_pos hz] at hg
      refine qg_pls (n := 3) (k' := 46) (lo' := [some (.ref 12), some (.ref r), some (.int (nI (2 ^ k))), some (.int (nI n)), some (.int bf), some (.int (zqi (zqd c qd))), some (.int (nI i)), some (.int c), some (.int 1)]) (S' := []) (h' := (h.1.set sb (ai_num .int (2 ^ k1) sn), h.2)) rfl ?_
      exact hg
    have r3 : ∀ o, qg L xs (d + 4) qm_98 46 [some (.ref 12), some (.ref r), some (.int (nI (2 ^ k))), some (.int (nI n)), some (.int bf), some (.int (zqi (zqd c qd))), some (.int (nI i)), some (.int c), some (.int (if zbg bf c then 1 else 0))] [] (h.1.set sb (ai_num .int (2 ^ k1) sn), h.2) o → qg L xs (d + 4) qm_98 30 [some (.ref 12), some (.ref r), some (.int (nI (2 ^ k))), some (.int (nI n)), some (.int bf), some (.int (zqi (zqd c qd))), some (.int (nI i)), some (.int c), x8] [] (h.1.set sb (ai_num .int (2 ^ k1) sn), h.2) o := by
      intro o hg
      by_cases b1 : bf = 32
      · by_cases b2 : c = 95
        · have hz := r42 o ⟨b1, Or.inl b2⟩ hg
          refine qg_pls (n := 2) (k' := 32) (lo' := [some (.ref 12), some (.ref r), some (.int (nI (2 ^ k))), some (.int (nI n)), some (.int bf), some (.int (zqi (zqd c qd))), some (.int (nI i)), some (.int c), x8]) (S' := [.int 32, .int bf]) (h' := (h.1.set sb (ai_num .int (2 ^ k1) sn), h.2)) rfl ?_
          refine qg_icmp false rfl ((qb_neF b1)) rfl ?_
          refine qg_pls (n := 2) (k' := 35) (lo' := [some (.ref 12), some (.ref r), some (.int (nI (2 ^ k))), some (.int (nI n)), some (.int bf), some (.int (zqi (zqd c qd))), some (.int (nI i)), some (.int c), x8]) (S' := [.int 95, .int c]) (h' := (h.1.set sb (ai_num .int (2 ^ k1) sn), h.2)) rfl ?_
          refine qg_icmp true rfl ((qb_eqT b2)) rfl ?_
          exact hz
        · by_cases b3 : c < 97
          · have hz := r44 o (fun q => q.2.elim b2 (fun z => z.1 b3)) hg
            refine qg_pls (n := 2) (k' := 32) (lo' := [some (.ref 12), some (.ref r), some (.int (nI (2 ^ k))), some (.int (nI n)), some (.int bf), some (.int (zqi (zqd c qd))), some (.int (nI i)), some (.int c), x8]) (S' := [.int 32, .int bf]) (h' := (h.1.set sb (ai_num .int (2 ^ k1) sn), h.2)) rfl ?_
            refine qg_icmp false rfl ((qb_neF b1)) rfl ?_
            refine qg_pls (n := 2) (k' := 35) (lo' := [some (.ref 12), some (.ref r), some (.int (nI (2 ^ k))), some (.int (nI n)), some (.int bf), some (.int (zqi (zqd c qd))), some (.int (nI i)), some (.int c), x8]) (S' := [.int 95, .int c]) (h' := (h.1.set sb (ai_num .int (2 ^ k1) sn), h.2)) rfl ?_
            refine qg_icmp false rfl ((qb_eqF b2)) rfl ?_
            refine qg_pls (n := 2) (k' := 38) (lo' := [some (.ref 12), some (.ref r), some (.int (nI (2 ^ k))), some (.int (nI n)), some (.int bf), some (.int (zqi (zqd c qd))), some (.int (nI i)), some (.int c), x8]) (S' := [.int 97, .int c]) (h' := (h.1.set sb (ai_num .int (2 ^ k1) sn), h.2)) rfl ?_
            refine qg_icmp true rfl ((qb_ltT b3)) rfl ?_
            exact hz
          · by_cases b4 : 122 < c
            · have hz := r44 o (fun q => q.2.elim b2 (fun z => z.2 b4)) hg
              refine qg_pls (n := 2) (k' := 32) (lo' := [some (.ref 12), some (.ref r), some (.int (nI (2 ^ k))), some (.int (nI n)), some (.int bf), some (.int (zqi (zqd c qd))), some (.int (nI i)), some (.int c), x8]) (S' := [.int 32, .int bf]) (h' := (h.1.set sb (ai_num .int (2 ^ k1) sn), h.2)) rfl ?_
              refine qg_icmp false rfl ((qb_neF b1)) rfl ?_
              refine qg_pls (n := 2) (k' := 35) (lo' := [some (.ref 12), some (.ref r), some (.int (nI (2 ^ k))), some (.int (nI n)), some (.int bf), some (.int (zqi (zqd c qd))), some (.int (nI i)), some (.int c), x8]) (S' := [.int 95, .int c]) (h' := (h.1.set sb (ai_num .int (2 ^ k1) sn), h.2)) rfl ?_
              refine qg_icmp false rfl ((qb_eqF b2)) rfl ?_
              refine qg_pls (n := 2) (k' := 38) (lo' := [some (.ref 12), some (.ref r), some (.int (nI (2 ^ k))), some (.int (nI n)), some (.int bf), some (.int (zqi (zqd c qd))), some (.int (nI i)), some (.int c), x8]) (S' := [.int 97, .int c]) (h' := (h.1.set sb (ai_num .int (2 ^ k1) sn), h.2)) rfl ?_
              refine qg_icmp false rfl ((qb_ltF b3)) rfl ?_
              refine qg_pls (n := 2) (k' := 41) (lo' := [some (.ref 12), some (.ref r), some (.int (nI (2 ^ k))), some (.int (nI n)), some (.int bf), some (.int (zqi (zqd c qd))), some (.int (nI i)), some (.int c), x8]) (S' := [.int 122, .int c]) (h' := (h.1.set sb (ai_num .int (2 ^ k1) sn), h.2)) rfl ?_
              refine qg_icmp true rfl ((qb_gtT b4)) rfl ?_
              exact hz
            · have hz := r42 o ⟨b1, Or.inr ⟨b3, b4⟩⟩ hg
              refine qg_pls (n := 2) (k' := 32) (lo' := [some (.ref 12), some (.ref r), some (.int (nI (2 ^ k))), some (.int (nI n)), some (.int bf), some (.int (zqi (zqd c qd))), some (.int (nI i)), some (.int c), x8]) (S' := [.int 32, .int bf]) (h' := (h.1.set sb (ai_num .int (2 ^ k1) sn), h.2)) rfl ?_
              refine qg_icmp false rfl ((qb_neF b1)) rfl ?_
              refine qg_pls (n := 2) (k' := 35) (lo' := [some (.ref 12), some (.ref r), some (.int (nI (2 ^ k))), some (.int (nI n)), some (.int bf), some (.int (zqi (zqd c qd))), some (.int (nI i)), some (.int c), x8]) (S' := [.int 95, .int c]) (h' := (h.1.set sb (ai_num .int (2 ^ k1) sn), h.2)) rfl ?_
              refine qg_icmp false rfl ((qb_eqF b2)) rfl ?_
              refine qg_pls (n := 2) (k' := 38) (lo' := [some (.ref 12), some (.ref r), some (.int (nI (2 ^ k))), some (.int (nI n)), some (.int bf), some (.int (zqi (zqd c qd))), some (.int (nI i)), some (.int c), x8]) (S' := [.int 97, .int c]) (h' := (h.1.set sb (ai_num .int (2 ^ k1) sn), h.2)) rfl ?_
              refine qg_icmp false rfl ((qb_ltF b3)) rfl ?_
              refine qg_pls (n := 2) (k' := 41) (lo' := [some (.ref 12), some (.ref r), some (.int (nI (2 ^ k))), some (.int (nI n)), some (.int bf), some (.int (zqi (zqd c qd))), some (.int (nI i)), some (.int c), x8]) (S' := [.int 122, .int c]) (h' := (h.1.set sb (ai_num .int (2 ^ k1) sn), h.2)) rfl ?_
              refine qg_icmp false rfl ((qb_gtF b4)) rfl ?_
              exact hz
      · have hz := r44 o (fun q => b1 q.1) hg
        refine qg_pls (n := 2) (k' := 32) (lo' := [some (.ref 12), some (.ref r), some (.int (nI (2 ^ k))), some (.int (nI n)), some (.int bf), some (.int (zqi (zqd c qd))), some (.int (nI i)), some (.int c), x8]) (S' := [.int 32, .int bf]) (h' := (h.1.set sb (ai_num .int (2 ^ k1) sn), h.2)) rfl ?_
        refine qg_icmp true rfl ((qb_neT b1)) rfl ?_
        exact hz
    have r57 : ∀ (sn2 : Nat → Int32) (n2 : Nat) (x : Value) (o : ai_O), qg L xs (d + 4) qm_98 13 [some (.ref 12), some (.ref r), some (.int (nI (2 ^ k))), some (.int (nI n2)), some (.int c), some (.int (zqi (zqd c qd))), some (.int (nI (i + 1))), some (.int c), some x] [] (h.1.set sb (ai_num .int (2 ^ k1) sn2), h.2) o → qg L xs (d + 4) qm_98 57 [some (.ref 12), some (.ref r), some (.int (nI (2 ^ k))), some (.int (nI n2)), some (.int bf), some (.int (zqi (zqd c qd))), some (.int (nI i)), some (.int c), some x] [] (h.1.set sb (ai_num .int (2 ^ k1) sn2), h.2) o := by
      intro sn2 n2 x o hg
      refine qg_pls (n := 4) (k' := 13) (lo' := [some (.ref 12), some (.ref r), some (.int (nI (2 ^ k))), some (.int (nI n2)), some (.int c), some (.int (zqi (zqd c qd))), some (.int ((nI i) + 1)), some (.int c), some (x)]) (S' := []) (h' := (h.1.set sb (ai_num .int (2 ^ k1) sn2), h.2)) rfl ?_
      rw [nI_1]
      exact hg
    by_cases hbg : zbg bf c ∧ zqd c qd = false
    · rw [if_pos hbg]
      obtain ⟨sn2, h2, k1', k2, k3, k4⟩ := hnew
      have k2 : h2 = (h.1.set sb (ai_num .int (2 ^ k1) sn2), h.2) := by rw [k2]; show (List.set (List.set h.1 sb _) sb _, _) = _; rw [List.set_set]
      subst k2
      have r46 : ∀ o, qg L xs (d + 4) qm_98 55 [some (.ref 12), some (.ref r), some (.int (nI (2 ^ k))), some (.int (nI n)), some (.int bf), some (.int (zqi (zqd c qd))), some (.int (nI i)), some (.int c), some (.int 1)] [.int (if zna t i ∈ S then 0 else 1)] (h.1.set sb (ai_num .int (2 ^ k1) sn2), h.2) o → qg L xs (d + 4) qm_98 46 [some (.ref 12), some (.ref r), some (.int (nI (2 ^ k))), some (.int (nI n)), some (.int bf), some (.int (zqi (zqd c qd))), some (.int (nI i)), some (.int c), some (.int (if zbg bf c then 1 else 0))] [] (h.1.set sb (ai_num .int (2 ^ k1) sn), h.2) o := by
        intro o hg
        rw [if_pos hbg.1]
        rw [hbg.2] at hg ⊢
        refine qg_pls (n := 1) (k' := 47) (lo' := [some (.ref 12), some (.ref r), some (.int (nI (2 ^ k))), some (.int (nI n)), some (.int bf), some (.int (zqi false)), some (.int (nI i)), some (.int c), some (.int 1)]) (S' := [.int 1]) (h' := (h.1.set sb (ai_num .int (2 ^ k1) sn), h.2)) rfl ?_
        refine qg_if false rfl (rfl) rfl ?_
        refine qg_pls (n := 1) (k' := 49) (lo' := [some (.ref 12), some (.ref r), some (.int (nI (2 ^ k))), some (.int (nI n)), some (.int bf), some (.int (zqi false)), some (.int (nI i)), some (.int c), some (.int 1)]) (S' := [.int (zqi false)]) (h' := (h.1.set sb (ai_num .int (2 ^ k1) sn), h.2)) rfl ?_
        refine qg_if false rfl (rfl) rfl ?_
        refine qg_pls (n := 4) (k' := 54) (lo' := [some (.ref 12), some (.ref r), some (.int (nI (2 ^ k))), some (.int (nI n)), some (.int bf), some (.int (zqi false)), some (.int (nI i)), some (.int c), some (.int 1)]) (S' := [.int (nI (2 ^ k)), .int (nI i), .ref r, .ref 12]) (h' := (h.1.set sb (ai_num .int (2 ^ k1) sn), h.2)) rfl ?_
        refine qg_call (v := some (.int (if zna t i ∈ S then 0 else 1))) (h' := (h.1.set sb (ai_num .int (2 ^ k1) sn2), h.2)) (as := [.ref 12, .ref r, .int (nI i), .int (nI (2 ^ k))]) rfl rfl rfl rfl rfl rfl rfl (ai_rcv1 rfl rfl (q_stay h12 d3)) ((qe_up (by omega) k1')) ?_
        show qg L xs _ qm_98 55 [some (.ref 12), some (.ref r), some (.int (nI (2 ^ k))), some (.int (nI n)), some (.int bf), some (.int (zqi false)), some (.int (nI i)), some (.int c), some (.int 1)] [.int (if zna t i ∈ S then 0 else 1)] (h.1.set sb (ai_num .int (2 ^ k1) sn2), h.2) _
        exact hg
      by_cases hS : zna t i ∈ S
      · rw [if_pos hS] at k3 r46
        obtain ⟨sn3, k5⟩ := ih (i + 1) n c (zqd c qd) sn2 S (some (.int c)) (some (.int 1)) (by omega) (by omega) k3 k4
        refine ⟨sn3, r1 _ (r2 _ (r3 _ (r46 _ ?_)))⟩
        rw [show zdn S (List.map (zna t) (i :: zscn t m (i + 1) c (zqd c qd))) = zdn S (List.map (zna t) (zscn t m (i + 1) c (zqd c qd))) from if_pos hS]
        have k6 := r57 sn2 n (.int 1) _ k5
        refine qg_if true rfl (rfl) rfl ?_
        exact k6
      · rw [if_neg hS] at k3 r46
        obtain ⟨sn3, k5⟩ := ih (i + 1) (n + 1) c (zqd c qd) sn2 _ (some (.int c)) (some (.int 1)) (by omega) (by omega) k3 k4
        refine ⟨sn3, r1 _ (r2 _ (r3 _ (r46 _ ?_)))⟩
        rw [show zdn S (List.map (zna t) (i :: zscn t m (i + 1) c (zqd c qd))) = 1 + zdn (zna t i :: S) (List.map (zna t) (zscn t m (i + 1) c (zqd c qd))) from if_neg hS, ← Nat.add_assoc]
        have k6 := r57 sn2 (n + 1) (.int 1) _ k5
        refine qg_if false rfl (rfl) rfl ?_
        refine qg_pls (n := 1) (k' := 57) (lo' := [some (.ref 12), some (.ref r), some (.int (nI (2 ^ k))), some (.int ((nI n) + 1)), some (.int bf), some (.int (zqi (zqd c qd))), some (.int (nI i)), some (.int c), some (.int 1)]) (S' := []) (h' := (h.1.set sb (ai_num .int (2 ^ k1) sn2), h.2)) rfl ?_
        rw [nI_1]
        exact k6
    · rw [if_neg hbg]
      obtain ⟨sn3, k5⟩ := ih (i + 1) n c (zqd c qd) sn S (some (.int c)) (some (.int (if zbg bf c then 1 else 0))) (by omega) (by omega) hb (zpl_up hp)
      refine ⟨sn3, r1 _ (r2 _ (r3 _ ?_))⟩
      have k6 := r57 sn n _ _ k5
      by_cases hb1 : zbg bf c
      · have hq : zqd c qd = true := by
          cases hq : zqd c qd with
          | true => rfl
          | false => exact absurd ⟨hb1, hq⟩ hbg
        rw [if_pos hb1] at k6 ⊢
        rw [hq] at k6 ⊢
        refine qg_pls (n := 1) (k' := 47) (lo' := [some (.ref 12), some (.ref r), some (.int (nI (2 ^ k))), some (.int (nI n)), some (.int bf), some (.int (zqi true)), some (.int (nI i)), some (.int c), some (.int 1)]) (S' := [.int 1]) (h' := (h.1.set sb (ai_num .int (2 ^ k1) sn), h.2)) rfl ?_
        refine qg_if false rfl (rfl) rfl ?_
        refine qg_pls (n := 1) (k' := 49) (lo' := [some (.ref 12), some (.ref r), some (.int (nI (2 ^ k))), some (.int (nI n)), some (.int bf), some (.int (zqi true)), some (.int (nI i)), some (.int c), some (.int 1)]) (S' := [.int (zqi true)]) (h' := (h.1.set sb (ai_num .int (2 ^ k1) sn), h.2)) rfl ?_
        refine qg_if true rfl (rfl) rfl ?_
        exact k6
      · rw [if_neg hb1] at k6 ⊢
        refine qg_pls (n := 1) (k' := 47) (lo' := [some (.ref 12), some (.ref r), some (.int (nI (2 ^ k))), some (.int (nI n)), some (.int bf), some (.int (zqi (zqd c qd))), some (.int (nI i)), some (.int c), some (.int 0)]) (S' := [.int 0]) (h' := (h.1.set sb (ai_num .int (2 ^ k1) sn), h.2)) rfl ?_
        refine qg_if true rfl (rfl) rfl ?_
        exact k6
end CNP
