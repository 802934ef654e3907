/-! TOKENS: what the class finds in a text. (Printed by wip/whole/pp.py from wip/whole/src.) -/
section QSC
variable {L : Nat} {xs : Nat → Int32} {d : Nat} {h h' : ai_H} {r b len : Nat} {t : List Int32}
theorem qb_eqT {x y : Int32} (c : x = y) : ai_cmp .eq x y = true := decide_eq_true c
theorem qb_eqF {x y : Int32} (c : ¬ x = y) : ai_cmp .eq x y = false := decide_eq_false c
theorem qb_neT {x y : Int32} (c : ¬ x = y) : ai_cmp .ne x y = true := by
  show (!decide (x = y)) = true
  rw [decide_eq_false c]; rfl
theorem qb_neF {x y : Int32} (c : x = y) : ai_cmp .ne x y = false := by
  show (!decide (x = y)) = false
  rw [decide_eq_true c]; rfl
theorem qb_ltT {x y : Int32} (c : x < y) : ai_cmp .lt x y = true := decide_eq_true c
theorem qb_ltF {x y : Int32} (c : ¬ x < y) : ai_cmp .lt x y = false := decide_eq_false c
theorem qb_gtT {x y : Int32} (c : y < x) : ai_cmp .gt x y = true := decide_eq_true c
theorem qb_gtF {x y : Int32} (c : ¬ y < x) : ai_cmp .gt x y = false := decide_eq_false c
theorem qb_geT {x y : Int32} (c : ¬ x < y) : ai_cmp .ge x y = true := decide_eq_true (Int32.not_lt.mp c)
theorem qb_geF {x y : Int32} (c : x < y) : ai_cmp .ge x y = false := decide_eq_false (fun q => Int32.not_lt.mpr q c)
theorem qb_leT {x y : Int32} (c : ¬ y < x) : ai_cmp .le x y = true := decide_eq_true (Int32.not_lt.mp c)
theorem qb_leF {x y : Int32} (c : y < x) : ai_cmp .le x y = false := decide_eq_false (fun q => Int32.not_lt.mpr q c)
abbrev zdig (c : Int32) : Prop := ¬ c < 48 ∧ ¬ 57 < c
abbrev zofw (c : Int32) : Prop := (¬ c < 97 ∧ ¬ 122 < c) ∨ (¬ c < 65 ∧ ¬ 90 < c) ∨ c = 95 ∨ (¬ c < 48 ∧ ¬ 57 < c)
/-- behind blanks and comments -/
def zskip (t : List Int32) : Nat → Nat → Nat → Nat
  | 0, _, i => i
  | n + 1, c, i => if c = 1 then (if zat t i = 10 then zskip t n 0 (i + 1) else zskip t n 1 (i + 1)) else if zat t i = 45 ∧ zat t (i + 1) = 45 then zskip t n 1 (i + 1) else if zat t i = 9 ∨ zat t i = 10 ∨ zat t i = 13 ∨ zat t i = 32 then zskip t n 0 (i + 1) else i
/-- where a run of such bytes ends -/
def zrun (t : List Int32) (p : Int32 → Prop) [DecidablePred p] : Nat → Nat → Nat
  | 0, i => i
  | n + 1, i => if p (zat t i) then zrun t p n (i + 1) else i
def ztwo (a b : Int32) : Nat := if a = 124 ∧ b = 124 then 92 else if a = 60 ∧ b = 62 then 94 else if a = 60 ∧ b = 61 then 96 else if a = 62 ∧ b = 61 then 98 else 103
def zone (a : Int32) : Nat := if a = 40 then 82 else if a = 41 then 83 else if a = 44 then 84 else if a = 46 then 85 else if a = 59 then 86 else if a = 43 then 87 else if a = 45 then 88 else if a = 42 then 89 else if a = 47 then 90 else if a = 37 then 91 else if a = 61 then 93 else if a = 60 then 95 else if a = 62 then 97 else 103
/-- a string, from behind its first quote: n characters so far; where it ends (0: it is none) -/
def zstr (t : List Int32) : Nat → Nat → Nat → Nat × Nat
  | 0, _, _ => (103, 0)
  | m + 1, i, n => if zat t i = 39 then (if zat t (i + 1) = 39 then (match m with | 0 => (103, 0) | m + 1 => zstr t m (i + 2) (n + 1)) else (if 200 < n then 103 else 101, i + 1)) else if zat t i < 32 ∨ 126 < zat t i then (103, 0) else zstr t m (i + 1) (n + 1)
def zgreat (c : Int32) : Int32 := if ¬ c < 97 ∧ ¬ 122 < c then c - 97 + 65 else c
/-- which comes first -/
def zord : List Int32 → List Int32 → Int
  | [], [] => 0
  | [], _ :: _ => -1
  | _ :: _, [] => 1
  | a :: u, c :: w => if a = c then zord u w else if a < c then -1 else 1
def zkey (u : List Int32) : Nat := ((List.range 82).find? (fun k => decide (zw k = u))).getD 99
def zup (t : List Int32) (i j : Nat) : List Int32 := ((t.drop i).take (j - i)).map (fun x => zgreat (x &&& 255))
/-- the token that begins here, and where it ends -/
def ztok (t : List Int32) (i : Nat) : Nat × Nat :=
  if zat t i = -1 then (102, i)
  else if zdig (zat t i) then (if 18 < zrun t zdig (t.length - i) i - i then 103 else 100, zrun t zdig (t.length - i) i)
  else if zofw (zat t i) then (if 30 < zrun t zofw (t.length - i) i - i then 103 else zkey (zup t i (zrun t zofw (t.length - i) i)), zrun t zofw (t.length - i) i)
  else if zat t i = 39 then ((zstr t (t.length - (i + 1)) (i + 1) 0).1, if (zstr t (t.length - (i + 1)) (i + 1) 0).2 = 0 then i else (zstr t (t.length - (i + 1)) (i + 1) 0).2)
  else if ztwo (zat t i) (zat t (i + 1)) = 103 then (zone (zat t i), i + 1) else (ztwo (zat t i) (zat t (i + 1)), i + 2)
def ztoks (t : List Int32) : Nat → Nat → List (Nat × Nat × Nat)
  | 0, _ => []
  | n + 1, j => ((ztok t (zskip t (t.length - j) 0 j)).1, zskip t (t.length - j) 0 j, (ztok t (zskip t (t.length - j) 0 j)).2) :: (if (ztok t (zskip t (t.length - j) 0 j)).1 = 102 ∨ (ztok t (zskip t (t.length - j) 0 j)).1 = 103 then [] else ztoks t n (ztok t (zskip t (t.length - j) 0 j)).2)
/-- Tokens.isDigit -/
theorem q_dig {c : Int32} : qe L xs (d + 1) 12 [.int c] h (.inl (some (.int (if zdig c then 1 else 0))), h) := by
  refine qe_of (M := qm_12) rfl rfl ?_
  show qg L xs _ qm_12 0 [some (.int c)] [] h _
  refine qg_pls (n := 2) (k' := 2) (lo' := [some (.int c)]) (S' := [.int 48, .int c]) (h' := h) rfl ?_
  by_cases c1 : c < 48
  · skip
    refine qg_icmp true rfl (qb_ltT c1) rfl ?_
    refine qg_pls (n := 1) (k' := 9) (lo' := [some (.int c)]) (S' := [.int 0]) (h' := h) rfl ?_
    rw [show ((if zdig c then 1 else 0 : Int32)) = 0 from by simp [zdig, c1]]
    exact qg_ret5 rfl rfl rfl
  · skip
    refine qg_icmp false rfl (qb_ltF c1) rfl ?_
    refine qg_pls (n := 2) (k' := 5) (lo' := [some (.int c)]) (S' := [.int 57, .int c]) (h' := h) rfl ?_
    by_cases c2 : 57 < c
    · skip
      refine qg_icmp true rfl (qb_gtT c2) rfl ?_
      refine qg_pls (n := 1) (k' := 9) (lo' := [some (.int c)]) (S' := [.int 0]) (h' := h) rfl ?_
      rw [show ((if zdig c then 1 else 0 : Int32)) = 0 from by simp [zdig, c1, c2]]
      exact qg_ret5 rfl rfl rfl
    · skip
      refine qg_icmp false rfl (qb_gtF c2) rfl ?_
      refine qg_pls (n := 2) (k' := 9) (lo' := [some (.int c)]) (S' := [.int 1]) (h' := h) rfl ?_
      rw [show ((if zdig c then 1 else 0 : Int32)) = 1 from by simp [zdig, c1, c2]]
      exact qg_ret5 rfl rfl rfl
theorem q_ofw {c : Int32} : qe L xs (d + 1) 14 [.int c] h (.inl (some (.int (if zofw c then 1 else 0))), h) := by
  refine qe_of (M := qm_14) rfl rfl ?_
  show qg L xs _ qm_14 0 [some (.int c)] [] h _
  refine qg_pls (n := 2) (k' := 2) (lo' := [some (.int c)]) (S' := [.int 97, .int c]) (h' := h) rfl ?_
  by_cases c3 : c < 97
  · skip
    refine qg_icmp true rfl (qb_ltT c3) rfl ?_
    refine qg_pls (n := 2) (k' := 8) (lo' := [some (.int c)]) (S' := [.int 65, .int c]) (h' := h) rfl ?_
    by_cases c4 : c < 65
    · skip
      refine qg_icmp true rfl (qb_ltT c4) rfl ?_
      refine qg_pls (n := 2) (k' := 14) (lo' := [some (.int c)]) (S' := [.int 95, .int c]) (h' := h) rfl ?_
      by_cases c5 : c = 95
      · skip
        refine qg_icmp true rfl (qb_eqT c5) rfl ?_
        refine qg_pls (n := 2) (k' := 24) (lo' := [some (.int c)]) (S' := [.int 1]) (h' := h) rfl ?_
        rw [show ((if zofw c then 1 else 0 : Int32)) = 1 from by simp [zofw, c3, c4, c5]]
        exact qg_ret5 rfl rfl rfl
      · skip
        refine qg_icmp false rfl (qb_eqF c5) rfl ?_
        refine qg_pls (n := 2) (k' := 17) (lo' := [some (.int c)]) (S' := [.int 48, .int c]) (h' := h) rfl ?_
        by_cases c6 : c < 48
        · skip
          refine qg_icmp true rfl (qb_ltT c6) rfl ?_
          refine qg_pls (n := 1) (k' := 24) (lo' := [some (.int c)]) (S' := [.int 0]) (h' := h) rfl ?_
          rw [show ((if zofw c then 1 else 0 : Int32)) = 0 from by simp [zofw, c3, c4, c5, c6]]
          exact qg_ret5 rfl rfl rfl
        · skip
          refine qg_icmp false rfl (qb_ltF c6) rfl ?_
          refine qg_pls (n := 2) (k' := 20) (lo' := [some (.int c)]) (S' := [.int 57, .int c]) (h' := h) rfl ?_
          by_cases c7 : 57 < c
          · skip
            refine qg_icmp true rfl (qb_gtT c7) rfl ?_
            refine qg_pls (n := 1) (k' := 24) (lo' := [some (.int c)]) (S' := [.int 0]) (h' := h) rfl ?_
            rw [show ((if zofw c then 1 else 0 : Int32)) = 0 from by simp [zofw, c3, c4, c5, c6, c7]]
            exact qg_ret5 rfl rfl rfl
          · skip
            refine qg_icmp false rfl (qb_gtF c7) rfl ?_
            refine qg_pls (n := 2) (k' := 24) (lo' := [some (.int c)]) (S' := [.int 1]) (h' := h) rfl ?_
            rw [show ((if zofw c then 1 else 0 : Int32)) = 1 from by simp [zofw, c3, c4, c5, c6, c7]]
            exact qg_ret5 rfl rfl rfl
    · skip
      refine qg_icmp false rfl (qb_ltF c4) rfl ?_
      refine qg_pls (n := 2) (k' := 11) (lo' := [some (.int c)]) (S' := [.int 90, .int c]) (h' := h) rfl ?_
      by_cases c8 : 90 < c
      · skip
        refine qg_icmp false rfl (qb_leF c8) rfl ?_
        refine qg_pls (n := 2) (k' := 14) (lo' := [some (.int c)]) (S' := [.int 95, .int c]) (h' := h) rfl ?_
        by_cases c9 : c = 95
        · skip
          refine qg_icmp true rfl (qb_eqT c9) rfl ?_
          refine qg_pls (n := 2) (k' := 24) (lo' := [some (.int c)]) (S' := [.int 1]) (h' := h) rfl ?_
          rw [show ((if zofw c then 1 else 0 : Int32)) = 1 from by simp [zofw, c3, c4, c8, c9]]
          exact qg_ret5 rfl rfl rfl
        · skip
          refine qg_icmp false rfl (qb_eqF c9) rfl ?_
          refine qg_pls (n := 2) (k' := 17) (lo' := [some (.int c)]) (S' := [.int 48, .int c]) (h' := h) rfl ?_
          by_cases c10 : c < 48
          · skip
            refine qg_icmp true rfl (qb_ltT c10) rfl ?_
            refine qg_pls (n := 1) (k' := 24) (lo' := [some (.int c)]) (S' := [.int 0]) (h' := h) rfl ?_
            rw [show ((if zofw c then 1 else 0 : Int32)) = 0 from by simp [zofw, c3, c4, c8, c9, c10]]
            exact qg_ret5 rfl rfl rfl
          · skip
            refine qg_icmp false rfl (qb_ltF c10) rfl ?_
            refine qg_pls (n := 2) (k' := 20) (lo' := [some (.int c)]) (S' := [.int 57, .int c]) (h' := h) rfl ?_
            by_cases c11 : 57 < c
            · skip
              refine qg_icmp true rfl (qb_gtT c11) rfl ?_
              refine qg_pls (n := 1) (k' := 24) (lo' := [some (.int c)]) (S' := [.int 0]) (h' := h) rfl ?_
              rw [show ((if zofw c then 1 else 0 : Int32)) = 0 from by simp [zofw, c3, c4, c8, c9, c10, c11]]
              exact qg_ret5 rfl rfl rfl
            · skip
              refine qg_icmp false rfl (qb_gtF c11) rfl ?_
              refine qg_pls (n := 2) (k' := 24) (lo' := [some (.int c)]) (S' := [.int 1]) (h' := h) rfl ?_
              rw [show ((if zofw c then 1 else 0 : Int32)) = 1 from by simp [zofw, c3, c4, c8, c9, c10, c11]]
              exact qg_ret5 rfl rfl rfl
      · skip
        refine qg_icmp true rfl (qb_leT c8) rfl ?_
        refine qg_pls (n := 2) (k' := 24) (lo' := [some (.int c)]) (S' := [.int 1]) (h' := h) rfl ?_
        rw [show ((if zofw c then 1 else 0 : Int32)) = 1 from by simp [zofw, c3, c4, c8]]
        exact qg_ret5 rfl rfl rfl
  · skip
    refine qg_icmp false rfl (qb_ltF c3) rfl ?_
    refine qg_pls (n := 2) (k' := 5) (lo' := [some (.int c)]) (S' := [.int 122, .int c]) (h' := h) rfl ?_
    by_cases c12 : 122 < c
    · skip
      refine qg_icmp false rfl (qb_leF c12) rfl ?_
      refine qg_pls (n := 2) (k' := 8) (lo' := [some (.int c)]) (S' := [.int 65, .int c]) (h' := h) rfl ?_
      by_cases c13 : c < 65
      · skip
        refine qg_icmp true rfl (qb_ltT c13) rfl ?_
        refine qg_pls (n := 2) (k' := 14) (lo' := [some (.int c)]) (S' := [.int 95, .int c]) (h' := h) rfl ?_
        by_cases c14 : c = 95
        · skip
          refine qg_icmp true rfl (qb_eqT c14) rfl ?_
          refine qg_pls (n := 2) (k' := 24) (lo' := [some (.int c)]) (S' := [.int 1]) (h' := h) rfl ?_
          rw [show ((if zofw c then 1 else 0 : Int32)) = 1 from by simp [zofw, c3, c12, c13, c14]]
          exact qg_ret5 rfl rfl rfl
        · skip
          refine qg_icmp false rfl (qb_eqF c14) rfl ?_
          refine qg_pls (n := 2) (k' := 17) (lo' := [some (.int c)]) (S' := [.int 48, .int c]) (h' := h) rfl ?_
          by_cases c15 : c < 48
          · skip
            refine qg_icmp true rfl (qb_ltT c15) rfl ?_
            refine qg_pls (n := 1) (k' := 24) (lo' := [some (.int c)]) (S' := [.int 0]) (h' := h) rfl ?_
            rw [show ((if zofw c then 1 else 0 : Int32)) = 0 from by simp [zofw, c3, c12, c13, c14, c15]]
            exact qg_ret5 rfl rfl rfl
          · skip
            refine qg_icmp false rfl (qb_ltF c15) rfl ?_
            refine qg_pls (n := 2) (k' := 20) (lo' := [some (.int c)]) (S' := [.int 57, .int c]) (h' := h) rfl ?_
            by_cases c16 : 57 < c
            · skip
              refine qg_icmp true rfl (qb_gtT c16) rfl ?_
              refine qg_pls (n := 1) (k' := 24) (lo' := [some (.int c)]) (S' := [.int 0]) (h' := h) rfl ?_
              rw [show ((if zofw c then 1 else 0 : Int32)) = 0 from by simp [zofw, c3, c12, c13, c14, c15, c16]]
              exact qg_ret5 rfl rfl rfl
            · skip
              refine qg_icmp false rfl (qb_gtF c16) rfl ?_
              refine qg_pls (n := 2) (k' := 24) (lo' := [some (.int c)]) (S' := [.int 1]) (h' := h) rfl ?_
              rw [show ((if zofw c then 1 else 0 : Int32)) = 1 from by simp [zofw, c3, c12, c13, c14, c15, c16]]
              exact qg_ret5 rfl rfl rfl
      · skip
        refine qg_icmp false rfl (qb_ltF c13) rfl ?_
        refine qg_pls (n := 2) (k' := 11) (lo' := [some (.int c)]) (S' := [.int 90, .int c]) (h' := h) rfl ?_
        by_cases c17 : 90 < c
        · skip
          refine qg_icmp false rfl (qb_leF c17) rfl ?_
          refine qg_pls (n := 2) (k' := 14) (lo' := [some (.int c)]) (S' := [.int 95, .int c]) (h' := h) rfl ?_
          by_cases c18 : c = 95
          · skip
            refine qg_icmp true rfl (qb_eqT c18) rfl ?_
            refine qg_pls (n := 2) (k' := 24) (lo' := [some (.int c)]) (S' := [.int 1]) (h' := h) rfl ?_
            rw [show ((if zofw c then 1 else 0 : Int32)) = 1 from by simp [zofw, c3, c12, c13, c17, c18]]
            exact qg_ret5 rfl rfl rfl
          · skip
            refine qg_icmp false rfl (qb_eqF c18) rfl ?_
            refine qg_pls (n := 2) (k' := 17) (lo' := [some (.int c)]) (S' := [.int 48, .int c]) (h' := h) rfl ?_
            by_cases c19 : c < 48
            · skip
              refine qg_icmp true rfl (qb_ltT c19) rfl ?_
              refine qg_pls (n := 1) (k' := 24) (lo' := [some (.int c)]) (S' := [.int 0]) (h' := h) rfl ?_
              rw [show ((if zofw c then 1 else 0 : Int32)) = 0 from by simp [zofw, c3, c12, c13, c17, c18, c19]]
              exact qg_ret5 rfl rfl rfl
            · skip
              refine qg_icmp false rfl (qb_ltF c19) rfl ?_
              refine qg_pls (n := 2) (k' := 20) (lo' := [some (.int c)]) (S' := [.int 57, .int c]) (h' := h) rfl ?_
              by_cases c20 : 57 < c
              · skip
                refine qg_icmp true rfl (qb_gtT c20) rfl ?_
                refine qg_pls (n := 1) (k' := 24) (lo' := [some (.int c)]) (S' := [.int 0]) (h' := h) rfl ?_
                rw [show ((if zofw c then 1 else 0 : Int32)) = 0 from by simp [zofw, c3, c12, c13, c17, c18, c19, c20]]
                exact qg_ret5 rfl rfl rfl
              · skip
                refine qg_icmp false rfl (qb_gtF c20) rfl ?_
                refine qg_pls (n := 2) (k' := 24) (lo' := [some (.int c)]) (S' := [.int 1]) (h' := h) rfl ?_
                rw [show ((if zofw c then 1 else 0 : Int32)) = 1 from by simp [zofw, c3, c12, c13, c17, c18, c19, c20]]
                exact qg_ret5 rfl rfl rfl
        · skip
          refine qg_icmp true rfl (qb_leT c17) rfl ?_
          refine qg_pls (n := 2) (k' := 24) (lo' := [some (.int c)]) (S' := [.int 1]) (h' := h) rfl ?_
          rw [show ((if zofw c then 1 else 0 : Int32)) = 1 from by simp [zofw, c3, c12, c13, c17]]
          exact qg_ret5 rfl rfl rfl
    · skip
      refine qg_icmp true rfl (qb_leT c12) rfl ?_
      refine qg_pls (n := 2) (k' := 24) (lo' := [some (.int c)]) (S' := [.int 1]) (h' := h) rfl ?_
      rw [show ((if zofw c then 1 else 0 : Int32)) = 1 from by simp [zofw, c3, c12]]
      exact qg_ret5 rfl rfl rfl
/-- Tokens.behindBlanks -/
theorem q_blankl (hr : qrow h r b len t) (hl : t.length ≤ 1048576) : ∀ (n i c : Nat) (p1 : Value) (x4 : Option Value), c = 0 ∨ c = 1 → t.length - i = n → i ≤ t.length → qg L xs (d + 1) qm_8 4 [some (.ref r), some p1, some (.int (nI c)), some (.int (nI i)), x4] [] h (.inl (some (.int (nI (zskip t n c i)))), h) := by
  intro n
  induction n with
  | zero =>
    intro i c p1 x4 hc hn hi
    have e1 : i = t.length := by omega
    refine qg_pls (n := 2) (k' := 6) (lo' := [some (.ref r), some (p1), some (.int (nI c)), some (.int (nI i)), x4]) (S' := [.ref r, .int (nI i)]) (h' := h) rfl ?_
    refine qg_call (v := some (.int (nI t.length))) (h' := h) (as := [.ref r]) rfl rfl rfl rfl rfl rfl rfl (ai_rcv1 rfl rfl (qrow_obj hr)) (q_size hr) ?_
    show qg L xs _ qm_8 7 [some (.ref r), some (p1), some (.int (nI c)), some (.int (nI i)), x4] [.int (nI t.length), .int (nI i)] h _
    refine qg_icmp true rfl (qc_geT (by omega) (by omega)) rfl ?_
    refine qg_pls (n := 1) (k' := 52) (lo' := [some (.ref r), some (p1), some (.int (nI c)), some (.int (nI i)), x4]) (S' := [.ref r]) (h' := h) rfl ?_
    refine qg_call (v := some (.int (nI t.length))) (h' := h) (as := [.ref r]) rfl rfl rfl rfl rfl rfl rfl (ai_rcv1 rfl rfl (qrow_obj hr)) (q_size hr) ?_
    show qg L xs _ qm_8 53 [some (.ref r), some (p1), some (.int (nI c)), some (.int (nI i)), x4] [.int (nI t.length)] h _
    rw [show (nI (zskip t 0 c i)) = (nI t.length) from by (rw [← e1]; rfl)]
    exact qg_ret5 rfl rfl rfl
  | succ n ih =>
    intro i c p1 x4 hc hn hi
    rcases hc with rfl | rfl
    · skip
      refine qg_pls (n := 1) (k' := 5) (lo' := [some (.ref r), some (p1), some (.int 0), some (.int (nI i)), x4]) (S' := [.int (nI i)]) (h' := h) rfl ?_
      refine qg_pls (n := 1) (k' := 6) (lo' := [some (.ref r), some (p1), some (.int 0), some (.int (nI i)), x4]) (S' := [.ref r, .int (nI i)]) (h' := h) rfl ?_
      refine qg_call (v := some (.int (nI t.length))) (h' := h) (as := [.ref r]) rfl rfl rfl rfl rfl rfl rfl (ai_rcv1 rfl rfl (qrow_obj hr)) (q_size hr) ?_
      show qg L xs _ qm_8 7 [some (.ref r), some (p1), some (.int 0), some (.int (nI i)), x4] [.int (nI t.length), .int (nI i)] h _
      refine qg_icmp false rfl (qc_geF (by omega) (by omega)) rfl ?_
      refine qg_pls (n := 2) (k' := 10) (lo' := [some (.ref r), some (p1), some (.int 0), some (.int (nI i)), x4]) (S' := [.int (nI i), .ref r]) (h' := h) rfl ?_
      refine qg_call (v := some (.int (zat t i))) (h' := h) (as := [.ref r, .int (nI i)]) rfl rfl rfl rfl rfl rfl rfl (ai_rcv1 rfl rfl (qrow_obj hr)) (q_at hr (by omega)) ?_
      show qg L xs _ qm_8 11 [some (.ref r), some (p1), some (.int 0), some (.int (nI i)), x4] [.int (zat t i)] h _
      refine qg_pls (n := 2) (k' := 13) (lo' := [some (.ref r), some (p1), some (.int 0), some (.int (nI i)), some (.int (zat t i))]) (S' := [.int 0]) (h' := h) rfl ?_
      refine qg_if true rfl (rfl) rfl ?_
      refine qg_pls (n := 2) (k' := 24) (lo' := [some (.ref r), some (p1), some (.int 0), some (.int (nI i)), some (.int (zat t i))]) (S' := [.int 45, .int (zat t i)]) (h' := h) rfl ?_
      by_cases c21 : (zat t i) = 45
      · skip
        refine qg_icmp false rfl (qb_neF c21) rfl ?_
        refine qg_pls (n := 4) (k' := 29) (lo' := [some (.ref r), some (p1), some (.int 0), some (.int (nI i)), some (.int (zat t i))]) (S' := [.int ((nI i) + 1), .ref r]) (h' := h) rfl ?_
        rw [show nI i + 1 = nI (i + 1) from nI_add _ 1]
        refine qg_call (v := some (.int (zat t (i + 1)))) (h' := h) (as := [.ref r, .int (nI (i + 1))]) rfl rfl rfl rfl rfl rfl rfl (ai_rcv1 rfl rfl (qrow_obj hr)) (q_at hr (by omega)) ?_
        show qg L xs _ qm_8 30 [some (.ref r), some (p1), some (.int 0), some (.int (nI i)), some (.int (zat t i))] [.int (zat t (i + 1))] h _
        refine qg_pls (n := 1) (k' := 31) (lo' := [some (.ref r), some (p1), some (.int 0), some (.int (nI i)), some (.int (zat t i))]) (S' := [.int 45, .int (zat t (i + 1))]) (h' := h) rfl ?_
        by_cases c22 : (zat t (i + 1)) = 45
        · skip
          refine qg_icmp false rfl (qb_neF c22) rfl ?_
          refine qg_pls (n := 5) (k' := 4) (lo' := [some (.ref r), some (p1), some (.int 1), some (.int ((nI i) + 1)), some (.int (zat t i))]) (S' := []) (h' := h) rfl ?_
          rw [nI_1, show zskip t (n + 1) 0 i = zskip t n 1 (i + 1) from by simp [zskip, c21, c22]]
          exact ih (i + 1) 1 _ _ (by decide) (by omega) (by omega)
        · skip
          refine qg_icmp true rfl (qb_neT c22) rfl ?_
          refine qg_pls (n := 2) (k' := 37) (lo' := [some (.ref r), some (p1), some (.int 0), some (.int (nI i)), some (.int (zat t i))]) (S' := [.int 9, .int (zat t i)]) (h' := h) rfl ?_
          refine qg_icmp false rfl (qb_eqF (fun q => absurd (c21.symm.trans q) (by decide))) rfl ?_
          refine qg_pls (n := 2) (k' := 40) (lo' := [some (.ref r), some (p1), some (.int 0), some (.int (nI i)), some (.int (zat t i))]) (S' := [.int 10, .int (zat t i)]) (h' := h) rfl ?_
          refine qg_icmp false rfl (qb_eqF (fun q => absurd (c21.symm.trans q) (by decide))) rfl ?_
          refine qg_pls (n := 2) (k' := 43) (lo' := [some (.ref r), some (p1), some (.int 0), some (.int (nI i)), some (.int (zat t i))]) (S' := [.int 13, .int (zat t i)]) (h' := h) rfl ?_
          refine qg_icmp false rfl (qb_eqF (fun q => absurd (c21.symm.trans q) (by decide))) rfl ?_
          refine qg_pls (n := 2) (k' := 46) (lo' := [some (.ref r), some (p1), some (.int 0), some (.int (nI i)), some (.int (zat t i))]) (S' := [.int 32, .int (zat t i)]) (h' := h) rfl ?_
          refine qg_icmp false rfl (qb_eqF (fun q => absurd (c21.symm.trans q) (by decide))) rfl ?_
          refine qg_pls (n := 1) (k' := 48) (lo' := [some (.ref r), some (p1), some (.int 0), some (.int (nI i)), some (.int (zat t i))]) (S' := [.int (nI i)]) (h' := h) rfl ?_
          rw [show (nI (zskip t (n + 1) 0 i)) = (nI i) from by simp [zskip, c21, c22]]
          exact qg_ret5 rfl rfl rfl
      · skip
        refine qg_icmp true rfl (qb_neT c21) rfl ?_
        refine qg_pls (n := 2) (k' := 37) (lo' := [some (.ref r), some (p1), some (.int 0), some (.int (nI i)), some (.int (zat t i))]) (S' := [.int 9, .int (zat t i)]) (h' := h) rfl ?_
        by_cases c27 : (zat t i) = 9
        · skip
          refine qg_icmp true rfl (qb_eqT c27) rfl ?_
          refine qg_pls (n := 2) (k' := 4) (lo' := [some (.ref r), some (p1), some (.int 0), some (.int ((nI i) + 1)), some (.int (zat t i))]) (S' := []) (h' := h) rfl ?_
          rw [nI_1, show zskip t (n + 1) 0 i = zskip t n 0 (i + 1) from by simp [zskip, c21, c27]]
          exact ih (i + 1) 0 _ _ (by decide) (by omega) (by omega)
        · skip
          refine qg_icmp false rfl (qb_eqF c27) rfl ?_
          refine qg_pls (n := 2) (k' := 40) (lo' := [some (.ref r), some (p1), some (.int 0), some (.int (nI i)), some (.int (zat t i))]) (S' := [.int 10, .int (zat t i)]) (h' := h) rfl ?_
          by_cases c28 : (zat t i) = 10
          · skip
            refine qg_icmp true rfl (qb_eqT c28) rfl ?_
            refine qg_pls (n := 2) (k' := 4) (lo' := [some (.ref r), some (p1), some (.int 0), some (.int ((nI i) + 1)), some (.int (zat t i))]) (S' := []) (h' := h) rfl ?_
            rw [nI_1, show zskip t (n + 1) 0 i = zskip t n 0 (i + 1) from by simp [zskip, c21, c27, c28]]
            exact ih (i + 1) 0 _ _ (by decide) (by omega) (by omega)
          · skip
            refine qg_icmp false rfl (qb_eqF c28) rfl ?_
            refine qg_pls (n := 2) (k' := 43) (lo' := [some (.ref r), some (p1), some (.int 0), some (.int (nI i)), some (.int (zat t i))]) (S' := [.int 13, .int (zat t i)]) (h' := h) rfl ?_
            by_cases c29 : (zat t i) = 13
            · skip
              refine qg_icmp true rfl (qb_eqT c29) rfl ?_
              refine qg_pls (n := 2) (k' := 4) (lo' := [some (.ref r), some (p1), some (.int 0), some (.int ((nI i) + 1)), some (.int (zat t i))]) (S' := []) (h' := h) rfl ?_
              rw [nI_1, show zskip t (n + 1) 0 i = zskip t n 0 (i + 1) from by simp [zskip, c21, c27, c28, c29]]
              exact ih (i + 1) 0 _ _ (by decide) (by omega) (by omega)
            · skip
              refine qg_icmp false rfl (qb_eqF c29) rfl ?_
              refine qg_pls (n := 2) (k' := 46) (lo' := [some (.ref r), some (p1), some (.int 0), some (.int (nI i)), some (.int (zat t i))]) (S' := [.int 32, .int (zat t i)]) (h' := h) rfl ?_
              by_cases c30 : (zat t i) = 32
              · skip
                refine qg_icmp true rfl (qb_eqT c30) rfl ?_
                refine qg_pls (n := 2) (k' := 4) (lo' := [some (.ref r), some (p1), some (.int 0), some (.int ((nI i) + 1)), some (.int (zat t i))]) (S' := []) (h' := h) rfl ?_
                rw [nI_1, show zskip t (n + 1) 0 i = zskip t n 0 (i + 1) from by simp [zskip, c21, c27, c28, c29, c30]]
                exact ih (i + 1) 0 _ _ (by decide) (by omega) (by omega)
              · skip
                refine qg_icmp false rfl (qb_eqF c30) rfl ?_
                refine qg_pls (n := 1) (k' := 48) (lo' := [some (.ref r), some (p1), some (.int 0), some (.int (nI i)), some (.int (zat t i))]) (S' := [.int (nI i)]) (h' := h) rfl ?_
                rw [show (nI (zskip t (n + 1) 0 i)) = (nI i) from by simp [zskip, c21, c27, c28, c29, c30]]
                exact qg_ret5 rfl rfl rfl
    · skip
      refine qg_pls (n := 1) (k' := 5) (lo' := [some (.ref r), some (p1), some (.int 1), some (.int (nI i)), x4]) (S' := [.int (nI i)]) (h' := h) rfl ?_
      refine qg_pls (n := 1) (k' := 6) (lo' := [some (.ref r), some (p1), some (.int 1), some (.int (nI i)), x4]) (S' := [.ref r, .int (nI i)]) (h' := h) rfl ?_
      refine qg_call (v := some (.int (nI t.length))) (h' := h) (as := [.ref r]) rfl rfl rfl rfl rfl rfl rfl (ai_rcv1 rfl rfl (qrow_obj hr)) (q_size hr) ?_
      show qg L xs _ qm_8 7 [some (.ref r), some (p1), some (.int 1), some (.int (nI i)), x4] [.int (nI t.length), .int (nI i)] h _
      refine qg_icmp false rfl (qc_geF (by omega) (by omega)) rfl ?_
      refine qg_pls (n := 2) (k' := 10) (lo' := [some (.ref r), some (p1), some (.int 1), some (.int (nI i)), x4]) (S' := [.int (nI i), .ref r]) (h' := h) rfl ?_
      refine qg_call (v := some (.int (zat t i))) (h' := h) (as := [.ref r, .int (nI i)]) rfl rfl rfl rfl rfl rfl rfl (ai_rcv1 rfl rfl (qrow_obj hr)) (q_at hr (by omega)) ?_
      show qg L xs _ qm_8 11 [some (.ref r), some (p1), some (.int 1), some (.int (nI i)), x4] [.int (zat t i)] h _
      refine qg_pls (n := 2) (k' := 13) (lo' := [some (.ref r), some (p1), some (.int 1), some (.int (nI i)), some (.int (zat t i))]) (S' := [.int 1]) (h' := h) rfl ?_
      refine qg_if false rfl (rfl) rfl ?_
      refine qg_pls (n := 2) (k' := 16) (lo' := [some (.ref r), some (p1), some (.int 1), some (.int (nI i)), some (.int (zat t i))]) (S' := [.int 10, .int (zat t i)]) (h' := h) rfl ?_
      by_cases c31 : (zat t i) = 10
      · skip
        refine qg_icmp true rfl (qb_eqT c31) rfl ?_
        refine qg_pls (n := 5) (k' := 4) (lo' := [some (.ref r), some (p1), some (.int 0), some (.int ((nI i) + 1)), some (.int (zat t i))]) (S' := []) (h' := h) rfl ?_
        rw [nI_1, show zskip t (n + 1) 1 i = zskip t n 0 (i + 1) from by simp [zskip, c31]]
        exact ih (i + 1) 0 _ _ (by decide) (by omega) (by omega)
      · skip
        refine qg_icmp false rfl (qb_eqF c31) rfl ?_
        refine qg_pls (n := 6) (k' := 4) (lo' := [some (.ref r), some (p1), some (.int 1), some (.int ((nI i) + 1)), some (.int (zat t i))]) (S' := []) (h' := h) rfl ?_
        rw [nI_1, show zskip t (n + 1) 1 i = zskip t n 1 (i + 1) from by simp [zskip, c31]]
        exact ih (i + 1) 1 _ _ (by decide) (by omega) (by omega)
theorem q_blanks (hr : qrow h r b len t) (hl : t.length ≤ 1048576) {i : Nat} (hi : i ≤ t.length) : qe L xs (d + 2) 8 [.ref r, .int (nI i)] h (.inl (some (.int (nI (zskip t (t.length - i) 0 i)))), h) := by
  refine qe_of (M := qm_8) rfl rfl ?_
  show qg L xs _ qm_8 0 [some (.ref r), some (.int (nI i)), none, none, none] [] h _
  refine qg_pls (n := 4) (k' := 4) (lo' := [some (.ref r), some (.int (nI i)), some (.int 0), some (.int (nI i)), none]) (S' := []) (h' := h) rfl ?_
  exact q_blankl hr hl _ i 0 _ _ (Or.inl rfl) rfl hi
/-- Tokens.twofoldSign -/
theorem q_two {a c : Int32} : qe L xs (d + 1) 27 [.int a, .int c] h (.inl (some (.retAddr (ztwo a c))), h) := by
  refine qe_of (M := qm_27) rfl rfl ?_
  show qg L xs _ qm_27 0 [some (.int a), some (.int c)] [] h _
  refine qg_pls (n := 2) (k' := 2) (lo' := [some (.int a), some (.int c)]) (S' := [.int 124, .int a]) (h' := h) rfl ?_
  by_cases c32 : a = 124
  · skip
    refine qg_icmp false rfl (qb_neF c32) rfl ?_
    refine qg_pls (n := 2) (k' := 5) (lo' := [some (.int a), some (.int c)]) (S' := [.int 124, .int c]) (h' := h) rfl ?_
    by_cases c33 : c = 124
    · skip
      refine qg_icmp false rfl (qb_neF c33) rfl ?_
      refine qg_pls (n := 1) (k' := 7) (lo' := [some (.int a), some (.int c)]) (S' := [.retAddr 92]) (h' := h) rfl ?_
      rw [show (ztwo a c) = 92 from by simp [ztwo, c32, c33]]
      exact qg_ret6 rfl rfl
    · skip
      refine qg_icmp true rfl (qb_neT c33) rfl ?_
      refine qg_pls (n := 2) (k' := 10) (lo' := [some (.int a), some (.int c)]) (S' := [.int 60, .int a]) (h' := h) rfl ?_
      refine qg_icmp true rfl (qb_neT (fun q => absurd (c32.symm.trans q) (by decide))) rfl ?_
      refine qg_pls (n := 2) (k' := 18) (lo' := [some (.int a), some (.int c)]) (S' := [.int 60, .int a]) (h' := h) rfl ?_
      refine qg_icmp true rfl (qb_neT (fun q => absurd (c32.symm.trans q) (by decide))) rfl ?_
      refine qg_pls (n := 2) (k' := 26) (lo' := [some (.int a), some (.int c)]) (S' := [.int 62, .int a]) (h' := h) rfl ?_
      refine qg_icmp true rfl (qb_neT (fun q => absurd (c32.symm.trans q) (by decide))) rfl ?_
      refine qg_pls (n := 1) (k' := 33) (lo' := [some (.int a), some (.int c)]) (S' := [.retAddr 103]) (h' := h) rfl ?_
      rw [show (ztwo a c) = 103 from by simp [ztwo, c32, c33]]
      exact qg_ret6 rfl rfl
  · skip
    refine qg_icmp true rfl (qb_neT c32) rfl ?_
    refine qg_pls (n := 2) (k' := 10) (lo' := [some (.int a), some (.int c)]) (S' := [.int 60, .int a]) (h' := h) rfl ?_
    by_cases c37 : a = 60
    · skip
      refine qg_icmp false rfl (qb_neF c37) rfl ?_
      refine qg_pls (n := 2) (k' := 13) (lo' := [some (.int a), some (.int c)]) (S' := [.int 62, .int c]) (h' := h) rfl ?_
      by_cases c38 : c = 62
      · skip
        refine qg_icmp false rfl (qb_neF c38) rfl ?_
        refine qg_pls (n := 1) (k' := 15) (lo' := [some (.int a), some (.int c)]) (S' := [.retAddr 94]) (h' := h) rfl ?_
        rw [show (ztwo a c) = 94 from by simp [ztwo, c32, c37, c38]]
        exact qg_ret6 rfl rfl
      · skip
        refine qg_icmp true rfl (qb_neT c38) rfl ?_
        refine qg_pls (n := 2) (k' := 18) (lo' := [some (.int a), some (.int c)]) (S' := [.int 60, .int a]) (h' := h) rfl ?_
        refine qg_icmp false rfl (qb_neF c37) rfl ?_
        refine qg_pls (n := 2) (k' := 21) (lo' := [some (.int a), some (.int c)]) (S' := [.int 61, .int c]) (h' := h) rfl ?_
        by_cases c40 : c = 61
        · skip
          refine qg_icmp false rfl (qb_neF c40) rfl ?_
          refine qg_pls (n := 1) (k' := 23) (lo' := [some (.int a), some (.int c)]) (S' := [.retAddr 96]) (h' := h) rfl ?_
          rw [show (ztwo a c) = 96 from by simp [ztwo, c32, c37, c38, c40]]
          exact qg_ret6 rfl rfl
        · skip
          refine qg_icmp true rfl (qb_neT c40) rfl ?_
          refine qg_pls (n := 2) (k' := 26) (lo' := [some (.int a), some (.int c)]) (S' := [.int 62, .int a]) (h' := h) rfl ?_
          refine qg_icmp true rfl (qb_neT (fun q => absurd (c37.symm.trans q) (by decide))) rfl ?_
          refine qg_pls (n := 1) (k' := 33) (lo' := [some (.int a), some (.int c)]) (S' := [.retAddr 103]) (h' := h) rfl ?_
          rw [show (ztwo a c) = 103 from by simp [ztwo, c32, c37, c38, c40]]
          exact qg_ret6 rfl rfl
    · skip
      refine qg_icmp true rfl (qb_neT c37) rfl ?_
      refine qg_pls (n := 2) (k' := 18) (lo' := [some (.int a), some (.int c)]) (S' := [.int 60, .int a]) (h' := h) rfl ?_
      refine qg_icmp true rfl (qb_neT c37) rfl ?_
      refine qg_pls (n := 2) (k' := 26) (lo' := [some (.int a), some (.int c)]) (S' := [.int 62, .int a]) (h' := h) rfl ?_
      by_cases c43 : a = 62
      · skip
        refine qg_icmp false rfl (qb_neF c43) rfl ?_
        refine qg_pls (n := 2) (k' := 29) (lo' := [some (.int a), some (.int c)]) (S' := [.int 61, .int c]) (h' := h) rfl ?_
        by_cases c44 : c = 61
        · skip
          refine qg_icmp false rfl (qb_neF c44) rfl ?_
          refine qg_pls (n := 2) (k' := 33) (lo' := [some (.int a), some (.int c)]) (S' := [.retAddr 98]) (h' := h) rfl ?_
          rw [show (ztwo a c) = 98 from by simp [ztwo, c32, c37, c43, c44]]
          exact qg_ret6 rfl rfl
        · skip
          refine qg_icmp true rfl (qb_neT c44) rfl ?_
          refine qg_pls (n := 1) (k' := 33) (lo' := [some (.int a), some (.int c)]) (S' := [.retAddr 103]) (h' := h) rfl ?_
          rw [show (ztwo a c) = 103 from by simp [ztwo, c32, c37, c43, c44]]
          exact qg_ret6 rfl rfl
      · skip
        refine qg_icmp true rfl (qb_neT c43) rfl ?_
        refine qg_pls (n := 1) (k' := 33) (lo' := [some (.int a), some (.int c)]) (S' := [.retAddr 103]) (h' := h) rfl ?_
        rw [show (ztwo a c) = 103 from by simp [ztwo, c32, c37, c43]]
        exact qg_ret6 rfl rfl
theorem z255a (x : Int32) : ∃ m, m < 256 ∧ x &&& 255 = nI m := by
  refine ⟨(x &&& 255).toNatClampNeg, ?_, ?_⟩
  · have h1 : (x &&& 255).toBitVec = x.toBitVec &&& 255#32 := rfl
    have h2 : (x.toBitVec &&& 255#32).toNat < 256 := by
      rw [BitVec.toNat_and]
      exact Nat.lt_of_le_of_lt Nat.and_le_right (by decide)
    have h3 : (x &&& 255).toInt = ((x.toBitVec &&& 255#32).toNat : Int) := by
      show (x &&& 255).toBitVec.toInt = _
      rw [h1, BitVec.toInt_eq_toNat_of_lt (by omega)]
    show (x &&& 255).toInt.toNat < 256
    rw [h3]; exact h2
  · have h1 : (x &&& 255).toBitVec = x.toBitVec &&& 255#32 := rfl
    have h2 : (x.toBitVec &&& 255#32).toNat < 256 := by
      rw [BitVec.toNat_and]
      exact Nat.lt_of_le_of_lt Nat.and_le_right (by decide)
    have h3 : (x &&& 255).toInt = ((x.toBitVec &&& 255#32).toNat : Int) := by
      show (x &&& 255).toBitVec.toInt = _
      rw [h1, BitVec.toInt_eq_toNat_of_lt (by omega)]
    have h4 : (x &&& 255).toNatClampNeg = (x.toBitVec &&& 255#32).toNat := by
      show (x &&& 255).toInt.toNat = _
      rw [h3]; rfl
    rw [h4]
    apply Int32.toBitVec_inj.mp
    rw [h1]
    show _ = BitVec.ofNat 32 (x.toBitVec &&& 255#32).toNat
    rw [BitVec.ofNat_toNat, BitVec.setWidth_eq]
theorem zat_nI (t : List Int32) (i : Nat) : (zat t i = -1 ∧ ¬ i < t.length) ∨ (i < t.length ∧ ∃ m, m < 256 ∧ zat t i = nI m) := by
  unfold zat
  by_cases hi : i < t.length
  · rw [if_pos hi]; exact Or.inr ⟨hi, z255a _⟩
  · rw [if_neg hi]; exact Or.inl ⟨rfl, hi⟩
set_option maxRecDepth 20000 in
theorem q_onea : (List.range 256).all (fun m => decide (m = 40 ∨ m = 41 ∨ m = 44 ∨ m = 46 ∨ m = 59 ∨ m = 43 ∨ m = 45 ∨ m = 42 ∨ m = 47 ∨ m = 37 ∨ m = 61 ∨ m = 60 ∨ m = 62 ∨ ((if (nI m).toInt < 37 ∨ 62 < (nI m).toInt then ai_tgt (0, [28, 20, 28, 28, 2, 4, 16, 12, 6, 14, 8, 18, 28, 28, 28, 28, 28, 28, 28, 28, 28, 28, 28, 10, 24, 22, 26], "") else (ai_nth (0, [28, 20, 28, 28, 2, 4, 16, 12, 6, 14, 8, 18, 28, 28, 28, 28, 28, 28, 28, 28, 28, 28, 28, 10, 24, 22, 26], "") (((nI m).toInt - 37).toNat + 1)).toNat) = 28 ∧ zone (nI m) = 103))) = true := by decide +kernel
theorem qg_sw {M : ai_M} {k k' : Nat} {lo : ai_L} {S : List Value} {o : ai_O} {pc ln : Nat} {df l2 hi : Int} {os : Array Int} {rs : List Int} {nm : String} {x : Int32} (hk : (ai_Mc M)[k]? = some (pc, .tableswitch df l2 hi os, ln, 0, rs, nm)) (ht : (if x.toInt < l2 ∨ hi < x.toInt then ai_tgt (0, rs, nm) else (ai_nth (0, rs, nm) ((x.toInt - l2).toNat + 1)).toNat) = k') (hg : qg L xs d M k' lo S h o) : qg L xs d M k lo (.int x :: S) h o := by
  refine qg_eff (t := k' + 1) (lo' := lo) (S' := S) (h' := h) hk ?_ rfl hg
  simp only [ai_eff, ai_sw]
  rw [ht]
/-- Tokens.singleSign -/
theorem q_one {m : Nat} (hm : m < 256) : qe L xs (d + 1) 28 [.int (nI m)] h (.inl (some (.retAddr (zone (nI m)))), h) := by
  refine qe_of (M := qm_28) rfl rfl ?_
  show qg L xs _ qm_28 0 [some (.int (nI m))] [] h _
  refine qg_pls (n := 1) (k' := 1) (lo' := [some (.int (nI m))]) (S' := [.int (nI m)]) (h' := h) rfl ?_
  by_cases c40 : m = 40
  · subst c40
    refine qg_sw (k' := 2) rfl (by decide) ?_
    refine qg_pls (n := 1) (k' := 3) (lo' := [some (.int (nI 40))]) (S' := [.retAddr 82]) (h' := h) rfl ?_
    exact qg_ret6 rfl rfl
  by_cases c41 : m = 41
  · subst c41
    refine qg_sw (k' := 4) rfl (by decide) ?_
    refine qg_pls (n := 1) (k' := 5) (lo' := [some (.int (nI 41))]) (S' := [.retAddr 83]) (h' := h) rfl ?_
    exact qg_ret6 rfl rfl
  by_cases c44 : m = 44
  · subst c44
    refine qg_sw (k' := 6) rfl (by decide) ?_
    refine qg_pls (n := 1) (k' := 7) (lo' := [some (.int (nI 44))]) (S' := [.retAddr 84]) (h' := h) rfl ?_
    exact qg_ret6 rfl rfl
  by_cases c46 : m = 46
  · subst c46
    refine qg_sw (k' := 8) rfl (by decide) ?_
    refine qg_pls (n := 1) (k' := 9) (lo' := [some (.int (nI 46))]) (S' := [.retAddr 85]) (h' := h) rfl ?_
    exact qg_ret6 rfl rfl
  by_cases c59 : m = 59
  · subst c59
    refine qg_sw (k' := 10) rfl (by decide) ?_
    refine qg_pls (n := 1) (k' := 11) (lo' := [some (.int (nI 59))]) (S' := [.retAddr 86]) (h' := h) rfl ?_
    exact qg_ret6 rfl rfl
  by_cases c43 : m = 43
  · subst c43
    refine qg_sw (k' := 12) rfl (by decide) ?_
    refine qg_pls (n := 1) (k' := 13) (lo' := [some (.int (nI 43))]) (S' := [.retAddr 87]) (h' := h) rfl ?_
    exact qg_ret6 rfl rfl
  by_cases c45 : m = 45
  · subst c45
    refine qg_sw (k' := 14) rfl (by decide) ?_
    refine qg_pls (n := 1) (k' := 15) (lo' := [some (.int (nI 45))]) (S' := [.retAddr 88]) (h' := h) rfl ?_
    exact qg_ret6 rfl rfl
  by_cases c42 : m = 42
  · subst c42
    refine qg_sw (k' := 16) rfl (by decide) ?_
    refine qg_pls (n := 1) (k' := 17) (lo' := [some (.int (nI 42))]) (S' := [.retAddr 89]) (h' := h) rfl ?_
    exact qg_ret6 rfl rfl
  by_cases c47 : m = 47
  · subst c47
    refine qg_sw (k' := 18) rfl (by decide) ?_
    refine qg_pls (n := 1) (k' := 19) (lo' := [some (.int (nI 47))]) (S' := [.retAddr 90]) (h' := h) rfl ?_
    exact qg_ret6 rfl rfl
  by_cases c37 : m = 37
  · subst c37
    refine qg_sw (k' := 20) rfl (by decide) ?_
    refine qg_pls (n := 1) (k' := 21) (lo' := [some (.int (nI 37))]) (S' := [.retAddr 91]) (h' := h) rfl ?_
    exact qg_ret6 rfl rfl
  by_cases c61 : m = 61
  · subst c61
    refine qg_sw (k' := 22) rfl (by decide) ?_
    refine qg_pls (n := 1) (k' := 23) (lo' := [some (.int (nI 61))]) (S' := [.retAddr 93]) (h' := h) rfl ?_
    exact qg_ret6 rfl rfl
  by_cases c60 : m = 60
  · subst c60
    refine qg_sw (k' := 24) rfl (by decide) ?_
    refine qg_pls (n := 1) (k' := 25) (lo' := [some (.int (nI 60))]) (S' := [.retAddr 95]) (h' := h) rfl ?_
    exact qg_ret6 rfl rfl
  by_cases c62 : m = 62
  · subst c62
    refine qg_sw (k' := 26) rfl (by decide) ?_
    refine qg_pls (n := 1) (k' := 27) (lo' := [some (.int (nI 62))]) (S' := [.retAddr 97]) (h' := h) rfl ?_
    exact qg_ret6 rfl rfl
  have hd := of_decide_eq_true (List.all_eq_true.mp q_onea m (List.mem_range.mpr hm))
  simp only [c40, c41, c44, c46, c59, c43, c45, c42, c47, c37, c61, c60, c62, false_or] at hd
  rw [hd.2]
  refine qg_sw (k' := 28) rfl hd.1 ?_
  refine qg_pls (n := 1) (k' := 29) (lo' := [some (.int (nI m))]) (S' := [.retAddr 103]) (h' := h) rfl ?_
  exact qg_ret6 rfl rfl
end QSC
