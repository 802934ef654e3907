/-! THE PICTURE: what the class does with the tokens of a text, over a small state and nothing else. 'none' says nothing: out of turns, or out of room. (#-names are replaced by numbers by wip/whole/pp.py.) -/
/-- at which token; how many are open; the most that were; how many operators wait; the plain form -/
abbrev zS : Type := Nat × Nat × Nat × Nat × List Int32
/-- an answer, or a fault, and the state -/
abbrev zR (α : Type) : Type := Option (Option α × zS)
abbrev zP : Type := zS → zR Nat
/-- the tokens (sort, from, to) and the text -/
abbrev zE : Type := List (Nat × Nat × Nat) × List Int32
/-- operators that wait: where it begins, what it makes -/
abbrev zK : Type := List (Nat × Nat)
def zbd {α β : Type} (r : zR α) (f : α → zS → zR β) : zR β := match r with
  | none => none
  | some (none, s) => some (none, s)
  | some (some v, s) => f v s
def zq (a b : zP) : zP := fun s => zbd (a s) fun _ s => b s
def zi (a b c : zP) : zP := fun s => zbd (a s) fun v s => if v = 0 then c s else b s
def zv (v : Nat) : zP := fun s => some (some v, s)
def zf : zP := fun s => some (none, s)
def ztk (e : zE) (i : Nat) : Nat := (e.1.getD i (102, 0, 0)).1
def zfr (e : zE) (i : Nat) : Nat := (e.1.getD i (102, 0, 0)).2.1
def zto (e : zE) (i : Nat) : Nat := (e.1.getD i (102, 0, 0)).2.2
/-- what an expression is made by when the token stands between its operands -/
def zmk (e : zE) (i : Nat) : Nat := (qr_en.getD (ztk e i) (0, 0)).2.toNatClampNeg
def zc (e : zE) (k : Nat) (a b : zP) : zP := fun s => if ztk e s.1 = k then a s else b s
/-- the text of a sort -/
def zw (k : Nat) : List Int32 := zt (qr_en.getD k (0, 0)).1
def zput (t : List Int32) : zP := fun s => if 524288 < s.2.2.2.2.length + t.length + 1 then none else some (some 0, (s.1, s.2.1, s.2.2.1, s.2.2.2.1, s.2.2.2.2 ++ t ++ [32]))
def zrise : zP := fun s => if 40 ≤ s.2.1 then some (none, s) else some (some 0, (s.1, s.2.1 + 1, max s.2.2.1 (s.2.1 + 1), s.2.2.2))
def zdown : zP := fun s => if s.2.1 = 0 then none else some (some 0, (s.1, s.2.1 - 1, s.2.2))
def znext : zP := fun s => if 100000 ≤ s.1 then none else some (some 0, (s.1 + 1, s.2))
def zstep (e : zE) : zP := fun s => if ztk e s.1 = 82 ∨ ztk e s.1 = 10 then zq zrise znext s else if ztk e s.1 = 83 ∨ ztk e s.1 = 25 then zq zdown znext s else znext s
/-- a token that must be here and stands in the plain form -/
def zcp (e : zE) (k : Nat) : zP := zc e k (zq (zput (zw k)) (zstep e)) zf
/-- one that may be here -/
def zci (e : zE) (k : Nat) : zP := zc e k (zq (zput (zw k)) (zq (zstep e) (zv 1))) (zv 0)
/-- the same, not in the plain form -/
def zsk (e : zE) (k : Nat) : zP := zc e k (zstep e) zf
def zsi (e : zE) (k : Nat) : zP := zc e k (zq (zstep e) (zv 1)) (zv 0)
def zsl (e : zE) (i : Nat) : List Int32 := (e.2.drop (zfr e i)).take (zto e i - zfr e i)
def zlow (c : Int32) : Int32 := if 65 ≤ c ∧ c ≤ 90 then c - 65 + 97 else c
def zsm (x : Int32) : Int32 := zb (zlow (x &&& 255))
/-- without zeros before it -/
def znz : List Int32 → List Int32
  | [] => []
  | x :: r => if x = 48 ∧ r ≠ [] then znz r else x :: r
def znm (e : zE) : zP := zc e 99 (fun s => zq (zput ((zsl e s.1).map zsm)) (zstep e) s) zf
def zst (e : zE) : zP := fun s => zq (zput (zsl e s.1)) (zstep e) s
def znu (e : zE) : zP := zc e 100 (fun s => zq (zput (znz (zsl e s.1))) (zstep e) s) zf
/-- again and again while it answers other than 0; each turn takes a token -/
def zlp (a : zP) : Nat → zP
  | 0 => fun _ => none
  | n + 1 => fun s => zbd (a s) fun v s1 => if v = 0 then some (some 0, s1) else if s1.1 ≤ s.1 then none else zlp a n s1
def zN : Nat := 70000
/-! statements; ex and qy read an expression and a query -/
def zl_names (e : zE) : zP := zi (zci e 84) (zq (znm e) (zv 1)) (zv 0)
def z_names (e : zE) : zP := zq (zcp e 82) (zq (znm e) (zq (zlp (zl_names e) zN) (zcp e 83)))
def z_brex (e : zE) (ex : zP) : zP := zq (zcp e 82) (zq ex (zcp e 83))
def z_preset (e : zE) : zP := zc e 101 (zst e) (zi (zci e 50) (zv 0) (zq (zci e 88) (znu e)))
def z_refer (e : zE) : zP := zq (znm e) (zi (zci e 53) (zq (zcp e 20) (zi (zci e 67) (zcp e 50) (zi (zci e 9) (zv 0) (zcp e 62)))) (zput (zt 1009)))
def z_option (e : zE) (ex : zP) : zP := zi (zci e 49) (zq (zcp e 50) (zv 1)) (zi (zci e 59) (zq (zcp e 39) (zv 1)) (zi (zci e 19) (zq (z_preset e) (zv 1)) (zi (zci e 12) (zq (z_brex e ex) (zv 1)) (zi (zci e 61) (zq (z_refer e) (zv 1)) (zci e 76)))))
def z_type (e : zE) : zP := zi (zci e 35) (zv 0) (zcp e 72)
def z_column (e : zE) (ex : zP) : zP := zq (znm e) (zq (z_type e) (zlp (z_option e ex) zN))
def z_elem (e : zE) (ex : zP) : zP := zc e 99 (z_column e ex) (zi (zci e 12) (z_brex e ex) (zi (zci e 76) (z_names e) (zq (zcp e 59) (zq (zcp e 39) (z_names e)))))
def zl_elem (e : zE) (ex : zP) : zP := zq (z_elem e ex) (zci e 84)
def z_table (e : zE) (ex : zP) : zP := zq (zcp e 71) (zq (znm e) (zq (zcp e 82) (zq (zlp (zl_elem e ex) zN) (zq (zcp e 83) (zv 1)))))
def z_index (e : zE) : zP := zq (zci e 76) (zq (zcp e 32) (zq (znm e) (zq (zcp e 53) (zq (znm e) (zq (z_names e) (zv 2))))))
def z_drop (e : zE) : zP := zq (zcp e 23) (zc e 32 (zq (zcp e 32) (zq (znm e) (zv 4))) (zq (zcp e 71) (zq (znm e) (zv 3))))
/-- e {, e} -/
def zl_exs (e : zE) (ex : zP) : zP := zi (zci e 84) (zq ex (zv 1)) (zv 0)
def z_exs (e : zE) (ex : zP) : zP := zq ex (zlp (zl_exs e ex) zN)
def zl_rows (e : zE) (ex : zP) : zP := zq (zcp e 82) (zq (z_exs e ex) (zq (zcp e 83) (zci e 84)))
def z_insert (e : zE) (ex qy : zP) : zP := zq (zcp e 34) (zq (zcp e 36) (zq (znm e) (zq (zc e 82 (z_names e) (zv 0)) (zc e 65 (zq qy (zv 5)) (zq (zcp e 79) (zq (zlp (zl_rows e ex) zN) (zv 5)))))))
def z_cond (e : zE) (ex : zP) : zP := zi (zci e 81) (zq ex (zv 0)) (zv 0)
def zl_set (e : zE) (ex : zP) : zP := zq (znm e) (zq (zcp e 93) (zq ex (zci e 84)))
def z_update (e : zE) (ex : zP) : zP := zq (zcp e 77) (zq (znm e) (zq (zcp e 67) (zq (zlp (zl_set e ex) zN) (zq (z_cond e ex) (zv 6)))))
def z_delete (e : zE) (ex : zP) : zP := zq (zcp e 20) (zq (zcp e 28) (zq (znm e) (zq (z_cond e ex) (zv 7))))
def z_begin (e : zE) : zP := zq (zcp e 6) (zq (zi (zci e 60) (zi (zci e 15) (zv 0) (zcp e 75)) (zi (zci e 66) (zv 0) (zput (zt 1010)))) (zv 9))
def z_commit (e : zE) : zP := zq (zcp e 14) (zi (zci e 58) (zq (znu e) (zv 16)) (zv 10))
def z_rollback (e : zE) : zP := zq (zcp e 63) (zi (zci e 74) (zq (znm e) (zv 13)) (zi (zci e 58) (zq (znu e) (zv 17)) (zv 11)))
def z_lock (e : zE) : zP := zq (zcp e 44) (zq (zcp e 71) (zq (znm e) (zq (zcp e 31) (zq (zi (zci e 68) (zv 0) (zcp e 26)) (zq (zcp e 48) (zv 14))))))
def z_alias (e : zE) : zP := zi (zci e 3) (zq (znm e) (zv 0)) (zv 0)
def z_item (e : zE) (ex : zP) : zP := fun s => if ztk e s.1 = 99 then (if ztk e (s.1 + 1) = 85 then (if ztk e (s.1 + 2) = 89 then zq (znm e) (zq (zcp e 85) (zcp e 89)) s else zq ex (z_alias e) s) else zq ex (z_alias e) s) else zq ex (z_alias e) s
def zl_items (e : zE) (ex : zP) : zP := zq (z_item e ex) (zci e 84)
def z_items (e : zE) (ex : zP) : zP := zlp (zl_items e ex) zN
def z_source (e : zE) : zP := zq (znm e) (z_alias e)
def z_on (e : zE) (ex : zP) : zP := zq (z_source e) (zq (zcp e 53) (zq ex (zv 1)))
def z_join (e : zE) (ex : zP) : zP := zi (zsi e 84) (zq (zput (zt 1006)) (zq (z_source e) (zv 1))) (zi (zci e 40) (zq (zsi e 56) (zq (zcp e 38) (z_on e ex))) (zi (zci e 18) (zq (zcp e 38) (zq (z_source e) (zv 1))) (zi (zsi e 33) (zq (zcp e 38) (z_on e ex)) (zc e 38 (zq (zcp e 38) (z_on e ex)) (zv 0)))))
def z_sources (e : zE) (ex : zP) : zP := zq (z_source e) (zlp (z_join e ex) zN)
def z_order (e : zE) (ex : zP) : zP := zq ex (zi (zsi e 4) (zv 0) (zq (zci e 21) (zv 0)))
def zl_orders (e : zE) (ex : zP) : zP := zq (z_order e ex) (zci e 84)
def z_orders (e : zE) (ex : zP) : zP := zlp (zl_orders e ex) zN
def z_query (e : zE) (ex : zP) : zP := zq (zcp e 65) (zq (zci e 22) (zq (zi (zci e 89) (zv 0) (z_items e ex)) (zq (zi (zci e 28) (z_sources e ex) (zv 0)) (zq (z_cond e ex) (zq (zi (zci e 29) (zq (zcp e 8) (z_exs e ex)) (zv 0)) (zq (zi (zci e 30) (zq ex (zv 0)) (zv 0)) (zq (zi (zci e 55) (zq (zcp e 8) (z_orders e ex)) (zv 0)) (zi (zci e 43) (zq (znu e) (zi (zci e 52) (zq (znu e) (zv 0)) (zv 0))) (zv 0)))))))))
/-! expressions -/
def zpush (st ma : Nat) (p : zK) : zS → zR zK := fun s => if 300 ≤ s.2.2.2.1 then none else some (some ((st, ma) :: p), (s.1, s.2.1, s.2.2.1, s.2.2.2.1 + 1, s.2.2.2.2))
def zpop : zP := fun s => if s.2.2.2.1 = 0 then none else some (some 0, (s.1, s.2.1, s.2.2.1, s.2.2.2.1 - 1, s.2.2.2.2))
def zpre (e : zE) (k ma : Nat) : Nat → zK → zS → zR zK
  | 0, _, _ => none
  | n + 1, p, s => if ztk e s.1 = k then zbd (zrise s) fun _ s => zbd (zpush s.2.2.2.2.length ma p s) fun p s => zbd (zput (zt 1005) s) fun _ s => zbd (zput (zw k) s) fun _ s => zbd (zstep e s) fun _ s => zpre e k ma n p s else some (some p, s)
def zcb (nx : Nat) : zK → Nat → Nat → zS → zR (zK × Nat × Nat)
  | [], st, ma, s => some (some ([], st, ma), s)
  | q :: p, st, ma, s => if nx ≤ q.2 then zbd (zpop s) fun _ s => zbd (zput (zt 1008) s) fun _ s => zbd ((if q.2 = 3 ∨ q.2 = 8 then zdown else zv 0) s) fun _ s => zcb nx p q.1 q.2 s else some (some (q :: p, st, ma), s)
def zreopen : zP := fun s => if s.2.2.2.2.length < 2 then none else some (some 0, (s.1, s.2.1, s.2.2.1, s.2.2.2.1, s.2.2.2.2.take (s.2.2.2.2.length - 2)))
def zopen (st : Nat) : zP := fun s => if s.2.2.2.2.length < st ∨ 524288 < s.2.2.2.2.length + 2 then none else some (some 0, (s.1, s.2.1, s.2.2.1, s.2.2.2.1, s.2.2.2.2.take st ++ [40, 32] ++ s.2.2.2.2.drop st))
def zcomb (nx st ma : Nat) (p : zK) : zS → zR (zK × Nat) := fun s => zbd (zcb nx p st ma s) fun q s => if nx = 0 then some (some (q.1, q.2.2), s) else zbd (zpush q.2.1 nx q.1 s) fun p s => zbd ((if q.2.2 = nx then zreopen else zopen q.2.1) s) fun _ s => some (some (p, q.2.2), s)
/-- operands and operators of one family: the prefix kp makes mp; fam tells which operators belong to it -/
def zops (e : zE) (kp mp : Nat) (fam : Nat → Bool) (od : zP) : Nat → zK → zP
  | 0, _, _ => none
  | n + 1, p, s => zbd (zpre e kp mp 42 p s) fun p s1 => zbd (od s1) fun ma s4 => zbd (zcomb (if fam (zmk e s4.1) = true then zmk e s4.1 else 0) s1.2.2.2.2.length ma p s4) fun q s2 => if fam (zmk e s2.1) = true then zbd (zcp e (ztk e s2.1) s2) fun _ s3 => if s3.1 ≤ s.1 then none else zops e kp mp fam od n q.1 s3 else some (some q.2, s2)
def zfamS (m : Nat) : Bool := decide (5 ≤ m)
def zfamE (m : Nat) : Bool := decide (m = 1 ∨ m = 2)
def z_sum (e : zE) (pr : zP) : zP := zops e 88 8 zfamS pr zN []
def ztest : zP := fun s => if 300 ≤ s.2.2.2.1 then none else some (some 0, (s.1, s.2.1, s.2.2.1, s.2.2.2.1 + 1, s.2.2.2.2))
def z_members (e : zE) (ex qy : zP) : zP := zq (zcp e 82) (zq (zc e 65 qy (z_exs e ex)) (zcp e 83))
def z_test (e : zE) (pr ex qy : zP) (st : Nat) : zP := zq (zopen st) (zq (fun s =>
  if zmk e s.1 = 4 then zq (zcp e (ztk e s.1)) (zq ztest (zq (z_sum e pr) zpop)) s
  else zi (zci e 37) (zq (zci e 49) (zcp e 50)) (zq (zci e 49) (zi (zci e 31) (z_members e ex qy) (zi (zci e 7) (zq ztest (zq (z_sum e pr) (zq (zcp e 2) (zq (z_sum e pr) zpop)))) (zq (zcp e 42) (zq ztest (zq (z_sum e pr) zpop)))))) s) (zq (zput (zt 1008)) (zv 4)))
def z_cmp (e : zE) (pr ex qy : zP) : zP := fun s => zbd (z_sum e pr s) fun ma s1 => if zmk e s1.1 = 4 ∨ ztk e s1.1 = 37 ∨ ztk e s1.1 = 49 ∨ ztk e s1.1 = 31 ∨ ztk e s1.1 = 7 ∨ ztk e s1.1 = 42 then z_test e pr ex qy s.2.2.2.2.length s1 else some (some ma, s1)
def zl_whens (e : zE) (ex : zP) : zP := zq (zcp e 80) (zq ex (zq (zcp e 73) (zq ex (zc e 80 (zv 1) (zv 0)))))
def z_cases (e : zE) (ex : zP) : zP := zq (zcp e 10) (zq (zlp (zl_whens e ex) zN) (zq (zi (zci e 24) ex (zv 0)) (zcp e 25)))
def z_agg (e : zE) (ex : zP) : zP := fun s => zq (zcp e (ztk e s.1)) (zq (zcp e 82) (zq (if ztk e s.1 = 16 then zi (zci e 89) (zv 0) (zq (zci e 22) ex) else zq (zci e 22) ex) (zcp e 83))) s
def z_args (e : zE) (a : zP) : zP := fun s => zq (zcp e (ztk e s.1)) (zq (zcp e 82) (zq a (zcp e 83))) s
def z_a23 (e : zE) (ex : zP) : zP := zq ex (zq (zcp e 84) (zq ex (zi (zci e 84) ex (zv 0))))
def z_a22 (e : zE) (ex : zP) : zP := zq ex (zq (zcp e 84) ex)
def z_cast (e : zE) (ex : zP) : zP := zq (zcp e 11) (zq (zcp e 82) (zq ex (zq (zcp e 3) (zq (z_type e) (zcp e 83)))))
def z_fun (e : zE) (ex : zP) : zP := fun s =>
  if ztk e s.1 = 0 then z_args e ex s
  else if ztk e s.1 = 41 then z_args e ex s
  else if ztk e s.1 = 78 then z_args e ex s
  else if ztk e s.1 = 45 then z_args e ex s
  else if ztk e s.1 = 69 then z_args e (z_a23 e ex) s
  else if ztk e s.1 = 13 then z_args e (z_exs e ex) s
  else if ztk e s.1 = 51 then z_args e (z_a22 e ex) s
  else if ztk e s.1 = 11 then z_cast e ex s
  else if ztk e s.1 = 16 then z_agg e ex s
  else if ztk e s.1 = 70 then z_agg e ex s
  else if ztk e s.1 = 47 then z_agg e ex s
  else if ztk e s.1 = 46 then z_agg e ex s
  else if ztk e s.1 = 5 then z_agg e ex s
  else zf s
def z_prim (e : zE) (ex qy : zP) : zP := fun s =>
  if ztk e s.1 = 100 then zq (znu e) (zv 0) s
  else if ztk e s.1 = 101 then zq (zst e) (zv 0) s
  else if ztk e s.1 = 50 then zq (zcp e 50) (zv 0) s
  else if ztk e s.1 = 99 then zq (znm e) (zi (zci e 85) (zq (znm e) (zv 0)) (zv 0)) s
  else if ztk e s.1 = 82 then zq (zsk e 82) (fun s => zbd (ex s) fun ma s => zq (zsk e 83) (zv ma) s) s
  else if ztk e s.1 = 27 then zq (zcp e 27) (zq (zcp e 82) (zq qy (zq (zcp e 83) (zv 0)))) s
  else if ztk e s.1 = 10 then zq (z_cases e ex) (zv 0) s
  else zq (z_fun e ex) (zv 0) s
def z_ex (e : zE) (ex qy : zP) : zP := zops e 49 3 zfamE (z_cmp e (z_prim e ex qy) ex qy) zN []
/-- an expression (true), a query (false), at most so deep in each other -/
def zsp (e : zE) : Nat → Bool → zP
  | 0, _ => fun _ => none
  | n + 1, true => z_ex e (zsp e n true) (zsp e n false)
  | n + 1, false => z_query e (zsp e n true)
def z_stmt (e : zE) (ex qy : zP) : zP := fun s =>
  if ztk e s.1 = 17 then zq (zcp e 17) (zc e 71 (z_table e ex) (z_index e)) s
  else if ztk e s.1 = 23 then z_drop e s
  else if ztk e s.1 = 34 then z_insert e ex qy s
  else if ztk e s.1 = 77 then z_update e ex s
  else if ztk e s.1 = 20 then z_delete e ex s
  else if ztk e s.1 = 65 then zq qy (zv 8) s
  else if ztk e s.1 = 6 then z_begin e s
  else if ztk e s.1 = 14 then z_commit e s
  else if ztk e s.1 = 63 then z_rollback e s
  else if ztk e s.1 = 64 then zq (zcp e 64) (zq (znm e) (zv 12)) s
  else if ztk e s.1 = 44 then z_lock e s
  else if ztk e s.1 = 57 then zq (zcp e 57) (zq (znu e) (zv 15)) s
  else zf s
def zdrop : zP := fun s => if s.2.2.2.2.length = 0 then none else some (some 0, (s.1, s.2.1, s.2.2.1, s.2.2.2.1, s.2.2.2.2.take (s.2.2.2.2.length - 1)))
def z_finish (e : zE) : zP := zq (zsi e 86) (zq (zsk e 102) zdrop)
