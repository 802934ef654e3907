def qn_tb (j : Nat) (w : Cond) : Bool := decide (lw_tbl[j]? = some w)
theorem qn_tb_in {j : Nat} {w : Cond} (h : qn_tb j w = true) : w ∈ lw_tbl := List.mem_of_getElem? (of_decide_eq_true h)
def qn_cS (j : Nat) : Bool := qn_at (qn_sx.getD j 0) (.exactly (qt_S (qr_rp.getD j ("", 0))) "java/lang/String") && (qn_at (qn_sc.getD j 0) (.eq (.field (qt_S (qr_rp.getD j ("", 0))) "java/lang/String" "coder" "B") (.int 0)) && (qn_at (qn_sa.getD j 0) (.arrayOf (qt_V j) .byte) && (qn_at (qn_sl.getD j 0) (.eq (.length (qt_V j)) (.int (Int32.ofNat (qr_tx.getD j []).length))) && (decide ((qr_tx.getD j []).length < 2 ^ 31) && (List.range (qr_tx.getD j []).length).all (fun k => qn_at ((qn_se.getD j []).getD k 0) (.eq (.elem (qt_V j) (.int (Int32.ofNat k))) (.int ((qr_tx.getD j []).getD k 0))))))))
def qn_cD (k : Nat) : Bool := match qr_ys[k]? with
  | some q => decide (1000 ≤ q.2.2.2 ∧ q.2.2.2 < 1112) && (qn_tb (qn_dl.getD k 0) (Cond.stringRef q.1 q.2.1 q.2.2.1) && (match qn_dup.getD k (0, 0) with
    | (0, _) => decide ((q.1, q.2.1) = qr_rp.getD (q.2.2.2 - 1000) ("", 0))
    | (1, p) => qn_at p (.eq (qt_S (q.1, q.2.1)) (qt_S (qr_rp.getD (q.2.2.2 - 1000) ("", 0))))
    | (_, p) => qn_at p (.eq (qt_S (qr_rp.getD (q.2.2.2 - 1000) ("", 0))) (qt_S (q.1, q.2.1)))))
  | none => true
def qn_cA : Bool := qn_at (qn_so.getD 0 0) (.arrayOf qt_so (.object "QueryReader$Sort")) && (qn_at (qn_so.getD 1 0) (.eq (.length qt_so) (.int (Int32.ofNat 104))) && ((List.range 104).all (fun j => qn_at (qn_so.getD (j + 2) 0) (.eq (.elem qt_so (.int (Int32.ofNat j))) (qt_E j))) && (qn_at (qn_sw.getD 0 0) (.arrayOf qt_sw .int) && (qn_at (qn_sw.getD 1 0) (.eq (.length qt_sw) (.int (Int32.ofNat 104))) && ((List.range 104).all (fun j => qn_at (qn_sw.getD (j + 2) 0) (.eq (.elem qt_sw (.int (Int32.ofNat j))) (.int (qr_sw.getD j 0)))) && (qn_at qn_cs (.eq (.static "java/lang/String" "COMPACT_STRINGS" "Z") (.int 1)) && qn_at qn_si (.isRef (.static "jdk/internal/util/Preconditions" "SIOOBE_FORMATTER" "Ljava/util/function/BiFunction;"))))))))
set_option maxRecDepth 100000 in
theorem qn_A0 : qn_cA = true := by decide +kernel
/-- words of the tables that the start's facts need -/
def qn_ow : List Cond := [Cond.initialized "QueryReader$Sort", .initialized "QueryReader", .initialized "QueryReader$1", .initialized "java/lang/String", .initialized "jdk/internal/util/Preconditions", .initialized Bundle.tN, .laysStatic "QueryReader" "SORTS" "[LQueryReader$Sort;", .laysStatic "QueryReader$1" "$SwitchMap$QueryReader$Sort" "[I", .laysStatic "java/lang/String" "COMPACT_STRINGS" "Z", .laysStatic "jdk/internal/util/Preconditions" "SIOOBE_FORMATTER" "Ljava/util/function/BiFunction;", .laysStatic Bundle.tN "UNASSIGNED_STACK" Bundle.steD, .laysStatic Bundle.tN "SUPPRESSED_SENTINEL" Bundle.listD, .arrayOver (.object "QueryReader$Sort"), .arrayOver (.object "java/lang/String")]
set_option maxRecDepth 100000 in
theorem qn_T1 : (List.range 104).all (fun i => qn_tb (qn_ll.getD i 0) (.laysStatic "QueryReader$Sort" (qr_nm.getD i "") "LQueryReader$Sort;")) = true := by decide +kernel
set_option maxRecDepth 100000 in
theorem qn_T2 : (List.range 14).all (fun i => qn_tb (qn_ot.getD i 0) (qn_ow.getD i .tt)) = true := by decide +kernel
set_option maxRecDepth 100000 in
theorem qn_T3 : (qn_at (qn_is.getD 0 0) (.isRef (.static Bundle.tN "UNASSIGNED_STACK" Bundle.steD)) && qn_at (qn_is.getD 1 0) (.isRef (.static Bundle.tN "SUPPRESSED_SENTINEL" Bundle.listD))) = true := by decide +kernel
