def qt_E (i : Nat) : Term := .static "QueryReader$Sort" (qr_nm.getD i "") "LQueryReader$Sort;"
def qt_S (q : String × Nat) : Term := .string q.1 q.2
def qt_V (j : Nat) : Term := .field (qt_S (qr_rp.getD j ("", 0))) "java/lang/String" "value" "[B"
def qt_so : Term := .static "QueryReader" "SORTS" "[LQueryReader$Sort;"
def qt_sw : Term := .static "QueryReader$1" "$SwitchMap$QueryReader$Sort" "[I"
/-- the word stands at the place -/
def qn_at (j : Nat) (w : Cond) : Bool := decide (qr_NL[j]? = some w)
theorem qn_ok {args : Array Value} {s : State} (hs : ∀ w ∈ qr_NL, w.before args s = true) {j : Nat} {w : Cond} (h : qn_at j w = true) : w.before args s = true := hs w (List.mem_of_getElem? (of_decide_eq_true h))
def qn_cE (i : Nat) : Bool := qn_at (qn_ex.getD i 0) (.exactly (qt_E i) "QueryReader$Sort") && (qn_at (qn_or.getD i 0) (.eq (.field (qt_E i) "java/lang/Enum" "ordinal" "I") (.int (Int32.ofNat i))) && (qn_at (qn_mk.getD i 0) (.eq (.field (qt_E i) "QueryReader$Sort" "makes" "I") (.int (qr_en.getD i (0, 0)).2)) && (qn_at (qn_te.getD i 0) (.eq (.field (qt_E i) "QueryReader$Sort" "text" "Ljava/lang/String;") (qt_S (qr_te.getD i ("", 0)))) && (match qr_ys[qr_tk.getD i 0]? with
  | some q => decide (q.1 = (qr_te.getD i ("", 0)).1 ∧ q.2.1 = (qr_te.getD i ("", 0)).2 ∧ q.2.2.2 = (qr_en.getD i (0, 0)).1)
  | none => false))))
set_option maxRecDepth 100000 in
theorem qn_E0 : (List.range 104).all qn_cE = true := by decide +kernel
