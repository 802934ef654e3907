/-! THE TABLES OF A METHOD ARE CHECKED BY PROGRAM: every instruction's link stands among the words TB, at the place that it names. -/
def ai_tb (TB : List Cond) (j : Int) (w : Cond) : Bool := decide (TB[j.toNat]? = some w)
theorem ai_tb_ok {TB : List Cond} {j : Int} {w : Cond} {s : State} {args : Array Value} (hts : ∀ w ∈ TB, w.before args s = true) (h : ai_tb TB j w = true) : w.before args s = true := hts w (List.mem_of_getElem? (of_decide_eq_true h))
/-- where the k-th instruction stands -/
def ai_pcs (M : ai_M) (k : Nat) : Nat := match (ai_Mc M)[k]? with
  | some it => it.1
  | none => 0
def ai_flc (TB : List Cond) (own : String) (idx : Nat) (q : String × String × String × Bool) (j : Int) : Bool := match TB[j.toNat]? with
  | some (.fieldLink o ix c n d) => decide (o = own ∧ ix = idx ∧ c = q.1 ∧ n = q.2.1 ∧ d = q.2.2.1)
  | some (.fieldLinkNest o ix c n d _) => decide (o = own ∧ ix = idx ∧ c = q.1 ∧ n = q.2.1 ∧ d = q.2.2.1)
  | _ => false
theorem ai_flc_ok {TB : List Cond} {own : String} {idx : Nat} {q : String × String × String × Bool} {j : Int} {s : State} {args : Array Value} (hts : ∀ w ∈ TB, w.before args s = true) (h : ai_flc TB own idx q j = true) : ai_fl s args own idx q := by
  unfold ai_flc at h
  split at h
  · rename_i o ix c n d hj
    obtain ⟨rfl, rfl, rfl, rfl, rfl⟩ := of_decide_eq_true h
    exact Or.inl (hts _ (List.mem_of_getElem? hj))
  · rename_i o ix c n d host hj
    obtain ⟨rfl, rfl, rfl, rfl, rfl⟩ := of_decide_eq_true h
    exact Or.inr ⟨host, hts _ (List.mem_of_getElem? hj)⟩
  · cases h
def ai_brc (M : ai_M) (pc : Nat) (off : Int) (len : Nat) (r : ai_R) : Bool := decide (len = 3 ∧ (pc : Int) + off = (ai_pcs M (ai_tgt r) : Int))
def ai_ldc (TB : List Cond) (y : ai_Y) (own : String) (idx : Nat) (r : ai_R) : Bool := match ai_nth r 0 with
  | 1 => ai_tb TB (ai_nth r 2) (.constant own idx (Int32.ofInt (ai_nth r 1)))
  | 2 => (match (ai_ys y)[(ai_nth r 2).toNat]? with
    | some q => decide (q.1 = own ∧ q.2.1 = idx ∧ q.2.2.2 = (ai_nth r 1).toNat)
    | none => false)
  | _ => false
theorem ai_ldc_ok {TB : List Cond} {y : ai_Y} {own : String} {idx : Nat} {r : ai_R} {s : State} {args : Array Value} {sa : Nat → Nat} {A : Nat → Prop} (hts : ∀ w ∈ TB, w.before args s = true) (hE : ai_E y sa A s s.heap) (h : ai_ldc TB y own idx r = true) :
    (ai_nth r 0 = 1 ∧ (Cond.constant own idx (Int32.ofInt (ai_nth r 1))).before args s = true) ∨ (ai_nth r 0 = 2 ∧ ∃ tx, vk_R own idx tx (sa (ai_nth r 1).toNat) s) := by
  unfold ai_ldc at h
  split at h
  · rename_i h0
    exact Or.inl ⟨h0, ai_tb_ok hts h⟩
  · rename_i h0
    split at h
    · rename_i q hq
      obtain ⟨e1, e2, e3⟩ := of_decide_eq_true h
      refine Or.inr ⟨h0, q.2.2.1, ?_⟩
      have := hE.2.1 q (List.mem_of_getElem? hq)
      rw [e1, e2, e3] at this
      exact this
    · cases h
  · cases h
def ai_chk0 (TB : List Cond) (y : ai_Y) (M : ai_M) (pc : Nat) (i : Instr) (len : Nat) (r : ai_R) : Bool := match i with
  | .ldc idx => decide (len = 2) && ai_ldc TB y (ai_Mn M).cls idx r
  | .ldc_w idx => decide (len = 3) && ai_ldc TB y (ai_Mn M).cls idx r
  | .getstatic idx => decide (len = 3) && (match (ai_yf y)[(ai_nth r 2).toNat]? with
    | some q => ai_flc TB (ai_Mn M).cls idx (q.1, q.2.1, q.2.2.1, false) (ai_nth r 3) && decide ((ai_nth r 0 = 1 ∧ q.2.2.2 = .int (Int32.ofInt (ai_nth r 1))) ∨ (ai_nth r 0 = 2 ∧ q.2.2.2 = .retAddr (ai_nth r 1).toNat) ∨ (ai_nth r 0 = 3 ∧ q.2.2.2 = .float 0))
    | none => false)
  | .getfield idx => decide (len = 3) && (match (ai_yl y)[(ai_nth r 0).toNat]? with
    | some q => decide ((ai_nth r 1).toNat < q.2.2) && ai_flc TB (ai_Mn M).cls idx (q.2.1 (ai_nth r 1).toNat) (ai_nth r 2)
    | none => ai_flc TB (ai_Mn M).cls idx ((ai_yc y (ai_nth r 0).toNat).2 (ai_nth r 1).toNat) (ai_nth r 2))
  | .putfield idx => decide (len = 3) && (match (ai_yl y)[(ai_nth r 0).toNat]? with
    | some q => decide ((ai_nth r 1).toNat < q.2.2) && (ai_tb TB (ai_nth r 2) (.fieldLink (ai_Mn M).cls idx (q.2.1 (ai_nth r 1).toNat).1 (q.2.1 (ai_nth r 1).toNat).2.1 (q.2.1 (ai_nth r 1).toNat).2.2.1) && decide ((q.2.1 (ai_nth r 1).toNat).2.2.2 = false ∨ ((ai_Mn M).name = "<init>" ∧ (q.2.1 (ai_nth r 1).toNat).1 = (ai_Mn M).cls)))
    | none => false)
  | .new idx => decide (len = 3) && (match (ai_yl y)[(ai_nth r 0).toNat]? with
    | some q => ai_tb TB (ai_nth r 1) (.classLink (ai_Mn M).cls idx q.1) && (ai_tb TB (ai_nth r 2) (.instantiable q.1 q.2.2) && ai_tb TB (ai_nth r 3) (.initialized q.1))
    | none => false)
  | .newarray t => decide (len = 2) && (decide (newarray.typeOf t = .int ∨ newarray.typeOf t = .byte ∨ newarray.typeOf t = .short ∨ newarray.typeOf t = .long) && ai_tb TB (ai_nth r 0) (.arrayClass (newarray.typeOf t)))
  | .anewarray idx => decide (len = 3) && (ai_tb TB (ai_nth r 0) (.classLink (ai_Mn M).cls idx r.2.2) && decide (r.2.2 = "QueryReader$Sort" ∨ r.2.2 = "java/lang/String"))
  | .instanceof idx => decide (len = 3) && ai_tb TB (ai_nth r 0) (.classLink (ai_Mn M).cls idx r.2.2)
  | .checkcast idx => decide (len = 3) && ai_tb TB (ai_nth r 0) (.classLink (ai_Mn M).cls idx r.2.2)
  | .ifCond _ off => ai_brc M pc off len r
  | .if_icmp _ off => ai_brc M pc off len r
  | .if_acmp _ off => ai_brc M pc off len r
  | .ifnull off => ai_brc M pc off len r
  | .ifnonnull off => ai_brc M pc off len r
  | .goto off => ai_brc M pc off len r
  | .tableswitch d lo hi offs => decide ((pc : Int) + d = (ai_pcs M (ai_tgt r) : Int)) && (List.range ((hi - lo).toNat + 1)).all (fun j => match offs[j]? with
    | some off => decide ((pc : Int) + off = (ai_pcs M (ai_nth r (j + 1)).toNat : Int))
    | none => false)
  | .iinc _ _ => decide (len = 3)
  | .sipush _ => decide (len = 3)
  | .bipush _ => decide (len = 2)
  | .iload _ => decide (len = 2)
  | .aload _ => decide (len = 2)
  | .istore _ => decide (len = 2)
  | .astore _ => decide (len = 2)
  | _ => decide (len = 1)
theorem ai_chk0_ok {TB : List Cond} {y : ai_Y} {M : ai_M} {pc : Nat} {i : Instr} {len : Nat} {r : ai_R} {s : State} {args : Array Value} {meth : Method} {sa : Nat → Nat} {A : Nat → Prop} (hts : ∀ w ∈ TB, w.before args s = true) (hE : ai_E y sa A s s.heap) (hnm : meth.name = (ai_Mn M).name)
    (h : ai_chk0 TB y M pc i len r = true) : ai_lk s args meth (ai_Mn M).cls sa A (ai_yc y) (ai_yl y) (ai_pcs M) pc i len r := by
  cases i with
  | ldc idx => rw [ai_chk0, Bool.and_eq_true] at h; exact ⟨of_decide_eq_true h.1, ai_ldc_ok hts hE h.2⟩
  | ldc_w idx => rw [ai_chk0, Bool.and_eq_true] at h; exact ⟨of_decide_eq_true h.1, ai_ldc_ok hts hE h.2⟩
  | getstatic idx =>
    rw [ai_chk0, Bool.and_eq_true] at h
    obtain ⟨h1, h2⟩ := h
    split at h2
    · rename_i q hq
      rw [Bool.and_eq_true] at h2
      obtain ⟨V, g1, g2⟩ := hE.2.2.1 q (List.mem_of_getElem? hq)
      refine ⟨of_decide_eq_true h1, q.1, q.2.1, q.2.2.1, V, g2, ai_flc_ok hts h2.1, ?_⟩
      rcases of_decide_eq_true h2.2 with ⟨z1, z2⟩ | ⟨z1, z2⟩ | ⟨z1, z2⟩
      · rw [z2] at g1; exact Or.inl ⟨z1, g1⟩
      · rw [z2] at g1; exact Or.inr (Or.inl ⟨z1, g1⟩)
      · rw [z2] at g1; exact Or.inr (Or.inr ⟨z1, g1⟩)
    · cases h2
  | getfield idx =>
    rw [ai_chk0, Bool.and_eq_true] at h
    obtain ⟨h1, h2⟩ := h
    refine ⟨of_decide_eq_true h1, fun q hq => ?_, fun hq => ?_⟩
    · rw [hq] at h2
      simp only [Bool.and_eq_true] at h2
      exact ⟨of_decide_eq_true h2.1, ai_flc_ok hts h2.2⟩
    · rw [hq] at h2
      exact ai_flc_ok hts h2
  | putfield idx =>
    rw [ai_chk0, Bool.and_eq_true] at h
    obtain ⟨h1, h2⟩ := h
    split at h2
    · rename_i q hq
      simp only [Bool.and_eq_true] at h2
      refine ⟨of_decide_eq_true h1, q, hq, of_decide_eq_true h2.1, ai_tb_ok hts h2.2.1, ?_⟩
      rw [hnm]
      exact of_decide_eq_true h2.2.2
    · cases h2
  | new idx =>
    rw [ai_chk0, Bool.and_eq_true] at h
    obtain ⟨h1, h2⟩ := h
    split at h2
    · rename_i q hq
      simp only [Bool.and_eq_true] at h2
      exact ⟨of_decide_eq_true h1, q, hq, ai_tb_ok hts h2.1, ai_tb_ok hts h2.2.1, ai_tb_ok hts h2.2.2⟩
    · cases h2
  | newarray t =>
    rw [ai_chk0, Bool.and_eq_true, Bool.and_eq_true] at h
    obtain ⟨h1, h2, h3⟩ := h
    refine ⟨of_decide_eq_true h1, ?_, ai_tb_ok hts h3⟩
    rcases of_decide_eq_true h2 with z | z | z | z
    · exact Or.inl (Or.inl z)
    · exact Or.inl (Or.inr (Or.inl z))
    · exact Or.inl (Or.inr (Or.inr (Or.inl z)))
    · exact Or.inr z
  | anewarray idx =>
    rw [ai_chk0, Bool.and_eq_true, Bool.and_eq_true] at h
    obtain ⟨h1, h2, h3⟩ := h
    refine ⟨of_decide_eq_true h1, ai_tb_ok hts h2, ?_⟩
    rcases of_decide_eq_true h3 with z | z
    · rw [z]; exact hE.2.2.2.2.1
    · rw [z]; exact hE.2.2.2.2.2
  | instanceof idx => rw [ai_chk0, Bool.and_eq_true] at h; exact ⟨of_decide_eq_true h.1, ai_tb_ok hts h.2⟩
  | checkcast idx => rw [ai_chk0, Bool.and_eq_true] at h; exact ⟨of_decide_eq_true h.1, ai_tb_ok hts h.2⟩
  | ifCond c off => exact (show len = 3 ∧ (pc : Int) + off = (ai_pcs M (ai_tgt r) : Int) from of_decide_eq_true h)
  | if_icmp c off => exact (show len = 3 ∧ (pc : Int) + off = (ai_pcs M (ai_tgt r) : Int) from of_decide_eq_true h)
  | if_acmp c off => exact (show len = 3 ∧ (pc : Int) + off = (ai_pcs M (ai_tgt r) : Int) from of_decide_eq_true h)
  | ifnull off => exact (show len = 3 ∧ (pc : Int) + off = (ai_pcs M (ai_tgt r) : Int) from of_decide_eq_true h)
  | ifnonnull off => exact (show len = 3 ∧ (pc : Int) + off = (ai_pcs M (ai_tgt r) : Int) from of_decide_eq_true h)
  | goto off => exact (show len = 3 ∧ (pc : Int) + off = (ai_pcs M (ai_tgt r) : Int) from of_decide_eq_true h)
  | tableswitch d lo hi offs =>
    rw [ai_chk0, Bool.and_eq_true] at h
    refine ⟨of_decide_eq_true h.1, fun j hj => ?_⟩
    have h2 := List.all_eq_true.mp h.2 j (List.mem_range.mpr (by omega))
    split at h2
    · rename_i off ho
      exact ⟨off, ho, of_decide_eq_true h2⟩
    · cases h2
  | iinc _ _ => exact (show len = 3 from of_decide_eq_true h)
  | sipush _ => exact (show len = 3 from of_decide_eq_true h)
  | bipush _ => exact (show len = 2 from of_decide_eq_true h)
  | iload _ => exact (show len = 2 from of_decide_eq_true h)
  | aload _ => exact (show len = 2 from of_decide_eq_true h)
  | istore _ => exact (show len = 2 from of_decide_eq_true h)
  | astore _ => exact (show len = 2 from of_decide_eq_true h)
  | _ => exact (show len = 1 from of_decide_eq_true h)
