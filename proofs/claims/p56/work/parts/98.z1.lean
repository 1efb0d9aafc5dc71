/-! the entry: what the statement gives of the start, atom by atom -/
def en_A : List Cond := flatC (Jvm.Cond.and given_1 narrow_1)
theorem en_g {args : Array Value} {s : State} (hA : ∀ c ∈ en_A, c.before args s = true) {i : Nat} {c : Cond} (h : en_A[i]? = some c) : c.before args s = true := hA c (List.mem_of_getElem? h)
theorem en_w {args : Array Value} {s : State} (hts : ∀ w ∈ lw_tbl, w.before args s = true) {i : Nat} {c : Cond} (h : lw_tbl[i]? = some c) : c.before args s = true := hts c (List.mem_of_getElem? h)
theorem en_lt {s : State} : ∀ a : Nat, a < s.heap.size → ¬ (fun q : Nat => s.heap.size ≤ q) a := fun _ h => Nat.not_le.mpr h
abbrev en_sq (tm : Term) (bs : List Nat) (e : Nat) : Prop := en_A[e]? = some (Cond.exactly tm "java/lang/String") ∧ en_A[e + 1]? = some (Cond.eq (.field tm "java/lang/String" "coder" "B") (.int 0)) ∧ en_A[e + 2]? = some (Cond.arrayOf (.field tm "java/lang/String" "value" "[B") .byte) ∧ en_A[e + 3]? = some (Cond.eq (.length (.field tm "java/lang/String" "value" "[B")) (.int (Int32.ofNat bs.length))) ∧ (∀ j, j < bs.length → en_A[e + 4 + j]? = some (Cond.eq (.elem (.field tm "java/lang/String" "value" "[B") (.int (Int32.ofNat j))) (.int (nI (bs.getD j 0))))) ∧ bs.length < 2 ^ 31
/-- a text of the statement -/
theorem en_str {args : Array Value} {s : State} (hA : ∀ c ∈ en_A, c.before args s = true) {tm : Term} {bs : List Nat} {e : Nat} (h : en_sq tm bs e) : ∃ a v : Nat, tm.eval args s none [] s = some (.ref a) ∧ pm_Str s.heap.size bs a v s s.heap := by
  obtain ⟨h1, h2, h3, h4, h5, h6⟩ := h
  obtain ⟨a, c, cell, k, q1, -⟩ := Cond.exactly_spec (args := args) (first := s) (o := none) (s := s) (idx := []) (t := tm) (cls := "java/lang/String") (en_g hA h1)
  obtain ⟨t, ht, hT⟩ := va_Tof (args := args) (s := s) (A := fun q : Nat => s.heap.size ≤ q) (f := fun j => .int (nI (bs.getD j 0))) h6 (en_g hA h3) (va_eqt (en_g hA h4)) (fun j hj => va_eqt (en_g hA (h5 j hj))) en_lt
  exact ⟨a, t, q1, va_Oof (en_g hA h1) q1 en_lt, vk_OFof q1 (va_eqt (en_g hA h2)) en_lt, vk_OFof q1 ht en_lt, hT⟩
abbrev en_st (n : String) : Term := .static "ThunderCartel$Command" n "LThunderCartel$Command;"
def en_cp : List (Nat × Nat × Nat) := [(5, 61, 1085), (33, 67, 1119), (54, 70, 1151), (28, 73, 1107), (39, 76, 1131), (46, 79, 1142), (63, 82, 1161), (306, 85, 1196), (84, 88, 1184), (73, 91, 1173), (24, 94, 1097)]
def en_cl : List Nat := [387, 756, 780, 747, 765, 771, 789, 1535, 807, 798, 717]
def en_me : List Nat := [802, 807, 812, 824, 829, 947, 956, 961]
def en_mt : List Nat := [1265, 1323, 1324, 1388, 1389, 1536, 1537, 1538]
def en_se : List Nat := [504, 522, 549, 559, 587, 615, 631, 664, 688, 710, 751, 778, 930, 987, 1014, 1053]
def en_tt : List Nat := [530, 565, 581, 846, 860, 892, 905, 946, 957, 979, 1054, 1075, 1484, 1553, 1593, 1606]
set_option maxRecDepth 100000 in
theorem en_cq : ∀ i, i < 11 → en_A[(en_cp.getD i (0, 0, 0)).1]? = some (Cond.exactly (en_st (pm_cn.getD i "")) "ThunderCartel$Command") ∧ en_A[(en_cp.getD i (0, 0, 0)).1 + 1]? = some (Cond.eq (.field (en_st (pm_cn.getD i "")) "java/lang/Enum" "ordinal" "I") (.int (nI i))) ∧ en_A[(en_cp.getD i (0, 0, 0)).1 + 2]? = some (Cond.eq (.field (en_st (pm_cn.getD i "")) "ThunderCartel$Command" "pattern" "Ljava/lang/String;") (.string "ThunderCartel$Command" (en_cp.getD i (0, 0, 0)).2.1)) ∧ en_sq (.string "ThunderCartel$Command" (en_cp.getD i (0, 0, 0)).2.1) (pm_pt.getD i []) (en_cp.getD i (0, 0, 0)).2.2 ∧ lw_tbl[en_cl.getD i 0]? = some (Cond.laysStatic "ThunderCartel$Command" (pm_cn.getD i "") "LThunderCartel$Command;") := by decide +kernel
set_option maxRecDepth 100000 in
theorem en_mq : ∀ i, i < 8 → en_sq (.string "ThunderCartelLaw" (pm_ms.getD i (0, "", [])).1) (pm_ms.getD i (0, "", [])).2.2 (en_me.getD i 0) ∧ lw_tbl[en_mt.getD i 0]? = some (Cond.stringRef "ThunderCartelLaw" (pm_ms.getD i (0, "", [])).1 (pm_ms.getD i (0, "", [])).2.1) := by decide +kernel
set_option maxRecDepth 100000 in
theorem en_tq : ∀ i, i < 16 → en_A[en_se.getD i 0]? = some (Cond.exactly (.string (pm_strs.getD i ("", 0, "")).1 (pm_strs.getD i ("", 0, "")).2.1) "java/lang/String") ∧ lw_tbl[en_tt.getD i 0]? = some (Cond.stringRef (pm_strs.getD i ("", 0, "")).1 (pm_strs.getD i ("", 0, "")).2.1 (pm_strs.getD i ("", 0, "")).2.2) := by decide +kernel
theorem en_cmd {args : Array Value} {s : State} (hA : ∀ c ∈ en_A, c.before args s = true) (hts : ∀ w ∈ lw_tbl, w.before args s = true) (i : Nat) : ∃ r : Nat × Nat × Nat, i < 11 → (en_st (pm_cn.getD i "")).eval args s none [] s = some (.ref r.1) ∧ va_Z "ThunderCartel$Command" (pm_cn.getD i "") "LThunderCartel$Command;" (.ref r.1) (fun q => s.heap.size ≤ q) s s.heap ∧ va_O "ThunderCartel$Command" r.1 (fun q => s.heap.size ≤ q) s s.heap ∧ va_OF "java/lang/Enum" "ordinal" "I" (.int (nI i)) r.1 (fun q => s.heap.size ≤ q) s s.heap ∧ va_OF "ThunderCartel$Command" "pattern" "Ljava/lang/String;" (.ref r.2.1) r.1 (fun q => s.heap.size ≤ q) s s.heap ∧ pm_Str s.heap.size (pm_pt.getD i []) r.2.1 r.2.2 s s.heap := by
  by_cases hi : i < 11
  · obtain ⟨h1, h2, h3, h4, h5⟩ := en_cq i hi
    obtain ⟨x, c, cell, k, q1, -⟩ := Cond.exactly_spec (args := args) (first := s) (o := none) (s := s) (idx := []) (t := en_st (pm_cn.getD i "")) (cls := "ThunderCartel$Command") (en_g hA h1)
    obtain ⟨a, v, e1, e2⟩ := en_str hA h4
    exact ⟨(x, a, v), fun _ => ⟨q1, va_Zof (en_w hts h5) (hts _ (List.mem_of_getElem? (i := 50) (by decide +kernel))) q1 en_lt, va_Oof (en_g hA h1) q1 en_lt, vk_OFof q1 (va_eqt (en_g hA h2)) en_lt, vk_OFof q1 (va_eqv (en_g hA h3) e1) en_lt, e2⟩⟩
  · exact ⟨(0, 0, 0), fun h => absurd h hi⟩
theorem en_wrd {args : Array Value} {s : State} (hA : ∀ c ∈ en_A, c.before args s = true) (hts : ∀ w ∈ lw_tbl, w.before args s = true) (i : Nat) : ∃ r : Nat × Nat, i < 8 → vk_R "ThunderCartelLaw" (pm_ms.getD i (0, "", [])).1 (pm_ms.getD i (0, "", [])).2.1 r.1 s ∧ pm_Str s.heap.size (pm_ms.getD i (0, "", [])).2.2 r.1 r.2 s s.heap := by
  by_cases hi : i < 8
  · obtain ⟨h1, h2⟩ := en_mq i hi
    obtain ⟨a, v, e1, e2⟩ := en_str hA h1
    exact ⟨(a, v), fun _ => ⟨vk_R.of (en_w hts h2) e1, e2⟩⟩
  · exact ⟨(0, 0), fun h => absurd h hi⟩
theorem en_strs {args : Array Value} {s : State} (hA : ∀ c ∈ en_A, c.before args s = true) (hts : ∀ w ∈ lw_tbl, w.before args s = true) : ∀ q ∈ pm_strs, ∃ sa : Nat, vk_R q.1 q.2.1 q.2.2 sa s := by
  intro q hq
  obtain ⟨i, hi⟩ := List.getElem?_of_mem hq
  have hi2 : i < 16 := (List.getElem?_eq_some_iff.mp hi).1
  have e : pm_strs.getD i ("", 0, "") = q := by rw [List.getD_eq_getElem?_getD, hi]; rfl
  obtain ⟨h1, h2⟩ := en_tq i hi2
  rw [e] at h1 h2
  obtain ⟨x, c, cell, k, q1, -⟩ := Cond.exactly_spec (args := args) (first := s) (o := none) (s := s) (idx := []) (t := .string q.1 q.2.1) (cls := "java/lang/String") (en_g hA h1)
  exact ⟨x, vk_R.of (en_w hts h2) q1⟩
set_option maxRecDepth 100000 in
theorem en_swq : en_A[9]? = some (Cond.arrayOf (.static "ThunderCartel$1" "$SwitchMap$ThunderCartel$Command" "[I") .int) ∧ en_A[10]? = some (Cond.eq (.length (.static "ThunderCartel$1" "$SwitchMap$ThunderCartel$Command" "[I")) (.int (Int32.ofNat 11))) ∧ ∀ j, j < 11 → en_A[11 + j]? = some (Cond.eq (.elem (.static "ThunderCartel$1" "$SwitchMap$ThunderCartel$Command" "[I") (.int (Int32.ofNat j))) (.int (nI ([1, 2, 3, 4, 5, 0, 6, 7, 8, 9, 10].getD j 0)))) := by decide +kernel
set_option maxRecDepth 100000 in
theorem en_alq : en_A[321]? = some (Cond.arrayOf (.static "ThunderCartel$Command" "ALL" "[LThunderCartel$Command;") (.object "ThunderCartel$Command")) ∧ en_A[322]? = some (Cond.eq (.length (.static "ThunderCartel$Command" "ALL" "[LThunderCartel$Command;")) (.int (Int32.ofNat 11))) ∧ ∀ j, j < 11 → en_A[324 + j]? = some (Cond.eq (.elem (.static "ThunderCartel$Command" "ALL" "[LThunderCartel$Command;") (.int (Int32.ofNat j))) (en_st (pm_cn.getD j ""))) := by decide +kernel
set_option maxRecDepth 100000 in
theorem en_dnq : en_A[97]? = some (Cond.arrayOf (.static "java/lang/Integer" "DigitOnes" "[B") .byte) ∧ en_A[98]? = some (Cond.eq (.length (.static "java/lang/Integer" "DigitOnes" "[B")) (.int (Int32.ofNat 100))) ∧ ∀ j, j < 100 → en_A[99 + j]? = some (Cond.eq (.elem (.static "java/lang/Integer" "DigitOnes" "[B") (.int (Int32.ofNat j))) (.int (nI (48 + j % 10)))) := by decide +kernel
set_option maxRecDepth 100000 in
theorem en_dtq : en_A[200]? = some (Cond.arrayOf (.static "java/lang/Integer" "DigitTens" "[B") .byte) ∧ en_A[201]? = some (Cond.eq (.length (.static "java/lang/Integer" "DigitTens" "[B")) (.int (Int32.ofNat 100))) ∧ ∀ j, j < 100 → en_A[202 + j]? = some (Cond.eq (.elem (.static "java/lang/Integer" "DigitTens" "[B") (.int (Int32.ofNat j))) (.int (nI (48 + j / 10)))) := by decide +kernel
