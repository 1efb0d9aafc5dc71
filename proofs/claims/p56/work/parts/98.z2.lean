/-! the entry: the constants, the classes, the arrays' classes -/
def en_E (f : Nat → Nat × Nat × Nat) (g : Nat → Nat × Nat) (t0 t1 t2 t3 b L : Nat) (xs : Nat → Int32) (i : Nat) : Nat := if i < 20 then (f i).1 else if i < 40 then (f (i - 20)).2.1 else if i < 60 then (g (i - 40)).1 else if i = 60 then t0 else if i = 61 then t1 else if i = 62 then t2 else if i = 63 then t3 else if i = 70 then b else if i = 71 then L else if i < 140 then (f (i - 120)).2.2 else if i < 1000 then (g (i - 140)).2 else (xs (i - 1000)).toUInt32.toNat
section EN
variable {f : Nat → Nat × Nat × Nat} {g : Nat → Nat × Nat} {t0 t1 t2 t3 b L i : Nat} {xs : Nat → Int32}
theorem en_E0 (hi : i < 11) : en_E f g t0 t1 t2 t3 b L xs i = (f i).1 := by
  unfold en_E
  rw [if_pos (by omega)]
theorem en_E1 (hi : i < 11) : en_E f g t0 t1 t2 t3 b L xs (20 + i) = (f i).2.1 := by
  unfold en_E
  rw [if_neg (by omega), if_pos (by omega), Nat.add_sub_cancel_left]
theorem en_E2 (hi : i < 8) : en_E f g t0 t1 t2 t3 b L xs (40 + i) = (g i).1 := by
  unfold en_E
  rw [if_neg (by omega), if_neg (by omega), if_pos (by omega), Nat.add_sub_cancel_left]
theorem en_E3 (hi : i < 11) : en_E f g t0 t1 t2 t3 b L xs (120 + i) = (f i).2.2 := by
  unfold en_E
  rw [if_neg (by omega), if_neg (by omega), if_neg (by omega), if_neg (by omega), if_neg (by omega), if_neg (by omega), if_neg (by omega), if_neg (by omega), if_neg (by omega), if_pos (by omega), Nat.add_sub_cancel_left]
theorem en_E4 (hi : i < 8) : en_E f g t0 t1 t2 t3 b L xs (140 + i) = (g i).2 := by
  unfold en_E
  rw [if_neg (by omega), if_neg (by omega), if_neg (by omega), if_neg (by omega), if_neg (by omega), if_neg (by omega), if_neg (by omega), if_neg (by omega), if_neg (by omega), if_neg (by omega), if_pos (by omega), Nat.add_sub_cancel_left]
theorem en_E5 : en_E f g t0 t1 t2 t3 b L xs (1000 + i) = (xs i).toUInt32.toNat := by
  unfold en_E
  rw [if_neg (by omega), if_neg (by omega), if_neg (by omega), if_neg (by omega), if_neg (by omega), if_neg (by omega), if_neg (by omega), if_neg (by omega), if_neg (by omega), if_neg (by omega), if_neg (by omega), Nat.add_sub_cancel_left]
end EN
theorem en_x32 (x : Int32) : Int32.ofNat x.toUInt32.toNat = x := by
  show (⟨UInt32.ofNat x.toUInt32.toNat⟩ : Int32) = x
  rw [UInt32.ofNat_toNat]
theorem en_Tcg {ty : FieldType} {t N : Nat} {f f' : Nat → Value} {A : Nat → Prop} {U : State} {H : Heap} (h : ∀ j, j < N → f j = f' j) (hT : va_T ty t N f A U H) : va_T ty t N f' A U H := by
  obtain ⟨cell, h1, h2, h3, h4, h5, h6, h7⟩ := hT
  exact ⟨cell, h1, h2, h3, h4, h5, fun j hj => (h6 j hj).trans (by rw [h j hj]), h7⟩
theorem en_Kx {args : Array Value} {s : State} {b L : Nat} {xs : Nat → Int32} (hL : L ≤ 260) (hX : va_X b L xs s s.heap) (hA : ∀ c ∈ en_A, c.before args s = true) (hts : ∀ w ∈ lw_tbl, w.before args s = true) : ∃ kE : Nat → Nat, kE 70 = b ∧ pm_Kx s.heap.size kE s s.heap := by
  obtain ⟨f, hf⟩ := Classical.skolem.mp (fun i => en_cmd hA hts i)
  obtain ⟨g, hg⟩ := Classical.skolem.mp (fun i => en_wrd hA hts i)
  obtain ⟨t0, h01, h02⟩ := va_Tof (args := args) (s := s) (A := fun q : Nat => s.heap.size ≤ q) (N := 11) (f := fun j => .ref (f j).1) (by decide) (en_g hA en_alq.1) (va_eqt (en_g hA en_alq.2.1)) (fun j hj => va_eqv (en_g hA (en_alq.2.2 j hj)) (hf j hj).1) en_lt
  obtain ⟨t1, h11, h12⟩ := va_Tof (args := args) (s := s) (A := fun q : Nat => s.heap.size ≤ q) (N := 11) (f := fun j => .int (nI ([1, 2, 3, 4, 5, 0, 6, 7, 8, 9, 10].getD j 0))) (by decide) (en_g hA en_swq.1) (va_eqt (en_g hA en_swq.2.1)) (fun j hj => va_eqt (en_g hA (en_swq.2.2 j hj))) en_lt
  obtain ⟨t2, h21, h22⟩ := va_Tof (args := args) (s := s) (A := fun q : Nat => s.heap.size ≤ q) (N := 100) (f := fun j => .int (nI (48 + j / 10))) (by decide) (en_g hA en_dtq.1) (va_eqt (en_g hA en_dtq.2.1)) (fun j hj => va_eqt (en_g hA (en_dtq.2.2 j hj))) en_lt
  obtain ⟨t3, h31, h32⟩ := va_Tof (args := args) (s := s) (A := fun q : Nat => s.heap.size ≤ q) (N := 100) (f := fun j => .int (nI (48 + j % 10))) (by decide) (en_g hA en_dnq.1) (va_eqt (en_g hA en_dnq.2.1)) (fun j hj => va_eqt (en_g hA (en_dnq.2.2 j hj))) en_lt
  refine ⟨en_E f g t0 t1 t2 t3 b L xs, rfl, fun i hi => ?_, ⟨fun i hi => ?_, hL, ?_⟩, ⟨va_Zof (hts _ (List.mem_of_getElem? (i := 1574) (by decide +kernel))) (hts _ (List.mem_of_getElem? (i := 50) (by decide +kernel))) h01 en_lt, en_Tcg (fun j hj => by rw [en_E0 hj]) h02⟩, ⟨va_Zof (hts _ (List.mem_of_getElem? (i := 397) (by decide +kernel))) (hts _ (List.mem_of_getElem? (i := 51) (by decide +kernel))) h11 en_lt, h12⟩, va_Zof (hts _ (List.mem_of_getElem? (i := 311) (by decide +kernel))) (hts _ (List.mem_of_getElem? (i := 47) (by decide +kernel))) (va_eqi (en_g (i := 4) hA (by decide +kernel))) en_lt, ⟨va_Zof (hts _ (List.mem_of_getElem? (i := 1233) (by decide +kernel))) (hts _ (List.mem_of_getElem? (i := 54) (by decide +kernel))) h21 en_lt, h22⟩, ⟨va_Zof (hts _ (List.mem_of_getElem? (i := 1231) (by decide +kernel))) (hts _ (List.mem_of_getElem? (i := 54) (by decide +kernel))) h31 en_lt, h32⟩, va_Zqof (hts _ (List.mem_of_getElem? (i := 1247) (by decide +kernel))) (hts _ (List.mem_of_getElem? (i := 69) (by decide +kernel))) (en_g (i := 302) hA (by decide +kernel)) en_lt⟩
  · rw [en_E0 hi, en_E1 hi, en_E3 hi]
    exact (hf i hi).2
  · rw [en_E2 hi, en_E4 hi]
    exact hg i hi
  · obtain ⟨scr, x1, x2, x3, x4, x5⟩ := hX
    refine ⟨scr, x1, x2, x3, Nat.le_of_eq x4.symm, ?_, fun j hj => ?_, en_lt b (Array.getElem?_eq_some_iff.mp x1).1⟩
    · rw [x4]
      show L.toInt32 = Int32.ofNat L
      rfl
    · show scr.slots[j]? = some (Value.int (Int32.ofNat (en_E f g t0 t1 t2 t3 b L xs (1000 + j))))
      rw [en_E5, en_x32]
      exact x5 j hj
theorem en_T {args : Array Value} {s : State} (hts : ∀ w ∈ lw_tbl, w.before args s = true) : ∀ w ∈ pm_T, w.before args s = true := fun w hw => hts w (List.mem_filter.mp hw).1
theorem en_kn1 {args : Array Value} {s : State} (hts : ∀ w ∈ lw_tbl, w.before args s = true) (ci n i : Nat) (hc : pm_Co ci) (h : lw_tbl[i]? = some (Cond.instantiable (pm_ci ci).1 n)) : ∃ r : ClassId × (Nat → Nat), u_Kn s (pm_ci ci).1 (pm_ci ci).2.1 (pm_ci ci).2.2 r.1 r.2 := by
  obtain ⟨cC, iS, h⟩ := u_known (en_T hts) hc.1 (en_w hts h)
  exact ⟨(cC, iS), h⟩
theorem en_kn {args : Array Value} {s : State} (hts : ∀ w ∈ lw_tbl, w.before args s = true) : ∃ D : va_G, ∀ (c : Nat) (q : vw_C), pm_cl[c]? = some q → u_Kn s q.1 q.2.1 q.2.2 (D.1 c) (D.2 c) := by
  obtain ⟨r0, h0⟩ := en_kn1 hts 0 2 196 co_X1 (by decide +kernel)
  obtain ⟨r1, h1⟩ := en_kn1 hts 1 2 256 co_X3 (by decide +kernel)
  obtain ⟨r2, h2⟩ := en_kn1 hts 2 3 226 co_X4 (by decide +kernel)
  obtain ⟨r3, h3⟩ := en_kn1 hts 3 1 135 co_X5 (by decide +kernel)
  obtain ⟨r4, h4⟩ := en_kn1 hts 4 6 97 co_X6 (by decide +kernel)
  obtain ⟨r5, h5⟩ := en_kn1 hts 5 3 84 co_X7 (by decide +kernel)
  obtain ⟨r6, h6⟩ := en_kn1 hts 6 3 412 co_X8 (by decide +kernel)
  obtain ⟨r7, h7⟩ := en_kn1 hts 7 7 269 co_X9 (by decide +kernel)
  obtain ⟨r8, h8⟩ := en_kn1 hts 8 9 90 co_X10 (by decide +kernel)
  obtain ⟨r9, h9⟩ := en_kn1 hts 9 1 246 co_X11 (by decide +kernel)
  obtain ⟨r10, h10⟩ := en_kn1 hts 10 13 76 co_X12 (by decide +kernel)
  obtain ⟨r11, h11⟩ := en_kn1 hts 11 4 737 co_J0 (by decide +kernel)
  obtain ⟨r12, h12⟩ := en_kn1 hts 12 4 302 co_J4 (by decide +kernel)
  refine ⟨(fun k => ([r0, r1, r2, r3, r4, r5, r6, r7, r8, r9, r10, r11, r12].getD k r0).1, fun k => ([r0, r1, r2, r3, r4, r5, r6, r7, r8, r9, r10, r11, r12].getD k r0).2), fun c q hq => ?_⟩
  match c, hq with
  | 0, hq => cases hq; exact h0
  | 1, hq => cases hq; exact h1
  | 2, hq => cases hq; exact h2
  | 3, hq => cases hq; exact h3
  | 4, hq => cases hq; exact h4
  | 5, hq => cases hq; exact h5
  | 6, hq => cases hq; exact h6
  | 7, hq => cases hq; exact h7
  | 8, hq => cases hq; exact h8
  | 9, hq => cases hq; exact h9
  | 10, hq => cases hq; exact h10
  | 11, hq => cases hq; exact h11
  | 12, hq => cases hq; exact h12
  | k + 13, hq => simp at hq
theorem en_arP {args : Array Value} {s : State} {ty : FieldType} (h : (Cond.arrayClass ty).before args s = true) : ∃ c : ClassId, ArrOfT s c ty ∧ s.vm.findClass ("[" ++ ty.toString) = some c := by
  obtain ⟨c, kA, comp, h1, h2, h3⟩ := Cond.arrayClass_spec (show (Cond.arrayClass ty).holds args s none s [] = true from h)
  exact ⟨c, fun n z => ⟨(fun k h => by cases h), kA, h2, comp, h3⟩, h1⟩
theorem en_arO {args : Array Value} {s : State} {C : String} (h : (Cond.arrayOver (.object C)).before args s = true) : ∃ c : ClassId, ArrOfT s c (.object C) ∧ va_RA s c (.object C) := by
  obtain ⟨comp, c, kA, h1, h2, h3, h4, h5⟩ := Cond.arrayOver_spec (show (Cond.arrayOver (.object C)).holds args s none s [] = true from h)
  exact ⟨c, fun n z => ⟨(fun k h => by cases h), kA, h3, comp, h4⟩, kA, comp, h3, h4, h1, h5⟩
theorem en_ka {args : Array Value} {s : State} (hts : ∀ w ∈ lw_tbl, w.before args s = true) : ∃ kA : Nat → ClassId, ∀ (k : Nat) (q : ClassId × FieldType), (pm_tys kA)[k]? = some q → ArrOfT s q.1 q.2 ∧ va_RA s q.1 q.2 := by
  obtain ⟨c0, h0⟩ := en_arP (ty := .int) (s := s) (args := args) (en_w (i := 144) hts (by decide +kernel))
  obtain ⟨c1, h1⟩ := en_arP (ty := .long) (s := s) (args := args) (en_w (i := 1607) hts (by decide +kernel))
  obtain ⟨c2, h2⟩ := en_arP (ty := .long) (s := s) (args := args) (en_w (i := 1607) hts (by decide +kernel))
  obtain ⟨c3, h3⟩ := en_arP (ty := .char) (s := s) (args := args) (en_w (i := 300) hts (by decide +kernel))
  obtain ⟨c4, h4⟩ := en_arP (ty := .byte) (s := s) (args := args) (en_w (i := 333) hts (by decide +kernel))
  obtain ⟨c5, h5⟩ := en_arO (C := RX10) (s := s) (args := args) (en_w (i := 232) hts (by decide +kernel))
  obtain ⟨c6, h6⟩ := en_arO (C := RX6) (s := s) (args := args) (en_w (i := 96) hts (by decide +kernel))
  obtain ⟨c7, h7⟩ := en_arO (C := "ThunderCartel$Command") (s := s) (args := args) (en_w (i := 275) hts (by decide +kernel))
  refine ⟨fun k => [c0, c1, c2, c3, c4, c5, c6, c7].getD k c0, fun k q hq => ?_⟩
  match k, hq with
  | 0, hq => cases hq; exact h0
  | 1, hq => cases hq; exact h1
  | 2, hq => cases hq; exact h2
  | 3, hq => cases hq; exact h3
  | 4, hq => cases hq; exact h4
  | 5, hq => cases hq; exact h5
  | 6, hq => cases hq; exact h6
  | 7, hq => cases hq; exact h7
  | k + 8, hq => simp at hq
theorem en_nest {args : Array Value} {s : State} (hA : ∀ c ∈ en_A, c.before args s = true) (hts : ∀ w ∈ lw_tbl, w.before args s = true) : ∀ w ∈ pm_nest, va_Nw w s := by
  intro w hw
  simp only [pm_nest, List.mem_cons, List.not_mem_nil, or_false] at hw
  rcases hw with rfl | rfl | rfl | rfl | rfl | rfl | rfl | rfl | rfl | rfl | rfl | rfl | rfl | rfl | rfl | rfl | rfl | rfl | rfl | rfl | rfl | rfl
  · exact va_Nw.of rfl (en_w (i := 85) hts (by decide +kernel) : ((Jvm.Cond.methodLinkNest "ThunderCartel" (9 : Nat) ({ cls := "ThunderCartel$Office", name := "<init>", desc := "()V" } : Jvm.MethodName) "ThunderCartel")).before args s = true)
  · exact va_Nw.of rfl (en_w (i := 98) hts (by decide +kernel) : ((Jvm.Cond.methodLinkNest "ThunderCartel$State" (17 : Nat) ({ cls := "ThunderCartel$Member", name := "<init>", desc := "()V" } : Jvm.MethodName) "ThunderCartel")).before args s = true)
  · exact va_Nw.of rfl (en_w (i := 136) hts (by decide +kernel) : ((Jvm.Cond.methodLinkNest "ThunderCartel$State" (20 : Nat) ({ cls := "ThunderCartel$Links", name := "<init>", desc := "()V" } : Jvm.MethodName) "ThunderCartel")).before args s = true)
  · exact va_Nw.of rfl (en_w (i := 197) hts (by decide +kernel) : ((Jvm.Cond.methodLinkNest "ThunderCartel$Office" (20 : Nat) ({ cls := "ThunderCartel$Apportionment", name := "<init>", desc := "()V" } : Jvm.MethodName) "ThunderCartel")).before args s = true)
  · exact va_Nw.of rfl (en_w (i := 247) hts (by decide +kernel) : ((Jvm.Cond.methodLinkNest "ThunderCartel" (39 : Nat) ({ cls := "ThunderCartel$Votes", name := "<init>", desc := "()V" } : Jvm.MethodName) "ThunderCartel")).before args s = true)
  · exact va_Nw.of rfl (en_w (i := 257) hts (by decide +kernel) : ((Jvm.Cond.methodLinkNest "ThunderCartel" (46 : Nat) ({ cls := "ThunderCartel$CommonFine", name := "<init>", desc := "()V" } : Jvm.MethodName) "ThunderCartel")).before args s = true)
  · exact va_Nw.of rfl (en_w (i := 270) hts (by decide +kernel) : ((Jvm.Cond.methodLinkNest "ThunderCartel" (53 : Nat) ({ cls := "ThunderCartel$Script", name := "<init>", desc := "()V" } : Jvm.MethodName) "ThunderCartel")).before args s = true)
  · exact va_Nw.of rfl (en_w (i := 408) hts (by decide +kernel) : ((Jvm.Cond.methodLinkNest "ThunderCartel$Office" (107 : Nat) ({ cls := "ThunderCartel", name := "isWithin", desc := "(III)Z" } : Jvm.MethodName) "ThunderCartel")).before args s = true)
  · exact va_Nw.of rfl (en_w (i := 1024) hts (by decide +kernel) : ((Jvm.Cond.methodLinkNest "ThunderCartel" (211 : Nat) ({ cls := "ThunderCartel$Links", name := "fewestFrom", desc := "(LThunderCartel$Links;III)I" } : Jvm.MethodName) "ThunderCartel")).before args s = true)
  · exact va_Nw.of rfl (en_w (i := 1573) hts (by decide +kernel) : ((Jvm.Cond.fieldLinkNest "ThunderCartel$Script" (56 : Nat) "ThunderCartel$Command" "ALL" "[LThunderCartel$Command;" "ThunderCartel")).before args s = true)
  · exact va_Nw.of rfl (en_w (i := 1194) hts (by decide +kernel) : ((Jvm.Cond.privateMethod ({ cls := "java/lang/AbstractStringBuilder", name := "ensureCapacityInternal", desc := "(I)V" } : Jvm.MethodName))).before args s = true)
  · exact va_Nw.of rfl (en_w (i := 1198) hts (by decide +kernel) : ((Jvm.Cond.privateMethod ({ cls := "java/lang/AbstractStringBuilder", name := "newCapacity", desc := "(I)I" } : Jvm.MethodName))).before args s = true)
  · exact va_Nw.of rfl (en_w (i := 1290) hts (by decide +kernel) : ((Jvm.Cond.privateMethod ({ cls := "java/lang/AbstractStringBuilder", name := "putStringAt", desc := "(ILjava/lang/String;)V" } : Jvm.MethodName))).before args s = true)
  · exact va_Nw.of rfl (en_w (i := 1294) hts (by decide +kernel) : ((Jvm.Cond.privateMethod ({ cls := "java/lang/AbstractStringBuilder", name := "inflateIfNeededFor", desc := "(Ljava/lang/String;)V" } : Jvm.MethodName))).before args s = true)
  · exact (en_w (i := 96) hts (by decide +kernel) : ((Jvm.Cond.arrayOver (Jvm.ClassFile.FieldType.object "ThunderCartel$Member"))).before args s = true)
  · exact (en_w (i := 232) hts (by decide +kernel) : ((Jvm.Cond.arrayOver (Jvm.ClassFile.FieldType.object "ThunderCartel$State"))).before args s = true)
  · exact (en_w (i := 275) hts (by decide +kernel) : ((Jvm.Cond.arrayOver (Jvm.ClassFile.FieldType.object "ThunderCartel$Command"))).before args s = true)
  · exact (en_g (i := 349) hA (by decide +kernel) : ((Jvm.Cond.not (Jvm.Cond.castable "java/lang/UnsupportedOperationException" "java/lang/IllegalArgumentException"))).before args s = true)
  · exact (en_g (i := 391) hA (by decide +kernel) : ((Jvm.Cond.not (Jvm.Cond.castable "java/lang/UnsupportedOperationException" "java/lang/IndexOutOfBoundsException"))).before args s = true)
  · exact (en_g (i := 392) hA (by decide +kernel) : ((Jvm.Cond.not (Jvm.Cond.castable "java/util/NoSuchElementException" "java/lang/IndexOutOfBoundsException"))).before args s = true)
  · exact (en_g (i := 390) hA (by decide +kernel) : ((Jvm.Cond.not (Jvm.Cond.castable "java/lang/IllegalArgumentException" "java/lang/IndexOutOfBoundsException"))).before args s = true)
  · exact va_Nw.of rfl (en_w (i := 1218) hts (by decide +kernel) : ((Jvm.Cond.castable "[B" "java/lang/Cloneable")).before args s = true)
theorem en_Kc {args : Array Value} {s : State} {l : Launch} {kA : Nat → ClassId} {kE : Nat → Nat} (hflags : l.flags = flags0) (hA : ∀ c ∈ en_A, c.before args s = true) (hts : ∀ w ∈ lw_tbl, w.before args s = true) (hK : pm_Kx s.heap.size kE s s.heap) : pm_Kc l s.heap.size kA kE s s.heap := by
  refine ⟨?_, vx_Zqof (args := args) (hts _ (List.mem_of_getElem? (i := 511) (by decide +kernel))) (hts _ (List.mem_of_getElem? (i := 55) (by decide +kernel))) (en_g (i := 22) hA (by decide +kernel)) en_lt, vx_Zqof (args := args) (hts _ (List.mem_of_getElem? (i := 513) (by decide +kernel))) (hts _ (List.mem_of_getElem? (i := 55) (by decide +kernel))) (en_g (i := 23) hA (by decide +kernel)) en_lt, en_strs hA hts, hK, en_nest hA hts⟩
  show (!l.flags.contains noTraceFlag) = false
  rw [hflags]
  decide +kernel
