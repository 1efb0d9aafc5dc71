
/-! the pure machine: cells at offsets from z; every body's walk is said over a memory M : offset -> cell, nx cells made since z -/
abbrev pm_M : Type := Nat → Option va_E
def pm_up (M : pm_M) (a : Nat) (e : va_E) : pm_M := fun x => if x = a then some e else M x
theorem pm_up_s {M : pm_M} {a : Nat} {e : va_E} : pm_up M a e a = some e := by simp [pm_up]
theorem pm_up_n {M : pm_M} {a b : Nat} {e : va_E} (h : b ≠ a) : pm_up M a e b = M b := by simp [pm_up, h]
def pm_T : List Cond := lw_tbl.filter goodWord
theorem pm_T_in {w : Cond} (i : Nat) (h : lw_tbl[i]? = some w) (hg : goodWord w = true) : w ∈ pm_T := List.mem_filter.mpr ⟨List.mem_of_getElem? h, hg⟩
theorem pm_T_good : ∀ w ∈ pm_T, goodWord w = true := fun w h => (List.mem_filter.mp h).2
abbrev pm_X : Type := Program × Env × Room × State × MethodId × Array Value × List Frame × Method × Code
abbrev pm_s (X : pm_X) : State := X.2.2.2.1
abbrev pm_R0 (X : pm_X) : Room := X.2.2.1
abbrev pm_c (X : pm_X) : Code := X.2.2.2.2.2.2.2.2
abbrev pm_mt (X : pm_X) : Method := X.2.2.2.2.2.2.2.1
abbrev pm_m (X : pm_X) : MethodId := X.2.2.2.2.1
abbrev pm_ag (X : pm_X) : Array Value := X.2.2.2.2.2.1
/-- the classes whose objects a memory holds, by their numbers here -/
abbrev pm_cl : List vw_C := [(RX1, TX1, 2), (RX3, TX3, 2), (RX4, TX4, 3), (RX5, TX5, 1), (RX6, TX6, 6), (RX7, TX7, 3), (RX8, TX8, 3), (RX9, TX9, 7), (RX10, TX10, 9), (RX11, TX11, 1), (RX12, TX12, 13), (RJ0, TJ0, 4), (RJ4, TJ4, 4)]
abbrev pm_tys (kA : Nat → ClassId) : List (ClassId × FieldType) := [(kA 0, .int), (kA 1, .long), (kA 2, .long), (kA 3, .char), (kA 4, .byte), (kA 5, .object RX10), (kA 6, .object RX6), (kA 7, .object "ThunderCartel$Command")]
def pm_R (z : Nat) (D : va_G) (nx : Nat) (M : pm_M) (H : Heap) : Prop := H.size = z + nx ∧ ∀ (a : Nat) (e : va_E), M a = some e → a < nx ∧ va_at D pm_cl (z + a, e) H
theorem pm_R.put {z : Nat} {D : va_G} {nx : Nat} {M : pm_M} {H H1 : Heap} {a : Nat} {e0 e : va_E} (h : pm_R z D nx M H) (h0 : M a = some e0) (h1 : va_at D pm_cl (z + a, e) H1) (hz : H1.size = H.size) (oq : ∀ q : Nat, q ≠ z + a → H1[q]? = H[q]?) : pm_R z D nx (pm_up M a e) H1 := by
  refine ⟨hz.trans h.1, fun b e1 hb => ?_⟩
  by_cases hba : b = a
  · subst hba
    rw [pm_up_s] at hb
    cases hb
    exact ⟨(h.2 b e0 h0).1, h1⟩
  · rw [pm_up_n hba] at hb
    exact ⟨(h.2 b e1 hb).1, (h.2 b e1 hb).2.kept (oq _ (by omega))⟩
theorem pm_R.push {z : Nat} {D : va_G} {nx : Nat} {M : pm_M} {H H1 : Heap} {e : va_E} (h : pm_R z D nx M H) (h1 : va_at D pm_cl (z + nx, e) H1) (hz : H1.size = H.size + 1) (oq : ∀ q : Nat, q < H.size → H1[q]? = H[q]?) : pm_R z D (nx + 1) (pm_up M nx e) H1 := by
  refine ⟨by rw [hz, h.1]; omega, fun b e1 hb => ?_⟩
  by_cases hba : b = nx
  · subst hba
    rw [pm_up_s] at hb
    cases hb
    exact ⟨by omega, h1⟩
  · rw [pm_up_n hba] at hb
    have h3 := h.2 b e1 hb
    exact ⟨by omega, h3.2.kept (oq _ (by rw [h.1]; show z + b < z + nx; omega))⟩
/-- cells that nothing is said of are made, the rest stays -/
theorem pm_R.grow {z : Nat} {D : va_G} {nx : Nat} {M : pm_M} {H H1 : Heap} (h : pm_R z D nx M H) (hz : H.size ≤ H1.size) (oq : ∀ q : Nat, q < H.size → H1[q]? = H[q]?) : pm_R z D (H1.size - z) M H1 := by
  have h1 := h.1
  refine ⟨by omega, fun b e1 hb => ?_⟩
  have h3 := h.2 b e1 hb
  exact ⟨by omega, h3.2.kept (oq _ (by rw [h1]; show z + b < z + nx; omega))⟩
/-- locals, by their places -/
def pm_lv : Nat → List (Option Value) → List (Nat × Value)
  | _, [] => []
  | i, none :: t => pm_lv (i + 1) t
  | i, some v :: t => (i, v) :: pm_lv (i + 1) t
theorem pm_lv_mem : ∀ (L : List (Option Value)) (i j : Nat) (v : Value), (j, v) ∈ pm_lv i L ↔ ∃ k, j = i + k ∧ L[k]? = some (some v)
  | [], i, j, v => by simp [pm_lv]
  | none :: t, i, j, v => by
    simp only [pm_lv]
    rw [pm_lv_mem t (i + 1) j v]
    constructor
    · rintro ⟨k, h1, h2⟩
      exact ⟨k + 1, by omega, by simpa using h2⟩
    · rintro ⟨k, h1, h2⟩
      cases k with
      | zero => simp at h2
      | succ k => exact ⟨k, by omega, by simpa using h2⟩
  | some w :: t, i, j, v => by
    simp only [pm_lv, List.mem_cons, Prod.mk.injEq]
    rw [pm_lv_mem t (i + 1) j v]
    constructor
    · rintro (⟨h1, h2⟩ | ⟨k, h1, h2⟩)
      · exact ⟨0, by omega, by simp [h2]⟩
      · exact ⟨k + 1, by omega, by simpa using h2⟩
    · rintro ⟨k, h1, h2⟩
      cases k with
      | zero => simp at h2; exact Or.inl ⟨by omega, h2.symm⟩
      | succ k => exact Or.inr ⟨k, by omega, by simpa using h2⟩
def pm_c1 (L : List (Option Value)) : Bool := L.all fun o => match o with
  | some v => v.category == 1
  | none => true
theorem pm_lv_at {ls : Array Slot} {nL i : Nat} {v : Value} {L : List (Option Value)} (h : lv_has ls nL (pm_lv 0 L)) (hi : L[i]? = some (some v)) : ls[i]? = some (.val v) :=
  h.2.2 (i, v) ((pm_lv_mem L 0 i v).mpr ⟨i, by omega, hi⟩)
theorem pm_lv_sub {ls : Array Slot} {nL : Nat} {l : List (Nat × Value)} {L : List (Option Value)} (h : lv_has ls nL l) (hs : ∀ (i : Nat) (v : Value), L[i]? = some (some v) → (i, v) ∈ l) : lv_has ls nL (pm_lv 0 L) := by
  refine ⟨h.1, h.2.1, fun q hq => h.2.2 q ?_⟩
  obtain ⟨k, h1, h2⟩ := (pm_lv_mem L 0 q.1 q.2).mp hq
  have h3 := hs k q.2 h2
  rw [Nat.zero_add] at h1
  rw [← h1] at h3
  exact h3
theorem pm_lv_set {ls : Array Slot} {nL i : Nat} {v : Value} {L : List (Option Value)} (hc : pm_c1 L = true) (h : lv_has ls nL ((i, v) :: (pm_lv 0 L).filter (fun q => !(q.1 == i) && !(q.1 + 1 == i && q.2.category == 2)))) : lv_has ls nL (pm_lv 0 (L.set i (some v))) := by
  refine pm_lv_sub h fun j w hj => ?_
  by_cases hji : i = j
  · subst hji
    by_cases hl : i < L.length
    · rw [List.getElem?_set_self hl] at hj
      cases hj
      exact List.mem_cons_self
    · rw [List.getElem?_eq_none (by rw [List.length_set]; omega)] at hj
      cases hj
  · rw [List.getElem?_set_ne hji] at hj
    refine List.mem_cons_of_mem _ (List.mem_filter.mpr ⟨(pm_lv_mem L 0 j w).mpr ⟨j, by omega, hj⟩, ?_⟩)
    have h1 := List.all_eq_true.mp hc _ (List.mem_of_getElem? hj)
    simp only [beq_iff_eq] at h1
    simp [h1, Ne.symm hji]
theorem pm_lv_weak {ls : Array Slot} {nL : Nat} {L L' : List (Option Value)} (h : lv_has ls nL (pm_lv 0 L)) (hs : ∀ (i : Nat) (v : Value), L'[i]? = some (some v) → L[i]? = some (some v)) : lv_has ls nL (pm_lv 0 L') :=
  pm_lv_sub h fun i v hi => (pm_lv_mem L 0 i v).mpr ⟨i, by omega, hs i v hi⟩
/-- the judgement: from this frame and memory the machine comes to Q -/
def pm_G (l : Launch) (z : Nat) (D : va_G) (X : pm_X) (cu su : Nat) (Q : State → Prop) (nx : Nat) (M : pm_M) (pc : Nat) (L : List (Option Value)) (st : List Value) : Prop :=
  ∀ (H : Heap) (locs : List Loc) (ls : Array Slot), pm_R z D nx M H → va_S (fun q => z ≤ q) X.2.2.2.1.heap H locs → lv_has ls X.2.2.2.2.2.2.2.2.maxLocals (pm_lv 0 L) →
    W X.1 l X.2.1 X.2.2.1 X.2.2.2.1 X.2.2.2.2.1 X.2.2.2.2.2.1 X.2.2.2.2.2.2.1 X.2.2.2.2.2.2.2.1 X.2.2.2.2.2.2.2.2 H locs cu su Q (F0 X.2.2.2.2.1 pc ls st)
/-- what is given of constants below z, and of the words that are no table's words -/
def pm_nest : List Cond := [(Jvm.Cond.methodLinkNest "ThunderCartel" (9 : Nat) ({ cls := "ThunderCartel$Office", name := "<init>", desc := "()V" } : Jvm.MethodName) "ThunderCartel"), (Jvm.Cond.methodLinkNest "ThunderCartel$State" (17 : Nat) ({ cls := "ThunderCartel$Member", name := "<init>", desc := "()V" } : Jvm.MethodName) "ThunderCartel"), (Jvm.Cond.methodLinkNest "ThunderCartel$State" (20 : Nat) ({ cls := "ThunderCartel$Links", name := "<init>", desc := "()V" } : Jvm.MethodName) "ThunderCartel"), (Jvm.Cond.methodLinkNest "ThunderCartel$Office" (20 : Nat) ({ cls := "ThunderCartel$Apportionment", name := "<init>", desc := "()V" } : Jvm.MethodName) "ThunderCartel"), (Jvm.Cond.methodLinkNest "ThunderCartel" (39 : Nat) ({ cls := "ThunderCartel$Votes", name := "<init>", desc := "()V" } : Jvm.MethodName) "ThunderCartel"), (Jvm.Cond.methodLinkNest "ThunderCartel" (46 : Nat) ({ cls := "ThunderCartel$CommonFine", name := "<init>", desc := "()V" } : Jvm.MethodName) "ThunderCartel"), (Jvm.Cond.methodLinkNest "ThunderCartel" (53 : Nat) ({ cls := "ThunderCartel$Script", name := "<init>", desc := "()V" } : Jvm.MethodName) "ThunderCartel"), (Jvm.Cond.methodLinkNest "ThunderCartel$Office" (107 : Nat) ({ cls := "ThunderCartel", name := "isWithin", desc := "(III)Z" } : Jvm.MethodName) "ThunderCartel"), (Jvm.Cond.methodLinkNest "ThunderCartel" (211 : Nat) ({ cls := "ThunderCartel$Links", name := "fewestFrom", desc := "(LThunderCartel$Links;III)I" } : Jvm.MethodName) "ThunderCartel"), (Jvm.Cond.fieldLinkNest "ThunderCartel$Script" (56 : Nat) "ThunderCartel$Command" "ALL" "[LThunderCartel$Command;" "ThunderCartel"), (Jvm.Cond.privateMethod ({ cls := "java/lang/AbstractStringBuilder", name := "ensureCapacityInternal", desc := "(I)V" } : Jvm.MethodName)), (Jvm.Cond.privateMethod ({ cls := "java/lang/AbstractStringBuilder", name := "newCapacity", desc := "(I)I" } : Jvm.MethodName)), (Jvm.Cond.privateMethod ({ cls := "java/lang/AbstractStringBuilder", name := "putStringAt", desc := "(ILjava/lang/String;)V" } : Jvm.MethodName)), (Jvm.Cond.privateMethod ({ cls := "java/lang/AbstractStringBuilder", name := "inflateIfNeededFor", desc := "(Ljava/lang/String;)V" } : Jvm.MethodName)), (Jvm.Cond.arrayOver (Jvm.ClassFile.FieldType.object "ThunderCartel$Member")), (Jvm.Cond.arrayOver (Jvm.ClassFile.FieldType.object "ThunderCartel$State")), (Jvm.Cond.arrayOver (Jvm.ClassFile.FieldType.object "ThunderCartel$Command")), (Jvm.Cond.not (Jvm.Cond.castable "java/lang/UnsupportedOperationException" "java/lang/IllegalArgumentException")), (Jvm.Cond.not (Jvm.Cond.castable "java/lang/UnsupportedOperationException" "java/lang/IndexOutOfBoundsException")), (Jvm.Cond.not (Jvm.Cond.castable "java/util/NoSuchElementException" "java/lang/IndexOutOfBoundsException")), (Jvm.Cond.not (Jvm.Cond.castable "java/lang/IllegalArgumentException" "java/lang/IndexOutOfBoundsException")), (Jvm.Cond.castable "[B" "java/lang/Cloneable")]
def pm_strs : List (String × Nat × String) := [("ThunderCartel", 368, "no such member"), ("ThunderCartel", 370, "a value is out of range"), ("ThunderCartel", 372, "denied"), ("ThunderCartel", 110, "the member is not warned"), ("ThunderCartel", 118, "the member is not barred"), ("ThunderCartel", 124, "no such rank"), ("ThunderCartel", 181, "there are not so many members"), ("ThunderCartel", 254, "there are no members"), ("ThunderCartel", 257, "no units were sold"), ("ThunderCartel", 144, "the total or the rule is out of range"), ("ThunderCartel", 351, "no change can be undone"), ("ThunderCartel", 222, "the member is barred"), ("ThunderCartel", 328, "no such index"), ("ThunderCartel", 264, "the text buffer is full"), ("ThunderCartel", 287, "the text does not match the grammar"), ("ThunderCartel", 303, "a command of the text failed")]
/-- a text below z: its object, its bytes -/
def pm_Str (z : Nat) (bs : List Nat) (a v : Nat) (U : State) (H : Heap) : Prop :=
  va_O "java/lang/String" a (fun q => z ≤ q) U H ∧ va_OF "java/lang/String" "coder" "B" (.int 0) a (fun q => z ≤ q) U H ∧
  va_OF "java/lang/String" "value" "[B" (.ref v) a (fun q => z ≤ q) U H ∧ va_T .byte v bs.length (fun j => .int (nI (bs.getD j 0))) (fun q => z ≤ q) U H
def pm_cn : List String := ["JOIN", "ASSIGN", "RULE", "SELL", "AUDIT", "CLOSE", "LINK", "CUT", "PARDON", "LIMIT", "SEED"]
def pm_pt : List (List Nat) := [[106, 111, 105, 110, 32, 78, 32, 78], [97, 115, 115, 105, 103, 110, 32, 76], [114, 117, 108, 101, 32, 68], [115, 101, 108, 108, 32, 68, 32, 78], [97, 117, 100, 105, 116, 32, 68], [99, 108, 111, 115, 101], [108, 105, 110, 107, 32, 68, 45, 68], [99, 117, 116, 32, 68, 45, 68], [112, 97, 114, 100, 111, 110, 32, 68], [108, 105, 109, 105, 116, 32, 78], [115, 101, 101, 100, 32, 76]]
def pm_ms : List (Nat × String × List Nat) := [(327, ":", [58]), (332, "/", [47]), (334, "v", [118]), (340, "!", [33]), (342, "x", [120]), (373, "sell ", [115, 101, 108, 108, 32]), (375, " ", [32]), (377, ";audit 1;close;assign ", [59, 97, 117, 100, 105, 116, 32, 49, 59, 99, 108, 111, 115, 101, 59, 97, 115, 115, 105, 103, 110, 32])]
/-- the constants below z: the commands at kE 0.., their patterns at kE 20.., the reference's words at kE 40.., arrays -/
def pm_Kx (z : Nat) (kE : Nat → Nat) (U : State) (H : Heap) : Prop :=
  (∀ i, i < 11 → va_Z "ThunderCartel$Command" (pm_cn.getD i "") "LThunderCartel$Command;" (.ref (kE i)) (fun q => z ≤ q) U H ∧ va_O "ThunderCartel$Command" (kE i) (fun q => z ≤ q) U H ∧ va_OF "java/lang/Enum" "ordinal" "I" (.int (nI i)) (kE i) (fun q => z ≤ q) U H ∧ va_OF "ThunderCartel$Command" "pattern" "Ljava/lang/String;" (.ref (kE (20 + i))) (kE i) (fun q => z ≤ q) U H ∧ pm_Str z (pm_pt.getD i []) (kE (20 + i)) (kE (120 + i)) U H) ∧
  ((∀ i, i < 8 → vk_R "ThunderCartelLaw" (pm_ms.getD i (0, "", [])).1 (pm_ms.getD i (0, "", [])).2.1 (kE (40 + i)) U ∧ pm_Str z (pm_ms.getD i (0, "", [])).2.2 (kE (40 + i)) (kE (140 + i)) U H) ∧ kE 71 ≤ 260 ∧ va_T .int (kE 70) (kE 71) (fun j => .int (Int32.ofNat (kE (1000 + j)))) (fun q => z ≤ q) U H) ∧
  (va_Z "ThunderCartel$Command" "ALL" "[LThunderCartel$Command;" (.ref (kE 60)) (fun q => z ≤ q) U H ∧ va_T (.object "ThunderCartel$Command") (kE 60) 11 (fun j => .ref (kE j)) (fun q => z ≤ q) U H) ∧
  (va_Z "ThunderCartel$1" "$SwitchMap$ThunderCartel$Command" "[I" (.ref (kE 61)) (fun q => z ≤ q) U H ∧ va_T .int (kE 61) 11 (fun j => .int (nI ([1, 2, 3, 4, 5, 0, 6, 7, 8, 9, 10].getD j 0))) (fun q => z ≤ q) U H) ∧
  va_Z "java/lang/String" "COMPACT_STRINGS" "Z" (.int 1) (fun q => z ≤ q) U H ∧
  (va_Z "java/lang/Integer" "DigitTens" "[B" (.ref (kE 62)) (fun q => z ≤ q) U H ∧ va_T .byte (kE 62) 100 (fun j => .int (nI (48 + j / 10))) (fun q => z ≤ q) U H) ∧
  (va_Z "java/lang/Integer" "DigitOnes" "[B" (.ref (kE 63)) (fun q => z ≤ q) U H ∧ va_T .byte (kE 63) 100 (fun j => .int (nI (48 + j % 10))) (fun q => z ≤ q) U H) ∧
  va_Zq "jdk/internal/util/Preconditions" "SIOOBE_FORMATTER" "Ljava/util/function/BiFunction;" (fun q => z ≤ q) U H
theorem pm_Str.moved {z a v : Nat} {bs : List Nat} {u U : State} {H : Heap} (hv : u.vm.Alike U.vm) (h : pm_Str z bs a v u H) : pm_Str z bs a v U H :=
  ⟨h.1.moved hv, h.2.1.moved hv, h.2.2.1.moved hv, h.2.2.2.moved hv⟩
theorem pm_Str.kept {z a v : Nat} {bs : List Nat} {U : State} {H H1 : Heap} (h : pm_Str z bs a v U H) (hq : ∀ a : Nat, a < H.size → ¬ z ≤ a → H1[a]? = H[a]?) : pm_Str z bs a v U H1 :=
  ⟨h.1.kept hq, h.2.1.kept hq, h.2.2.1.kept hq, h.2.2.2.kept hq⟩
theorem pm_Kx.moved {z : Nat} {kE : Nat → Nat} {u U : State} {H : Heap} (hv : u.vm.Alike U.vm) (hR : ∀ (own tx : String) (k a : Nat), vk_R own k tx a u → vk_R own k tx a U) (h : pm_Kx z kE u H) : pm_Kx z kE U H := by
  obtain ⟨h1, h2, h3, h4, h5, h6, h7, h8⟩ := h
  exact ⟨fun i hi => ⟨(h1 i hi).1.moved hv, (h1 i hi).2.1.moved hv, (h1 i hi).2.2.1.moved hv, (h1 i hi).2.2.2.1.moved hv, (h1 i hi).2.2.2.2.moved hv⟩, ⟨fun i hi => ⟨hR _ _ _ _ (h2.1 i hi).1, (h2.1 i hi).2.moved hv⟩, h2.2.1, h2.2.2.moved hv⟩, ⟨h3.1.moved hv, h3.2.moved hv⟩, ⟨h4.1.moved hv, h4.2.moved hv⟩, h5.moved hv, ⟨h6.1.moved hv, h6.2.moved hv⟩, ⟨h7.1.moved hv, h7.2.moved hv⟩, h8.moved hv⟩
theorem pm_Kx.kept {z : Nat} {kE : Nat → Nat} {U : State} {H H1 : Heap} (h : pm_Kx z kE U H) (hq : ∀ a : Nat, a < H.size → ¬ z ≤ a → H1[a]? = H[a]?) : pm_Kx z kE U H1 := by
  obtain ⟨h1, h2, h3, h4, h5, h6, h7, h8⟩ := h
  exact ⟨fun i hi => ⟨(h1 i hi).1.kept hq, (h1 i hi).2.1.kept hq, (h1 i hi).2.2.1.kept hq, (h1 i hi).2.2.2.1.kept hq, (h1 i hi).2.2.2.2.kept hq⟩, ⟨fun i hi => ⟨(h2.1 i hi).1, (h2.1 i hi).2.kept hq⟩, h2.2.1, h2.2.2.kept hq⟩, ⟨h3.1.kept hq, h3.2.kept hq⟩, ⟨h4.1.kept hq, h4.2.kept hq⟩, h5.kept hq, ⟨h6.1.kept hq, h6.2.kept hq⟩, ⟨h7.1.kept hq, h7.2.kept hq⟩, h8.kept hq⟩
def pm_Kc (l : Launch) (z : Nat) (kA : Nat → ClassId) (kE : Nat → Nat) (U : State) (H : Heap) : Prop :=
  l.stackTraces = false ∧ vx_Zq Bundle.tN "UNASSIGNED_STACK" Bundle.steD (fun q => z ≤ q) U H ∧ vx_Zq Bundle.tN "SUPPRESSED_SENTINEL" Bundle.listD (fun q => z ≤ q) U H ∧
  (∀ q ∈ pm_strs, ∃ sa : Nat, vk_R q.1 q.2.1 q.2.2 sa U) ∧ pm_Kx z kE U H ∧ (∀ w ∈ pm_nest, va_Nw w U)
theorem pm_nc_moved {C T : String} {u U : State} (hvm : u.vm.Alike U.vm) (h : va_Nw (.not (.castable C T)) u) : va_Nw (.not (.castable C T)) U := by
  unfold va_Nw at h ⊢
  simp only [Cond.before, Cond.holds, Cond.value, hvm.findClass, hvm.assignable] at h ⊢
  exact h
theorem pm_ca_moved {C T : String} {u U : State} (hvm : u.vm.Alike U.vm) (h : va_Nw (.castable C T) u) : va_Nw (.castable C T) U := by
  unfold va_Nw at h ⊢
  simp only [Cond.before, Cond.holds, Cond.value, hvm.findClass, hvm.assignable] at h ⊢
  exact h
theorem pm_nest_warm {s U : State} (hW : s.WarmedH U.vm) : ∀ w ∈ pm_nest, va_Nw w s → va_Nw w U := by
  intro w hw h
  simp only [pm_nest, List.mem_cons, List.not_mem_nil, or_false] at hw
  rcases hw with rfl | rfl | rfl | rfl | rfl | rfl | rfl | rfl | rfl | rfl | rfl | rfl | rfl | rfl | rfl | rfl | rfl | rfl | rfl | rfl | rfl | rfl <;> first | exact va_Nw.warmM hW h | exact va_Nw.warmF hW h | exact Cond.privateMethod_warm hW h | exact va_AO.moved hW.alike h | exact pm_nc_moved hW.alike h | exact pm_ca_moved hW.alike h
theorem pm_nest_same {u U : State} (hv : u.vm = U.vm) : ∀ w ∈ pm_nest, va_Nw w u → va_Nw w U := by
  intro w hw h
  have hal : u.vm.Alike U.vm := by rw [hv]; exact Vm.Alike.refl _
  simp only [pm_nest, List.mem_cons, List.not_mem_nil, or_false] at hw
  rcases hw with rfl | rfl | rfl | rfl | rfl | rfl | rfl | rfl | rfl | rfl | rfl | rfl | rfl | rfl | rfl | rfl | rfl | rfl | rfl | rfl | rfl | rfl <;> first | exact va_Nw.same rfl hv h | exact va_AO.moved hal h | exact pm_nc_moved hal h | exact pm_ca_moved hal h
theorem pm_Kc.warm {l : Launch} {z : Nat} {kA : Nat → ClassId} {kE : Nat → Nat} {s U : State} {H : Heap} (hW : s.WarmedH U.vm) (h : pm_Kc l z kA kE s H) : pm_Kc l z kA kE U H := by
  obtain ⟨h1, h2, h3, h4, hx, h5⟩ := h
  refine ⟨h1, h2.moved hW.alike, h3.moved hW.alike, fun q hq => ?_, hx.moved hW.alike (fun _ _ _ _ h => vk_R.warm hW h), fun w hw => pm_nest_warm hW w hw (h5 w hw)⟩
  obtain ⟨sa, h⟩ := h4 q hq
  exact ⟨sa, vk_R.warm hW h⟩
theorem pm_Kc.same {l : Launch} {z : Nat} {kA : Nat → ClassId} {kE : Nat → Nat} {u U : State} {H : Heap} (hv : u.vm = U.vm) (h : pm_Kc l z kA kE u H) : pm_Kc l z kA kE U H := by
  have hal : u.vm.Alike U.vm := by rw [hv]; exact Vm.Alike.refl _
  obtain ⟨h1, h2, h3, h4, hx, h5⟩ := h
  refine ⟨h1, h2.moved hal, h3.moved hal, fun q hq => ?_, hx.moved hal (fun _ _ _ _ h => vk_R.same hv.symm h), fun w hw => pm_nest_same hv w hw (h5 w hw)⟩
  obtain ⟨sa, h⟩ := h4 q hq
  exact ⟨sa, vk_R.same hv.symm h⟩
theorem pm_Kc.kept {l : Launch} {z : Nat} {kA : Nat → ClassId} {kE : Nat → Nat} {U : State} {H H1 : Heap} (h : pm_Kc l z kA kE U H) (hq : ∀ a : Nat, a < H.size → ¬ z ≤ a → H1[a]? = H[a]?) : pm_Kc l z kA kE U H1 := by
  obtain ⟨h1, h2, h3, h4, hx, h5⟩ := h
  exact ⟨h1, h2.kept hq, h3.kept hq, h4, hx.kept hq, h5⟩
/-- what a body knows of its machine -/
def pm_B (l : Launch) (z : Nat) (D : va_G) (kA : Nat → ClassId) (kE : Nat → Nat) (own : String) (cc : ByteArray) (nL : Nat) (ret : Option FieldType) (nm : String) (tb : List ExceptionTableEntry) (d mc ms : Nat) (X : pm_X) : Prop :=
  X.1.tables.exec = Jvm.exec ∧ X.2.2.2.2.2.2.2.2.code = cc ∧ X.2.2.2.2.2.2.2.2.maxLocals = nL ∧ X.2.2.2.1.vm.findClass own = some X.2.2.2.2.1.cls ∧ (∀ w ∈ pm_T, w.before X.2.2.2.2.2.1 X.2.2.2.1 = true) ∧ X.2.2.2.2.2.2.2.1.sig.returnType = ret ∧ X.2.2.2.2.2.2.2.1.locks = false ∧
  va_K D pm_cl (pm_tys kA) X.2.2.2.1 ∧ X.2.2.2.2.2.2.2.1.name = nm ∧ X.2.2.2.2.2.2.2.2.exceptionTable.toList = tb ∧ (d ≤ X.2.2.1.frames ∧ 46 * d ≤ X.2.2.1.locals ∧ X.2.2.1.cells = mc ∧ X.2.2.1.slots = ms) ∧ z ≤ X.2.2.2.1.heap.size ∧ pm_Kc l z kA kE X.2.2.2.1 X.2.2.2.1.heap
section PM
variable {l : Launch} {z : Nat} {D : va_G} {kA : Nat → ClassId} {kE : Nat → Nat} {own : String} {cc : ByteArray} {nL : Nat} {ret : Option FieldType} {nm : String} {tb : List ExceptionTableEntry} {d mc ms : Nat} {X : pm_X} {cu su : Nat} {Q : State → Prop} {nx : Nat} {M : pm_M} {pc : Nat} {L : List (Option Value)} {st : List Value}
theorem pm_iconst (B : pm_B l z D kA kE own cc nL ret nm tb d mc ms X) {n : Int} {v : Int32} (hd : decode cc pc = .ok (.iconst n, 1)) (hv : Int32.ofInt n = v)
    (k : pm_G l z D X cu su Q nx M (pc + 1) L (.int v :: st)) : pm_G l z D X cu su Q nx M pc L st := by
  obtain ⟨hx, hb, hml, hown, hts, hr, hlk, hK, hnm, htb, hrm, hz, hcs⟩ := B
  obtain ⟨p, e, R, s, m, args, below, meth, c⟩ := X
  intro H locs ls hR hS hl
  exact lv_iconst hx hb hd hv (k H locs ls hR hS hl)
theorem pm_bipush (B : pm_B l z D kA kE own cc nL ret nm tb d mc ms X) {n : Int} {v : Int32} (hd : decode cc pc = .ok (.bipush n, 2)) (hv : (Int8.ofInt n).toInt32 = v)
    (k : pm_G l z D X cu su Q nx M (pc + 2) L (.int v :: st)) : pm_G l z D X cu su Q nx M pc L st := by
  obtain ⟨hx, hb, hml, hown, hts, hr, hlk, hK, hnm, htb, hrm, hz, hcs⟩ := B
  obtain ⟨p, e, R, s, m, args, below, meth, c⟩ := X
  intro H locs ls hR hS hl
  exact lv_bipush hx hb hd hv (k H locs ls hR hS hl)
theorem pm_sipush (B : pm_B l z D kA kE own cc nL ret nm tb d mc ms X) {n : Int} {v : Int32} (hd : decode cc pc = .ok (.sipush n, 3)) (hv : (Int16.ofInt n).toInt32 = v)
    (k : pm_G l z D X cu su Q nx M (pc + 3) L (.int v :: st)) : pm_G l z D X cu su Q nx M pc L st := by
  obtain ⟨hx, hb, hml, hown, hts, hr, hlk, hK, hnm, htb, hrm, hz, hcs⟩ := B
  obtain ⟨p, e, R, s, m, args, below, meth, c⟩ := X
  intro H locs ls hR hS hl
  exact lv_sipush hx hb hd hv (k H locs ls hR hS hl)
theorem pm_null (B : pm_B l z D kA kE own cc nL ret nm tb d mc ms X)  (hd : decode cc pc = .ok (.aconst_null, 1)) 
    (k : pm_G l z D X cu su Q nx M (pc + 1) L (.null :: st)) : pm_G l z D X cu su Q nx M pc L st := by
  obtain ⟨hx, hb, hml, hown, hts, hr, hlk, hK, hnm, htb, hrm, hz, hcs⟩ := B
  obtain ⟨p, e, R, s, m, args, below, meth, c⟩ := X
  intro H locs ls hR hS hl
  exact lv_null hx hb hd  (k H locs ls hR hS hl)
theorem pm_lconst (B : pm_B l z D kA kE own cc nL ret nm tb d mc ms X) {n : Fin 2} {v : Int64} (hd : decode cc pc = .ok (.lconst n, 1)) (hv : Int64.ofNat (n : Nat) = v)
    (k : pm_G l z D X cu su Q nx M (pc + 1) L (.long v :: st)) : pm_G l z D X cu su Q nx M pc L st := by
  obtain ⟨hx, hb, hml, hown, hts, hr, hlk, hK, hnm, htb, hrm, hz, hcs⟩ := B
  obtain ⟨p, e, R, s, m, args, below, meth, c⟩ := X
  intro H locs ls hR hS hl
  exact lv_lconst hx hb hd hv (k H locs ls hR hS hl)
theorem pm_fconst0 (B : pm_B l z D kA kE own cc nL ret nm tb d mc ms X)  (hd : decode cc pc = .ok (.fconst 0, 1)) 
    (k : pm_G l z D X cu su Q nx M (pc + 1) L (.float FP.fconst0 :: st)) : pm_G l z D X cu su Q nx M pc L st := by
  obtain ⟨hx, hb, hml, hown, hts, hr, hlk, hK, hnm, htb, hrm, hz, hcs⟩ := B
  obtain ⟨p, e, R, s, m, args, below, meth, c⟩ := X
  intro H locs ls hR hS hl
  exact lv_fconst0 hx hb hd  (k H locs ls hR hS hl)
theorem pm_dconst0 (B : pm_B l z D kA kE own cc nL ret nm tb d mc ms X)  (hd : decode cc pc = .ok (.dconst 0, 1)) 
    (k : pm_G l z D X cu su Q nx M (pc + 1) L (.double FP.dconst0 :: st)) : pm_G l z D X cu su Q nx M pc L st := by
  obtain ⟨hx, hb, hml, hown, hts, hr, hlk, hK, hnm, htb, hrm, hz, hcs⟩ := B
  obtain ⟨p, e, R, s, m, args, below, meth, c⟩ := X
  intro H locs ls hR hS hl
  exact lv_dconst0 hx hb hd  (k H locs ls hR hS hl)
theorem pm_ldcw (B : pm_B l z D kA kE own cc nL ret nm tb d mc ms X) {index : Nat} {v : Int32} (hd : decode cc pc = .ok (.ldc_w index, 3)) (hw : Cond.constant own index v ∈ pm_T)
    (k : pm_G l z D X cu su Q nx M (pc + 3) L (.int v :: st)) : pm_G l z D X cu su Q nx M pc L st := by
  obtain ⟨hx, hb, hml, hown, hts, hr, hlk, hK, hnm, htb, hrm, hz, hcs⟩ := B
  obtain ⟨p, e, R, s, m, args, below, meth, c⟩ := X
  intro H locs ls hR hS hl
  exact lv_ldcw hx hb hown (hts _ hw) hd (k H locs ls hR hS hl)
theorem pm_ldc (B : pm_B l z D kA kE own cc nL ret nm tb d mc ms X) {index : Nat} {v : Int32} (hd : decode cc pc = .ok (.ldc index, 2)) (hw : Cond.constant own index v ∈ pm_T)
    (k : pm_G l z D X cu su Q nx M (pc + 2) L (.int v :: st)) : pm_G l z D X cu su Q nx M pc L st := by
  obtain ⟨hx, hb, hml, hown, hts, hr, hlk, hK, hnm, htb, hrm, hz, hcs⟩ := B
  obtain ⟨p, e, R, s, m, args, below, meth, c⟩ := X
  intro H locs ls hR hS hl
  exact lv_ldc hx hb hown (hts _ hw) hd (k H locs ls hR hS hl)
theorem pm_iload_n (B : pm_B l z D kA kE own cc nL ret nm tb d mc ms X) {k0 : Fin 4} {x : Int32} (hd : decode cc pc = .ok (.iload_n k0, 1)) (hv : L[(k0 : Nat)]? = some (some (.int x)))
    (k : pm_G l z D X cu su Q nx M (pc + 1) L (.int x :: st)) : pm_G l z D X cu su Q nx M pc L st := by
  obtain ⟨hx, hb, hml, hown, hts, hr, hlk, hK, hnm, htb, hrm, hz, hcs⟩ := B
  obtain ⟨p, e, R, s, m, args, below, meth, c⟩ := X
  intro H locs ls hR hS hl
  exact lv_iload_n hx hb hd rfl (pm_lv_at hl hv) (k H locs ls hR hS hl)
theorem pm_iload (B : pm_B l z D kA kE own cc nL ret nm tb d mc ms X) {i : Nat} {x : Int32} (hd : decode cc pc = .ok (.iload i, 2)) (hv : L[i]? = some (some (.int x)))
    (k : pm_G l z D X cu su Q nx M (pc + 2) L (.int x :: st)) : pm_G l z D X cu su Q nx M pc L st := by
  obtain ⟨hx, hb, hml, hown, hts, hr, hlk, hK, hnm, htb, hrm, hz, hcs⟩ := B
  obtain ⟨p, e, R, s, m, args, below, meth, c⟩ := X
  intro H locs ls hR hS hl
  exact lv_iload hx hb hd (pm_lv_at hl hv) (k H locs ls hR hS hl)
theorem pm_aload_n (B : pm_B l z D kA kE own cc nL ret nm tb d mc ms X) {k0 : Fin 4} {x : Nat} (hd : decode cc pc = .ok (.aload_n k0, 1)) (hv : L[(k0 : Nat)]? = some (some (.ref x)))
    (k : pm_G l z D X cu su Q nx M (pc + 1) L (.ref x :: st)) : pm_G l z D X cu su Q nx M pc L st := by
  obtain ⟨hx, hb, hml, hown, hts, hr, hlk, hK, hnm, htb, hrm, hz, hcs⟩ := B
  obtain ⟨p, e, R, s, m, args, below, meth, c⟩ := X
  intro H locs ls hR hS hl
  exact lv_aload_n hx hb hd rfl (pm_lv_at hl hv) (k H locs ls hR hS hl)
theorem pm_aload (B : pm_B l z D kA kE own cc nL ret nm tb d mc ms X) {i : Nat} {x : Nat} (hd : decode cc pc = .ok (.aload i, 2)) (hv : L[i]? = some (some (.ref x)))
    (k : pm_G l z D X cu su Q nx M (pc + 2) L (.ref x :: st)) : pm_G l z D X cu su Q nx M pc L st := by
  obtain ⟨hx, hb, hml, hown, hts, hr, hlk, hK, hnm, htb, hrm, hz, hcs⟩ := B
  obtain ⟨p, e, R, s, m, args, below, meth, c⟩ := X
  intro H locs ls hR hS hl
  exact lv_aload hx hb hd (pm_lv_at hl hv) (k H locs ls hR hS hl)
theorem pm_fload_n (B : pm_B l z D kA kE own cc nL ret nm tb d mc ms X) {k0 : Fin 4} {x : UInt32} (hd : decode cc pc = .ok (.fload_n k0, 1)) (hv : L[(k0 : Nat)]? = some (some (.float x)))
    (k : pm_G l z D X cu su Q nx M (pc + 1) L (.float x :: st)) : pm_G l z D X cu su Q nx M pc L st := by
  obtain ⟨hx, hb, hml, hown, hts, hr, hlk, hK, hnm, htb, hrm, hz, hcs⟩ := B
  obtain ⟨p, e, R, s, m, args, below, meth, c⟩ := X
  intro H locs ls hR hS hl
  exact lv_fload_n hx hb hd rfl (pm_lv_at hl hv) (k H locs ls hR hS hl)
theorem pm_fload (B : pm_B l z D kA kE own cc nL ret nm tb d mc ms X) {i : Nat} {x : UInt32} (hd : decode cc pc = .ok (.fload i, 2)) (hv : L[i]? = some (some (.float x)))
    (k : pm_G l z D X cu su Q nx M (pc + 2) L (.float x :: st)) : pm_G l z D X cu su Q nx M pc L st := by
  obtain ⟨hx, hb, hml, hown, hts, hr, hlk, hK, hnm, htb, hrm, hz, hcs⟩ := B
  obtain ⟨p, e, R, s, m, args, below, meth, c⟩ := X
  intro H locs ls hR hS hl
  exact lv_fload hx hb hd (pm_lv_at hl hv) (k H locs ls hR hS hl)
theorem pm_dload_n (B : pm_B l z D kA kE own cc nL ret nm tb d mc ms X) {k0 : Fin 4} {x : UInt64} (hd : decode cc pc = .ok (.dload_n k0, 1)) (hv : L[(k0 : Nat)]? = some (some (.double x)))
    (k : pm_G l z D X cu su Q nx M (pc + 1) L (.double x :: st)) : pm_G l z D X cu su Q nx M pc L st := by
  obtain ⟨hx, hb, hml, hown, hts, hr, hlk, hK, hnm, htb, hrm, hz, hcs⟩ := B
  obtain ⟨p, e, R, s, m, args, below, meth, c⟩ := X
  intro H locs ls hR hS hl
  exact lv_dload_n hx hb hd rfl (pm_lv_at hl hv) (k H locs ls hR hS hl)
theorem pm_dload (B : pm_B l z D kA kE own cc nL ret nm tb d mc ms X) {i : Nat} {x : UInt64} (hd : decode cc pc = .ok (.dload i, 2)) (hv : L[i]? = some (some (.double x)))
    (k : pm_G l z D X cu su Q nx M (pc + 2) L (.double x :: st)) : pm_G l z D X cu su Q nx M pc L st := by
  obtain ⟨hx, hb, hml, hown, hts, hr, hlk, hK, hnm, htb, hrm, hz, hcs⟩ := B
  obtain ⟨p, e, R, s, m, args, below, meth, c⟩ := X
  intro H locs ls hR hS hl
  exact lv_dload hx hb hd (pm_lv_at hl hv) (k H locs ls hR hS hl)
theorem pm_aload_nN (B : pm_B l z D kA kE own cc nL ret nm tb d mc ms X) {k0 : Fin 4} (hd : decode cc pc = .ok (.aload_n k0, 1)) (hv : L[(k0 : Nat)]? = some (some .null))
    (k : pm_G l z D X cu su Q nx M (pc + 1) L (.null :: st)) : pm_G l z D X cu su Q nx M pc L st := by
  obtain ⟨hx, hb, hml, hown, hts, hr, hlk, hK, hnm, htb, hrm, hz, hcs⟩ := B
  obtain ⟨p, e, R, s, m, args, below, meth, c⟩ := X
  intro H locs ls hR hS hl
  exact lv_aload_nN hx hb hd rfl (pm_lv_at hl hv) (k H locs ls hR hS hl)
theorem pm_aloadN (B : pm_B l z D kA kE own cc nL ret nm tb d mc ms X) {i : Nat} (hd : decode cc pc = .ok (.aload i, 2)) (hv : L[i]? = some (some .null))
    (k : pm_G l z D X cu su Q nx M (pc + 2) L (.null :: st)) : pm_G l z D X cu su Q nx M pc L st := by
  obtain ⟨hx, hb, hml, hown, hts, hr, hlk, hK, hnm, htb, hrm, hz, hcs⟩ := B
  obtain ⟨p, e, R, s, m, args, below, meth, c⟩ := X
  intro H locs ls hR hS hl
  exact lv_aloadN hx hb hd (pm_lv_at hl hv) (k H locs ls hR hS hl)
theorem pm_istore_n (B : pm_B l z D kA kE own cc nL ret nm tb d mc ms X) {k0 : Fin 4} {x : Int32} (hd : decode cc pc = .ok (.istore_n k0, 1)) (hi : Nat.ble ((k0 : Nat) + 1) nL = true) (hc : pm_c1 L = true)
    (k : pm_G l z D X cu su Q nx M (pc + 1) (L.set (k0 : Nat) (some (.int x))) st) : pm_G l z D X cu su Q nx M pc L (.int x :: st) := by
  obtain ⟨hx, hb, hml, hown, hts, hr, hlk, hK, hnm, htb, hrm, hz, hcs⟩ := B
  obtain ⟨p, e, R, s, m, args, below, meth, c⟩ := X
  intro H locs ls hR hS hl
  refine lv_istore_n hx hb hd rfl hl (by have h9 := Nat.le_of_ble_eq_true hi; simp only at hml ⊢; omega) rfl (fun ls' hl' => ?_)
  exact k H locs ls' hR hS (pm_lv_set hc hl')
theorem pm_istore (B : pm_B l z D kA kE own cc nL ret nm tb d mc ms X) {i : Nat} {x : Int32} (hd : decode cc pc = .ok (.istore i, 2)) (hi : Nat.ble (i + 1) nL = true) (hc : pm_c1 L = true)
    (k : pm_G l z D X cu su Q nx M (pc + 2) (L.set i (some (.int x))) st) : pm_G l z D X cu su Q nx M pc L (.int x :: st) := by
  obtain ⟨hx, hb, hml, hown, hts, hr, hlk, hK, hnm, htb, hrm, hz, hcs⟩ := B
  obtain ⟨p, e, R, s, m, args, below, meth, c⟩ := X
  intro H locs ls hR hS hl
  refine lv_istore hx hb hd hl (by have h9 := Nat.le_of_ble_eq_true hi; simp only at hml ⊢; omega) rfl (fun ls' hl' => ?_)
  exact k H locs ls' hR hS (pm_lv_set hc hl')
theorem pm_astore_n (B : pm_B l z D kA kE own cc nL ret nm tb d mc ms X) {k0 : Fin 4} {x : Nat} (hd : decode cc pc = .ok (.astore_n k0, 1)) (hi : Nat.ble ((k0 : Nat) + 1) nL = true) (hc : pm_c1 L = true)
    (k : pm_G l z D X cu su Q nx M (pc + 1) (L.set (k0 : Nat) (some (.ref x))) st) : pm_G l z D X cu su Q nx M pc L (.ref x :: st) := by
  obtain ⟨hx, hb, hml, hown, hts, hr, hlk, hK, hnm, htb, hrm, hz, hcs⟩ := B
  obtain ⟨p, e, R, s, m, args, below, meth, c⟩ := X
  intro H locs ls hR hS hl
  refine lv_astore_n hx hb hd rfl hl (by have h9 := Nat.le_of_ble_eq_true hi; simp only at hml ⊢; omega) rfl (fun ls' hl' => ?_)
  exact k H locs ls' hR hS (pm_lv_set hc hl')
theorem pm_astore (B : pm_B l z D kA kE own cc nL ret nm tb d mc ms X) {i : Nat} {x : Nat} (hd : decode cc pc = .ok (.astore i, 2)) (hi : Nat.ble (i + 1) nL = true) (hc : pm_c1 L = true)
    (k : pm_G l z D X cu su Q nx M (pc + 2) (L.set i (some (.ref x))) st) : pm_G l z D X cu su Q nx M pc L (.ref x :: st) := by
  obtain ⟨hx, hb, hml, hown, hts, hr, hlk, hK, hnm, htb, hrm, hz, hcs⟩ := B
  obtain ⟨p, e, R, s, m, args, below, meth, c⟩ := X
  intro H locs ls hR hS hl
  refine lv_astore hx hb hd hl (by have h9 := Nat.le_of_ble_eq_true hi; simp only at hml ⊢; omega) rfl (fun ls' hl' => ?_)
  exact k H locs ls' hR hS (pm_lv_set hc hl')
theorem pm_astore_nN (B : pm_B l z D kA kE own cc nL ret nm tb d mc ms X) {k0 : Fin 4}  (hd : decode cc pc = .ok (.astore_n k0, 1)) (hi : Nat.ble ((k0 : Nat) + 1) nL = true) (hc : pm_c1 L = true)
    (k : pm_G l z D X cu su Q nx M (pc + 1) (L.set (k0 : Nat) (some (.null))) st) : pm_G l z D X cu su Q nx M pc L (.null :: st) := by
  obtain ⟨hx, hb, hml, hown, hts, hr, hlk, hK, hnm, htb, hrm, hz, hcs⟩ := B
  obtain ⟨p, e, R, s, m, args, below, meth, c⟩ := X
  intro H locs ls hR hS hl
  refine lv_astore_nN hx hb hd rfl hl (by have h9 := Nat.le_of_ble_eq_true hi; simp only at hml ⊢; omega) rfl (fun ls' hl' => ?_)
  exact k H locs ls' hR hS (pm_lv_set hc hl')
theorem pm_astoreN (B : pm_B l z D kA kE own cc nL ret nm tb d mc ms X) {i : Nat}  (hd : decode cc pc = .ok (.astore i, 2)) (hi : Nat.ble (i + 1) nL = true) (hc : pm_c1 L = true)
    (k : pm_G l z D X cu su Q nx M (pc + 2) (L.set i (some (.null))) st) : pm_G l z D X cu su Q nx M pc L (.null :: st) := by
  obtain ⟨hx, hb, hml, hown, hts, hr, hlk, hK, hnm, htb, hrm, hz, hcs⟩ := B
  obtain ⟨p, e, R, s, m, args, below, meth, c⟩ := X
  intro H locs ls hR hS hl
  refine lv_astoreN hx hb hd hl (by have h9 := Nat.le_of_ble_eq_true hi; simp only at hml ⊢; omega) rfl (fun ls' hl' => ?_)
  exact k H locs ls' hR hS (pm_lv_set hc hl')
theorem pm_fstore (B : pm_B l z D kA kE own cc nL ret nm tb d mc ms X) {i : Nat} {x : UInt32} (hd : decode cc pc = .ok (.fstore i, 2)) (hi : Nat.ble (i + 1) nL = true) (hc : pm_c1 L = true)
    (k : pm_G l z D X cu su Q nx M (pc + 2) (L.set i (some (.float x))) st) : pm_G l z D X cu su Q nx M pc L (.float x :: st) := by
  obtain ⟨hx, hb, hml, hown, hts, hr, hlk, hK, hnm, htb, hrm, hz, hcs⟩ := B
  obtain ⟨p, e, R, s, m, args, below, meth, c⟩ := X
  intro H locs ls hR hS hl
  refine lv_fstore hx hb hd hl (by have h9 := Nat.le_of_ble_eq_true hi; simp only at hml ⊢; omega) rfl (fun ls' hl' => ?_)
  exact k H locs ls' hR hS (pm_lv_set hc hl')
theorem pm_iinc (B : pm_B l z D kA kE own cc nL ret nm tb d mc ms X) {i : Nat} {n : Int} {x : Int32} (hd : decode cc pc = .ok (.iinc i n, 3)) (hv : L[i]? = some (some (.int x))) (hi : Nat.ble (i + 1) nL = true) (hc : pm_c1 L = true)
    (k : pm_G l z D X cu su Q nx M (pc + 3) (L.set i (some (.int (x + Int32.ofInt n)))) st) : pm_G l z D X cu su Q nx M pc L st := by
  obtain ⟨hx, hb, hml, hown, hts, hr, hlk, hK, hnm, htb, hrm, hz, hcs⟩ := B
  obtain ⟨p, e, R, s, m, args, below, meth, c⟩ := X
  intro H locs ls hR hS hl
  obtain ⟨kk, hk⟩ := List.getElem?_of_mem ((pm_lv_mem L 0 i (.int x)).mpr ⟨i, by omega, hv⟩)
  refine lv_iinc hx hb hd hl hk rfl (by have h9 := Nat.le_of_ble_eq_true hi; simp only at hml ⊢; omega) rfl (fun ls' hl' => ?_)
  exact k H locs ls' hR hS (pm_lv_set hc hl')
theorem pm_iadd (B : pm_B l z D kA kE own cc nL ret nm tb d mc ms X) {x y : Int32} (hd : decode cc pc = .ok (.iadd, 1)) 
    (k : pm_G l z D X cu su Q nx M (pc + 1) L (.int (x + y) :: st)) : pm_G l z D X cu su Q nx M pc L (.int y :: .int x :: st) := by
  obtain ⟨hx, hb, hml, hown, hts, hr, hlk, hK, hnm, htb, hrm, hz, hcs⟩ := B
  obtain ⟨p, e, R, s, m, args, below, meth, c⟩ := X
  intro H locs ls hR hS hl
  exact lv_iadd hx hb hd  (k H locs ls hR hS hl)
theorem pm_isub (B : pm_B l z D kA kE own cc nL ret nm tb d mc ms X) {x y : Int32} (hd : decode cc pc = .ok (.isub, 1)) 
    (k : pm_G l z D X cu su Q nx M (pc + 1) L (.int (x - y) :: st)) : pm_G l z D X cu su Q nx M pc L (.int y :: .int x :: st) := by
  obtain ⟨hx, hb, hml, hown, hts, hr, hlk, hK, hnm, htb, hrm, hz, hcs⟩ := B
  obtain ⟨p, e, R, s, m, args, below, meth, c⟩ := X
  intro H locs ls hR hS hl
  exact lv_isub hx hb hd  (k H locs ls hR hS hl)
theorem pm_imul (B : pm_B l z D kA kE own cc nL ret nm tb d mc ms X) {x y : Int32} (hd : decode cc pc = .ok (.imul, 1)) 
    (k : pm_G l z D X cu su Q nx M (pc + 1) L (.int (x * y) :: st)) : pm_G l z D X cu su Q nx M pc L (.int y :: .int x :: st) := by
  obtain ⟨hx, hb, hml, hown, hts, hr, hlk, hK, hnm, htb, hrm, hz, hcs⟩ := B
  obtain ⟨p, e, R, s, m, args, below, meth, c⟩ := X
  intro H locs ls hR hS hl
  exact lv_imul hx hb hd  (k H locs ls hR hS hl)
theorem pm_iand (B : pm_B l z D kA kE own cc nL ret nm tb d mc ms X) {x y : Int32} (hd : decode cc pc = .ok (.iand, 1)) 
    (k : pm_G l z D X cu su Q nx M (pc + 1) L (.int (x &&& y) :: st)) : pm_G l z D X cu su Q nx M pc L (.int y :: .int x :: st) := by
  obtain ⟨hx, hb, hml, hown, hts, hr, hlk, hK, hnm, htb, hrm, hz, hcs⟩ := B
  obtain ⟨p, e, R, s, m, args, below, meth, c⟩ := X
  intro H locs ls hR hS hl
  exact lv_iand hx hb hd  (k H locs ls hR hS hl)
theorem pm_ior (B : pm_B l z D kA kE own cc nL ret nm tb d mc ms X) {x y : Int32} (hd : decode cc pc = .ok (.ior, 1)) 
    (k : pm_G l z D X cu su Q nx M (pc + 1) L (.int (x ||| y) :: st)) : pm_G l z D X cu su Q nx M pc L (.int y :: .int x :: st) := by
  obtain ⟨hx, hb, hml, hown, hts, hr, hlk, hK, hnm, htb, hrm, hz, hcs⟩ := B
  obtain ⟨p, e, R, s, m, args, below, meth, c⟩ := X
  intro H locs ls hR hS hl
  exact lv_ior hx hb hd  (k H locs ls hR hS hl)
theorem pm_ixor (B : pm_B l z D kA kE own cc nL ret nm tb d mc ms X) {x y : Int32} (hd : decode cc pc = .ok (.ixor, 1)) 
    (k : pm_G l z D X cu su Q nx M (pc + 1) L (.int (x ^^^ y) :: st)) : pm_G l z D X cu su Q nx M pc L (.int y :: .int x :: st) := by
  obtain ⟨hx, hb, hml, hown, hts, hr, hlk, hK, hnm, htb, hrm, hz, hcs⟩ := B
  obtain ⟨p, e, R, s, m, args, below, meth, c⟩ := X
  intro H locs ls hR hS hl
  exact lv_ixor hx hb hd  (k H locs ls hR hS hl)
theorem pm_idiv (B : pm_B l z D kA kE own cc nL ret nm tb d mc ms X) {x y : Int32} (hd : decode cc pc = .ok (.idiv, 1)) (hne : ¬ y = 0)
    (k : pm_G l z D X cu su Q nx M (pc + 1) L (.int (x / y) :: st)) : pm_G l z D X cu su Q nx M pc L (.int y :: .int x :: st) := by
  obtain ⟨hx, hb, hml, hown, hts, hr, hlk, hK, hnm, htb, hrm, hz, hcs⟩ := B
  obtain ⟨p, e, R, s, m, args, below, meth, c⟩ := X
  intro H locs ls hR hS hl
  exact lv_idiv hx hb hd hne (k H locs ls hR hS hl)
theorem pm_irem (B : pm_B l z D kA kE own cc nL ret nm tb d mc ms X) {x y : Int32} (hd : decode cc pc = .ok (.irem, 1)) (hne : ¬ y = 0)
    (k : pm_G l z D X cu su Q nx M (pc + 1) L (.int (x - x / y * y) :: st)) : pm_G l z D X cu su Q nx M pc L (.int y :: .int x :: st) := by
  obtain ⟨hx, hb, hml, hown, hts, hr, hlk, hK, hnm, htb, hrm, hz, hcs⟩ := B
  obtain ⟨p, e, R, s, m, args, below, meth, c⟩ := X
  intro H locs ls hR hS hl
  exact lv_irem hx hb hd hne (k H locs ls hR hS hl)
theorem pm_ishl (B : pm_B l z D kA kE own cc nL ret nm tb d mc ms X) {x y : Int32} (hd : decode cc pc = .ok (.ishl, 1)) 
    (k : pm_G l z D X cu su Q nx M (pc + 1) L (.int (x <<< (y &&& 31)) :: st)) : pm_G l z D X cu su Q nx M pc L (.int y :: .int x :: st) := by
  obtain ⟨hx, hb, hml, hown, hts, hr, hlk, hK, hnm, htb, hrm, hz, hcs⟩ := B
  obtain ⟨p, e, R, s, m, args, below, meth, c⟩ := X
  intro H locs ls hR hS hl
  exact lv_ishl hx hb hd  (k H locs ls hR hS hl)
theorem pm_ishr (B : pm_B l z D kA kE own cc nL ret nm tb d mc ms X) {x y : Int32} (hd : decode cc pc = .ok (.ishr, 1)) 
    (k : pm_G l z D X cu su Q nx M (pc + 1) L (.int (x >>> (y &&& 31)) :: st)) : pm_G l z D X cu su Q nx M pc L (.int y :: .int x :: st) := by
  obtain ⟨hx, hb, hml, hown, hts, hr, hlk, hK, hnm, htb, hrm, hz, hcs⟩ := B
  obtain ⟨p, e, R, s, m, args, below, meth, c⟩ := X
  intro H locs ls hR hS hl
  exact lv_ishr hx hb hd  (k H locs ls hR hS hl)
theorem pm_ineg (B : pm_B l z D kA kE own cc nL ret nm tb d mc ms X) {x : Int32} (hd : decode cc pc = .ok (.ineg, 1)) 
    (k : pm_G l z D X cu su Q nx M (pc + 1) L (.int (-x) :: st)) : pm_G l z D X cu su Q nx M pc L (.int x :: st) := by
  obtain ⟨hx, hb, hml, hown, hts, hr, hlk, hK, hnm, htb, hrm, hz, hcs⟩ := B
  obtain ⟨p, e, R, s, m, args, below, meth, c⟩ := X
  intro H locs ls hR hS hl
  exact lv_ineg hx hb hd  (k H locs ls hR hS hl)
theorem pm_i2l (B : pm_B l z D kA kE own cc nL ret nm tb d mc ms X) {x : Int32} (hd : decode cc pc = .ok (.i2l, 1)) 
    (k : pm_G l z D X cu su Q nx M (pc + 1) L (.long x.toInt64 :: st)) : pm_G l z D X cu su Q nx M pc L (.int x :: st) := by
  obtain ⟨hx, hb, hml, hown, hts, hr, hlk, hK, hnm, htb, hrm, hz, hcs⟩ := B
  obtain ⟨p, e, R, s, m, args, below, meth, c⟩ := X
  intro H locs ls hR hS hl
  exact lv_i2l hx hb hd rfl (k H locs ls hR hS hl)
theorem pm_i2c (B : pm_B l z D kA kE own cc nL ret nm tb d mc ms X) {x : Int32} (hd : decode cc pc = .ok (.i2c, 1)) 
    (k : pm_G l z D X cu su Q nx M (pc + 1) L (.int (x.toUInt32 % 65536).toInt32 :: st)) : pm_G l z D X cu su Q nx M pc L (.int x :: st) := by
  obtain ⟨hx, hb, hml, hown, hts, hr, hlk, hK, hnm, htb, hrm, hz, hcs⟩ := B
  obtain ⟨p, e, R, s, m, args, below, meth, c⟩ := X
  intro H locs ls hR hS hl
  exact lv_i2c hx hb hd rfl (k H locs ls hR hS hl)
theorem pm_i2d (B : pm_B l z D kA kE own cc nL ret nm tb d mc ms X) {x : Int32} (hd : decode cc pc = .ok (.i2d, 1)) 
    (k : pm_G l z D X cu su Q nx M (pc + 1) L (.double (FP.i2d x) :: st)) : pm_G l z D X cu su Q nx M pc L (.int x :: st) := by
  obtain ⟨hx, hb, hml, hown, hts, hr, hlk, hK, hnm, htb, hrm, hz, hcs⟩ := B
  obtain ⟨p, e, R, s, m, args, below, meth, c⟩ := X
  intro H locs ls hR hS hl
  exact lv_i2d hx hb hd  (k H locs ls hR hS hl)
theorem pm_i2f (B : pm_B l z D kA kE own cc nL ret nm tb d mc ms X) {x : Int32} (hd : decode cc pc = .ok (.i2f, 1)) 
    (k : pm_G l z D X cu su Q nx M (pc + 1) L (.float (FP.i2f x) :: st)) : pm_G l z D X cu su Q nx M pc L (.int x :: st) := by
  obtain ⟨hx, hb, hml, hown, hts, hr, hlk, hK, hnm, htb, hrm, hz, hcs⟩ := B
  obtain ⟨p, e, R, s, m, args, below, meth, c⟩ := X
  intro H locs ls hR hS hl
  exact lv_i2f hx hb hd  (k H locs ls hR hS hl)
theorem pm_f2d (B : pm_B l z D kA kE own cc nL ret nm tb d mc ms X) {x : UInt32} (hd : decode cc pc = .ok (.f2d, 1)) (hne : vf_n64 (FP.f2d x))
    (k : pm_G l z D X cu su Q nx M (pc + 1) L (.double (FP.f2d x) :: st)) : pm_G l z D X cu su Q nx M pc L (.float x :: st) := by
  obtain ⟨hx, hb, hml, hown, hts, hr, hlk, hK, hnm, htb, hrm, hz, hcs⟩ := B
  obtain ⟨p, e, R, s, m, args, below, meth, c⟩ := X
  intro H locs ls hR hS hl
  exact lv_f2d hx hb hd hne (k H locs ls hR hS hl)
theorem pm_ddiv (B : pm_B l z D kA kE own cc nL ret nm tb d mc ms X) {x y : UInt64} (hd : decode cc pc = .ok (.ddiv, 1)) (hne : vf_n64 (FP.ddiv x y))
    (k : pm_G l z D X cu su Q nx M (pc + 1) L (.double (FP.ddiv x y) :: st)) : pm_G l z D X cu su Q nx M pc L (.double y :: .double x :: st) := by
  obtain ⟨hx, hb, hml, hown, hts, hr, hlk, hK, hnm, htb, hrm, hz, hcs⟩ := B
  obtain ⟨p, e, R, s, m, args, below, meth, c⟩ := X
  intro H locs ls hR hS hl
  exact lv_ddiv hx hb hd hne (k H locs ls hR hS hl)
theorem pm_fdiv (B : pm_B l z D kA kE own cc nL ret nm tb d mc ms X) {x y : UInt32} (hd : decode cc pc = .ok (.fdiv, 1)) (hne : vf_n32 (FP.fdiv x y))
    (k : pm_G l z D X cu su Q nx M (pc + 1) L (.float (FP.fdiv x y) :: st)) : pm_G l z D X cu su Q nx M pc L (.float y :: .float x :: st) := by
  obtain ⟨hx, hb, hml, hown, hts, hr, hlk, hK, hnm, htb, hrm, hz, hcs⟩ := B
  obtain ⟨p, e, R, s, m, args, below, meth, c⟩ := X
  intro H locs ls hR hS hl
  exact lv_fdiv hx hb hd hne (k H locs ls hR hS hl)
theorem pm_dcmp (B : pm_B l z D kA kE own cc nL ret nm tb d mc ms X) {x y : UInt64} {op : CmpOp} (hd : decode cc pc = .ok (.dcmp op, 1)) 
    (k : pm_G l z D X cu su Q nx M (pc + 1) L (.int (Op.cmpValue (FP.dcmp x y) op) :: st)) : pm_G l z D X cu su Q nx M pc L (.double y :: .double x :: st) := by
  obtain ⟨hx, hb, hml, hown, hts, hr, hlk, hK, hnm, htb, hrm, hz, hcs⟩ := B
  obtain ⟨p, e, R, s, m, args, below, meth, c⟩ := X
  intro H locs ls hR hS hl
  exact lv_dcmp hx hb hd  (k H locs ls hR hS hl)
theorem pm_fcmp (B : pm_B l z D kA kE own cc nL ret nm tb d mc ms X) {x y : UInt32} {op : CmpOp} (hd : decode cc pc = .ok (.fcmp op, 1)) 
    (k : pm_G l z D X cu su Q nx M (pc + 1) L (.int (Op.cmpValue (FP.fcmp x y) op) :: st)) : pm_G l z D X cu su Q nx M pc L (.float y :: .float x :: st) := by
  obtain ⟨hx, hb, hml, hown, hts, hr, hlk, hK, hnm, htb, hrm, hz, hcs⟩ := B
  obtain ⟨p, e, R, s, m, args, below, meth, c⟩ := X
  intro H locs ls hR hS hl
  exact lv_fcmp hx hb hd  (k H locs ls hR hS hl)
theorem pm_dup (B : pm_B l z D kA kE own cc nL ret nm tb d mc ms X) {v : Value} (hd : decode cc pc = .ok (.dup, 1)) (hv : v.category = 1)
    (k : pm_G l z D X cu su Q nx M (pc + 1) L (v :: v :: st)) : pm_G l z D X cu su Q nx M pc L (v :: st) := by
  obtain ⟨hx, hb, hml, hown, hts, hr, hlk, hK, hnm, htb, hrm, hz, hcs⟩ := B
  obtain ⟨p, e, R, s, m, args, below, meth, c⟩ := X
  intro H locs ls hR hS hl
  exact lv_dup hx hb hd hv (k H locs ls hR hS hl)
theorem pm_pop (B : pm_B l z D kA kE own cc nL ret nm tb d mc ms X) {v : Value} (hd : decode cc pc = .ok (.pop, 1)) (hv : v.category = 1)
    (k : pm_G l z D X cu su Q nx M (pc + 1) L st) : pm_G l z D X cu su Q nx M pc L (v :: st) := by
  obtain ⟨hx, hb, hml, hown, hts, hr, hlk, hK, hnm, htb, hrm, hz, hcs⟩ := B
  obtain ⟨p, e, R, s, m, args, below, meth, c⟩ := X
  intro H locs ls hR hS hl
  exact lv_pop hx hb hd hv (k H locs ls hR hS hl)
theorem pm_dup_x1 (B : pm_B l z D kA kE own cc nL ret nm tb d mc ms X) {v w : Value} (hd : decode cc pc = .ok (.dup_x1, 1)) (hv : v.category = 1) (hw : w.category = 1)
    (k : pm_G l z D X cu su Q nx M (pc + 1) L (v :: w :: v :: st)) : pm_G l z D X cu su Q nx M pc L (v :: w :: st) := by
  obtain ⟨hx, hb, hml, hown, hts, hr, hlk, hK, hnm, htb, hrm, hz, hcs⟩ := B
  obtain ⟨p, e, R, s, m, args, below, meth, c⟩ := X
  intro H locs ls hR hS hl
  exact lv_dup_x1 hx hb hd hv hw (k H locs ls hR hS hl)
theorem pm_dup2 (B : pm_B l z D kA kE own cc nL ret nm tb d mc ms X) {v w : Value} (hd : decode cc pc = .ok (.dup2, 1)) (hv : v.category = 1) (hw : w.category = 1)
    (k : pm_G l z D X cu su Q nx M (pc + 1) L (v :: w :: v :: w :: st)) : pm_G l z D X cu su Q nx M pc L (v :: w :: st) := by
  obtain ⟨hx, hb, hml, hown, hts, hr, hlk, hK, hnm, htb, hrm, hz, hcs⟩ := B
  obtain ⟨p, e, R, s, m, args, below, meth, c⟩ := X
  intro H locs ls hR hS hl
  exact lv_dup2_11 hx hb hd hv hw (k H locs ls hR hS hl)
theorem pm_if_eq (B : pm_B l z D kA kE own cc nL ret nm tb d mc ms X) {x : Int32} {off : Int} {tgt : Nat} (hd : decode cc pc = .ok (.ifCond .eq off, 3)) (ht : (pc : Int) + off = (tgt : Int))
    (kt : x = 0 → pm_G l z D X cu su Q nx M tgt L st) (kf : ¬ x = 0 → pm_G l z D X cu su Q nx M (pc + 3) L st) : pm_G l z D X cu su Q nx M pc L (.int x :: st) := by
  obtain ⟨hx, hb, hml, hown, hts, hr, hlk, hK, hnm, htb, hrm, hz, hcs⟩ := B
  obtain ⟨p, e, R, s, m, args, below, meth, c⟩ := X
  intro H locs ls hR hS hl
  exact lv_if_eq hx hb hd ht (fun h => kt h H locs ls hR hS hl) (fun h => kf h H locs ls hR hS hl)
theorem pm_if_lt (B : pm_B l z D kA kE own cc nL ret nm tb d mc ms X) {x : Int32} {off : Int} {tgt : Nat} (hd : decode cc pc = .ok (.ifCond .lt off, 3)) (ht : (pc : Int) + off = (tgt : Int))
    (kt : x < 0 → pm_G l z D X cu su Q nx M tgt L st) (kf : ¬ x < 0 → pm_G l z D X cu su Q nx M (pc + 3) L st) : pm_G l z D X cu su Q nx M pc L (.int x :: st) := by
  obtain ⟨hx, hb, hml, hown, hts, hr, hlk, hK, hnm, htb, hrm, hz, hcs⟩ := B
  obtain ⟨p, e, R, s, m, args, below, meth, c⟩ := X
  intro H locs ls hR hS hl
  exact lv_if_lt hx hb hd ht (fun h => kt h H locs ls hR hS hl) (fun h => kf h H locs ls hR hS hl)
theorem pm_if_ge (B : pm_B l z D kA kE own cc nL ret nm tb d mc ms X) {x : Int32} {off : Int} {tgt : Nat} (hd : decode cc pc = .ok (.ifCond .ge off, 3)) (ht : (pc : Int) + off = (tgt : Int))
    (kt : 0 ≤ x → pm_G l z D X cu su Q nx M tgt L st) (kf : ¬ 0 ≤ x → pm_G l z D X cu su Q nx M (pc + 3) L st) : pm_G l z D X cu su Q nx M pc L (.int x :: st) := by
  obtain ⟨hx, hb, hml, hown, hts, hr, hlk, hK, hnm, htb, hrm, hz, hcs⟩ := B
  obtain ⟨p, e, R, s, m, args, below, meth, c⟩ := X
  intro H locs ls hR hS hl
  exact lv_if_ge hx hb hd ht (fun h => kt h H locs ls hR hS hl) (fun h => kf h H locs ls hR hS hl)
theorem pm_if_gt (B : pm_B l z D kA kE own cc nL ret nm tb d mc ms X) {x : Int32} {off : Int} {tgt : Nat} (hd : decode cc pc = .ok (.ifCond .gt off, 3)) (ht : (pc : Int) + off = (tgt : Int))
    (kt : 0 < x → pm_G l z D X cu su Q nx M tgt L st) (kf : ¬ 0 < x → pm_G l z D X cu su Q nx M (pc + 3) L st) : pm_G l z D X cu su Q nx M pc L (.int x :: st) := by
  obtain ⟨hx, hb, hml, hown, hts, hr, hlk, hK, hnm, htb, hrm, hz, hcs⟩ := B
  obtain ⟨p, e, R, s, m, args, below, meth, c⟩ := X
  intro H locs ls hR hS hl
  exact lv_if_gt hx hb hd ht (fun h => kt h H locs ls hR hS hl) (fun h => kf h H locs ls hR hS hl)
theorem pm_if_le (B : pm_B l z D kA kE own cc nL ret nm tb d mc ms X) {x : Int32} {off : Int} {tgt : Nat} (hd : decode cc pc = .ok (.ifCond .le off, 3)) (ht : (pc : Int) + off = (tgt : Int))
    (kt : x ≤ 0 → pm_G l z D X cu su Q nx M tgt L st) (kf : ¬ x ≤ 0 → pm_G l z D X cu su Q nx M (pc + 3) L st) : pm_G l z D X cu su Q nx M pc L (.int x :: st) := by
  obtain ⟨hx, hb, hml, hown, hts, hr, hlk, hK, hnm, htb, hrm, hz, hcs⟩ := B
  obtain ⟨p, e, R, s, m, args, below, meth, c⟩ := X
  intro H locs ls hR hS hl
  exact lv_if_le hx hb hd ht (fun h => kt h H locs ls hR hS hl) (fun h => kf h H locs ls hR hS hl)
theorem pm_icmp_eq (B : pm_B l z D kA kE own cc nL ret nm tb d mc ms X) {x y : Int32} {off : Int} {tgt : Nat} (hd : decode cc pc = .ok (.if_icmp .eq off, 3)) (ht : (pc : Int) + off = (tgt : Int))
    (kt : x = y → pm_G l z D X cu su Q nx M tgt L st) (kf : ¬ x = y → pm_G l z D X cu su Q nx M (pc + 3) L st) : pm_G l z D X cu su Q nx M pc L (.int y :: .int x :: st) := by
  obtain ⟨hx, hb, hml, hown, hts, hr, hlk, hK, hnm, htb, hrm, hz, hcs⟩ := B
  obtain ⟨p, e, R, s, m, args, below, meth, c⟩ := X
  intro H locs ls hR hS hl
  exact lv_icmp_eq hx hb hd ht (fun h => kt h H locs ls hR hS hl) (fun h => kf h H locs ls hR hS hl)
theorem pm_icmp_lt (B : pm_B l z D kA kE own cc nL ret nm tb d mc ms X) {x y : Int32} {off : Int} {tgt : Nat} (hd : decode cc pc = .ok (.if_icmp .lt off, 3)) (ht : (pc : Int) + off = (tgt : Int))
    (kt : x < y → pm_G l z D X cu su Q nx M tgt L st) (kf : ¬ x < y → pm_G l z D X cu su Q nx M (pc + 3) L st) : pm_G l z D X cu su Q nx M pc L (.int y :: .int x :: st) := by
  obtain ⟨hx, hb, hml, hown, hts, hr, hlk, hK, hnm, htb, hrm, hz, hcs⟩ := B
  obtain ⟨p, e, R, s, m, args, below, meth, c⟩ := X
  intro H locs ls hR hS hl
  exact lv_icmp_lt hx hb hd ht (fun h => kt h H locs ls hR hS hl) (fun h => kf h H locs ls hR hS hl)
theorem pm_icmp_ge (B : pm_B l z D kA kE own cc nL ret nm tb d mc ms X) {x y : Int32} {off : Int} {tgt : Nat} (hd : decode cc pc = .ok (.if_icmp .ge off, 3)) (ht : (pc : Int) + off = (tgt : Int))
    (kt : y ≤ x → pm_G l z D X cu su Q nx M tgt L st) (kf : ¬ y ≤ x → pm_G l z D X cu su Q nx M (pc + 3) L st) : pm_G l z D X cu su Q nx M pc L (.int y :: .int x :: st) := by
  obtain ⟨hx, hb, hml, hown, hts, hr, hlk, hK, hnm, htb, hrm, hz, hcs⟩ := B
  obtain ⟨p, e, R, s, m, args, below, meth, c⟩ := X
  intro H locs ls hR hS hl
  exact lv_icmp_ge hx hb hd ht (fun h => kt h H locs ls hR hS hl) (fun h => kf h H locs ls hR hS hl)
theorem pm_icmp_gt (B : pm_B l z D kA kE own cc nL ret nm tb d mc ms X) {x y : Int32} {off : Int} {tgt : Nat} (hd : decode cc pc = .ok (.if_icmp .gt off, 3)) (ht : (pc : Int) + off = (tgt : Int))
    (kt : y < x → pm_G l z D X cu su Q nx M tgt L st) (kf : ¬ y < x → pm_G l z D X cu su Q nx M (pc + 3) L st) : pm_G l z D X cu su Q nx M pc L (.int y :: .int x :: st) := by
  obtain ⟨hx, hb, hml, hown, hts, hr, hlk, hK, hnm, htb, hrm, hz, hcs⟩ := B
  obtain ⟨p, e, R, s, m, args, below, meth, c⟩ := X
  intro H locs ls hR hS hl
  exact lv_icmp_gt hx hb hd ht (fun h => kt h H locs ls hR hS hl) (fun h => kf h H locs ls hR hS hl)
theorem pm_icmp_le (B : pm_B l z D kA kE own cc nL ret nm tb d mc ms X) {x y : Int32} {off : Int} {tgt : Nat} (hd : decode cc pc = .ok (.if_icmp .le off, 3)) (ht : (pc : Int) + off = (tgt : Int))
    (kt : x ≤ y → pm_G l z D X cu su Q nx M tgt L st) (kf : ¬ x ≤ y → pm_G l z D X cu su Q nx M (pc + 3) L st) : pm_G l z D X cu su Q nx M pc L (.int y :: .int x :: st) := by
  obtain ⟨hx, hb, hml, hown, hts, hr, hlk, hK, hnm, htb, hrm, hz, hcs⟩ := B
  obtain ⟨p, e, R, s, m, args, below, meth, c⟩ := X
  intro H locs ls hR hS hl
  exact lv_icmp_le hx hb hd ht (fun h => kt h H locs ls hR hS hl) (fun h => kf h H locs ls hR hS hl)
theorem pm_if_ne (B : pm_B l z D kA kE own cc nL ret nm tb d mc ms X) {x : Int32} {off : Int} {tgt : Nat} (hd : decode cc pc = .ok (.ifCond .ne off, 3)) (ht : (pc : Int) + off = (tgt : Int))
    (kt : ¬ x = 0 → pm_G l z D X cu su Q nx M tgt L st) (kf : x = 0 → pm_G l z D X cu su Q nx M (pc + 3) L st) : pm_G l z D X cu su Q nx M pc L (.int x :: st) := by
  obtain ⟨hx, hb, hml, hown, hts, hr, hlk, hK, hnm, htb, hrm, hz, hcs⟩ := B
  obtain ⟨p, e, R, s, m, args, below, meth, c⟩ := X
  intro H locs ls hR hS hl
  exact lv_if_ne hx hb hd ht (fun h => kt h H locs ls hR hS hl) (fun h => kf h H locs ls hR hS hl)
theorem pm_icmp_ne (B : pm_B l z D kA kE own cc nL ret nm tb d mc ms X) {x y : Int32} {off : Int} {tgt : Nat} (hd : decode cc pc = .ok (.if_icmp .ne off, 3)) (ht : (pc : Int) + off = (tgt : Int))
    (kt : ¬ x = y → pm_G l z D X cu su Q nx M tgt L st) (kf : x = y → pm_G l z D X cu su Q nx M (pc + 3) L st) : pm_G l z D X cu su Q nx M pc L (.int y :: .int x :: st) := by
  obtain ⟨hx, hb, hml, hown, hts, hr, hlk, hK, hnm, htb, hrm, hz, hcs⟩ := B
  obtain ⟨p, e, R, s, m, args, below, meth, c⟩ := X
  intro H locs ls hR hS hl
  exact lv_icmp_ne hx hb hd ht (fun h => kt h H locs ls hR hS hl) (fun h => kf h H locs ls hR hS hl)
theorem pm_goto (B : pm_B l z D kA kE own cc nL ret nm tb d mc ms X) {off : Int} {tgt : Nat} (hd : decode cc pc = .ok (.goto off, 3)) (ht : (pc : Int) + off = (tgt : Int))
    (k : pm_G l z D X cu su Q nx M tgt L st) : pm_G l z D X cu su Q nx M pc L st := by
  obtain ⟨hx, hb, hml, hown, hts, hr, hlk, hK, hnm, htb, hrm, hz, hcs⟩ := B
  obtain ⟨p, e, R, s, m, args, below, meth, c⟩ := X
  intro H locs ls hR hS hl
  exact lv_goto hx hb hd ht (k H locs ls hR hS hl)
theorem pm_ifnull (B : pm_B l z D kA kE own cc nL ret nm tb d mc ms X) {off : Int} {x : Nat} (hd : decode cc pc = .ok (.ifnull off, 3))
    (k : pm_G l z D X cu su Q nx M (pc + 3) L st) : pm_G l z D X cu su Q nx M pc L (.ref x :: st) := by
  obtain ⟨hx, hb, hml, hown, hts, hr, hlk, hK, hnm, htb, hrm, hz, hcs⟩ := B
  obtain ⟨p, e, R, s, m, args, below, meth, c⟩ := X
  intro H locs ls hR hS hl
  exact lv_ifnull hx hb hd (k H locs ls hR hS hl)
theorem pm_ifnullN (B : pm_B l z D kA kE own cc nL ret nm tb d mc ms X) {off : Int} {tgt : Nat} (hd : decode cc pc = .ok (.ifnull off, 3)) (ht : (pc : Int) + off = (tgt : Int))
    (k : pm_G l z D X cu su Q nx M tgt L st) : pm_G l z D X cu su Q nx M pc L (.null :: st) := by
  obtain ⟨hx, hb, hml, hown, hts, hr, hlk, hK, hnm, htb, hrm, hz, hcs⟩ := B
  obtain ⟨p, e, R, s, m, args, below, meth, c⟩ := X
  intro H locs ls hR hS hl
  exact lv_ifnullN hx hb hd ht (k H locs ls hR hS hl)
theorem pm_ifnonnullN (B : pm_B l z D kA kE own cc nL ret nm tb d mc ms X) {off : Int} (hd : decode cc pc = .ok (.ifnonnull off, 3))
    (k : pm_G l z D X cu su Q nx M (pc + 3) L st) : pm_G l z D X cu su Q nx M pc L (.null :: st) := by
  obtain ⟨hx, hb, hml, hown, hts, hr, hlk, hK, hnm, htb, hrm, hz, hcs⟩ := B
  obtain ⟨p, e, R, s, m, args, below, meth, c⟩ := X
  intro H locs ls hR hS hl
  exact lv_ifnonnullN hx hb hd (k H locs ls hR hS hl)
theorem pm_ifnonnull (B : pm_B l z D kA kE own cc nL ret nm tb d mc ms X) {off : Int} {tgt : Nat} {x : Nat} (hd : decode cc pc = .ok (.ifnonnull off, 3)) (ht : (pc : Int) + off = (tgt : Int))
    (k : pm_G l z D X cu su Q nx M tgt L st) : pm_G l z D X cu su Q nx M pc L (.ref x :: st) := by
  obtain ⟨hx, hb, hml, hown, hts, hr, hlk, hK, hnm, htb, hrm, hz, hcs⟩ := B
  obtain ⟨p, e, R, s, m, args, below, meth, c⟩ := X
  intro H locs ls hR hS hl
  exact lv_ifnonnull hx hb hd ht (k H locs ls hR hS hl)
theorem pm_tableIn (B : pm_B l z D kA kE own cc nL ret nm tb d mc ms X) {dflt lo hi : Int} {offs : Array Int} {len : Nat} {x : Int32} {off : Int} {tgt : Nat} (hd : decode cc pc = .ok (.tableswitch dflt lo hi offs, len)) (h1 : ¬ x.toInt < lo) (h2 : ¬ hi < x.toInt) (ho : offs[(x.toInt - lo).toNat]? = some off) (ht : (pc : Int) + off = (tgt : Int))
    (k : pm_G l z D X cu su Q nx M tgt L st) : pm_G l z D X cu su Q nx M pc L (.int x :: st) := by
  obtain ⟨hx, hb, hml, hown, hts, hr, hlk, hK, hnm, htb, hrm, hz, hcs⟩ := B
  obtain ⟨p, e, R, s, m, args, below, meth, c⟩ := X
  intro H locs ls hR hS hl
  exact lv_tableIn hx hb hd h1 h2 ho ht (k H locs ls hR hS hl)
theorem pm_tableOut (B : pm_B l z D kA kE own cc nL ret nm tb d mc ms X) {dflt lo hi : Int} {offs : Array Int} {len : Nat} {x : Int32} {tgt : Nat} (hd : decode cc pc = .ok (.tableswitch dflt lo hi offs, len)) (h : x.toInt < lo ∨ hi < x.toInt) (ht : (pc : Int) + dflt = (tgt : Int))
    (k : pm_G l z D X cu su Q nx M tgt L st) : pm_G l z D X cu su Q nx M pc L (.int x :: st) := by
  obtain ⟨hx, hb, hml, hown, hts, hr, hlk, hK, hnm, htb, hrm, hz, hcs⟩ := B
  obtain ⟨p, e, R, s, m, args, below, meth, c⟩ := X
  intro H locs ls hR hS hl
  exact lv_tableOut hx hb hd h ht (k H locs ls hR hS hl)
theorem pm_topi {x : Int32} (k : ∀ y : Int32, y = x → pm_G l z D X cu su Q nx M pc L (.int y :: st)) : pm_G l z D X cu su Q nx M pc L (.int x :: st) := k x rfl
theorem pm_weak {L' : List (Option Value)} (h : ∀ (i : Nat) (v : Value), L'[i]? = some (some v) → L[i]? = some (some v)) (k : pm_G l z D X cu su Q nx M pc L' st) : pm_G l z D X cu su Q nx M pc L st := fun H locs ls hR hS hl => k H locs ls hR hS (pm_lv_weak hl h)
theorem pm_widen {k1 n1 : Nat} (h1 : cu ≤ k1) (h2 : su ≤ n1) (k : pm_G l z D X k1 n1 Q nx M pc L st) : pm_G l z D X cu su Q nx M pc L st := fun H locs ls hR hS hl => W.widen h1 h2 (k H locs ls hR hS hl)
theorem pm_mem {M' : pm_M} (h : M = M') (k : pm_G l z D X cu su Q nx M' pc L st) : pm_G l z D X cu su Q nx M pc L st := by subst h; exact k
theorem pm_loc {L' : List (Option Value)} (h : L = L') (k : pm_G l z D X cu su Q nx M pc L' st) : pm_G l z D X cu su Q nx M pc L st := by subst h; exact k
end PM
