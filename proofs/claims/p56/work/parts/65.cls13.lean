/-! the face: questions -/
def pm_xn : List String := ["", "java/lang/IndexOutOfBoundsException", "java/lang/IllegalArgumentException", "java/lang/UnsupportedOperationException", "java/util/NoSuchElementException", "java/lang/IllegalStateException", "java/lang/ArithmeticException"]
/-- a call of the face: 0 and its answer, or the number of what it throws -/
def pm_fp (k : Nat) (rv : Option Value) (nx : Nat) (M : pm_M) : pm_Po := fun o n' M' => M' = M ∧ nx ≤ n' ∧ ((k = 0 ∧ o = .inl rv ∧ n' = nx) ∨ (0 < k ∧ o = .inr (pm_xn.getD k "")))
theorem pm_C_fk {l : Launch} {z : Nat} {D : va_G} {kA : Nat → ClassId} {kE : Nat → Nat} {y : MethodName} {cc : ByteArray} {nL d mc ms nx nx1 k k' : Nat} {ret : Option FieldType} {As : List Value} {M M1 : pm_M} {rv : Option Value} (h : k = k') (hC : pm_C l z D kA kE y cc nL ret d mc ms As nx M (pm_fp k rv nx1 M1)) : pm_C l z D kA kE y cc nL ret d mc ms As nx M (pm_fp k' rv nx1 M1) := h ▸ hC
theorem pm_C_f0 {l : Launch} {z : Nat} {D : va_G} {kA : Nat → ClassId} {kE : Nat → Nat} {y : MethodName} {cc : ByteArray} {nL d mc ms nx nx1 k : Nat} {ret : Option FieldType} {As : List Value} {M M1 : pm_M} {rv : Option Value} (h : k = 0) (hC : pm_C l z D kA kE y cc nL ret d mc ms As nx M (pm_fp k rv nx1 M1)) : pm_C l z D kA kE y cc nL ret d mc ms As nx M (pm_rt rv nx1 M1) := by
  subst h
  refine pm_Cpost hC fun o n' M' h => ?_
  obtain ⟨rfl, -, h⟩ := h
  rcases h with ⟨-, h1, h2⟩ | ⟨h, -⟩
  · exact ⟨h1, h2, rfl⟩
  · exact absurd h (by decide)
section PF
variable {l : Launch} {z : Nat} {D : va_G} {kA : Nat → ClassId} {kE : Nat → Nat} {own : String} {cc : ByteArray} {nL : Nat} {ret : Option FieldType} {nm : String} {tb : List ExceptionTableEntry} {d mc ms : Nat} {X : pm_X} {cu su : Nat} {Q : State → Prop} {nx : Nat} {M : pm_M} {pc : Nat} {L : List (Option Value)} {st : List Value}
variable {y : MethodName} {cc2 : ByteArray} {nL2 n2 d2 mc2 ms2 nx1 k : Nat} {ret2 : Option FieldType} {As : List Value} {index : Nat} {M1 : pm_M} {rv : Option Value}
/-- a call that throws: so does this one -/
theorem pm_cVt (B : pm_B l z D kA kE own cc nL ret nm tb d mc ms X) {a ci : Nat} {fs : List Value} {post : pm_Po} (ht0 : tb = []) (h13 : Nat.ble (ci + 1) 13 = true) (hM : M a = some (.inr (ci, fs))) (hci : (pm_ci ci).1 = y.cls) (hC : pm_C l z D kA kE y cc2 nL2 ret2 d2 mc2 ms2 (.ref (z + a) :: As) nx M (pm_fp k rv nx1 M1)) (hk : 0 < k) (hm : pm_Mt y cc2 nL2 ret2 n2) (hs : pm_SV own index y) (hd : decode cc pc = .ok (.invokevirtual index, 3)) (hn : As.length = n2) (hd2 : Nat.ble (d2 + 1) d = true) (hst : Nat.ble ((st.map fun v => v.category).sum) 8 = true) (hcu : Nat.ble (cu + mc2) mc = true) (hsu : Nat.ble (su + ms2) ms = true)
    (hp : ∀ n', nx1 ≤ n' → post (.inr (pm_xn.getD k "")) n' M1) : pm_G l z D X cu su (pm_Q z D post mc ms X) nx M pc L (As.reverse ++ .ref (z + a) :: st) :=
  pm_callV B h13 hM hci hC hm hs hd hn hd2 hst hcu hsu (fun E n' M' h => by
    obtain ⟨rfl, hn, h⟩ := h
    rcases h with ⟨h, -⟩ | ⟨-, h⟩
    · omega
    · cases h; exact pm_out B ht0 (hp _ hn) hcu hsu) (fun v n' M' h => by
    obtain ⟨-, -, h⟩ := h
    rcases h with ⟨h, -⟩ | ⟨-, h⟩
    · omega
    · cases h)
end PF
def d_X12_demandMember (x : Int32) (n : Nat) (r : Nat → Int32) (to : Nat → Int32) : Nat := if (d_X10_hasMember x n r) = 0 then 1 else 0
set_option maxRecDepth 100000 in
set_option maxHeartbeats 8000000 in
theorem c_X12_demandMember {l : Launch} {z : Nat} {D : va_G} {kA : Nat → ClassId} {kE : Nat → Nat} {nx : Nat} {M : pm_M} {x : Int32} {n : Nat} {ldv : Value} {r : Nat → Int32} {to : Nat → Int32} (hS : pm_SA z kA 2 M r) (hto : M 0 = some (.inr (10, [.ref (z + 1), .ref (z + 2), .ref (z + 17), .ref (z + 28), .ref (z + 39), .ref (z + 129), .ref (z + 131), .ref (z + 133), .ref (z + 138), .int (to 9), .int (to 10), .int (to 11), ldv]))) (hn : r 0 = nI n) (h7 : n ≤ 7) : pm_C l z D kA kE yX12_demandMember cX12_demandMember 2 none 6 1 6 [.ref (z + 0), .int x] nx M (pm_fp (d_X12_demandMember x n r to) none nx M) := by
  refine pm_mk (own := RX12) (nm := "demandMember") mt_X12_demandMember rfl rfl rfl rfl fun X B => ?_
  refine pm_loc (L' := [some (.ref (z + 0)), some (.int x)]) rfl ?_
  refine pm_aload_n B dX12_demandMember_0 rfl ?_
  refine pm_get B dX12_demandMember_1 fl_X12_20 hto rfl ?_
  refine pm_iload_n B dX12_demandMember_4 rfl ?_
  refine pm_cV (As := [.int x]) (mc2 := 0) (ms2 := 0) B rfl (hS.1) rfl (c_X10_hasMembers (x := x) (n := n) (r := r) hS hn (by first | assumption | omega)) mt_X10_hasMember sv_X12_177 dX12_demandMember_5 rfl rfl rfl rfl rfl ?_
  refine pm_stk (st' := [.int (d_X10_hasMember x n r)]) rfl ?_
  refine pm_if_ne (tgt := 22) B dX12_demandMember_8 (by decide) (fun hq1 => ?_) (fun hq1 => ?_)
  · obtain ⟨he_x, hl_x⟩ := d_X10_hasMember_in h7 hq1
    refine pm_loc (L' := [some (.ref (z + 0)), some (.int (nI (pm_n x)))]) (congrArg (fun yy : Int32 => ([some (.ref (z + 0)), some (.int yy)] : List (Option Value))) he_x) ?_
    have hDq2 : (d_X12_demandMember x n r to) = 0 := by rw [d_X12_demandMember, if_neg hq1]
    refine pm_pst (post' := pm_fp 0 none nx M) (by rw [hDq2]) ?_
    exact pm_return B dX12_demandMember_22 rfl ⟨rfl, Nat.le_refl _, Or.inl ⟨rfl, rfl, rfl⟩⟩ rfl rfl
  · have hDq3 : (d_X12_demandMember x n r to) = 1 := by rw [d_X12_demandMember, if_pos hq1]
    refine pm_pst (post' := pm_fp 1 none nx M) (by rw [hDq3]) ?_
    exact pm_throwW (text := "no such member") B rfl px_IndexOutOfBounds (by decide) dX12_demandMember_11 dX12_demandMember_14 dX12_demandMember_15 dX12_demandMember_18 dX12_demandMember_21 rfl rfl rfl rfl (fun n' hn => ⟨rfl, hn, Or.inr ⟨(show (0 : Nat) < 1 by decide), rfl⟩⟩)
def d_X12_capacity (x : Int32) (n : Nat) (r : Nat → Int32) (to : Nat → Int32) : (Nat × Int32) := if (d_X10_hasMember x n r) = 0 then (1, 0) else (0, (r (7 + 6 * (pm_n x) + 0)))
set_option maxRecDepth 100000 in
set_option maxHeartbeats 8000000 in
theorem c_X12_capacity {l : Launch} {z : Nat} {D : va_G} {kA : Nat → ClassId} {kE : Nat → Nat} {nx : Nat} {M : pm_M} {x : Int32} {n : Nat} {ldv : Value} {r : Nat → Int32} {to : Nat → Int32} (hS : pm_SA z kA 2 M r) (hto : M 0 = some (.inr (10, [.ref (z + 1), .ref (z + 2), .ref (z + 17), .ref (z + 28), .ref (z + 39), .ref (z + 129), .ref (z + 131), .ref (z + 133), .ref (z + 138), .int (to 9), .int (to 10), .int (to 11), ldv]))) (hn : r 0 = nI n) (h7 : n ≤ 7) : pm_C l z D kA kE yX12_capacity cX12_capacity 2 (some .int) 20 2 12 [.ref (z + 0), .int x] nx M (pm_fp ((d_X12_capacity x n r to).1) (some (.int ((d_X12_capacity x n r to).2))) nx M) := by
  refine pm_mk (own := RX12) (nm := "capacity") mt_X12_capacity rfl rfl rfl rfl fun X B => ?_
  refine pm_loc (L' := [some (.ref (z + 0)), some (.int x)]) rfl ?_
  refine pm_aload_n B dX12_capacity_0 rfl ?_
  refine pm_iload_n B dX12_capacity_1 rfl ?_
  by_cases hq1 : (d_X10_hasMember x n r) = 0
  · have hDq2 : (d_X12_capacity x n r to) = (1, 0) := by rw [d_X12_capacity, if_pos hq1]
    refine pm_pst (post' := pm_fp ((1, 0).1) (some (.int ((1, 0).2))) nx M) (by rw [hDq2]) ?_
    exact pm_cVt (As := [.int x]) (mc2 := 1) (ms2 := 6) B rfl rfl hto rfl (pm_C_fk (k' := 1) (if_pos hq1) (c_X12_demandMember (ldv := ldv) hS hto hn h7)) (by decide) mt_X12_demandMember sv_X12_82 dX12_capacity_2 rfl rfl rfl rfl rfl (fun n' hn => ⟨rfl, hn, Or.inr ⟨(show (0 : Nat) < 1 by decide), rfl⟩⟩)
  · refine pm_cV (As := [.int x]) (mc2 := 1) (ms2 := 6) B rfl hto rfl (pm_C_f0 (if_neg hq1) (c_X12_demandMember (ldv := ldv) hS hto hn h7)) mt_X12_demandMember sv_X12_82 dX12_capacity_2 rfl rfl rfl rfl rfl ?_
    refine pm_stk (st' := []) rfl ?_
    obtain ⟨he_x, hl_x⟩ := d_X10_hasMember_in h7 hq1
    refine pm_loc (L' := [some (.ref (z + 0)), some (.int (nI (pm_n x)))]) (congrArg (fun yy : Int32 => ([some (.ref (z + 0)), some (.int yy)] : List (Option Value))) he_x) ?_
    refine pm_aload_n B dX12_capacity_5 rfl ?_
    refine pm_get B dX12_capacity_6 fl_X12_20 hto rfl ?_
    refine pm_get B dX12_capacity_9 fl_X12_86 (hS.1) rfl ?_
    refine pm_iload_n B dX12_capacity_12 rfl ?_
    refine pm_aald_n B dX12_capacity_13 (hS.2.1) rfl (pm_n x) (by first | assumption | omega) (by decide) (pm_mr_at (by first | assumption | omega)) ?_
    refine pm_get B dX12_capacity_14 fl_X12_90 (hS.2.2.1 (pm_n x) (by first | assumption | omega)) rfl ?_
    have hDq3 : (d_X12_capacity x n r to) = (0, (r (7 + 6 * (pm_n x) + 0))) := by rw [d_X12_capacity, if_neg hq1]
    refine pm_pst (post' := pm_fp ((0, (r (7 + 6 * (pm_n x) + 0))).1) (some (.int ((0, (r (7 + 6 * (pm_n x) + 0))).2))) nx M) (by rw [hDq3]) ?_
    exact pm_ireturn B dX12_capacity_17 rfl (by first | rfl | (apply pm_nz; first | assumption | decide | exact pm_in01 _ _ _ | ((repeat' split) <;> first | exact Or.inl rfl | exact Or.inr rfl))) ⟨rfl, Nat.le_refl _, Or.inl ⟨rfl, rfl, rfl⟩⟩ rfl rfl
def d_X12_votes (x : Int32) (n : Nat) (r : Nat → Int32) (to : Nat → Int32) : (Nat × Int32) := if (d_X10_hasMember x n r) = 0 then (1, 0) else (0, (r (7 + 6 * (pm_n x) + 1)))
set_option maxRecDepth 100000 in
set_option maxHeartbeats 8000000 in
theorem c_X12_votes {l : Launch} {z : Nat} {D : va_G} {kA : Nat → ClassId} {kE : Nat → Nat} {nx : Nat} {M : pm_M} {x : Int32} {n : Nat} {ldv : Value} {r : Nat → Int32} {to : Nat → Int32} (hS : pm_SA z kA 2 M r) (hto : M 0 = some (.inr (10, [.ref (z + 1), .ref (z + 2), .ref (z + 17), .ref (z + 28), .ref (z + 39), .ref (z + 129), .ref (z + 131), .ref (z + 133), .ref (z + 138), .int (to 9), .int (to 10), .int (to 11), ldv]))) (hn : r 0 = nI n) (h7 : n ≤ 7) : pm_C l z D kA kE yX12_votes cX12_votes 2 (some .int) 20 2 12 [.ref (z + 0), .int x] nx M (pm_fp ((d_X12_votes x n r to).1) (some (.int ((d_X12_votes x n r to).2))) nx M) := by
  refine pm_mk (own := RX12) (nm := "votes") mt_X12_votes rfl rfl rfl rfl fun X B => ?_
  refine pm_loc (L' := [some (.ref (z + 0)), some (.int x)]) rfl ?_
  refine pm_aload_n B dX12_votes_0 rfl ?_
  refine pm_iload_n B dX12_votes_1 rfl ?_
  by_cases hq1 : (d_X10_hasMember x n r) = 0
  · have hDq2 : (d_X12_votes x n r to) = (1, 0) := by rw [d_X12_votes, if_pos hq1]
    refine pm_pst (post' := pm_fp ((1, 0).1) (some (.int ((1, 0).2))) nx M) (by rw [hDq2]) ?_
    exact pm_cVt (As := [.int x]) (mc2 := 1) (ms2 := 6) B rfl rfl hto rfl (pm_C_fk (k' := 1) (if_pos hq1) (c_X12_demandMember (ldv := ldv) hS hto hn h7)) (by decide) mt_X12_demandMember sv_X12_82 dX12_votes_2 rfl rfl rfl rfl rfl (fun n' hn => ⟨rfl, hn, Or.inr ⟨(show (0 : Nat) < 1 by decide), rfl⟩⟩)
  · refine pm_cV (As := [.int x]) (mc2 := 1) (ms2 := 6) B rfl hto rfl (pm_C_f0 (if_neg hq1) (c_X12_demandMember (ldv := ldv) hS hto hn h7)) mt_X12_demandMember sv_X12_82 dX12_votes_2 rfl rfl rfl rfl rfl ?_
    refine pm_stk (st' := []) rfl ?_
    obtain ⟨he_x, hl_x⟩ := d_X10_hasMember_in h7 hq1
    refine pm_loc (L' := [some (.ref (z + 0)), some (.int (nI (pm_n x)))]) (congrArg (fun yy : Int32 => ([some (.ref (z + 0)), some (.int yy)] : List (Option Value))) he_x) ?_
    refine pm_aload_n B dX12_votes_5 rfl ?_
    refine pm_get B dX12_votes_6 fl_X12_20 hto rfl ?_
    refine pm_get B dX12_votes_9 fl_X12_86 (hS.1) rfl ?_
    refine pm_iload_n B dX12_votes_12 rfl ?_
    refine pm_aald_n B dX12_votes_13 (hS.2.1) rfl (pm_n x) (by first | assumption | omega) (by decide) (pm_mr_at (by first | assumption | omega)) ?_
    refine pm_get B dX12_votes_14 fl_X12_95 (hS.2.2.1 (pm_n x) (by first | assumption | omega)) rfl ?_
    have hDq3 : (d_X12_votes x n r to) = (0, (r (7 + 6 * (pm_n x) + 1))) := by rw [d_X12_votes, if_neg hq1]
    refine pm_pst (post' := pm_fp ((0, (r (7 + 6 * (pm_n x) + 1))).1) (some (.int ((0, (r (7 + 6 * (pm_n x) + 1))).2))) nx M) (by rw [hDq3]) ?_
    exact pm_ireturn B dX12_votes_17 rfl (by first | rfl | (apply pm_nz; first | assumption | decide | exact pm_in01 _ _ _ | ((repeat' split) <;> first | exact Or.inl rfl | exact Or.inr rfl))) ⟨rfl, Nat.le_refl _, Or.inl ⟨rfl, rfl, rfl⟩⟩ rfl rfl
def d_X12_warnings (x : Int32) (n : Nat) (r : Nat → Int32) (to : Nat → Int32) : (Nat × Int32) := if (d_X10_hasMember x n r) = 0 then (1, 0) else (if (r (7 + 6 * (pm_n x) + 4)) = 0 then (4, 0) else (0, (r (7 + 6 * (pm_n x) + 4))))
set_option maxRecDepth 100000 in
set_option maxHeartbeats 8000000 in
theorem c_X12_warnings {l : Launch} {z : Nat} {D : va_G} {kA : Nat → ClassId} {kE : Nat → Nat} {nx : Nat} {M : pm_M} {x : Int32} {n : Nat} {ldv : Value} {r : Nat → Int32} {to : Nat → Int32} (hS : pm_SA z kA 2 M r) (hto : M 0 = some (.inr (10, [.ref (z + 1), .ref (z + 2), .ref (z + 17), .ref (z + 28), .ref (z + 39), .ref (z + 129), .ref (z + 131), .ref (z + 133), .ref (z + 138), .int (to 9), .int (to 10), .int (to 11), ldv]))) (hn : r 0 = nI n) (h7 : n ≤ 7) : pm_C l z D kA kE yX12_warnings cX12_warnings 3 (some .int) 20 2 12 [.ref (z + 0), .int x] nx M (pm_fp ((d_X12_warnings x n r to).1) (some (.int ((d_X12_warnings x n r to).2))) nx M) := by
  refine pm_mk (own := RX12) (nm := "warnings") mt_X12_warnings rfl rfl rfl rfl fun X B => ?_
  refine pm_loc (L' := [some (.ref (z + 0)), some (.int x), none]) rfl ?_
  refine pm_aload_n B dX12_warnings_0 rfl ?_
  refine pm_iload_n B dX12_warnings_1 rfl ?_
  by_cases hq1 : (d_X10_hasMember x n r) = 0
  · have hDq2 : (d_X12_warnings x n r to) = (1, 0) := by rw [d_X12_warnings, if_pos hq1]
    refine pm_pst (post' := pm_fp ((1, 0).1) (some (.int ((1, 0).2))) nx M) (by rw [hDq2]) ?_
    exact pm_cVt (As := [.int x]) (mc2 := 1) (ms2 := 6) B rfl rfl hto rfl (pm_C_fk (k' := 1) (if_pos hq1) (c_X12_demandMember (ldv := ldv) hS hto hn h7)) (by decide) mt_X12_demandMember sv_X12_82 dX12_warnings_2 rfl rfl rfl rfl rfl (fun n' hn => ⟨rfl, hn, Or.inr ⟨(show (0 : Nat) < 1 by decide), rfl⟩⟩)
  · refine pm_cV (As := [.int x]) (mc2 := 1) (ms2 := 6) B rfl hto rfl (pm_C_f0 (if_neg hq1) (c_X12_demandMember (ldv := ldv) hS hto hn h7)) mt_X12_demandMember sv_X12_82 dX12_warnings_2 rfl rfl rfl rfl rfl ?_
    refine pm_stk (st' := []) rfl ?_
    obtain ⟨he_x, hl_x⟩ := d_X10_hasMember_in h7 hq1
    refine pm_loc (L' := [some (.ref (z + 0)), some (.int (nI (pm_n x))), none]) (congrArg (fun yy : Int32 => ([some (.ref (z + 0)), some (.int yy), none] : List (Option Value))) he_x) ?_
    refine pm_aload_n B dX12_warnings_5 rfl ?_
    refine pm_get B dX12_warnings_6 fl_X12_20 hto rfl ?_
    refine pm_get B dX12_warnings_9 fl_X12_86 (hS.1) rfl ?_
    refine pm_iload_n B dX12_warnings_12 rfl ?_
    refine pm_aald_n B dX12_warnings_13 (hS.2.1) rfl (pm_n x) (by first | assumption | omega) (by decide) (pm_mr_at (by first | assumption | omega)) ?_
    refine pm_get B dX12_warnings_14 fl_X12_105 (hS.2.2.1 (pm_n x) (by first | assumption | omega)) rfl ?_
    refine pm_istore_n B dX12_warnings_17 rfl rfl ?_
    refine pm_loc (L' := [some (.ref (z + 0)), some (.int (nI (pm_n x))), some (.int (r (7 + 6 * (pm_n x) + 4)))]) rfl ?_
    refine pm_iload_n B dX12_warnings_18 rfl ?_
    refine pm_if_ne (tgt := 32) B dX12_warnings_19 (by decide) (fun hq3 => ?_) (fun hq3 => ?_)
    · refine pm_iload_n B dX12_warnings_32 rfl ?_
      have hDq4 : (d_X12_warnings x n r to) = (0, (r (7 + 6 * (pm_n x) + 4))) := by rw [d_X12_warnings, if_neg hq1, if_neg hq3]
      refine pm_pst (post' := pm_fp ((0, (r (7 + 6 * (pm_n x) + 4))).1) (some (.int ((0, (r (7 + 6 * (pm_n x) + 4))).2))) nx M) (by rw [hDq4]) ?_
      exact pm_ireturn B dX12_warnings_33 rfl (by first | rfl | (apply pm_nz; first | assumption | decide | exact pm_in01 _ _ _ | ((repeat' split) <;> first | exact Or.inl rfl | exact Or.inr rfl))) ⟨rfl, Nat.le_refl _, Or.inl ⟨rfl, rfl, rfl⟩⟩ rfl rfl
    · have hDq5 : (d_X12_warnings x n r to) = (4, 0) := by rw [d_X12_warnings, if_neg hq1, if_pos hq3]
      refine pm_pst (post' := pm_fp ((4, 0).1) (some (.int ((4, 0).2))) nx M) (by rw [hDq5]) ?_
      exact pm_throwS13 (text := "the member is not warned") B rfl px_NoSuchElement (by decide) dX12_warnings_22 dX12_warnings_25 dX12_warnings_26 dX12_warnings_28 dX12_warnings_31 rfl rfl rfl rfl (fun n' hn => ⟨rfl, hn, Or.inr ⟨(show (0 : Nat) < 4 by decide), rfl⟩⟩)
def d_X12_barredMonths (x : Int32) (n : Nat) (r : Nat → Int32) (to : Nat → Int32) : (Nat × Int32) := if (d_X10_hasMember x n r) = 0 then (1, 0) else (if (r (7 + 6 * (pm_n x) + 5)) = 0 then (4, 0) else (0, (r (7 + 6 * (pm_n x) + 5))))
set_option maxRecDepth 100000 in
set_option maxHeartbeats 8000000 in
theorem c_X12_barredMonths {l : Launch} {z : Nat} {D : va_G} {kA : Nat → ClassId} {kE : Nat → Nat} {nx : Nat} {M : pm_M} {x : Int32} {n : Nat} {ldv : Value} {r : Nat → Int32} {to : Nat → Int32} (hS : pm_SA z kA 2 M r) (hto : M 0 = some (.inr (10, [.ref (z + 1), .ref (z + 2), .ref (z + 17), .ref (z + 28), .ref (z + 39), .ref (z + 129), .ref (z + 131), .ref (z + 133), .ref (z + 138), .int (to 9), .int (to 10), .int (to 11), ldv]))) (hn : r 0 = nI n) (h7 : n ≤ 7) : pm_C l z D kA kE yX12_barredMonths cX12_barredMonths 3 (some .int) 20 2 12 [.ref (z + 0), .int x] nx M (pm_fp ((d_X12_barredMonths x n r to).1) (some (.int ((d_X12_barredMonths x n r to).2))) nx M) := by
  refine pm_mk (own := RX12) (nm := "barredMonths") mt_X12_barredMonths rfl rfl rfl rfl fun X B => ?_
  refine pm_loc (L' := [some (.ref (z + 0)), some (.int x), none]) rfl ?_
  refine pm_aload_n B dX12_barredMonths_0 rfl ?_
  refine pm_iload_n B dX12_barredMonths_1 rfl ?_
  by_cases hq1 : (d_X10_hasMember x n r) = 0
  · have hDq2 : (d_X12_barredMonths x n r to) = (1, 0) := by rw [d_X12_barredMonths, if_pos hq1]
    refine pm_pst (post' := pm_fp ((1, 0).1) (some (.int ((1, 0).2))) nx M) (by rw [hDq2]) ?_
    exact pm_cVt (As := [.int x]) (mc2 := 1) (ms2 := 6) B rfl rfl hto rfl (pm_C_fk (k' := 1) (if_pos hq1) (c_X12_demandMember (ldv := ldv) hS hto hn h7)) (by decide) mt_X12_demandMember sv_X12_82 dX12_barredMonths_2 rfl rfl rfl rfl rfl (fun n' hn => ⟨rfl, hn, Or.inr ⟨(show (0 : Nat) < 1 by decide), rfl⟩⟩)
  · refine pm_cV (As := [.int x]) (mc2 := 1) (ms2 := 6) B rfl hto rfl (pm_C_f0 (if_neg hq1) (c_X12_demandMember (ldv := ldv) hS hto hn h7)) mt_X12_demandMember sv_X12_82 dX12_barredMonths_2 rfl rfl rfl rfl rfl ?_
    refine pm_stk (st' := []) rfl ?_
    obtain ⟨he_x, hl_x⟩ := d_X10_hasMember_in h7 hq1
    refine pm_loc (L' := [some (.ref (z + 0)), some (.int (nI (pm_n x))), none]) (congrArg (fun yy : Int32 => ([some (.ref (z + 0)), some (.int yy), none] : List (Option Value))) he_x) ?_
    refine pm_aload_n B dX12_barredMonths_5 rfl ?_
    refine pm_get B dX12_barredMonths_6 fl_X12_20 hto rfl ?_
    refine pm_get B dX12_barredMonths_9 fl_X12_86 (hS.1) rfl ?_
    refine pm_iload_n B dX12_barredMonths_12 rfl ?_
    refine pm_aald_n B dX12_barredMonths_13 (hS.2.1) rfl (pm_n x) (by first | assumption | omega) (by decide) (pm_mr_at (by first | assumption | omega)) ?_
    refine pm_get B dX12_barredMonths_14 fl_X12_115 (hS.2.2.1 (pm_n x) (by first | assumption | omega)) rfl ?_
    refine pm_istore_n B dX12_barredMonths_17 rfl rfl ?_
    refine pm_loc (L' := [some (.ref (z + 0)), some (.int (nI (pm_n x))), some (.int (r (7 + 6 * (pm_n x) + 5)))]) rfl ?_
    refine pm_iload_n B dX12_barredMonths_18 rfl ?_
    refine pm_if_ne (tgt := 32) B dX12_barredMonths_19 (by decide) (fun hq3 => ?_) (fun hq3 => ?_)
    · refine pm_iload_n B dX12_barredMonths_32 rfl ?_
      have hDq4 : (d_X12_barredMonths x n r to) = (0, (r (7 + 6 * (pm_n x) + 5))) := by rw [d_X12_barredMonths, if_neg hq1, if_neg hq3]
      refine pm_pst (post' := pm_fp ((0, (r (7 + 6 * (pm_n x) + 5))).1) (some (.int ((0, (r (7 + 6 * (pm_n x) + 5))).2))) nx M) (by rw [hDq4]) ?_
      exact pm_ireturn B dX12_barredMonths_33 rfl (by first | rfl | (apply pm_nz; first | assumption | decide | exact pm_in01 _ _ _ | ((repeat' split) <;> first | exact Or.inl rfl | exact Or.inr rfl))) ⟨rfl, Nat.le_refl _, Or.inl ⟨rfl, rfl, rfl⟩⟩ rfl rfl
    · have hDq5 : (d_X12_barredMonths x n r to) = (4, 0) := by rw [d_X12_barredMonths, if_neg hq1, if_pos hq3]
      refine pm_pst (post' := pm_fp ((4, 0).1) (some (.int ((4, 0).2))) nx M) (by rw [hDq5]) ?_
      exact pm_throwS13 (text := "the member is not barred") B rfl px_NoSuchElement (by decide) dX12_barredMonths_22 dX12_barredMonths_25 dX12_barredMonths_26 dX12_barredMonths_28 dX12_barredMonths_31 rfl rfl rfl rfl (fun n' hn => ⟨rfl, hn, Or.inr ⟨(show (0 : Nat) < 4 by decide), rfl⟩⟩)
def d_X12_quota (x : Int32) (n : Nat) (r : Nat → Int32) (to : Nat → Int32) : (Nat × Int32) := if (d_X10_hasMember x n r) = 0 then (1, 0) else (0, (r (7 + 6 * (pm_n x) + 2)))
set_option maxRecDepth 100000 in
set_option maxHeartbeats 8000000 in
theorem c_X12_quota {l : Launch} {z : Nat} {D : va_G} {kA : Nat → ClassId} {kE : Nat → Nat} {nx : Nat} {M : pm_M} {x : Int32} {n : Nat} {ldv : Value} {r : Nat → Int32} {to : Nat → Int32} (hS : pm_SA z kA 2 M r) (hto : M 0 = some (.inr (10, [.ref (z + 1), .ref (z + 2), .ref (z + 17), .ref (z + 28), .ref (z + 39), .ref (z + 129), .ref (z + 131), .ref (z + 133), .ref (z + 138), .int (to 9), .int (to 10), .int (to 11), ldv]))) (hn : r 0 = nI n) (h7 : n ≤ 7) : pm_C l z D kA kE yX12_quota cX12_quota 2 (some .int) 20 2 12 [.ref (z + 0), .int x] nx M (pm_fp ((d_X12_quota x n r to).1) (some (.int ((d_X12_quota x n r to).2))) nx M) := by
  refine pm_mk (own := RX12) (nm := "quota") mt_X12_quota rfl rfl rfl rfl fun X B => ?_
  refine pm_loc (L' := [some (.ref (z + 0)), some (.int x)]) rfl ?_
  refine pm_aload_n B dX12_quota_0 rfl ?_
  refine pm_iload_n B dX12_quota_1 rfl ?_
  by_cases hq1 : (d_X10_hasMember x n r) = 0
  · have hDq2 : (d_X12_quota x n r to) = (1, 0) := by rw [d_X12_quota, if_pos hq1]
    refine pm_pst (post' := pm_fp ((1, 0).1) (some (.int ((1, 0).2))) nx M) (by rw [hDq2]) ?_
    exact pm_cVt (As := [.int x]) (mc2 := 1) (ms2 := 6) B rfl rfl hto rfl (pm_C_fk (k' := 1) (if_pos hq1) (c_X12_demandMember (ldv := ldv) hS hto hn h7)) (by decide) mt_X12_demandMember sv_X12_82 dX12_quota_2 rfl rfl rfl rfl rfl (fun n' hn => ⟨rfl, hn, Or.inr ⟨(show (0 : Nat) < 1 by decide), rfl⟩⟩)
  · refine pm_cV (As := [.int x]) (mc2 := 1) (ms2 := 6) B rfl hto rfl (pm_C_f0 (if_neg hq1) (c_X12_demandMember (ldv := ldv) hS hto hn h7)) mt_X12_demandMember sv_X12_82 dX12_quota_2 rfl rfl rfl rfl rfl ?_
    refine pm_stk (st' := []) rfl ?_
    obtain ⟨he_x, hl_x⟩ := d_X10_hasMember_in h7 hq1
    refine pm_loc (L' := [some (.ref (z + 0)), some (.int (nI (pm_n x)))]) (congrArg (fun yy : Int32 => ([some (.ref (z + 0)), some (.int yy)] : List (Option Value))) he_x) ?_
    refine pm_aload_n B dX12_quota_5 rfl ?_
    refine pm_get B dX12_quota_6 fl_X12_20 hto rfl ?_
    refine pm_get B dX12_quota_9 fl_X12_86 (hS.1) rfl ?_
    refine pm_iload_n B dX12_quota_12 rfl ?_
    refine pm_aald_n B dX12_quota_13 (hS.2.1) rfl (pm_n x) (by first | assumption | omega) (by decide) (pm_mr_at (by first | assumption | omega)) ?_
    refine pm_get B dX12_quota_14 fl_X12_161 (hS.2.2.1 (pm_n x) (by first | assumption | omega)) rfl ?_
    have hDq3 : (d_X12_quota x n r to) = (0, (r (7 + 6 * (pm_n x) + 2))) := by rw [d_X12_quota, if_neg hq1]
    refine pm_pst (post' := pm_fp ((0, (r (7 + 6 * (pm_n x) + 2))).1) (some (.int ((0, (r (7 + 6 * (pm_n x) + 2))).2))) nx M) (by rw [hDq3]) ?_
    exact pm_ireturn B dX12_quota_17 rfl (by first | rfl | (apply pm_nz; first | assumption | decide | exact pm_in01 _ _ _ | ((repeat' split) <;> first | exact Or.inl rfl | exact Or.inr rfl))) ⟨rfl, Nat.le_refl _, Or.inl ⟨rfl, rfl, rfl⟩⟩ rfl rfl
def d_X12_sales (x : Int32) (n : Nat) (r : Nat → Int32) (to : Nat → Int32) : (Nat × Int32) := if (d_X10_hasMember x n r) = 0 then (1, 0) else (0, (r (7 + 6 * (pm_n x) + 3)))
set_option maxRecDepth 100000 in
set_option maxHeartbeats 8000000 in
theorem c_X12_sales {l : Launch} {z : Nat} {D : va_G} {kA : Nat → ClassId} {kE : Nat → Nat} {nx : Nat} {M : pm_M} {x : Int32} {n : Nat} {ldv : Value} {r : Nat → Int32} {to : Nat → Int32} (hS : pm_SA z kA 2 M r) (hto : M 0 = some (.inr (10, [.ref (z + 1), .ref (z + 2), .ref (z + 17), .ref (z + 28), .ref (z + 39), .ref (z + 129), .ref (z + 131), .ref (z + 133), .ref (z + 138), .int (to 9), .int (to 10), .int (to 11), ldv]))) (hn : r 0 = nI n) (h7 : n ≤ 7) : pm_C l z D kA kE yX12_sales cX12_sales 2 (some .int) 20 2 12 [.ref (z + 0), .int x] nx M (pm_fp ((d_X12_sales x n r to).1) (some (.int ((d_X12_sales x n r to).2))) nx M) := by
  refine pm_mk (own := RX12) (nm := "sales") mt_X12_sales rfl rfl rfl rfl fun X B => ?_
  refine pm_loc (L' := [some (.ref (z + 0)), some (.int x)]) rfl ?_
  refine pm_aload_n B dX12_sales_0 rfl ?_
  refine pm_iload_n B dX12_sales_1 rfl ?_
  by_cases hq1 : (d_X10_hasMember x n r) = 0
  · have hDq2 : (d_X12_sales x n r to) = (1, 0) := by rw [d_X12_sales, if_pos hq1]
    refine pm_pst (post' := pm_fp ((1, 0).1) (some (.int ((1, 0).2))) nx M) (by rw [hDq2]) ?_
    exact pm_cVt (As := [.int x]) (mc2 := 1) (ms2 := 6) B rfl rfl hto rfl (pm_C_fk (k' := 1) (if_pos hq1) (c_X12_demandMember (ldv := ldv) hS hto hn h7)) (by decide) mt_X12_demandMember sv_X12_82 dX12_sales_2 rfl rfl rfl rfl rfl (fun n' hn => ⟨rfl, hn, Or.inr ⟨(show (0 : Nat) < 1 by decide), rfl⟩⟩)
  · refine pm_cV (As := [.int x]) (mc2 := 1) (ms2 := 6) B rfl hto rfl (pm_C_f0 (if_neg hq1) (c_X12_demandMember (ldv := ldv) hS hto hn h7)) mt_X12_demandMember sv_X12_82 dX12_sales_2 rfl rfl rfl rfl rfl ?_
    refine pm_stk (st' := []) rfl ?_
    obtain ⟨he_x, hl_x⟩ := d_X10_hasMember_in h7 hq1
    refine pm_loc (L' := [some (.ref (z + 0)), some (.int (nI (pm_n x)))]) (congrArg (fun yy : Int32 => ([some (.ref (z + 0)), some (.int yy)] : List (Option Value))) he_x) ?_
    refine pm_aload_n B dX12_sales_5 rfl ?_
    refine pm_get B dX12_sales_6 fl_X12_20 hto rfl ?_
    refine pm_get B dX12_sales_9 fl_X12_86 (hS.1) rfl ?_
    refine pm_iload_n B dX12_sales_12 rfl ?_
    refine pm_aald_n B dX12_sales_13 (hS.2.1) rfl (pm_n x) (by first | assumption | omega) (by decide) (pm_mr_at (by first | assumption | omega)) ?_
    refine pm_get B dX12_sales_14 fl_X12_164 (hS.2.2.1 (pm_n x) (by first | assumption | omega)) rfl ?_
    have hDq3 : (d_X12_sales x n r to) = (0, (r (7 + 6 * (pm_n x) + 3))) := by rw [d_X12_sales, if_neg hq1]
    refine pm_pst (post' := pm_fp ((0, (r (7 + 6 * (pm_n x) + 3))).1) (some (.int ((0, (r (7 + 6 * (pm_n x) + 3))).2))) nx M) (by rw [hDq3]) ?_
    exact pm_ireturn B dX12_sales_17 rfl (by first | rfl | (apply pm_nz; first | assumption | decide | exact pm_in01 _ _ _ | ((repeat' split) <;> first | exact Or.inl rfl | exact Or.inr rfl))) ⟨rfl, Nat.le_refl _, Or.inl ⟨rfl, rfl, rfl⟩⟩ rfl rfl
def d_X12_excess (x : Int32) (n : Nat) (r : Nat → Int32) (to : Nat → Int32) : (Nat × Int32) := if (d_X10_hasMember x n r) = 0 then (1, 0) else (0, (pm_max 0 ((r (7 + 6 * (pm_n x) + 3)) - (r (7 + 6 * (pm_n x) + 2)))))
set_option maxRecDepth 100000 in
set_option maxHeartbeats 8000000 in
theorem c_X12_excess {l : Launch} {z : Nat} {D : va_G} {kA : Nat → ClassId} {kE : Nat → Nat} {nx : Nat} {M : pm_M} {x : Int32} {n : Nat} {ldv : Value} {r : Nat → Int32} {to : Nat → Int32} (hS : pm_SA z kA 2 M r) (hto : M 0 = some (.inr (10, [.ref (z + 1), .ref (z + 2), .ref (z + 17), .ref (z + 28), .ref (z + 39), .ref (z + 129), .ref (z + 131), .ref (z + 133), .ref (z + 138), .int (to 9), .int (to 10), .int (to 11), ldv]))) (hn : r 0 = nI n) (h7 : n ≤ 7) : pm_C l z D kA kE yX12_excess cX12_excess 2 (some .int) 20 2 12 [.ref (z + 0), .int x] nx M (pm_fp ((d_X12_excess x n r to).1) (some (.int ((d_X12_excess x n r to).2))) nx M) := by
  refine pm_mk (own := RX12) (nm := "excess") mt_X12_excess rfl rfl rfl rfl fun X B => ?_
  refine pm_loc (L' := [some (.ref (z + 0)), some (.int x)]) rfl ?_
  refine pm_aload_n B dX12_excess_0 rfl ?_
  refine pm_iload_n B dX12_excess_1 rfl ?_
  by_cases hq1 : (d_X10_hasMember x n r) = 0
  · have hDq2 : (d_X12_excess x n r to) = (1, 0) := by rw [d_X12_excess, if_pos hq1]
    refine pm_pst (post' := pm_fp ((1, 0).1) (some (.int ((1, 0).2))) nx M) (by rw [hDq2]) ?_
    exact pm_cVt (As := [.int x]) (mc2 := 1) (ms2 := 6) B rfl rfl hto rfl (pm_C_fk (k' := 1) (if_pos hq1) (c_X12_demandMember (ldv := ldv) hS hto hn h7)) (by decide) mt_X12_demandMember sv_X12_82 dX12_excess_2 rfl rfl rfl rfl rfl (fun n' hn => ⟨rfl, hn, Or.inr ⟨(show (0 : Nat) < 1 by decide), rfl⟩⟩)
  · refine pm_cV (As := [.int x]) (mc2 := 1) (ms2 := 6) B rfl hto rfl (pm_C_f0 (if_neg hq1) (c_X12_demandMember (ldv := ldv) hS hto hn h7)) mt_X12_demandMember sv_X12_82 dX12_excess_2 rfl rfl rfl rfl rfl ?_
    refine pm_stk (st' := []) rfl ?_
    obtain ⟨he_x, hl_x⟩ := d_X10_hasMember_in h7 hq1
    refine pm_loc (L' := [some (.ref (z + 0)), some (.int (nI (pm_n x)))]) (congrArg (fun yy : Int32 => ([some (.ref (z + 0)), some (.int yy)] : List (Option Value))) he_x) ?_
    refine pm_aload_n B dX12_excess_5 rfl ?_
    refine pm_get B dX12_excess_6 fl_X12_20 hto rfl ?_
    refine pm_get B dX12_excess_9 fl_X12_86 (hS.1) rfl ?_
    refine pm_iload_n B dX12_excess_12 rfl ?_
    refine pm_aald_n B dX12_excess_13 (hS.2.1) rfl (pm_n x) (by first | assumption | omega) (by decide) (pm_mr_at (by first | assumption | omega)) ?_
    refine pm_cV (As := []) (mc2 := 0) (ms2 := 0) B rfl (hS.2.2.1 (pm_n x) (by first | assumption | omega)) rfl (c_X6_unitsAbove (hS.2.2.1 (pm_n x) (by first | assumption | omega))) mt_X6_unitsAbove sv_X12_167 dX12_excess_14 rfl rfl rfl rfl rfl ?_
    refine pm_stk (st' := [.int (pm_max 0 ((r (7 + 6 * (pm_n x) + 3)) - (r (7 + 6 * (pm_n x) + 2))))]) rfl ?_
    have hDq3 : (d_X12_excess x n r to) = (0, (pm_max 0 ((r (7 + 6 * (pm_n x) + 3)) - (r (7 + 6 * (pm_n x) + 2))))) := by rw [d_X12_excess, if_neg hq1]
    refine pm_pst (post' := pm_fp ((0, (pm_max 0 ((r (7 + 6 * (pm_n x) + 3)) - (r (7 + 6 * (pm_n x) + 2))))).1) (some (.int ((0, (pm_max 0 ((r (7 + 6 * (pm_n x) + 3)) - (r (7 + 6 * (pm_n x) + 2))))).2))) nx M) (by rw [hDq3]) ?_
    exact pm_ireturn B dX12_excess_17 rfl (by first | rfl | (apply pm_nz; first | assumption | decide | exact pm_in01 _ _ _ | ((repeat' split) <;> first | exact Or.inl rfl | exact Or.inr rfl))) ⟨rfl, Nat.le_refl _, Or.inl ⟨rfl, rfl, rfl⟩⟩ rfl rfl
def d_X12_standing (x : Int32) (n : Nat) (r : Nat → Int32) (to : Nat → Int32) : (Nat × Int32) := if (d_X10_hasMember x n r) = 0 then (1, 0) else (if (r (7 + 6 * (pm_n x) + 5)) = 0 ∧ (r (7 + 6 * (pm_n x) + 4)) = 0 then (0, 108) else (if (r (7 + 6 * (pm_n x) + 5)) = 0 then (0, 119) else (0, 98)))
set_option maxRecDepth 100000 in
set_option maxHeartbeats 8000000 in
theorem c_X12_standing {l : Launch} {z : Nat} {D : va_G} {kA : Nat → ClassId} {kE : Nat → Nat} {nx : Nat} {M : pm_M} {x : Int32} {n : Nat} {ldv : Value} {r : Nat → Int32} {to : Nat → Int32} (hS : pm_SA z kA 2 M r) (hto : M 0 = some (.inr (10, [.ref (z + 1), .ref (z + 2), .ref (z + 17), .ref (z + 28), .ref (z + 39), .ref (z + 129), .ref (z + 131), .ref (z + 133), .ref (z + 138), .int (to 9), .int (to 10), .int (to 11), ldv]))) (hn : r 0 = nI n) (h7 : n ≤ 7) : pm_C l z D kA kE yX12_standing cX12_standing 3 (some .char) 20 2 12 [.ref (z + 0), .int x] nx M (pm_fp ((d_X12_standing x n r to).1) (some (.int ((d_X12_standing x n r to).2))) nx M) := by
  refine pm_mk (own := RX12) (nm := "standing") mt_X12_standing rfl rfl rfl rfl fun X B => ?_
  refine pm_loc (L' := [some (.ref (z + 0)), some (.int x), none]) rfl ?_
  refine pm_aload_n B dX12_standing_0 rfl ?_
  refine pm_iload_n B dX12_standing_1 rfl ?_
  by_cases hq1 : (d_X10_hasMember x n r) = 0
  · have hDq2 : (d_X12_standing x n r to) = (1, 0) := by rw [d_X12_standing, if_pos hq1]
    refine pm_pst (post' := pm_fp ((1, 0).1) (some (.int ((1, 0).2))) nx M) (by rw [hDq2]) ?_
    exact pm_cVt (As := [.int x]) (mc2 := 1) (ms2 := 6) B rfl rfl hto rfl (pm_C_fk (k' := 1) (if_pos hq1) (c_X12_demandMember (ldv := ldv) hS hto hn h7)) (by decide) mt_X12_demandMember sv_X12_82 dX12_standing_2 rfl rfl rfl rfl rfl (fun n' hn => ⟨rfl, hn, Or.inr ⟨(show (0 : Nat) < 1 by decide), rfl⟩⟩)
  · refine pm_cV (As := [.int x]) (mc2 := 1) (ms2 := 6) B rfl hto rfl (pm_C_f0 (if_neg hq1) (c_X12_demandMember (ldv := ldv) hS hto hn h7)) mt_X12_demandMember sv_X12_82 dX12_standing_2 rfl rfl rfl rfl rfl ?_
    refine pm_stk (st' := []) rfl ?_
    obtain ⟨he_x, hl_x⟩ := d_X10_hasMember_in h7 hq1
    refine pm_loc (L' := [some (.ref (z + 0)), some (.int (nI (pm_n x))), none]) (congrArg (fun yy : Int32 => ([some (.ref (z + 0)), some (.int yy), none] : List (Option Value))) he_x) ?_
    refine pm_aload_n B dX12_standing_5 rfl ?_
    refine pm_get B dX12_standing_6 fl_X12_20 hto rfl ?_
    refine pm_get B dX12_standing_9 fl_X12_86 (hS.1) rfl ?_
    refine pm_iload_n B dX12_standing_12 rfl ?_
    refine pm_aald_n B dX12_standing_13 (hS.2.1) rfl (pm_n x) (by first | assumption | omega) (by decide) (pm_mr_at (by first | assumption | omega)) ?_
    refine pm_astore_n B dX12_standing_14 rfl rfl ?_
    refine pm_loc (L' := [some (.ref (z + 0)), some (.int (nI (pm_n x))), some (.ref (z + (4 + (pm_n x))))]) rfl ?_
    refine pm_aload_n B dX12_standing_15 rfl ?_
    refine pm_cV (As := []) (mc2 := 0) (ms2 := 0) B rfl (hS.2.2.1 (pm_n x) (by first | assumption | omega)) rfl (c_X6_isLoyal (hS.2.2.1 (pm_n x) (by first | assumption | omega))) mt_X6_isLoyal sv_X12_98 dX12_standing_16 rfl rfl rfl rfl rfl ?_
    refine pm_stk (st' := [.int (if (r (7 + 6 * (pm_n x) + 5)) = 0 ∧ (r (7 + 6 * (pm_n x) + 4)) = 0 then 1 else 0)]) rfl ?_
    refine pm_if_eq (tgt := 25) B dX12_standing_19 (by decide) (fun hq3 => ?_) (fun hq3 => ?_)
    · have hq3p : ¬ ((r (7 + 6 * (pm_n x) + 5)) = 0 ∧ (r (7 + 6 * (pm_n x) + 4)) = 0) := (pm_if01 _ _).mp hq3
      refine pm_aload_n B dX12_standing_25 rfl ?_
      refine pm_cV (As := []) (mc2 := 0) (ms2 := 0) B rfl (hS.2.2.1 (pm_n x) (by first | assumption | omega)) rfl (c_X6_isActive (hS.2.2.1 (pm_n x) (by first | assumption | omega))) mt_X6_isActive sv_X12_102 dX12_standing_26 rfl rfl rfl rfl rfl ?_
      refine pm_stk (st' := [.int (if (r (7 + 6 * (pm_n x) + 5)) = 0 then 1 else 0)]) rfl ?_
      refine pm_if_eq (tgt := 37) B dX12_standing_29 (by decide) (fun hq4 => ?_) (fun hq4 => ?_)
      · have hq4p : ¬ ((r (7 + 6 * (pm_n x) + 5)) = 0) := (pm_if01 _ _).mp hq4
        refine pm_bipush (v := 98) B dX12_standing_37 (by decide) ?_
        have hDq5 : (d_X12_standing x n r to) = (0, 98) := by rw [d_X12_standing, if_neg hq1, if_neg hq3p, if_neg hq4p]
        refine pm_pst (post' := pm_fp ((0, 98).1) (some (.int ((0, 98).2))) nx M) (by rw [hDq5]) ?_
        exact pm_ireturn B dX12_standing_39 rfl (by first | rfl | (apply pm_nz; first | assumption | decide | exact pm_in01 _ _ _ | ((repeat' split) <;> first | exact Or.inl rfl | exact Or.inr rfl))) ⟨rfl, Nat.le_refl _, Or.inl ⟨rfl, rfl, rfl⟩⟩ rfl rfl
      · have hq4p : ((r (7 + 6 * (pm_n x) + 5)) = 0) := Decidable.not_not.mp (fun e => hq4 ((pm_if01 _ _).mpr e))
        refine pm_bipush (v := 119) B dX12_standing_32 (by decide) ?_
        refine pm_goto (tgt := 39) B dX12_standing_34 (by decide) ?_
        have hDq6 : (d_X12_standing x n r to) = (0, 119) := by rw [d_X12_standing, if_neg hq1, if_neg hq3p, if_pos hq4p]
        refine pm_pst (post' := pm_fp ((0, 119).1) (some (.int ((0, 119).2))) nx M) (by rw [hDq6]) ?_
        exact pm_ireturn B dX12_standing_39 rfl (by first | rfl | (apply pm_nz; first | assumption | decide | exact pm_in01 _ _ _ | ((repeat' split) <;> first | exact Or.inl rfl | exact Or.inr rfl))) ⟨rfl, Nat.le_refl _, Or.inl ⟨rfl, rfl, rfl⟩⟩ rfl rfl
    · have hq3p : ((r (7 + 6 * (pm_n x) + 5)) = 0 ∧ (r (7 + 6 * (pm_n x) + 4)) = 0) := Decidable.not_not.mp (fun e => hq3 ((pm_if01 _ _).mpr e))
      refine pm_bipush (v := 108) B dX12_standing_22 (by decide) ?_
      have hDq7 : (d_X12_standing x n r to) = (0, 108) := by rw [d_X12_standing, if_neg hq1, if_pos hq3p]
      refine pm_pst (post' := pm_fp ((0, 108).1) (some (.int ((0, 108).2))) nx M) (by rw [hDq7]) ?_
      exact pm_ireturn B dX12_standing_24 rfl (by first | rfl | (apply pm_nz; first | assumption | decide | exact pm_in01 _ _ _ | ((repeat' split) <;> first | exact Or.inl rfl | exact Or.inr rfl))) ⟨rfl, Nat.le_refl _, Or.inl ⟨rfl, rfl, rfl⟩⟩ rfl rfl
def d_X12_memberCount (n : Nat) (r : Nat → Int32) (to : Nat → Int32) : (Nat × Int32) := (0, (nI n))
set_option maxRecDepth 100000 in
set_option maxHeartbeats 8000000 in
theorem c_X12_memberCount {l : Launch} {z : Nat} {D : va_G} {kA : Nat → ClassId} {kE : Nat → Nat} {nx : Nat} {M : pm_M} {n : Nat} {ldv : Value} {r : Nat → Int32} {to : Nat → Int32} (hS : pm_SA z kA 2 M r) (hto : M 0 = some (.inr (10, [.ref (z + 1), .ref (z + 2), .ref (z + 17), .ref (z + 28), .ref (z + 39), .ref (z + 129), .ref (z + 131), .ref (z + 133), .ref (z + 138), .int (to 9), .int (to 10), .int (to 11), ldv]))) (hn : r 0 = nI n) (h7 : n ≤ 7) : pm_C l z D kA kE yX12_memberCount cX12_memberCount 1 (some .int) 20 2 12 [.ref (z + 0)] nx M (pm_fp ((d_X12_memberCount n r to).1) (some (.int ((d_X12_memberCount n r to).2))) nx M) := by
  refine pm_mk (own := RX12) (nm := "memberCount") mt_X12_memberCount rfl rfl rfl rfl fun X B => ?_
  refine pm_loc (L' := [some (.ref (z + 0))]) rfl ?_
  refine pm_aload_n B dX12_memberCount_0 rfl ?_
  refine pm_get B dX12_memberCount_1 fl_X12_20 hto rfl ?_
  refine pm_get B dX12_memberCount_4 fl_X12_78 (hS.1) rfl ?_
  refine pm_stk (st' := [.int (nI n)]) (by rw [show (r 0) = (nI n) from by rw [hn]]) ?_
  have hDq1 : (d_X12_memberCount n r to) = (0, (nI n)) := by rw [d_X12_memberCount]
  refine pm_pst (post' := pm_fp ((0, (nI n)).1) (some (.int ((0, (nI n)).2))) nx M) (by rw [hDq1]) ?_
  exact pm_ireturn B dX12_memberCount_7 rfl (by first | rfl | (apply pm_nz; first | assumption | decide | exact pm_in01 _ _ _ | ((repeat' split) <;> first | exact Or.inl rfl | exact Or.inr rfl))) ⟨rfl, Nat.le_refl _, Or.inl ⟨rfl, rfl, rfl⟩⟩ rfl rfl
def d_X12_month (n : Nat) (r : Nat → Int32) (to : Nat → Int32) : (Nat × Int32) := (0, (r 4))
set_option maxRecDepth 100000 in
set_option maxHeartbeats 8000000 in
theorem c_X12_month {l : Launch} {z : Nat} {D : va_G} {kA : Nat → ClassId} {kE : Nat → Nat} {nx : Nat} {M : pm_M} {n : Nat} {ldv : Value} {r : Nat → Int32} {to : Nat → Int32} (hS : pm_SA z kA 2 M r) (hto : M 0 = some (.inr (10, [.ref (z + 1), .ref (z + 2), .ref (z + 17), .ref (z + 28), .ref (z + 39), .ref (z + 129), .ref (z + 131), .ref (z + 133), .ref (z + 138), .int (to 9), .int (to 10), .int (to 11), ldv]))) (hn : r 0 = nI n) (h7 : n ≤ 7) : pm_C l z D kA kE yX12_month cX12_month 1 (some .int) 20 2 12 [.ref (z + 0)] nx M (pm_fp ((d_X12_month n r to).1) (some (.int ((d_X12_month n r to).2))) nx M) := by
  refine pm_mk (own := RX12) (nm := "month") mt_X12_month rfl rfl rfl rfl fun X B => ?_
  refine pm_loc (L' := [some (.ref (z + 0))]) rfl ?_
  refine pm_aload_n B dX12_month_0 rfl ?_
  refine pm_get B dX12_month_1 fl_X12_20 hto rfl ?_
  refine pm_get B dX12_month_4 fl_X12_243 (hS.1) rfl ?_
  have hDq1 : (d_X12_month n r to) = (0, (r 4)) := by rw [d_X12_month]
  refine pm_pst (post' := pm_fp ((0, (r 4)).1) (some (.int ((0, (r 4)).2))) nx M) (by rw [hDq1]) ?_
  exact pm_ireturn B dX12_month_7 rfl (by first | rfl | (apply pm_nz; first | assumption | decide | exact pm_in01 _ _ _ | ((repeat' split) <;> first | exact Or.inl rfl | exact Or.inr rfl))) ⟨rfl, Nat.le_refl _, Or.inl ⟨rfl, rfl, rfl⟩⟩ rfl rfl
def d_X12_soldTotal (n : Nat) (r : Nat → Int32) (to : Nat → Int32) : (Nat × Int32) := (0, ((r 5) + (r 6)))
set_option maxRecDepth 100000 in
set_option maxHeartbeats 8000000 in
theorem c_X12_soldTotal {l : Launch} {z : Nat} {D : va_G} {kA : Nat → ClassId} {kE : Nat → Nat} {nx : Nat} {M : pm_M} {n : Nat} {ldv : Value} {r : Nat → Int32} {to : Nat → Int32} (hS : pm_SA z kA 2 M r) (hto : M 0 = some (.inr (10, [.ref (z + 1), .ref (z + 2), .ref (z + 17), .ref (z + 28), .ref (z + 39), .ref (z + 129), .ref (z + 131), .ref (z + 133), .ref (z + 138), .int (to 9), .int (to 10), .int (to 11), ldv]))) (hn : r 0 = nI n) (h7 : n ≤ 7) : pm_C l z D kA kE yX12_soldTotal cX12_soldTotal 1 (some .int) 20 2 12 [.ref (z + 0)] nx M (pm_fp ((d_X12_soldTotal n r to).1) (some (.int ((d_X12_soldTotal n r to).2))) nx M) := by
  refine pm_mk (own := RX12) (nm := "soldTotal") mt_X12_soldTotal rfl rfl rfl rfl fun X B => ?_
  refine pm_loc (L' := [some (.ref (z + 0))]) rfl ?_
  refine pm_aload_n B dX12_soldTotal_0 rfl ?_
  refine pm_get B dX12_soldTotal_1 fl_X12_20 hto rfl ?_
  refine pm_get B dX12_soldTotal_4 fl_X12_246 (hS.1) rfl ?_
  refine pm_aload_n B dX12_soldTotal_7 rfl ?_
  refine pm_get B dX12_soldTotal_8 fl_X12_20 hto rfl ?_
  refine pm_get B dX12_soldTotal_11 fl_X12_249 (hS.1) rfl ?_
  refine pm_iadd B dX12_soldTotal_14 ?_
  have hDq1 : (d_X12_soldTotal n r to) = (0, ((r 5) + (r 6))) := by rw [d_X12_soldTotal]
  refine pm_pst (post' := pm_fp ((0, ((r 5) + (r 6))).1) (some (.int ((0, ((r 5) + (r 6))).2))) nx M) (by rw [hDq1]) ?_
  exact pm_ireturn B dX12_soldTotal_15 rfl (by first | rfl | (apply pm_nz; first | assumption | decide | exact pm_in01 _ _ _ | ((repeat' split) <;> first | exact Or.inl rfl | exact Or.inr rfl))) ⟨rfl, Nat.le_refl _, Or.inl ⟨rfl, rfl, rfl⟩⟩ rfl rfl
def d_X12_withinTotal (n : Nat) (r : Nat → Int32) (to : Nat → Int32) : (Nat × Int32) := (0, (r 5))
set_option maxRecDepth 100000 in
set_option maxHeartbeats 8000000 in
theorem c_X12_withinTotal {l : Launch} {z : Nat} {D : va_G} {kA : Nat → ClassId} {kE : Nat → Nat} {nx : Nat} {M : pm_M} {n : Nat} {ldv : Value} {r : Nat → Int32} {to : Nat → Int32} (hS : pm_SA z kA 2 M r) (hto : M 0 = some (.inr (10, [.ref (z + 1), .ref (z + 2), .ref (z + 17), .ref (z + 28), .ref (z + 39), .ref (z + 129), .ref (z + 131), .ref (z + 133), .ref (z + 138), .int (to 9), .int (to 10), .int (to 11), ldv]))) (hn : r 0 = nI n) (h7 : n ≤ 7) : pm_C l z D kA kE yX12_withinTotal cX12_withinTotal 1 (some .int) 20 2 12 [.ref (z + 0)] nx M (pm_fp ((d_X12_withinTotal n r to).1) (some (.int ((d_X12_withinTotal n r to).2))) nx M) := by
  refine pm_mk (own := RX12) (nm := "withinTotal") mt_X12_withinTotal rfl rfl rfl rfl fun X B => ?_
  refine pm_loc (L' := [some (.ref (z + 0))]) rfl ?_
  refine pm_aload_n B dX12_withinTotal_0 rfl ?_
  refine pm_get B dX12_withinTotal_1 fl_X12_20 hto rfl ?_
  refine pm_get B dX12_withinTotal_4 fl_X12_246 (hS.1) rfl ?_
  have hDq1 : (d_X12_withinTotal n r to) = (0, (r 5)) := by rw [d_X12_withinTotal]
  refine pm_pst (post' := pm_fp ((0, (r 5)).1) (some (.int ((0, (r 5)).2))) nx M) (by rw [hDq1]) ?_
  exact pm_ireturn B dX12_withinTotal_7 rfl (by first | rfl | (apply pm_nz; first | assumption | decide | exact pm_in01 _ _ _ | ((repeat' split) <;> first | exact Or.inl rfl | exact Or.inr rfl))) ⟨rfl, Nat.le_refl _, Or.inl ⟨rfl, rfl, rfl⟩⟩ rfl rfl
def d_X12_finedTotal (n : Nat) (r : Nat → Int32) (to : Nat → Int32) : (Nat × Int32) := (0, (r 6))
set_option maxRecDepth 100000 in
set_option maxHeartbeats 8000000 in
theorem c_X12_finedTotal {l : Launch} {z : Nat} {D : va_G} {kA : Nat → ClassId} {kE : Nat → Nat} {nx : Nat} {M : pm_M} {n : Nat} {ldv : Value} {r : Nat → Int32} {to : Nat → Int32} (hS : pm_SA z kA 2 M r) (hto : M 0 = some (.inr (10, [.ref (z + 1), .ref (z + 2), .ref (z + 17), .ref (z + 28), .ref (z + 39), .ref (z + 129), .ref (z + 131), .ref (z + 133), .ref (z + 138), .int (to 9), .int (to 10), .int (to 11), ldv]))) (hn : r 0 = nI n) (h7 : n ≤ 7) : pm_C l z D kA kE yX12_finedTotal cX12_finedTotal 1 (some .int) 20 2 12 [.ref (z + 0)] nx M (pm_fp ((d_X12_finedTotal n r to).1) (some (.int ((d_X12_finedTotal n r to).2))) nx M) := by
  refine pm_mk (own := RX12) (nm := "finedTotal") mt_X12_finedTotal rfl rfl rfl rfl fun X B => ?_
  refine pm_loc (L' := [some (.ref (z + 0))]) rfl ?_
  refine pm_aload_n B dX12_finedTotal_0 rfl ?_
  refine pm_get B dX12_finedTotal_1 fl_X12_20 hto rfl ?_
  refine pm_get B dX12_finedTotal_4 fl_X12_249 (hS.1) rfl ?_
  have hDq1 : (d_X12_finedTotal n r to) = (0, (r 6)) := by rw [d_X12_finedTotal]
  refine pm_pst (post' := pm_fp ((0, (r 6)).1) (some (.int ((0, (r 6)).2))) nx M) (by rw [hDq1]) ?_
  exact pm_ireturn B dX12_finedTotal_7 rfl (by first | rfl | (apply pm_nz; first | assumption | decide | exact pm_in01 _ _ _ | ((repeat' split) <;> first | exact Or.inl rfl | exact Or.inr rfl))) ⟨rfl, Nat.le_refl _, Or.inl ⟨rfl, rfl, rfl⟩⟩ rfl rfl
def d_X12_fines (n : Nat) (r : Nat → Int32) (to : Nat → Int32) : (Nat × Int32) := (0, ((r 6) * 3))
set_option maxRecDepth 100000 in
set_option maxHeartbeats 8000000 in
theorem c_X12_fines {l : Launch} {z : Nat} {D : va_G} {kA : Nat → ClassId} {kE : Nat → Nat} {nx : Nat} {M : pm_M} {n : Nat} {ldv : Value} {r : Nat → Int32} {to : Nat → Int32} (hS : pm_SA z kA 2 M r) (hto : M 0 = some (.inr (10, [.ref (z + 1), .ref (z + 2), .ref (z + 17), .ref (z + 28), .ref (z + 39), .ref (z + 129), .ref (z + 131), .ref (z + 133), .ref (z + 138), .int (to 9), .int (to 10), .int (to 11), ldv]))) (hn : r 0 = nI n) (h7 : n ≤ 7) : pm_C l z D kA kE yX12_fines cX12_fines 1 (some .int) 20 2 12 [.ref (z + 0)] nx M (pm_fp ((d_X12_fines n r to).1) (some (.int ((d_X12_fines n r to).2))) nx M) := by
  refine pm_mk (own := RX12) (nm := "fines") mt_X12_fines rfl rfl rfl rfl fun X B => ?_
  refine pm_loc (L' := [some (.ref (z + 0))]) rfl ?_
  refine pm_aload_n B dX12_fines_0 rfl ?_
  refine pm_get B dX12_fines_1 fl_X12_20 hto rfl ?_
  refine pm_get B dX12_fines_4 fl_X12_249 (hS.1) rfl ?_
  refine pm_iconst (v := 3) B dX12_fines_7 (by decide) ?_
  refine pm_imul B dX12_fines_8 ?_
  have hDq1 : (d_X12_fines n r to) = (0, ((r 6) * 3)) := by rw [d_X12_fines]
  refine pm_pst (post' := pm_fp ((0, ((r 6) * 3)).1) (some (.int ((0, ((r 6) * 3)).2))) nx M) (by rw [hDq1]) ?_
  exact pm_ireturn B dX12_fines_9 rfl (by first | rfl | (apply pm_nz; first | assumption | decide | exact pm_in01 _ _ _ | ((repeat' split) <;> first | exact Or.inl rfl | exact Or.inr rfl))) ⟨rfl, Nat.le_refl _, Or.inl ⟨rfl, rfl, rfl⟩⟩ rfl rfl
def d_X12_linkCount (n : Nat) (r : Nat → Int32) (to : Nat → Int32) : (Nat × Int32) := (0, (pm_lt (fun j => r (49 + j)) 7 / 2))
set_option maxRecDepth 100000 in
set_option maxHeartbeats 8000000 in
theorem c_X12_linkCount {l : Launch} {z : Nat} {D : va_G} {kA : Nat → ClassId} {kE : Nat → Nat} {nx : Nat} {M : pm_M} {n : Nat} {ldv : Value} {r : Nat → Int32} {to : Nat → Int32} (hS : pm_SA z kA 2 M r) (hto : M 0 = some (.inr (10, [.ref (z + 1), .ref (z + 2), .ref (z + 17), .ref (z + 28), .ref (z + 39), .ref (z + 129), .ref (z + 131), .ref (z + 133), .ref (z + 138), .int (to 9), .int (to 10), .int (to 11), ldv]))) (hn : r 0 = nI n) (h7 : n ≤ 7) : pm_C l z D kA kE yX12_linkCount cX12_linkCount 1 (some .int) 20 2 12 [.ref (z + 0)] nx M (pm_fp ((d_X12_linkCount n r to).1) (some (.int ((d_X12_linkCount n r to).2))) nx M) := by
  refine pm_mk (own := RX12) (nm := "linkCount") mt_X12_linkCount rfl rfl rfl rfl fun X B => ?_
  refine pm_loc (L' := [some (.ref (z + 0))]) rfl ?_
  refine pm_aload_n B dX12_linkCount_0 rfl ?_
  refine pm_get B dX12_linkCount_1 fl_X12_20 hto rfl ?_
  refine pm_get B dX12_linkCount_4 fl_X12_195 (hS.1) rfl ?_
  refine pm_cV (As := []) (mc2 := 0) (ms2 := 0) B rfl (hS.2.2.2.1) rfl (c_X5_total (g := (fun j => r (49 + j))) (hS.2.2.2.1) (hS.2.2.2.2)) mt_X5_total sv_X12_199 dX12_linkCount_7 rfl rfl rfl rfl rfl ?_
  refine pm_stk (st' := [.int (pm_lt (fun j => r (49 + j)) 7 / 2)]) rfl ?_
  have hDq1 : (d_X12_linkCount n r to) = (0, (pm_lt (fun j => r (49 + j)) 7 / 2)) := by rw [d_X12_linkCount]
  refine pm_pst (post' := pm_fp ((0, (pm_lt (fun j => r (49 + j)) 7 / 2)).1) (some (.int ((0, (pm_lt (fun j => r (49 + j)) 7 / 2)).2))) nx M) (by rw [hDq1]) ?_
  exact pm_ireturn B dX12_linkCount_10 rfl (by first | rfl | (apply pm_nz; first | assumption | decide | exact pm_in01 _ _ _ | ((repeat' split) <;> first | exact Or.inl rfl | exact Or.inr rfl))) ⟨rfl, Nat.le_refl _, Or.inl ⟨rfl, rfl, rfl⟩⟩ rfl rfl
