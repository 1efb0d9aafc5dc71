/-! the class: State's questions, Votes -/
def d_X10_hasMember (x : Int32) (n : Nat) (r : Nat → Int32) : Int32 := if x < 0 then 0 else (if (nI n) ≤ x then 0 else 1)
set_option maxRecDepth 100000 in
set_option maxHeartbeats 8000000 in
theorem c_X10_hasMembers {l : Launch} {z : Nat} {D : va_G} {kA : Nat → ClassId} {kE : Nat → Nat} {nx : Nat} {M : pm_M} {x : Int32} {n : Nat} {r : Nat → Int32} (hS : pm_SA z kA 2 M r) (hn : r 0 = nI n) (h7 : n ≤ 7) : pm_C l z D kA kE yX10_hasMember cX10_hasMember 2 (some .boolean) 0 0 0 [.ref (z + 2), .int x] nx M (pm_rt (some (.int (d_X10_hasMember x n r))) nx M) := by
  refine pm_mk (own := RX10) (nm := "hasMember") mt_X10_hasMember rfl rfl rfl rfl fun X B => ?_
  refine pm_loc (L' := [some (.ref (z + 2)), some (.int x)]) rfl ?_
  refine pm_iload_n B dX10_hasMember_0 rfl ?_
  refine pm_if_lt (tgt := 16) B dX10_hasMember_1 (by decide) (fun hq1 => ?_) (fun hq1 => ?_)
  · refine pm_iconst (v := 0) B dX10_hasMember_16 (by decide) ?_
    have hDq2 : (d_X10_hasMember x n r) = 0 := by rw [d_X10_hasMember, if_pos hq1]
    exact pm_ireturn B dX10_hasMember_17 rfl (by first | rfl | (apply pm_nz; first | assumption | decide | exact pm_in01 _ _ _ | simp)) ⟨(by rw [hDq2]), rfl, rfl⟩ rfl rfl
  · refine pm_iload_n B dX10_hasMember_4 rfl ?_
    refine pm_aload_n B dX10_hasMember_5 rfl ?_
    refine pm_get B dX10_hasMember_6 fl_X10_36 (hS.1) rfl ?_
    refine pm_stk (st' := [.int (nI n), .int x]) (by rw [show (r 0) = (nI n) from by rw [hn]]) ?_
    refine pm_icmp_ge (tgt := 16) B dX10_hasMember_9 (by decide) (fun hq3 => ?_) (fun hq3 => ?_)
    · refine pm_iconst (v := 0) B dX10_hasMember_16 (by decide) ?_
      have hDq4 : (d_X10_hasMember x n r) = 0 := by rw [d_X10_hasMember, if_neg hq1, if_pos hq3]
      exact pm_ireturn B dX10_hasMember_17 rfl (by first | rfl | (apply pm_nz; first | assumption | decide | exact pm_in01 _ _ _ | simp)) ⟨(by rw [hDq4]), rfl, rfl⟩ rfl rfl
    · refine pm_iconst (v := 1) B dX10_hasMember_12 (by decide) ?_
      refine pm_goto (tgt := 17) B dX10_hasMember_13 (by decide) ?_
      have hDq5 : (d_X10_hasMember x n r) = 1 := by rw [d_X10_hasMember, if_neg hq1, if_neg hq3]
      exact pm_ireturn B dX10_hasMember_17 rfl (by first | rfl | (apply pm_nz; first | assumption | decide | exact pm_in01 _ _ _ | simp)) ⟨(by rw [hDq5]), rfl, rfl⟩ rfl rfl
def d_X10_activeSet_L1 (r : Nat → Int32) : Nat → Nat → Int32 → Int32
  | 0, _, a1_1 => a1_1
  | k1 + 1, j1, a1_1 => if (r (7 + 6 * j1 + 5)) = 0 then (d_X10_activeSet_L1 r k1 (j1 + 1) (a1_1 ||| (1 <<< ((nI j1) &&& 31)))) else (d_X10_activeSet_L1 r k1 (j1 + 1) (a1_1 ||| 0))
def d_X10_activeSet (n : Nat) (r : Nat → Int32) : Int32 := (d_X10_activeSet_L1 r n 0 0)
set_option maxRecDepth 100000 in
set_option maxHeartbeats 8000000 in
theorem c_X10_activeSets {l : Launch} {z : Nat} {D : va_G} {kA : Nat → ClassId} {kE : Nat → Nat} {nx : Nat} {M : pm_M} {n : Nat} {r : Nat → Int32} (hS : pm_SA z kA 2 M r) (hn : r 0 = nI n) (h7 : n ≤ 7) : pm_C l z D kA kE yX10_activeSet cX10_activeSet 3 (some .int) 1 0 0 [.ref (z + 2)] nx M (pm_rt (some (.int (d_X10_activeSet n r))) nx M) := by
  refine pm_mk (own := RX10) (nm := "activeSet") mt_X10_activeSet rfl rfl rfl rfl fun X B => ?_
  refine pm_loc (L' := [some (.ref (z + 2)), none, none]) rfl ?_
  refine pm_iconst (v := 0) B dX10_activeSet_0 (by decide) ?_
  refine pm_istore_n B dX10_activeSet_1 rfl rfl ?_
  refine pm_loc (L' := [some (.ref (z + 2)), some (.int 0), none]) rfl ?_
  refine pm_iconst (v := 0) B dX10_activeSet_2 (by decide) ?_
  refine pm_istore_n B dX10_activeSet_3 rfl rfl ?_
  refine pm_loc (L' := [some (.ref (z + 2)), some (.int 0), some (.int 0)]) rfl ?_
  refine pm_loc (L' := [some (.ref (z + 2)), some (.int 0), some (.int (nI 0))]) rfl ?_
  have loop1 : ∀ (K1 : (Int32 → Int32)), (∀ (a1_1 : Int32), pm_G l z D X 0 0 (pm_Q z D (pm_rt (some (.int (K1 a1_1))) nx M) 0 0 X) nx M 40 [none, some (.int a1_1), none] []) → ∀ (k1 j1 : Nat), j1 + k1 = n → ∀ (a1_1 : Int32), pm_G l z D X 0 0 (pm_Q z D (pm_rt (some (.int (K1 (d_X10_activeSet_L1 r k1 j1 a1_1)))) nx M) 0 0 X) nx M 4 [some (.ref (z + 2)), some (.int a1_1), some (.int (nI j1))] [] := by
    intro K1 hK1 k1
    induction k1 with
    | zero =>
      intro j1 hj1 a1_1
      have hjn1 : j1 = n := by omega
      refine pm_iload_n B dX10_activeSet_4 rfl ?_
      refine pm_aload_n B dX10_activeSet_5 rfl ?_
      refine pm_get B dX10_activeSet_6 fl_X10_36 (hS.1) rfl ?_
      refine pm_stk (st' := [.int (nI n), .int (nI j1)]) (by rw [show (r 0) = (nI n) from by rw [hn]]) ?_
      refine pm_icmp_ge (tgt := 40) B dX10_activeSet_9 (by decide) (fun hq1 => ?_) (fun hq1 => absurd ((nI_leI (by first | omega | decide) (by first | omega | decide)).mpr (by omega)) hq1)
      refine pm_wk (L' := [none, some (.int a1_1), none]) ⟨rfl, trivial⟩ ?_
      have hDq2 : (K1 (d_X10_activeSet_L1 r 0 j1 a1_1)) = (K1 a1_1) := by rw [d_X10_activeSet_L1]
      refine pm_pst (post' := pm_rt (some (.int (K1 a1_1))) nx M) (by rw [hDq2]) ?_
      exact hK1 a1_1
    | succ k1 ih1 =>
      intro j1 hj1 a1_1
      have hjn1 : j1 < n := by omega
      refine pm_iload_n B dX10_activeSet_4 rfl ?_
      refine pm_aload_n B dX10_activeSet_5 rfl ?_
      refine pm_get B dX10_activeSet_6 fl_X10_36 (hS.1) rfl ?_
      refine pm_stk (st' := [.int (nI n), .int (nI j1)]) (by rw [show (r 0) = (nI n) from by rw [hn]]) ?_
      refine pm_icmp_ge (tgt := 40) B dX10_activeSet_9 (by decide) (fun hq3 => absurd hq3 (fun e => absurd ((nI_leI (by first | omega | decide) (by first | omega | decide)).mp e) (by omega))) (fun hq3 => ?_)
      refine pm_iload_n B dX10_activeSet_12 rfl ?_
      refine pm_aload_n B dX10_activeSet_13 rfl ?_
      refine pm_get B dX10_activeSet_14 fl_X10_11 (hS.1) rfl ?_
      refine pm_iload_n B dX10_activeSet_17 rfl ?_
      refine pm_aald_n B dX10_activeSet_18 (hS.2.1) rfl j1 (by first | assumption | omega) (by decide) (pm_mr_at (by first | assumption | omega)) ?_
      refine pm_cV (As := []) (mc2 := 0) (ms2 := 0) B rfl (hS.2.2.1 j1 (by first | assumption | omega)) rfl (c_X6_isActive (hS.2.2.1 j1 (by first | assumption | omega))) mt_X6_isActive sv_X10_58 dX10_activeSet_19 rfl rfl rfl rfl rfl ?_
      refine pm_stk (st' := [.int (if (r (7 + 6 * j1 + 5)) = 0 then 1 else 0), .int a1_1]) rfl ?_
      refine pm_if_eq (tgt := 31) B dX10_activeSet_22 (by decide) (fun hq4 => ?_) (fun hq4 => ?_)
      · have hq4p : ¬ ((r (7 + 6 * j1 + 5)) = 0) := (pm_if01 _ _).mp hq4
        refine pm_iconst (v := 0) B dX10_activeSet_31 (by decide) ?_
        refine pm_ior B dX10_activeSet_32 ?_
        refine pm_istore_n B dX10_activeSet_33 rfl rfl ?_
        refine pm_loc (L' := [some (.ref (z + 2)), some (.int (a1_1 ||| 0)), some (.int (nI j1))]) rfl ?_
        refine pm_iinc B dX10_activeSet_34 rfl rfl rfl ?_
        refine pm_loc (L' := [some (.ref (z + 2)), some (.int (a1_1 ||| 0)), some (.int (nI (j1 + 1)))]) (by rw [show ((nI j1) : Int32) + Int32.ofInt 1 = (nI (j1 + 1)) from nI_1 _]; rfl) ?_
        refine pm_goto (tgt := 4) B dX10_activeSet_37 (by decide) ?_
        have hDq5 : (K1 (d_X10_activeSet_L1 r (k1 + 1) j1 a1_1)) = (K1 (d_X10_activeSet_L1 r k1 (j1 + 1) (a1_1 ||| 0))) := by rw [d_X10_activeSet_L1, if_neg hq4p]
        refine pm_pst (post' := pm_rt (some (.int (K1 (d_X10_activeSet_L1 r k1 (j1 + 1) (a1_1 ||| 0))))) nx M) (by rw [hDq5]) ?_
        exact ih1 (j1 + 1) (by omega) (a1_1 ||| 0)
      · have hq4p : ((r (7 + 6 * j1 + 5)) = 0) := Decidable.not_not.mp (fun e => hq4 ((pm_if01 _ _).mpr e))
        refine pm_iconst (v := 1) B dX10_activeSet_25 (by decide) ?_
        refine pm_iload_n B dX10_activeSet_26 rfl ?_
        refine pm_ishl B dX10_activeSet_27 ?_
        refine pm_goto (tgt := 32) B dX10_activeSet_28 (by decide) ?_
        refine pm_ior B dX10_activeSet_32 ?_
        refine pm_istore_n B dX10_activeSet_33 rfl rfl ?_
        refine pm_loc (L' := [some (.ref (z + 2)), some (.int (a1_1 ||| (1 <<< ((nI j1) &&& 31)))), some (.int (nI j1))]) rfl ?_
        refine pm_iinc B dX10_activeSet_34 rfl rfl rfl ?_
        refine pm_loc (L' := [some (.ref (z + 2)), some (.int (a1_1 ||| (1 <<< ((nI j1) &&& 31)))), some (.int (nI (j1 + 1)))]) (by rw [show ((nI j1) : Int32) + Int32.ofInt 1 = (nI (j1 + 1)) from nI_1 _]; rfl) ?_
        refine pm_goto (tgt := 4) B dX10_activeSet_37 (by decide) ?_
        have hDq6 : (K1 (d_X10_activeSet_L1 r (k1 + 1) j1 a1_1)) = (K1 (d_X10_activeSet_L1 r k1 (j1 + 1) (a1_1 ||| (1 <<< ((nI j1) &&& 31))))) := by rw [d_X10_activeSet_L1, if_pos hq4p]
        refine pm_pst (post' := pm_rt (some (.int (K1 (d_X10_activeSet_L1 r k1 (j1 + 1) (a1_1 ||| (1 <<< ((nI j1) &&& 31))))))) nx M) (by rw [hDq6]) ?_
        exact ih1 (j1 + 1) (by omega) (a1_1 ||| (1 <<< ((nI j1) &&& 31)))
  refine pm_pst (post' := pm_rt (some (.int (d_X10_activeSet_L1 r n 0 0))) nx M) (by rw [show (d_X10_activeSet n r) = (d_X10_activeSet_L1 r n 0 0) from by rw [d_X10_activeSet]]) ?_
  refine loop1 (fun (a1_1 : Int32) => a1_1) ?_ n 0 (by omega) 0
  intro a1_1
  refine pm_pst (post' := pm_rt (some (.int a1_1)) nx M) rfl ?_
  refine pm_iload_n B dX10_activeSet_40 rfl ?_
  have hDq7 : (a1_1) = a1_1 := rfl
  exact pm_ireturn B dX10_activeSet_41 rfl (by first | rfl | (apply pm_nz; first | assumption | decide | exact pm_in01 _ _ _ | simp)) ⟨rfl, rfl, rfl⟩ rfl rfl
def d_X10_loyalCount_L1 (r : Nat → Int32) : Nat → Nat → Int32 → Int32
  | 0, _, a1_1 => a1_1
  | k1 + 1, j1, a1_1 => if (r (7 + 6 * j1 + 5)) = 0 ∧ (r (7 + 6 * j1 + 4)) = 0 then (d_X10_loyalCount_L1 r k1 (j1 + 1) (a1_1 + 1)) else (d_X10_loyalCount_L1 r k1 (j1 + 1) (a1_1 + 0))
def d_X10_loyalCount (n : Nat) (r : Nat → Int32) : Int32 := (d_X10_loyalCount_L1 r n 0 0)
set_option maxRecDepth 100000 in
set_option maxHeartbeats 8000000 in
theorem c_X10_loyalCounts {l : Launch} {z : Nat} {D : va_G} {kA : Nat → ClassId} {kE : Nat → Nat} {nx : Nat} {M : pm_M} {n : Nat} {r : Nat → Int32} (hS : pm_SA z kA 2 M r) (hn : r 0 = nI n) (h7 : n ≤ 7) : pm_C l z D kA kE yX10_loyalCount cX10_loyalCount 3 (some .int) 1 0 0 [.ref (z + 2)] nx M (pm_rt (some (.int (d_X10_loyalCount n r))) nx M) := by
  refine pm_mk (own := RX10) (nm := "loyalCount") mt_X10_loyalCount rfl rfl rfl rfl fun X B => ?_
  refine pm_loc (L' := [some (.ref (z + 2)), none, none]) rfl ?_
  refine pm_iconst (v := 0) B dX10_loyalCount_0 (by decide) ?_
  refine pm_istore_n B dX10_loyalCount_1 rfl rfl ?_
  refine pm_loc (L' := [some (.ref (z + 2)), some (.int 0), none]) rfl ?_
  refine pm_iconst (v := 0) B dX10_loyalCount_2 (by decide) ?_
  refine pm_istore_n B dX10_loyalCount_3 rfl rfl ?_
  refine pm_loc (L' := [some (.ref (z + 2)), some (.int 0), some (.int 0)]) rfl ?_
  refine pm_loc (L' := [some (.ref (z + 2)), some (.int 0), some (.int (nI 0))]) rfl ?_
  have loop1 : ∀ (K1 : (Int32 → Int32)), (∀ (a1_1 : Int32), pm_G l z D X 0 0 (pm_Q z D (pm_rt (some (.int (K1 a1_1))) nx M) 0 0 X) nx M 38 [none, some (.int a1_1), none] []) → ∀ (k1 j1 : Nat), j1 + k1 = n → ∀ (a1_1 : Int32), pm_G l z D X 0 0 (pm_Q z D (pm_rt (some (.int (K1 (d_X10_loyalCount_L1 r k1 j1 a1_1)))) nx M) 0 0 X) nx M 4 [some (.ref (z + 2)), some (.int a1_1), some (.int (nI j1))] [] := by
    intro K1 hK1 k1
    induction k1 with
    | zero =>
      intro j1 hj1 a1_1
      have hjn1 : j1 = n := by omega
      refine pm_iload_n B dX10_loyalCount_4 rfl ?_
      refine pm_aload_n B dX10_loyalCount_5 rfl ?_
      refine pm_get B dX10_loyalCount_6 fl_X10_36 (hS.1) rfl ?_
      refine pm_stk (st' := [.int (nI n), .int (nI j1)]) (by rw [show (r 0) = (nI n) from by rw [hn]]) ?_
      refine pm_icmp_ge (tgt := 38) B dX10_loyalCount_9 (by decide) (fun hq1 => ?_) (fun hq1 => absurd ((nI_leI (by first | omega | decide) (by first | omega | decide)).mpr (by omega)) hq1)
      refine pm_wk (L' := [none, some (.int a1_1), none]) ⟨rfl, trivial⟩ ?_
      have hDq2 : (K1 (d_X10_loyalCount_L1 r 0 j1 a1_1)) = (K1 a1_1) := by rw [d_X10_loyalCount_L1]
      refine pm_pst (post' := pm_rt (some (.int (K1 a1_1))) nx M) (by rw [hDq2]) ?_
      exact hK1 a1_1
    | succ k1 ih1 =>
      intro j1 hj1 a1_1
      have hjn1 : j1 < n := by omega
      refine pm_iload_n B dX10_loyalCount_4 rfl ?_
      refine pm_aload_n B dX10_loyalCount_5 rfl ?_
      refine pm_get B dX10_loyalCount_6 fl_X10_36 (hS.1) rfl ?_
      refine pm_stk (st' := [.int (nI n), .int (nI j1)]) (by rw [show (r 0) = (nI n) from by rw [hn]]) ?_
      refine pm_icmp_ge (tgt := 38) B dX10_loyalCount_9 (by decide) (fun hq3 => absurd hq3 (fun e => absurd ((nI_leI (by first | omega | decide) (by first | omega | decide)).mp e) (by omega))) (fun hq3 => ?_)
      refine pm_iload_n B dX10_loyalCount_12 rfl ?_
      refine pm_aload_n B dX10_loyalCount_13 rfl ?_
      refine pm_get B dX10_loyalCount_14 fl_X10_11 (hS.1) rfl ?_
      refine pm_iload_n B dX10_loyalCount_17 rfl ?_
      refine pm_aald_n B dX10_loyalCount_18 (hS.2.1) rfl j1 (by first | assumption | omega) (by decide) (pm_mr_at (by first | assumption | omega)) ?_
      refine pm_cV (As := []) (mc2 := 0) (ms2 := 0) B rfl (hS.2.2.1 j1 (by first | assumption | omega)) rfl (c_X6_isLoyal (hS.2.2.1 j1 (by first | assumption | omega))) mt_X6_isLoyal sv_X10_54 dX10_loyalCount_19 rfl rfl rfl rfl rfl ?_
      refine pm_stk (st' := [.int (if (r (7 + 6 * j1 + 5)) = 0 ∧ (r (7 + 6 * j1 + 4)) = 0 then 1 else 0), .int a1_1]) rfl ?_
      refine pm_if_eq (tgt := 29) B dX10_loyalCount_22 (by decide) (fun hq4 => ?_) (fun hq4 => ?_)
      · have hq4p : ¬ ((r (7 + 6 * j1 + 5)) = 0 ∧ (r (7 + 6 * j1 + 4)) = 0) := (pm_if01 _ _).mp hq4
        refine pm_iconst (v := 0) B dX10_loyalCount_29 (by decide) ?_
        refine pm_iadd B dX10_loyalCount_30 ?_
        refine pm_istore_n B dX10_loyalCount_31 rfl rfl ?_
        refine pm_loc (L' := [some (.ref (z + 2)), some (.int (a1_1 + 0)), some (.int (nI j1))]) rfl ?_
        refine pm_iinc B dX10_loyalCount_32 rfl rfl rfl ?_
        refine pm_loc (L' := [some (.ref (z + 2)), some (.int (a1_1 + 0)), some (.int (nI (j1 + 1)))]) (by rw [show ((nI j1) : Int32) + Int32.ofInt 1 = (nI (j1 + 1)) from nI_1 _]; rfl) ?_
        refine pm_goto (tgt := 4) B dX10_loyalCount_35 (by decide) ?_
        have hDq5 : (K1 (d_X10_loyalCount_L1 r (k1 + 1) j1 a1_1)) = (K1 (d_X10_loyalCount_L1 r k1 (j1 + 1) (a1_1 + 0))) := by rw [d_X10_loyalCount_L1, if_neg hq4p]
        refine pm_pst (post' := pm_rt (some (.int (K1 (d_X10_loyalCount_L1 r k1 (j1 + 1) (a1_1 + 0))))) nx M) (by rw [hDq5]) ?_
        exact ih1 (j1 + 1) (by omega) (a1_1 + 0)
      · have hq4p : ((r (7 + 6 * j1 + 5)) = 0 ∧ (r (7 + 6 * j1 + 4)) = 0) := Decidable.not_not.mp (fun e => hq4 ((pm_if01 _ _).mpr e))
        refine pm_iconst (v := 1) B dX10_loyalCount_25 (by decide) ?_
        refine pm_goto (tgt := 30) B dX10_loyalCount_26 (by decide) ?_
        refine pm_iadd B dX10_loyalCount_30 ?_
        refine pm_istore_n B dX10_loyalCount_31 rfl rfl ?_
        refine pm_loc (L' := [some (.ref (z + 2)), some (.int (a1_1 + 1)), some (.int (nI j1))]) rfl ?_
        refine pm_iinc B dX10_loyalCount_32 rfl rfl rfl ?_
        refine pm_loc (L' := [some (.ref (z + 2)), some (.int (a1_1 + 1)), some (.int (nI (j1 + 1)))]) (by rw [show ((nI j1) : Int32) + Int32.ofInt 1 = (nI (j1 + 1)) from nI_1 _]; rfl) ?_
        refine pm_goto (tgt := 4) B dX10_loyalCount_35 (by decide) ?_
        have hDq6 : (K1 (d_X10_loyalCount_L1 r (k1 + 1) j1 a1_1)) = (K1 (d_X10_loyalCount_L1 r k1 (j1 + 1) (a1_1 + 1))) := by rw [d_X10_loyalCount_L1, if_pos hq4p]
        refine pm_pst (post' := pm_rt (some (.int (K1 (d_X10_loyalCount_L1 r k1 (j1 + 1) (a1_1 + 1))))) nx M) (by rw [hDq6]) ?_
        exact ih1 (j1 + 1) (by omega) (a1_1 + 1)
  refine pm_pst (post' := pm_rt (some (.int (d_X10_loyalCount_L1 r n 0 0))) nx M) (by rw [show (d_X10_loyalCount n r) = (d_X10_loyalCount_L1 r n 0 0) from by rw [d_X10_loyalCount]]) ?_
  refine loop1 (fun (a1_1 : Int32) => a1_1) ?_ n 0 (by omega) 0
  intro a1_1
  refine pm_pst (post' := pm_rt (some (.int a1_1)) nx M) rfl ?_
  refine pm_iload_n B dX10_loyalCount_38 rfl ?_
  have hDq7 : (a1_1) = a1_1 := rfl
  exact pm_ireturn B dX10_loyalCount_39 rfl (by first | rfl | (apply pm_nz; first | assumption | decide | exact pm_in01 _ _ _ | simp)) ⟨rfl, rfl, rfl⟩ rfl rfl
def d_X10_isAhead (i : Nat) (w : Nat) (n : Nat) (r : Nat → Int32) : Int32 := if (pm_max 0 ((r (7 + 6 * i + 3)) - (r (7 + 6 * i + 2)))) = (pm_max 0 ((r (7 + 6 * w + 3)) - (r (7 + 6 * w + 2)))) then (if (r (7 + 6 * i + 3)) = (r (7 + 6 * w + 3)) then (if (nI w) ≤ (nI i) then 0 else 1) else (if (r (7 + 6 * i + 3)) ≤ (r (7 + 6 * w + 3)) then 0 else 1)) else (if (pm_max 0 ((r (7 + 6 * i + 3)) - (r (7 + 6 * i + 2)))) ≤ (pm_max 0 ((r (7 + 6 * w + 3)) - (r (7 + 6 * w + 2)))) then 0 else 1)
set_option maxRecDepth 100000 in
set_option maxHeartbeats 8000000 in
theorem c_X10_isAheads {l : Launch} {z : Nat} {D : va_G} {kA : Nat → ClassId} {kE : Nat → Nat} {nx : Nat} {M : pm_M} {i : Nat} {w : Nat} {n : Nat} {r : Nat → Int32} (hS : pm_SA z kA 2 M r) (hn : r 0 = nI n) (h7 : n ≤ 7) (hi : i < 7) (hw : w < 7) : pm_C l z D kA kE yX10_isAhead cX10_isAhead 5 (some .boolean) 2 0 0 [.ref (z + 2), .int (nI i), .int (nI w)] nx M (pm_rt (some (.int (d_X10_isAhead i w n r))) nx M) := by
  refine pm_mk (own := RX10) (nm := "isAhead") mt_X10_isAhead rfl rfl rfl rfl fun X B => ?_
  refine pm_loc (L' := [some (.ref (z + 2)), some (.int (nI i)), some (.int (nI w)), none, none]) rfl ?_
  refine pm_aload_n B dX10_isAhead_0 rfl ?_
  refine pm_get B dX10_isAhead_1 fl_X10_11 (hS.1) rfl ?_
  refine pm_iload_n B dX10_isAhead_4 rfl ?_
  refine pm_aald_n B dX10_isAhead_5 (hS.2.1) rfl i (by first | assumption | omega) (by decide) (pm_mr_at (by first | assumption | omega)) ?_
  refine pm_astore_n B dX10_isAhead_6 rfl rfl ?_
  refine pm_loc (L' := [some (.ref (z + 2)), some (.int (nI i)), some (.int (nI w)), some (.ref (z + (4 + i))), none]) rfl ?_
  refine pm_aload_n B dX10_isAhead_7 rfl ?_
  refine pm_get B dX10_isAhead_8 fl_X10_11 (hS.1) rfl ?_
  refine pm_iload_n B dX10_isAhead_11 rfl ?_
  refine pm_aald_n B dX10_isAhead_12 (hS.2.1) rfl w (by first | assumption | omega) (by decide) (pm_mr_at (by first | assumption | omega)) ?_
  refine pm_astore B dX10_isAhead_13 rfl rfl ?_
  refine pm_loc (L' := [some (.ref (z + 2)), some (.int (nI i)), some (.int (nI w)), some (.ref (z + (4 + i))), some (.ref (z + (4 + w)))]) rfl ?_
  refine pm_aload_n B dX10_isAhead_15 rfl ?_
  refine pm_cV (As := []) (mc2 := 0) (ms2 := 0) B rfl (hS.2.2.1 i (by first | assumption | omega)) rfl (c_X6_unitsAbove (hS.2.2.1 i (by first | assumption | omega))) mt_X6_unitsAbove sv_X10_65 dX10_isAhead_16 rfl rfl rfl rfl rfl ?_
  refine pm_stk (st' := [.int (pm_max 0 ((r (7 + 6 * i + 3)) - (r (7 + 6 * i + 2))))]) rfl ?_
  refine pm_aload B dX10_isAhead_19 rfl ?_
  refine pm_cV (As := []) (mc2 := 0) (ms2 := 0) B rfl (hS.2.2.1 w (by first | assumption | omega)) rfl (c_X6_unitsAbove (hS.2.2.1 w (by first | assumption | omega))) mt_X6_unitsAbove sv_X10_65 dX10_isAhead_21 rfl rfl rfl rfl rfl ?_
  refine pm_stk (st' := [.int (pm_max 0 ((r (7 + 6 * w + 3)) - (r (7 + 6 * w + 2)))), .int (pm_max 0 ((r (7 + 6 * i + 3)) - (r (7 + 6 * i + 2))))]) rfl ?_
  refine pm_icmp_eq (tgt := 45) B dX10_isAhead_24 (by decide) (fun hq1 => ?_) (fun hq1 => ?_)
  · refine pm_aload_n B dX10_isAhead_45 rfl ?_
    refine pm_get B dX10_isAhead_46 fl_X10_69 (hS.2.2.1 i (by first | assumption | omega)) rfl ?_
    refine pm_aload B dX10_isAhead_49 rfl ?_
    refine pm_get B dX10_isAhead_51 fl_X10_69 (hS.2.2.1 w (by first | assumption | omega)) rfl ?_
    refine pm_icmp_eq (tgt := 75) B dX10_isAhead_54 (by decide) (fun hq2 => ?_) (fun hq2 => ?_)
    · refine pm_iload_n B dX10_isAhead_75 rfl ?_
      refine pm_iload_n B dX10_isAhead_76 rfl ?_
      refine pm_icmp_ge (tgt := 84) B dX10_isAhead_77 (by decide) (fun hq3 => ?_) (fun hq3 => ?_)
      · refine pm_iconst (v := 0) B dX10_isAhead_84 (by decide) ?_
        have hDq4 : (d_X10_isAhead i w n r) = 0 := by rw [d_X10_isAhead, if_pos hq1, if_pos hq2, if_pos hq3]
        exact pm_ireturn B dX10_isAhead_85 rfl (by first | rfl | (apply pm_nz; first | assumption | decide | exact pm_in01 _ _ _ | simp)) ⟨(by rw [hDq4]), rfl, rfl⟩ rfl rfl
      · refine pm_iconst (v := 1) B dX10_isAhead_80 (by decide) ?_
        refine pm_goto (tgt := 85) B dX10_isAhead_81 (by decide) ?_
        have hDq5 : (d_X10_isAhead i w n r) = 1 := by rw [d_X10_isAhead, if_pos hq1, if_pos hq2, if_neg hq3]
        exact pm_ireturn B dX10_isAhead_85 rfl (by first | rfl | (apply pm_nz; first | assumption | decide | exact pm_in01 _ _ _ | simp)) ⟨(by rw [hDq5]), rfl, rfl⟩ rfl rfl
    · refine pm_aload_n B dX10_isAhead_57 rfl ?_
      refine pm_get B dX10_isAhead_58 fl_X10_69 (hS.2.2.1 i (by first | assumption | omega)) rfl ?_
      refine pm_aload B dX10_isAhead_61 rfl ?_
      refine pm_get B dX10_isAhead_63 fl_X10_69 (hS.2.2.1 w (by first | assumption | omega)) rfl ?_
      refine pm_icmp_le (tgt := 73) B dX10_isAhead_66 (by decide) (fun hq6 => ?_) (fun hq6 => ?_)
      · refine pm_iconst (v := 0) B dX10_isAhead_73 (by decide) ?_
        have hDq7 : (d_X10_isAhead i w n r) = 0 := by rw [d_X10_isAhead, if_pos hq1, if_neg hq2, if_pos hq6]
        exact pm_ireturn B dX10_isAhead_74 rfl (by first | rfl | (apply pm_nz; first | assumption | decide | exact pm_in01 _ _ _ | simp)) ⟨(by rw [hDq7]), rfl, rfl⟩ rfl rfl
      · refine pm_iconst (v := 1) B dX10_isAhead_69 (by decide) ?_
        refine pm_goto (tgt := 74) B dX10_isAhead_70 (by decide) ?_
        have hDq8 : (d_X10_isAhead i w n r) = 1 := by rw [d_X10_isAhead, if_pos hq1, if_neg hq2, if_neg hq6]
        exact pm_ireturn B dX10_isAhead_74 rfl (by first | rfl | (apply pm_nz; first | assumption | decide | exact pm_in01 _ _ _ | simp)) ⟨(by rw [hDq8]), rfl, rfl⟩ rfl rfl
  · refine pm_aload_n B dX10_isAhead_27 rfl ?_
    refine pm_cV (As := []) (mc2 := 0) (ms2 := 0) B rfl (hS.2.2.1 i (by first | assumption | omega)) rfl (c_X6_unitsAbove (hS.2.2.1 i (by first | assumption | omega))) mt_X6_unitsAbove sv_X10_65 dX10_isAhead_28 rfl rfl rfl rfl rfl ?_
    refine pm_stk (st' := [.int (pm_max 0 ((r (7 + 6 * i + 3)) - (r (7 + 6 * i + 2))))]) rfl ?_
    refine pm_aload B dX10_isAhead_31 rfl ?_
    refine pm_cV (As := []) (mc2 := 0) (ms2 := 0) B rfl (hS.2.2.1 w (by first | assumption | omega)) rfl (c_X6_unitsAbove (hS.2.2.1 w (by first | assumption | omega))) mt_X6_unitsAbove sv_X10_65 dX10_isAhead_33 rfl rfl rfl rfl rfl ?_
    refine pm_stk (st' := [.int (pm_max 0 ((r (7 + 6 * w + 3)) - (r (7 + 6 * w + 2)))), .int (pm_max 0 ((r (7 + 6 * i + 3)) - (r (7 + 6 * i + 2))))]) rfl ?_
    refine pm_icmp_le (tgt := 43) B dX10_isAhead_36 (by decide) (fun hq9 => ?_) (fun hq9 => ?_)
    · refine pm_iconst (v := 0) B dX10_isAhead_43 (by decide) ?_
      have hDq10 : (d_X10_isAhead i w n r) = 0 := by rw [d_X10_isAhead, if_neg hq1, if_pos hq9]
      exact pm_ireturn B dX10_isAhead_44 rfl (by first | rfl | (apply pm_nz; first | assumption | decide | exact pm_in01 _ _ _ | simp)) ⟨(by rw [hDq10]), rfl, rfl⟩ rfl rfl
    · refine pm_iconst (v := 1) B dX10_isAhead_39 (by decide) ?_
      refine pm_goto (tgt := 44) B dX10_isAhead_40 (by decide) ?_
      have hDq11 : (d_X10_isAhead i w n r) = 1 := by rw [d_X10_isAhead, if_neg hq1, if_neg hq9]
      exact pm_ireturn B dX10_isAhead_44 rfl (by first | rfl | (apply pm_nz; first | assumption | decide | exact pm_in01 _ _ _ | simp)) ⟨(by rw [hDq11]), rfl, rfl⟩ rfl rfl
def d_X10_membersAheadOf_L1 (i : Nat) (n : Nat) (r : Nat → Int32) : Nat → Nat → Int32 → Int32
  | 0, _, a2_1 => a2_1
  | k1 + 1, j1, a2_1 => if (d_X10_isAhead j1 i n r) = 0 then (d_X10_membersAheadOf_L1 i n r k1 (j1 + 1) (a2_1 + 0)) else (d_X10_membersAheadOf_L1 i n r k1 (j1 + 1) (a2_1 + 1))
def d_X10_membersAheadOf (i : Nat) (n : Nat) (r : Nat → Int32) : Int32 := (d_X10_membersAheadOf_L1 i n r n 0 0)
set_option maxRecDepth 100000 in
set_option maxHeartbeats 8000000 in
theorem c_X10_membersAheadOfs {l : Launch} {z : Nat} {D : va_G} {kA : Nat → ClassId} {kE : Nat → Nat} {nx : Nat} {M : pm_M} {i : Nat} {n : Nat} {r : Nat → Int32} (hS : pm_SA z kA 2 M r) (hn : r 0 = nI n) (h7 : n ≤ 7) (hi : i < 7) : pm_C l z D kA kE yX10_membersAheadOf cX10_membersAheadOf 4 (some .int) 3 0 0 [.ref (z + 2), .int (nI i)] nx M (pm_rt (some (.int (d_X10_membersAheadOf i n r))) nx M) := by
  refine pm_mk (own := RX10) (nm := "membersAheadOf") mt_X10_membersAheadOf rfl rfl rfl rfl fun X B => ?_
  refine pm_loc (L' := [some (.ref (z + 2)), some (.int (nI i)), none, none]) rfl ?_
  refine pm_iconst (v := 0) B dX10_membersAheadOf_0 (by decide) ?_
  refine pm_istore_n B dX10_membersAheadOf_1 rfl rfl ?_
  refine pm_loc (L' := [some (.ref (z + 2)), some (.int (nI i)), some (.int 0), none]) rfl ?_
  refine pm_iconst (v := 0) B dX10_membersAheadOf_2 (by decide) ?_
  refine pm_istore_n B dX10_membersAheadOf_3 rfl rfl ?_
  refine pm_loc (L' := [some (.ref (z + 2)), some (.int (nI i)), some (.int 0), some (.int 0)]) rfl ?_
  refine pm_loc (L' := [some (.ref (z + 2)), some (.int (nI i)), some (.int 0), some (.int (nI 0))]) rfl ?_
  have loop1 : ∀ (K1 : (Int32 → Int32)), (∀ (a2_1 : Int32), pm_G l z D X 0 0 (pm_Q z D (pm_rt (some (.int (K1 a2_1))) nx M) 0 0 X) nx M 35 [none, none, some (.int a2_1), none] []) → ∀ (k1 j1 : Nat), j1 + k1 = n → ∀ (a2_1 : Int32), pm_G l z D X 0 0 (pm_Q z D (pm_rt (some (.int (K1 (d_X10_membersAheadOf_L1 i n r k1 j1 a2_1)))) nx M) 0 0 X) nx M 4 [some (.ref (z + 2)), some (.int (nI i)), some (.int a2_1), some (.int (nI j1))] [] := by
    intro K1 hK1 k1
    induction k1 with
    | zero =>
      intro j1 hj1 a2_1
      have hjn1 : j1 = n := by omega
      refine pm_iload_n B dX10_membersAheadOf_4 rfl ?_
      refine pm_aload_n B dX10_membersAheadOf_5 rfl ?_
      refine pm_get B dX10_membersAheadOf_6 fl_X10_36 (hS.1) rfl ?_
      refine pm_stk (st' := [.int (nI n), .int (nI j1)]) (by rw [show (r 0) = (nI n) from by rw [hn]]) ?_
      refine pm_icmp_ge (tgt := 35) B dX10_membersAheadOf_9 (by decide) (fun hq1 => ?_) (fun hq1 => absurd ((nI_leI (by first | omega | decide) (by first | omega | decide)).mpr (by omega)) hq1)
      refine pm_wk (L' := [none, none, some (.int a2_1), none]) ⟨rfl, trivial⟩ ?_
      have hDq2 : (K1 (d_X10_membersAheadOf_L1 i n r 0 j1 a2_1)) = (K1 a2_1) := by rw [d_X10_membersAheadOf_L1]
      refine pm_pst (post' := pm_rt (some (.int (K1 a2_1))) nx M) (by rw [hDq2]) ?_
      exact hK1 a2_1
    | succ k1 ih1 =>
      intro j1 hj1 a2_1
      have hjn1 : j1 < n := by omega
      refine pm_iload_n B dX10_membersAheadOf_4 rfl ?_
      refine pm_aload_n B dX10_membersAheadOf_5 rfl ?_
      refine pm_get B dX10_membersAheadOf_6 fl_X10_36 (hS.1) rfl ?_
      refine pm_stk (st' := [.int (nI n), .int (nI j1)]) (by rw [show (r 0) = (nI n) from by rw [hn]]) ?_
      refine pm_icmp_ge (tgt := 35) B dX10_membersAheadOf_9 (by decide) (fun hq3 => absurd hq3 (fun e => absurd ((nI_leI (by first | omega | decide) (by first | omega | decide)).mp e) (by omega))) (fun hq3 => ?_)
      refine pm_iload_n B dX10_membersAheadOf_12 rfl ?_
      refine pm_aload_n B dX10_membersAheadOf_13 rfl ?_
      refine pm_iload_n B dX10_membersAheadOf_14 rfl ?_
      refine pm_iload_n B dX10_membersAheadOf_15 rfl ?_
      refine pm_cV (As := [.int (nI j1), .int (nI i)]) (mc2 := 0) (ms2 := 0) B rfl (hS.1) rfl (c_X10_isAheads (i := j1) (w := i) (n := n) (r := r) hS hn (by first | assumption | omega) (by first | assumption | omega) (by first | assumption | omega)) mt_X10_isAhead sv_X10_61 dX10_membersAheadOf_16 rfl rfl rfl rfl rfl ?_
      refine pm_stk (st' := [.int (d_X10_isAhead j1 i n r), .int a2_1]) rfl ?_
      refine pm_if_eq (tgt := 26) B dX10_membersAheadOf_19 (by decide) (fun hq4 => ?_) (fun hq4 => ?_)
      · refine pm_iconst (v := 0) B dX10_membersAheadOf_26 (by decide) ?_
        refine pm_iadd B dX10_membersAheadOf_27 ?_
        refine pm_istore_n B dX10_membersAheadOf_28 rfl rfl ?_
        refine pm_loc (L' := [some (.ref (z + 2)), some (.int (nI i)), some (.int (a2_1 + 0)), some (.int (nI j1))]) rfl ?_
        refine pm_iinc B dX10_membersAheadOf_29 rfl rfl rfl ?_
        refine pm_loc (L' := [some (.ref (z + 2)), some (.int (nI i)), some (.int (a2_1 + 0)), some (.int (nI (j1 + 1)))]) (by rw [show ((nI j1) : Int32) + Int32.ofInt 1 = (nI (j1 + 1)) from nI_1 _]; rfl) ?_
        refine pm_goto (tgt := 4) B dX10_membersAheadOf_32 (by decide) ?_
        have hDq5 : (K1 (d_X10_membersAheadOf_L1 i n r (k1 + 1) j1 a2_1)) = (K1 (d_X10_membersAheadOf_L1 i n r k1 (j1 + 1) (a2_1 + 0))) := by rw [d_X10_membersAheadOf_L1, if_pos hq4]
        refine pm_pst (post' := pm_rt (some (.int (K1 (d_X10_membersAheadOf_L1 i n r k1 (j1 + 1) (a2_1 + 0))))) nx M) (by rw [hDq5]) ?_
        exact ih1 (j1 + 1) (by omega) (a2_1 + 0)
      · refine pm_iconst (v := 1) B dX10_membersAheadOf_22 (by decide) ?_
        refine pm_goto (tgt := 27) B dX10_membersAheadOf_23 (by decide) ?_
        refine pm_iadd B dX10_membersAheadOf_27 ?_
        refine pm_istore_n B dX10_membersAheadOf_28 rfl rfl ?_
        refine pm_loc (L' := [some (.ref (z + 2)), some (.int (nI i)), some (.int (a2_1 + 1)), some (.int (nI j1))]) rfl ?_
        refine pm_iinc B dX10_membersAheadOf_29 rfl rfl rfl ?_
        refine pm_loc (L' := [some (.ref (z + 2)), some (.int (nI i)), some (.int (a2_1 + 1)), some (.int (nI (j1 + 1)))]) (by rw [show ((nI j1) : Int32) + Int32.ofInt 1 = (nI (j1 + 1)) from nI_1 _]; rfl) ?_
        refine pm_goto (tgt := 4) B dX10_membersAheadOf_32 (by decide) ?_
        have hDq6 : (K1 (d_X10_membersAheadOf_L1 i n r (k1 + 1) j1 a2_1)) = (K1 (d_X10_membersAheadOf_L1 i n r k1 (j1 + 1) (a2_1 + 1))) := by rw [d_X10_membersAheadOf_L1, if_neg hq4]
        refine pm_pst (post' := pm_rt (some (.int (K1 (d_X10_membersAheadOf_L1 i n r k1 (j1 + 1) (a2_1 + 1))))) nx M) (by rw [hDq6]) ?_
        exact ih1 (j1 + 1) (by omega) (a2_1 + 1)
  refine pm_pst (post' := pm_rt (some (.int (d_X10_membersAheadOf_L1 i n r n 0 0))) nx M) (by rw [show (d_X10_membersAheadOf i n r) = (d_X10_membersAheadOf_L1 i n r n 0 0) from by rw [d_X10_membersAheadOf]]) ?_
  refine loop1 (fun (a2_1 : Int32) => a2_1) ?_ n 0 (by omega) 0
  intro a2_1
  refine pm_pst (post' := pm_rt (some (.int a2_1)) nx M) rfl ?_
  refine pm_iload_n B dX10_membersAheadOf_35 rfl ?_
  have hDq7 : (a2_1) = a2_1 := rfl
  exact pm_ireturn B dX10_membersAheadOf_36 rfl (by first | rfl | (apply pm_nz; first | assumption | decide | exact pm_in01 _ _ _ | simp)) ⟨rfl, rfl, rfl⟩ rfl rfl
def d_X11_votesOf_L1 (x : Int32) (r : Nat → Int32) : Nat → Nat → Int32 → Int32
  | 0, _, a2_1 => a2_1
  | k1 + 1, j1, a2_1 => if ((x >>> ((nI j1) &&& 31)) &&& 1) = 1 then (d_X11_votesOf_L1 x r k1 (j1 + 1) (a2_1 + (r (7 + 6 * j1 + 1)))) else (d_X11_votesOf_L1 x r k1 (j1 + 1) (a2_1 + 0))
def d_X11_votesOf (x : Int32) (n : Nat) (r : Nat → Int32) : Int32 := (d_X11_votesOf_L1 x r n 0 0)
set_option maxRecDepth 100000 in
set_option maxHeartbeats 8000000 in
theorem c_X11_votesOfs {l : Launch} {z : Nat} {D : va_G} {kA : Nat → ClassId} {kE : Nat → Nat} {nx : Nat} {M : pm_M} {x : Int32} {n : Nat} {r : Nat → Int32} (hS : pm_SA z kA 2 M r) (hn : r 0 = nI n) (h7 : n ≤ 7) : pm_C l z D kA kE yX11_votesOf cX11_votesOf 4 (some .int) 0 0 0 [.ref (z + 2), .int x] nx M (pm_rt (some (.int (d_X11_votesOf x n r))) nx M) := by
  refine pm_mk (own := RX11) (nm := "votesOf") mt_X11_votesOf rfl rfl rfl rfl fun X B => ?_
  refine pm_loc (L' := [some (.ref (z + 2)), some (.int x), none, none]) rfl ?_
  refine pm_iconst (v := 0) B dX11_votesOf_0 (by decide) ?_
  refine pm_istore_n B dX11_votesOf_1 rfl rfl ?_
  refine pm_loc (L' := [some (.ref (z + 2)), some (.int x), some (.int 0), none]) rfl ?_
  refine pm_iconst (v := 0) B dX11_votesOf_2 (by decide) ?_
  refine pm_istore_n B dX11_votesOf_3 rfl rfl ?_
  refine pm_loc (L' := [some (.ref (z + 2)), some (.int x), some (.int 0), some (.int 0)]) rfl ?_
  refine pm_loc (L' := [some (.ref (z + 2)), some (.int x), some (.int 0), some (.int (nI 0))]) rfl ?_
  have loop1 : ∀ (K1 : (Int32 → Int32)), (∀ (a2_1 : Int32), pm_G l z D X 0 0 (pm_Q z D (pm_rt (some (.int (K1 a2_1))) nx M) 0 0 X) nx M 43 [none, none, some (.int a2_1), none] []) → ∀ (k1 j1 : Nat), j1 + k1 = n → ∀ (a2_1 : Int32), pm_G l z D X 0 0 (pm_Q z D (pm_rt (some (.int (K1 (d_X11_votesOf_L1 x r k1 j1 a2_1)))) nx M) 0 0 X) nx M 4 [some (.ref (z + 2)), some (.int x), some (.int a2_1), some (.int (nI j1))] [] := by
    intro K1 hK1 k1
    induction k1 with
    | zero =>
      intro j1 hj1 a2_1
      have hjn1 : j1 = n := by omega
      refine pm_iload_n B dX11_votesOf_4 rfl ?_
      refine pm_aload_n B dX11_votesOf_5 rfl ?_
      refine pm_get B dX11_votesOf_6 fl_X11_21 (hS.1) rfl ?_
      refine pm_stk (st' := [.int (nI n), .int (nI j1)]) (by rw [show (r 0) = (nI n) from by rw [hn]]) ?_
      refine pm_icmp_ge (tgt := 43) B dX11_votesOf_9 (by decide) (fun hq1 => ?_) (fun hq1 => absurd ((nI_leI (by first | omega | decide) (by first | omega | decide)).mpr (by omega)) hq1)
      refine pm_wk (L' := [none, none, some (.int a2_1), none]) ⟨rfl, trivial⟩ ?_
      have hDq2 : (K1 (d_X11_votesOf_L1 x r 0 j1 a2_1)) = (K1 a2_1) := by rw [d_X11_votesOf_L1]
      refine pm_pst (post' := pm_rt (some (.int (K1 a2_1))) nx M) (by rw [hDq2]) ?_
      exact hK1 a2_1
    | succ k1 ih1 =>
      intro j1 hj1 a2_1
      have hjn1 : j1 < n := by omega
      refine pm_iload_n B dX11_votesOf_4 rfl ?_
      refine pm_aload_n B dX11_votesOf_5 rfl ?_
      refine pm_get B dX11_votesOf_6 fl_X11_21 (hS.1) rfl ?_
      refine pm_stk (st' := [.int (nI n), .int (nI j1)]) (by rw [show (r 0) = (nI n) from by rw [hn]]) ?_
      refine pm_icmp_ge (tgt := 43) B dX11_votesOf_9 (by decide) (fun hq3 => absurd hq3 (fun e => absurd ((nI_leI (by first | omega | decide) (by first | omega | decide)).mp e) (by omega))) (fun hq3 => ?_)
      refine pm_iload_n B dX11_votesOf_12 rfl ?_
      refine pm_iload_n B dX11_votesOf_13 rfl ?_
      refine pm_iload_n B dX11_votesOf_14 rfl ?_
      refine pm_ishr B dX11_votesOf_15 ?_
      refine pm_iconst (v := 1) B dX11_votesOf_16 (by decide) ?_
      refine pm_iand B dX11_votesOf_17 ?_
      refine pm_iconst (v := 1) B dX11_votesOf_18 (by decide) ?_
      refine pm_icmp_ne (tgt := 34) B dX11_votesOf_19 (by decide) (fun hq4 => ?_) (fun hq4 => ?_)
      · refine pm_iconst (v := 0) B dX11_votesOf_34 (by decide) ?_
        refine pm_iadd B dX11_votesOf_35 ?_
        refine pm_istore_n B dX11_votesOf_36 rfl rfl ?_
        refine pm_loc (L' := [some (.ref (z + 2)), some (.int x), some (.int (a2_1 + 0)), some (.int (nI j1))]) rfl ?_
        refine pm_iinc B dX11_votesOf_37 rfl rfl rfl ?_
        refine pm_loc (L' := [some (.ref (z + 2)), some (.int x), some (.int (a2_1 + 0)), some (.int (nI (j1 + 1)))]) (by rw [show ((nI j1) : Int32) + Int32.ofInt 1 = (nI (j1 + 1)) from nI_1 _]; rfl) ?_
        refine pm_goto (tgt := 4) B dX11_votesOf_40 (by decide) ?_
        have hDq5 : (K1 (d_X11_votesOf_L1 x r (k1 + 1) j1 a2_1)) = (K1 (d_X11_votesOf_L1 x r k1 (j1 + 1) (a2_1 + 0))) := by rw [d_X11_votesOf_L1, if_neg hq4]
        refine pm_pst (post' := pm_rt (some (.int (K1 (d_X11_votesOf_L1 x r k1 (j1 + 1) (a2_1 + 0))))) nx M) (by rw [hDq5]) ?_
        exact ih1 (j1 + 1) (by omega) (a2_1 + 0)
      · refine pm_aload_n B dX11_votesOf_22 rfl ?_
        refine pm_get B dX11_votesOf_23 fl_X11_50 (hS.1) rfl ?_
        refine pm_iload_n B dX11_votesOf_26 rfl ?_
        refine pm_aald_n B dX11_votesOf_27 (hS.2.1) rfl j1 (by first | assumption | omega) (by decide) (pm_mr_at (by first | assumption | omega)) ?_
        refine pm_get B dX11_votesOf_28 fl_X11_54 (hS.2.2.1 j1 (by first | assumption | omega)) rfl ?_
        refine pm_goto (tgt := 35) B dX11_votesOf_31 (by decide) ?_
        refine pm_iadd B dX11_votesOf_35 ?_
        refine pm_istore_n B dX11_votesOf_36 rfl rfl ?_
        refine pm_loc (L' := [some (.ref (z + 2)), some (.int x), some (.int (a2_1 + (r (7 + 6 * j1 + 1)))), some (.int (nI j1))]) rfl ?_
        refine pm_iinc B dX11_votesOf_37 rfl rfl rfl ?_
        refine pm_loc (L' := [some (.ref (z + 2)), some (.int x), some (.int (a2_1 + (r (7 + 6 * j1 + 1)))), some (.int (nI (j1 + 1)))]) (by rw [show ((nI j1) : Int32) + Int32.ofInt 1 = (nI (j1 + 1)) from nI_1 _]; rfl) ?_
        refine pm_goto (tgt := 4) B dX11_votesOf_40 (by decide) ?_
        have hDq6 : (K1 (d_X11_votesOf_L1 x r (k1 + 1) j1 a2_1)) = (K1 (d_X11_votesOf_L1 x r k1 (j1 + 1) (a2_1 + (r (7 + 6 * j1 + 1))))) := by rw [d_X11_votesOf_L1, if_pos hq4]
        refine pm_pst (post' := pm_rt (some (.int (K1 (d_X11_votesOf_L1 x r k1 (j1 + 1) (a2_1 + (r (7 + 6 * j1 + 1))))))) nx M) (by rw [hDq6]) ?_
        exact ih1 (j1 + 1) (by omega) (a2_1 + (r (7 + 6 * j1 + 1)))
  refine pm_pst (post' := pm_rt (some (.int (d_X11_votesOf_L1 x r n 0 0))) nx M) (by rw [show (d_X11_votesOf x n r) = (d_X11_votesOf_L1 x r n 0 0) from by rw [d_X11_votesOf]]) ?_
  refine loop1 (fun (a2_1 : Int32) => a2_1) ?_ n 0 (by omega) 0
  intro a2_1
  refine pm_pst (post' := pm_rt (some (.int a2_1)) nx M) rfl ?_
  refine pm_iload_n B dX11_votesOf_43 rfl ?_
  have hDq7 : (a2_1) = a2_1 := rfl
  exact pm_ireturn B dX11_votesOf_44 rfl (by first | rfl | (apply pm_nz; first | assumption | decide | exact pm_in01 _ _ _ | simp)) ⟨rfl, rfl, rfl⟩ rfl rfl
def d_X11_isSwing (x : Int32) (i : Nat) (n : Nat) (r : Nat → Int32) : Int32 := if (r 3) ≤ x then 0 else (if (x + (r (7 + 6 * i + 1))) < (r 3) then 0 else 1)
set_option maxRecDepth 100000 in
set_option maxHeartbeats 8000000 in
theorem c_X11_isSwings {l : Launch} {z : Nat} {D : va_G} {kA : Nat → ClassId} {kE : Nat → Nat} {nx : Nat} {M : pm_M} {x : Int32} {i : Nat} {n : Nat} {r : Nat → Int32} (hS : pm_SA z kA 2 M r) (hn : r 0 = nI n) (h7 : n ≤ 7) (hi : i < 7) : pm_C l z D kA kE yX11_isSwing cX11_isSwing 3 (some .boolean) 0 0 0 [.ref (z + 2), .int x, .int (nI i)] nx M (pm_rt (some (.int (d_X11_isSwing x i n r))) nx M) := by
  refine pm_mk (own := RX11) (nm := "isSwing") mt_X11_isSwing rfl rfl rfl rfl fun X B => ?_
  refine pm_loc (L' := [some (.ref (z + 2)), some (.int x), some (.int (nI i))]) rfl ?_
  refine pm_iload_n B dX11_isSwing_0 rfl ?_
  refine pm_aload_n B dX11_isSwing_1 rfl ?_
  refine pm_get B dX11_isSwing_2 fl_X11_29 (hS.1) rfl ?_
  refine pm_icmp_ge (tgt := 30) B dX11_isSwing_5 (by decide) (fun hq1 => ?_) (fun hq1 => ?_)
  · refine pm_iconst (v := 0) B dX11_isSwing_30 (by decide) ?_
    have hDq2 : (d_X11_isSwing x i n r) = 0 := by rw [d_X11_isSwing, if_pos hq1]
    exact pm_ireturn B dX11_isSwing_31 rfl (by first | rfl | (apply pm_nz; first | assumption | decide | exact pm_in01 _ _ _ | simp)) ⟨(by rw [hDq2]), rfl, rfl⟩ rfl rfl
  · refine pm_iload_n B dX11_isSwing_8 rfl ?_
    refine pm_aload_n B dX11_isSwing_9 rfl ?_
    refine pm_get B dX11_isSwing_10 fl_X11_50 (hS.1) rfl ?_
    refine pm_iload_n B dX11_isSwing_13 rfl ?_
    refine pm_aald_n B dX11_isSwing_14 (hS.2.1) rfl i (by first | assumption | omega) (by decide) (pm_mr_at (by first | assumption | omega)) ?_
    refine pm_get B dX11_isSwing_15 fl_X11_54 (hS.2.2.1 i (by first | assumption | omega)) rfl ?_
    refine pm_iadd B dX11_isSwing_18 ?_
    refine pm_aload_n B dX11_isSwing_19 rfl ?_
    refine pm_get B dX11_isSwing_20 fl_X11_29 (hS.1) rfl ?_
    refine pm_icmp_lt (tgt := 30) B dX11_isSwing_23 (by decide) (fun hq3 => ?_) (fun hq3 => ?_)
    · refine pm_iconst (v := 0) B dX11_isSwing_30 (by decide) ?_
      have hDq4 : (d_X11_isSwing x i n r) = 0 := by rw [d_X11_isSwing, if_neg hq1, if_pos hq3]
      exact pm_ireturn B dX11_isSwing_31 rfl (by first | rfl | (apply pm_nz; first | assumption | decide | exact pm_in01 _ _ _ | simp)) ⟨(by rw [hDq4]), rfl, rfl⟩ rfl rfl
    · refine pm_iconst (v := 1) B dX11_isSwing_26 (by decide) ?_
      refine pm_goto (tgt := 31) B dX11_isSwing_27 (by decide) ?_
      have hDq5 : (d_X11_isSwing x i n r) = 1 := by rw [d_X11_isSwing, if_neg hq1, if_neg hq3]
      exact pm_ireturn B dX11_isSwing_31 rfl (by first | rfl | (apply pm_nz; first | assumption | decide | exact pm_in01 _ _ _ | simp)) ⟨(by rw [hDq5]), rfl, rfl⟩ rfl rfl
def d_X11_winners_L1 (n : Nat) (r : Nat → Int32) : Nat → Nat → Int32 → Int32
  | 0, _, a3_1 => a3_1
  | k1 + 1, j1, a3_1 => if ((nI j1) &&& ((d_X10_activeSet n r) ^^^ (-1))) = 0 then (if (d_X11_votesOf (nI j1) n r) < (r 3) then (d_X11_winners_L1 n r k1 (j1 + 1) a3_1) else (d_X11_winners_L1 n r k1 (j1 + 1) (a3_1 + Int32.ofInt 1))) else (d_X11_winners_L1 n r k1 (j1 + 1) a3_1)
def d_X11_winners (n : Nat) (r : Nat → Int32) : Int32 := (d_X11_winners_L1 n r (2 ^ n) 0 0)
set_option maxRecDepth 100000 in
set_option maxHeartbeats 8000000 in
theorem c_X11_winnerss {l : Launch} {z : Nat} {D : va_G} {kA : Nat → ClassId} {kE : Nat → Nat} {nx : Nat} {M : pm_M} {n : Nat} {r : Nat → Int32} (hS : pm_SA z kA 2 M r) (hn : r 0 = nI n) (h7 : n ≤ 7) : pm_C l z D kA kE yX11_winners cX11_winners 5 (some .int) 2 0 0 [.ref (z + 129), .ref (z + 2)] nx M (pm_rt (some (.int (d_X11_winners n r))) nx M) := by
  refine pm_mk (own := RX11) (nm := "winners") mt_X11_winners rfl rfl rfl rfl fun X B => ?_
  refine pm_loc (L' := [some (.ref (z + 129)), some (.ref (z + 2)), none, none, none]) rfl ?_
  have h128 := pm_p7 h7
  refine pm_aload_n B dX11_winners_0 rfl ?_
  refine pm_cV (As := []) (mc2 := 0) (ms2 := 0) B rfl (hS.1) rfl (c_X10_activeSets (n := n) (r := r) hS hn (by first | assumption | omega)) mt_X10_activeSet sv_X11_15 dX11_winners_1 rfl rfl rfl rfl rfl ?_
  refine pm_stk (st' := [.int (d_X10_activeSet n r)]) rfl ?_
  refine pm_istore_n B dX11_winners_4 rfl rfl ?_
  refine pm_loc (L' := [some (.ref (z + 129)), some (.ref (z + 2)), some (.int (d_X10_activeSet n r)), none, none]) rfl ?_
  refine pm_iconst (v := 0) B dX11_winners_5 (by decide) ?_
  refine pm_istore_n B dX11_winners_6 rfl rfl ?_
  refine pm_loc (L' := [some (.ref (z + 129)), some (.ref (z + 2)), some (.int (d_X10_activeSet n r)), some (.int 0), none]) rfl ?_
  refine pm_iconst (v := 0) B dX11_winners_7 (by decide) ?_
  refine pm_istore B dX11_winners_8 rfl rfl ?_
  refine pm_loc (L' := [some (.ref (z + 129)), some (.ref (z + 2)), some (.int (d_X10_activeSet n r)), some (.int 0), some (.int 0)]) rfl ?_
  refine pm_wk (L' := [none, some (.ref (z + 2)), some (.int (d_X10_activeSet n r)), some (.int 0), some (.int 0)]) ⟨rfl, ⟨rfl, ⟨rfl, ⟨rfl, trivial⟩⟩⟩⟩ ?_
  refine pm_loc (L' := [none, some (.ref (z + 2)), some (.int (d_X10_activeSet n r)), some (.int 0), some (.int (nI 0))]) rfl ?_
  have loop1 : ∀ (K1 : (Int32 → Int32)), (∀ (a3_1 : Int32), pm_G l z D X 0 0 (pm_Q z D (pm_rt (some (.int (K1 a3_1))) nx M) 0 0 X) nx M 52 [none, none, none, some (.int a3_1), none] []) → ∀ (k1 j1 : Nat), j1 + k1 = (2 ^ n) → ∀ (a3_1 : Int32), pm_G l z D X 0 0 (pm_Q z D (pm_rt (some (.int (K1 (d_X11_winners_L1 n r k1 j1 a3_1)))) nx M) 0 0 X) nx M 10 [none, some (.ref (z + 2)), some (.int (d_X10_activeSet n r)), some (.int a3_1), some (.int (nI j1))] [] := by
    intro K1 hK1 k1
    induction k1 with
    | zero =>
      intro j1 hj1 a3_1
      have hjn1 : j1 = (2 ^ n) := by omega
      refine pm_iload B dX11_winners_10 rfl ?_
      refine pm_iconst (v := 1) B dX11_winners_12 (by decide) ?_
      refine pm_aload_n B dX11_winners_13 rfl ?_
      refine pm_get B dX11_winners_14 fl_X11_21 (hS.1) rfl ?_
      refine pm_stk (st' := [.int (nI n), .int 1, .int (nI j1)]) (by rw [show (r 0) = (nI n) from by rw [hn]]) ?_
      refine pm_ishl B dX11_winners_17 ?_
      refine pm_stk (st' := [.int (nI (2 ^ n)), .int (nI j1)]) (by rw [show (1 <<< ((nI n) &&& 31)) = (nI (2 ^ n)) from pm_sh1 n h7]) ?_
      refine pm_icmp_ge (tgt := 52) B dX11_winners_18 (by decide) (fun hq1 => ?_) (fun hq1 => absurd ((nI_leI (by first | omega | decide) (by first | omega | decide)).mpr (by omega)) hq1)
      refine pm_wk (L' := [none, none, none, some (.int a3_1), none]) ⟨rfl, trivial⟩ ?_
      have hDq2 : (K1 (d_X11_winners_L1 n r 0 j1 a3_1)) = (K1 a3_1) := by rw [d_X11_winners_L1]
      refine pm_pst (post' := pm_rt (some (.int (K1 a3_1))) nx M) (by rw [hDq2]) ?_
      exact hK1 a3_1
    | succ k1 ih1 =>
      intro j1 hj1 a3_1
      have hjn1 : j1 < (2 ^ n) := by omega
      refine pm_iload B dX11_winners_10 rfl ?_
      refine pm_iconst (v := 1) B dX11_winners_12 (by decide) ?_
      refine pm_aload_n B dX11_winners_13 rfl ?_
      refine pm_get B dX11_winners_14 fl_X11_21 (hS.1) rfl ?_
      refine pm_stk (st' := [.int (nI n), .int 1, .int (nI j1)]) (by rw [show (r 0) = (nI n) from by rw [hn]]) ?_
      refine pm_ishl B dX11_winners_17 ?_
      refine pm_stk (st' := [.int (nI (2 ^ n)), .int (nI j1)]) (by rw [show (1 <<< ((nI n) &&& 31)) = (nI (2 ^ n)) from pm_sh1 n h7]) ?_
      refine pm_icmp_ge (tgt := 52) B dX11_winners_18 (by decide) (fun hq3 => absurd hq3 (fun e => absurd ((nI_leI (by first | omega | decide) (by first | omega | decide)).mp e) (by omega))) (fun hq3 => ?_)
      refine pm_iload B dX11_winners_21 rfl ?_
      refine pm_iload_n B dX11_winners_23 rfl ?_
      refine pm_iconst (v := (-1)) B dX11_winners_24 (by decide) ?_
      refine pm_ixor B dX11_winners_25 ?_
      refine pm_iand B dX11_winners_26 ?_
      refine pm_if_ne (tgt := 46) B dX11_winners_27 (by decide) (fun hq4 => ?_) (fun hq4 => ?_)
      · refine pm_iinc B dX11_winners_46 rfl rfl rfl ?_
        refine pm_loc (L' := [none, some (.ref (z + 2)), some (.int (d_X10_activeSet n r)), some (.int a3_1), some (.int (nI (j1 + 1)))]) (by rw [show ((nI j1) : Int32) + Int32.ofInt 1 = (nI (j1 + 1)) from nI_1 _]; rfl) ?_
        refine pm_goto (tgt := 10) B dX11_winners_49 (by decide) ?_
        have hDq5 : (K1 (d_X11_winners_L1 n r (k1 + 1) j1 a3_1)) = (K1 (d_X11_winners_L1 n r k1 (j1 + 1) a3_1)) := by rw [d_X11_winners_L1, if_neg hq4]
        refine pm_pst (post' := pm_rt (some (.int (K1 (d_X11_winners_L1 n r k1 (j1 + 1) a3_1)))) nx M) (by rw [hDq5]) ?_
        exact ih1 (j1 + 1) (by omega) a3_1
      · refine pm_aload_n B dX11_winners_30 rfl ?_
        refine pm_iload B dX11_winners_31 rfl ?_
        refine pm_cS (As := [.ref (z + 2), .int (nI j1)]) (mc2 := 0) (ms2 := 0) B (c_X11_votesOfs (x := (nI j1)) (n := n) (r := r) hS hn (by first | assumption | omega)) mt_X11_votesOf ss_X11_25 dX11_winners_33 rfl rfl rfl rfl rfl ?_
        refine pm_stk (st' := [.int (d_X11_votesOf (nI j1) n r)]) rfl ?_
        refine pm_aload_n B dX11_winners_36 rfl ?_
        refine pm_get B dX11_winners_37 fl_X11_29 (hS.1) rfl ?_
        refine pm_icmp_lt (tgt := 46) B dX11_winners_40 (by decide) (fun hq6 => ?_) (fun hq6 => ?_)
        · refine pm_iinc B dX11_winners_46 rfl rfl rfl ?_
          refine pm_loc (L' := [none, some (.ref (z + 2)), some (.int (d_X10_activeSet n r)), some (.int a3_1), some (.int (nI (j1 + 1)))]) (by rw [show ((nI j1) : Int32) + Int32.ofInt 1 = (nI (j1 + 1)) from nI_1 _]; rfl) ?_
          refine pm_goto (tgt := 10) B dX11_winners_49 (by decide) ?_
          have hDq7 : (K1 (d_X11_winners_L1 n r (k1 + 1) j1 a3_1)) = (K1 (d_X11_winners_L1 n r k1 (j1 + 1) a3_1)) := by rw [d_X11_winners_L1, if_pos hq4, if_pos hq6]
          refine pm_pst (post' := pm_rt (some (.int (K1 (d_X11_winners_L1 n r k1 (j1 + 1) a3_1)))) nx M) (by rw [hDq7]) ?_
          exact ih1 (j1 + 1) (by omega) a3_1
        · refine pm_iinc B dX11_winners_43 rfl rfl rfl ?_
          refine pm_loc (L' := [none, some (.ref (z + 2)), some (.int (d_X10_activeSet n r)), some (.int (a3_1 + Int32.ofInt 1)), some (.int (nI j1))]) rfl ?_
          refine pm_iinc B dX11_winners_46 rfl rfl rfl ?_
          refine pm_loc (L' := [none, some (.ref (z + 2)), some (.int (d_X10_activeSet n r)), some (.int (a3_1 + Int32.ofInt 1)), some (.int (nI (j1 + 1)))]) (by rw [show ((nI j1) : Int32) + Int32.ofInt 1 = (nI (j1 + 1)) from nI_1 _]; rfl) ?_
          refine pm_goto (tgt := 10) B dX11_winners_49 (by decide) ?_
          have hDq8 : (K1 (d_X11_winners_L1 n r (k1 + 1) j1 a3_1)) = (K1 (d_X11_winners_L1 n r k1 (j1 + 1) (a3_1 + Int32.ofInt 1))) := by rw [d_X11_winners_L1, if_pos hq4, if_neg hq6]
          refine pm_pst (post' := pm_rt (some (.int (K1 (d_X11_winners_L1 n r k1 (j1 + 1) (a3_1 + Int32.ofInt 1))))) nx M) (by rw [hDq8]) ?_
          exact ih1 (j1 + 1) (by omega) (a3_1 + Int32.ofInt 1)
  refine pm_pst (post' := pm_rt (some (.int (d_X11_winners_L1 n r (2 ^ n) 0 0))) nx M) (by rw [show (d_X11_winners n r) = (d_X11_winners_L1 n r (2 ^ n) 0 0) from by rw [d_X11_winners]]) ?_
  refine loop1 (fun (a3_1 : Int32) => a3_1) ?_ (2 ^ n) 0 (by omega) 0
  intro a3_1
  refine pm_pst (post' := pm_rt (some (.int a3_1)) nx M) rfl ?_
  refine pm_iload_n B dX11_winners_52 rfl ?_
  have hDq9 : (a3_1) = a3_1 := rfl
  exact pm_ireturn B dX11_winners_53 rfl (by first | rfl | (apply pm_nz; first | assumption | decide | exact pm_in01 _ _ _ | simp)) ⟨rfl, rfl, rfl⟩ rfl rfl
/-- a member's numbers are in their ranges -/
def pm_rw (r : Nat → Int32) (i : Nat) : Prop :=
  (r (7 + 6 * i + 0) = nI (pm_n (r (7 + 6 * i + 0))) ∧ 1 ≤ pm_n (r (7 + 6 * i + 0)) ∧ pm_n (r (7 + 6 * i + 0)) ≤ 99) ∧
  (r (7 + 6 * i + 1) = nI (pm_n (r (7 + 6 * i + 1))) ∧ 1 ≤ pm_n (r (7 + 6 * i + 1)) ∧ pm_n (r (7 + 6 * i + 1)) ≤ 20) ∧
  (r (7 + 6 * i + 2) = nI (pm_n (r (7 + 6 * i + 2))) ∧ pm_n (r (7 + 6 * i + 2)) ≤ 300) ∧
  (r (7 + 6 * i + 3) = nI (pm_n (r (7 + 6 * i + 3))) ∧ pm_n (r (7 + 6 * i + 3)) ≤ pm_n (r (7 + 6 * i + 0))) ∧
  ((r (7 + 6 * i + 4) = 0 ∧ r (7 + 6 * i + 5) = 0) ∨ (r (7 + 6 * i + 4) = 1 ∧ r (7 + 6 * i + 5) = 0) ∨ (r (7 + 6 * i + 4) = 2 ∧ r (7 + 6 * i + 5) = 0) ∨ (r (7 + 6 * i + 4) = 0 ∧ r (7 + 6 * i + 5) = 1) ∨ (r (7 + 6 * i + 4) = 0 ∧ r (7 + 6 * i + 5) = 2))
def d_X11_swingsBySets_L1 (i : Nat) (n : Nat) (r : Nat → Int32) : Nat → Nat → Int32 → Int32
  | 0, _, a4_1 => a4_1
  | k1 + 1, j1, a4_1 => if ((nI j1) &&& (((d_X10_activeSet n r) &&& ((1 <<< ((nI i) &&& 31)) ^^^ (-1))) ^^^ (-1))) = 0 then (if (d_X11_isSwing (d_X11_votesOf (nI j1) n r) i n r) = 0 then (d_X11_swingsBySets_L1 i n r k1 (j1 + 1) a4_1) else (d_X11_swingsBySets_L1 i n r k1 (j1 + 1) (a4_1 + Int32.ofInt 1))) else (d_X11_swingsBySets_L1 i n r k1 (j1 + 1) a4_1)
def d_X11_swingsBySets (i : Nat) (n : Nat) (r : Nat → Int32) : Int32 := (d_X11_swingsBySets_L1 i n r (2 ^ n) 0 0)
set_option maxRecDepth 100000 in
set_option maxHeartbeats 8000000 in
theorem c_X11_swingsBySetss {l : Launch} {z : Nat} {D : va_G} {kA : Nat → ClassId} {kE : Nat → Nat} {nx : Nat} {M : pm_M} {i : Nat} {n : Nat} {r : Nat → Int32} (hS : pm_SA z kA 2 M r) (hn : r 0 = nI n) (h7 : n ≤ 7) (hi : i < 7) : pm_C l z D kA kE yX11_swingsBySets cX11_swingsBySets 6 (some .int) 2 0 0 [.ref (z + 129), .ref (z + 2), .int (nI i)] nx M (pm_rt (some (.int (d_X11_swingsBySets i n r))) nx M) := by
  refine pm_mk (own := RX11) (nm := "swingsBySets") mt_X11_swingsBySets rfl rfl rfl rfl fun X B => ?_
  refine pm_loc (L' := [some (.ref (z + 129)), some (.ref (z + 2)), some (.int (nI i)), none, none, none]) rfl ?_
  have h128 := pm_p7 h7
  refine pm_aload_n B dX11_swingsBySets_0 rfl ?_
  refine pm_cV (As := []) (mc2 := 0) (ms2 := 0) B rfl (hS.1) rfl (c_X10_activeSets (n := n) (r := r) hS hn (by first | assumption | omega)) mt_X10_activeSet sv_X11_15 dX11_swingsBySets_1 rfl rfl rfl rfl rfl ?_
  refine pm_stk (st' := [.int (d_X10_activeSet n r)]) rfl ?_
  refine pm_iconst (v := 1) B dX11_swingsBySets_4 (by decide) ?_
  refine pm_iload_n B dX11_swingsBySets_5 rfl ?_
  refine pm_ishl B dX11_swingsBySets_6 ?_
  refine pm_iconst (v := (-1)) B dX11_swingsBySets_7 (by decide) ?_
  refine pm_ixor B dX11_swingsBySets_8 ?_
  refine pm_iand B dX11_swingsBySets_9 ?_
  refine pm_istore_n B dX11_swingsBySets_10 rfl rfl ?_
  refine pm_loc (L' := [some (.ref (z + 129)), some (.ref (z + 2)), some (.int (nI i)), some (.int ((d_X10_activeSet n r) &&& ((1 <<< ((nI i) &&& 31)) ^^^ (-1)))), none, none]) rfl ?_
  refine pm_iconst (v := 0) B dX11_swingsBySets_11 (by decide) ?_
  refine pm_istore B dX11_swingsBySets_12 rfl rfl ?_
  refine pm_loc (L' := [some (.ref (z + 129)), some (.ref (z + 2)), some (.int (nI i)), some (.int ((d_X10_activeSet n r) &&& ((1 <<< ((nI i) &&& 31)) ^^^ (-1)))), some (.int 0), none]) rfl ?_
  refine pm_iconst (v := 0) B dX11_swingsBySets_14 (by decide) ?_
  refine pm_istore B dX11_swingsBySets_15 rfl rfl ?_
  refine pm_loc (L' := [some (.ref (z + 129)), some (.ref (z + 2)), some (.int (nI i)), some (.int ((d_X10_activeSet n r) &&& ((1 <<< ((nI i) &&& 31)) ^^^ (-1)))), some (.int 0), some (.int 0)]) rfl ?_
  refine pm_wk (L' := [none, some (.ref (z + 2)), some (.int (nI i)), some (.int ((d_X10_activeSet n r) &&& ((1 <<< ((nI i) &&& 31)) ^^^ (-1)))), some (.int 0), some (.int 0)]) ⟨rfl, ⟨rfl, ⟨rfl, ⟨rfl, ⟨rfl, trivial⟩⟩⟩⟩⟩ ?_
  refine pm_loc (L' := [none, some (.ref (z + 2)), some (.int (nI i)), some (.int ((d_X10_activeSet n r) &&& ((1 <<< ((nI i) &&& 31)) ^^^ (-1)))), some (.int 0), some (.int (nI 0))]) rfl ?_
  have loop1 : ∀ (K1 : (Int32 → Int32)), (∀ (a4_1 : Int32), pm_G l z D X 0 0 (pm_Q z D (pm_rt (some (.int (K1 a4_1))) nx M) 0 0 X) nx M 60 [none, none, none, none, some (.int a4_1), none] []) → ∀ (k1 j1 : Nat), j1 + k1 = (2 ^ n) → ∀ (a4_1 : Int32), pm_G l z D X 0 0 (pm_Q z D (pm_rt (some (.int (K1 (d_X11_swingsBySets_L1 i n r k1 j1 a4_1)))) nx M) 0 0 X) nx M 17 [none, some (.ref (z + 2)), some (.int (nI i)), some (.int ((d_X10_activeSet n r) &&& ((1 <<< ((nI i) &&& 31)) ^^^ (-1)))), some (.int a4_1), some (.int (nI j1))] [] := by
    intro K1 hK1 k1
    induction k1 with
    | zero =>
      intro j1 hj1 a4_1
      have hjn1 : j1 = (2 ^ n) := by omega
      refine pm_iload B dX11_swingsBySets_17 rfl ?_
      refine pm_iconst (v := 1) B dX11_swingsBySets_19 (by decide) ?_
      refine pm_aload_n B dX11_swingsBySets_20 rfl ?_
      refine pm_get B dX11_swingsBySets_21 fl_X11_21 (hS.1) rfl ?_
      refine pm_stk (st' := [.int (nI n), .int 1, .int (nI j1)]) (by rw [show (r 0) = (nI n) from by rw [hn]]) ?_
      refine pm_ishl B dX11_swingsBySets_24 ?_
      refine pm_stk (st' := [.int (nI (2 ^ n)), .int (nI j1)]) (by rw [show (1 <<< ((nI n) &&& 31)) = (nI (2 ^ n)) from pm_sh1 n h7]) ?_
      refine pm_icmp_ge (tgt := 60) B dX11_swingsBySets_25 (by decide) (fun hq1 => ?_) (fun hq1 => absurd ((nI_leI (by first | omega | decide) (by first | omega | decide)).mpr (by omega)) hq1)
      refine pm_wk (L' := [none, none, none, none, some (.int a4_1), none]) ⟨rfl, trivial⟩ ?_
      have hDq2 : (K1 (d_X11_swingsBySets_L1 i n r 0 j1 a4_1)) = (K1 a4_1) := by rw [d_X11_swingsBySets_L1]
      refine pm_pst (post' := pm_rt (some (.int (K1 a4_1))) nx M) (by rw [hDq2]) ?_
      exact hK1 a4_1
    | succ k1 ih1 =>
      intro j1 hj1 a4_1
      have hjn1 : j1 < (2 ^ n) := by omega
      refine pm_iload B dX11_swingsBySets_17 rfl ?_
      refine pm_iconst (v := 1) B dX11_swingsBySets_19 (by decide) ?_
      refine pm_aload_n B dX11_swingsBySets_20 rfl ?_
      refine pm_get B dX11_swingsBySets_21 fl_X11_21 (hS.1) rfl ?_
      refine pm_stk (st' := [.int (nI n), .int 1, .int (nI j1)]) (by rw [show (r 0) = (nI n) from by rw [hn]]) ?_
      refine pm_ishl B dX11_swingsBySets_24 ?_
      refine pm_stk (st' := [.int (nI (2 ^ n)), .int (nI j1)]) (by rw [show (1 <<< ((nI n) &&& 31)) = (nI (2 ^ n)) from pm_sh1 n h7]) ?_
      refine pm_icmp_ge (tgt := 60) B dX11_swingsBySets_25 (by decide) (fun hq3 => absurd hq3 (fun e => absurd ((nI_leI (by first | omega | decide) (by first | omega | decide)).mp e) (by omega))) (fun hq3 => ?_)
      refine pm_iload B dX11_swingsBySets_28 rfl ?_
      refine pm_iload_n B dX11_swingsBySets_30 rfl ?_
      refine pm_iconst (v := (-1)) B dX11_swingsBySets_31 (by decide) ?_
      refine pm_ixor B dX11_swingsBySets_32 ?_
      refine pm_iand B dX11_swingsBySets_33 ?_
      refine pm_if_ne (tgt := 54) B dX11_swingsBySets_34 (by decide) (fun hq4 => ?_) (fun hq4 => ?_)
      · refine pm_iinc B dX11_swingsBySets_54 rfl rfl rfl ?_
        refine pm_loc (L' := [none, some (.ref (z + 2)), some (.int (nI i)), some (.int ((d_X10_activeSet n r) &&& ((1 <<< ((nI i) &&& 31)) ^^^ (-1)))), some (.int a4_1), some (.int (nI (j1 + 1)))]) (by rw [show ((nI j1) : Int32) + Int32.ofInt 1 = (nI (j1 + 1)) from nI_1 _]; rfl) ?_
        refine pm_goto (tgt := 17) B dX11_swingsBySets_57 (by decide) ?_
        have hDq5 : (K1 (d_X11_swingsBySets_L1 i n r (k1 + 1) j1 a4_1)) = (K1 (d_X11_swingsBySets_L1 i n r k1 (j1 + 1) a4_1)) := by rw [d_X11_swingsBySets_L1, if_neg hq4]
        refine pm_pst (post' := pm_rt (some (.int (K1 (d_X11_swingsBySets_L1 i n r k1 (j1 + 1) a4_1)))) nx M) (by rw [hDq5]) ?_
        exact ih1 (j1 + 1) (by omega) a4_1
      · refine pm_aload_n B dX11_swingsBySets_37 rfl ?_
        refine pm_aload_n B dX11_swingsBySets_38 rfl ?_
        refine pm_iload B dX11_swingsBySets_39 rfl ?_
        refine pm_cS (As := [.ref (z + 2), .int (nI j1)]) (mc2 := 0) (ms2 := 0) B (c_X11_votesOfs (x := (nI j1)) (n := n) (r := r) hS hn (by first | assumption | omega)) mt_X11_votesOf ss_X11_25 dX11_swingsBySets_41 rfl rfl rfl rfl rfl ?_
        refine pm_stk (st' := [.int (d_X11_votesOf (nI j1) n r), .ref (z + 2)]) rfl ?_
        refine pm_iload_n B dX11_swingsBySets_44 rfl ?_
        refine pm_cS (As := [.ref (z + 2), .int (d_X11_votesOf (nI j1) n r), .int (nI i)]) (mc2 := 0) (ms2 := 0) B (c_X11_isSwings (x := (d_X11_votesOf (nI j1) n r)) (i := i) (n := n) (r := r) hS hn (by first | assumption | omega) (by first | assumption | omega)) mt_X11_isSwing ss_X11_32 dX11_swingsBySets_45 rfl rfl rfl rfl rfl ?_
        refine pm_stk (st' := [.int (d_X11_isSwing (d_X11_votesOf (nI j1) n r) i n r)]) rfl ?_
        refine pm_if_eq (tgt := 54) B dX11_swingsBySets_48 (by decide) (fun hq6 => ?_) (fun hq6 => ?_)
        · refine pm_iinc B dX11_swingsBySets_54 rfl rfl rfl ?_
          refine pm_loc (L' := [none, some (.ref (z + 2)), some (.int (nI i)), some (.int ((d_X10_activeSet n r) &&& ((1 <<< ((nI i) &&& 31)) ^^^ (-1)))), some (.int a4_1), some (.int (nI (j1 + 1)))]) (by rw [show ((nI j1) : Int32) + Int32.ofInt 1 = (nI (j1 + 1)) from nI_1 _]; rfl) ?_
          refine pm_goto (tgt := 17) B dX11_swingsBySets_57 (by decide) ?_
          have hDq7 : (K1 (d_X11_swingsBySets_L1 i n r (k1 + 1) j1 a4_1)) = (K1 (d_X11_swingsBySets_L1 i n r k1 (j1 + 1) a4_1)) := by rw [d_X11_swingsBySets_L1, if_pos hq4, if_pos hq6]
          refine pm_pst (post' := pm_rt (some (.int (K1 (d_X11_swingsBySets_L1 i n r k1 (j1 + 1) a4_1)))) nx M) (by rw [hDq7]) ?_
          exact ih1 (j1 + 1) (by omega) a4_1
        · refine pm_iinc B dX11_swingsBySets_51 rfl rfl rfl ?_
          refine pm_loc (L' := [none, some (.ref (z + 2)), some (.int (nI i)), some (.int ((d_X10_activeSet n r) &&& ((1 <<< ((nI i) &&& 31)) ^^^ (-1)))), some (.int (a4_1 + Int32.ofInt 1)), some (.int (nI j1))]) rfl ?_
          refine pm_iinc B dX11_swingsBySets_54 rfl rfl rfl ?_
          refine pm_loc (L' := [none, some (.ref (z + 2)), some (.int (nI i)), some (.int ((d_X10_activeSet n r) &&& ((1 <<< ((nI i) &&& 31)) ^^^ (-1)))), some (.int (a4_1 + Int32.ofInt 1)), some (.int (nI (j1 + 1)))]) (by rw [show ((nI j1) : Int32) + Int32.ofInt 1 = (nI (j1 + 1)) from nI_1 _]; rfl) ?_
          refine pm_goto (tgt := 17) B dX11_swingsBySets_57 (by decide) ?_
          have hDq8 : (K1 (d_X11_swingsBySets_L1 i n r (k1 + 1) j1 a4_1)) = (K1 (d_X11_swingsBySets_L1 i n r k1 (j1 + 1) (a4_1 + Int32.ofInt 1))) := by rw [d_X11_swingsBySets_L1, if_pos hq4, if_neg hq6]
          refine pm_pst (post' := pm_rt (some (.int (K1 (d_X11_swingsBySets_L1 i n r k1 (j1 + 1) (a4_1 + Int32.ofInt 1))))) nx M) (by rw [hDq8]) ?_
          exact ih1 (j1 + 1) (by omega) (a4_1 + Int32.ofInt 1)
  refine pm_pst (post' := pm_rt (some (.int (d_X11_swingsBySets_L1 i n r (2 ^ n) 0 0))) nx M) (by rw [show (d_X11_swingsBySets i n r) = (d_X11_swingsBySets_L1 i n r (2 ^ n) 0 0) from by rw [d_X11_swingsBySets]]) ?_
  refine loop1 (fun (a4_1 : Int32) => a4_1) ?_ (2 ^ n) 0 (by omega) 0
  intro a4_1
  refine pm_pst (post' := pm_rt (some (.int a4_1)) nx M) rfl ?_
  refine pm_iload B dX11_swingsBySets_60 rfl ?_
  have hDq9 : (a4_1) = a4_1 := rfl
  exact pm_ireturn B dX11_swingsBySets_62 rfl (by first | rfl | (apply pm_nz; first | assumption | decide | exact pm_in01 _ _ _ | simp)) ⟨rfl, rfl, rfl⟩ rfl rfl
def d_X11_differenceBySets_L1 (n : Nat) (r : Nat → Int32) : Nat → Nat → Int32 → Int32
  | 0, _, a4_1 => a4_1
  | k1 + 1, j1, a4_1 => if ((nI j1) &&& ((d_X10_activeSet n r) ^^^ (-1))) = 0 then (d_X11_differenceBySets_L1 n r k1 (j1 + 1) (pm_min a4_1 (pm_abs ((d_X11_votesOf (d_X10_activeSet n r) n r) - (2 * (d_X11_votesOf (nI j1) n r)))))) else (d_X11_differenceBySets_L1 n r k1 (j1 + 1) a4_1)
def d_X11_differenceBySets (n : Nat) (r : Nat → Int32) : Int32 := (d_X11_differenceBySets_L1 n r (2 ^ n) 0 (d_X11_votesOf (d_X10_activeSet n r) n r))
set_option maxRecDepth 100000 in
set_option maxHeartbeats 8000000 in
theorem c_X11_differenceBySetss {l : Launch} {z : Nat} {D : va_G} {kA : Nat → ClassId} {kE : Nat → Nat} {nx : Nat} {M : pm_M} {n : Nat} {r : Nat → Int32} (hS : pm_SA z kA 2 M r) (hn : r 0 = nI n) (h7 : n ≤ 7) : pm_C l z D kA kE yX11_differenceBySets cX11_differenceBySets 6 (some .int) 2 0 0 [.ref (z + 129), .ref (z + 2)] nx M (pm_rt (some (.int (d_X11_differenceBySets n r))) nx M) := by
  refine pm_mk (own := RX11) (nm := "differenceBySets") mt_X11_differenceBySets rfl rfl rfl rfl fun X B => ?_
  refine pm_loc (L' := [some (.ref (z + 129)), some (.ref (z + 2)), none, none, none, none]) rfl ?_
  have h128 := pm_p7 h7
  refine pm_aload_n B dX11_differenceBySets_0 rfl ?_
  refine pm_cV (As := []) (mc2 := 0) (ms2 := 0) B rfl (hS.1) rfl (c_X10_activeSets (n := n) (r := r) hS hn (by first | assumption | omega)) mt_X10_activeSet sv_X11_15 dX11_differenceBySets_1 rfl rfl rfl rfl rfl ?_
  refine pm_stk (st' := [.int (d_X10_activeSet n r)]) rfl ?_
  refine pm_istore_n B dX11_differenceBySets_4 rfl rfl ?_
  refine pm_loc (L' := [some (.ref (z + 129)), some (.ref (z + 2)), some (.int (d_X10_activeSet n r)), none, none, none]) rfl ?_
  refine pm_aload_n B dX11_differenceBySets_5 rfl ?_
  refine pm_iload_n B dX11_differenceBySets_6 rfl ?_
  refine pm_cS (As := [.ref (z + 2), .int (d_X10_activeSet n r)]) (mc2 := 0) (ms2 := 0) B (c_X11_votesOfs (x := (d_X10_activeSet n r)) (n := n) (r := r) hS hn (by first | assumption | omega)) mt_X11_votesOf ss_X11_25 dX11_differenceBySets_7 rfl rfl rfl rfl rfl ?_
  refine pm_stk (st' := [.int (d_X11_votesOf (d_X10_activeSet n r) n r)]) rfl ?_
  refine pm_istore_n B dX11_differenceBySets_10 rfl rfl ?_
  refine pm_loc (L' := [some (.ref (z + 129)), some (.ref (z + 2)), some (.int (d_X10_activeSet n r)), some (.int (d_X11_votesOf (d_X10_activeSet n r) n r)), none, none]) rfl ?_
  refine pm_iload_n B dX11_differenceBySets_11 rfl ?_
  refine pm_istore B dX11_differenceBySets_12 rfl rfl ?_
  refine pm_loc (L' := [some (.ref (z + 129)), some (.ref (z + 2)), some (.int (d_X10_activeSet n r)), some (.int (d_X11_votesOf (d_X10_activeSet n r) n r)), some (.int (d_X11_votesOf (d_X10_activeSet n r) n r)), none]) rfl ?_
  refine pm_iconst (v := 0) B dX11_differenceBySets_14 (by decide) ?_
  refine pm_istore B dX11_differenceBySets_15 rfl rfl ?_
  refine pm_loc (L' := [some (.ref (z + 129)), some (.ref (z + 2)), some (.int (d_X10_activeSet n r)), some (.int (d_X11_votesOf (d_X10_activeSet n r) n r)), some (.int (d_X11_votesOf (d_X10_activeSet n r) n r)), some (.int 0)]) rfl ?_
  refine pm_wk (L' := [none, some (.ref (z + 2)), some (.int (d_X10_activeSet n r)), some (.int (d_X11_votesOf (d_X10_activeSet n r) n r)), some (.int (d_X11_votesOf (d_X10_activeSet n r) n r)), some (.int 0)]) ⟨rfl, ⟨rfl, ⟨rfl, ⟨rfl, ⟨rfl, trivial⟩⟩⟩⟩⟩ ?_
  refine pm_loc (L' := [none, some (.ref (z + 2)), some (.int (d_X10_activeSet n r)), some (.int (d_X11_votesOf (d_X10_activeSet n r) n r)), some (.int (d_X11_votesOf (d_X10_activeSet n r) n r)), some (.int (nI 0))]) rfl ?_
  have loop1 : ∀ (K1 : (Int32 → Int32)), (∀ (a4_1 : Int32), pm_G l z D X 0 0 (pm_Q z D (pm_rt (some (.int (K1 a4_1))) nx M) 0 0 X) nx M 63 [none, none, none, none, some (.int a4_1), none] []) → ∀ (k1 j1 : Nat), j1 + k1 = (2 ^ n) → ∀ (a4_1 : Int32), pm_G l z D X 0 0 (pm_Q z D (pm_rt (some (.int (K1 (d_X11_differenceBySets_L1 n r k1 j1 a4_1)))) nx M) 0 0 X) nx M 17 [none, some (.ref (z + 2)), some (.int (d_X10_activeSet n r)), some (.int (d_X11_votesOf (d_X10_activeSet n r) n r)), some (.int a4_1), some (.int (nI j1))] [] := by
    intro K1 hK1 k1
    induction k1 with
    | zero =>
      intro j1 hj1 a4_1
      have hjn1 : j1 = (2 ^ n) := by omega
      refine pm_iload B dX11_differenceBySets_17 rfl ?_
      refine pm_iconst (v := 1) B dX11_differenceBySets_19 (by decide) ?_
      refine pm_aload_n B dX11_differenceBySets_20 rfl ?_
      refine pm_get B dX11_differenceBySets_21 fl_X11_21 (hS.1) rfl ?_
      refine pm_stk (st' := [.int (nI n), .int 1, .int (nI j1)]) (by rw [show (r 0) = (nI n) from by rw [hn]]) ?_
      refine pm_ishl B dX11_differenceBySets_24 ?_
      refine pm_stk (st' := [.int (nI (2 ^ n)), .int (nI j1)]) (by rw [show (1 <<< ((nI n) &&& 31)) = (nI (2 ^ n)) from pm_sh1 n h7]) ?_
      refine pm_icmp_ge (tgt := 63) B dX11_differenceBySets_25 (by decide) (fun hq1 => ?_) (fun hq1 => absurd ((nI_leI (by first | omega | decide) (by first | omega | decide)).mpr (by omega)) hq1)
      refine pm_wk (L' := [none, none, none, none, some (.int a4_1), none]) ⟨rfl, trivial⟩ ?_
      have hDq2 : (K1 (d_X11_differenceBySets_L1 n r 0 j1 a4_1)) = (K1 a4_1) := by rw [d_X11_differenceBySets_L1]
      refine pm_pst (post' := pm_rt (some (.int (K1 a4_1))) nx M) (by rw [hDq2]) ?_
      exact hK1 a4_1
    | succ k1 ih1 =>
      intro j1 hj1 a4_1
      have hjn1 : j1 < (2 ^ n) := by omega
      refine pm_iload B dX11_differenceBySets_17 rfl ?_
      refine pm_iconst (v := 1) B dX11_differenceBySets_19 (by decide) ?_
      refine pm_aload_n B dX11_differenceBySets_20 rfl ?_
      refine pm_get B dX11_differenceBySets_21 fl_X11_21 (hS.1) rfl ?_
      refine pm_stk (st' := [.int (nI n), .int 1, .int (nI j1)]) (by rw [show (r 0) = (nI n) from by rw [hn]]) ?_
      refine pm_ishl B dX11_differenceBySets_24 ?_
      refine pm_stk (st' := [.int (nI (2 ^ n)), .int (nI j1)]) (by rw [show (1 <<< ((nI n) &&& 31)) = (nI (2 ^ n)) from pm_sh1 n h7]) ?_
      refine pm_icmp_ge (tgt := 63) B dX11_differenceBySets_25 (by decide) (fun hq3 => absurd hq3 (fun e => absurd ((nI_leI (by first | omega | decide) (by first | omega | decide)).mp e) (by omega))) (fun hq3 => ?_)
      refine pm_iload B dX11_differenceBySets_28 rfl ?_
      refine pm_iload_n B dX11_differenceBySets_30 rfl ?_
      refine pm_iconst (v := (-1)) B dX11_differenceBySets_31 (by decide) ?_
      refine pm_ixor B dX11_differenceBySets_32 ?_
      refine pm_iand B dX11_differenceBySets_33 ?_
      refine pm_if_ne (tgt := 57) B dX11_differenceBySets_34 (by decide) (fun hq4 => ?_) (fun hq4 => ?_)
      · refine pm_iinc B dX11_differenceBySets_57 rfl rfl rfl ?_
        refine pm_loc (L' := [none, some (.ref (z + 2)), some (.int (d_X10_activeSet n r)), some (.int (d_X11_votesOf (d_X10_activeSet n r) n r)), some (.int a4_1), some (.int (nI (j1 + 1)))]) (by rw [show ((nI j1) : Int32) + Int32.ofInt 1 = (nI (j1 + 1)) from nI_1 _]; rfl) ?_
        refine pm_goto (tgt := 17) B dX11_differenceBySets_60 (by decide) ?_
        have hDq5 : (K1 (d_X11_differenceBySets_L1 n r (k1 + 1) j1 a4_1)) = (K1 (d_X11_differenceBySets_L1 n r k1 (j1 + 1) a4_1)) := by rw [d_X11_differenceBySets_L1, if_neg hq4]
        refine pm_pst (post' := pm_rt (some (.int (K1 (d_X11_differenceBySets_L1 n r k1 (j1 + 1) a4_1)))) nx M) (by rw [hDq5]) ?_
        exact ih1 (j1 + 1) (by omega) a4_1
      · refine pm_iload B dX11_differenceBySets_37 rfl ?_
        refine pm_iload_n B dX11_differenceBySets_39 rfl ?_
        refine pm_iconst (v := 2) B dX11_differenceBySets_40 (by decide) ?_
        refine pm_aload_n B dX11_differenceBySets_41 rfl ?_
        refine pm_iload B dX11_differenceBySets_42 rfl ?_
        refine pm_cS (As := [.ref (z + 2), .int (nI j1)]) (mc2 := 0) (ms2 := 0) B (c_X11_votesOfs (x := (nI j1)) (n := n) (r := r) hS hn (by first | assumption | omega)) mt_X11_votesOf ss_X11_25 dX11_differenceBySets_44 rfl rfl rfl rfl rfl ?_
        refine pm_stk (st' := [.int (d_X11_votesOf (nI j1) n r), .int 2, .int (d_X11_votesOf (d_X10_activeSet n r) n r), .int a4_1]) rfl ?_
        refine pm_imul B dX11_differenceBySets_47 ?_
        refine pm_isub B dX11_differenceBySets_48 ?_
        refine pm_mabs B dX11_differenceBySets_49 (pm_T_in 1126 (by decide +kernel) (by decide +kernel)) rfl rfl rfl rfl ?_
        refine pm_mmin B dX11_differenceBySets_52 (pm_T_in 1127 (by decide +kernel) (by decide +kernel)) rfl rfl rfl rfl ?_
        refine pm_istore B dX11_differenceBySets_55 rfl rfl ?_
        refine pm_loc (L' := [none, some (.ref (z + 2)), some (.int (d_X10_activeSet n r)), some (.int (d_X11_votesOf (d_X10_activeSet n r) n r)), some (.int (pm_min a4_1 (pm_abs ((d_X11_votesOf (d_X10_activeSet n r) n r) - (2 * (d_X11_votesOf (nI j1) n r)))))), some (.int (nI j1))]) rfl ?_
        refine pm_iinc B dX11_differenceBySets_57 rfl rfl rfl ?_
        refine pm_loc (L' := [none, some (.ref (z + 2)), some (.int (d_X10_activeSet n r)), some (.int (d_X11_votesOf (d_X10_activeSet n r) n r)), some (.int (pm_min a4_1 (pm_abs ((d_X11_votesOf (d_X10_activeSet n r) n r) - (2 * (d_X11_votesOf (nI j1) n r)))))), some (.int (nI (j1 + 1)))]) (by rw [show ((nI j1) : Int32) + Int32.ofInt 1 = (nI (j1 + 1)) from nI_1 _]; rfl) ?_
        refine pm_goto (tgt := 17) B dX11_differenceBySets_60 (by decide) ?_
        have hDq6 : (K1 (d_X11_differenceBySets_L1 n r (k1 + 1) j1 a4_1)) = (K1 (d_X11_differenceBySets_L1 n r k1 (j1 + 1) (pm_min a4_1 (pm_abs ((d_X11_votesOf (d_X10_activeSet n r) n r) - (2 * (d_X11_votesOf (nI j1) n r))))))) := by rw [d_X11_differenceBySets_L1, if_pos hq4]
        refine pm_pst (post' := pm_rt (some (.int (K1 (d_X11_differenceBySets_L1 n r k1 (j1 + 1) (pm_min a4_1 (pm_abs ((d_X11_votesOf (d_X10_activeSet n r) n r) - (2 * (d_X11_votesOf (nI j1) n r))))))))) nx M) (by rw [hDq6]) ?_
        exact ih1 (j1 + 1) (by omega) (pm_min a4_1 (pm_abs ((d_X11_votesOf (d_X10_activeSet n r) n r) - (2 * (d_X11_votesOf (nI j1) n r)))))
  refine pm_pst (post' := pm_rt (some (.int (d_X11_differenceBySets_L1 n r (2 ^ n) 0 (d_X11_votesOf (d_X10_activeSet n r) n r)))) nx M) (by rw [show (d_X11_differenceBySets n r) = (d_X11_differenceBySets_L1 n r (2 ^ n) 0 (d_X11_votesOf (d_X10_activeSet n r) n r)) from by rw [d_X11_differenceBySets]]) ?_
  refine loop1 (fun (a4_1 : Int32) => a4_1) ?_ (2 ^ n) 0 (by omega) (d_X11_votesOf (d_X10_activeSet n r) n r)
  intro a4_1
  refine pm_pst (post' := pm_rt (some (.int a4_1)) nx M) rfl ?_
  refine pm_iload B dX11_differenceBySets_63 rfl ?_
  have hDq7 : (a4_1) = a4_1 := rfl
  exact pm_ireturn B dX11_differenceBySets_65 rfl (by first | rfl | (apply pm_nz; first | assumption | decide | exact pm_in01 _ _ _ | simp)) ⟨rfl, rfl, rfl⟩ rfl rfl
def d_X11_addVoter_L1 (v : Nat) : Nat → Int32 → (Nat → Int32) → (Int32 × (Nat → Int32))
  | 0, a2_1, wy_1 => (a2_1, wy_1)
  | k1 + 1, a2_1, wy_1 => (d_X11_addVoter_L1 v k1 ((nI (v + k1)) + Int32.ofInt (-1)) (upd wy_1 (v + k1) ((wy_1 (v + k1)) + (wy_1 k1))))
def d_X11_addVoter (v : Nat) (wy : Nat → Int32) : (Nat → Int32) := ((d_X11_addVoter_L1 v (141 - v) ((nI 141) - 1) wy).2)
set_option maxRecDepth 100000 in
set_option maxHeartbeats 8000000 in
theorem c_X11_addVoter {l : Launch} {z : Nat} {D : va_G} {kA : Nat → ClassId} {kE : Nat → Nat} {nx : Nat} {M : pm_M} {v : Nat} {wy : Nat → Int32} (hwy : M 130 = some (.inl (kA 0, 141, .inl wy))) (hO129 : M 129 = some (.inr (9, [.ref (z + 130)]))) (hv1 : 1 ≤ v) (hv2 : v ≤ 20) : pm_C l z D kA kE yX11_addVoter cX11_addVoter 3 none 0 0 0 [.ref (z + 129), .int (nI v)] nx M (pm_rt none nx (pm_up M 130 (.inl (kA 0, 141, .inl (d_X11_addVoter v wy))))) := by
  refine pm_mk (own := RX11) (nm := "addVoter") mt_X11_addVoter rfl rfl rfl rfl fun X B => ?_
  refine pm_loc (L' := [some (.ref (z + 129)), some (.int (nI v)), none]) rfl ?_
  refine pm_mem (M' := pm_up M 130 (.inl (kA 0, 141, .inl wy))) (by rw [pm_up_id hwy]) ?_
  refine pm_iload_n B dX11_addVoter_0 rfl ?_
  refine pm_iconst (v := 1) B dX11_addVoter_1 (by decide) ?_
  refine pm_icmp_ge (tgt := 6) B dX11_addVoter_2 (by decide) (fun hq1 => ?_) (fun hq1 => absurd ((nI_leI (a := 1) (b := v) (by decide) (by omega)).mpr hv1) hq1)
  refine pm_aload_n B dX11_addVoter_6 rfl ?_
  refine pm_get B dX11_addVoter_7 fl_X11_9 ((pm_up_n (by omega)).trans hO129) rfl ?_
  refine pm_alen B dX11_addVoter_10 pm_up_s rfl rfl ?_
  refine pm_stk (st' := [.int (nI 141)]) rfl ?_
  refine pm_iconst (v := 1) B dX11_addVoter_11 (by decide) ?_
  refine pm_isub B dX11_addVoter_12 ?_
  refine pm_istore_n B dX11_addVoter_13 rfl rfl ?_
  refine pm_loc (L' := [some (.ref (z + 129)), some (.int (nI v)), some (.int ((nI 141) - 1))]) rfl ?_
  have loop1 : ∀ (K1 : (Int32 → (Nat → Int32) → (Nat → Int32))), (∀ (a2_1 : Int32) (wy_1 : (Nat → Int32)), pm_G l z D X 0 0 (pm_Q z D (pm_rt none nx (pm_up M 130 (.inl (kA 0, 141, .inl (K1 a2_1 wy_1))))) 0 0 X) nx (pm_up M 130 (.inl (kA 0, 141, .inl wy_1))) 42 [none, none, none] []) → ∀ (k1 : Nat), ∀ (a2_1 : Int32) (wy_1 : (Nat → Int32)), (hm_1 : a2_1 = nI (v + k1) - 1) → (hb_1 : v + k1 ≤ 141) → pm_G l z D X 0 0 (pm_Q z D (pm_rt none nx (pm_up M 130 (.inl (kA 0, 141, .inl (K1 ((d_X11_addVoter_L1 v k1 a2_1 wy_1).1) ((d_X11_addVoter_L1 v k1 a2_1 wy_1).2)))))) 0 0 X) nx (pm_up M 130 (.inl (kA 0, 141, .inl wy_1))) 14 [some (.ref (z + 129)), some (.int (nI v)), some (.int a2_1)] [] := by
    intro K1 hK1 k1
    induction k1 with
    | zero =>
      intro a2_1 wy_1 hm_1 hb_1
      refine pm_iload_n B dX11_addVoter_14 rfl ?_
      refine pm_iload_n B dX11_addVoter_15 rfl ?_
      refine pm_icmp_lt (tgt := 42) B dX11_addVoter_16 (by decide) (fun hq2 => ?_) (fun hq2 => absurd ((by rw [hm_1, Nat.add_zero, show (1 : Int32) = nI 1 from rfl, pk_sub hv1, nI_ltI (by omega) (by omega)]; omega)) hq2)
      refine pm_wk (L' := [none, none, none]) trivial ?_
      have hDq3 : (K1 ((d_X11_addVoter_L1 v 0 a2_1 wy_1).1) ((d_X11_addVoter_L1 v 0 a2_1 wy_1).2)) = (K1 a2_1 wy_1) := by rw [d_X11_addVoter_L1]
      refine pm_pst (post' := pm_rt none nx (pm_up M 130 (.inl (kA 0, 141, .inl (K1 a2_1 wy_1))))) (by rw [hDq3]) ?_
      exact hK1 a2_1 wy_1
    | succ k1 ih1 =>
      intro a2_1 wy_1 hm_1 hb_1
      refine pm_iload_n B dX11_addVoter_14 rfl ?_
      refine pm_iload_n B dX11_addVoter_15 rfl ?_
      refine pm_icmp_lt (tgt := 42) B dX11_addVoter_16 (by decide) (fun hq4 => absurd hq4 ((by rw [hm_1, show nI (v + (k1 + 1)) - 1 = nI (v + k1) from nI_pred _]; exact nI_nlt (by omega) (by omega)))) (fun hq4 => ?_)
      refine pm_loc (L' := [some (.ref (z + 129)), some (.int (nI v)), some (.int (nI (v + k1)))]) (congrArg (fun yy : Int32 => ([some (.ref (z + 129)), some (.int (nI v)), some (.int yy)] : List (Option Value))) (hm_1.trans (nI_pred (v + k1)))) ?_
      refine pm_aload_n B dX11_addVoter_19 rfl ?_
      refine pm_get B dX11_addVoter_20 fl_X11_9 ((pm_up_n (by omega)).trans hO129) rfl ?_
      refine pm_iload_n B dX11_addVoter_23 rfl ?_
      refine pm_dup2 B dX11_addVoter_24 rfl rfl ?_
      refine pm_iald_n B dX11_addVoter_25 pm_up_s (v + k1) (by first | assumption | omega) (by decide) ?_
      refine pm_aload_n B dX11_addVoter_26 rfl ?_
      refine pm_get B dX11_addVoter_27 fl_X11_9 ((pm_up_n (by omega)).trans hO129) rfl ?_
      refine pm_iload_n B dX11_addVoter_30 rfl ?_
      refine pm_iload_n B dX11_addVoter_31 rfl ?_
      refine pm_isub B dX11_addVoter_32 ?_
      refine pm_stk (st' := [.int (nI k1), .ref (z + 130), .int (wy_1 (v + k1)), .int (nI (v + k1)), .ref (z + 130)]) (by rw [show ((nI (v + k1)) - (nI v)) = (nI k1) from by rw [pk_sub (by omega), Nat.add_sub_cancel_left]]) ?_
      refine pm_iald_n B dX11_addVoter_33 pm_up_s k1 (by first | assumption | omega) (by decide) ?_
      refine pm_iadd B dX11_addVoter_34 ?_
      refine pm_iast_n B dX11_addVoter_35 pm_up_s (v + k1) (by first | assumption | omega) (by decide) ?_
      refine pm_mem (M' := pm_up M 130 (.inl (kA 0, 141, .inl (upd wy_1 (v + k1) ((wy_1 (v + k1)) + (wy_1 k1)))))) (by rw [pm_up_up] <;> rfl) ?_
      refine pm_iinc B dX11_addVoter_36 rfl rfl rfl ?_
      refine pm_loc (L' := [some (.ref (z + 129)), some (.int (nI v)), some (.int ((nI (v + k1)) + Int32.ofInt (-1)))]) rfl ?_
      refine pm_goto (tgt := 14) B dX11_addVoter_39 (by decide) ?_
      have hDq5 : (K1 ((d_X11_addVoter_L1 v (k1 + 1) a2_1 wy_1).1) ((d_X11_addVoter_L1 v (k1 + 1) a2_1 wy_1).2)) = (K1 ((d_X11_addVoter_L1 v k1 ((nI (v + k1)) + Int32.ofInt (-1)) (upd wy_1 (v + k1) ((wy_1 (v + k1)) + (wy_1 k1)))).1) ((d_X11_addVoter_L1 v k1 ((nI (v + k1)) + Int32.ofInt (-1)) (upd wy_1 (v + k1) ((wy_1 (v + k1)) + (wy_1 k1)))).2)) := by rw [d_X11_addVoter_L1]
      refine pm_pst (post' := pm_rt none nx (pm_up M 130 (.inl (kA 0, 141, .inl (K1 ((d_X11_addVoter_L1 v k1 ((nI (v + k1)) + Int32.ofInt (-1)) (upd wy_1 (v + k1) ((wy_1 (v + k1)) + (wy_1 k1)))).1) ((d_X11_addVoter_L1 v k1 ((nI (v + k1)) + Int32.ofInt (-1)) (upd wy_1 (v + k1) ((wy_1 (v + k1)) + (wy_1 k1)))).2)))))) (by rw [hDq5]) ?_
      exact ih1 ((nI (v + k1)) + Int32.ofInt (-1)) (upd wy_1 (v + k1) ((wy_1 (v + k1)) + (wy_1 k1))) ((by rw [Int32.sub_eq_add_neg]; rfl)) ((by omega))
  refine pm_pst (post' := pm_rt none nx (pm_up M 130 (.inl (kA 0, 141, .inl ((d_X11_addVoter_L1 v (141 - v) ((nI 141) - 1) wy).2))))) (by rw [show (d_X11_addVoter v wy) = ((d_X11_addVoter_L1 v (141 - v) ((nI 141) - 1) wy).2) from by rw [d_X11_addVoter]]) ?_
  refine loop1 (fun (a2_1 : Int32) (wy_1 : (Nat → Int32)) => wy_1) ?_ (141 - v) ((nI 141) - 1) wy ((by rw [show v + (141 - v) = 141 by omega])) ((by omega))
  intro a2_1 wy_1
  refine pm_pst (post' := pm_rt none nx (pm_up M 130 (.inl (kA 0, 141, .inl wy_1)))) rfl ?_
  have hDq6 : (wy_1) = wy_1 := rfl
  exact pm_return B dX11_addVoter_42 rfl ⟨rfl, rfl, rfl⟩ rfl rfl
def d_X11_countWays_L1  : Nat → Nat → (Nat → Int32) → (Nat → Int32)
  | 0, _, wy_1 => wy_1
  | k1 + 1, j1, wy_1 => (d_X11_countWays_L1 k1 (j1 + 1) (upd wy_1 j1 0))
def d_X11_countWays_L2 (x : Int32) (r : Nat → Int32) : Nat → Nat → (Nat → Int32) → (Nat → Int32)
  | 0, _, wy_2 => wy_2
  | k2 + 1, j2, wy_2 => if ((x >>> ((nI j2) &&& 31)) &&& 1) = 1 then (d_X11_countWays_L2 x r k2 (j2 + 1) (d_X11_addVoter (pm_n (r (7 + 6 * j2 + 1))) wy_2)) else (d_X11_countWays_L2 x r k2 (j2 + 1) wy_2)
def d_X11_countWays (x : Int32) (n : Nat) (r : Nat → Int32) (wy : Nat → Int32) : (Nat → Int32) := (d_X11_countWays_L2 x r n 0 (upd (d_X11_countWays_L1 141 0 wy) 0 1))
set_option maxRecDepth 100000 in
set_option maxHeartbeats 8000000 in
theorem c_X11_countWayss {l : Launch} {z : Nat} {D : va_G} {kA : Nat → ClassId} {kE : Nat → Nat} {nx : Nat} {M : pm_M} {x : Int32} {n : Nat} {r : Nat → Int32} {wy : Nat → Int32} (hS : pm_SA z kA 2 M r) (hwy : M 130 = some (.inl (kA 0, 141, .inl wy))) (hO129 : M 129 = some (.inr (9, [.ref (z + 130)]))) (hn : r 0 = nI n) (h7 : n ≤ 7) (hrw : ∀ i, i < n → pm_rw r i) : pm_C l z D kA kE yX11_countWays cX11_countWays 4 none 1 0 0 [.ref (z + 129), .ref (z + 2), .int x] nx M (pm_rt none nx (pm_up M 130 (.inl (kA 0, 141, .inl (d_X11_countWays x n r wy))))) := by
  refine pm_mk (own := RX11) (nm := "countWays") mt_X11_countWays rfl rfl rfl rfl fun X B => ?_
  refine pm_loc (L' := [some (.ref (z + 129)), some (.ref (z + 2)), some (.int x), none]) rfl ?_
  refine pm_mem (M' := pm_up M 130 (.inl (kA 0, 141, .inl wy))) (by rw [pm_up_id hwy]) ?_
  refine pm_iconst (v := 0) B dX11_countWays_0 (by decide) ?_
  refine pm_istore_n B dX11_countWays_1 rfl rfl ?_
  refine pm_loc (L' := [some (.ref (z + 129)), some (.ref (z + 2)), some (.int x), some (.int 0)]) rfl ?_
  refine pm_loc (L' := [some (.ref (z + 129)), some (.ref (z + 2)), some (.int x), some (.int (nI 0))]) rfl ?_
  have loop1 : ∀ (K1 : ((Nat → Int32) → (Nat → Int32))), (∀ (wy_1 : (Nat → Int32)), pm_G l z D X 0 0 (pm_Q z D (pm_rt none nx (pm_up M 130 (.inl (kA 0, 141, .inl (K1 wy_1))))) 0 0 X) nx (pm_up M 130 (.inl (kA 0, 141, .inl wy_1))) 24 [some (.ref (z + 129)), some (.ref (z + 2)), some (.int x), none] []) → ∀ (k1 j1 : Nat), j1 + k1 = 141 → ∀ (wy_1 : (Nat → Int32)), pm_G l z D X 0 0 (pm_Q z D (pm_rt none nx (pm_up M 130 (.inl (kA 0, 141, .inl (K1 (d_X11_countWays_L1 k1 j1 wy_1)))))) 0 0 X) nx (pm_up M 130 (.inl (kA 0, 141, .inl wy_1))) 2 [some (.ref (z + 129)), some (.ref (z + 2)), some (.int x), some (.int (nI j1))] [] := by
    intro K1 hK1 k1
    induction k1 with
    | zero =>
      intro j1 hj1 wy_1
      have hjn1 : j1 = 141 := by omega
      refine pm_iload_n B dX11_countWays_2 rfl ?_
      refine pm_aload_n B dX11_countWays_3 rfl ?_
      refine pm_get B dX11_countWays_4 fl_X11_9 ((pm_up_n (by omega)).trans hO129) rfl ?_
      refine pm_alen B dX11_countWays_7 pm_up_s rfl rfl ?_
      refine pm_stk (st' := [.int (nI 141), .int (nI j1)]) rfl ?_
      refine pm_icmp_ge (tgt := 24) B dX11_countWays_8 (by decide) (fun hq1 => ?_) (fun hq1 => absurd ((nI_leI (by first | omega | decide) (by first | omega | decide)).mpr (by omega)) hq1)
      refine pm_wk (L' := [some (.ref (z + 129)), some (.ref (z + 2)), some (.int x), none]) ⟨rfl, ⟨rfl, ⟨rfl, trivial⟩⟩⟩ ?_
      have hDq2 : (K1 (d_X11_countWays_L1 0 j1 wy_1)) = (K1 wy_1) := by rw [d_X11_countWays_L1]
      refine pm_pst (post' := pm_rt none nx (pm_up M 130 (.inl (kA 0, 141, .inl (K1 wy_1))))) (by rw [hDq2]) ?_
      exact hK1 wy_1
    | succ k1 ih1 =>
      intro j1 hj1 wy_1
      have hjn1 : j1 < 141 := by omega
      refine pm_iload_n B dX11_countWays_2 rfl ?_
      refine pm_aload_n B dX11_countWays_3 rfl ?_
      refine pm_get B dX11_countWays_4 fl_X11_9 ((pm_up_n (by omega)).trans hO129) rfl ?_
      refine pm_alen B dX11_countWays_7 pm_up_s rfl rfl ?_
      refine pm_stk (st' := [.int (nI 141), .int (nI j1)]) rfl ?_
      refine pm_icmp_ge (tgt := 24) B dX11_countWays_8 (by decide) (fun hq3 => absurd hq3 (fun e => absurd ((nI_leI (by first | omega | decide) (by first | omega | decide)).mp e) (by omega))) (fun hq3 => ?_)
      refine pm_aload_n B dX11_countWays_11 rfl ?_
      refine pm_get B dX11_countWays_12 fl_X11_9 ((pm_up_n (by omega)).trans hO129) rfl ?_
      refine pm_iload_n B dX11_countWays_15 rfl ?_
      refine pm_iconst (v := 0) B dX11_countWays_16 (by decide) ?_
      refine pm_iast_n B dX11_countWays_17 pm_up_s j1 (by first | assumption | omega) (by decide) ?_
      refine pm_mem (M' := pm_up M 130 (.inl (kA 0, 141, .inl (upd wy_1 j1 0)))) (by rw [pm_up_up] <;> rfl) ?_
      refine pm_iinc B dX11_countWays_18 rfl rfl rfl ?_
      refine pm_loc (L' := [some (.ref (z + 129)), some (.ref (z + 2)), some (.int x), some (.int (nI (j1 + 1)))]) (by rw [show ((nI j1) : Int32) + Int32.ofInt 1 = (nI (j1 + 1)) from nI_1 _]; rfl) ?_
      refine pm_goto (tgt := 2) B dX11_countWays_21 (by decide) ?_
      have hDq4 : (K1 (d_X11_countWays_L1 (k1 + 1) j1 wy_1)) = (K1 (d_X11_countWays_L1 k1 (j1 + 1) (upd wy_1 j1 0))) := by rw [d_X11_countWays_L1]
      refine pm_pst (post' := pm_rt none nx (pm_up M 130 (.inl (kA 0, 141, .inl (K1 (d_X11_countWays_L1 k1 (j1 + 1) (upd wy_1 j1 0))))))) (by rw [hDq4]) ?_
      exact ih1 (j1 + 1) (by omega) (upd wy_1 j1 0)
  refine pm_pst (post' := pm_rt none nx (pm_up M 130 (.inl (kA 0, 141, .inl (d_X11_countWays_L2 x r n 0 (upd (d_X11_countWays_L1 141 0 wy) 0 1)))))) (by rw [show (d_X11_countWays x n r wy) = (d_X11_countWays_L2 x r n 0 (upd (d_X11_countWays_L1 141 0 wy) 0 1)) from by rw [d_X11_countWays]]) ?_
  refine loop1 (fun (wy_1 : (Nat → Int32)) => (d_X11_countWays_L2 x r n 0 (upd wy_1 0 1))) ?_ 141 0 (by omega) wy
  intro wy_1
  refine pm_pst (post' := pm_rt none nx (pm_up M 130 (.inl (kA 0, 141, .inl (d_X11_countWays_L2 x r n 0 (upd wy_1 0 1)))))) rfl ?_
  refine pm_aload_n B dX11_countWays_24 rfl ?_
  refine pm_get B dX11_countWays_25 fl_X11_9 ((pm_up_n (by omega)).trans hO129) rfl ?_
  refine pm_iconst (v := 0) B dX11_countWays_28 (by decide) ?_
  refine pm_iconst (v := 1) B dX11_countWays_29 (by decide) ?_
  refine pm_iast_n B dX11_countWays_30 pm_up_s 0 (by decide) (by decide) ?_
  refine pm_mem (M' := pm_up M 130 (.inl (kA 0, 141, .inl (upd wy_1 0 1)))) (by rw [pm_up_up] <;> rfl) ?_
  refine pm_iconst (v := 0) B dX11_countWays_31 (by decide) ?_
  refine pm_istore_n B dX11_countWays_32 rfl rfl ?_
  refine pm_loc (L' := [some (.ref (z + 129)), some (.ref (z + 2)), some (.int x), some (.int 0)]) rfl ?_
  refine pm_loc (L' := [some (.ref (z + 129)), some (.ref (z + 2)), some (.int x), some (.int (nI 0))]) rfl ?_
  have loop2 : ∀ (K2 : ((Nat → Int32) → (Nat → Int32))), (∀ (wy_2 : (Nat → Int32)), pm_G l z D X 0 0 (pm_Q z D (pm_rt none nx (pm_up M 130 (.inl (kA 0, 141, .inl (K2 wy_2))))) 0 0 X) nx (pm_up M 130 (.inl (kA 0, 141, .inl wy_2))) 69 [none, none, none, none] []) → ∀ (k2 j2 : Nat), j2 + k2 = n → ∀ (wy_2 : (Nat → Int32)), pm_G l z D X 0 0 (pm_Q z D (pm_rt none nx (pm_up M 130 (.inl (kA 0, 141, .inl (K2 (d_X11_countWays_L2 x r k2 j2 wy_2)))))) 0 0 X) nx (pm_up M 130 (.inl (kA 0, 141, .inl wy_2))) 33 [some (.ref (z + 129)), some (.ref (z + 2)), some (.int x), some (.int (nI j2))] [] := by
    intro K2 hK2 k2
    induction k2 with
    | zero =>
      intro j2 hj2 wy_2
      have hjn2 : j2 = n := by omega
      refine pm_iload_n B dX11_countWays_33 rfl ?_
      refine pm_aload_n B dX11_countWays_34 rfl ?_
      refine pm_get B dX11_countWays_35 fl_X11_21 ((pm_up_n (by omega)).trans (hS.1)) rfl ?_
      refine pm_stk (st' := [.int (nI n), .int (nI j2)]) (by rw [show (r 0) = (nI n) from by rw [hn]]) ?_
      refine pm_icmp_ge (tgt := 69) B dX11_countWays_38 (by decide) (fun hq5 => ?_) (fun hq5 => absurd ((nI_leI (by first | omega | decide) (by first | omega | decide)).mpr (by omega)) hq5)
      refine pm_wk (L' := [none, none, none, none]) trivial ?_
      have hDq6 : (K2 (d_X11_countWays_L2 x r 0 j2 wy_2)) = (K2 wy_2) := by rw [d_X11_countWays_L2]
      refine pm_pst (post' := pm_rt none nx (pm_up M 130 (.inl (kA 0, 141, .inl (K2 wy_2))))) (by rw [hDq6]) ?_
      exact hK2 wy_2
    | succ k2 ih2 =>
      intro j2 hj2 wy_2
      have hjn2 : j2 < n := by omega
      have hvv := (hrw j2 hjn2).2.1.2
      refine pm_iload_n B dX11_countWays_33 rfl ?_
      refine pm_aload_n B dX11_countWays_34 rfl ?_
      refine pm_get B dX11_countWays_35 fl_X11_21 ((pm_up_n (by omega)).trans (hS.1)) rfl ?_
      refine pm_stk (st' := [.int (nI n), .int (nI j2)]) (by rw [show (r 0) = (nI n) from by rw [hn]]) ?_
      refine pm_icmp_ge (tgt := 69) B dX11_countWays_38 (by decide) (fun hq7 => absurd hq7 (fun e => absurd ((nI_leI (by first | omega | decide) (by first | omega | decide)).mp e) (by omega))) (fun hq7 => ?_)
      refine pm_iload_n B dX11_countWays_41 rfl ?_
      refine pm_iload_n B dX11_countWays_42 rfl ?_
      refine pm_ishr B dX11_countWays_43 ?_
      refine pm_iconst (v := 1) B dX11_countWays_44 (by decide) ?_
      refine pm_iand B dX11_countWays_45 ?_
      refine pm_iconst (v := 1) B dX11_countWays_46 (by decide) ?_
      refine pm_icmp_ne (tgt := 63) B dX11_countWays_47 (by decide) (fun hq8 => ?_) (fun hq8 => ?_)
      · refine pm_iinc B dX11_countWays_63 rfl rfl rfl ?_
        refine pm_loc (L' := [some (.ref (z + 129)), some (.ref (z + 2)), some (.int x), some (.int (nI (j2 + 1)))]) (by rw [show ((nI j2) : Int32) + Int32.ofInt 1 = (nI (j2 + 1)) from nI_1 _]; rfl) ?_
        refine pm_goto (tgt := 33) B dX11_countWays_66 (by decide) ?_
        have hDq9 : (K2 (d_X11_countWays_L2 x r (k2 + 1) j2 wy_2)) = (K2 (d_X11_countWays_L2 x r k2 (j2 + 1) wy_2)) := by rw [d_X11_countWays_L2, if_neg hq8]
        refine pm_pst (post' := pm_rt none nx (pm_up M 130 (.inl (kA 0, 141, .inl (K2 (d_X11_countWays_L2 x r k2 (j2 + 1) wy_2)))))) (by rw [hDq9]) ?_
        exact ih2 (j2 + 1) (by omega) wy_2
      · refine pm_aload_n B dX11_countWays_50 rfl ?_
        refine pm_aload_n B dX11_countWays_51 rfl ?_
        refine pm_get B dX11_countWays_52 fl_X11_50 ((pm_up_n (by omega)).trans (hS.1)) rfl ?_
        refine pm_iload_n B dX11_countWays_55 rfl ?_
        refine pm_aald_n B dX11_countWays_56 ((pm_up_n (by omega)).trans (hS.2.1)) rfl j2 (by first | assumption | omega) (by decide) (pm_mr_at (by first | assumption | omega)) ?_
        refine pm_get B dX11_countWays_57 fl_X11_54 ((pm_up_n (by omega)).trans (hS.2.2.1 j2 (by first | assumption | omega))) rfl ?_
        refine pm_stk (st' := [.int (nI (pm_n (r (7 + 6 * j2 + 1)))), .ref (z + 129)]) (congrArg (fun yy : Int32 => ([.int yy, .ref (z + 129)] : List Value)) (show (r (7 + 6 * j2 + 1)) = (nI (pm_n (r (7 + 6 * j2 + 1)))) from (hrw j2 hjn2).2.1.1)) ?_
        refine pm_cV (As := [.int (nI (pm_n (r (7 + 6 * j2 + 1))))]) (mc2 := 0) (ms2 := 0) B rfl ((pm_up_n (by omega)).trans hO129) rfl (c_X11_addVoter (v := (pm_n (r (7 + 6 * j2 + 1)))) (wy := wy_2) pm_up_s ((pm_up_n (by omega)).trans hO129) (by first | assumption | omega) (by first | assumption | omega)) mt_X11_addVoter sv_X11_59 dX11_countWays_60 rfl rfl rfl rfl rfl ?_
        refine pm_mem (M' := pm_up M 130 (.inl (kA 0, 141, .inl (d_X11_addVoter (pm_n (r (7 + 6 * j2 + 1))) wy_2)))) (by rw [pm_up_up (a := 130)] <;> rfl) ?_
        refine pm_stk (st' := []) rfl ?_
        refine pm_iinc B dX11_countWays_63 rfl rfl rfl ?_
        refine pm_loc (L' := [some (.ref (z + 129)), some (.ref (z + 2)), some (.int x), some (.int (nI (j2 + 1)))]) (by rw [show ((nI j2) : Int32) + Int32.ofInt 1 = (nI (j2 + 1)) from nI_1 _]; rfl) ?_
        refine pm_goto (tgt := 33) B dX11_countWays_66 (by decide) ?_
        have hDq10 : (K2 (d_X11_countWays_L2 x r (k2 + 1) j2 wy_2)) = (K2 (d_X11_countWays_L2 x r k2 (j2 + 1) (d_X11_addVoter (pm_n (r (7 + 6 * j2 + 1))) wy_2))) := by rw [d_X11_countWays_L2, if_pos hq8]
        refine pm_pst (post' := pm_rt none nx (pm_up M 130 (.inl (kA 0, 141, .inl (K2 (d_X11_countWays_L2 x r k2 (j2 + 1) (d_X11_addVoter (pm_n (r (7 + 6 * j2 + 1))) wy_2))))))) (by rw [hDq10]) ?_
        exact ih2 (j2 + 1) (by omega) (d_X11_addVoter (pm_n (r (7 + 6 * j2 + 1))) wy_2)
  refine pm_pst (post' := pm_rt none nx (pm_up M 130 (.inl (kA 0, 141, .inl (d_X11_countWays_L2 x r n 0 (upd wy_1 0 1)))))) (by rw [show ((d_X11_countWays_L2 x r n 0 (upd wy_1 0 1))) = (d_X11_countWays_L2 x r n 0 (upd wy_1 0 1)) from rfl]) ?_
  refine loop2 (fun (wy_2 : (Nat → Int32)) => wy_2) ?_ n 0 (by omega) (upd wy_1 0 1)
  intro wy_2
  refine pm_pst (post' := pm_rt none nx (pm_up M 130 (.inl (kA 0, 141, .inl wy_2)))) rfl ?_
  have hDq11 : (wy_2) = wy_2 := rfl
  exact pm_return B dX11_countWays_69 rfl ⟨rfl, rfl, rfl⟩ rfl rfl
def d_X11_swingsByWays_L1 (i : Nat) (n : Nat) (r : Nat → Int32) (wy : Nat → Int32) : Nat → Nat → Int32 → Int32
  | 0, _, a3_1 => a3_1
  | k1 + 1, j1, a3_1 => if (d_X11_isSwing (nI j1) i n r) = 0 then (d_X11_swingsByWays_L1 i n r wy k1 (j1 + 1) a3_1) else (d_X11_swingsByWays_L1 i n r wy k1 (j1 + 1) (a3_1 + ((d_X11_countWays ((d_X10_activeSet n r) &&& ((1 <<< ((nI i) &&& 31)) ^^^ (-1))) n r wy) j1)))
def d_X11_swingsByWays (i : Nat) (n : Nat) (r : Nat → Int32) (wy : Nat → Int32) : (Int32 × (Nat → Int32)) := ((d_X11_swingsByWays_L1 i n r wy 141 0 0), (d_X11_countWays ((d_X10_activeSet n r) &&& ((1 <<< ((nI i) &&& 31)) ^^^ (-1))) n r wy))
set_option maxRecDepth 100000 in
set_option maxHeartbeats 8000000 in
theorem c_X11_swingsByWayss {l : Launch} {z : Nat} {D : va_G} {kA : Nat → ClassId} {kE : Nat → Nat} {nx : Nat} {M : pm_M} {i : Nat} {n : Nat} {r : Nat → Int32} {wy : Nat → Int32} (hS : pm_SA z kA 2 M r) (hwy : M 130 = some (.inl (kA 0, 141, .inl wy))) (hO129 : M 129 = some (.inr (9, [.ref (z + 130)]))) (hn : r 0 = nI n) (h7 : n ≤ 7) (hi : i < 7) (hrw : ∀ i, i < n → pm_rw r i) : pm_C l z D kA kE yX11_swingsByWays cX11_swingsByWays 5 (some .int) 2 0 0 [.ref (z + 129), .ref (z + 2), .int (nI i)] nx M (pm_rt (some (.int ((d_X11_swingsByWays i n r wy).1))) nx (pm_up M 130 (.inl (kA 0, 141, .inl ((d_X11_swingsByWays i n r wy).2))))) := by
  refine pm_mk (own := RX11) (nm := "swingsByWays") mt_X11_swingsByWays rfl rfl rfl rfl fun X B => ?_
  refine pm_loc (L' := [some (.ref (z + 129)), some (.ref (z + 2)), some (.int (nI i)), none, none]) rfl ?_
  refine pm_mem (M' := pm_up M 130 (.inl (kA 0, 141, .inl wy))) (by rw [pm_up_id hwy]) ?_
  refine pm_aload_n B dX11_swingsByWays_0 rfl ?_
  refine pm_aload_n B dX11_swingsByWays_1 rfl ?_
  refine pm_aload_n B dX11_swingsByWays_2 rfl ?_
  refine pm_cV (As := []) (mc2 := 0) (ms2 := 0) B rfl ((pm_up_n (by omega)).trans (hS.1)) rfl (c_X10_activeSets (n := n) (r := r) (pm_SA_up (by omega) hS) hn (by first | assumption | omega)) mt_X10_activeSet sv_X11_15 dX11_swingsByWays_3 rfl rfl rfl rfl rfl ?_
  refine pm_stk (st' := [.int (d_X10_activeSet n r), .ref (z + 2), .ref (z + 129)]) rfl ?_
  refine pm_iconst (v := 1) B dX11_swingsByWays_6 (by decide) ?_
  refine pm_iload_n B dX11_swingsByWays_7 rfl ?_
  refine pm_ishl B dX11_swingsByWays_8 ?_
  refine pm_iconst (v := (-1)) B dX11_swingsByWays_9 (by decide) ?_
  refine pm_ixor B dX11_swingsByWays_10 ?_
  refine pm_iand B dX11_swingsByWays_11 ?_
  refine pm_cV (As := [.ref (z + 2), .int ((d_X10_activeSet n r) &&& ((1 <<< ((nI i) &&& 31)) ^^^ (-1)))]) (mc2 := 0) (ms2 := 0) B rfl ((pm_up_n (by omega)).trans hO129) rfl (c_X11_countWayss (x := ((d_X10_activeSet n r) &&& ((1 <<< ((nI i) &&& 31)) ^^^ (-1)))) (n := n) (r := r) (wy := wy) (pm_SA_up (by omega) hS) pm_up_s ((pm_up_n (by omega)).trans hO129) hn (by first | assumption | omega) (by assumption)) mt_X11_countWays sv_X11_36 dX11_swingsByWays_12 rfl rfl rfl rfl rfl ?_
  refine pm_mem (M' := pm_up M 130 (.inl (kA 0, 141, .inl (d_X11_countWays ((d_X10_activeSet n r) &&& ((1 <<< ((nI i) &&& 31)) ^^^ (-1))) n r wy)))) (by rw [pm_up_up (a := 130)] <;> rfl) ?_
  refine pm_stk (st' := []) rfl ?_
  refine pm_iconst (v := 0) B dX11_swingsByWays_15 (by decide) ?_
  refine pm_istore_n B dX11_swingsByWays_16 rfl rfl ?_
  refine pm_loc (L' := [some (.ref (z + 129)), some (.ref (z + 2)), some (.int (nI i)), some (.int 0), none]) rfl ?_
  refine pm_iconst (v := 0) B dX11_swingsByWays_17 (by decide) ?_
  refine pm_istore B dX11_swingsByWays_18 rfl rfl ?_
  refine pm_loc (L' := [some (.ref (z + 129)), some (.ref (z + 2)), some (.int (nI i)), some (.int 0), some (.int 0)]) rfl ?_
  refine pm_loc (L' := [some (.ref (z + 129)), some (.ref (z + 2)), some (.int (nI i)), some (.int 0), some (.int (nI 0))]) rfl ?_
  have loop1 : ∀ (K1 : (Int32 → (Int32 × (Nat → Int32)))), (∀ (a3_1 : Int32), pm_G l z D X 0 0 (pm_Q z D (pm_rt (some (.int ((K1 a3_1).1))) nx (pm_up M 130 (.inl (kA 0, 141, .inl ((K1 a3_1).2))))) 0 0 X) nx (pm_up M 130 (.inl (kA 0, 141, .inl (d_X11_countWays ((d_X10_activeSet n r) &&& ((1 <<< ((nI i) &&& 31)) ^^^ (-1))) n r wy)))) 56 [none, none, none, some (.int a3_1), none] []) → ∀ (k1 j1 : Nat), j1 + k1 = 141 → ∀ (a3_1 : Int32), pm_G l z D X 0 0 (pm_Q z D (pm_rt (some (.int ((K1 (d_X11_swingsByWays_L1 i n r wy k1 j1 a3_1)).1))) nx (pm_up M 130 (.inl (kA 0, 141, .inl ((K1 (d_X11_swingsByWays_L1 i n r wy k1 j1 a3_1)).2))))) 0 0 X) nx (pm_up M 130 (.inl (kA 0, 141, .inl (d_X11_countWays ((d_X10_activeSet n r) &&& ((1 <<< ((nI i) &&& 31)) ^^^ (-1))) n r wy)))) 20 [some (.ref (z + 129)), some (.ref (z + 2)), some (.int (nI i)), some (.int a3_1), some (.int (nI j1))] [] := by
    intro K1 hK1 k1
    induction k1 with
    | zero =>
      intro j1 hj1 a3_1
      have hjn1 : j1 = 141 := by omega
      refine pm_iload B dX11_swingsByWays_20 rfl ?_
      refine pm_aload_n B dX11_swingsByWays_22 rfl ?_
      refine pm_get B dX11_swingsByWays_23 fl_X11_9 ((pm_up_n (by omega)).trans hO129) rfl ?_
      refine pm_alen B dX11_swingsByWays_26 pm_up_s rfl rfl ?_
      refine pm_stk (st' := [.int (nI 141), .int (nI j1)]) rfl ?_
      refine pm_icmp_ge (tgt := 56) B dX11_swingsByWays_27 (by decide) (fun hq1 => ?_) (fun hq1 => absurd ((nI_leI (by first | omega | decide) (by first | omega | decide)).mpr (by omega)) hq1)
      refine pm_wk (L' := [none, none, none, some (.int a3_1), none]) ⟨rfl, trivial⟩ ?_
      have hDq2 : (K1 (d_X11_swingsByWays_L1 i n r wy 0 j1 a3_1)) = (K1 a3_1) := by rw [d_X11_swingsByWays_L1]
      refine pm_pst (post' := pm_rt (some (.int ((K1 a3_1).1))) nx (pm_up M 130 (.inl (kA 0, 141, .inl ((K1 a3_1).2))))) (by rw [hDq2]) ?_
      exact hK1 a3_1
    | succ k1 ih1 =>
      intro j1 hj1 a3_1
      have hjn1 : j1 < 141 := by omega
      refine pm_iload B dX11_swingsByWays_20 rfl ?_
      refine pm_aload_n B dX11_swingsByWays_22 rfl ?_
      refine pm_get B dX11_swingsByWays_23 fl_X11_9 ((pm_up_n (by omega)).trans hO129) rfl ?_
      refine pm_alen B dX11_swingsByWays_26 pm_up_s rfl rfl ?_
      refine pm_stk (st' := [.int (nI 141), .int (nI j1)]) rfl ?_
      refine pm_icmp_ge (tgt := 56) B dX11_swingsByWays_27 (by decide) (fun hq3 => absurd hq3 (fun e => absurd ((nI_leI (by first | omega | decide) (by first | omega | decide)).mp e) (by omega))) (fun hq3 => ?_)
      refine pm_aload_n B dX11_swingsByWays_30 rfl ?_
      refine pm_iload B dX11_swingsByWays_31 rfl ?_
      refine pm_iload_n B dX11_swingsByWays_33 rfl ?_
      refine pm_cS (As := [.ref (z + 2), .int (nI j1), .int (nI i)]) (mc2 := 0) (ms2 := 0) B (c_X11_isSwings (x := (nI j1)) (i := i) (n := n) (r := r) (pm_SA_up (by omega) hS) hn (by first | assumption | omega) (by first | assumption | omega)) mt_X11_isSwing ss_X11_32 dX11_swingsByWays_34 rfl rfl rfl rfl rfl ?_
      refine pm_stk (st' := [.int (d_X11_isSwing (nI j1) i n r)]) rfl ?_
      refine pm_if_eq (tgt := 50) B dX11_swingsByWays_37 (by decide) (fun hq4 => ?_) (fun hq4 => ?_)
      · refine pm_iinc B dX11_swingsByWays_50 rfl rfl rfl ?_
        refine pm_loc (L' := [some (.ref (z + 129)), some (.ref (z + 2)), some (.int (nI i)), some (.int a3_1), some (.int (nI (j1 + 1)))]) (by rw [show ((nI j1) : Int32) + Int32.ofInt 1 = (nI (j1 + 1)) from nI_1 _]; rfl) ?_
        refine pm_goto (tgt := 20) B dX11_swingsByWays_53 (by decide) ?_
        have hDq5 : (K1 (d_X11_swingsByWays_L1 i n r wy (k1 + 1) j1 a3_1)) = (K1 (d_X11_swingsByWays_L1 i n r wy k1 (j1 + 1) a3_1)) := by rw [d_X11_swingsByWays_L1, if_pos hq4]
        refine pm_pst (post' := pm_rt (some (.int ((K1 (d_X11_swingsByWays_L1 i n r wy k1 (j1 + 1) a3_1)).1))) nx (pm_up M 130 (.inl (kA 0, 141, .inl ((K1 (d_X11_swingsByWays_L1 i n r wy k1 (j1 + 1) a3_1)).2))))) (by rw [hDq5]) ?_
        exact ih1 (j1 + 1) (by omega) a3_1
      · refine pm_iload_n B dX11_swingsByWays_40 rfl ?_
        refine pm_aload_n B dX11_swingsByWays_41 rfl ?_
        refine pm_get B dX11_swingsByWays_42 fl_X11_9 ((pm_up_n (by omega)).trans hO129) rfl ?_
        refine pm_iload B dX11_swingsByWays_45 rfl ?_
        refine pm_iald_n B dX11_swingsByWays_47 pm_up_s j1 (by first | assumption | omega) (by decide) ?_
        refine pm_iadd B dX11_swingsByWays_48 ?_
        refine pm_istore_n B dX11_swingsByWays_49 rfl rfl ?_
        refine pm_loc (L' := [some (.ref (z + 129)), some (.ref (z + 2)), some (.int (nI i)), some (.int (a3_1 + ((d_X11_countWays ((d_X10_activeSet n r) &&& ((1 <<< ((nI i) &&& 31)) ^^^ (-1))) n r wy) j1))), some (.int (nI j1))]) rfl ?_
        refine pm_iinc B dX11_swingsByWays_50 rfl rfl rfl ?_
        refine pm_loc (L' := [some (.ref (z + 129)), some (.ref (z + 2)), some (.int (nI i)), some (.int (a3_1 + ((d_X11_countWays ((d_X10_activeSet n r) &&& ((1 <<< ((nI i) &&& 31)) ^^^ (-1))) n r wy) j1))), some (.int (nI (j1 + 1)))]) (by rw [show ((nI j1) : Int32) + Int32.ofInt 1 = (nI (j1 + 1)) from nI_1 _]; rfl) ?_
        refine pm_goto (tgt := 20) B dX11_swingsByWays_53 (by decide) ?_
        have hDq6 : (K1 (d_X11_swingsByWays_L1 i n r wy (k1 + 1) j1 a3_1)) = (K1 (d_X11_swingsByWays_L1 i n r wy k1 (j1 + 1) (a3_1 + ((d_X11_countWays ((d_X10_activeSet n r) &&& ((1 <<< ((nI i) &&& 31)) ^^^ (-1))) n r wy) j1)))) := by rw [d_X11_swingsByWays_L1, if_neg hq4]
        refine pm_pst (post' := pm_rt (some (.int ((K1 (d_X11_swingsByWays_L1 i n r wy k1 (j1 + 1) (a3_1 + ((d_X11_countWays ((d_X10_activeSet n r) &&& ((1 <<< ((nI i) &&& 31)) ^^^ (-1))) n r wy) j1)))).1))) nx (pm_up M 130 (.inl (kA 0, 141, .inl ((K1 (d_X11_swingsByWays_L1 i n r wy k1 (j1 + 1) (a3_1 + ((d_X11_countWays ((d_X10_activeSet n r) &&& ((1 <<< ((nI i) &&& 31)) ^^^ (-1))) n r wy) j1)))).2))))) (by rw [hDq6]) ?_
        exact ih1 (j1 + 1) (by omega) (a3_1 + ((d_X11_countWays ((d_X10_activeSet n r) &&& ((1 <<< ((nI i) &&& 31)) ^^^ (-1))) n r wy) j1))
  refine pm_pst (post' := pm_rt (some (.int (((d_X11_swingsByWays_L1 i n r wy 141 0 0), (d_X11_countWays ((d_X10_activeSet n r) &&& ((1 <<< ((nI i) &&& 31)) ^^^ (-1))) n r wy)).1))) nx (pm_up M 130 (.inl (kA 0, 141, .inl (((d_X11_swingsByWays_L1 i n r wy 141 0 0), (d_X11_countWays ((d_X10_activeSet n r) &&& ((1 <<< ((nI i) &&& 31)) ^^^ (-1))) n r wy)).2))))) (by rw [show (d_X11_swingsByWays i n r wy) = ((d_X11_swingsByWays_L1 i n r wy 141 0 0), (d_X11_countWays ((d_X10_activeSet n r) &&& ((1 <<< ((nI i) &&& 31)) ^^^ (-1))) n r wy)) from by rw [d_X11_swingsByWays]]) ?_
  refine loop1 (fun (a3_1 : Int32) => (a3_1, (d_X11_countWays ((d_X10_activeSet n r) &&& ((1 <<< ((nI i) &&& 31)) ^^^ (-1))) n r wy))) ?_ 141 0 (by omega) 0
  intro a3_1
  refine pm_pst (post' := pm_rt (some (.int ((a3_1, (d_X11_countWays ((d_X10_activeSet n r) &&& ((1 <<< ((nI i) &&& 31)) ^^^ (-1))) n r wy)).1))) nx (pm_up M 130 (.inl (kA 0, 141, .inl ((a3_1, (d_X11_countWays ((d_X10_activeSet n r) &&& ((1 <<< ((nI i) &&& 31)) ^^^ (-1))) n r wy)).2))))) rfl ?_
  refine pm_iload_n B dX11_swingsByWays_56 rfl ?_
  have hDq7 : ((a3_1, (d_X11_countWays ((d_X10_activeSet n r) &&& ((1 <<< ((nI i) &&& 31)) ^^^ (-1))) n r wy))) = (a3_1, (d_X11_countWays ((d_X10_activeSet n r) &&& ((1 <<< ((nI i) &&& 31)) ^^^ (-1))) n r wy)) := rfl
  exact pm_ireturn B dX11_swingsByWays_57 rfl (by first | rfl | (apply pm_nz; first | assumption | decide | exact pm_in01 _ _ _ | simp)) ⟨rfl, rfl, rfl⟩ rfl rfl
def d_X11_differenceBySums_L1 (n : Nat) (r : Nat → Int32) (wy : Nat → Int32) : Nat → Nat → Int32 → Int32
  | 0, _, a4_1 => a4_1
  | k1 + 1, j1, a4_1 => if ((d_X11_countWays (d_X10_activeSet n r) n r wy) j1) ≤ 0 then (d_X11_differenceBySums_L1 n r wy k1 (j1 + 1) a4_1) else (d_X11_differenceBySums_L1 n r wy k1 (j1 + 1) (pm_min a4_1 (pm_abs ((d_X11_votesOf (d_X10_activeSet n r) n r) - (2 * (nI j1))))))
def d_X11_differenceBySums (n : Nat) (r : Nat → Int32) (wy : Nat → Int32) : (Int32 × (Nat → Int32)) := ((d_X11_differenceBySums_L1 n r wy 141 0 (d_X11_votesOf (d_X10_activeSet n r) n r)), (d_X11_countWays (d_X10_activeSet n r) n r wy))
set_option maxRecDepth 100000 in
set_option maxHeartbeats 8000000 in
theorem c_X11_differenceBySumss {l : Launch} {z : Nat} {D : va_G} {kA : Nat → ClassId} {kE : Nat → Nat} {nx : Nat} {M : pm_M} {n : Nat} {r : Nat → Int32} {wy : Nat → Int32} (hS : pm_SA z kA 2 M r) (hwy : M 130 = some (.inl (kA 0, 141, .inl wy))) (hO129 : M 129 = some (.inr (9, [.ref (z + 130)]))) (hn : r 0 = nI n) (h7 : n ≤ 7) (hrw : ∀ i, i < n → pm_rw r i) : pm_C l z D kA kE yX11_differenceBySums cX11_differenceBySums 6 (some .int) 2 0 0 [.ref (z + 129), .ref (z + 2)] nx M (pm_rt (some (.int ((d_X11_differenceBySums n r wy).1))) nx (pm_up M 130 (.inl (kA 0, 141, .inl ((d_X11_differenceBySums n r wy).2))))) := by
  refine pm_mk (own := RX11) (nm := "differenceBySums") mt_X11_differenceBySums rfl rfl rfl rfl fun X B => ?_
  refine pm_loc (L' := [some (.ref (z + 129)), some (.ref (z + 2)), none, none, none, none]) rfl ?_
  refine pm_mem (M' := pm_up M 130 (.inl (kA 0, 141, .inl wy))) (by rw [pm_up_id hwy]) ?_
  refine pm_aload_n B dX11_differenceBySums_0 rfl ?_
  refine pm_cV (As := []) (mc2 := 0) (ms2 := 0) B rfl ((pm_up_n (by omega)).trans (hS.1)) rfl (c_X10_activeSets (n := n) (r := r) (pm_SA_up (by omega) hS) hn (by first | assumption | omega)) mt_X10_activeSet sv_X11_15 dX11_differenceBySums_1 rfl rfl rfl rfl rfl ?_
  refine pm_stk (st' := [.int (d_X10_activeSet n r)]) rfl ?_
  refine pm_istore_n B dX11_differenceBySums_4 rfl rfl ?_
  refine pm_loc (L' := [some (.ref (z + 129)), some (.ref (z + 2)), some (.int (d_X10_activeSet n r)), none, none, none]) rfl ?_
  refine pm_aload_n B dX11_differenceBySums_5 rfl ?_
  refine pm_iload_n B dX11_differenceBySums_6 rfl ?_
  refine pm_cS (As := [.ref (z + 2), .int (d_X10_activeSet n r)]) (mc2 := 0) (ms2 := 0) B (c_X11_votesOfs (x := (d_X10_activeSet n r)) (n := n) (r := r) (pm_SA_up (by omega) hS) hn (by first | assumption | omega)) mt_X11_votesOf ss_X11_25 dX11_differenceBySums_7 rfl rfl rfl rfl rfl ?_
  refine pm_stk (st' := [.int (d_X11_votesOf (d_X10_activeSet n r) n r)]) rfl ?_
  refine pm_istore_n B dX11_differenceBySums_10 rfl rfl ?_
  refine pm_loc (L' := [some (.ref (z + 129)), some (.ref (z + 2)), some (.int (d_X10_activeSet n r)), some (.int (d_X11_votesOf (d_X10_activeSet n r) n r)), none, none]) rfl ?_
  refine pm_iload_n B dX11_differenceBySums_11 rfl ?_
  refine pm_istore B dX11_differenceBySums_12 rfl rfl ?_
  refine pm_loc (L' := [some (.ref (z + 129)), some (.ref (z + 2)), some (.int (d_X10_activeSet n r)), some (.int (d_X11_votesOf (d_X10_activeSet n r) n r)), some (.int (d_X11_votesOf (d_X10_activeSet n r) n r)), none]) rfl ?_
  refine pm_aload_n B dX11_differenceBySums_14 rfl ?_
  refine pm_aload_n B dX11_differenceBySums_15 rfl ?_
  refine pm_iload_n B dX11_differenceBySums_16 rfl ?_
  refine pm_cV (As := [.ref (z + 2), .int (d_X10_activeSet n r)]) (mc2 := 0) (ms2 := 0) B rfl ((pm_up_n (by omega)).trans hO129) rfl (c_X11_countWayss (x := (d_X10_activeSet n r)) (n := n) (r := r) (wy := wy) (pm_SA_up (by omega) hS) pm_up_s ((pm_up_n (by omega)).trans hO129) hn (by first | assumption | omega) (by assumption)) mt_X11_countWays sv_X11_36 dX11_differenceBySums_17 rfl rfl rfl rfl rfl ?_
  refine pm_mem (M' := pm_up M 130 (.inl (kA 0, 141, .inl (d_X11_countWays (d_X10_activeSet n r) n r wy)))) (by rw [pm_up_up (a := 130)] <;> rfl) ?_
  refine pm_stk (st' := []) rfl ?_
  refine pm_iconst (v := 0) B dX11_differenceBySums_20 (by decide) ?_
  refine pm_istore B dX11_differenceBySums_21 rfl rfl ?_
  refine pm_loc (L' := [some (.ref (z + 129)), some (.ref (z + 2)), some (.int (d_X10_activeSet n r)), some (.int (d_X11_votesOf (d_X10_activeSet n r) n r)), some (.int (d_X11_votesOf (d_X10_activeSet n r) n r)), some (.int 0)]) rfl ?_
  refine pm_wk (L' := [some (.ref (z + 129)), none, none, some (.int (d_X11_votesOf (d_X10_activeSet n r) n r)), some (.int (d_X11_votesOf (d_X10_activeSet n r) n r)), some (.int 0)]) ⟨rfl, ⟨rfl, ⟨rfl, ⟨rfl, trivial⟩⟩⟩⟩ ?_
  refine pm_loc (L' := [some (.ref (z + 129)), none, none, some (.int (d_X11_votesOf (d_X10_activeSet n r) n r)), some (.int (d_X11_votesOf (d_X10_activeSet n r) n r)), some (.int (nI 0))]) rfl ?_
  have loop1 : ∀ (K1 : (Int32 → (Int32 × (Nat → Int32)))), (∀ (a4_1 : Int32), pm_G l z D X 0 0 (pm_Q z D (pm_rt (some (.int ((K1 a4_1).1))) nx (pm_up M 130 (.inl (kA 0, 141, .inl ((K1 a4_1).2))))) 0 0 X) nx (pm_up M 130 (.inl (kA 0, 141, .inl (d_X11_countWays (d_X10_activeSet n r) n r wy)))) 65 [none, none, none, none, some (.int a4_1), none] []) → ∀ (k1 j1 : Nat), j1 + k1 = 141 → ∀ (a4_1 : Int32), pm_G l z D X 0 0 (pm_Q z D (pm_rt (some (.int ((K1 (d_X11_differenceBySums_L1 n r wy k1 j1 a4_1)).1))) nx (pm_up M 130 (.inl (kA 0, 141, .inl ((K1 (d_X11_differenceBySums_L1 n r wy k1 j1 a4_1)).2))))) 0 0 X) nx (pm_up M 130 (.inl (kA 0, 141, .inl (d_X11_countWays (d_X10_activeSet n r) n r wy)))) 23 [some (.ref (z + 129)), none, none, some (.int (d_X11_votesOf (d_X10_activeSet n r) n r)), some (.int a4_1), some (.int (nI j1))] [] := by
    intro K1 hK1 k1
    induction k1 with
    | zero =>
      intro j1 hj1 a4_1
      have hjn1 : j1 = 141 := by omega
      refine pm_iload B dX11_differenceBySums_23 rfl ?_
      refine pm_aload_n B dX11_differenceBySums_25 rfl ?_
      refine pm_get B dX11_differenceBySums_26 fl_X11_9 ((pm_up_n (by omega)).trans hO129) rfl ?_
      refine pm_alen B dX11_differenceBySums_29 pm_up_s rfl rfl ?_
      refine pm_stk (st' := [.int (nI 141), .int (nI j1)]) rfl ?_
      refine pm_icmp_ge (tgt := 65) B dX11_differenceBySums_30 (by decide) (fun hq1 => ?_) (fun hq1 => absurd ((nI_leI (by first | omega | decide) (by first | omega | decide)).mpr (by omega)) hq1)
      refine pm_wk (L' := [none, none, none, none, some (.int a4_1), none]) ⟨rfl, trivial⟩ ?_
      have hDq2 : (K1 (d_X11_differenceBySums_L1 n r wy 0 j1 a4_1)) = (K1 a4_1) := by rw [d_X11_differenceBySums_L1]
      refine pm_pst (post' := pm_rt (some (.int ((K1 a4_1).1))) nx (pm_up M 130 (.inl (kA 0, 141, .inl ((K1 a4_1).2))))) (by rw [hDq2]) ?_
      exact hK1 a4_1
    | succ k1 ih1 =>
      intro j1 hj1 a4_1
      have hjn1 : j1 < 141 := by omega
      refine pm_iload B dX11_differenceBySums_23 rfl ?_
      refine pm_aload_n B dX11_differenceBySums_25 rfl ?_
      refine pm_get B dX11_differenceBySums_26 fl_X11_9 ((pm_up_n (by omega)).trans hO129) rfl ?_
      refine pm_alen B dX11_differenceBySums_29 pm_up_s rfl rfl ?_
      refine pm_stk (st' := [.int (nI 141), .int (nI j1)]) rfl ?_
      refine pm_icmp_ge (tgt := 65) B dX11_differenceBySums_30 (by decide) (fun hq3 => absurd hq3 (fun e => absurd ((nI_leI (by first | omega | decide) (by first | omega | decide)).mp e) (by omega))) (fun hq3 => ?_)
      refine pm_aload_n B dX11_differenceBySums_33 rfl ?_
      refine pm_get B dX11_differenceBySums_34 fl_X11_9 ((pm_up_n (by omega)).trans hO129) rfl ?_
      refine pm_iload B dX11_differenceBySums_37 rfl ?_
      refine pm_iald_n B dX11_differenceBySums_39 pm_up_s j1 (by first | assumption | omega) (by decide) ?_
      refine pm_if_le (tgt := 59) B dX11_differenceBySums_40 (by decide) (fun hq4 => ?_) (fun hq4 => ?_)
      · refine pm_iinc B dX11_differenceBySums_59 rfl rfl rfl ?_
        refine pm_loc (L' := [some (.ref (z + 129)), none, none, some (.int (d_X11_votesOf (d_X10_activeSet n r) n r)), some (.int a4_1), some (.int (nI (j1 + 1)))]) (by rw [show ((nI j1) : Int32) + Int32.ofInt 1 = (nI (j1 + 1)) from nI_1 _]; rfl) ?_
        refine pm_goto (tgt := 23) B dX11_differenceBySums_62 (by decide) ?_
        have hDq5 : (K1 (d_X11_differenceBySums_L1 n r wy (k1 + 1) j1 a4_1)) = (K1 (d_X11_differenceBySums_L1 n r wy k1 (j1 + 1) a4_1)) := by rw [d_X11_differenceBySums_L1, if_pos hq4]
        refine pm_pst (post' := pm_rt (some (.int ((K1 (d_X11_differenceBySums_L1 n r wy k1 (j1 + 1) a4_1)).1))) nx (pm_up M 130 (.inl (kA 0, 141, .inl ((K1 (d_X11_differenceBySums_L1 n r wy k1 (j1 + 1) a4_1)).2))))) (by rw [hDq5]) ?_
        exact ih1 (j1 + 1) (by omega) a4_1
      · refine pm_iload B dX11_differenceBySums_43 rfl ?_
        refine pm_iload_n B dX11_differenceBySums_45 rfl ?_
        refine pm_iconst (v := 2) B dX11_differenceBySums_46 (by decide) ?_
        refine pm_iload B dX11_differenceBySums_47 rfl ?_
        refine pm_imul B dX11_differenceBySums_49 ?_
        refine pm_isub B dX11_differenceBySums_50 ?_
        refine pm_mabs B dX11_differenceBySums_51 (pm_T_in 1126 (by decide +kernel) (by decide +kernel)) rfl rfl rfl rfl ?_
        refine pm_mmin B dX11_differenceBySums_54 (pm_T_in 1127 (by decide +kernel) (by decide +kernel)) rfl rfl rfl rfl ?_
        refine pm_istore B dX11_differenceBySums_57 rfl rfl ?_
        refine pm_loc (L' := [some (.ref (z + 129)), none, none, some (.int (d_X11_votesOf (d_X10_activeSet n r) n r)), some (.int (pm_min a4_1 (pm_abs ((d_X11_votesOf (d_X10_activeSet n r) n r) - (2 * (nI j1)))))), some (.int (nI j1))]) rfl ?_
        refine pm_iinc B dX11_differenceBySums_59 rfl rfl rfl ?_
        refine pm_loc (L' := [some (.ref (z + 129)), none, none, some (.int (d_X11_votesOf (d_X10_activeSet n r) n r)), some (.int (pm_min a4_1 (pm_abs ((d_X11_votesOf (d_X10_activeSet n r) n r) - (2 * (nI j1)))))), some (.int (nI (j1 + 1)))]) (by rw [show ((nI j1) : Int32) + Int32.ofInt 1 = (nI (j1 + 1)) from nI_1 _]; rfl) ?_
        refine pm_goto (tgt := 23) B dX11_differenceBySums_62 (by decide) ?_
        have hDq6 : (K1 (d_X11_differenceBySums_L1 n r wy (k1 + 1) j1 a4_1)) = (K1 (d_X11_differenceBySums_L1 n r wy k1 (j1 + 1) (pm_min a4_1 (pm_abs ((d_X11_votesOf (d_X10_activeSet n r) n r) - (2 * (nI j1))))))) := by rw [d_X11_differenceBySums_L1, if_neg hq4]
        refine pm_pst (post' := pm_rt (some (.int ((K1 (d_X11_differenceBySums_L1 n r wy k1 (j1 + 1) (pm_min a4_1 (pm_abs ((d_X11_votesOf (d_X10_activeSet n r) n r) - (2 * (nI j1))))))).1))) nx (pm_up M 130 (.inl (kA 0, 141, .inl ((K1 (d_X11_differenceBySums_L1 n r wy k1 (j1 + 1) (pm_min a4_1 (pm_abs ((d_X11_votesOf (d_X10_activeSet n r) n r) - (2 * (nI j1))))))).2))))) (by rw [hDq6]) ?_
        exact ih1 (j1 + 1) (by omega) (pm_min a4_1 (pm_abs ((d_X11_votesOf (d_X10_activeSet n r) n r) - (2 * (nI j1)))))
  refine pm_pst (post' := pm_rt (some (.int (((d_X11_differenceBySums_L1 n r wy 141 0 (d_X11_votesOf (d_X10_activeSet n r) n r)), (d_X11_countWays (d_X10_activeSet n r) n r wy)).1))) nx (pm_up M 130 (.inl (kA 0, 141, .inl (((d_X11_differenceBySums_L1 n r wy 141 0 (d_X11_votesOf (d_X10_activeSet n r) n r)), (d_X11_countWays (d_X10_activeSet n r) n r wy)).2))))) (by rw [show (d_X11_differenceBySums n r wy) = ((d_X11_differenceBySums_L1 n r wy 141 0 (d_X11_votesOf (d_X10_activeSet n r) n r)), (d_X11_countWays (d_X10_activeSet n r) n r wy)) from by rw [d_X11_differenceBySums]]) ?_
  refine loop1 (fun (a4_1 : Int32) => (a4_1, (d_X11_countWays (d_X10_activeSet n r) n r wy))) ?_ 141 0 (by omega) (d_X11_votesOf (d_X10_activeSet n r) n r)
  intro a4_1
  refine pm_pst (post' := pm_rt (some (.int ((a4_1, (d_X11_countWays (d_X10_activeSet n r) n r wy)).1))) nx (pm_up M 130 (.inl (kA 0, 141, .inl ((a4_1, (d_X11_countWays (d_X10_activeSet n r) n r wy)).2))))) rfl ?_
  refine pm_iload B dX11_differenceBySums_65 rfl ?_
  have hDq7 : ((a4_1, (d_X11_countWays (d_X10_activeSet n r) n r wy))) = (a4_1, (d_X11_countWays (d_X10_activeSet n r) n r wy)) := rfl
  exact pm_ireturn B dX11_differenceBySums_67 rfl (by first | rfl | (apply pm_nz; first | assumption | decide | exact pm_in01 _ _ _ | simp)) ⟨rfl, rfl, rfl⟩ rfl rfl
