/-! the face: more questions -/
def d_X12_memberByExcess_L1 (x : Int32) (n : Nat) (r : Nat → Int32) (K1 : ((Nat × Int32))) : Nat → Nat → (Nat × Int32)
  | 0, _ => K1 
  | k1 + 1, j1 => if (d_X10_membersAheadOf j1 n r) = x then (0, (nI j1)) else (d_X12_memberByExcess_L1 x n r K1 k1 (j1 + 1))
def d_X12_memberByExcess (x : Int32) (n : Nat) (r : Nat → Int32) (to : Nat → Int32) : (Nat × Int32) := (d_X12_memberByExcess_L1 x n r ((4, 0)) n 0)
set_option maxRecDepth 100000 in
set_option maxHeartbeats 8000000 in
theorem c_X12_memberByExcess {l : Launch} {z : Nat} {D : va_G} {kA : Nat → ClassId} {kE : Nat → Nat} {nx : Nat} {M : pm_M} {x : Int32} {n : Nat} {ldv : Value} {r : Nat → Int32} {to : Nat → Int32} (hS : pm_SA z kA 2 M r) (hto : M 0 = some (.inr (10, [.ref (z + 1), .ref (z + 2), .ref (z + 17), .ref (z + 28), .ref (z + 39), .ref (z + 129), .ref (z + 131), .ref (z + 133), .ref (z + 138), .int (to 9), .int (to 10), .int (to 11), ldv]))) (hn : r 0 = nI n) (h7 : n ≤ 7) : pm_C l z D kA kE yX12_memberByExcess cX12_memberByExcess 3 (some .int) 20 2 12 [.ref (z + 0), .int x] nx M (pm_fp ((d_X12_memberByExcess x n r to).1) (some (.int ((d_X12_memberByExcess x n r to).2))) nx M) := by
  refine pm_mk (own := RX12) (nm := "memberByExcess") mt_X12_memberByExcess rfl rfl rfl rfl fun X B => ?_
  refine pm_loc (L' := [some (.ref (z + 0)), some (.int x), none]) rfl ?_
  refine pm_iconst (v := 0) B dX12_memberByExcess_0 (by decide) ?_
  refine pm_istore_n B dX12_memberByExcess_1 rfl rfl ?_
  refine pm_loc (L' := [some (.ref (z + 0)), some (.int x), some (.int 0)]) rfl ?_
  refine pm_loc (L' := [some (.ref (z + 0)), some (.int x), some (.int (nI 0))]) rfl ?_
  have loop1 : ∀ (K1 : ((Nat × Int32))), ( pm_G l z D X 0 0 (pm_Q z D (pm_fp ((K1 ).1) (some (.int ((K1 ).2))) nx M) 2 12 X) nx M 33 [none, none, none] []) → ∀ (k1 j1 : Nat), j1 + k1 = n → pm_G l z D X 0 0 (pm_Q z D (pm_fp ((d_X12_memberByExcess_L1 x n r K1 k1 j1 ).1) (some (.int ((d_X12_memberByExcess_L1 x n r K1 k1 j1 ).2))) nx M) 2 12 X) nx M 2 [some (.ref (z + 0)), some (.int x), some (.int (nI j1))] [] := by
    intro K1 hK1 k1
    induction k1 with
    | zero =>
      intro j1 hj1
      have hjn1 : j1 = n := by omega
      refine pm_iload_n B dX12_memberByExcess_2 rfl ?_
      refine pm_aload_n B dX12_memberByExcess_3 rfl ?_
      refine pm_get B dX12_memberByExcess_4 fl_X12_20 hto rfl ?_
      refine pm_get B dX12_memberByExcess_7 fl_X12_78 (hS.1) rfl ?_
      refine pm_stk (st' := [.int (nI n), .int (nI j1)]) (by rw [show (r 0) = (nI n) from by rw [hn]]) ?_
      refine pm_icmp_ge (tgt := 33) B dX12_memberByExcess_10 (by decide) (fun hq1 => ?_) (fun hq1 => absurd ((nI_leI (by first | omega | decide) (by first | omega | decide)).mpr (by omega)) hq1)
      refine pm_wk (L' := [none, none, none]) trivial ?_
      have hDq2 : (d_X12_memberByExcess_L1 x n r K1 0 j1 ) = (K1 ) := by rw [d_X12_memberByExcess_L1]
      refine pm_pst (post' := pm_fp ((K1 ).1) (some (.int ((K1 ).2))) nx M) (by rw [hDq2]) ?_
      exact hK1
    | succ k1 ih1 =>
      intro j1 hj1
      have hjn1 : j1 < n := by omega
      refine pm_iload_n B dX12_memberByExcess_2 rfl ?_
      refine pm_aload_n B dX12_memberByExcess_3 rfl ?_
      refine pm_get B dX12_memberByExcess_4 fl_X12_20 hto rfl ?_
      refine pm_get B dX12_memberByExcess_7 fl_X12_78 (hS.1) rfl ?_
      refine pm_stk (st' := [.int (nI n), .int (nI j1)]) (by rw [show (r 0) = (nI n) from by rw [hn]]) ?_
      refine pm_icmp_ge (tgt := 33) B dX12_memberByExcess_10 (by decide) (fun hq3 => absurd hq3 (fun e => absurd ((nI_leI (by first | omega | decide) (by first | omega | decide)).mp e) (by omega))) (fun hq3 => ?_)
      refine pm_aload_n B dX12_memberByExcess_13 rfl ?_
      refine pm_get B dX12_memberByExcess_14 fl_X12_20 hto rfl ?_
      refine pm_iload_n B dX12_memberByExcess_17 rfl ?_
      refine pm_cV (As := [.int (nI j1)]) (mc2 := 0) (ms2 := 0) B rfl (hS.1) rfl (c_X10_membersAheadOfs (i := j1) (n := n) (r := r) hS hn (by first | assumption | omega) (by first | assumption | omega)) mt_X10_membersAheadOf sv_X12_120 dX12_memberByExcess_18 rfl rfl rfl rfl rfl ?_
      refine pm_stk (st' := [.int (d_X10_membersAheadOf j1 n r)]) rfl ?_
      refine pm_iload_n B dX12_memberByExcess_21 rfl ?_
      refine pm_icmp_ne (tgt := 27) B dX12_memberByExcess_22 (by decide) (fun hq4 => ?_) (fun hq4 => ?_)
      · refine pm_iinc B dX12_memberByExcess_27 rfl rfl rfl ?_
        refine pm_loc (L' := [some (.ref (z + 0)), some (.int x), some (.int (nI (j1 + 1)))]) (by rw [show ((nI j1) : Int32) + Int32.ofInt 1 = (nI (j1 + 1)) from nI_1 _]; rfl) ?_
        refine pm_goto (tgt := 2) B dX12_memberByExcess_30 (by decide) ?_
        have hDq5 : (d_X12_memberByExcess_L1 x n r K1 (k1 + 1) j1 ) = (d_X12_memberByExcess_L1 x n r K1 k1 (j1 + 1)) := by rw [d_X12_memberByExcess_L1, if_neg hq4]
        refine pm_pst (post' := pm_fp ((d_X12_memberByExcess_L1 x n r K1 k1 (j1 + 1)).1) (some (.int ((d_X12_memberByExcess_L1 x n r K1 k1 (j1 + 1)).2))) nx M) (by rw [hDq5]) ?_
        exact ih1 (j1 + 1) (by omega)
      · refine pm_iload_n B dX12_memberByExcess_25 rfl ?_
        have hDq6 : (d_X12_memberByExcess_L1 x n r K1 (k1 + 1) j1 ) = (0, (nI j1)) := by rw [d_X12_memberByExcess_L1, if_pos hq4]
        refine pm_pst (post' := pm_fp ((0, (nI j1)).1) (some (.int ((0, (nI j1)).2))) nx M) (by rw [hDq6]) ?_
        exact pm_ireturn B dX12_memberByExcess_26 rfl (by first | rfl | (apply pm_nz; first | assumption | decide | exact pm_in01 _ _ _ | ((repeat' split) <;> first | exact Or.inl rfl | exact Or.inr rfl))) ⟨rfl, Nat.le_refl _, Or.inl ⟨rfl, rfl, rfl⟩⟩ rfl rfl
  refine pm_pst (post' := pm_fp ((d_X12_memberByExcess_L1 x n r ((4, 0)) n 0).1) (some (.int ((d_X12_memberByExcess_L1 x n r ((4, 0)) n 0).2))) nx M) (by rw [show (d_X12_memberByExcess x n r to) = (d_X12_memberByExcess_L1 x n r ((4, 0)) n 0) from by rw [d_X12_memberByExcess]]) ?_
  refine loop1 ((4, 0)) ?_ n 0 (by omega)
  refine pm_pst (post' := pm_fp ((4, 0).1) (some (.int ((4, 0).2))) nx M) rfl ?_
  have hDq7 : ((4, 0)) = (4, 0) := rfl
  refine pm_pst (post' := pm_fp ((4, 0).1) (some (.int ((4, 0).2))) nx M) (rfl) ?_
  exact pm_throwS13 (text := "no such rank") B rfl px_NoSuchElement (by decide) dX12_memberByExcess_33 dX12_memberByExcess_36 dX12_memberByExcess_37 dX12_memberByExcess_39 dX12_memberByExcess_42 rfl rfl rfl rfl (fun n' hn => ⟨rfl, hn, Or.inr ⟨(show (0 : Nat) < 4 by decide), rfl⟩⟩)
def d_X12_areLinked (x : Int32) (y : Int32) (n : Nat) (r : Nat → Int32) (to : Nat → Int32) : (Nat × Int32) := if (d_X10_hasMember x n r) = 0 then (1, 0) else (if (d_X10_hasMember y n r) = 0 then (1, 0) else (0, (if (r (49 + (pm_n x)) >>> (nI (pm_n y) &&& 31)) &&& 1 = 1 then 1 else 0)))
set_option maxRecDepth 100000 in
set_option maxHeartbeats 8000000 in
theorem c_X12_areLinked {l : Launch} {z : Nat} {D : va_G} {kA : Nat → ClassId} {kE : Nat → Nat} {nx : Nat} {M : pm_M} {x : Int32} {y : Int32} {n : Nat} {ldv : Value} {r : Nat → Int32} {to : Nat → Int32} (hS : pm_SA z kA 2 M r) (hto : M 0 = some (.inr (10, [.ref (z + 1), .ref (z + 2), .ref (z + 17), .ref (z + 28), .ref (z + 39), .ref (z + 129), .ref (z + 131), .ref (z + 133), .ref (z + 138), .int (to 9), .int (to 10), .int (to 11), ldv]))) (hn : r 0 = nI n) (h7 : n ≤ 7) : pm_C l z D kA kE yX12_areLinked cX12_areLinked 3 (some .boolean) 20 2 12 [.ref (z + 0), .int x, .int y] nx M (pm_fp ((d_X12_areLinked x y n r to).1) (some (.int ((d_X12_areLinked x y n r to).2))) nx M) := by
  refine pm_mk (own := RX12) (nm := "areLinked") mt_X12_areLinked rfl rfl rfl rfl fun X B => ?_
  refine pm_loc (L' := [some (.ref (z + 0)), some (.int x), some (.int y)]) rfl ?_
  refine pm_aload_n B dX12_areLinked_0 rfl ?_
  refine pm_iload_n B dX12_areLinked_1 rfl ?_
  by_cases hq1 : (d_X10_hasMember x n r) = 0
  · have hDq2 : (d_X12_areLinked x y n r to) = (1, 0) := by rw [d_X12_areLinked, if_pos hq1]
    refine pm_pst (post' := pm_fp ((1, 0).1) (some (.int ((1, 0).2))) nx M) (by rw [hDq2]) ?_
    exact pm_cVt (As := [.int x]) (mc2 := 1) (ms2 := 6) B rfl rfl hto rfl (pm_C_fk (k' := 1) (if_pos hq1) (c_X12_demandMember (ldv := ldv) hS hto hn h7)) (by decide) mt_X12_demandMember sv_X12_82 dX12_areLinked_2 rfl rfl rfl rfl rfl (fun n' hn => ⟨rfl, hn, Or.inr ⟨(show (0 : Nat) < 1 by decide), rfl⟩⟩)
  · refine pm_cV (As := [.int x]) (mc2 := 1) (ms2 := 6) B rfl hto rfl (pm_C_f0 (if_neg hq1) (c_X12_demandMember (ldv := ldv) hS hto hn h7)) mt_X12_demandMember sv_X12_82 dX12_areLinked_2 rfl rfl rfl rfl rfl ?_
    refine pm_stk (st' := []) rfl ?_
    obtain ⟨he_x, hl_x⟩ := d_X10_hasMember_in h7 hq1
    refine pm_loc (L' := [some (.ref (z + 0)), some (.int (nI (pm_n x))), some (.int y)]) (congrArg (fun yy : Int32 => ([some (.ref (z + 0)), some (.int yy), some (.int y)] : List (Option Value))) he_x) ?_
    refine pm_aload_n B dX12_areLinked_5 rfl ?_
    refine pm_iload_n B dX12_areLinked_6 rfl ?_
    by_cases hq3 : (d_X10_hasMember y n r) = 0
    · have hDq4 : (d_X12_areLinked x y n r to) = (1, 0) := by rw [d_X12_areLinked, if_neg hq1, if_pos hq3]
      refine pm_pst (post' := pm_fp ((1, 0).1) (some (.int ((1, 0).2))) nx M) (by rw [hDq4]) ?_
      exact pm_cVt (As := [.int y]) (mc2 := 1) (ms2 := 6) B rfl rfl hto rfl (pm_C_fk (k' := 1) (if_pos hq3) (c_X12_demandMember (ldv := ldv) hS hto hn h7)) (by decide) mt_X12_demandMember sv_X12_82 dX12_areLinked_7 rfl rfl rfl rfl rfl (fun n' hn => ⟨rfl, hn, Or.inr ⟨(show (0 : Nat) < 1 by decide), rfl⟩⟩)
    · refine pm_cV (As := [.int y]) (mc2 := 1) (ms2 := 6) B rfl hto rfl (pm_C_f0 (if_neg hq3) (c_X12_demandMember (ldv := ldv) hS hto hn h7)) mt_X12_demandMember sv_X12_82 dX12_areLinked_7 rfl rfl rfl rfl rfl ?_
      refine pm_stk (st' := []) rfl ?_
      obtain ⟨he_y, hl_y⟩ := d_X10_hasMember_in h7 hq3
      refine pm_loc (L' := [some (.ref (z + 0)), some (.int (nI (pm_n x))), some (.int (nI (pm_n y)))]) (congrArg (fun yy : Int32 => ([some (.ref (z + 0)), some (.int (nI (pm_n x))), some (.int yy)] : List (Option Value))) he_y) ?_
      refine pm_aload_n B dX12_areLinked_10 rfl ?_
      refine pm_get B dX12_areLinked_11 fl_X12_20 hto rfl ?_
      refine pm_get B dX12_areLinked_14 fl_X12_195 (hS.1) rfl ?_
      refine pm_iload_n B dX12_areLinked_17 rfl ?_
      refine pm_iload_n B dX12_areLinked_18 rfl ?_
      refine pm_cV (As := [.int (nI (pm_n x)), .int (nI (pm_n y))]) (mc2 := 0) (ms2 := 0) B rfl (hS.2.2.2.1) rfl (c_X5_connects (g := (fun j => r (49 + j))) (i := pm_n x) (k := pm_n y) (hS.2.2.2.1) (hS.2.2.2.2) (by first | assumption | omega)) mt_X5_connects sv_X12_204 dX12_areLinked_19 rfl rfl rfl rfl rfl ?_
      refine pm_stk (st' := [.int (if (r (49 + (pm_n x)) >>> (nI (pm_n y) &&& 31)) &&& 1 = 1 then 1 else 0)]) rfl ?_
      have hDq5 : (d_X12_areLinked x y n r to) = (0, (if (r (49 + (pm_n x)) >>> (nI (pm_n y) &&& 31)) &&& 1 = 1 then 1 else 0)) := by rw [d_X12_areLinked, if_neg hq1, if_neg hq3]
      refine pm_pst (post' := pm_fp ((0, (if (r (49 + (pm_n x)) >>> (nI (pm_n y) &&& 31)) &&& 1 = 1 then 1 else 0)).1) (some (.int ((0, (if (r (49 + (pm_n x)) >>> (nI (pm_n y) &&& 31)) &&& 1 = 1 then 1 else 0)).2))) nx M) (by rw [hDq5]) ?_
      exact pm_ireturn B dX12_areLinked_22 rfl (by first | rfl | (apply pm_nz; first | assumption | decide | exact pm_in01 _ _ _ | ((repeat' split) <;> first | exact Or.inl rfl | exact Or.inr rfl))) ⟨rfl, Nat.le_refl _, Or.inl ⟨rfl, rfl, rfl⟩⟩ rfl rfl
def d_X12_fewestWatchers (n : Nat) (r : Nat → Int32) (to : Nat → Int32) : (Nat × Int32) := (0, (pm_fw (fun j => r (49 + j)) n (2 ^ n)))
set_option maxRecDepth 100000 in
set_option maxHeartbeats 8000000 in
theorem c_X12_fewestWatchers {l : Launch} {z : Nat} {D : va_G} {kA : Nat → ClassId} {kE : Nat → Nat} {nx : Nat} {M : pm_M} {n : Nat} {ldv : Value} {r : Nat → Int32} {to : Nat → Int32} (hS : pm_SA z kA 2 M r) (hto : M 0 = some (.inr (10, [.ref (z + 1), .ref (z + 2), .ref (z + 17), .ref (z + 28), .ref (z + 39), .ref (z + 129), .ref (z + 131), .ref (z + 133), .ref (z + 138), .int (to 9), .int (to 10), .int (to 11), ldv]))) (hn : r 0 = nI n) (h7 : n ≤ 7) : pm_C l z D kA kE yX12_fewestWatchers cX12_fewestWatchers 1 (some .int) 20 2 12 [.ref (z + 0)] nx M (pm_fp ((d_X12_fewestWatchers n r to).1) (some (.int ((d_X12_fewestWatchers n r to).2))) nx M) := by
  refine pm_mk (own := RX12) (nm := "fewestWatchers") mt_X12_fewestWatchers rfl rfl rfl rfl fun X B => ?_
  refine pm_loc (L' := [some (.ref (z + 0))]) rfl ?_
  refine pm_aload_n B dX12_fewestWatchers_0 rfl ?_
  refine pm_get B dX12_fewestWatchers_1 fl_X12_20 hto rfl ?_
  refine pm_get B dX12_fewestWatchers_4 fl_X12_195 (hS.1) rfl ?_
  refine pm_aload_n B dX12_fewestWatchers_7 rfl ?_
  refine pm_get B dX12_fewestWatchers_8 fl_X12_20 hto rfl ?_
  refine pm_get B dX12_fewestWatchers_11 fl_X12_78 (hS.1) rfl ?_
  refine pm_stk (st' := [.int (nI n), .ref (z + 11)]) (by rw [show (r 0) = (nI n) from by rw [hn]]) ?_
  refine pm_cV (As := [.int (nI n)]) (mc2 := 0) (ms2 := 0) B rfl (hS.2.2.2.1) rfl (c_X5_fewestBySets (g := (fun j => r (49 + j))) (n := n) (hS.2.2.2.1) (hS.2.2.2.2) h7) mt_X5_fewestBySets sv_X12_208 dX12_fewestWatchers_14 rfl rfl rfl rfl rfl ?_
  refine pm_stk (st' := [.int (pm_fw (fun j => r (49 + j)) n (2 ^ n))]) rfl ?_
  have hDq1 : (d_X12_fewestWatchers n r to) = (0, (pm_fw (fun j => r (49 + j)) n (2 ^ n))) := by rw [d_X12_fewestWatchers]
  refine pm_pst (post' := pm_fp ((0, (pm_fw (fun j => r (49 + j)) n (2 ^ n))).1) (some (.int ((0, (pm_fw (fun j => r (49 + j)) n (2 ^ n))).2))) nx M) (by rw [hDq1]) ?_
  exact pm_ireturn B dX12_fewestWatchers_17 rfl (by first | rfl | (apply pm_nz; first | assumption | decide | exact pm_in01 _ _ _ | ((repeat' split) <;> first | exact Or.inl rfl | exact Or.inr rfl))) ⟨rfl, Nat.le_refl _, Or.inl ⟨rfl, rfl, rfl⟩⟩ rfl rfl
def d_X12_fewestWatchersByBranching (n : Nat) (r : Nat → Int32) (to : Nat → Int32) : (Nat × Int32) := (0, (pm_ff (fun j => r (49 + j)) n 0 0))
set_option maxRecDepth 100000 in
set_option maxHeartbeats 8000000 in
theorem c_X12_fewestWatchersByBranching {l : Launch} {z : Nat} {D : va_G} {kA : Nat → ClassId} {kE : Nat → Nat} {nx : Nat} {M : pm_M} {n : Nat} {ldv : Value} {r : Nat → Int32} {to : Nat → Int32} (hS : pm_SA z kA 2 M r) (hto : M 0 = some (.inr (10, [.ref (z + 1), .ref (z + 2), .ref (z + 17), .ref (z + 28), .ref (z + 39), .ref (z + 129), .ref (z + 131), .ref (z + 133), .ref (z + 138), .int (to 9), .int (to 10), .int (to 11), ldv]))) (hn : r 0 = nI n) (h7 : n ≤ 7) : pm_C l z D kA kE yX12_fewestWatchersByBranching cX12_fewestWatchersByBranching 1 (some .int) 20 2 12 [.ref (z + 0)] nx M (pm_fp ((d_X12_fewestWatchersByBranching n r to).1) (some (.int ((d_X12_fewestWatchersByBranching n r to).2))) nx M) := by
  refine pm_mk (own := RX12) (nm := "fewestWatchersByBranching") mt_X12_fewestWatchersByBranching rfl rfl rfl rfl fun X B => ?_
  refine pm_loc (L' := [some (.ref (z + 0))]) rfl ?_
  refine pm_aload_n B dX12_fewestWatchersByBranching_0 rfl ?_
  refine pm_get B dX12_fewestWatchersByBranching_1 fl_X12_20 hto rfl ?_
  refine pm_get B dX12_fewestWatchersByBranching_4 fl_X12_195 (hS.1) rfl ?_
  refine pm_aload_n B dX12_fewestWatchersByBranching_7 rfl ?_
  refine pm_get B dX12_fewestWatchersByBranching_8 fl_X12_20 hto rfl ?_
  refine pm_get B dX12_fewestWatchersByBranching_11 fl_X12_78 (hS.1) rfl ?_
  refine pm_stk (st' := [.int (nI n), .ref (z + 11)]) (by rw [show (r 0) = (nI n) from by rw [hn]]) ?_
  refine pm_iconst (v := 0) B dX12_fewestWatchersByBranching_14 (by decide) ?_
  refine pm_iconst (v := 0) B dX12_fewestWatchersByBranching_15 (by decide) ?_
  refine pm_cSN (As := [.ref (z + 11), .int (nI n), .int 0, .int (nI 0)]) (mc2 := 0) (ms2 := 0) (d2 := n + 1) B (c_X5_fewestFrom (g := (fun j => r (49 + j))) (n := n) (hS.2.2.2.1) (hS.2.2.2.2) h7 n 0 0 (by omega)) mt_X5_fewestFrom ss_X12_211 dX12_fewestWatchersByBranching_16 rfl (Nat.ble_eq_true_of_le (by omega)) rfl rfl rfl ?_
  refine pm_stk (st' := [.int (pm_ff (fun j => r (49 + j)) n 0 0)]) rfl ?_
  have hDq1 : (d_X12_fewestWatchersByBranching n r to) = (0, (pm_ff (fun j => r (49 + j)) n 0 0)) := by rw [d_X12_fewestWatchersByBranching]
  refine pm_pst (post' := pm_fp ((0, (pm_ff (fun j => r (49 + j)) n 0 0)).1) (some (.int ((0, (pm_ff (fun j => r (49 + j)) n 0 0)).2))) nx M) (by rw [hDq1]) ?_
  exact pm_ireturn B dX12_fewestWatchersByBranching_19 rfl (by first | rfl | (apply pm_nz; first | assumption | decide | exact pm_in01 _ _ _ | ((repeat' split) <;> first | exact Or.inl rfl | exact Or.inr rfl))) ⟨rfl, Nat.le_refl _, Or.inl ⟨rfl, rfl, rfl⟩⟩ rfl rfl
def d_X12_winningCoalitions (n : Nat) (r : Nat → Int32) (to : Nat → Int32) : (Nat × Int32) := (0, (d_X11_winners n r))
set_option maxRecDepth 100000 in
set_option maxHeartbeats 8000000 in
theorem c_X12_winningCoalitions {l : Launch} {z : Nat} {D : va_G} {kA : Nat → ClassId} {kE : Nat → Nat} {nx : Nat} {M : pm_M} {n : Nat} {ldv : Value} {r : Nat → Int32} {to : Nat → Int32} (hS : pm_SA z kA 2 M r) (hto : M 0 = some (.inr (10, [.ref (z + 1), .ref (z + 2), .ref (z + 17), .ref (z + 28), .ref (z + 39), .ref (z + 129), .ref (z + 131), .ref (z + 133), .ref (z + 138), .int (to 9), .int (to 10), .int (to 11), ldv]))) (hO129 : M 129 = some (.inr (9, [.ref (z + 130)]))) (hn : r 0 = nI n) (h7 : n ≤ 7) : pm_C l z D kA kE yX12_winningCoalitions cX12_winningCoalitions 1 (some .int) 20 2 12 [.ref (z + 0)] nx M (pm_fp ((d_X12_winningCoalitions n r to).1) (some (.int ((d_X12_winningCoalitions n r to).2))) nx M) := by
  refine pm_mk (own := RX12) (nm := "winningCoalitions") mt_X12_winningCoalitions rfl rfl rfl rfl fun X B => ?_
  refine pm_loc (L' := [some (.ref (z + 0))]) rfl ?_
  refine pm_aload_n B dX12_winningCoalitions_0 rfl ?_
  refine pm_get B dX12_winningCoalitions_1 fl_X12_40 hto rfl ?_
  refine pm_aload_n B dX12_winningCoalitions_4 rfl ?_
  refine pm_get B dX12_winningCoalitions_5 fl_X12_20 hto rfl ?_
  refine pm_cV (As := [.ref (z + 2)]) (mc2 := 0) (ms2 := 0) B rfl hO129 rfl (c_X11_winnerss (n := n) (r := r) hS hn (by first | assumption | omega)) mt_X11_winners sv_X12_218 dX12_winningCoalitions_8 rfl rfl rfl rfl rfl ?_
  refine pm_stk (st' := [.int (d_X11_winners n r)]) rfl ?_
  have hDq1 : (d_X12_winningCoalitions n r to) = (0, (d_X11_winners n r)) := by rw [d_X12_winningCoalitions]
  refine pm_pst (post' := pm_fp ((0, (d_X11_winners n r)).1) (some (.int ((0, (d_X11_winners n r)).2))) nx M) (by rw [hDq1]) ?_
  exact pm_ireturn B dX12_winningCoalitions_11 rfl (by first | rfl | (apply pm_nz; first | assumption | decide | exact pm_in01 _ _ _ | ((repeat' split) <;> first | exact Or.inl rfl | exact Or.inr rfl))) ⟨rfl, Nat.le_refl _, Or.inl ⟨rfl, rfl, rfl⟩⟩ rfl rfl
def d_X12_leastDifference (n : Nat) (r : Nat → Int32) (to : Nat → Int32) : (Nat × Int32) := (0, (d_X11_differenceBySets n r))
set_option maxRecDepth 100000 in
set_option maxHeartbeats 8000000 in
theorem c_X12_leastDifference {l : Launch} {z : Nat} {D : va_G} {kA : Nat → ClassId} {kE : Nat → Nat} {nx : Nat} {M : pm_M} {n : Nat} {ldv : Value} {r : Nat → Int32} {to : Nat → Int32} (hS : pm_SA z kA 2 M r) (hto : M 0 = some (.inr (10, [.ref (z + 1), .ref (z + 2), .ref (z + 17), .ref (z + 28), .ref (z + 39), .ref (z + 129), .ref (z + 131), .ref (z + 133), .ref (z + 138), .int (to 9), .int (to 10), .int (to 11), ldv]))) (hO129 : M 129 = some (.inr (9, [.ref (z + 130)]))) (hn : r 0 = nI n) (h7 : n ≤ 7) : pm_C l z D kA kE yX12_leastDifference cX12_leastDifference 1 (some .int) 20 2 12 [.ref (z + 0)] nx M (pm_fp ((d_X12_leastDifference n r to).1) (some (.int ((d_X12_leastDifference n r to).2))) nx M) := by
  refine pm_mk (own := RX12) (nm := "leastDifference") mt_X12_leastDifference rfl rfl rfl rfl fun X B => ?_
  refine pm_loc (L' := [some (.ref (z + 0))]) rfl ?_
  refine pm_aload_n B dX12_leastDifference_0 rfl ?_
  refine pm_get B dX12_leastDifference_1 fl_X12_40 hto rfl ?_
  refine pm_aload_n B dX12_leastDifference_4 rfl ?_
  refine pm_get B dX12_leastDifference_5 fl_X12_20 hto rfl ?_
  refine pm_cV (As := [.ref (z + 2)]) (mc2 := 0) (ms2 := 0) B rfl hO129 rfl (c_X11_differenceBySetss (n := n) (r := r) hS hn (by first | assumption | omega)) mt_X11_differenceBySets sv_X12_231 dX12_leastDifference_8 rfl rfl rfl rfl rfl ?_
  refine pm_stk (st' := [.int (d_X11_differenceBySets n r)]) rfl ?_
  have hDq1 : (d_X12_leastDifference n r to) = (0, (d_X11_differenceBySets n r)) := by rw [d_X12_leastDifference]
  refine pm_pst (post' := pm_fp ((0, (d_X11_differenceBySets n r)).1) (some (.int ((0, (d_X11_differenceBySets n r)).2))) nx M) (by rw [hDq1]) ?_
  exact pm_ireturn B dX12_leastDifference_11 rfl (by first | rfl | (apply pm_nz; first | assumption | decide | exact pm_in01 _ _ _ | ((repeat' split) <;> first | exact Or.inl rfl | exact Or.inr rfl))) ⟨rfl, Nat.le_refl _, Or.inl ⟨rfl, rfl, rfl⟩⟩ rfl rfl
def d_X12_leastDifferenceBySums (n : Nat) (r : Nat → Int32) (wy : Nat → Int32) (to : Nat → Int32) : (Nat × Int32 × (Nat → Int32)) := (0, ((d_X11_differenceBySums n r wy).1), ((d_X11_differenceBySums n r wy).2))
set_option maxRecDepth 100000 in
set_option maxHeartbeats 8000000 in
theorem c_X12_leastDifferenceBySums {l : Launch} {z : Nat} {D : va_G} {kA : Nat → ClassId} {kE : Nat → Nat} {nx : Nat} {M : pm_M} {n : Nat} {ldv : Value} {r : Nat → Int32} {wy : Nat → Int32} {to : Nat → Int32} (hS : pm_SA z kA 2 M r) (hwy : M 130 = some (.inl (kA 0, 141, .inl wy))) (hto : M 0 = some (.inr (10, [.ref (z + 1), .ref (z + 2), .ref (z + 17), .ref (z + 28), .ref (z + 39), .ref (z + 129), .ref (z + 131), .ref (z + 133), .ref (z + 138), .int (to 9), .int (to 10), .int (to 11), ldv]))) (hO129 : M 129 = some (.inr (9, [.ref (z + 130)]))) (hn : r 0 = nI n) (h7 : n ≤ 7) (hrw : ∀ i, i < n → pm_rw r i) : pm_C l z D kA kE yX12_leastDifferenceBySums cX12_leastDifferenceBySums 1 (some .int) 20 2 12 [.ref (z + 0)] nx M (pm_fp ((d_X12_leastDifferenceBySums n r wy to).1) (some (.int ((d_X12_leastDifferenceBySums n r wy to).2.1))) nx (pm_up M 130 (.inl (kA 0, 141, .inl ((d_X12_leastDifferenceBySums n r wy to).2.2))))) := by
  refine pm_mk (own := RX12) (nm := "leastDifferenceBySums") mt_X12_leastDifferenceBySums rfl rfl rfl rfl fun X B => ?_
  refine pm_loc (L' := [some (.ref (z + 0))]) rfl ?_
  refine pm_mem (M' := pm_up M 130 (.inl (kA 0, 141, .inl wy))) (by rw [pm_up_id hwy]) ?_
  refine pm_aload_n B dX12_leastDifferenceBySums_0 rfl ?_
  refine pm_get B dX12_leastDifferenceBySums_1 fl_X12_40 ((pm_up_n (by omega)).trans hto) rfl ?_
  refine pm_aload_n B dX12_leastDifferenceBySums_4 rfl ?_
  refine pm_get B dX12_leastDifferenceBySums_5 fl_X12_20 ((pm_up_n (by omega)).trans hto) rfl ?_
  refine pm_cV (As := [.ref (z + 2)]) (mc2 := 0) (ms2 := 0) B rfl ((pm_up_n (by omega)).trans hO129) rfl (c_X11_differenceBySumss (n := n) (r := r) (wy := wy) (pm_SA_up (by omega) hS) pm_up_s ((pm_up_n (by omega)).trans hO129) hn (by first | assumption | omega) (by assumption)) mt_X11_differenceBySums sv_X12_234 dX12_leastDifferenceBySums_8 rfl rfl rfl rfl rfl ?_
  refine pm_mem (M' := pm_up M 130 (.inl (kA 0, 141, .inl ((d_X11_differenceBySums n r wy).2)))) (by rw [pm_up_up (a := 130)] <;> rfl) ?_
  refine pm_stk (st' := [.int ((d_X11_differenceBySums n r wy).1)]) rfl ?_
  have hDq1 : (d_X12_leastDifferenceBySums n r wy to) = (0, ((d_X11_differenceBySums n r wy).1), ((d_X11_differenceBySums n r wy).2)) := by rw [d_X12_leastDifferenceBySums]
  refine pm_pst (post' := pm_fp ((0, ((d_X11_differenceBySums n r wy).1), ((d_X11_differenceBySums n r wy).2)).1) (some (.int ((0, ((d_X11_differenceBySums n r wy).1), ((d_X11_differenceBySums n r wy).2)).2.1))) nx (pm_up M 130 (.inl (kA 0, 141, .inl ((0, ((d_X11_differenceBySums n r wy).1), ((d_X11_differenceBySums n r wy).2)).2.2))))) (by rw [hDq1]) ?_
  exact pm_ireturn B dX12_leastDifferenceBySums_11 rfl (by first | rfl | (apply pm_nz; first | assumption | decide | exact pm_in01 _ _ _ | ((repeat' split) <;> first | exact Or.inl rfl | exact Or.inr rfl))) ⟨rfl, Nat.le_refl _, Or.inl ⟨rfl, rfl, rfl⟩⟩ rfl rfl
def d_X12_swings (x : Int32) (n : Nat) (r : Nat → Int32) (to : Nat → Int32) : (Nat × Int32) := if (d_X10_hasMember x n r) = 0 then (1, 0) else (if (r (7 + 6 * (pm_n x) + 5)) = 0 then (0, (d_X11_swingsBySets (pm_n x) n r)) else (4, 0))
set_option maxRecDepth 100000 in
set_option maxHeartbeats 8000000 in
theorem c_X12_swings {l : Launch} {z : Nat} {D : va_G} {kA : Nat → ClassId} {kE : Nat → Nat} {nx : Nat} {M : pm_M} {x : Int32} {n : Nat} {ldv : Value} {r : Nat → Int32} {to : Nat → Int32} (hS : pm_SA z kA 2 M r) (hto : M 0 = some (.inr (10, [.ref (z + 1), .ref (z + 2), .ref (z + 17), .ref (z + 28), .ref (z + 39), .ref (z + 129), .ref (z + 131), .ref (z + 133), .ref (z + 138), .int (to 9), .int (to 10), .int (to 11), ldv]))) (hO129 : M 129 = some (.inr (9, [.ref (z + 130)]))) (hn : r 0 = nI n) (h7 : n ≤ 7) : pm_C l z D kA kE yX12_swings cX12_swings 2 (some .int) 20 2 12 [.ref (z + 0), .int x] nx M (pm_fp ((d_X12_swings x n r to).1) (some (.int ((d_X12_swings x n r to).2))) nx M) := by
  refine pm_mk (own := RX12) (nm := "swings") mt_X12_swings rfl rfl rfl rfl fun X B => ?_
  refine pm_loc (L' := [some (.ref (z + 0)), some (.int x)]) rfl ?_
  refine pm_aload_n B dX12_swings_0 rfl ?_
  refine pm_iload_n B dX12_swings_1 rfl ?_
  by_cases hq1 : (d_X10_hasMember x n r) = 0
  · have hDq2 : (d_X12_swings x n r to) = (1, 0) := by rw [d_X12_swings, if_pos hq1]
    refine pm_pst (post' := pm_fp ((1, 0).1) (some (.int ((1, 0).2))) nx M) (by rw [hDq2]) ?_
    exact pm_cVt (As := [.int x]) (mc2 := 1) (ms2 := 6) B rfl rfl hto rfl (pm_C_fk (k' := 1) (if_pos hq1) (c_X12_demandMember (ldv := ldv) hS hto hn h7)) (by decide) mt_X12_demandMember sv_X12_82 dX12_swings_2 rfl rfl rfl rfl rfl (fun n' hn => ⟨rfl, hn, Or.inr ⟨(show (0 : Nat) < 1 by decide), rfl⟩⟩)
  · refine pm_cV (As := [.int x]) (mc2 := 1) (ms2 := 6) B rfl hto rfl (pm_C_f0 (if_neg hq1) (c_X12_demandMember (ldv := ldv) hS hto hn h7)) mt_X12_demandMember sv_X12_82 dX12_swings_2 rfl rfl rfl rfl rfl ?_
    refine pm_stk (st' := []) rfl ?_
    obtain ⟨he_x, hl_x⟩ := d_X10_hasMember_in h7 hq1
    refine pm_loc (L' := [some (.ref (z + 0)), some (.int (nI (pm_n x)))]) (congrArg (fun yy : Int32 => ([some (.ref (z + 0)), some (.int yy)] : List (Option Value))) he_x) ?_
    refine pm_aload_n B dX12_swings_5 rfl ?_
    refine pm_get B dX12_swings_6 fl_X12_20 hto rfl ?_
    refine pm_get B dX12_swings_9 fl_X12_86 (hS.1) rfl ?_
    refine pm_iload_n B dX12_swings_12 rfl ?_
    refine pm_aald_n B dX12_swings_13 (hS.2.1) rfl (pm_n x) (by first | assumption | omega) (by decide) (pm_mr_at (by first | assumption | omega)) ?_
    refine pm_cV (As := []) (mc2 := 0) (ms2 := 0) B rfl (hS.2.2.1 (pm_n x) (by first | assumption | omega)) rfl (c_X6_isActive (hS.2.2.1 (pm_n x) (by first | assumption | omega))) mt_X6_isActive sv_X12_102 dX12_swings_14 rfl rfl rfl rfl rfl ?_
    refine pm_stk (st' := [.int (if (r (7 + 6 * (pm_n x) + 5)) = 0 then 1 else 0)]) rfl ?_
    refine pm_if_ne (tgt := 30) B dX12_swings_17 (by decide) (fun hq3 => ?_) (fun hq3 => ?_)
    · have hq3p : ((r (7 + 6 * (pm_n x) + 5)) = 0) := Decidable.not_not.mp (fun e => hq3 ((pm_if01 _ _).mpr e))
      refine pm_aload_n B dX12_swings_30 rfl ?_
      refine pm_get B dX12_swings_31 fl_X12_40 hto rfl ?_
      refine pm_aload_n B dX12_swings_34 rfl ?_
      refine pm_get B dX12_swings_35 fl_X12_20 hto rfl ?_
      refine pm_iload_n B dX12_swings_38 rfl ?_
      refine pm_cV (As := [.ref (z + 2), .int (nI (pm_n x))]) (mc2 := 0) (ms2 := 0) B rfl hO129 rfl (c_X11_swingsBySetss (i := (pm_n x)) (n := n) (r := r) hS hn (by first | assumption | omega) (by first | assumption | omega)) mt_X11_swingsBySets sv_X12_224 dX12_swings_39 rfl rfl rfl rfl rfl ?_
      refine pm_stk (st' := [.int (d_X11_swingsBySets (pm_n x) n r)]) rfl ?_
      have hDq4 : (d_X12_swings x n r to) = (0, (d_X11_swingsBySets (pm_n x) n r)) := by rw [d_X12_swings, if_neg hq1, if_pos hq3p]
      refine pm_pst (post' := pm_fp ((0, (d_X11_swingsBySets (pm_n x) n r)).1) (some (.int ((0, (d_X11_swingsBySets (pm_n x) n r)).2))) nx M) (by rw [hDq4]) ?_
      exact pm_ireturn B dX12_swings_42 rfl (by first | rfl | (apply pm_nz; first | assumption | decide | exact pm_in01 _ _ _ | ((repeat' split) <;> first | exact Or.inl rfl | exact Or.inr rfl))) ⟨rfl, Nat.le_refl _, Or.inl ⟨rfl, rfl, rfl⟩⟩ rfl rfl
    · have hq3p : ¬ ((r (7 + 6 * (pm_n x) + 5)) = 0) := (pm_if01 _ _).mp hq3
      have hDq5 : (d_X12_swings x n r to) = (4, 0) := by rw [d_X12_swings, if_neg hq1, if_neg hq3p]
      refine pm_pst (post' := pm_fp ((4, 0).1) (some (.int ((4, 0).2))) nx M) (by rw [hDq5]) ?_
      exact pm_throwS13 (text := "the member is barred") B rfl px_NoSuchElement (by decide) dX12_swings_20 dX12_swings_23 dX12_swings_24 dX12_swings_26 dX12_swings_29 rfl rfl rfl rfl (fun n' hn => ⟨rfl, hn, Or.inr ⟨(show (0 : Nat) < 4 by decide), rfl⟩⟩)
def d_X12_swingsByCounts (x : Int32) (n : Nat) (r : Nat → Int32) (wy : Nat → Int32) (to : Nat → Int32) : (Nat × Int32 × (Nat → Int32)) := if (d_X10_hasMember x n r) = 0 then (1, 0, wy) else (if (r (7 + 6 * (pm_n x) + 5)) = 0 then (0, ((d_X11_swingsByWays (pm_n x) n r wy).1), ((d_X11_swingsByWays (pm_n x) n r wy).2)) else (4, 0, wy))
set_option maxRecDepth 100000 in
set_option maxHeartbeats 8000000 in
theorem c_X12_swingsByCounts {l : Launch} {z : Nat} {D : va_G} {kA : Nat → ClassId} {kE : Nat → Nat} {nx : Nat} {M : pm_M} {x : Int32} {n : Nat} {ldv : Value} {r : Nat → Int32} {wy : Nat → Int32} {to : Nat → Int32} (hS : pm_SA z kA 2 M r) (hwy : M 130 = some (.inl (kA 0, 141, .inl wy))) (hto : M 0 = some (.inr (10, [.ref (z + 1), .ref (z + 2), .ref (z + 17), .ref (z + 28), .ref (z + 39), .ref (z + 129), .ref (z + 131), .ref (z + 133), .ref (z + 138), .int (to 9), .int (to 10), .int (to 11), ldv]))) (hO129 : M 129 = some (.inr (9, [.ref (z + 130)]))) (hn : r 0 = nI n) (h7 : n ≤ 7) (hrw : ∀ i, i < n → pm_rw r i) : pm_C l z D kA kE yX12_swingsByCounts cX12_swingsByCounts 2 (some .int) 20 2 12 [.ref (z + 0), .int x] nx M (pm_fp ((d_X12_swingsByCounts x n r wy to).1) (some (.int ((d_X12_swingsByCounts x n r wy to).2.1))) nx (pm_up M 130 (.inl (kA 0, 141, .inl ((d_X12_swingsByCounts x n r wy to).2.2))))) := by
  refine pm_mk (own := RX12) (nm := "swingsByCounts") mt_X12_swingsByCounts rfl rfl rfl rfl fun X B => ?_
  refine pm_loc (L' := [some (.ref (z + 0)), some (.int x)]) rfl ?_
  refine pm_mem (M' := pm_up M 130 (.inl (kA 0, 141, .inl wy))) (by rw [pm_up_id hwy]) ?_
  refine pm_aload_n B dX12_swingsByCounts_0 rfl ?_
  refine pm_iload_n B dX12_swingsByCounts_1 rfl ?_
  by_cases hq1 : (d_X10_hasMember x n r) = 0
  · have hDq2 : (d_X12_swingsByCounts x n r wy to) = (1, 0, wy) := by rw [d_X12_swingsByCounts, if_pos hq1]
    refine pm_pst (post' := pm_fp ((1, 0, wy).1) (some (.int ((1, 0, wy).2.1))) nx (pm_up M 130 (.inl (kA 0, 141, .inl ((1, 0, wy).2.2))))) (by rw [hDq2]) ?_
    exact pm_cVt (As := [.int x]) (mc2 := 1) (ms2 := 6) B rfl rfl ((pm_up_n (by omega)).trans hto) rfl (pm_C_fk (k' := 1) (if_pos hq1) (c_X12_demandMember (ldv := ldv) (pm_SA_up (by omega) hS) ((pm_up_n (by omega)).trans hto) hn h7)) (by decide) mt_X12_demandMember sv_X12_82 dX12_swingsByCounts_2 rfl rfl rfl rfl rfl (fun n' hn => ⟨rfl, hn, Or.inr ⟨(show (0 : Nat) < 1 by decide), rfl⟩⟩)
  · refine pm_cV (As := [.int x]) (mc2 := 1) (ms2 := 6) B rfl ((pm_up_n (by omega)).trans hto) rfl (pm_C_f0 (if_neg hq1) (c_X12_demandMember (ldv := ldv) (pm_SA_up (by omega) hS) ((pm_up_n (by omega)).trans hto) hn h7)) mt_X12_demandMember sv_X12_82 dX12_swingsByCounts_2 rfl rfl rfl rfl rfl ?_
    refine pm_stk (st' := []) rfl ?_
    obtain ⟨he_x, hl_x⟩ := d_X10_hasMember_in h7 hq1
    refine pm_loc (L' := [some (.ref (z + 0)), some (.int (nI (pm_n x)))]) (congrArg (fun yy : Int32 => ([some (.ref (z + 0)), some (.int yy)] : List (Option Value))) he_x) ?_
    refine pm_aload_n B dX12_swingsByCounts_5 rfl ?_
    refine pm_get B dX12_swingsByCounts_6 fl_X12_20 ((pm_up_n (by omega)).trans hto) rfl ?_
    refine pm_get B dX12_swingsByCounts_9 fl_X12_86 ((pm_up_n (by omega)).trans (hS.1)) rfl ?_
    refine pm_iload_n B dX12_swingsByCounts_12 rfl ?_
    refine pm_aald_n B dX12_swingsByCounts_13 ((pm_up_n (by omega)).trans (hS.2.1)) rfl (pm_n x) (by first | assumption | omega) (by decide) (pm_mr_at (by first | assumption | omega)) ?_
    refine pm_cV (As := []) (mc2 := 0) (ms2 := 0) B rfl ((pm_up_n (by omega)).trans (hS.2.2.1 (pm_n x) (by first | assumption | omega))) rfl (c_X6_isActive ((pm_up_n (by omega)).trans (hS.2.2.1 (pm_n x) (by first | assumption | omega)))) mt_X6_isActive sv_X12_102 dX12_swingsByCounts_14 rfl rfl rfl rfl rfl ?_
    refine pm_stk (st' := [.int (if (r (7 + 6 * (pm_n x) + 5)) = 0 then 1 else 0)]) rfl ?_
    refine pm_if_ne (tgt := 30) B dX12_swingsByCounts_17 (by decide) (fun hq3 => ?_) (fun hq3 => ?_)
    · have hq3p : ((r (7 + 6 * (pm_n x) + 5)) = 0) := Decidable.not_not.mp (fun e => hq3 ((pm_if01 _ _).mpr e))
      refine pm_aload_n B dX12_swingsByCounts_30 rfl ?_
      refine pm_get B dX12_swingsByCounts_31 fl_X12_40 ((pm_up_n (by omega)).trans hto) rfl ?_
      refine pm_aload_n B dX12_swingsByCounts_34 rfl ?_
      refine pm_get B dX12_swingsByCounts_35 fl_X12_20 ((pm_up_n (by omega)).trans hto) rfl ?_
      refine pm_iload_n B dX12_swingsByCounts_38 rfl ?_
      refine pm_cV (As := [.ref (z + 2), .int (nI (pm_n x))]) (mc2 := 0) (ms2 := 0) B rfl ((pm_up_n (by omega)).trans hO129) rfl (c_X11_swingsByWayss (i := (pm_n x)) (n := n) (r := r) (wy := wy) (pm_SA_up (by omega) hS) pm_up_s ((pm_up_n (by omega)).trans hO129) hn (by first | assumption | omega) (by first | assumption | omega) (by assumption)) mt_X11_swingsByWays sv_X12_228 dX12_swingsByCounts_39 rfl rfl rfl rfl rfl ?_
      refine pm_mem (M' := pm_up M 130 (.inl (kA 0, 141, .inl ((d_X11_swingsByWays (pm_n x) n r wy).2)))) (by rw [pm_up_up (a := 130)] <;> rfl) ?_
      refine pm_stk (st' := [.int ((d_X11_swingsByWays (pm_n x) n r wy).1)]) rfl ?_
      have hDq4 : (d_X12_swingsByCounts x n r wy to) = (0, ((d_X11_swingsByWays (pm_n x) n r wy).1), ((d_X11_swingsByWays (pm_n x) n r wy).2)) := by rw [d_X12_swingsByCounts, if_neg hq1, if_pos hq3p]
      refine pm_pst (post' := pm_fp ((0, ((d_X11_swingsByWays (pm_n x) n r wy).1), ((d_X11_swingsByWays (pm_n x) n r wy).2)).1) (some (.int ((0, ((d_X11_swingsByWays (pm_n x) n r wy).1), ((d_X11_swingsByWays (pm_n x) n r wy).2)).2.1))) nx (pm_up M 130 (.inl (kA 0, 141, .inl ((0, ((d_X11_swingsByWays (pm_n x) n r wy).1), ((d_X11_swingsByWays (pm_n x) n r wy).2)).2.2))))) (by rw [hDq4]) ?_
      exact pm_ireturn B dX12_swingsByCounts_42 rfl (by first | rfl | (apply pm_nz; first | assumption | decide | exact pm_in01 _ _ _ | ((repeat' split) <;> first | exact Or.inl rfl | exact Or.inr rfl))) ⟨rfl, Nat.le_refl _, Or.inl ⟨rfl, rfl, rfl⟩⟩ rfl rfl
    · have hq3p : ¬ ((r (7 + 6 * (pm_n x) + 5)) = 0) := (pm_if01 _ _).mp hq3
      have hDq5 : (d_X12_swingsByCounts x n r wy to) = (4, 0, wy) := by rw [d_X12_swingsByCounts, if_neg hq1, if_neg hq3p]
      refine pm_pst (post' := pm_fp ((4, 0, wy).1) (some (.int ((4, 0, wy).2.1))) nx (pm_up M 130 (.inl (kA 0, 141, .inl ((4, 0, wy).2.2))))) (by rw [hDq5]) ?_
      exact pm_throwS13 (text := "the member is barred") B rfl px_NoSuchElement (by decide) dX12_swingsByCounts_20 dX12_swingsByCounts_23 dX12_swingsByCounts_24 dX12_swingsByCounts_26 dX12_swingsByCounts_29 rfl rfl rfl rfl (fun n' hn => ⟨rfl, hn, Or.inr ⟨(show (0 : Nat) < 4 by decide), rfl⟩⟩)
def d_X12_share (x : Int32) (n : Nat) (r : Nat → Int32) (un : Nat → Int32) (cu : Nat → Int32) (to : Nat → Int32) : (Nat × Int32 × (Nat → Int32) × (Nat → Int32)) := if (d_X10_hasMember x n r) = 0 then (1, 0, un, cu) else (0, ((d_X3_byOrders (pm_n x) n r un cu).1), ((d_X3_byOrders (pm_n x) n r un cu).2.1), ((d_X3_byOrders (pm_n x) n r un cu).2.2))
set_option maxRecDepth 100000 in
set_option maxHeartbeats 8000000 in
theorem c_X12_share {l : Launch} {z : Nat} {D : va_G} {kA : Nat → ClassId} {kE : Nat → Nat} {nx : Nat} {M : pm_M} {x : Int32} {n : Nat} {ldv : Value} {r : Nat → Int32} {un : Nat → Int32} {cu : Nat → Int32} {to : Nat → Int32} (hS : pm_SA z kA 2 M r) (hun : M 132 = some (.inl (kA 0, 7, .inl un))) (hcu : M 131 = some (.inr (1, [.ref (z + 132), .int (cu 1)]))) (hto : M 0 = some (.inr (10, [.ref (z + 1), .ref (z + 2), .ref (z + 17), .ref (z + 28), .ref (z + 39), .ref (z + 129), .ref (z + 131), .ref (z + 133), .ref (z + 138), .int (to 9), .int (to 10), .int (to 11), ldv]))) (hn : r 0 = nI n) (h7 : n ≤ 7) : pm_C l z D kA kE yX12_share cX12_share 2 (some .int) 20 2 12 [.ref (z + 0), .int x] nx M (pm_fp ((d_X12_share x n r un cu to).1) (some (.int ((d_X12_share x n r un cu to).2.1))) nx (pm_up (pm_up M 132 (.inl (kA 0, 7, .inl ((d_X12_share x n r un cu to).2.2.1)))) 131 (.inr (1, [.ref (z + 132), .int (((d_X12_share x n r un cu to).2.2.2) 1)])))) := by
  refine pm_mk (own := RX12) (nm := "share") mt_X12_share rfl rfl rfl rfl fun X B => ?_
  refine pm_loc (L' := [some (.ref (z + 0)), some (.int x)]) rfl ?_
  refine pm_mem (M' := pm_up (pm_up M 132 (.inl (kA 0, 7, .inl un))) 131 (.inr (1, [.ref (z + 132), .int (cu 1)]))) (by rw [pm_up_id hun, pm_up_id hcu]) ?_
  refine pm_aload_n B dX12_share_0 rfl ?_
  refine pm_iload_n B dX12_share_1 rfl ?_
  by_cases hq1 : (d_X10_hasMember x n r) = 0
  · have hDq2 : (d_X12_share x n r un cu to) = (1, 0, un, cu) := by rw [d_X12_share, if_pos hq1]
    refine pm_pst (post' := pm_fp ((1, 0, un, cu).1) (some (.int ((1, 0, un, cu).2.1))) nx (pm_up (pm_up M 132 (.inl (kA 0, 7, .inl ((1, 0, un, cu).2.2.1)))) 131 (.inr (1, [.ref (z + 132), .int (((1, 0, un, cu).2.2.2) 1)])))) (by rw [hDq2]) ?_
    exact pm_cVt (As := [.int x]) (mc2 := 1) (ms2 := 6) B rfl rfl ((pm_up_n (by omega)).trans ((pm_up_n (by omega)).trans hto)) rfl (pm_C_fk (k' := 1) (if_pos hq1) (c_X12_demandMember (ldv := ldv) (pm_SA_up (by omega) (pm_SA_up (by omega) hS)) ((pm_up_n (by omega)).trans ((pm_up_n (by omega)).trans hto)) hn h7)) (by decide) mt_X12_demandMember sv_X12_82 dX12_share_2 rfl rfl rfl rfl rfl (fun n' hn => ⟨rfl, hn, Or.inr ⟨(show (0 : Nat) < 1 by decide), rfl⟩⟩)
  · refine pm_cV (As := [.int x]) (mc2 := 1) (ms2 := 6) B rfl ((pm_up_n (by omega)).trans ((pm_up_n (by omega)).trans hto)) rfl (pm_C_f0 (if_neg hq1) (c_X12_demandMember (ldv := ldv) (pm_SA_up (by omega) (pm_SA_up (by omega) hS)) ((pm_up_n (by omega)).trans ((pm_up_n (by omega)).trans hto)) hn h7)) mt_X12_demandMember sv_X12_82 dX12_share_2 rfl rfl rfl rfl rfl ?_
    refine pm_stk (st' := []) rfl ?_
    obtain ⟨he_x, hl_x⟩ := d_X10_hasMember_in h7 hq1
    refine pm_loc (L' := [some (.ref (z + 0)), some (.int (nI (pm_n x)))]) (congrArg (fun yy : Int32 => ([some (.ref (z + 0)), some (.int yy)] : List (Option Value))) he_x) ?_
    refine pm_aload_n B dX12_share_5 rfl ?_
    refine pm_get B dX12_share_6 fl_X12_47 ((pm_up_n (by omega)).trans ((pm_up_n (by omega)).trans hto)) rfl ?_
    refine pm_aload_n B dX12_share_9 rfl ?_
    refine pm_get B dX12_share_10 fl_X12_20 ((pm_up_n (by omega)).trans ((pm_up_n (by omega)).trans hto)) rfl ?_
    refine pm_iload_n B dX12_share_13 rfl ?_
    refine pm_cV (As := [.ref (z + 2), .int (nI (pm_n x))]) (mc2 := 0) (ms2 := 0) B rfl pm_up_s rfl (c_X3_byOrders (i := (pm_n x)) (n := n) (r := r) (un := un) (cu := cu) (pm_SA_up (by omega) (pm_SA_up (by omega) hS)) ((pm_up_n (by omega)).trans pm_up_s) pm_up_s hn (by first | assumption | omega) (by first | assumption | omega)) mt_X3_byOrders sv_X12_237 dX12_share_14 rfl rfl rfl rfl rfl ?_
    refine pm_mem (M' := pm_up (pm_up M 132 (.inl (kA 0, 7, .inl ((d_X3_byOrders (pm_n x) n r un cu).2.1)))) 131 (.inr (1, [.ref (z + 132), .int (((d_X3_byOrders (pm_n x) n r un cu).2.2) 1)]))) (by rw [pm_up_sw (a := 131) (b := 132) (by omega), pm_up_up (a := 132), pm_up_up (a := 131)] <;> rfl) ?_
    refine pm_stk (st' := [.int ((d_X3_byOrders (pm_n x) n r un cu).1)]) rfl ?_
    have hDq3 : (d_X12_share x n r un cu to) = (0, ((d_X3_byOrders (pm_n x) n r un cu).1), ((d_X3_byOrders (pm_n x) n r un cu).2.1), ((d_X3_byOrders (pm_n x) n r un cu).2.2)) := by rw [d_X12_share, if_neg hq1]
    refine pm_pst (post' := pm_fp ((0, ((d_X3_byOrders (pm_n x) n r un cu).1), ((d_X3_byOrders (pm_n x) n r un cu).2.1), ((d_X3_byOrders (pm_n x) n r un cu).2.2)).1) (some (.int ((0, ((d_X3_byOrders (pm_n x) n r un cu).1), ((d_X3_byOrders (pm_n x) n r un cu).2.1), ((d_X3_byOrders (pm_n x) n r un cu).2.2)).2.1))) nx (pm_up (pm_up M 132 (.inl (kA 0, 7, .inl ((0, ((d_X3_byOrders (pm_n x) n r un cu).1), ((d_X3_byOrders (pm_n x) n r un cu).2.1), ((d_X3_byOrders (pm_n x) n r un cu).2.2)).2.2.1)))) 131 (.inr (1, [.ref (z + 132), .int (((0, ((d_X3_byOrders (pm_n x) n r un cu).1), ((d_X3_byOrders (pm_n x) n r un cu).2.1), ((d_X3_byOrders (pm_n x) n r un cu).2.2)).2.2.2) 1)])))) (by rw [hDq3]) ?_
    exact pm_ireturn B dX12_share_17 rfl (by first | rfl | (apply pm_nz; first | assumption | decide | exact pm_in01 _ _ _ | ((repeat' split) <;> first | exact Or.inl rfl | exact Or.inr rfl))) ⟨rfl, Nat.le_refl _, Or.inl ⟨rfl, rfl, rfl⟩⟩ rfl rfl
def d_X12_shareBySteps (x : Int32) (n : Nat) (r : Nat → Int32) (un : Nat → Int32) (cu : Nat → Int32) (to : Nat → Int32) : (Nat × Int32 × (Nat → Int32) × (Nat → Int32)) := if (d_X10_hasMember x n r) = 0 then (1, 0, un, cu) else (0, ((d_X3_bySteps (pm_n x) n r un cu).1), ((d_X3_bySteps (pm_n x) n r un cu).2.1), ((d_X3_bySteps (pm_n x) n r un cu).2.2))
set_option maxRecDepth 100000 in
set_option maxHeartbeats 8000000 in
theorem c_X12_shareBySteps {l : Launch} {z : Nat} {D : va_G} {kA : Nat → ClassId} {kE : Nat → Nat} {nx : Nat} {M : pm_M} {x : Int32} {n : Nat} {ldv : Value} {r : Nat → Int32} {un : Nat → Int32} {cu : Nat → Int32} {to : Nat → Int32} (hS : pm_SA z kA 2 M r) (hun : M 132 = some (.inl (kA 0, 7, .inl un))) (hcu : M 131 = some (.inr (1, [.ref (z + 132), .int (cu 1)]))) (hto : M 0 = some (.inr (10, [.ref (z + 1), .ref (z + 2), .ref (z + 17), .ref (z + 28), .ref (z + 39), .ref (z + 129), .ref (z + 131), .ref (z + 133), .ref (z + 138), .int (to 9), .int (to 10), .int (to 11), ldv]))) (hn : r 0 = nI n) (h7 : n ≤ 7) : pm_C l z D kA kE yX12_shareBySteps cX12_shareBySteps 2 (some .int) 20 2 12 [.ref (z + 0), .int x] nx M (pm_fp ((d_X12_shareBySteps x n r un cu to).1) (some (.int ((d_X12_shareBySteps x n r un cu to).2.1))) nx (pm_up (pm_up M 132 (.inl (kA 0, 7, .inl ((d_X12_shareBySteps x n r un cu to).2.2.1)))) 131 (.inr (1, [.ref (z + 132), .int (((d_X12_shareBySteps x n r un cu to).2.2.2) 1)])))) := by
  refine pm_mk (own := RX12) (nm := "shareBySteps") mt_X12_shareBySteps rfl rfl rfl rfl fun X B => ?_
  refine pm_loc (L' := [some (.ref (z + 0)), some (.int x)]) rfl ?_
  refine pm_mem (M' := pm_up (pm_up M 132 (.inl (kA 0, 7, .inl un))) 131 (.inr (1, [.ref (z + 132), .int (cu 1)]))) (by rw [pm_up_id hun, pm_up_id hcu]) ?_
  refine pm_aload_n B dX12_shareBySteps_0 rfl ?_
  refine pm_iload_n B dX12_shareBySteps_1 rfl ?_
  by_cases hq1 : (d_X10_hasMember x n r) = 0
  · have hDq2 : (d_X12_shareBySteps x n r un cu to) = (1, 0, un, cu) := by rw [d_X12_shareBySteps, if_pos hq1]
    refine pm_pst (post' := pm_fp ((1, 0, un, cu).1) (some (.int ((1, 0, un, cu).2.1))) nx (pm_up (pm_up M 132 (.inl (kA 0, 7, .inl ((1, 0, un, cu).2.2.1)))) 131 (.inr (1, [.ref (z + 132), .int (((1, 0, un, cu).2.2.2) 1)])))) (by rw [hDq2]) ?_
    exact pm_cVt (As := [.int x]) (mc2 := 1) (ms2 := 6) B rfl rfl ((pm_up_n (by omega)).trans ((pm_up_n (by omega)).trans hto)) rfl (pm_C_fk (k' := 1) (if_pos hq1) (c_X12_demandMember (ldv := ldv) (pm_SA_up (by omega) (pm_SA_up (by omega) hS)) ((pm_up_n (by omega)).trans ((pm_up_n (by omega)).trans hto)) hn h7)) (by decide) mt_X12_demandMember sv_X12_82 dX12_shareBySteps_2 rfl rfl rfl rfl rfl (fun n' hn => ⟨rfl, hn, Or.inr ⟨(show (0 : Nat) < 1 by decide), rfl⟩⟩)
  · refine pm_cV (As := [.int x]) (mc2 := 1) (ms2 := 6) B rfl ((pm_up_n (by omega)).trans ((pm_up_n (by omega)).trans hto)) rfl (pm_C_f0 (if_neg hq1) (c_X12_demandMember (ldv := ldv) (pm_SA_up (by omega) (pm_SA_up (by omega) hS)) ((pm_up_n (by omega)).trans ((pm_up_n (by omega)).trans hto)) hn h7)) mt_X12_demandMember sv_X12_82 dX12_shareBySteps_2 rfl rfl rfl rfl rfl ?_
    refine pm_stk (st' := []) rfl ?_
    obtain ⟨he_x, hl_x⟩ := d_X10_hasMember_in h7 hq1
    refine pm_loc (L' := [some (.ref (z + 0)), some (.int (nI (pm_n x)))]) (congrArg (fun yy : Int32 => ([some (.ref (z + 0)), some (.int yy)] : List (Option Value))) he_x) ?_
    refine pm_aload_n B dX12_shareBySteps_5 rfl ?_
    refine pm_get B dX12_shareBySteps_6 fl_X12_47 ((pm_up_n (by omega)).trans ((pm_up_n (by omega)).trans hto)) rfl ?_
    refine pm_aload_n B dX12_shareBySteps_9 rfl ?_
    refine pm_get B dX12_shareBySteps_10 fl_X12_20 ((pm_up_n (by omega)).trans ((pm_up_n (by omega)).trans hto)) rfl ?_
    refine pm_iload_n B dX12_shareBySteps_13 rfl ?_
    refine pm_cV (As := [.ref (z + 2), .int (nI (pm_n x))]) (mc2 := 0) (ms2 := 0) B rfl pm_up_s rfl (c_X3_bySteps (i := (pm_n x)) (n := n) (r := r) (un := un) (cu := cu) (pm_SA_up (by omega) (pm_SA_up (by omega) hS)) ((pm_up_n (by omega)).trans pm_up_s) pm_up_s hn (by first | assumption | omega) (by first | assumption | omega)) mt_X3_bySteps sv_X12_240 dX12_shareBySteps_14 rfl rfl rfl rfl rfl ?_
    refine pm_mem (M' := pm_up (pm_up M 132 (.inl (kA 0, 7, .inl ((d_X3_bySteps (pm_n x) n r un cu).2.1)))) 131 (.inr (1, [.ref (z + 132), .int (((d_X3_bySteps (pm_n x) n r un cu).2.2) 1)]))) (by rw [pm_up_sw (a := 131) (b := 132) (by omega), pm_up_up (a := 132), pm_up_up (a := 131)] <;> rfl) ?_
    refine pm_stk (st' := [.int ((d_X3_bySteps (pm_n x) n r un cu).1)]) rfl ?_
    have hDq3 : (d_X12_shareBySteps x n r un cu to) = (0, ((d_X3_bySteps (pm_n x) n r un cu).1), ((d_X3_bySteps (pm_n x) n r un cu).2.1), ((d_X3_bySteps (pm_n x) n r un cu).2.2)) := by rw [d_X12_shareBySteps, if_neg hq1]
    refine pm_pst (post' := pm_fp ((0, ((d_X3_bySteps (pm_n x) n r un cu).1), ((d_X3_bySteps (pm_n x) n r un cu).2.1), ((d_X3_bySteps (pm_n x) n r un cu).2.2)).1) (some (.int ((0, ((d_X3_bySteps (pm_n x) n r un cu).1), ((d_X3_bySteps (pm_n x) n r un cu).2.1), ((d_X3_bySteps (pm_n x) n r un cu).2.2)).2.1))) nx (pm_up (pm_up M 132 (.inl (kA 0, 7, .inl ((0, ((d_X3_bySteps (pm_n x) n r un cu).1), ((d_X3_bySteps (pm_n x) n r un cu).2.1), ((d_X3_bySteps (pm_n x) n r un cu).2.2)).2.2.1)))) 131 (.inr (1, [.ref (z + 132), .int (((0, ((d_X3_bySteps (pm_n x) n r un cu).1), ((d_X3_bySteps (pm_n x) n r un cu).2.1), ((d_X3_bySteps (pm_n x) n r un cu).2.2)).2.2.2) 1)])))) (by rw [hDq3]) ?_
    exact pm_ireturn B dX12_shareBySteps_17 rfl (by first | rfl | (apply pm_nz; first | assumption | decide | exact pm_in01 _ _ _ | ((repeat' split) <;> first | exact Or.inl rfl | exact Or.inr rfl))) ⟨rfl, Nat.le_refl _, Or.inl ⟨rfl, rfl, rfl⟩⟩ rfl rfl
def d_X12_quotaBy (x : Int32) (y : Int32) (w : Int32) (n : Nat) (r : Nat → Int32) (q : Nat → Int32) (rm : Nat → Int32) (to : Nat → Int32) : (Nat × Int32 × (Nat → Int32) × (Nat → Int32)) := if (d_X10_hasMember x n r) = 0 then (1, 0, q, rm) else (if (pm_in y 0 300) = 0 then (2, 0, q, rm) else (if (pm_in w 0 1) = 0 then (2, 0, q, rm) else (0, (((d_X1_apportion y w n r q rm).1) (pm_n x)), ((d_X1_apportion y w n r q rm).1), ((d_X1_apportion y w n r q rm).2))))
set_option maxRecDepth 100000 in
set_option maxHeartbeats 8000000 in
theorem c_X12_quotaBy {l : Launch} {z : Nat} {D : va_G} {kA : Nat → ClassId} {kE : Nat → Nat} {nx : Nat} {M : pm_M} {x : Int32} {y : Int32} {w : Int32} {n : Nat} {ldv : Value} {r : Nat → Int32} {q : Nat → Int32} {rm : Nat → Int32} {to : Nat → Int32} (hS : pm_SA z kA 2 M r) (hq : M 14 = some (.inl (kA 0, 7, .inl q))) (hrm : M 15 = some (.inl (kA 0, 7, .inl rm))) (hto : M 0 = some (.inr (10, [.ref (z + 1), .ref (z + 2), .ref (z + 17), .ref (z + 28), .ref (z + 39), .ref (z + 129), .ref (z + 131), .ref (z + 133), .ref (z + 138), .int (to 9), .int (to 10), .int (to 11), ldv]))) (hO1 : M 1 = some (.inr (5, [.ref (z + 2), .ref (z + 13), .ref (z + 16)]))) (hO13 : M 13 = some (.inr (0, [.ref (z + 14), .ref (z + 15)]))) (hn : r 0 = nI n) (h7 : n ≤ 7) : pm_C l z D kA kE yX12_quotaBy cX12_quotaBy 4 (some .int) 20 2 12 [.ref (z + 0), .int x, .int y, .int w] nx M (pm_fp ((d_X12_quotaBy x y w n r q rm to).1) (some (.int ((d_X12_quotaBy x y w n r q rm to).2.1))) nx (pm_up (pm_up M 14 (.inl (kA 0, 7, .inl ((d_X12_quotaBy x y w n r q rm to).2.2.1)))) 15 (.inl (kA 0, 7, .inl ((d_X12_quotaBy x y w n r q rm to).2.2.2))))) := by
  refine pm_mk (own := RX12) (nm := "quotaBy") mt_X12_quotaBy rfl rfl rfl rfl fun X B => ?_
  refine pm_loc (L' := [some (.ref (z + 0)), some (.int x), some (.int y), some (.int w)]) rfl ?_
  refine pm_mem (M' := pm_up (pm_up M 14 (.inl (kA 0, 7, .inl q))) 15 (.inl (kA 0, 7, .inl rm))) (by rw [pm_up_id hq, pm_up_id hrm]) ?_
  refine pm_aload_n B dX12_quotaBy_0 rfl ?_
  refine pm_iload_n B dX12_quotaBy_1 rfl ?_
  by_cases hq1 : (d_X10_hasMember x n r) = 0
  · have hDq2 : (d_X12_quotaBy x y w n r q rm to) = (1, 0, q, rm) := by rw [d_X12_quotaBy, if_pos hq1]
    refine pm_pst (post' := pm_fp ((1, 0, q, rm).1) (some (.int ((1, 0, q, rm).2.1))) nx (pm_up (pm_up M 14 (.inl (kA 0, 7, .inl ((1, 0, q, rm).2.2.1)))) 15 (.inl (kA 0, 7, .inl ((1, 0, q, rm).2.2.2))))) (by rw [hDq2]) ?_
    exact pm_cVt (As := [.int x]) (mc2 := 1) (ms2 := 6) B rfl rfl ((pm_up_n (by omega)).trans ((pm_up_n (by omega)).trans hto)) rfl (pm_C_fk (k' := 1) (if_pos hq1) (c_X12_demandMember (ldv := ldv) (pm_SA_up (by omega) (pm_SA_up (by omega) hS)) ((pm_up_n (by omega)).trans ((pm_up_n (by omega)).trans hto)) hn h7)) (by decide) mt_X12_demandMember sv_X12_82 dX12_quotaBy_2 rfl rfl rfl rfl rfl (fun n' hn => ⟨rfl, hn, Or.inr ⟨(show (0 : Nat) < 1 by decide), rfl⟩⟩)
  · refine pm_cV (As := [.int x]) (mc2 := 1) (ms2 := 6) B rfl ((pm_up_n (by omega)).trans ((pm_up_n (by omega)).trans hto)) rfl (pm_C_f0 (if_neg hq1) (c_X12_demandMember (ldv := ldv) (pm_SA_up (by omega) (pm_SA_up (by omega) hS)) ((pm_up_n (by omega)).trans ((pm_up_n (by omega)).trans hto)) hn h7)) mt_X12_demandMember sv_X12_82 dX12_quotaBy_2 rfl rfl rfl rfl rfl ?_
    refine pm_stk (st' := []) rfl ?_
    obtain ⟨he_x, hl_x⟩ := d_X10_hasMember_in h7 hq1
    refine pm_loc (L' := [some (.ref (z + 0)), some (.int (nI (pm_n x))), some (.int y), some (.int w)]) (congrArg (fun yy : Int32 => ([some (.ref (z + 0)), some (.int yy), some (.int y), some (.int w)] : List (Option Value))) he_x) ?_
    refine pm_iload_n B dX12_quotaBy_5 rfl ?_
    refine pm_iconst (v := 0) B dX12_quotaBy_6 (by decide) ?_
    refine pm_sipush (v := 300) B dX12_quotaBy_7 (by decide) ?_
    refine pm_cS (As := [.int y, .int 0, .int 300]) (mc2 := 0) (ms2 := 0) B c_X12_isWithin mt_X12_isWithin ss_X12_138 dX12_quotaBy_10 rfl rfl rfl rfl rfl ?_
    refine pm_stk (st' := [.int (pm_in y 0 300)]) rfl ?_
    refine pm_if_eq (tgt := 25) B dX12_quotaBy_13 (by decide) (fun hq3 => ?_) (fun hq3 => ?_)
    · have hDq4 : (d_X12_quotaBy x y w n r q rm to) = (2, 0, q, rm) := by rw [d_X12_quotaBy, if_neg hq1, if_pos hq3]
      refine pm_pst (post' := pm_fp ((2, 0, q, rm).1) (some (.int ((2, 0, q, rm).2.1))) nx (pm_up (pm_up M 14 (.inl (kA 0, 7, .inl ((2, 0, q, rm).2.2.1)))) 15 (.inl (kA 0, 7, .inl ((2, 0, q, rm).2.2.2))))) (by rw [hDq4]) ?_
      exact pm_throwS (text := "the total or the rule is out of range") B rfl px_IllegalArgument (by decide) dX12_quotaBy_25 dX12_quotaBy_28 dX12_quotaBy_29 dX12_quotaBy_31 dX12_quotaBy_34 rfl rfl rfl rfl (fun n' hn => ⟨rfl, hn, Or.inr ⟨(show (0 : Nat) < 2 by decide), rfl⟩⟩)
    · refine pm_iload_n B dX12_quotaBy_16 rfl ?_
      refine pm_iconst (v := 0) B dX12_quotaBy_17 (by decide) ?_
      refine pm_iconst (v := 1) B dX12_quotaBy_18 (by decide) ?_
      refine pm_cS (As := [.int w, .int 0, .int 1]) (mc2 := 0) (ms2 := 0) B c_X12_isWithin mt_X12_isWithin ss_X12_138 dX12_quotaBy_19 rfl rfl rfl rfl rfl ?_
      refine pm_stk (st' := [.int (pm_in w 0 1)]) rfl ?_
      refine pm_if_ne (tgt := 35) B dX12_quotaBy_22 (by decide) (fun hq5 => ?_) (fun hq5 => ?_)
      · refine pm_aload_n B dX12_quotaBy_35 rfl ?_
        refine pm_get B dX12_quotaBy_36 fl_X12_10 ((pm_up_n (by omega)).trans ((pm_up_n (by omega)).trans hto)) rfl ?_
        refine pm_get B dX12_quotaBy_39 fl_X12_147 ((pm_up_n (by omega)).trans ((pm_up_n (by omega)).trans hO1)) rfl ?_
        refine pm_aload_n B dX12_quotaBy_42 rfl ?_
        refine pm_get B dX12_quotaBy_43 fl_X12_20 ((pm_up_n (by omega)).trans ((pm_up_n (by omega)).trans hto)) rfl ?_
        refine pm_iload_n B dX12_quotaBy_46 rfl ?_
        refine pm_iload_n B dX12_quotaBy_47 rfl ?_
        refine pm_cV (As := [.ref (z + 2), .int y, .int w]) (mc2 := 0) (ms2 := 0) B rfl ((pm_up_n (by omega)).trans ((pm_up_n (by omega)).trans hO13)) rfl (c_X1_apportion (x := y) (y := w) (n := n) (r := r) (q := q) (rm := rm) (pm_SA_up (by omega) (pm_SA_up (by omega) hS)) ((pm_up_n (by omega)).trans pm_up_s) pm_up_s ((pm_up_n (by omega)).trans ((pm_up_n (by omega)).trans hO13)) hn (by first | assumption | omega) (pm_in0 (m := 300) (by decide) (by assumption)).1 (by have h9 := (pm_in0 (m := 300) (by decide) (show ¬ pm_in y 0 300 = 0 by assumption)).2; omega)) mt_X1_apportion sv_X12_151 dX12_quotaBy_48 rfl rfl rfl rfl rfl ?_
        refine pm_mem (M' := pm_up (pm_up M 14 (.inl (kA 0, 7, .inl ((d_X1_apportion y w n r q rm).1)))) 15 (.inl (kA 0, 7, .inl ((d_X1_apportion y w n r q rm).2)))) (by rw [pm_up_sw (a := 15) (b := 14) (by omega), pm_up_up (a := 14), pm_up_up (a := 15)] <;> rfl) ?_
        refine pm_stk (st' := []) rfl ?_
        refine pm_aload_n B dX12_quotaBy_51 rfl ?_
        refine pm_get B dX12_quotaBy_52 fl_X12_10 ((pm_up_n (by omega)).trans ((pm_up_n (by omega)).trans hto)) rfl ?_
        refine pm_get B dX12_quotaBy_55 fl_X12_147 ((pm_up_n (by omega)).trans ((pm_up_n (by omega)).trans hO1)) rfl ?_
        refine pm_get B dX12_quotaBy_58 fl_X12_157 ((pm_up_n (by omega)).trans ((pm_up_n (by omega)).trans hO13)) rfl ?_
        refine pm_iload_n B dX12_quotaBy_61 rfl ?_
        refine pm_iald_n B dX12_quotaBy_62 ((pm_up_n (by omega)).trans pm_up_s) (pm_n x) (by first | assumption | omega) (by decide) ?_
        have hDq6 : (d_X12_quotaBy x y w n r q rm to) = (0, (((d_X1_apportion y w n r q rm).1) (pm_n x)), ((d_X1_apportion y w n r q rm).1), ((d_X1_apportion y w n r q rm).2)) := by rw [d_X12_quotaBy, if_neg hq1, if_neg hq3, if_neg hq5]
        refine pm_pst (post' := pm_fp ((0, (((d_X1_apportion y w n r q rm).1) (pm_n x)), ((d_X1_apportion y w n r q rm).1), ((d_X1_apportion y w n r q rm).2)).1) (some (.int ((0, (((d_X1_apportion y w n r q rm).1) (pm_n x)), ((d_X1_apportion y w n r q rm).1), ((d_X1_apportion y w n r q rm).2)).2.1))) nx (pm_up (pm_up M 14 (.inl (kA 0, 7, .inl ((0, (((d_X1_apportion y w n r q rm).1) (pm_n x)), ((d_X1_apportion y w n r q rm).1), ((d_X1_apportion y w n r q rm).2)).2.2.1)))) 15 (.inl (kA 0, 7, .inl ((0, (((d_X1_apportion y w n r q rm).1) (pm_n x)), ((d_X1_apportion y w n r q rm).1), ((d_X1_apportion y w n r q rm).2)).2.2.2))))) (by rw [hDq6]) ?_
        exact pm_ireturn B dX12_quotaBy_63 rfl (by first | rfl | (apply pm_nz; first | assumption | decide | exact pm_in01 _ _ _ | ((repeat' split) <;> first | exact Or.inl rfl | exact Or.inr rfl))) ⟨rfl, Nat.le_refl _, Or.inl ⟨rfl, rfl, rfl⟩⟩ rfl rfl
      · have hDq7 : (d_X12_quotaBy x y w n r q rm to) = (2, 0, q, rm) := by rw [d_X12_quotaBy, if_neg hq1, if_neg hq3, if_pos hq5]
        refine pm_pst (post' := pm_fp ((2, 0, q, rm).1) (some (.int ((2, 0, q, rm).2.1))) nx (pm_up (pm_up M 14 (.inl (kA 0, 7, .inl ((2, 0, q, rm).2.2.1)))) 15 (.inl (kA 0, 7, .inl ((2, 0, q, rm).2.2.2))))) (by rw [hDq7]) ?_
        exact pm_throwS (text := "the total or the rule is out of range") B rfl px_IllegalArgument (by decide) dX12_quotaBy_25 dX12_quotaBy_28 dX12_quotaBy_29 dX12_quotaBy_31 dX12_quotaBy_34 rfl rfl rfl rfl (fun n' hn => ⟨rfl, hn, Or.inr ⟨(show (0 : Nat) < 2 by decide), rfl⟩⟩)
def d_X12_drawnMember (x : Int32) (n : Nat) (r : Nat → Int32) (dr : Nat → Int32) (to : Nat → Int32) : (Nat × Int32 × (Nat → Int32)) := if (d_X10_hasMember x n r) = 0 then (4, 0, dr) else (0, (((d_X7_drawMembers (pm_n x + 1) n r dr).2) (pm_n x)), ((d_X7_drawMembers (pm_n x + 1) n r dr).2))
set_option maxRecDepth 100000 in
set_option maxHeartbeats 8000000 in
theorem c_X12_drawnMember {l : Launch} {z : Nat} {D : va_G} {kA : Nat → ClassId} {kE : Nat → Nat} {nx : Nat} {M : pm_M} {x : Int32} {n : Nat} {ldv : Value} {r : Nat → Int32} {dr : Nat → Int32} {to : Nat → Int32} (hS : pm_SA z kA 2 M r) (hdr : M 16 = some (.inl (kA 0, 7, .inl dr))) (hto : M 0 = some (.inr (10, [.ref (z + 1), .ref (z + 2), .ref (z + 17), .ref (z + 28), .ref (z + 39), .ref (z + 129), .ref (z + 131), .ref (z + 133), .ref (z + 138), .int (to 9), .int (to 10), .int (to 11), ldv]))) (hO1 : M 1 = some (.inr (5, [.ref (z + 2), .ref (z + 13), .ref (z + 16)]))) (hn : r 0 = nI n) (h7 : n ≤ 7) (hsd : r 2 = nI (pm_n (r 2))) (hsl : pm_n (r 2) < 1024) : pm_C l z D kA kE yX12_drawnMember cX12_drawnMember 2 (some .int) 20 2 12 [.ref (z + 0), .int x] nx M (pm_fp ((d_X12_drawnMember x n r dr to).1) (some (.int ((d_X12_drawnMember x n r dr to).2.1))) nx (pm_up M 16 (.inl (kA 0, 7, .inl ((d_X12_drawnMember x n r dr to).2.2))))) := by
  refine pm_mk (own := RX12) (nm := "drawnMember") mt_X12_drawnMember rfl rfl rfl rfl fun X B => ?_
  refine pm_loc (L' := [some (.ref (z + 0)), some (.int x)]) rfl ?_
  refine pm_mem (M' := pm_up M 16 (.inl (kA 0, 7, .inl dr))) (by rw [pm_up_id hdr]) ?_
  refine pm_aload_n B dX12_drawnMember_0 rfl ?_
  refine pm_get B dX12_drawnMember_1 fl_X12_20 ((pm_up_n (by omega)).trans hto) rfl ?_
  refine pm_iload_n B dX12_drawnMember_4 rfl ?_
  refine pm_cV (As := [.int x]) (mc2 := 0) (ms2 := 0) B rfl ((pm_up_n (by omega)).trans (hS.1)) rfl (c_X10_hasMembers (x := x) (n := n) (r := r) (pm_SA_up (by omega) hS) hn (by first | assumption | omega)) mt_X10_hasMember sv_X12_177 dX12_drawnMember_5 rfl rfl rfl rfl rfl ?_
  refine pm_stk (st' := [.int (d_X10_hasMember x n r)]) rfl ?_
  refine pm_if_ne (tgt := 21) B dX12_drawnMember_8 (by decide) (fun hq1 => ?_) (fun hq1 => ?_)
  · obtain ⟨he_x, hl_x⟩ := d_X10_hasMember_in h7 hq1
    refine pm_loc (L' := [some (.ref (z + 0)), some (.int (nI (pm_n x)))]) (congrArg (fun yy : Int32 => ([some (.ref (z + 0)), some (.int yy)] : List (Option Value))) he_x) ?_
    refine pm_aload_n B dX12_drawnMember_21 rfl ?_
    refine pm_get B dX12_drawnMember_22 fl_X12_10 ((pm_up_n (by omega)).trans hto) rfl ?_
    refine pm_iload_n B dX12_drawnMember_25 rfl ?_
    refine pm_iconst (v := 1) B dX12_drawnMember_26 (by decide) ?_
    refine pm_iadd B dX12_drawnMember_27 ?_
    refine pm_stk (st' := [.int (nI (pm_n x + 1)), .ref (z + 1)]) (by rw [show ((nI (pm_n x)) + 1) = (nI (pm_n x + 1)) from nI_1 _]) ?_
    refine pm_cV (As := [.int (nI (pm_n x + 1))]) (mc2 := 0) (ms2 := 0) B rfl ((pm_up_n (by omega)).trans hO1) rfl (c_X7_drawMembers (w := (pm_n x + 1)) (n := n) (r := r) (dr := dr) (pm_SA_up (by omega) hS) pm_up_s ((pm_up_n (by omega)).trans hO1) hn (by first | assumption | omega) (by first | assumption | exact hsd) (by first | assumption | omega) (by first | assumption | omega)) mt_X7_drawMembers sv_X12_183 dX12_drawnMember_28 rfl rfl rfl rfl rfl ?_
    refine pm_mem (M' := pm_up M 16 (.inl (kA 0, 7, .inl ((d_X7_drawMembers (pm_n x + 1) n r dr).2)))) (by rw [pm_up_up (a := 16)] <;> rfl) ?_
    refine pm_stk (st' := [.int ((d_X7_drawMembers (pm_n x + 1) n r dr).1)]) rfl ?_
    refine pm_pop B dX12_drawnMember_31 rfl ?_
    refine pm_aload_n B dX12_drawnMember_32 rfl ?_
    refine pm_get B dX12_drawnMember_33 fl_X12_10 ((pm_up_n (by omega)).trans hto) rfl ?_
    refine pm_get B dX12_drawnMember_36 fl_X12_186 ((pm_up_n (by omega)).trans hO1) rfl ?_
    refine pm_iload_n B dX12_drawnMember_39 rfl ?_
    refine pm_iald_n B dX12_drawnMember_40 pm_up_s (pm_n x) (by first | assumption | omega) (by decide) ?_
    have hDq2 : (d_X12_drawnMember x n r dr to) = (0, (((d_X7_drawMembers (pm_n x + 1) n r dr).2) (pm_n x)), ((d_X7_drawMembers (pm_n x + 1) n r dr).2)) := by rw [d_X12_drawnMember, if_neg hq1]
    refine pm_pst (post' := pm_fp ((0, (((d_X7_drawMembers (pm_n x + 1) n r dr).2) (pm_n x)), ((d_X7_drawMembers (pm_n x + 1) n r dr).2)).1) (some (.int ((0, (((d_X7_drawMembers (pm_n x + 1) n r dr).2) (pm_n x)), ((d_X7_drawMembers (pm_n x + 1) n r dr).2)).2.1))) nx (pm_up M 16 (.inl (kA 0, 7, .inl ((0, (((d_X7_drawMembers (pm_n x + 1) n r dr).2) (pm_n x)), ((d_X7_drawMembers (pm_n x + 1) n r dr).2)).2.2))))) (by rw [hDq2]) ?_
    exact pm_ireturn B dX12_drawnMember_41 rfl (by first | rfl | (apply pm_nz; first | assumption | decide | exact pm_in01 _ _ _ | ((repeat' split) <;> first | exact Or.inl rfl | exact Or.inr rfl))) ⟨rfl, Nat.le_refl _, Or.inl ⟨rfl, rfl, rfl⟩⟩ rfl rfl
  · have hDq3 : (d_X12_drawnMember x n r dr to) = (4, 0, dr) := by rw [d_X12_drawnMember, if_pos hq1]
    refine pm_pst (post' := pm_fp ((4, 0, dr).1) (some (.int ((4, 0, dr).2.1))) nx (pm_up M 16 (.inl (kA 0, 7, .inl ((4, 0, dr).2.2))))) (by rw [hDq3]) ?_
    exact pm_throwS13 (text := "there are not so many members") B rfl px_NoSuchElement (by decide) dX12_drawnMember_11 dX12_drawnMember_14 dX12_drawnMember_15 dX12_drawnMember_17 dX12_drawnMember_20 rfl rfl rfl rfl (fun n' hn => ⟨rfl, hn, Or.inr ⟨(show (0 : Nat) < 4 by decide), rfl⟩⟩)
def d_X12_meanSales_L1 (r : Nat → Int32) : Nat → Nat → Int32 → Int32
  | 0, _, a1_1 => a1_1
  | k1 + 1, j1, a1_1 => (d_X12_meanSales_L1 r k1 (j1 + 1) (a1_1 + (r (7 + 6 * j1 + 3))))
def d_X12_meanSales (n : Nat) (r : Nat → Int32) (to : Nat → Int32) : (Nat × UInt64) := if (nI n) = 0 then (6, (0 : UInt64)) else (0, (FP.ddiv (FP.i2d (d_X12_meanSales_L1 r n 0 0)) (FP.i2d (nI n))))
set_option maxRecDepth 100000 in
set_option maxHeartbeats 8000000 in
theorem c_X12_meanSales {l : Launch} {z : Nat} {D : va_G} {kA : Nat → ClassId} {kE : Nat → Nat} {nx : Nat} {M : pm_M} {n : Nat} {ldv : Value} {r : Nat → Int32} {to : Nat → Int32} (hS : pm_SA z kA 2 M r) (hto : M 0 = some (.inr (10, [.ref (z + 1), .ref (z + 2), .ref (z + 17), .ref (z + 28), .ref (z + 39), .ref (z + 129), .ref (z + 131), .ref (z + 133), .ref (z + 138), .int (to 9), .int (to 10), .int (to 11), ldv]))) (hn : r 0 = nI n) (h7 : n ≤ 7) (hnan : ∀ a b : Int32, ¬ b = 0 → vf_n64 (FP.ddiv (FP.i2d a) (FP.i2d b))) : pm_C l z D kA kE yX12_meanSales cX12_meanSales 3 (some .double) 20 2 12 [.ref (z + 0)] nx M (pm_fp ((d_X12_meanSales n r to).1) (some (.double ((d_X12_meanSales n r to).2))) nx M) := by
  refine pm_mk (own := RX12) (nm := "meanSales") mt_X12_meanSales rfl rfl rfl rfl fun X B => ?_
  refine pm_loc (L' := [some (.ref (z + 0)), none, none]) rfl ?_
  refine pm_aload_n B dX12_meanSales_0 rfl ?_
  refine pm_get B dX12_meanSales_1 fl_X12_20 hto rfl ?_
  refine pm_get B dX12_meanSales_4 fl_X12_78 (hS.1) rfl ?_
  refine pm_stk (st' := [.int (nI n)]) (by rw [show (r 0) = (nI n) from by rw [hn]]) ?_
  refine pm_if_ne (tgt := 20) B dX12_meanSales_7 (by decide) (fun hq1 => ?_) (fun hq1 => ?_)
  · refine pm_iconst (v := 0) B dX12_meanSales_20 (by decide) ?_
    refine pm_istore_n B dX12_meanSales_21 rfl rfl ?_
    refine pm_loc (L' := [some (.ref (z + 0)), some (.int 0), none]) rfl ?_
    refine pm_iconst (v := 0) B dX12_meanSales_22 (by decide) ?_
    refine pm_istore_n B dX12_meanSales_23 rfl rfl ?_
    refine pm_loc (L' := [some (.ref (z + 0)), some (.int 0), some (.int 0)]) rfl ?_
    refine pm_loc (L' := [some (.ref (z + 0)), some (.int 0), some (.int (nI 0))]) rfl ?_
    have loop1 : ∀ (K1 : (Int32 → (Nat × UInt64))), (∀ (a1_1 : Int32), pm_G l z D X 0 0 (pm_Q z D (pm_fp ((K1 a1_1).1) (some (.double ((K1 a1_1).2))) nx M) 2 12 X) nx M 56 [some (.ref (z + 0)), some (.int a1_1), none] []) → ∀ (k1 j1 : Nat), j1 + k1 = n → ∀ (a1_1 : Int32), pm_G l z D X 0 0 (pm_Q z D (pm_fp ((K1 (d_X12_meanSales_L1 r k1 j1 a1_1)).1) (some (.double ((K1 (d_X12_meanSales_L1 r k1 j1 a1_1)).2))) nx M) 2 12 X) nx M 24 [some (.ref (z + 0)), some (.int a1_1), some (.int (nI j1))] [] := by
      intro K1 hK1 k1
      induction k1 with
      | zero =>
        intro j1 hj1 a1_1
        have hjn1 : j1 = n := by omega
        refine pm_iload_n B dX12_meanSales_24 rfl ?_
        refine pm_aload_n B dX12_meanSales_25 rfl ?_
        refine pm_get B dX12_meanSales_26 fl_X12_20 hto rfl ?_
        refine pm_get B dX12_meanSales_29 fl_X12_78 (hS.1) rfl ?_
        refine pm_stk (st' := [.int (nI n), .int (nI j1)]) (by rw [show (r 0) = (nI n) from by rw [hn]]) ?_
        refine pm_icmp_ge (tgt := 56) B dX12_meanSales_32 (by decide) (fun hq2 => ?_) (fun hq2 => absurd ((nI_leI (by first | omega | decide) (by first | omega | decide)).mpr (by omega)) hq2)
        refine pm_wk (L' := [some (.ref (z + 0)), some (.int a1_1), none]) ⟨rfl, ⟨rfl, trivial⟩⟩ ?_
        have hDq3 : (K1 (d_X12_meanSales_L1 r 0 j1 a1_1)) = (K1 a1_1) := by rw [d_X12_meanSales_L1]
        refine pm_pst (post' := pm_fp ((K1 a1_1).1) (some (.double ((K1 a1_1).2))) nx M) (by rw [hDq3]) ?_
        exact hK1 a1_1
      | succ k1 ih1 =>
        intro j1 hj1 a1_1
        have hjn1 : j1 < n := by omega
        refine pm_iload_n B dX12_meanSales_24 rfl ?_
        refine pm_aload_n B dX12_meanSales_25 rfl ?_
        refine pm_get B dX12_meanSales_26 fl_X12_20 hto rfl ?_
        refine pm_get B dX12_meanSales_29 fl_X12_78 (hS.1) rfl ?_
        refine pm_stk (st' := [.int (nI n), .int (nI j1)]) (by rw [show (r 0) = (nI n) from by rw [hn]]) ?_
        refine pm_icmp_ge (tgt := 56) B dX12_meanSales_32 (by decide) (fun hq4 => absurd hq4 (fun e => absurd ((nI_leI (by first | omega | decide) (by first | omega | decide)).mp e) (by omega))) (fun hq4 => ?_)
        refine pm_iload_n B dX12_meanSales_35 rfl ?_
        refine pm_aload_n B dX12_meanSales_36 rfl ?_
        refine pm_get B dX12_meanSales_37 fl_X12_20 hto rfl ?_
        refine pm_get B dX12_meanSales_40 fl_X12_86 (hS.1) rfl ?_
        refine pm_iload_n B dX12_meanSales_43 rfl ?_
        refine pm_aald_n B dX12_meanSales_44 (hS.2.1) rfl j1 (by first | assumption | omega) (by decide) (pm_mr_at (by first | assumption | omega)) ?_
        refine pm_get B dX12_meanSales_45 fl_X12_164 (hS.2.2.1 j1 (by first | assumption | omega)) rfl ?_
        refine pm_iadd B dX12_meanSales_48 ?_
        refine pm_istore_n B dX12_meanSales_49 rfl rfl ?_
        refine pm_loc (L' := [some (.ref (z + 0)), some (.int (a1_1 + (r (7 + 6 * j1 + 3)))), some (.int (nI j1))]) rfl ?_
        refine pm_iinc B dX12_meanSales_50 rfl rfl rfl ?_
        refine pm_loc (L' := [some (.ref (z + 0)), some (.int (a1_1 + (r (7 + 6 * j1 + 3)))), some (.int (nI (j1 + 1)))]) (by rw [show ((nI j1) : Int32) + Int32.ofInt 1 = (nI (j1 + 1)) from nI_1 _]; rfl) ?_
        refine pm_goto (tgt := 24) B dX12_meanSales_53 (by decide) ?_
        have hDq5 : (K1 (d_X12_meanSales_L1 r (k1 + 1) j1 a1_1)) = (K1 (d_X12_meanSales_L1 r k1 (j1 + 1) (a1_1 + (r (7 + 6 * j1 + 3))))) := by rw [d_X12_meanSales_L1]
        refine pm_pst (post' := pm_fp ((K1 (d_X12_meanSales_L1 r k1 (j1 + 1) (a1_1 + (r (7 + 6 * j1 + 3))))).1) (some (.double ((K1 (d_X12_meanSales_L1 r k1 (j1 + 1) (a1_1 + (r (7 + 6 * j1 + 3))))).2))) nx M) (by rw [hDq5]) ?_
        exact ih1 (j1 + 1) (by omega) (a1_1 + (r (7 + 6 * j1 + 3)))
    refine pm_pst (post' := pm_fp ((0, (FP.ddiv (FP.i2d (d_X12_meanSales_L1 r n 0 0)) (FP.i2d (nI n)))).1) (some (.double ((0, (FP.ddiv (FP.i2d (d_X12_meanSales_L1 r n 0 0)) (FP.i2d (nI n)))).2))) nx M) (by rw [show (d_X12_meanSales n r to) = (0, (FP.ddiv (FP.i2d (d_X12_meanSales_L1 r n 0 0)) (FP.i2d (nI n)))) from by rw [d_X12_meanSales, if_neg hq1]]) ?_
    refine loop1 (fun (a1_1 : Int32) => (0, (FP.ddiv (FP.i2d a1_1) (FP.i2d (nI n))))) ?_ n 0 (by omega) 0
    intro a1_1
    refine pm_pst (post' := pm_fp ((0, (FP.ddiv (FP.i2d a1_1) (FP.i2d (nI n)))).1) (some (.double ((0, (FP.ddiv (FP.i2d a1_1) (FP.i2d (nI n)))).2))) nx M) rfl ?_
    refine pm_iload_n B dX12_meanSales_56 rfl ?_
    refine pm_i2d B dX12_meanSales_57 ?_
    refine pm_aload_n B dX12_meanSales_58 rfl ?_
    refine pm_get B dX12_meanSales_59 fl_X12_20 hto rfl ?_
    refine pm_get B dX12_meanSales_62 fl_X12_78 (hS.1) rfl ?_
    refine pm_stk (st' := [.int (nI n), .double (FP.i2d a1_1)]) (by rw [show (r 0) = (nI n) from by rw [hn]]) ?_
    refine pm_i2d B dX12_meanSales_65 ?_
    refine pm_ddiv B dX12_meanSales_66 (hnan _ _ (by assumption)) ?_
    have hDq6 : ((0, (FP.ddiv (FP.i2d a1_1) (FP.i2d (nI n))))) = (0, (FP.ddiv (FP.i2d a1_1) (FP.i2d (nI n)))) := rfl
    refine pm_pst (post' := pm_fp ((0, (FP.ddiv (FP.i2d a1_1) (FP.i2d (nI n)))).1) (some (.double ((0, (FP.ddiv (FP.i2d a1_1) (FP.i2d (nI n)))).2))) nx M) (rfl) ?_
    exact pm_dreturn B dX12_meanSales_67 rfl ⟨rfl, Nat.le_refl _, Or.inl ⟨rfl, rfl, rfl⟩⟩ rfl rfl
  · have hDq7 : (d_X12_meanSales n r to) = (6, (0 : UInt64)) := by rw [d_X12_meanSales, if_pos hq1]
    refine pm_pst (post' := pm_fp ((6, (0 : UInt64)).1) (some (.double ((6, (0 : UInt64)).2))) nx M) (by rw [hDq7]) ?_
    exact pm_throwS (text := "there are no members") B rfl px_Arithmetic (by decide) dX12_meanSales_10 dX12_meanSales_13 dX12_meanSales_14 dX12_meanSales_16 dX12_meanSales_19 rfl rfl rfl rfl (fun n' hn => ⟨rfl, hn, Or.inr ⟨(show (0 : Nat) < 6 by decide), rfl⟩⟩)
def d_X12_finedShare (r : Nat → Int32) (to : Nat → Int32) : (Nat × UInt32) := if ((r 5) + (r 6)) = 0 then (6, (0 : UInt32)) else (0, (FP.fdiv (FP.i2f (r 6)) (FP.i2f ((r 5) + (r 6)))))
set_option maxRecDepth 100000 in
set_option maxHeartbeats 8000000 in
theorem c_X12_finedShare {l : Launch} {z : Nat} {D : va_G} {kA : Nat → ClassId} {kE : Nat → Nat} {nx : Nat} {M : pm_M}  {ldv : Value} {r : Nat → Int32} {to : Nat → Int32} (hS : pm_SA z kA 2 M r) (hto : M 0 = some (.inr (10, [.ref (z + 1), .ref (z + 2), .ref (z + 17), .ref (z + 28), .ref (z + 39), .ref (z + 129), .ref (z + 131), .ref (z + 133), .ref (z + 138), .int (to 9), .int (to 10), .int (to 11), ldv]))) (hnan : ∀ a b : Int32, ¬ b = 0 → vf_n32 (FP.fdiv (FP.i2f a) (FP.i2f b))) : pm_C l z D kA kE yX12_finedShare cX12_finedShare 2 (some .float) 20 2 12 [.ref (z + 0)] nx M (pm_fp ((d_X12_finedShare r to).1) (some (.float ((d_X12_finedShare r to).2))) nx M) := by
  refine pm_mk (own := RX12) (nm := "finedShare") mt_X12_finedShare rfl rfl rfl rfl fun X B => ?_
  refine pm_loc (L' := [some (.ref (z + 0)), none]) rfl ?_
  refine pm_aload_n B dX12_finedShare_0 rfl ?_
  refine pm_get B dX12_finedShare_1 fl_X12_20 hto rfl ?_
  refine pm_get B dX12_finedShare_4 fl_X12_246 (hS.1) rfl ?_
  refine pm_aload_n B dX12_finedShare_7 rfl ?_
  refine pm_get B dX12_finedShare_8 fl_X12_20 hto rfl ?_
  refine pm_get B dX12_finedShare_11 fl_X12_249 (hS.1) rfl ?_
  refine pm_iadd B dX12_finedShare_14 ?_
  refine pm_istore_n B dX12_finedShare_15 rfl rfl ?_
  refine pm_loc (L' := [some (.ref (z + 0)), some (.int ((r 5) + (r 6)))]) rfl ?_
  refine pm_iload_n B dX12_finedShare_16 rfl ?_
  refine pm_if_ne (tgt := 31) B dX12_finedShare_17 (by decide) (fun hq1 => ?_) (fun hq1 => ?_)
  · refine pm_aload_n B dX12_finedShare_31 rfl ?_
    refine pm_get B dX12_finedShare_32 fl_X12_20 hto rfl ?_
    refine pm_get B dX12_finedShare_35 fl_X12_249 (hS.1) rfl ?_
    refine pm_i2f B dX12_finedShare_38 ?_
    refine pm_iload_n B dX12_finedShare_39 rfl ?_
    refine pm_i2f B dX12_finedShare_40 ?_
    refine pm_fdiv B dX12_finedShare_41 (hnan _ _ (by assumption)) ?_
    have hDq2 : (d_X12_finedShare r to) = (0, (FP.fdiv (FP.i2f (r 6)) (FP.i2f ((r 5) + (r 6))))) := by rw [d_X12_finedShare, if_neg hq1]
    refine pm_pst (post' := pm_fp ((0, (FP.fdiv (FP.i2f (r 6)) (FP.i2f ((r 5) + (r 6))))).1) (some (.float ((0, (FP.fdiv (FP.i2f (r 6)) (FP.i2f ((r 5) + (r 6))))).2))) nx M) (by rw [hDq2]) ?_
    exact pm_freturn B dX12_finedShare_42 rfl ⟨rfl, Nat.le_refl _, Or.inl ⟨rfl, rfl, rfl⟩⟩ rfl rfl
  · have hDq3 : (d_X12_finedShare r to) = (6, (0 : UInt32)) := by rw [d_X12_finedShare, if_pos hq1]
    refine pm_pst (post' := pm_fp ((6, (0 : UInt32)).1) (some (.float ((6, (0 : UInt32)).2))) nx M) (by rw [hDq3]) ?_
    exact pm_throwW (text := "no units were sold") B rfl px_Arithmetic (by decide) dX12_finedShare_20 dX12_finedShare_23 dX12_finedShare_24 dX12_finedShare_27 dX12_finedShare_30 rfl rfl rfl rfl (fun n' hn => ⟨rfl, hn, Or.inr ⟨(show (0 : Nat) < 6 by decide), rfl⟩⟩)
def d_X12_feed (x : Int32) (t : Nat) (tx : Nat → Int32) (to : Nat → Int32) (sc : Nat → Int32) : (Nat × Int32 × (Nat → Int32) × (Nat → Int32)) := if (d_X9_isFull tx sc) = 0 then (0, ((d_X9_append x t tx sc).1), ((d_X9_append x t tx sc).2.1), ((d_X9_append x t tx sc).2.2)) else (5, 0, tx, sc)
set_option maxRecDepth 100000 in
set_option maxHeartbeats 8000000 in
theorem c_X12_feed {l : Launch} {z : Nat} {D : va_G} {kA : Nat → ClassId} {kE : Nat → Nat} {nx : Nat} {M : pm_M} {x : Int32} {t : Nat} {ldv : Value} {tx : Nat → Int32} {to : Nat → Int32} {sc : Nat → Int32} (htx : M 134 = some (.inl (kA 3, 60, .inl tx))) (hto : M 0 = some (.inr (10, [.ref (z + 1), .ref (z + 2), .ref (z + 17), .ref (z + 28), .ref (z + 39), .ref (z + 129), .ref (z + 131), .ref (z + 133), .ref (z + 138), .int (to 9), .int (to 10), .int (to 11), ldv]))) (hsc : M 133 = some (.inr (7, [.ref (z + 134), .ref (z + 135), .ref (z + 136), .ref (z + 137), .int (sc 4), .int (sc 5), .int (sc 6)]))) (hl4 : sc 4 = nI t) (ht : t ≤ 60) : pm_C l z D kA kE yX12_feed cX12_feed 2 (some .int) 20 2 12 [.ref (z + 0), .int x] nx M (pm_fp ((d_X12_feed x t tx to sc).1) (some (.int ((d_X12_feed x t tx to sc).2.1))) nx (pm_up (pm_up M 134 (.inl (kA 3, 60, .inl ((d_X12_feed x t tx to sc).2.2.1)))) 133 (.inr (7, [.ref (z + 134), .ref (z + 135), .ref (z + 136), .ref (z + 137), .int (((d_X12_feed x t tx to sc).2.2.2) 4), .int (((d_X12_feed x t tx to sc).2.2.2) 5), .int (((d_X12_feed x t tx to sc).2.2.2) 6)])))) := by
  refine pm_mk (own := RX12) (nm := "feed") mt_X12_feed rfl rfl rfl rfl fun X B => ?_
  refine pm_loc (L' := [some (.ref (z + 0)), some (.int x)]) rfl ?_
  refine pm_mem (M' := pm_up (pm_up M 134 (.inl (kA 3, 60, .inl tx))) 133 (.inr (7, [.ref (z + 134), .ref (z + 135), .ref (z + 136), .ref (z + 137), .int (sc 4), .int (sc 5), .int (sc 6)]))) (by rw [pm_up_id htx, pm_up_id hsc]) ?_
  refine pm_aload_n B dX12_feed_0 rfl ?_
  refine pm_get B dX12_feed_1 fl_X12_54 ((pm_up_n (by omega)).trans ((pm_up_n (by omega)).trans hto)) rfl ?_
  refine pm_cV (As := []) (mc2 := 0) (ms2 := 0) B rfl pm_up_s rfl (c_X9_isFull (tx := tx) (sc := sc) ((pm_up_n (by omega)).trans pm_up_s) pm_up_s ) mt_X9_isFull sv_X12_259 dX12_feed_4 rfl rfl rfl rfl rfl ?_
  refine pm_stk (st' := [.int (d_X9_isFull tx sc)]) rfl ?_
  refine pm_if_eq (tgt := 21) B dX12_feed_7 (by decide) (fun hq1 => ?_) (fun hq1 => ?_)
  · refine pm_aload_n B dX12_feed_21 rfl ?_
    refine pm_get B dX12_feed_22 fl_X12_54 ((pm_up_n (by omega)).trans ((pm_up_n (by omega)).trans hto)) rfl ?_
    refine pm_iload_n B dX12_feed_25 rfl ?_
    refine pm_cV (As := [.int x]) (mc2 := 0) (ms2 := 0) B rfl pm_up_s rfl (c_X9_append (x := x) (t := t) (tx := tx) (sc := sc) ((pm_up_n (by omega)).trans pm_up_s) pm_up_s hl4 (by first | assumption | omega)) mt_X9_append sv_X12_267 dX12_feed_26 rfl rfl rfl rfl rfl ?_
    refine pm_mem (M' := pm_up (pm_up M 134 (.inl (kA 3, 60, .inl ((d_X9_append x t tx sc).2.1)))) 133 (.inr (7, [.ref (z + 134), .ref (z + 135), .ref (z + 136), .ref (z + 137), .int (((d_X9_append x t tx sc).2.2) 4), .int (((d_X9_append x t tx sc).2.2) 5), .int (((d_X9_append x t tx sc).2.2) 6)]))) (by rw [pm_up_sw (a := 133) (b := 134) (by omega), pm_up_up (a := 134), pm_up_up (a := 133)] <;> rfl) ?_
    refine pm_stk (st' := [.int ((d_X9_append x t tx sc).1)]) rfl ?_
    have hDq2 : (d_X12_feed x t tx to sc) = (0, ((d_X9_append x t tx sc).1), ((d_X9_append x t tx sc).2.1), ((d_X9_append x t tx sc).2.2)) := by rw [d_X12_feed, if_pos hq1]
    refine pm_pst (post' := pm_fp ((0, ((d_X9_append x t tx sc).1), ((d_X9_append x t tx sc).2.1), ((d_X9_append x t tx sc).2.2)).1) (some (.int ((0, ((d_X9_append x t tx sc).1), ((d_X9_append x t tx sc).2.1), ((d_X9_append x t tx sc).2.2)).2.1))) nx (pm_up (pm_up M 134 (.inl (kA 3, 60, .inl ((0, ((d_X9_append x t tx sc).1), ((d_X9_append x t tx sc).2.1), ((d_X9_append x t tx sc).2.2)).2.2.1)))) 133 (.inr (7, [.ref (z + 134), .ref (z + 135), .ref (z + 136), .ref (z + 137), .int (((0, ((d_X9_append x t tx sc).1), ((d_X9_append x t tx sc).2.1), ((d_X9_append x t tx sc).2.2)).2.2.2) 4), .int (((0, ((d_X9_append x t tx sc).1), ((d_X9_append x t tx sc).2.1), ((d_X9_append x t tx sc).2.2)).2.2.2) 5), .int (((0, ((d_X9_append x t tx sc).1), ((d_X9_append x t tx sc).2.1), ((d_X9_append x t tx sc).2.2)).2.2.2) 6)])))) (by rw [hDq2]) ?_
    exact pm_ireturn B dX12_feed_29 rfl (by first | rfl | (apply pm_nz; first | assumption | decide | exact pm_in01 _ _ _ | ((repeat' split) <;> first | exact Or.inl rfl | exact Or.inr rfl))) ⟨rfl, Nat.le_refl _, Or.inl ⟨rfl, rfl, rfl⟩⟩ rfl rfl
  · have hDq3 : (d_X12_feed x t tx to sc) = (5, 0, tx, sc) := by rw [d_X12_feed, if_neg hq1]
    refine pm_pst (post' := pm_fp ((5, 0, tx, sc).1) (some (.int ((5, 0, tx, sc).2.1))) nx (pm_up (pm_up M 134 (.inl (kA 3, 60, .inl ((5, 0, tx, sc).2.2.1)))) 133 (.inr (7, [.ref (z + 134), .ref (z + 135), .ref (z + 136), .ref (z + 137), .int (((5, 0, tx, sc).2.2.2) 4), .int (((5, 0, tx, sc).2.2.2) 5), .int (((5, 0, tx, sc).2.2.2) 6)])))) (by rw [hDq3]) ?_
    exact pm_throwW (text := "the text buffer is full") B rfl px_IllegalState (by decide) dX12_feed_10 dX12_feed_13 dX12_feed_14 dX12_feed_17 dX12_feed_20 rfl rfl rfl rfl (fun n' hn => ⟨rfl, hn, Or.inr ⟨(show (0 : Nat) < 5 by decide), rfl⟩⟩)
