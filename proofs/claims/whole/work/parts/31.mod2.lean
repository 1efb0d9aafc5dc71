/-! the face: more questions -/
def d_X12_memberByExcess_L1 (x : Int32) (n : Nat) (r : Nat → Int32) (K1 : ((Nat × Int32))) : Nat → Nat → (Nat × Int32)
  | 0, _ => K1 
  | k1 + 1, j1 => if (d_X10_membersAheadOf j1 n r) = x then (0, (nI j1)) else (d_X12_memberByExcess_L1 x n r K1 k1 (j1 + 1))
def d_X12_memberByExcess (x : Int32) (n : Nat) (r : Nat → Int32) (to : Nat → Int32) : (Nat × Int32) := (d_X12_memberByExcess_L1 x n r ((4, 0)) n 0)
set_option maxRecDepth 100000 in
set_option maxHeartbeats 8000000 in
theorem c_X12_memberByExcess {l : Launch} {z : Nat} {D : va_G} {kA : Nat → ClassId} {kE : Nat → Nat} {nx : Nat} {M : pm_M} {x : Int32} {n : Nat} {ldv : Value} {r : Nat → Int32} {to : Nat → Int32} (hS : pm_SA z kA 2 M r) (hto : M 0 = some (.inr (10, [.ref (z + 1), .ref (z + 2), .ref (z + 17), .ref (z + 28), .ref (z + 39), .ref (z + 129), .ref (z + 131), .ref (z + 133), .ref (z + 138), .int (to 9), .int (to 10), .int (to 11), ldv]))) (hn : r 0 = nI n) (h7 : n ≤ 7) : pm_C l z D kA kE yX12_memberByExcess cX12_memberByExcess 3 (some .int) 20 2 12 [.ref (z + 0), .int x] nx M (pm_fp ((d_X12_memberByExcess x n r to).1) (some (.int ((d_X12_memberByExcess x n r to).2))) nx M) := by
  refine pm_mk (own := RX12) (nm := "memberByExcess") mt_X12_memberByExcess rfl rfl rfl rfl fun X B => ?_
  refine pm_loc (L' := [some (.ref (z + 0)), some (.int x), none]) rfl ?_
  refine pm_iconst (v := 0) B dX12_memberByExcess_0 (by decide) ?_
  refine pm_istore_n B dX12_memberByExcess_1 rfl rfl ?_
  refine pm_loc (L' := [some (.ref (z + 0)), some (.int x), some (.int 0)]) rfl ?_
  refine pm_loc (L' := [some (.ref (z + 0)), some (.int x), some (.int (nI 0))]) rfl ?_
  have loop1 : ∀ (K1 : ((Nat × Int32))), ( pm_G l z D X 0 0 (pm_Q z D (pm_fp ((K1 ).1) (some (.int ((K1 ).2))) nx M) 2 12 X) nx M 33 [none, none, none] []) → ∀ (k1 j1 : Nat), j1 + k1 = n → pm_G l z D X 0 0 (pm_Q z D (pm_fp ((d_X12_memberByExcess_L1 x n r K1 k1 j1 ).1) (some (.int ((d_X12_memberByExcess_L1 x n r K1 k1 j1 ).2))) nx M) 2 12 X) nx M 2 [some (.ref (z + 0)), some (.int x), some (.int (nI j1))] [] := by
    intro K1 hK1 k1
    induction k1 with
    | zero =>
      intro j1 hj1
      have hjn1 : j1 = n := by omega
      refine pm_iload_n B dX12_memberByExcess_2 rfl ?_
      refine pm_aload_n B dX12_memberByExcess_3 rfl ?_
      refine pm_get B dX12_memberByExcess_4 fl_X12_20 hto rfl ?_
      refine pm_get B dX12_memberByExcess_7 fl_X12_78 (hS.1) rfl ?_
      refine pm_stk (st' := [.int (nI n), .int (nI j1)]) (by rw [show (r 0) = (nI n) from by rw [hn]]) ?_
      refine pm_icmp_ge (tgt := 33) B dX12_memberByExcess_10 (by decide) (fun hq1 => ?_) (fun hq1 => absurd ((nI_leI (by first | omega | decide) (by first | omega | decide)).mpr (by omega)) hq1)
      refine pm_wk (L' := [none, none, none]) trivial ?_
      have hDq2 : (d_X12_memberByExcess_L1 x n r K1 0 j1 ) = (K1 ) := by rw [d_X12_memberByExcess_L1]
      refine pm_pst (post' := pm_fp ((K1 ).1) (some (.int ((K1 ).2))) nx M) (by rw [hDq2]) ?_
      exact hK1
    | succ k1 ih1 =>
      intro j1 hj1
      have hjn1 : j1 < n := by omega
      refine pm_iload_n B dX12_memberByExcess_2 rfl ?_
      refine pm_aload_n B dX12_memberByExcess_3 rfl ?_
      refine pm_get B dX12_memberByExcess_4 fl_X12_20 hto rfl ?_
      refine pm_get B dX12_memberByExcess_7 fl_X12_78 (hS.1) rfl ?_
      refine pm_stk (st' := [.int (nI n), .int (nI j1)]) (by rw [show (r 0) = (nI n) from by rw [hn]]) ?_
      refine pm_icmp_ge (tgt := 33) B dX12_memberByExcess_10 (by decide) (fun hq3 => absurd hq3 (fun e => absurd ((nI_leI (by first | omega | decide) (by first | omega | decide)).mp e) (by omega))) (fun hq3 => ?_)
      refine pm_aload_n B dX12_memberByExcess_13 rfl ?_
      refine pm_get B dX12_memberByExcess_14 fl_X12_20 hto rfl ?_
      refine pm_iload_n B dX12_memberByExcess_17 rfl ?_
      refine pm_cV (As := [.int (nI j1)]) (mc2 := 0) (ms2 := 0) B rfl (hS.1) rfl (c_X10_membersAheadOfs (i := j1) (n := n) (r := r) hS hn (by first | assumption | omega) (by first | assumption | omega)) mt_X10_membersAheadOf sv_X12_120 dX12_memberByExcess_18 rfl rfl rfl rfl rfl ?_
      refine pm_stk (st' := [.int (d_X10_membersAheadOf j1 n r)]) rfl ?_
      refine pm_iload_n B dX12_memberByExcess_21 rfl ?_
      refine pm_icmp_ne (tgt := 27) B dX12_memberByExcess_22 (by decide) (fun hq4 => ?_) (fun hq4 => ?_)
      · refine pm_iinc B dX12_memberByExcess_27 rfl rfl rfl ?_
        refine pm_loc (L' := [some (.ref (z + 0)), some (.int x), some (.int (nI (j1 + 1)))]) (by rw [show ((nI j1) : Int32) + Int32.ofInt 1 = (nI (j1 + 1)) from nI_1 _]; rfl) ?_
        refine pm_goto (tgt := 2) B dX12_memberByExcess_30 (by decide) ?_
        have hDq5 : (d_X12_memberByExcess_L1 x n r K1 (k1 + 1) j1 ) = (d_X12_memberByExcess_L1 x n r K1 k1 (j1 + 1)) := by rw [d_X12_memberByExcess_L1, if_neg hq4]
        refine pm_pst (post' := pm_fp ((d_X12_memberByExcess_L1 x n r K1 k1 (j1 + 1)).1) (some (.int ((d_X12_memberByExcess_L1 x n r K1 k1 (j1 + 1)).2))) nx M) (by rw [hDq5]) ?_
        exact ih1 (j1 + 1) (by omega)
      · refine pm_iload_n B dX12_memberByExcess_25 rfl ?_
        have hDq6 : (d_X12_memberByExcess_L1 x n r K1 (k1 + 1) j1 ) = (0, (nI j1)) := by rw [d_X12_memberByExcess_L1, if_pos hq4]
        refine pm_pst (post' := pm_fp ((0, (nI j1)).1) (some (.int ((0, (nI j1)).2))) nx M) (by rw [hDq6]) ?_
        exact pm_ireturn B dX12_memberByExcess_26 rfl (by first | rfl | (apply pm_nz; first | assumption | decide | exact pm_in01 _ _ _ | ((repeat' split) <;> first | exact Or.inl rfl | exact Or.inr rfl))) ⟨rfl, Nat.le_refl _, Or.inl ⟨rfl, rfl, rfl⟩⟩ rfl rfl
  refine pm_pst (post' := pm_fp ((d_X12_memberByExcess_L1 x n r ((4, 0)) n 0).1) (some (.int ((d_X12_memberByExcess_L1 x n r ((4, 0)) n 0).2))) nx M) (by rw [show (d_X12_memberByExcess x n r to) = (d_X12_memberByExcess_L1 x n r ((4, 0)) n 0) from by rw [d_X12_memberByExcess]]) ?_
  refine loop1 ((4, 0)) ?_ n 0 (by omega)
  refine pm_pst (post' := pm_fp ((4, 0).1) (some (.int ((4, 0).2))) nx M) rfl ?_
  have hDq7 : ((4, 0)) = (4, 0) := rfl
  refine pm_pst (post' := pm_fp ((4, 0).1) (some (.int ((4, 0).2))) nx M) (rfl) ?_
  exact pm_throwS13 (text := "no such rank") B rfl px_NoSuchElement (by decide) dX12_memberByExcess_33 dX12_memberByExcess_36 dX12_memberByExcess_37 dX12_memberByExcess_39 dX12_memberByExcess_42 rfl rfl rfl rfl (fun n' hn => ⟨rfl, hn, Or.inr ⟨(show (0 : Nat) < 4 by decide), rfl⟩⟩)
def d_X12_areLinked (x : Int32) (y : Int32) (n : Nat) (r : Nat → Int32) (to : Nat → Int32) : (Nat × Int32) := if (d_X10_hasMember x n r) = 0 then (1, 0) else (if (d_X10_hasMember y n r) = 0 then (1, 0) else (0, (if (r (49 + (pm_n x)) >>> (nI (pm_n y) &&& 31)) &&& 1 = 1 then 1 else 0)))
set_option maxRecDepth 100000 in
set_option maxHeartbeats 8000000 in
theorem c_X12_areLinked {l : Launch} {z : Nat} {D : va_G} {kA : Nat → ClassId} {kE : Nat → Nat} {nx : Nat} {M : pm_M} {x : Int32} {y : Int32} {n : Nat} {ldv : Value} {r : Nat → Int32} {to : Nat → Int32} (hS : pm_SA z kA 2 M r) (hto : M 0 = some (.inr (10, [.ref (z + 1), .ref (z + 2), .ref (z + 17), .ref (z + 28), .ref (z + 39), .ref (z + 129), .ref (z + 131), .ref (z + 133), .ref (z + 138), .int (to 9), .int (to 10), .int (to 11), ldv]))) (hn : r 0 = nI n) (h7 : n ≤ 7) : pm_C l z D kA kE yX12_areLinked cX12_areLinked 3 (some .boolean) 20 2 12 [.ref (z + 0), .int x, .int y] nx M (pm_fp ((d_X12_areLinked x y n r to).1) (some (.int ((d_X12_areLinked x y n r to).2))) nx M) := by
  refine pm_mk (own := RX12) (nm := "areLinked") mt_X12_areLinked rfl rfl rfl rfl fun X B => ?_
  refine pm_loc (L' := [some (.ref (z + 0)), some (.int x), some (.int y)]) rfl ?_
  refine pm_aload_n B dX12_areLinked_0 rfl ?_
  refine pm_iload_n B dX12_areLinked_1 rfl ?_
  by_cases hq1 : (d_X10_hasMember x n r) = 0
  · have hDq2 : (d_X12_areLinked x y n r to) = (1, 0) := by rw [d_X12_areLinked, if_pos hq1]
    refine pm_pst (post' := pm_fp ((1, 0).1) (some (.int ((1, 0).2))) nx M) (by rw [hDq2]) ?_
    exact pm_cVt (As := [.int x]) (mc2 := 1) (ms2 := 6) B rfl rfl hto rfl (pm_C_fk (k' := 1) (if_pos hq1) (c_X12_demandMember (ldv := ldv) hS hto hn h7)) (by decide) mt_X12_demandMember sv_X12_82 dX12_areLinked_2 rfl rfl rfl rfl rfl (fun n' hn => ⟨rfl, hn, Or.inr ⟨(show (0 : Nat) < 1 by decide), rfl⟩⟩)
  · refine pm_cV (As := [.int x]) (mc2 := 1) (ms2 := 6) B rfl hto rfl (pm_C_f0 (if_neg hq1) (c_X12_demandMember (ldv := ldv) hS hto hn h7)) mt_X12_demandMember sv_X12_82 dX12_areLinked_2 rfl rfl rfl rfl rfl ?_
    refine pm_stk (st' := []) rfl ?_
    obtain ⟨he_x, hl_x⟩ := d_X10_hasMember_in h7 hq1
    refine pm_loc (L' := [some (.ref (z + 0)), some (.int (nI (pm_n x))), some (.int y)]) (congrArg (fun yy : Int32 => ([some (.ref (z + 0)), some (.int yy), some (.int y)] : List (Option Value))) he_x) ?_
    refine pm_aload_n B dX12_areLinked_5 rfl ?_
    refine pm_iload_n B dX12_areLinked_6 rfl ?_
    by_cases hq3 : (d_X10_hasMember y n r) = 0
    · have hDq4 : (d_X12_areLinked x y n r to) = (1, 0) := by rw [d_X12_areLinked, if_neg hq1, if_pos hq3]
      refine pm_pst (post' := pm_fp ((1, 0).1) (some (.int ((1, 0).2))) nx M) (by rw [hDq4]) ?_
      exact pm_cVt (As := [.int y]) (mc2 := 1) (ms2 := 6) B rfl rfl hto rfl (pm_C_fk (k' := 1) (if_pos hq3) (c_X12_demandMember (ldv := ldv) hS hto hn h7)) (by decide) mt_X12_demandMember sv_X12_82 dX12_areLinked_7 rfl rfl rfl rfl rfl (fun n' hn => ⟨rfl, hn, Or.inr ⟨(show (0 : Nat) < 1 by decide), rfl⟩⟩)
    · refine pm_cV (As := [.int y]) (mc2 := 1) (ms2 := 6) B rfl hto rfl (pm_C_f0 (if_neg hq3) (c_X12_demandMember (ldv := ldv) hS hto hn h7)) mt_X12_demandMember sv_X12_82 dX12_areLinked_7 rfl rfl rfl rfl rfl ?_
      refine pm_stk (st' := []) rfl ?_
      obtain ⟨he_y, hl_y⟩ := d_X10_hasMember_in h7 hq3
      refine pm_loc (L' := [some (.ref (z + 0)), some (.int (nI (pm_n x))), some (.int (nI (pm_n y)))]) (congrArg (fun yy : Int32 => ([some (.ref (z + 0)), some (.int (nI (pm_n x))), some (.int yy)] : List (Option Value))) he_y) ?_
      refine pm_aload_n B dX12_areLinked_10 rfl ?_
      refine pm_get B dX12_areLinked_11 fl_X12_20 hto rfl ?_
      refine pm_get B dX12_areLinked_14 fl_X12_195 (hS.1) rfl ?_
      refine pm_iload_n B dX12_areLinked_17 rfl ?_
      refine pm_iload_n B dX12_areLinked_18 rfl ?_
      refine pm_cV (As := [.int (nI (pm_n x)), .int (nI (pm_n y))]) (mc2 := 0) (ms2 := 0) B rfl (hS.2.2.2.1) rfl (c_X5_connects (g := (fun j => r (49 + j))) (i := pm_n x) (k := pm_n y) (hS.2.2.2.1) (hS.2.2.2.2) (by first | assumption | omega)) mt_X5_connects sv_X12_204 dX12_areLinked_19 rfl rfl rfl rfl rfl ?_
      refine pm_stk (st' := [.int (if (r (49 + (pm_n x)) >>> (nI (pm_n y) &&& 31)) &&& 1 = 1 then 1 else 0)]) rfl ?_
      have hDq5 : (d_X12_areLinked x y n r to) = (0, (if (r (49 + (pm_n x)) >>> (nI (pm_n y) &&& 31)) &&& 1 = 1 then 1 else 0)) := by rw [d_X12_areLinked, if_neg hq1, if_neg hq3]
      refine pm_pst (post' := pm_fp ((0, (if (r (49 + (pm_n x)) >>> (nI (pm_n y) &&& 31)) &&& 1 = 1 then 1 else 0)).1) (some (.int ((0, (if (r (49 + (pm_n x)) >>> (nI (pm_n y) &&& 31)) &&& 1 = 1 then 1 else 0)).2))) nx M) (by rw [hDq5]) ?_
      exact pm_ireturn B dX12_areLinked_22 rfl (by first | rfl | (apply pm_nz; first | assumption | decide | exact pm_in01 _ _ _ | ((repeat' split) <;> first | exact Or.inl rfl | exact Or.inr rfl))) ⟨rfl, Nat.le_refl _, Or.inl ⟨rfl, rfl, rfl⟩⟩ rfl rfl
def d_X12_fewestWatchers (n : Nat) (r : Nat → Int32) (to : Nat → Int32) : (Nat × Int32) := (0, (pm_fw (fun j => r (49 + j)) n (2 ^ n)))
set_option maxRecDepth 100000 in
set_option maxHeartbeats 8000000 in
theorem c_X12_fewestWatchers {l : Launch} {z : Nat} {D : va_G} {kA : Nat → ClassId} {kE : Nat → Nat} {nx : Nat} {M : pm_M} {n : Nat} {ldv : Value} {r : Nat → Int32} {to : Nat → Int32} (hS : pm_SA z kA 2 M r) (hto : M 0 = some (.inr (10, [.ref (z + 1), .ref (z + 2), .ref (z + 17), .ref (z + 28), .ref (z + 39), .ref (z + 129), .ref (z + 131), .ref (z + 133), .ref (z + 138), .int (to 9), .int (to 10), .int (to 11), ldv]))) (hn : r 0 = nI n) (h7 : n ≤ 7) : pm_C l z D kA kE yX12_fewestWatchers cX12_fewestWatchers 1 (some .int) 20 2 12 [.ref (z + 0)] nx M (pm_fp ((d_X12_fewestWatchers n r to).1) (some (.int ((d_X12_fewestWatchers n r to).2))) nx M) := by
  refine pm_mk (own := RX12) (nm := "fewestWatchers") mt_X12_fewestWatchers rfl rfl rfl rfl fun X B => ?_
  refine pm_loc (L' := [some (.ref (z + 0))]) rfl ?_
  refine pm_aload_n B dX12_fewestWatchers_0 rfl ?_
  refine pm_get B dX12_fewestWatchers_1 fl_X12_20 hto rfl ?_
  refine pm_get B dX12_fewestWatchers_4 fl_X12_195 (hS.1) rfl ?_
  refine pm_aload_n B dX12_fewestWatchers_7 rfl ?_
  refine pm_get B dX12_fewestWatchers_8 fl_X12_20 hto rfl ?_
  refine pm_get B dX12_fewestWatchers_11 fl_X12_78 (hS.1) rfl ?_
  refine pm_stk (st' := [.int (nI n), .ref (z + 11)]) (by rw [show (r 0) = (nI n) from by rw [hn]]) ?_
  refine pm_cV (As := [.int (nI n)]) (mc2 := 0) (ms2 := 0) B rfl (hS.2.2.2.1) rfl (c_X5_fewestBySets (g := (fun j => r (49 + j))) (n := n) (hS.2.2.2.1) (hS.2.2.2.2) h7) mt_X5_fewestBySets sv_X12_208 dX12_fewestWatchers_14 rfl rfl rfl rfl rfl ?_
  refine pm_stk (st' := [.int (pm_fw (fun j => r (49 + j)) n (2 ^ n))]) rfl ?_
  have hDq1 : (d_X12_fewestWatchers n r to) = (0, (pm_fw (fun j => r (49 + j)) n (2 ^ n))) := by rw [d_X12_fewestWatchers]
  refine pm_pst (post' := pm_fp ((0, (pm_fw (fun j => r (49 + j)) n (2 ^ n))).1) (some (.int ((0, (pm_fw (fun j => r (49 + j)) n (2 ^ n))).2))) nx M) (by rw [hDq1]) ?_
  exact pm_ireturn B dX12_fewestWatchers_17 rfl (by first | rfl | (apply pm_nz; first | assumption | decide | exact pm_in01 _ _ _ | ((repeat' split) <;> first | exact Or.inl rfl | exact Or.inr rfl))) ⟨rfl, Nat.le_refl _, Or.inl ⟨rfl, rfl, rfl⟩⟩ rfl rfl
def d_X12_fewestWatchersByBranching (n : Nat) (r : Nat → Int32) (to : Nat → Int32) : (Nat × Int32) := (0, (pm_ff (fun j => r (49 + j)) n 0 0))
set_option maxRecDepth 100000 in
set_option maxHeartbeats 8000000 in
theorem c_X12_fewestWatchersByBranching {l : Launch} {z : Nat} {D : va_G} {kA : Nat → ClassId} {kE : Nat → Nat} {nx : Nat} {M : pm_M} {n : Nat} {ldv : Value} {r : Nat → Int32} {to : Nat → Int32} (hS : pm_SA z kA 2 M r) (hto : M 0 = some (.inr (10, [.ref (z + 1), .ref (z + 2), .ref (z + 17), .ref (z + 28), .ref (z + 39), .ref (z + 129), .ref (z + 131), .ref (z + 133), .ref (z + 138), .int (to 9), .int (to 10), .int (to 11), ldv]))) (hn : r 0 = nI n) (h7 : n ≤ 7) : pm_C l z D kA kE yX12_fewestWatchersByBranching cX12_fewestWatchersByBranching 1 (some .int) 20 2 12 [.ref (z + 0)] nx M (pm_fp ((d_X12_fewestWatchersByBranching n r to).1) (some (.int ((d_X12_fewestWatchersByBranching n r to).2))) nx M) := by
  refine pm_mk (own := RX12) (nm := "fewestWatchersByBranching") mt_X12_fewestWatchersByBranching rfl rfl rfl rfl fun X B => ?_
  refine pm_loc (L' := [some (.ref (z + 0))]) rfl ?_
  refine pm_aload_n B dX12_fewestWatchersByBranching_0 rfl ?_
  refine pm_get B dX12_fewestWatchersByBranching_1 fl_X12_20 hto rfl ?_
  refine pm_get B dX12_fewestWatchersByBranching_4 fl_X12_195 (hS.1) rfl ?_
  refine pm_aload_n B dX12_fewestWatchersByBranching_7 rfl ?_
  refine pm_get B dX12_fewestWatchersByBranching_8 fl_X12_20 hto rfl ?_
  refine pm_get B dX12_fewestWatchersByBranching_11 fl_X12_78 (hS.1) rfl ?_
  refine pm_stk (st' := [.int (nI n), .ref (z + 11)]) (by rw [show (r 0) = (nI n) from by rw [hn]]) ?_
  refine pm_iconst (v := 0) B dX12_fewestWatchersByBranching_14 (by decide) ?_
  refine pm_iconst (v := 0) B dX12_fewestWatchersByBranching_15 (by decide) ?_
  refine pm_cSN (As := [.ref (z + 11), .int (nI n), .int 0, .int (nI 0)]) (mc2 := 0) (ms2 := 0) (d2 := n + 1) B (c_X5_fewestFrom (g := (fun j => r (49 + j))) (n := n) (hS.2.2.2.1) (hS.2.2.2.2) h7 n 0 0 (by omega)) mt_X5_fewestFrom ss_X12_211 dX12_fewestWatchersByBranching_16 rfl (Nat.ble_eq_true_of_le (by omega)) rfl rfl rfl ?_
  refine pm_stk (st' := [.int (pm_ff (fun j => r (49 + j)) n 0 0)]) rfl ?_
  have hDq1 : (d_X12_fewestWatchersByBranching n r to) = (0, (pm_ff (fun j => r (49 + j)) n 0 0)) := by rw [d_X12_fewestWatchersByBranching]
  refine pm_pst (post' := pm_fp ((0, (pm_ff (fun j => r (49 + j)) n 0 0)).1) (some (.int ((0, (pm_ff (fun j => r (49 + j)) n 0 0)).2))) nx M) (by rw [hDq1]) ?_
  exact pm_ireturn B dX12_fewestWatchersByBranching_19 rfl (by first | rfl | (apply pm_nz; first | assumption | decide | exact pm_in01 _ _ _ | ((repeat' split) <;> first | exact Or.inl rfl | exact Or.inr rfl))) ⟨rfl, Nat.le_refl _, Or.inl ⟨rfl, rfl, rfl⟩⟩ rfl rfl
def d_X12_winningCoalitions (n : Nat) (r : Nat → Int32) (to : Nat → Int32) : (Nat × Int32) := (0, (d_X11_winners n r))
set_option maxRecDepth 100000 in
set_option maxHeartbeats 8000000 in
theorem c_X12_winningCoalitions {l : Launch} {z : Nat} {D : va_G} {kA : Nat → ClassId} {kE : Nat → Nat} {nx : Nat} {M : pm_M} {n : Nat} {ldv : Value} {r : Nat → Int32} {to : Nat → Int32} (hS : pm_SA z kA 2 M r) (hto : M 0 = some (.inr (10, [.ref (z + 1), .ref (z + 2), .ref (z + 17), .ref (z + 28), .ref (z + 39), .ref (z + 129), .ref (z + 131), .ref (z + 133), .ref (z + 138), .int (to 9), .int (to 10), .int (to 11), ldv]))) (hO129 : M 129 = some (.inr (9, [.ref (z + 130)]))) (hn : r 0 = nI n) (h7 : n ≤ 7) : pm_C l z D kA kE yX12_winningCoalitions cX12_winningCoalitions 1 (some .int) 20 2 12 [.ref (z + 0)] nx M (pm_fp ((d_X12_winningCoalitions n r to).1) (some (.int ((d_X12_winningCoalitions n r to).2))) nx M) := by
  refine pm_mk (own := RX12) (nm := "winningCoalitions") mt_X12_winningCoalitions rfl rfl rfl rfl fun X B => ?_
  refine pm_loc (L' := [some (.ref (z + 0))]) rfl ?_
  refine pm_aload_n B dX12_winningCoalitions_0 rfl ?_
  refine pm_get B dX12_winningCoalitions_1 fl_X12_40 hto rfl ?_
  refine pm_aload_n B dX12_winningCoalitions_4 rfl ?_
  refine pm_get B dX12_winningCoalitions_5 fl_X12_20 hto rfl ?_
  refine pm_cV (As := [.ref (z + 2)]) (mc2 := 0) (ms2 := 0) B rfl hO129 rfl (c_X11_winnerss (n := n) (r := r) hS hn (by first | assumption | omega)) mt_X11_winners sv_X12_218 dX12_winningCoalitions_8 rfl rfl rfl rfl rfl ?_
  refine pm_stk (st' := [.int (d_X11_winners n r)]) rfl ?_
  have hDq1 : (d_X12_winningCoalitions n r to) = (0, (d_X11_winners n r)) := by rw [d_X12_winningCoalitions]
  refine pm_pst (post' := pm_fp ((0, (d_X11_winners n r)).1) (some (.int ((0, (d_X11_winners n r)).2))) nx M) (by rw [hDq1]) ?_
  exact pm_ireturn B dX12_winningCoalitions_11 rfl (by first | rfl | (apply pm_nz; first | assumption | decide | exact pm_in01 _ _ _ | ((repeat' split) <;> first | exact Or.inl rfl | exact Or.inr rfl))) ⟨rfl, Nat.le_refl _, Or.inl ⟨rfl, rfl, rfl⟩⟩ rfl rfl
def d_X12_leastDifference (n : Nat) (r : Nat → Int32) (to : Nat → Int32) : (Nat × Int32) := (0, (d_X11_differenceBySets n r))
set_option maxRecDepth 100000 in
set_option maxHeartbeats 8000000 in
theorem c_X12_leastDifference {l : Launch} {z : Nat} {D : va_G} {kA : Nat → ClassId} {kE : Nat → Nat} {nx : Nat} {M : pm_M} {n : Nat} {ldv : Value} {r : Nat → Int32} {to : Nat → Int32} (hS : pm_SA z kA 2 M r) (hto : M 0 = some (.inr (10, [.ref (z + 1), .ref (z + 2), .ref (z + 17), .ref (z + 28), .ref (z + 39), .ref (z + 129), .ref (z + 131), .ref (z + 133), .ref (z + 138), .int (to 9), .int (to 10), .int (to 11), ldv]))) (hO129 : M 129 = some (.inr (9, [.ref (z + 130)]))) (hn : r 0 = nI n) (h7 : n ≤ 7) : pm_C l z D kA kE yX12_leastDifference cX12_leastDifference 1 (some .int) 20 2 12 [.ref (z + 0)] nx M (pm_fp ((d_X12_leastDifference n r to).1) (some (.int ((d_X12_leastDifference n r to).2))) nx M) := by
  refine pm_mk (own := RX12) (nm := "leastDifference") mt_X12_leastDifference rfl rfl rfl rfl fun X B => ?_
  refine pm_loc (L' := [some (.ref (z + 0))]) rfl ?_
  refine pm_aload_n B dX12_leastDifference_0 rfl ?_
  refine pm_get B dX12_leastDifference_1 fl_X12_40 hto rfl ?_
  refine pm_aload_n B dX12_leastDifference_4 rfl ?_
  refine pm_get B dX12_leastDifference_5 fl_X12_20 hto rfl ?_
  refine pm_cV (As := [.ref (z + 2)]) (mc2 := 0) (ms2 := 0) B rfl hO129 rfl (c_X11_differenceBySetss (n := n) (r := r) hS hn (by first | assumption | omega)) mt_X11_differenceBySets sv_X12_231 dX12_leastDifference_8 rfl rfl rfl rfl rfl ?_
  refine pm_stk (st' := [.int (d_X11_differenceBySets n r)]) rfl ?_
  have hDq1 : (d_X12_leastDifference n r to) = (0, (d_X11_differenceBySets n r)) := by rw [d_X12_leastDifference]
  refine pm_pst (post' := pm_fp ((0, (d_X11_differenceBySets n r)).1) (some (.int ((0, (d_X11_differenceBySets n r)).2))) nx M) (by rw [hDq1]) ?_
  exact pm_ireturn B dX12_leastDifference_11 rfl (by first | rfl | (apply pm_nz; first | assumption | decide | exact pm_in01 _ _ _ | ((repeat' split) <;> first | exact Or.inl rfl | exact Or.inr rfl))) ⟨rfl, Nat.le_refl _, Or.inl ⟨rfl, rfl, rfl⟩⟩ rfl rfl
def d_X12_leastDifferenceBySums (n : Nat) (r : Nat → Int32) (wy : Nat → Int32) (to : Nat → Int32) : (Nat × Int32 × (Nat → Int32)) := (0, ((d_X11_differenceBySums n r wy).1), ((d_X11_differenceBySums n r wy).2))
set_option maxRecDepth 100000 in
set_option maxHeartbeats 8000000 in
theorem c_X12_leastDifferenceBySums {l : Launch} {z : Nat} {D : va_G} {kA : Nat → ClassId} {kE : Nat → Nat} {nx : Nat} {M : pm_M} {n : Nat} {ldv : Value} {r : Nat → Int32} {wy : Nat → Int32} {to : Nat → Int32} (hS : pm_SA z kA 2 M r) (hwy : M 130 = some (.inl (kA 0, 141, .inl wy))) (hto : M 0 = some (.inr (10, [.ref (z + 1), .ref (z + 2), .ref (z + 17), .ref (z + 28), .ref (z + 39), .ref (z + 129), .ref (z + 131), .ref (z + 133), .ref (z + 138), .int (to 9), .int (to 10), .int (to 11), ldv]))) (hO129 : M 129 = some (.inr (9, [.ref (z + 130)]))) (hn : r 0 = nI n) (h7 : n ≤ 7) (hrw : ∀ i, i < n → pm_rw r i) : pm_C l z D kA kE yX12_leastDifferenceBySums cX12_leastDifferenceBySums 1 (some .int) 20 2 12 [.ref (z + 0)] nx M (pm_fp ((d_X12_leastDifferenceBySums n r wy to).1) (some (.int ((d_X12_leastDifferenceBySums n r wy to).2.1))) nx (pm_up M 130 (.inl (kA 0, 141, .inl ((d_X12_leastDifferenceBySums n r wy to).2.2))))) := by
  refine pm_mk (own := RX12) (nm := "leastDifferenceBySums") mt_X12_leastDifferenceBySums rfl rfl rfl rfl fun X B => ?_
  refine pm_loc (L' := [some (.ref (z + 0))]) rfl ?_
  refine pm_mem (M' := pm_up M 130 (.inl (kA 0, 141, .inl wy))) (by rw [pm_up_id hwy]) ?_
  refine pm_aload_n B dX12_leastDifferenceBySums_0 rfl ?_
  refine pm_get B dX12_leastDifferenceBySums_1 fl_X12_40 ((pm_up_n (by omega)).trans hto) rfl ?_
  refine pm_aload_n B dX12_leastDifferenceBySums_4 rfl ?_
  refine pm_get B dX12_leastDifferenceBySums_5 fl_X12_20 ((pm_up_n (by omega)).trans hto) rfl ?_
  refine pm_cV (As := [.ref (z + 2)]) (mc2 := 0) (ms2 := 0) B rfl ((pm_up_n (by omega)).trans hO129) rfl (c_X11_differenceBySumss (n := n) (r := r) (wy := wy) (pm_SA_up (by omega) hS) pm_up_s ((pm_up_n (by omega)).trans hO129) hn (by first | assumption | omega) (by assumption)) mt_X11_differenceBySums sv_X12_234 dX12_leastDifferenceBySums_8 rfl rfl rfl rfl rfl ?_
  refine pm_mem (M' := pm_up M 130 (.inl (kA 0, 141, .inl ((d_X11_differenceBySums n r wy).2)))) (by rw [pm_up_up (a := 130)] <;> rfl) ?_
  refine pm_stk (st' := [.int ((d_X11_differenceBySums n r wy).1)]) rfl ?_
  have hDq1 : (d_X12_leastDifferenceBySums n r wy to) = (0, ((d_X11_differenceBySums n r wy).1), ((d_X11_differenceBySums n r wy).2)) := by rw [d_X12_leastDifferenceBySums]
  refine pm_pst (post' := pm_fp ((0, ((d_X11_differenceBySums n r wy).1), ((d_X11_differenceBySums n r wy).2)).1) (some (.int ((0, ((d_X11_differenceBySums n r wy).1), ((d_X11_differenceBySums n r wy).2)).2.1))) nx (pm_up M 130 (.inl (kA 0, 141, .inl ((0, ((d_X11_differenceBySums n r wy).1), ((d_X11_differenceBySums n r wy).2)).2.2))))) (by rw [hDq1]) ?_
  exact pm_ireturn B dX12_leastDifferenceBySums_11 rfl (by first | rfl | (apply pm_nz; first | assumption | decide | exact pm_in01 _ _ _ | ((repeat' split) <;> first | exact Or.inl rfl | exact Or.inr rfl))) ⟨rfl, Nat.le_refl _, Or.inl ⟨rfl, rfl, rfl⟩⟩ rfl rfl
def d_X12_swings (x : Int32) (n : Nat) (r : Nat → Int32) (to : Nat → Int32) : (Nat × Int32) := if (d_X10_hasMember x n r) = 0 then (1, 0) else (if (r (7 + 6 * (pm_n x) + 5)) = 0 then (0, (d_X11_swingsBySets (pm_n x) n r)) else (4, 0))
set_option maxRecDepth 100000 in
set_option maxHeartbeats 8000000 in
theorem c_X12_swings {l : Launch} {z : Nat} {D : va_G} {kA : Nat → ClassId} {kE : Nat → Nat} {nx : Nat} {M : pm_M} {x : Int32} {n : Nat} {ldv : Value} {r : Nat → Int32} {to : Nat → Int32} (hS : pm_SA z kA 2 M r) (hto : M 0 = some (.inr (10, [.ref (z + 1), .ref (z + 2), .ref (z + 17), .ref (z + 28), .ref (z + 39), .ref (z + 129), .ref (z + 131), .ref (z + 133), .ref (z + 138), .int (to 9), .int (to 10), .int (to 11), ldv]))) (hO129 : M 129 = some (.inr (9, [.ref (z + 130)]))) (hn : r 0 = nI n) (h7 : n ≤ 7) : pm_C l z D kA kE yX12_swings cX12_swings 2 (some .int) 20 2 12 [.ref (z + 0), .int x] nx M (pm_fp ((d_X12_swings x n r to).1) (some (.int ((d_X12_swings x n r to).2))) nx M) := by
  refine pm_mk (own := RX12) (nm := "swings") mt_X12_swings rfl rfl rfl rfl fun X B => ?_
  refine pm_loc (L' := [some (.ref (z + 0)), some (.int x)]) rfl ?_
  refine pm_aload_n B dX12_swings_0 rfl ?_
  refine pm_iload_n B dX12_swings_1 rfl ?_
  by_cases hq1 : (d_X10_hasMember x n r) = 0
  · have hDq2 : (d_X12_swings x n r to) = (1, 0) := by rw [d_X12_swings, if_pos hq1]
    refine pm_pst (post' := pm_fp ((1, 0).1) (some (.int ((1, 0).2))) nx M) (by rw [hDq2]) ?_
    exact pm_cVt (As := [.int x]) (mc2 := 1) (ms2 := 6) B rfl rfl hto rfl (pm_C_fk (k' := 1) (if_pos hq1) (c_X12_demandMember (ldv := ldv) hS hto hn h7)) (by decide) mt_X12_demandMember sv_X12_82 dX12_swings_2 rfl rfl rfl rfl rfl (fun n' hn => ⟨rfl, hn, Or.inr ⟨(show (0 : Nat) < 1 by decide), rfl⟩⟩)
  · refine pm_cV (As := [.int x]) (mc2 := 1) (ms2 := 6) B rfl hto rfl (pm_C_f0 (if_neg hq1) (c_X12_demandMember (ldv := ldv) hS hto hn h7)) mt_X12_demandMember sv_X12_82 dX12_swings_2 rfl rfl rfl rfl rfl ?_
    refine pm_stk (st' := []) rfl ?_
    obtain ⟨he_x, hl_x⟩ := d_X10_hasMember_in h7 hq1
    refine pm_loc (L' := [some (.ref (z + 0)), some (.int (nI (pm_n x)))]) (congrArg (fun yy : Int32 => ([some (.ref (z + 0)), some (.int yy)] : List (Option Value))) he_x) ?_
    refine pm_aload_n B dX12_swings_5 rfl ?_
    refine pm_get B dX12_swings_6 fl_X12_20 hto rfl ?_
    refine pm_get B dX12_swings_9 fl_X12_86 (hS.1) rfl ?_
    refine pm_iload_n B dX12_swings_12 rfl ?_
    refine pm_aald_n B dX12_swings_13 (hS.2.1) rfl (pm_n x) (by first | assumption | omega) (by decide) (pm_mr_at (by first | assumption | omega)) ?_
    refine pm_cV (As := []) (mc2 := 0) (ms2 := 0) B rfl (hS.2.2.1 (pm_n x) (by first | assumption | omega)) rfl (c_X6_isActive (hS.2.2.1 (pm_n x) (by first | assumption | omega))) mt_X6_isActive sv_X12_102 dX12_swings_14 rfl rfl rfl rfl rfl ?_
    refine pm_stk (st' := [.int (if (r (7 + 6 * (pm_n x) + 5)) = 0 then 1 else 0)]) rfl ?_
    refine pm_if_ne (tgt := 30) B dX12_swings_17 (by decide) (fun hq3 => ?_) (fun hq3 => ?_)
    · have hq3p : ((r (7 + 6 * (pm_n x) + 5)) = 0) := Decidable.not_not.mp (fun e => hq3 ((pm_if01 _ _).mpr e))
      refine pm_aload_n B dX12_swings_30 rfl ?_
      refine pm_get B dX12_swings_31 fl_X12_40 hto rfl ?_
      refine pm_aload_n B dX12_swings_34 rfl ?_
      refine pm_get B dX12_swings_35 fl_X12_20 hto rfl ?_
      refine pm_iload_n B dX12_swings_38 rfl ?_
      refine pm_cV (As := [.ref (z + 2), .int (nI (pm_n x))]) (mc2 := 0) (ms2 := 0) B rfl hO129 rfl (c_X11_swingsBySetss (i := (pm_n x)) (n := n) (r := r) hS hn (by first | assumption | omega) (by first | assumption | omega)) mt_X11_swingsBySets sv_X12_224 dX12_swings_39 rfl rfl rfl rfl rfl ?_
      refine pm_stk (st' := [.int (d_X11_swingsBySets (pm_n x) n r)]) rfl ?_
      have hDq4 : (d_X12_swings x n r to) = (0, (d_X11_swingsBySets (pm_n x) n r)) := by rw [d_X12_swings, if_neg hq1, if_pos hq3p]
      refine pm_pst (post' := pm_fp ((0, (d_X11_swingsBySets (pm_n x) n r)).1) (some (.int ((0, (d_X11_swingsBySets (pm_n x) n r)).2))) nx M) (by rw [hDq4]) ?_
      exact pm_ireturn B dX12_swings_42 rfl (by first | rfl | (apply pm_nz; first | assumption | decide | exact pm_in01 _ _ _ | ((repeat' split) <;> first | exact Or.inl rfl | exact Or.inr rfl))) ⟨rfl, Nat.le_refl _, Or.inl ⟨rfl, rfl, rfl⟩⟩ rfl rfl
    · have hq3p : ¬ ((r (7 + 6 * (pm_n x) + 5)) = 0) := (pm_if01 _ _).mp hq3
      have hDq5 : (d_X12_swings x n r to) = (4, 0) := by rw [d_X12_swings, if_neg hq1, if_neg hq3p]
      refine pm_pst (post' := pm_fp ((4, 0).1) (some (.int ((4, 0).2))) nx M) (by rw [hDq5]) ?_
      exact pm_throwS13 (text := "the member is barred") B rfl px_NoSuchElement (by decide) dX12_swings_20 dX12_swings_23 dX12_swings_24 dX12_swings_26 dX12_swings_29 rfl rfl rfl rfl (fun n' hn => ⟨rfl, hn, Or.inr ⟨(show (0 : Nat) < 4 by decide), rfl⟩⟩)
def d_X12_swingsByCounts (x : Int32) (n : Nat) (r : Nat → Int32) (wy : Nat → Int32) (to : Nat → Int32) : (Nat × Int32 × (Nat → Int32)) := if (d_X10_hasMember x n r) = 0 then (1, 0, wy) else (if (r (7 + 6 * (pm_n x) + 5)) = 0 then (0, ((d_X11_swingsByWays (pm_n x) n r wy).1), ((d_X11_swingsByWays (pm_n x) n r wy).2)) else (4, 0, wy))
set_option maxRecDepth 100000 in
set_option maxHeartbeats 8000000 in
theorem c_X12_swingsByCounts {l : Launch} {z : Nat} {D : va_G} {kA : Nat → ClassId} {kE : Nat → Nat} {nx : Nat} {M : pm_M} {x : Int32} {n : Nat} {ldv : Value} {r : Nat → Int32} {wy : Nat → Int32} {to : Nat → Int32} (hS : pm_SA z kA 2 M r) (hwy : M 130 = some (.inl (kA 0, 141, .inl wy))) (hto : M 0 = some (.inr (10, [.ref (z + 1), .ref (z + 2), .ref (z + 17), .ref (z + 28), .ref (z + 39), .ref (z + 129), .ref (z + 131), .ref (z + 133), .ref (z + 138), .int (to 9), .int (to 10), .int (to 11), ldv]))) (hO129 : M 129 = some (.inr (9, [.ref (z + 130)]))) (hn : r 0 = nI n) (h7 : n ≤ 7) (hrw : ∀ i, i < n → pm_rw r i) : pm_C l z D kA kE yX12_swingsByCounts cX12_swingsByCounts 2 (some .int) 20 2 12 [.ref (z + 0), .int x] nx M (pm_fp ((d_X12_swingsByCounts x n r wy to).1) (some (.int ((d_X12_swingsByCounts x n r wy to).2.1))) nx (pm_up M 130 (.inl (kA 0, 141, .inl ((d_X12_swingsByCounts x n r wy to).2.2))))) := by
  refine pm_mk (own := RX12) (nm := "swingsByCounts") mt_X12_swingsByCounts rfl rfl rfl rfl fun X B => ?_
  refine pm_loc (L' := [some (.ref (z + 0)), some (.int x)]) rfl ?_
  refine pm_mem (M' := pm_up M 130 (.inl (kA 0, 141, .inl wy))) (by rw [pm_up_id hwy]) ?_
  refine pm_aload_n B dX12_swingsByCounts_0 rfl ?_
  refine pm_iload_n B dX12_swingsByCounts_1 rfl ?_
  by_cases hq1 : (d_X10_hasMember x n r) = 0
  · have hDq2 : (d_X12_swingsByCounts x n r wy to) = (1, 0, wy) := by rw [d_X12_swingsByCounts, if_pos hq1]
    refine pm_pst (post' := pm_fp ((1, 0, wy).1) (some (.int ((1, 0, wy).2.1))) nx (pm_up M 130 (.inl (kA 0, 141, .inl ((1, 0, wy).2.2))))) (by rw [hDq2]) ?_
    exact pm_cVt (As := [.int x]) (mc2 := 1) (ms2 := 6) B rfl rfl ((pm_up_n (by omega)).trans hto) rfl (pm_C_fk (k' := 1) (if_pos hq1) (c_X12_demandMember (ldv := ldv) (pm_SA_up (by omega) hS) ((pm_up_n (by omega)).trans hto) hn h7)) (by decide) mt_X12_demandMember sv_X12_82 dX12_swingsByCounts_2 rfl rfl rfl rfl rfl (fun n' hn => ⟨rfl, hn, Or.inr ⟨(show (0 : Nat) < 1 by decide), rfl⟩⟩)
  · refine pm_cV (As := [.int x]) (mc2 := 1) (ms2 := 6) B rfl ((pm_up_n (by omega)).trans hto) rfl (pm_C_f0 (if_neg hq1) (c_X12_demandMember (ldv := ldv) (pm_SA_up (by omega) hS) ((pm_up_n (by omega)).trans hto) hn h7)) mt_X12_demandMember sv_X12_82 dX12_swingsByCounts_2 rfl rfl rfl rfl rfl ?_
    refine pm_stk (st' := []) rfl ?_
    obtain ⟨he_x, hl_x⟩ := d_X10_hasMember_in h7 hq1
    refine pm_loc (L' := [some (.ref (z + 0)), some (.int (nI (pm_n x)))]) (congrArg (fun yy : Int32 => ([some (.ref (z + 0)), some (.int yy)] : List (Option Value))) he_x) ?_
    refine pm_aload_n B dX12_swingsByCounts_5 rfl ?_
    refine pm_get B dX12_swingsByCounts_6 fl_X12_20 ((pm_up_n (by omega)).trans hto) rfl ?_
    refine pm_get B dX12_swingsByCounts_9 fl_X12_86 ((pm_up_n (by omega)).trans (hS.1)) rfl ?_
    refine pm_iload_n B dX12_swingsByCounts_12 rfl ?_
    refine pm_aald_n B dX12_swingsByCounts_13 ((pm_up_n (by omega)).trans (hS.2.1)) rfl (pm_n x) (by first | assumption | omega) (by decide) (pm_mr_at (by first | assumption | omega)) ?_
    refine pm_cV (As := []) (mc2 := 0) (ms2 := 0) B rfl ((pm_up_n (by omega)).trans (hS.2.2.1 (pm_n x) (by first | assumption | omega))) rfl (c_X6_isActive ((pm_up_n (by omega)).trans (hS.2.2.1 (pm_n x) (by first | assumption | omega)))) mt_X6_isActive sv_X12_102 dX12_swingsByCounts_14 rfl rfl rfl rfl rfl ?_
    refine pm_stk (st' := [.int (if (r (7 + 6 * (pm_n x) + 5)) = 0 then 1 else 0)]) rfl ?_
    refine pm_if_ne (tgt := 30) B dX12_swingsByCounts_17 (by decide) (fun hq3 => ?_) (fun hq3 => ?_)
    · have hq3p : ((r (7 + 6 * (pm_n x) + 5)) = 0) := Decidable.not_not.mp (fun e => hq3 ((pm_if01 _ _).mpr e))
      refine pm_aload_n B dX12_swingsByCounts_30 rfl ?_
      refine pm_get B dX12_swingsByCounts_31 fl_X12_40 ((pm_up_n (by omega)).trans hto) rfl ?_
      refine pm_aload_n B dX12_swingsByCounts_34 rfl ?_
      refine pm_get B dX12_swingsByCounts_35 fl_X12_20 ((pm_up_n (by omega)).trans hto) rfl ?_
      refine pm_iload_n B dX12_swingsByCounts_38 rfl ?_
      refine pm_cV (As := [.ref (z + 2), .int (nI (pm_n x))]) (mc2 := 0) (ms2 := 0) B rfl ((pm_up_n (by omega)).trans hO129) rfl (c_X11_swingsByWayss (i := (pm_n x)) (n := n) (r := r) (wy := wy) (pm_SA_up (by omega) hS) pm_up_s ((pm_up_n (by omega)).trans hO129) hn (by first | assumption | omega) (by first | assumption | omega) (by assumption)) mt_X11_swingsByWays sv_X12_228 dX12_swingsByCounts_39 rfl rfl rfl rfl rfl ?_
      refine pm_mem (M' := pm_up M 130 (.inl (kA 0, 141, .inl ((d_X11_swingsByWays (pm_n x) n r wy).2)))) (by rw [pm_up_up (a := 130)] <;> rfl) ?_
      refine pm_stk (st' := [.int ((d_X11_swingsByWays (pm_n x) n r wy).1)]) rfl ?_
      have hDq4 : (d_X12_swingsByCounts x n r wy to) = (0, ((d_X11_swingsByWays (pm_n x) n r wy).1), ((d_X11_swingsByWays (pm_n x) n r wy).2)) := by rw [d_X12_swingsByCounts, if_neg hq1, if_pos hq3p]
      refine pm_pst (post' := pm_fp ((0, ((d_X11_swingsByWays (pm_n x) n r wy).1), ((d_X11_swingsByWays (pm_n x) n r wy).2)).1) (some (.int ((0, ((d_X11_swingsByWays (pm_n x) n r wy).1), ((d_X11_swingsByWays (pm_n x) n r wy).2)).2.1))) nx (pm_up M 130 (.inl (kA 0, 141, .inl ((0, ((d_X11_swingsByWays (pm_n x) n r wy).1), ((d_X11_swingsByWays (pm_n x) n r wy).2)).2.2))))) (by rw [hDq4]) ?_
      exact pm_ireturn B dX12_swingsByCounts_42 rfl (by first | rfl | (apply pm_nz; first | assumption | decide | exact pm_in01 _ _ _ | ((repeat' split) <;> first | exact Or.inl rfl | exact Or.inr rfl))) ⟨rfl, Nat.le_refl _, Or.inl ⟨rfl, rfl, rfl⟩⟩ rfl rfl
    · have hq3p : ¬ ((r (7 + 6 * (pm_n x) + 5)) = 0) := (pm_if01 _ _).mp hq3
      have hDq5 : (d_X12_swingsByCounts x n r wy to) = (4, 0, wy) := by rw [d_X12_swingsByCounts, if_neg hq1, if_neg hq3p]
      refine pm_pst (post' := pm_fp ((4, 0, wy).1) (some (.int ((4, 0, wy).2.1))) nx (pm_up M 130 (.inl (kA 0, 141, .inl ((4, 0, wy).2.2))))) (by rw [hDq5]) ?_
      exact pm_throwS13 (text := "the member is barred") B rfl px_NoSuchElement (by decide) dX12_swingsByCounts_20 dX12_swingsByCounts_23 dX12_swingsByCounts_24 dX12_swingsByCounts_26 dX12_swingsByCounts_29 rfl rfl rfl rfl (fun n' hn => ⟨rfl, hn, Or.inr ⟨(show (0 : Nat) < 4 by decide), rfl⟩⟩)
def d_X12_share (x : Int32) (n : Nat) (r : Nat → Int32) (un : Nat → Int32) (cu : Nat → Int32) (to : Nat → Int32) : (Nat × Int32 × (Nat → Int32) × (Nat → Int32)) := if (d_X10_hasMember x n r) = 0 then (1, 0, un, cu) else (0, ((d_X3_byOrders (pm_n x) n r un cu).1), ((d_X3_byOrders (pm_n x) n r un cu).2.1), ((d_X3_byOrders (pm_n x) n r un cu).2.2))
set_option maxRecDepth 100000 in
set_option maxHeartbeats 8000000 in
theorem c_X12_share {l : Launch} {z : Nat} {D : va_G} {kA : Nat → ClassId} {kE : Nat → Nat} {nx : Nat} {M : pm_M} {x : Int32} {n : Nat} {ldv : Value} {r : Nat → Int32} {un : Nat → Int32} {cu : Nat → Int32} {to : Nat → Int32} (hS : pm_SA z kA 2 M r) (hun : M 132 = some (.inl (kA 0, 7, .inl un))) (hcu : M 131 = some (.inr (1, [.ref (z + 132), .int (cu 1)]))) (hto : M 0 = some (.inr (10, [.ref (z + 1), .ref (z + 2), .ref (z + 17), .ref (z + 28), .ref (z + 39), .ref (z + 129), .ref (z + 131), .ref (z + 133), .ref (z + 138), .int (to 9), .int (to 10), .int (to 11), ldv]))) (hn : r 0 = nI n) (h7 : n ≤ 7) : pm_C l z D kA kE yX12_share cX12_share 2 (some .int) 20 2 12 [.ref (z + 0), .int x] nx M (pm_fp ((d_X12_share x n r un cu to).1) (some (.int ((d_X12_share x n r un cu to).2.1))) nx (pm_up (pm_up M 132 (.inl (kA 0, 7, .inl ((d_X12_share x n r un cu to).2.2.1)))) 131 (.inr (1, [.ref (z + 132), .int (((d_X12_share x n r un cu to).2.2.2) 1)])))) := by
  refine pm_mk (own := RX12) (nm := "share") mt_X12_share rfl rfl rfl rfl fun X B => ?_
  refine pm_loc (L' := [some (.ref (z + 0)), some (.int x)]) rfl ?_
  refine pm_mem (M' := pm_up (pm_up M 132 (.inl (kA 0, 7, .inl un))) 131 (.inr (1, [.ref (z + 132), .int (cu 1)]))) (by rw [pm_up_id hun, pm_up_id hcu]) ?_
  refine pm_aload_n B dX12_share_0 rfl ?_
  refine pm_iload_n B dX12_share_1 rfl ?_
  by_cases hq1 : (d_X10_hasMember x n r) = 0
  · have hDq2 : (d_X12_share x n r un cu to) = (1, 0, un, cu) := by rw [d_X12_share, if_pos hq1]
    refine pm_pst (post' := pm_fp ((1, 0, un, cu).1) (some (.int ((1, 0, un, cu).2.1))) nx (pm_up (pm_up M 132 (.inl (kA 0, 7, .inl ((1, 0, un, cu).2.2.1)))) 131 (.inr (1, [.ref (z + 132), .int (((1, 0, un, cu).2.2.2) 1)])))) (by rw [hDq2]) ?_
    exact pm_cVt (As := [.int x]) (mc2 := 1) (ms2 := 6) B rfl rfl ((pm_up_n (by omega)).trans ((pm_up_n (by omega)).trans hto)) rfl (pm_C_fk (k' := 1) (if_pos hq1) (c_X12_demandMember (ldv := ldv) (pm_SA_up (by omega) (pm_SA_up (by omega) hS)) ((pm_up_n (by omega)).trans ((pm_up_n (by omega)).trans hto)) hn h7)) (by decide) mt_X12_demandMember sv_X12_82 dX12_share_2 rfl rfl rfl rfl rfl (fun n' hn => ⟨rfl, hn, Or.inr ⟨(show (0 : Nat) < 1 by decide), rfl⟩⟩)
  · refine pm_cV (As := [.int x]) (mc2 := 1) (ms2 := 6) B rfl ((pm_up_n (by omega)).trans ((pm_up_n (by omega)).trans hto)) rfl (pm_C_f0 (if_neg hq1) (c_X12_demandMember (ldv := ldv) (pm_SA_up (by omega) (pm_SA_up (by omega) hS)) ((pm_up_n (by omega)).trans ((pm_up_n (by omega)).trans hto)) hn h7)) mt_X12_demandMember sv_X12_82 dX12_share_2 rfl rfl rfl rfl rfl ?_
    refine pm_stk (st' := []) rfl ?_
    obtain ⟨he_x, hl_x⟩ := d_X10_hasMember_in h7 hq1
    refine pm_loc (L' := [some (.ref (z + 0)), some (.int (nI (pm_n x)))]) (congrArg (fun yy : Int32 => ([some (.ref (z + 0)), some (.int yy)] : List (Option Value))) he_x) ?_
    refine pm_aload_n B dX12_share_5 rfl ?_
    refine pm_get B dX12_share_6 fl_X12_47 ((pm_up_n (by omega)).trans ((pm_up_n (by omega)).trans hto)) rfl ?_
    refine pm_aload_n B dX12_share_9 rfl ?_
    refine pm_get B dX12_share_10 fl_X12_20 ((pm_up_n (by omega)).trans ((pm_up_n (by omega)).trans hto)) rfl ?_
    refine pm_iload_n B dX12_share_13 rfl ?_
    refine pm_cV (As := [.ref (z + 2), .int (nI (pm_n x))]) (mc2 := 0) (ms2 := 0) B rfl pm_up_s rfl (c_X3_byOrders (i := (pm_n x)) (n := n) (r := r) (un := un) (cu := cu) (pm_SA_up (by omega) (pm_SA_up (by omega) hS)) ((pm_up_n (by omega)).trans pm_up_s) pm_up_s hn (by first | assumption | omega) (by first | assumption | omega)) mt_X3_byOrders sv_X12_237 dX12_share_14 rfl rfl rfl rfl rfl ?_
    refine pm_mem (M' := pm_up (pm_up M 132 (.inl (kA 0, 7, .inl ((d_X3_byOrders (pm_n x) n r un cu).2.1)))) 131 (.inr (1, [.ref (z + 132), .int (((d_X3_byOrders (pm_n x) n r un cu).2.2) 1)]))) (by rw [pm_up_sw (a := 131) (b := 132) (by omega), pm_up_up (a := 132), pm_up_up (a := 131)] <;> rfl) ?_
    refine pm_stk (st' := [.int ((d_X3_byOrders (pm_n x) n r un cu).1)]) rfl ?_
    have hDq3 : (d_X12_share x n r un cu to) = (0, ((d_X3_byOrders (pm_n x) n r un cu).1), ((d_X3_byOrders (pm_n x) n r un cu).2.1), ((d_X3_byOrders (pm_n x) n r un cu).2.2)) := by rw [d_X12_share, if_neg hq1]
    refine pm_pst (post' := pm_fp ((0, ((d_X3_byOrders (pm_n x) n r un cu).1), ((d_X3_byOrders (pm_n x) n r un cu).2.1), ((d_X3_byOrders (pm_n x) n r un cu).2.2)).1) (some (.int ((0, ((d_X3_byOrders (pm_n x) n r un cu).1), ((d_X3_byOrders (pm_n x) n r un cu).2.1), ((d_X3_byOrders (pm_n x) n r un cu).2.2)).2.1))) nx (pm_up (pm_up M 132 (.inl (kA 0, 7, .inl ((0, ((d_X3_byOrders (pm_n x) n r un cu).1), ((d_X3_byOrders (pm_n x) n r un cu).2.1), ((d_X3_byOrders (pm_n x) n r un cu).2.2)).2.2.1)))) 131 (.inr (1, [.ref (z + 132), .int (((0, ((d_X3_byOrders (pm_n x) n r un cu).1), ((d_X3_byOrders (pm_n x) n r un cu).2.1), ((d_X3_byOrders (pm_n x) n r un cu).2.2)).2.2.2) 1)])))) (by rw [hDq3]) ?_
    exact pm_ireturn B dX12_share_17 rfl (by first | rfl | (apply pm_nz; first | assumption | decide | exact pm_in01 _ _ _ | ((repeat' split) <;> first | exact Or.inl rfl | exact Or.inr rfl))) ⟨rfl, Nat.le_refl _, Or.inl ⟨rfl, rfl, rfl⟩⟩ rfl rfl
def d_X12_shareBySteps (x : Int32) (n : Nat) (r : Nat → Int32) (un : Nat → Int32) (cu : Nat → Int32) (to : Nat → Int32) : (Nat × Int32 × (Nat → Int32) × (Nat → Int32)) := if (d_X10_hasMember x n r) = 0 then (1, 0, un, cu) else (0, ((d_X3_bySteps (pm_n x) n r un cu).1), ((d_X3_bySteps (pm_n x) n r un cu).2.1), ((d_X3_bySteps (pm_n x) n r un cu).2.2))
set_option maxRecDepth 100000 in
set_option maxHeartbeats 8000000 in
theorem c_X12_shareBySteps {l : Launch} {z : Nat} {D : va_G} {kA : Nat → ClassId} {kE : Nat → Nat} {nx : Nat} {M : pm_M} {x : Int32} {n : Nat} {ldv : Value} {r : Nat → Int32} {un : Nat → Int32} {cu : Nat → Int32} {to : Nat → Int32} (hS : pm_SA z kA 2 M r) (hun : M 132 = some (.inl (kA 0, 7, .inl un))) (hcu : M 131 = some (.inr (1, [.ref (z + 132), .int (cu 1)]))) (hto : M 0 = some (.inr (10, [.ref (z + 1), .ref (z + 2), .ref (z + 17), .ref (z + 28), .ref (z + 39), .ref (z + 129), .ref (z + 131), .ref (z + 133), .ref (z + 138), .int (to 9), .int (to 10), .int (to 11), ldv]))) (hn : r 0 = nI n) (h7 : n ≤ 7) : pm_C l z D kA kE yX12_shareBySteps cX12_shareBySteps 2 (some .int) 20 2 12 [.ref (z + 0), .int x] nx M (pm_fp ((d_X12_shareBySteps x n r un cu to).1) (some (.int ((d_X12_shareBySteps x n r un cu to).2.1))) nx (pm_up (pm_up M 132 (.inl (kA 0, 7, .inl ((d_X12_shareBySteps x n r un cu to).2.2.1)))) 131 (.inr (1, [.ref (z + 132), .int (((d_X12_shareBySteps x n r un cu to).2.2.2) 1)])))) := by
  refine pm_mk (own := RX12) (nm := "shareBySteps") mt_X12_shareBySteps rfl rfl rfl rfl fun X B => ?_
  refine pm_loc (L' := [some (.ref (z + 0)), some (.int x)]) rfl ?_
  refine pm_mem (M' := pm_up (pm_up M 132 (.inl (kA 0, 7, .inl un))) 131 (.inr (1, [.ref (z + 132), .int (cu 1)]))) (by rw [pm_up_id hun, pm_up_id hcu]) ?_
  refine pm_aload_n B dX12_shareBySteps_0 rfl ?_
  refine pm_iload_n B dX12_shareBySteps_1 rfl ?_
  by_cases hq1 : (d_X10_hasMember x n r) = 0
  · have hDq2 : (d_X12_shareBySteps x n r un cu to) = (1, 0, un, cu) := by rw [d_X12_shareBySteps, if_pos hq1]
    refine pm_pst (post' := pm_fp ((1, 0, un, cu).1) (some (.int ((1, 0, un, cu).2.1))) nx (pm_up (pm_up M 132 (.inl (kA 0, 7, .inl ((1, 0, un, cu).2.2.1)))) 131 (.inr (1, [.ref (z + 132), .int (((1, 0, un, cu).2.2.2) 1)])))) (by rw [hDq2]) ?_
    exact pm_cVt (As := [.int x]) (mc2 := 1) (ms2 := 6) B rfl rfl ((pm_up_n (by omega)).trans ((pm_up_n (by omega)).trans hto)) rfl (pm_C_fk (k' := 1) (if_pos hq1) (c_X12_demandMember (ldv := ldv) (pm_SA_up (by omega) (pm_SA_up (by omega) hS)) ((pm_up_n (by omega)).trans ((pm_up_n (by omega)).trans hto)) hn h7)) (by decide) mt_X12_demandMember sv_X12_82 dX12_shareBySteps_2 rfl rfl rfl rfl rfl (fun n' hn => ⟨rfl, hn, Or.inr ⟨(show (0 : Nat) < 1 by decide), rfl⟩⟩)
  · refine pm_cV (As := [.int x]) (mc2 := 1) (ms2 := 6) B rfl ((pm_up_n (by omega)).trans ((pm_up_n (by omega)).trans hto)) rfl (pm_C_f0 (if_neg hq1) (c_X12_demandMember (ldv := ldv) (pm_SA_up (by omega) (pm_SA_up (by omega) hS)) ((pm_up_n (by omega)).trans ((pm_up_n (by omega)).trans hto)) hn h7)) mt_X12_demandMember sv_X12_82 dX12_shareBySteps_2 rfl rfl rfl rfl rfl ?_
    refine pm_stk (st' := []) rfl ?_
    obtain ⟨he_x, hl_x⟩ := d_X10_hasMember_in h7 hq1
    refine pm_loc (L' := [some (.ref (z + 0)), some (.int (nI (pm_n x)))]) (congrArg (fun yy : Int32 => ([some (.ref (z + 0)), some (.int yy)] : List (Option Value))) he_x) ?_
    refine pm_aload_n B dX12_shareBySteps_5 rfl ?_
    refine pm_get B dX12_shareBySteps_6 fl_X12_47 ((pm_up_n (by omega)).trans ((pm_up_n (by omega)).trans hto)) rfl ?_
    refine pm_aload_n B dX12_shareBySteps_9 rfl ?_
    refine pm_get B dX12_shareBySteps_10 fl_X12_20 ((pm_up_n (by omega)).trans ((pm_up_n (by omega)).trans hto)) rfl ?_
    refine pm_iload_n B dX12_shareBySteps_13 rfl ?_
    refine pm_cV (As := [.ref (z + 2), .int (nI (pm_n x))]) (mc2 := 0) (ms2 := 0) B rfl pm_up_s rfl (c_X3_bySteps (i := (pm_n x)) (n := n) (r := r) (un := un) (cu := cu) (pm_SA_up (by omega) (pm_SA_up (by omega) hS)) ((pm_up_n (by omega)).trans pm_up_s) pm_up_s hn (by first | assumption | omega) (by first | assumption | omega)) mt_X3_bySteps sv_X12_240 dX12_shareBySteps_14 rfl rfl rfl rfl rfl ?_
    refine pm_mem (M' := pm_up (pm_up M 132 (.inl (kA 0, 7, .inl ((d_X3_bySteps (pm_n x) n r un cu).2.1)))) 131 (.inr (1, [.ref (z + 132), .int (((d_X3_bySteps (pm_n x) n r un cu).2.2) 1)]))) (by rw [pm_up_sw (a := 131) (b := 132) (by omega), pm_up_up (a := 132), pm_up_up (a := 131)] <;> rfl) ?_
    refine pm_stk (st' := [.int ((d_X3_bySteps (pm_n x) n r un cu).1)]) rfl ?_
    have hDq3 : (d_X12_shareBySteps x n r un cu to) = (0, ((d_X3_bySteps (pm_n x) n r un cu).1), ((d_X3_bySteps (pm_n x) n r un cu).2.1), ((d_X3_bySteps (pm_n x) n r un cu).2.2)) := by rw [d_X12_shareBySteps, if_neg hq1]
    refine pm_pst (post' := pm_fp ((0, ((d_X3_bySteps (pm_n x) n r un cu).1), ((d_X3_bySteps (pm_n x) n r un cu).2.1), ((d_X3_bySteps (pm_n x) n r un cu).2.2)).1) (some (.int ((0, ((d_X3_bySteps (pm_n x) n r un cu).1), ((d_X3_bySteps (pm_n x) n r un cu).2.1), ((d_X3_bySteps (pm_n x) n r un cu).2.2)).2.1))) nx (pm_up (pm_up M 132 (.inl (kA 0, 7, .inl ((0, ((d_X3_bySteps (pm_n x) n r un cu).1), ((d_X3_bySteps (pm_n x) n r un cu).2.1), ((d_X3_bySteps (pm_n x) n r un cu).2.2)).2.2.1)))) 131 (.inr (1, [.ref (z + 132), .int (((0, ((d_X3_bySteps (pm_n x) n r un cu).1), ((d_X3_bySteps (pm_n x) n r un cu).2.1), ((d_X3_bySteps (pm_n x) n r un cu).2.2)).2.2.2) 1)])))) (by rw [hDq3]) ?_
    exact pm_ireturn B dX12_shareBySteps_17 rfl (by first | rfl | (apply pm_nz; first | assumption | decide | exact pm_in01 _ _ _ | ((repeat' split) <;> first | exact Or.inl rfl | exact Or.inr rfl))) ⟨rfl, Nat.le_refl _, Or.inl ⟨rfl, rfl, rfl⟩⟩ rfl rfl
def d_X12_quotaBy (x : Int32) (y : Int32) (w : Int32) (n : Nat) (r : Nat → Int32) (q : Nat → Int32) (rm : Nat → Int32) (to : Nat → Int32) : (Nat × Int32 × (Nat → Int32) × (Nat → Int32)) := if (d_X10_hasMember x n r) = 0 then (1, 0, q, rm) else (if (pm_in y 0 300) = 0 then (2, 0, q, rm) else (if (pm_in w 0 1) = 0 then (2, 0, q, rm) else (0, (((d_X1_apportion y w n r q rm).1) (pm_n x)), ((d_X1_apportion y w n r q rm).1), ((d_X1_apportion y w n r q rm).2))))
set_option maxRecDepth 100000 in
set_option maxHeartbeats 8000000 in
theorem c_X12_quotaBy {l : Launch} {z : Nat} {D : va_G} {kA : Nat → ClassId} {kE : Nat → Nat} {nx : Nat} {M : pm_M} {x : Int32} {y : Int32} {w : Int32} {n : Nat} {ldv : Value} {r : Nat → Int32} {q : Nat → Int32} {rm : Nat → Int32} {to : Nat → Int32} (hS : pm_SA z kA 2 M r) (hq : M 14 = some (.inl (kA 0, 7, .inl q))) (hrm : M 15 = some (.inl (kA 0, 7, .inl rm))) (hto : M 0 = some (.inr (10, [.ref (z + 1), .ref (z + 2), .ref (z + 17), .ref (z + 28), .ref (z + 39), .ref (z + 129), .ref (z + 131), .ref (z + 133), .ref (z + 138), .int (to 9), .int (to 10), .int (to 11), ldv]))) (hO1 : M 1 = some (.inr (5, [.ref (z + 2), .ref (z + 13), .ref (z + 16)]))) (hO13 : M 13 = some (.inr (0, [.ref (z + 14), .ref (z + 15)]))) (hn : r 0 = nI n) (h7 : n ≤ 7) : pm_C l z D kA kE yX12_quotaBy cX12_quotaBy 4 (some .int) 20 2 12 [.ref (z + 0), .int x, .int y, .int w] nx M (pm_fp ((d_X12_quotaBy x y w n r q rm to).1) (some (.int ((d_X12_quotaBy x y w n r q rm to).2.1))) nx (pm_up (pm_up M 14 (.inl (kA 0, 7, .inl ((d_X12_quotaBy x y w n r q rm to).2.2.1)))) 15 (.inl (kA 0, 7, .inl ((d_X12_quotaBy x y w n r q rm to).2.2.2))))) := by
  refine pm_mk (own := RX12) (nm := "quotaBy") mt_X12_quotaBy rfl rfl rfl rfl fun X B => ?_
  refine pm_loc (L' := [some (.ref (z + 0)), some (.int x), some (.int y), some (.int w)]) rfl ?_
  refine pm_mem (M' := pm_up (pm_up M 14 (.inl (kA 0, 7, .inl q))) 15 (.inl (kA 0, 7, .inl rm))) (by rw [pm_up_id hq, pm_up_id hrm]) ?_
  refine pm_aload_n B dX12_quotaBy_0 rfl ?_
  refine pm_iload_n B dX12_quotaBy_1 rfl ?_
  by_cases hq1 : (d_X10_hasMember x n r) = 0
  · have hDq2 : (d_X12_quotaBy x y w n r q rm to) = (1, 0, q, rm) := by rw [d_X12_quotaBy, if_pos hq1]
    refine pm_pst (post' := pm_fp ((1, 0, q, rm).1) (some (.int ((1, 0, q, rm).2.1))) nx (pm_up (pm_up M 14 (.inl (kA 0, 7, .inl ((1, 0, q, rm).2.2.1)))) 15 (.inl (kA 0, 7, .inl ((1, 0, q, rm).2.2.2))))) (by rw [hDq2]) ?_
    exact pm_cVt (As := [.int x]) (mc2 := 1) (ms2 := 6) B rfl rfl ((pm_up_n (by omega)).trans ((pm_up_n (by omega)).trans hto)) rfl (pm_C_fk (k' := 1) (if_pos hq1) (c_X12_demandMember (ldv := ldv) (pm_SA_up (by omega) (pm_SA_up (by omega) hS)) ((pm_up_n (by omega)).trans ((pm_up_n (by omega)).trans hto)) hn h7)) (by decide) mt_X12_demandMember sv_X12_82 dX12_quotaBy_2 rfl rfl rfl rfl rfl (fun n' hn => ⟨rfl, hn, Or.inr ⟨(show (0 : Nat) < 1 by decide), rfl⟩⟩)
  · refine pm_cV (As := [.int x]) (mc2 := 1) (ms2 := 6) B rfl ((pm_up_n (by omega)).trans ((pm_up_n (by omega)).trans hto)) rfl (pm_C_f0 (if_neg hq1) (c_X12_demandMember (ldv := ldv) (pm_SA_up (by omega) (pm_SA_up (by omega) hS)) ((pm_up_n (by omega)).trans ((pm_up_n (by omega)).trans hto)) hn h7)) mt_X12_demandMember sv_X12_82 dX12_quotaBy_2 rfl rfl rfl rfl rfl ?_
    refine pm_stk (st' := []) rfl ?_
    obtain ⟨he_x, hl_x⟩ := d_X10_hasMember_in h7 hq1
    refine pm_loc (L' := [some (.ref (z + 0)), some (.int (nI (pm_n x))), some (.int y), some (.int w)]) (congrArg (fun yy : Int32 => ([some (.ref (z + 0)), some (.int yy), some (.int y), some (.int w)] : List (Option Value))) he_x) ?_
    refine pm_iload_n B dX12_quotaBy_5 rfl ?_
    refine pm_iconst (v := 0) B dX12_quotaBy_6 (by decide) ?_
    refine pm_sipush (v := 300) B dX12_quotaBy_7 (by decide) ?_
    refine pm_cS (As := [.int y, .int 0, .int 300]) (mc2 := 0) (ms2 := 0) B c_X12_isWithin mt_X12_isWithin ss_X12_138 dX12_quotaBy_10 rfl rfl rfl rfl rfl ?_
    refine pm_stk (st' := [.int (pm_in y 0 300)]) rfl ?_
    refine pm_if_eq (tgt := 25) B dX12_quotaBy_13 (by decide) (fun hq3 => ?_) (fun hq3 => ?_)
    · have hDq4 : (d_X12_quotaBy x y w n r q rm to) = (2, 0, q, rm) := by rw [d_X12_quotaBy, if_neg hq1, if_pos hq3]
      refine pm_pst (post' := pm_fp ((2, 0, q, rm).1) (some (.int ((2, 0, q, rm).2.1))) nx (pm_up (pm_up M 14 (.inl (kA 0, 7, .inl ((2, 0, q, rm).2.2.1)))) 15 (.inl (kA 0, 7, .inl ((2, 0, q, rm).2.2.2))))) (by rw [hDq4]) ?_
      exact pm_throwS (text := "the total or the rule is out of range") B rfl px_IllegalArgument (by decide) dX12_quotaBy_25 dX12_quotaBy_28 dX12_quotaBy_29 dX12_quotaBy_31 dX12_quotaBy_34 rfl rfl rfl rfl (fun n' hn => ⟨rfl, hn, Or.inr ⟨(show (0 : Nat) < 2 by decide), rfl⟩⟩)
    · refine pm_iload_n B dX12_quotaBy_16 rfl ?_
      refine pm_iconst (v := 0) B dX12_quotaBy_17 (by decide) ?_
      refine pm_iconst (v := 1) B dX12_quotaBy_18 (by decide) ?_
      refine pm_cS (As := [.int w, .int 0, .int 1]) (mc2 := 0) (ms2 := 0) B c_X12_isWithin mt_X12_isWithin ss_X12_138 dX12_quotaBy_19 rfl rfl rfl rfl rfl ?_
      refine pm_stk (st' := [.int (pm_in w 0 1)]) rfl ?_
      refine pm_if_ne (tgt := 35) B dX12_quotaBy_22 (by decide) (fun hq5 => ?_) (fun hq5 => ?_)
      · refine pm_aload_n B dX12_quotaBy_35 rfl ?_
        refine pm_get B dX12_quotaBy_36 fl_X12_10 ((pm_up_n (by omega)).trans ((pm_up_n (by omega)).trans hto)) rfl ?_
        refine pm_get B dX12_quotaBy_39 fl_X12_147 ((pm_up_n (by omega)).trans ((pm_up_n (by omega)).trans hO1)) rfl ?_
        refine pm_aload_n B dX12_quotaBy_42 rfl ?_
        refine pm_get B dX12_quotaBy_43 fl_X12_20 ((pm_up_n (by omega)).trans ((pm_up_n (by omega)).trans hto)) rfl ?_
        refine pm_iload_n B dX12_quotaBy_46 rfl ?_
        refine pm_iload_n B dX12_quotaBy_47 rfl ?_
        refine pm_cV (As := [.ref (z + 2), .int y, .int w]) (mc2 := 0) (ms2 := 0) B rfl ((pm_up_n (by omega)).trans ((pm_up_n (by omega)).trans hO13)) rfl (c_X1_apportion (x := y) (y := w) (n := n) (r := r) (q := q) (rm := rm) (pm_SA_up (by omega) (pm_SA_up (by omega) hS)) ((pm_up_n (by omega)).trans pm_up_s) pm_up_s ((pm_up_n (by omega)).trans ((pm_up_n (by omega)).trans hO13)) hn (by first | assumption | omega) (pm_in0 (m := 300) (by decide) (by assumption)).1 (by have h9 := (pm_in0 (m := 300) (by decide) (show ¬ pm_in y 0 300 = 0 by assumption)).2; omega)) mt_X1_apportion sv_X12_151 dX12_quotaBy_48 rfl rfl rfl rfl rfl ?_
        refine pm_mem (M' := pm_up (pm_up M 14 (.inl (kA 0, 7, .inl ((d_X1_apportion y w n r q rm).1)))) 15 (.inl (kA 0, 7, .inl ((d_X1_apportion y w n r q rm).2)))) (by rw [pm_up_sw (a := 15) (b := 14) (by omega), pm_up_up (a := 14), pm_up_up (a := 15)] <;> rfl) ?_
        refine pm_stk (st' := []) rfl ?_
        refine pm_aload_n B dX12_quotaBy_51 rfl ?_
        refine pm_get B dX12_quotaBy_52 fl_X12_10 ((pm_up_n (by omega)).trans ((pm_up_n (by omega)).trans hto)) rfl ?_
        refine pm_get B dX12_quotaBy_55 fl_X12_147 ((pm_up_n (by omega)).trans ((pm_up_n (by omega)).trans hO1)) rfl ?_
        refine pm_get B dX12_quotaBy_58 fl_X12_157 ((pm_up_n (by omega)).trans ((pm_up_n (by omega)).trans hO13)) rfl ?_
        refine pm_iload_n B dX12_quotaBy_61 rfl ?_
        refine pm_iald_n B dX12_quotaBy_62 ((pm_up_n (by omega)).trans pm_up_s) (pm_n x) (by first | assumption | omega) (by decide) ?_
        have hDq6 : (d_X12_quotaBy x y w n r q rm to) = (0, (((d_X1_apportion y w n r q rm).1) (pm_n x)), ((d_X1_apportion y w n r q rm).1), ((d_X1_apportion y w n r q rm).2)) := by rw [d_X12_quotaBy, if_neg hq1, if_neg hq3, if_neg hq5]
        refine pm_pst (post' := pm_fp ((0, (((d_X1_apportion y w n r q rm).1) (pm_n x)), ((d_X1_apportion y w n r q rm).1), ((d_X1_apportion y w n r q rm).2)).1) (some (.int ((0, (((d_X1_apportion y w n r q rm).1) (pm_n x)), ((d_X1_apportion y w n r q rm).1), ((d_X1_apportion y w n r q rm).2)).2.1))) nx (pm_up (pm_up M 14 (.inl (kA 0, 7, .inl ((0, (((d_X1_apportion y w n r q rm).1) (pm_n x)), ((d_X1_apportion y w n r q rm).1), ((d_X1_apportion y w n r q rm).2)).2.2.1)))) 15 (.inl (kA 0, 7, .inl ((0, (((d_X1_apportion y w n r q rm).1) (pm_n x)), ((d_X1_apportion y w n r q rm).1), ((d_X1_apportion y w n r q rm).2)).2.2.2))))) (by rw [hDq6]) ?_
        exact pm_ireturn B dX12_quotaBy_63 rfl (by first | rfl | (apply pm_nz; first | assumption | decide | exact pm_in01 _ _ _ | ((repeat' split) <;> first | exact Or.inl rfl | exact Or.inr rfl))) ⟨rfl, Nat.le_refl _, Or.inl ⟨rfl, rfl, rfl⟩⟩ rfl rfl
      · have hDq7 : (d_X12_quotaBy x y w n r q rm to) = (2, 0, q, rm) := by rw [d_X12_quotaBy, if_neg hq1, if_neg hq3, if_pos hq5]
        refine pm_pst (post' := pm_fp ((2, 0, q, rm).1) (some (.int ((2, 0, q, rm).2.1))) nx (pm_up (pm_up M 14 (.inl (kA 0, 7, .inl ((2, 0, q, rm).2.2.1)))) 15 (.inl (kA 0, 7, .inl ((2, 0, q, rm).2.2.2))))) (by rw [hDq7]) ?_
        exact pm_throwS (text := "the total or the rule is out of range") B rfl px_IllegalArgument (by decide) dX12_quotaBy_25 dX12_quotaBy_28 dX12_quotaBy_29 dX12_quotaBy_31 dX12_quotaBy_34 rfl rfl rfl rfl (fun n' hn => ⟨rfl, hn, Or.inr ⟨(show (0 : Nat) < 2 by decide), rfl⟩⟩)
def d_X12_drawnMember (x : Int32) (n : Nat) (r : Nat → Int32) (dr : Nat → Int32) (to : Nat → Int32) : (Nat × Int32 × (Nat → Int32)) := if (d_X10_hasMember x n r) = 0 then (4, 0, dr) else (0, (((d_X7_drawMembers (pm_n x + 1) n r dr).2) (pm_n x)), ((d_X7_drawMembers (pm_n x + 1) n r dr).2))
set_option maxRecDepth 100000 in
set_option maxHeartbeats 8000000 in
theorem c_X12_drawnMember {l : Launch} {z : Nat} {D : va_G} {kA : Nat → ClassId} {kE : Nat → Nat} {nx : Nat} {M : pm_M} {x : Int32} {n : Nat} {ldv : Value} {r : Nat → Int32} {dr : Nat → Int32} {to : Nat → Int32} (hS : pm_SA z kA 2 M r) (hdr : M 16 = some (.inl (kA 0, 7, .inl dr))) (hto : M 0 = some (.inr (10, [.ref (z + 1), .ref (z + 2), .ref (z + 17), .ref (z + 28), .ref (z + 39), .ref (z + 129), .ref (z + 131), .ref (z + 133), .ref (z + 138), .int (to 9), .int (to 10), .int (to 11), ldv]))) (hO1 : M 1 = some (.inr (5, [.ref (z + 2), .ref (z + 13), .ref (z + 16)]))) (hn : r 0 = nI n) (h7 : n ≤ 7) (hsd : r 2 = nI (pm_n (r 2))) (hsl : pm_n (r 2) < 1024) : pm_C l z D kA kE yX12_drawnMember cX12_drawnMember 2 (some .int) 20 2 12 [.ref (z + 0), .int x] nx M (pm_fp ((d_X12_drawnMember x n r dr to).1) (some (.int ((d_X12_drawnMember x n r dr to).2.1))) nx (pm_up M 16 (.inl (kA 0, 7, .inl ((d_X12_drawnMember x n r dr to).2.2))))) := by
  refine pm_mk (own := RX12) (nm := "drawnMember") mt_X12_drawnMember rfl rfl rfl rfl fun X B => ?_
  refine pm_loc (L' := [some (.ref (z + 0)), some (.int x)]) rfl ?_
  refine pm_mem (M' := pm_up M 16 (.inl (kA 0, 7, .inl dr))) (by rw [pm_up_id hdr]) ?_
  refine pm_aload_n B dX12_drawnMember_0 rfl ?_
  refine pm_get B dX12_drawnMember_1 fl_X12_20 ((pm_up_n (by omega)).trans hto) rfl ?_
  refine pm_iload_n B dX12_drawnMember_4 rfl ?_
  refine pm_cV (As := [.int x]) (mc2 := 0) (ms2 := 0) B rfl ((pm_up_n (by omega)).trans (hS.1)) rfl (c_X10_hasMembers (x := x) (n := n) (r := r) (pm_SA_up (by omega) hS) hn (by first | assumption | omega)) mt_X10_hasMember sv_X12_177 dX12_drawnMember_5 rfl rfl rfl rfl rfl ?_
  refine pm_stk (st' := [.int (d_X10_hasMember x n r)]) rfl ?_
  refine pm_if_ne (tgt := 21) B dX12_drawnMember_8 (by decide) (fun hq1 => ?_) (fun hq1 => ?_)
  · obtain ⟨he_x, hl_x⟩ := d_X10_hasMember_in h7 hq1
    refine pm_loc (L' := [some (.ref (z + 0)), some (.int (nI (pm_n x)))]) (congrArg (fun yy : Int32 => ([some (.ref (z + 0)), some (.int yy)] : List (Option Value))) he_x) ?_
    refine pm_aload_n B dX12_drawnMember_21 rfl ?_
    refine pm_get B dX12_drawnMember_22 fl_X12_10 ((pm_up_n (by omega)).trans hto) rfl ?_
    refine pm_iload_n B dX12_drawnMember_25 rfl ?_
    refine pm_iconst (v := 1) B dX12_drawnMember_26 (by decide) ?_
    refine pm_iadd B dX12_drawnMember_27 ?_
    refine pm_stk (st' := [.int (nI (pm_n x + 1)), .ref (z + 1)]) (by rw [show ((nI (pm_n x)) + 1) = (nI (pm_n x + 1)) from nI_1 _]) ?_
    refine pm_cV (As := [.int (nI (pm_n x + 1))]) (mc2 := 0) (ms2 := 0) B rfl ((pm_up_n (by omega)).trans hO1) rfl (c_X7_drawMembers (w := (pm_n x + 1)) (n := n) (r := r) (dr := dr) (pm_SA_up (by omega) hS) pm_up_s ((pm_up_n (by omega)).trans hO1) hn (by first | assumption | omega) (by first | assumption | exact hsd) (by first | assumption | omega) (by first | assumption | omega)) mt_X7_drawMembers sv_X12_183 dX12_drawnMember_28 rfl rfl rfl rfl rfl ?_
    refine pm_mem (M' := pm_up M 16 (.inl (kA 0, 7, .inl ((d_X7_drawMembers (pm_n x + 1) n r dr).2)))) (by rw [pm_up_up (a := 16)] <;> rfl) ?_
    refine pm_stk (st' := [.int ((d_X7_drawMembers (pm_n x + 1) n r dr).1)]) rfl ?_
    refine pm_pop B dX12_drawnMember_31 rfl ?_
    refine pm_aload_n B dX12_drawnMember_32 rfl ?_
    refine pm_get B dX12_drawnMember_33 fl_X12_10 ((pm_up_n (by omega)).trans hto) rfl ?_
    refine pm_get B dX12_drawnMember_36 fl_X12_186 ((pm_up_n (by omega)).trans hO1) rfl ?_
    refine pm_iload_n B dX12_drawnMember_39 rfl ?_
    refine pm_iald_n B dX12_drawnMember_40 pm_up_s (pm_n x) (by first | assumption | omega) (by decide) ?_
    have hDq2 : (d_X12_drawnMember x n r dr to) = (0, (((d_X7_drawMembers (pm_n x + 1) n r dr).2) (pm_n x)), ((d_X7_drawMembers (pm_n x + 1) n r dr).2)) := by rw [d_X12_drawnMember, if_neg hq1]
    refine pm_pst (post' := pm_fp ((0, (((d_X7_drawMembers (pm_n x + 1) n r dr).2) (pm_n x)), ((d_X7_drawMembers (pm_n x + 1) n r dr).2)).1) (some (.int ((0, (((d_X7_drawMembers (pm_n x + 1) n r dr).2) (pm_n x)), ((d_X7_drawMembers (pm_n x + 1) n r dr).2)).2.1))) nx (pm_up M 16 (.inl (kA 0, 7, .inl ((0, (((d_X7_drawMembers (pm_n x + 1) n r dr).2) (pm_n x)), ((d_X7_drawMembers (pm_n x + 1) n r dr).2)).2.2))))) (by rw [hDq2]) ?_
    exact pm_ireturn B dX12_drawnMember_41 rfl (by first | rfl | (apply pm_nz; first | assumption | decide | exact pm_in01 _ _ _ | ((repeat' split) <;> first | exact Or.inl rfl | exact Or.inr rfl))) ⟨rfl, Nat.le_refl _, Or.inl ⟨rfl, rfl, rfl⟩⟩ rfl rfl
  · have hDq3 : (d_X12_drawnMember x n r dr to) = (4, 0, dr) := by rw [d_X12_drawnMember, if_pos hq1]
    refine pm_pst (post' := pm_fp ((4, 0, dr).1) (some (.int ((4, 0, dr).2.1))) nx (pm_up M 16 (.inl (kA 0, 7, .inl ((4, 0, dr).2.2))))) (by rw [hDq3]) ?_
    exact pm_throwS13 (text := "there are not so many members") B rfl px_NoSuchElement (by decide) dX12_drawnMember_11 dX12_drawnMember_14 dX12_drawnMember_15 dX12_drawnMember_17 dX12_drawnMember_20 rfl rfl rfl rfl (fun n' hn => ⟨rfl, hn, Or.inr ⟨(show (0 : Nat) < 4 by decide), rfl⟩⟩)
def d_X12_meanSales_L1 (r : Nat → Int32) : Nat → Nat → Int32 → Int32
  | 0, _, a1_1 => a1_1
  | k1 + 1, j1, a1_1 => (d_X12_meanSales_L1 r k1 (j1 + 1) (a1_1 + (r (7 + 6 * j1 + 3))))
def d_X12_meanSales (n : Nat) (r : Nat → Int32) (to : Nat → Int32) : (Nat × UInt64) := if (nI n) = 0 then (6, (0 : UInt64)) else (0, (FP.ddiv (FP.i2d (d_X12_meanSales_L1 r n 0 0)) (FP.i2d (nI n))))
set_option maxRecDepth 100000 in
set_option maxHeartbeats 8000000 in
theorem c_X12_meanSales {l : Launch} {z : Nat} {D : va_G} {kA : Nat → ClassId} {kE : Nat → Nat} {nx : Nat} {M : pm_M} {n : Nat} {ldv : Value} {r : Nat → Int32} {to : Nat → Int32} (hS : pm_SA z kA 2 M r) (hto : M 0 = some (.inr (10, [.ref (z + 1), .ref (z + 2), .ref (z + 17), .ref (z + 28), .ref (z + 39), .ref (z + 129), .ref (z + 131), .ref (z + 133), .ref (z + 138), .int (to 9), .int (to 10), .int (to 11), ldv]))) (hn : r 0 = nI n) (h7 : n ≤ 7) (hnan : ∀ a b : Int32, ¬ b = 0 → vf_n64 (FP.ddiv (FP.i2d a) (FP.i2d b))) : pm_C l z D kA kE yX12_meanSales cX12_meanSales 3 (some .double) 20 2 12 [.ref (z + 0)] nx M (pm_fp ((d_X12_meanSales n r to).1) (some (.double ((d_X12_meanSales n r to).2))) nx M) := by
  refine pm_mk (own := RX12) (nm := "meanSales") mt_X12_meanSales rfl rfl rfl rfl fun X B => ?_
  refine pm_loc (L' := [some (.ref (z + 0)), none, none]) rfl ?_
  refine pm_aload_n B dX12_meanSales_0 rfl ?_
  refine pm_get B dX12_meanSales_1 fl_X12_20 hto rfl ?_
  refine pm_get B dX12_meanSales_4 fl_X12_78 (hS.1) rfl ?_
  refine pm_stk (st' := [.int (nI n)]) (by rw [show (r 0) = (nI n) from by rw [hn]]) ?_
  refine pm_if_ne (tgt := 20) B dX12_meanSales_7 (by decide) (fun hq1 => ?_) (fun hq1 => ?_)
  · refine pm_iconst (v := 0) B dX12_meanSales_20 (by decide) ?_
    refine pm_istore_n B dX12_meanSales_21 rfl rfl ?_
    refine pm_loc (L' := [some (.ref (z + 0)), some (.int 0), none]) rfl ?_
    refine pm_iconst (v := 0) B dX12_meanSales_22 (by decide) ?_
    refine pm_istore_n B dX12_meanSales_23 rfl rfl ?_
    refine pm_loc (L' := [some (.ref (z + 0)), some (.int 0), some (.int 0)]) rfl ?_
    refine pm_loc (L' := [some (.ref (z + 0)), some (.int 0), some (.int (nI 0))]) rfl ?_
    have loop1 : ∀ (K1 : (Int32 → (Nat × UInt64))), (∀ (a1_1 : Int32), pm_G l z D X 0 0 (pm_Q z D (pm_fp ((K1 a1_1).1) (some (.double ((K1 a1_1).2))) nx M) 2 12 X) nx M 56 [some (.ref (z + 0)), some (.int a1_1), none] []) → ∀ (k1 j1 : Nat), j1 + k1 = n → ∀ (a1_1 : Int32), pm_G l z D X 0 0 (pm_Q z D (pm_fp ((K1 (d_X12_meanSales_L1 r k1 j1 a1_1)).1) (some (.double ((K1 (d_X12_meanSales_L1 r k1 j1 a1_1)).2))) nx M) 2 12 X) nx M 24 [some (.ref (z + 0)), some (.int a1_1), some (.int (nI j1))] [] := by
      intro K1 hK1 k1
      induction k1 with
      | zero =>
        intro j1 hj1 a1_1
        have hjn1 : j1 = n := by omega
        refine pm_iload_n B dX12_meanSales_24 rfl ?_
        refine pm_aload_n B dX12_meanSales_25 rfl ?_
        refine pm_get B dX12_meanSales_26 fl_X12_20 hto rfl ?_
        refine pm_get B dX12_meanSales_29 fl_X12_78 (hS.1) rfl ?_
        refine pm_stk (st' := [.int (nI n), .int (nI j1)]) (by rw [show (r 0) = (nI n) from by rw [hn]]) ?_
        refine pm_icmp_ge (tgt := 56) B dX12_meanSales_32 (by decide) (fun hq2 => ?_) (fun hq2 => absurd ((nI_leI (by first | omega | decide) (by first | omega | decide)).mpr (by omega)) hq2)
        refine pm_wk (L' := [some (.ref (z + 0)), some (.int a1_1), none]) ⟨rfl, ⟨rfl, trivial⟩⟩ ?_
        have hDq3 : (K1 (d_X12_meanSales_L1 r 0 j1 a1_1)) = (K1 a1_1) := by rw [d_X12_meanSales_L1]
        refine pm_pst (post' := pm_fp ((K1 a1_1).1) (some (.double ((K1 a1_1).2))) nx M) (by rw [hDq3]) ?_
        exact hK1 a1_1
      | succ k1 ih1 =>
        intro j1 hj1 a1_1
        have hjn1 : j1 < n := by omega
        refine pm_iload_n B dX12_meanSales_24 rfl ?_
        refine pm_aload_n B dX12_meanSales_25 rfl ?_
        refine pm_get B dX12_meanSales_26 fl_X12_20 hto rfl ?_
        refine pm_get B dX12_meanSales_29 fl_X12_78 (hS.1) rfl ?_
        refine pm_stk (st' := [.int (nI n), .int (nI j1)]) (by rw [show (r 0) = (nI n) from by rw [hn]]) ?_
        refine pm_icmp_ge (tgt := 56) B dX12_meanSales_32 (by decide) (fun hq4 => absurd hq4 (fun e => absurd ((nI_leI (by first | omega | decide) (by first | omega | decide)).mp e) (by omega))) (fun hq4 => ?_)
        refine pm_iload_n B dX12_meanSales_35 rfl ?_
        refine pm_aload_n B dX12_meanSales_36 rfl ?_
        refine pm_get B dX12_meanSales_37 fl_X12_20 hto rfl ?_
        refine pm_get B dX12_meanSales_40 fl_X12_86 (hS.1) rfl ?_
        refine pm_iload_n B dX12_meanSales_43 rfl ?_
        refine pm_aald_n B dX12_meanSales_44 (hS.2.1) rfl j1 (by first | assumption | omega) (by decide) (pm_mr_at (by first | assumption | omega)) ?_
        refine pm_get B dX12_meanSales_45 fl_X12_164 (hS.2.2.1 j1 (by first | assumption | omega)) rfl ?_
        refine pm_iadd B dX12_meanSales_48 ?_
        refine pm_istore_n B dX12_meanSales_49 rfl rfl ?_
        refine pm_loc (L' := [some (.ref (z + 0)), some (.int (a1_1 + (r (7 + 6 * j1 + 3)))), some (.int (nI j1))]) rfl ?_
        refine pm_iinc B dX12_meanSales_50 rfl rfl rfl ?_
        refine pm_loc (L' := [some (.ref (z + 0)), some (.int (a1_1 + (r (7 + 6 * j1 + 3)))), some (.int (nI (j1 + 1)))]) (by rw [show ((nI j1) : Int32) + Int32.ofInt 1 = (nI (j1 + 1)) from nI_1 _]; rfl) ?_
        refine pm_goto (tgt := 24) B dX12_meanSales_53 (by decide) ?_
        have hDq5 : (K1 (d_X12_meanSales_L1 r (k1 + 1) j1 a1_1)) = (K1 (d_X12_meanSales_L1 r k1 (j1 + 1) (a1_1 + (r (7 + 6 * j1 + 3))))) := by rw [d_X12_meanSales_L1]
        refine pm_pst (post' := pm_fp ((K1 (d_X12_meanSales_L1 r k1 (j1 + 1) (a1_1 + (r (7 + 6 * j1 + 3))))).1) (some (.double ((K1 (d_X12_meanSales_L1 r k1 (j1 + 1) (a1_1 + (r (7 + 6 * j1 + 3))))).2))) nx M) (by rw [hDq5]) ?_
        exact ih1 (j1 + 1) (by omega) (a1_1 + (r (7 + 6 * j1 + 3)))
    refine pm_pst (post' := pm_fp ((0, (FP.ddiv (FP.i2d (d_X12_meanSales_L1 r n 0 0)) (FP.i2d (nI n)))).1) (some (.double ((0, (FP.ddiv (FP.i2d (d_X12_meanSales_L1 r n 0 0)) (FP.i2d (nI n)))).2))) nx M) (by rw [show (d_X12_meanSales n r to) = (0, (FP.ddiv (FP.i2d (d_X12_meanSales_L1 r n 0 0)) (FP.i2d (nI n)))) from by rw [d_X12_meanSales, if_neg hq1]]) ?_
    refine loop1 (fun (a1_1 : Int32) => (0, (FP.ddiv (FP.i2d a1_1) (FP.i2d (nI n))))) ?_ n 0 (by omega) 0
    intro a1_1
    refine pm_pst (post' := pm_fp ((0, (FP.ddiv (FP.i2d a1_1) (FP.i2d (nI n)))).1) (some (.double ((0, (FP.ddiv (FP.i2d a1_1) (FP.i2d (nI n)))).2))) nx M) rfl ?_
    refine pm_iload_n B dX12_meanSales_56 rfl ?_
    refine pm_i2d B dX12_meanSales_57 ?_
    refine pm_aload_n B dX12_meanSales_58 rfl ?_
    refine pm_get B dX12_meanSales_59 fl_X12_20 hto rfl ?_
    refine pm_get B dX12_meanSales_62 fl_X12_78 (hS.1) rfl ?_
    refine pm_stk (st' := [.int (nI n), .double (FP.i2d a1_1)]) (by rw [show (r 0) = (nI n) from by rw [hn]]) ?_
    refine pm_i2d B dX12_meanSales_65 ?_
    refine pm_ddiv B dX12_meanSales_66 (hnan _ _ (by assumption)) ?_
    have hDq6 : ((0, (FP.ddiv (FP.i2d a1_1) (FP.i2d (nI n))))) = (0, (FP.ddiv (FP.i2d a1_1) (FP.i2d (nI n)))) := rfl
    refine pm_pst (post' := pm_fp ((0, (FP.ddiv (FP.i2d a1_1) (FP.i2d (nI n)))).1) (some (.double ((0, (FP.ddiv (FP.i2d a1_1) (FP.i2d (nI n)))).2))) nx M) (rfl) ?_
    exact pm_dreturn B dX12_meanSales_67 rfl ⟨rfl, Nat.le_refl _, Or.inl ⟨rfl, rfl, rfl⟩⟩ rfl rfl
  · have hDq7 : (d_X12_meanSales n r to) = (6, (0 : UInt64)) := by rw [d_X12_meanSales, if_pos hq1]
    refine pm_pst (post' := pm_fp ((6, (0 : UInt64)).1) (some (.double ((6, (0 : UInt64)).2))) nx M) (by rw [hDq7]) ?_
    exact pm_throwS (text := "there are no members") B rfl px_Arithmetic (by decide) dX12_meanSales_10 dX12_meanSales_13 dX12_meanSales_14 dX12_meanSales_16 dX12_meanSales_19 rfl rfl rfl rfl (fun n' hn => ⟨rfl, hn, Or.inr ⟨(show (0 : Nat) < 6 by decide), rfl⟩⟩)
def d_X12_finedShare (r : Nat → Int32) (to : Nat → Int32) : (Nat × UInt32) := if ((r 5) + (r 6)) = 0 then (6, (0 : UInt32)) else (0, (FP.fdiv (FP.i2f (r 6)) (FP.i2f ((r 5) + (r 6)))))
set_option maxRecDepth 100000 in
set_option maxHeartbeats 8000000 in
theorem c_X12_finedShare {l : Launch} {z : Nat} {D : va_G} {kA : Nat → ClassId} {kE : Nat → Nat} {nx : Nat} {M : pm_M}  {ldv : Value} {r : Nat → Int32} {to : Nat → Int32} (hS : pm_SA z kA 2 M r) (hto : M 0 = some (.inr (10, [.ref (z + 1), .ref (z + 2), .ref (z + 17), .ref (z + 28), .ref (z + 39), .ref (z + 129), .ref (z + 131), .ref (z + 133), .ref (z + 138), .int (to 9), .int (to 10), .int (to 11), ldv]))) (hnan : ∀ a b : Int32, ¬ b = 0 → vf_n32 (FP.fdiv (FP.i2f a) (FP.i2f b))) : pm_C l z D kA kE yX12_finedShare cX12_finedShare 2 (some .float) 20 2 12 [.ref (z + 0)] nx M (pm_fp ((d_X12_finedShare r to).1) (some (.float ((d_X12_finedShare r to).2))) nx M) := by
  refine pm_mk (own := RX12) (nm := "finedShare") mt_X12_finedShare rfl rfl rfl rfl fun X B => ?_
  refine pm_loc (L' := [some (.ref (z + 0)), none]) rfl ?_
  refine pm_aload_n B dX12_finedShare_0 rfl ?_
  refine pm_get B dX12_finedShare_1 fl_X12_20 hto rfl ?_
  refine pm_get B dX12_finedShare_4 fl_X12_246 (hS.1) rfl ?_
  refine pm_aload_n B dX12_finedShare_7 rfl ?_
  refine pm_get B dX12_finedShare_8 fl_X12_20 hto rfl ?_
  refine pm_get B dX12_finedShare_11 fl_X12_249 (hS.1) rfl ?_
  refine pm_iadd B dX12_finedShare_14 ?_
  refine pm_istore_n B dX12_finedShare_15 rfl rfl ?_
  refine pm_loc (L' := [some (.ref (z + 0)), some (.int ((r 5) + (r 6)))]) rfl ?_
  refine pm_iload_n B dX12_finedShare_16 rfl ?_
  refine pm_if_ne (tgt := 31) B dX12_finedShare_17 (by decide) (fun hq1 => ?_) (fun hq1 => ?_)
  · refine pm_aload_n B dX12_finedShare_31 rfl ?_
    refine pm_get B dX12_finedShare_32 fl_X12_20 hto rfl ?_
    refine pm_get B dX12_finedShare_35 fl_X12_249 (hS.1) rfl ?_
    refine pm_i2f B dX12_finedShare_38 ?_
    refine pm_iload_n B dX12_finedShare_39 rfl ?_
    refine pm_i2f B dX12_finedShare_40 ?_
    refine pm_fdiv B dX12_finedShare_41 (hnan _ _ (by assumption)) ?_
    have hDq2 : (d_X12_finedShare r to) = (0, (FP.fdiv (FP.i2f (r 6)) (FP.i2f ((r 5) + (r 6))))) := by rw [d_X12_finedShare, if_neg hq1]
    refine pm_pst (post' := pm_fp ((0, (FP.fdiv (FP.i2f (r 6)) (FP.i2f ((r 5) + (r 6))))).1) (some (.float ((0, (FP.fdiv (FP.i2f (r 6)) (FP.i2f ((r 5) + (r 6))))).2))) nx M) (by rw [hDq2]) ?_
    exact pm_freturn B dX12_finedShare_42 rfl ⟨rfl, Nat.le_refl _, Or.inl ⟨rfl, rfl, rfl⟩⟩ rfl rfl
  · have hDq3 : (d_X12_finedShare r to) = (6, (0 : UInt32)) := by rw [d_X12_finedShare, if_pos hq1]
    refine pm_pst (post' := pm_fp ((6, (0 : UInt32)).1) (some (.float ((6, (0 : UInt32)).2))) nx M) (by rw [hDq3]) ?_
    exact pm_throwW (text := "no units were sold") B rfl px_Arithmetic (by decide) dX12_finedShare_20 dX12_finedShare_23 dX12_finedShare_24 dX12_finedShare_27 dX12_finedShare_30 rfl rfl rfl rfl (fun n' hn => ⟨rfl, hn, Or.inr ⟨(show (0 : Nat) < 6 by decide), rfl⟩⟩)
def d_X12_feed (x : Int32) (t : Nat) (tx : Nat → Int32) (to : Nat → Int32) (sc : Nat → Int32) : (Nat × Int32 × (Nat → Int32) × (Nat → Int32)) := if (d_X9_isFull tx sc) = 0 then (0, ((d_X9_append x t tx sc).1), ((d_X9_append x t tx sc).2.1), ((d_X9_append x t tx sc).2.2)) else (5, 0, tx, sc)
set_option maxRecDepth 100000 in
set_option maxHeartbeats 8000000 in
theorem c_X12_feed {l : Launch} {z : Nat} {D : va_G} {kA : Nat → ClassId} {kE : Nat → Nat} {nx : Nat} {M : pm_M} {x : Int32} {t : Nat} {ldv : Value} {tx : Nat → Int32} {to : Nat → Int32} {sc : Nat → Int32} (htx : M 134 = some (.inl (kA 3, 60, .inl tx))) (hto : M 0 = some (.inr (10, [.ref (z + 1), .ref (z + 2), .ref (z + 17), .ref (z + 28), .ref (z + 39), .ref (z + 129), .ref (z + 131), .ref (z + 133), .ref (z + 138), .int (to 9), .int (to 10), .int (to 11), ldv]))) (hsc : M 133 = some (.inr (7, [.ref (z + 134), .ref (z + 135), .ref (z + 136), .ref (z + 137), .int (sc 4), .int (sc 5), .int (sc 6)]))) (hl4 : sc 4 = nI t) (ht : t ≤ 60) : pm_C l z D kA kE yX12_feed cX12_feed 2 (some .int) 20 2 12 [.ref (z + 0), .int x] nx M (pm_fp ((d_X12_feed x t tx to sc).1) (some (.int ((d_X12_feed x t tx to sc).2.1))) nx (pm_up (pm_up M 134 (.inl (kA 3, 60, .inl ((d_X12_feed x t tx to sc).2.2.1)))) 133 (.inr (7, [.ref (z + 134), .ref (z + 135), .ref (z + 136), .ref (z + 137), .int (((d_X12_feed x t tx to sc).2.2.2) 4), .int (((d_X12_feed x t tx to sc).2.2.2) 5), .int (((d_X12_feed x t tx to sc).2.2.2) 6)])))) := by
  refine pm_mk (own := RX12) (nm := "feed") mt_X12_feed rfl rfl rfl rfl fun X B => ?_
  refine pm_loc (L' := [some (.ref (z + 0)), some (.int x)]) rfl ?_
  refine pm_mem (M' := pm_up (pm_up M 134 (.inl (kA 3, 60, .inl tx))) 133 (.inr (7, [.ref (z + 134), .ref (z + 135), .ref (z + 136), .ref (z + 137), .int (sc 4), .int (sc 5), .int (sc 6)]))) (by rw [pm_up_id htx, pm_up_id hsc]) ?_
  refine pm_aload_n B dX12_feed_0 rfl ?_
  refine pm_get B dX12_feed_1 fl_X12_54 ((pm_up_n (by omega)).trans ((pm_up_n (by omega)).trans hto)) rfl ?_
  refine pm_cV (As := []) (mc2 := 0) (ms2 := 0) B rfl pm_up_s rfl (c_X9_isFull (tx := tx) (sc := sc) ((pm_up_n (by omega)).trans pm_up_s) pm_up_s ) mt_X9_isFull sv_X12_259 dX12_feed_4 rfl rfl rfl rfl rfl ?_
  refine pm_stk (st' := [.int (d_X9_isFull tx sc)]) rfl ?_
  refine pm_if_eq (tgt := 21) B dX12_feed_7 (by decide) (fun hq1 => ?_) (fun hq1 => ?_)
  · refine pm_aload_n B dX12_feed_21 rfl ?_
    refine pm_get B dX12_feed_22 fl_X12_54 ((pm_up_n (by omega)).trans ((pm_up_n (by omega)).trans hto)) rfl ?_
    refine pm_iload_n B dX12_feed_25 rfl ?_
    refine pm_cV (As := [.int x]) (mc2 := 0) (ms2 := 0) B rfl pm_up_s rfl (c_X9_append (x := x) (t := t) (tx := tx) (sc := sc) ((pm_up_n (by omega)).trans pm_up_s) pm_up_s hl4 (by first | assumption | omega)) mt_X9_append sv_X12_267 dX12_feed_26 rfl rfl rfl rfl rfl ?_
    refine pm_mem (M' := pm_up (pm_up M 134 (.inl (kA 3, 60, .inl ((d_X9_append x t tx sc).2.1)))) 133 (.inr (7, [.ref (z + 134), .ref (z + 135), .ref (z + 136), .ref (z + 137), .int (((d_X9_append x t tx sc).2.2) 4), .int (((d_X9_append x t tx sc).2.2) 5), .int (((d_X9_append x t tx sc).2.2) 6)]))) (by rw [pm_up_sw (a := 133) (b := 134) (by omega), pm_up_up (a := 134), pm_up_up (a := 133)] <;> rfl) ?_
    refine pm_stk (st' := [.int ((d_X9_append x t tx sc).1)]) rfl ?_
    have hDq2 : (d_X12_feed x t tx to sc) = (0, ((d_X9_append x t tx sc).1), ((d_X9_append x t tx sc).2.1), ((d_X9_append x t tx sc).2.2)) := by rw [d_X12_feed, if_pos hq1]
    refine pm_pst (post' := pm_fp ((0, ((d_X9_append x t tx sc).1), ((d_X9_append x t tx sc).2.1), ((d_X9_append x t tx sc).2.2)).1) (some (.int ((0, ((d_X9_append x t tx sc).1), ((d_X9_append x t tx sc).2.1), ((d_X9_append x t tx sc).2.2)).2.1))) nx (pm_up (pm_up M 134 (.inl (kA 3, 60, .inl ((0, ((d_X9_append x t tx sc).1), ((d_X9_append x t tx sc).2.1), ((d_X9_append x t tx sc).2.2)).2.2.1)))) 133 (.inr (7, [.ref (z + 134), .ref (z + 135), .ref (z + 136), .ref (z + 137), .int (((0, ((d_X9_append x t tx sc).1), ((d_X9_append x t tx sc).2.1), ((d_X9_append x t tx sc).2.2)).2.2.2) 4), .int (((0, ((d_X9_append x t tx sc).1), ((d_X9_append x t tx sc).2.1), ((d_X9_append x t tx sc).2.2)).2.2.2) 5), .int (((0, ((d_X9_append x t tx sc).1), ((d_X9_append x t tx sc).2.1), ((d_X9_append x t tx sc).2.2)).2.2.2) 6)])))) (by rw [hDq2]) ?_
    exact pm_ireturn B dX12_feed_29 rfl (by first | rfl | (apply pm_nz; first | assumption | decide | exact pm_in01 _ _ _ | ((repeat' split) <;> first | exact Or.inl rfl | exact Or.inr rfl))) ⟨rfl, Nat.le_refl _, Or.inl ⟨rfl, rfl, rfl⟩⟩ rfl rfl
  · have hDq3 : (d_X12_feed x t tx to sc) = (5, 0, tx, sc) := by rw [d_X12_feed, if_neg hq1]
    refine pm_pst (post' := pm_fp ((5, 0, tx, sc).1) (some (.int ((5, 0, tx, sc).2.1))) nx (pm_up (pm_up M 134 (.inl (kA 3, 60, .inl ((5, 0, tx, sc).2.2.1)))) 133 (.inr (7, [.ref (z + 134), .ref (z + 135), .ref (z + 136), .ref (z + 137), .int (((5, 0, tx, sc).2.2.2) 4), .int (((5, 0, tx, sc).2.2.2) 5), .int (((5, 0, tx, sc).2.2.2) 6)])))) (by rw [hDq3]) ?_
    exact pm_throwW (text := "the text buffer is full") B rfl px_IllegalState (by decide) dX12_feed_10 dX12_feed_13 dX12_feed_14 dX12_feed_17 dX12_feed_20 rfl rfl rfl rfl (fun n' hn => ⟨rfl, hn, Or.inr ⟨(show (0 : Nat) < 5 by decide), rfl⟩⟩)
def d_X12_faultPosition (to : Nat → Int32) : (Nat × Int32) := if (to 10) = 0 then (4, 0) else (0, (to 11))
set_option maxRecDepth 100000 in
set_option maxHeartbeats 8000000 in
theorem c_X12_faultPosition {l : Launch} {z : Nat} {D : va_G} {kA : Nat → ClassId} {kE : Nat → Nat} {nx : Nat} {M : pm_M}  {ldv : Value} {to : Nat → Int32} (hto : M 0 = some (.inr (10, [.ref (z + 1), .ref (z + 2), .ref (z + 17), .ref (z + 28), .ref (z + 39), .ref (z + 129), .ref (z + 131), .ref (z + 133), .ref (z + 138), .int (to 9), .int (to 10), .int (to 11), ldv]))) : pm_C l z D kA kE yX12_faultPosition cX12_faultPosition 1 (some .int) 20 2 12 [.ref (z + 0)] nx M (pm_fp ((d_X12_faultPosition to).1) (some (.int ((d_X12_faultPosition to).2))) nx M) := by
  refine pm_mk (own := RX12) (nm := "faultPosition") mt_X12_faultPosition rfl rfl rfl rfl fun X B => ?_
  refine pm_loc (L' := [some (.ref (z + 0))]) rfl ?_
  refine pm_aload_n B dX12_faultPosition_0 rfl ?_
  refine pm_get B dX12_faultPosition_1 fl_X12_277 hto rfl ?_
  refine pm_stk (st' := [.int (to 10)]) rfl ?_
  refine pm_if_ne (tgt := 18) B dX12_faultPosition_4 (by decide) (fun hq1 => ?_) (fun hq1 => ?_)
  · refine pm_aload_n B dX12_faultPosition_18 rfl ?_
    refine pm_get B dX12_faultPosition_19 fl_X12_284 hto rfl ?_
    refine pm_stk (st' := [.int (to 11)]) rfl ?_
    have hDq2 : (d_X12_faultPosition to) = (0, (to 11)) := by rw [d_X12_faultPosition, if_neg hq1]
    refine pm_pst (post' := pm_fp ((0, (to 11)).1) (some (.int ((0, (to 11)).2))) nx M) (by rw [hDq2]) ?_
    exact pm_ireturn B dX12_faultPosition_22 rfl (by first | rfl | (apply pm_nz; first | assumption | decide | exact pm_in01 _ _ _ | ((repeat' split) <;> first | exact Or.inl rfl | exact Or.inr rfl))) ⟨rfl, Nat.le_refl _, Or.inl ⟨rfl, rfl, rfl⟩⟩ rfl rfl
  · have hDq3 : (d_X12_faultPosition to) = (4, 0) := by rw [d_X12_faultPosition, if_pos hq1]
    refine pm_pst (post' := pm_fp ((4, 0).1) (some (.int ((4, 0).2))) nx M) (by rw [hDq3]) ?_
    exact pm_throwW13 (text := "no fault position was kept yet") B rfl px_NoSuchElement (by decide) dX12_faultPosition_7 dX12_faultPosition_10 dX12_faultPosition_11 dX12_faultPosition_14 dX12_faultPosition_17 rfl rfl rfl rfl (fun n' hn => ⟨rfl, hn, Or.inr ⟨(show (0 : Nat) < 4 by decide), rfl⟩⟩)
def d_X12_undoCount (ho : Nat → Int32) (to : Nat → Int32) : (Nat × Int32) := (0, (ho 2))
set_option maxRecDepth 100000 in
set_option maxHeartbeats 8000000 in
theorem c_X12_undoCount {l : Launch} {z : Nat} {D : va_G} {kA : Nat → ClassId} {kE : Nat → Nat} {nx : Nat} {M : pm_M}  {ldv : Value} {ho : Nat → Int32} {to : Nat → Int32} (hho : M 39 = some (.inr (2, [.ref (z + 40), .int (ho 1), .int (ho 2)]))) (hto : M 0 = some (.inr (10, [.ref (z + 1), .ref (z + 2), .ref (z + 17), .ref (z + 28), .ref (z + 39), .ref (z + 129), .ref (z + 131), .ref (z + 133), .ref (z + 138), .int (to 9), .int (to 10), .int (to 11), ldv]))) : pm_C l z D kA kE yX12_undoCount cX12_undoCount 1 (some .int) 20 2 12 [.ref (z + 0)] nx M (pm_fp ((d_X12_undoCount ho to).1) (some (.int ((d_X12_undoCount ho to).2))) nx M) := by
  refine pm_mk (own := RX12) (nm := "undoCount") mt_X12_undoCount rfl rfl rfl rfl fun X B => ?_
  refine pm_loc (L' := [some (.ref (z + 0))]) rfl ?_
  refine pm_aload_n B dX12_undoCount_0 rfl ?_
  refine pm_get B dX12_undoCount_1 fl_X12_33 hto rfl ?_
  refine pm_get B dX12_undoCount_4 fl_X12_350 hho rfl ?_
  refine pm_stk (st' := [.int (ho 2)]) rfl ?_
  have hDq1 : (d_X12_undoCount ho to) = (0, (ho 2)) := by rw [d_X12_undoCount]
  refine pm_pst (post' := pm_fp ((0, (ho 2)).1) (some (.int ((0, (ho 2)).2))) nx M) (by rw [hDq1]) ?_
  exact pm_ireturn B dX12_undoCount_7 rfl (by first | rfl | (apply pm_nz; first | assumption | decide | exact pm_in01 _ _ _ | ((repeat' split) <;> first | exact Or.inl rfl | exact Or.inr rfl))) ⟨rfl, Nat.le_refl _, Or.inl ⟨rfl, rfl, rfl⟩⟩ rfl rfl
def d_X12_denial0 (to : Nat → Int32) : (Nat × Int32) := (4, 0)
set_option maxRecDepth 100000 in
set_option maxHeartbeats 8000000 in
theorem c_X12_denial0 {l : Launch} {z : Nat} {D : va_G} {kA : Nat → ClassId} {kE : Nat → Nat} {nx : Nat} {M : pm_M}  {ldv : Value} {to : Nat → Int32} (hto : M 0 = some (.inr (10, [.ref (z + 1), .ref (z + 2), .ref (z + 17), .ref (z + 28), .ref (z + 39), .ref (z + 129), .ref (z + 131), .ref (z + 133), .ref (z + 138), .int (to 9), .int (to 10), .int (to 11), .null]))) : pm_C l z D kA kE yX12_denial cX12_denial 1 (some .int) 20 2 12 [.ref (z + 0)] nx M (pm_fp ((d_X12_denial0 to).1) (some (.int ((d_X12_denial0 to).2))) nx M) := by
  refine pm_mk (own := RX12) (nm := "denial") mt_X12_denial rfl rfl rfl rfl fun X B => ?_
  refine pm_loc (L' := [some (.ref (z + 0))]) rfl ?_
  refine pm_aload_n B dX12_denial_0 rfl ?_
  refine pm_get B dX12_denial_1 fl_X12_297 hto rfl ?_
  refine pm_ifnonnullN B dX12_denial_4 ?_
  have hDq1 : (d_X12_denial0 to) = (4, 0) := by rw [d_X12_denial0]
  refine pm_pst (post' := pm_fp ((4, 0).1) (some (.int ((4, 0).2))) nx M) (by rw [hDq1]) ?_
  exact pm_throwW13 (text := "nothing was denied yet") B rfl px_NoSuchElement (by decide) dX12_denial_7 dX12_denial_10 dX12_denial_11 dX12_denial_14 dX12_denial_17 rfl rfl rfl rfl (fun n' hn => ⟨rfl, hn, Or.inr ⟨(show (0 : Nat) < 4 by decide), rfl⟩⟩)
def d_X12_denialDetail0 (to : Nat → Int32) : (Nat × Int32) := (4, 0)
set_option maxRecDepth 100000 in
set_option maxHeartbeats 8000000 in
theorem c_X12_denialDetail0 {l : Launch} {z : Nat} {D : va_G} {kA : Nat → ClassId} {kE : Nat → Nat} {nx : Nat} {M : pm_M}  {ldv : Value} {to : Nat → Int32} (hto : M 0 = some (.inr (10, [.ref (z + 1), .ref (z + 2), .ref (z + 17), .ref (z + 28), .ref (z + 39), .ref (z + 129), .ref (z + 131), .ref (z + 133), .ref (z + 138), .int (to 9), .int (to 10), .int (to 11), .null]))) : pm_C l z D kA kE yX12_denialDetail cX12_denialDetail 1 (some .int) 20 2 12 [.ref (z + 0)] nx M (pm_fp ((d_X12_denialDetail0 to).1) (some (.int ((d_X12_denialDetail0 to).2))) nx M) := by
  refine pm_mk (own := RX12) (nm := "denialDetail") mt_X12_denialDetail rfl rfl rfl rfl fun X B => ?_
  refine pm_loc (L' := [some (.ref (z + 0))]) rfl ?_
  refine pm_aload_n B dX12_denialDetail_0 rfl ?_
  refine pm_get B dX12_denialDetail_1 fl_X12_297 hto rfl ?_
  refine pm_ifnonnullN B dX12_denialDetail_4 ?_
  have hDq1 : (d_X12_denialDetail0 to) = (4, 0) := by rw [d_X12_denialDetail0]
  refine pm_pst (post' := pm_fp ((4, 0).1) (some (.int ((4, 0).2))) nx M) (by rw [hDq1]) ?_
  exact pm_throwW13 (text := "nothing was denied yet") B rfl px_NoSuchElement (by decide) dX12_denialDetail_7 dX12_denialDetail_10 dX12_denialDetail_11 dX12_denialDetail_14 dX12_denialDetail_17 rfl rfl rfl rfl (fun n' hn => ⟨rfl, hn, Or.inr ⟨(show (0 : Nat) < 4 by decide), rfl⟩⟩)
def d_X12_denialCause0 (to : Nat → Int32) : (Nat × Int32) := (4, 0)
set_option maxRecDepth 100000 in
set_option maxHeartbeats 8000000 in
theorem c_X12_denialCause0 {l : Launch} {z : Nat} {D : va_G} {kA : Nat → ClassId} {kE : Nat → Nat} {nx : Nat} {M : pm_M}  {ldv : Value} {to : Nat → Int32} (hto : M 0 = some (.inr (10, [.ref (z + 1), .ref (z + 2), .ref (z + 17), .ref (z + 28), .ref (z + 39), .ref (z + 129), .ref (z + 131), .ref (z + 133), .ref (z + 138), .int (to 9), .int (to 10), .int (to 11), .null]))) : pm_C l z D kA kE yX12_denialCause cX12_denialCause 1 (some .int) 20 2 12 [.ref (z + 0)] nx M (pm_fp ((d_X12_denialCause0 to).1) (some (.int ((d_X12_denialCause0 to).2))) nx M) := by
  refine pm_mk (own := RX12) (nm := "denialCause") mt_X12_denialCause rfl rfl rfl rfl fun X B => ?_
  refine pm_loc (L' := [some (.ref (z + 0))]) rfl ?_
  refine pm_aload_n B dX12_denialCause_0 rfl ?_
  refine pm_get B dX12_denialCause_1 fl_X12_297 hto rfl ?_
  refine pm_ifnullN (tgt := 17) B dX12_denialCause_4 (by decide) ?_
  have hDq1 : (d_X12_denialCause0 to) = (4, 0) := by rw [d_X12_denialCause0]
  refine pm_pst (post' := pm_fp ((4, 0).1) (some (.int ((4, 0).2))) nx M) (by rw [hDq1]) ?_
  exact pm_throwW13 (text := "there is no denial with a cause") B rfl px_NoSuchElement (by decide) dX12_denialCause_17 dX12_denialCause_20 dX12_denialCause_21 dX12_denialCause_24 dX12_denialCause_27 rfl rfl rfl rfl (fun n' hn => ⟨rfl, hn, Or.inr ⟨(show (0 : Nat) < 4 by decide), rfl⟩⟩)
def d_X12_denial1 (ln : Int32) (lw : Int32) (to : Nat → Int32) : (Nat × Int32) := (0, ln)
set_option maxRecDepth 100000 in
set_option maxHeartbeats 8000000 in
theorem c_X12_denial1 {l : Launch} {z : Nat} {D : va_G} {kA : Nat → ClassId} {kE : Nat → Nat} {nx : Nat} {M : pm_M} {ln : Int32} {lw : Int32} {la : Nat} {ldv : Value} {to : Nat → Int32} (hto : M 0 = some (.inr (10, [.ref (z + 1), .ref (z + 2), .ref (z + 17), .ref (z + 28), .ref (z + 39), .ref (z + 129), .ref (z + 131), .ref (z + 133), .ref (z + 138), .int (to 9), .int (to 10), .int (to 11), .ref (z + la)]))) (hla : M la = some (.inr (6, [.int ln, .int lw, .null]))) : pm_C l z D kA kE yX12_denial cX12_denial 1 (some .int) 20 2 12 [.ref (z + 0)] nx M (pm_fp ((d_X12_denial1 ln lw to).1) (some (.int ((d_X12_denial1 ln lw to).2))) nx M) := by
  refine pm_mk (own := RX12) (nm := "denial") mt_X12_denial rfl rfl rfl rfl fun X B => ?_
  refine pm_loc (L' := [some (.ref (z + 0))]) rfl ?_
  refine pm_aload_n B dX12_denial_0 rfl ?_
  refine pm_get B dX12_denial_1 fl_X12_297 hto rfl ?_
  refine pm_ifnonnull (tgt := 18) B dX12_denial_4 (by decide) ?_
  refine pm_aload_n B dX12_denial_18 rfl ?_
  refine pm_get B dX12_denial_19 fl_X12_297 hto rfl ?_
  refine pm_get B dX12_denial_22 fl_X12_337 hla rfl ?_
  have hDq1 : (d_X12_denial1 ln lw to) = (0, ln) := by rw [d_X12_denial1]
  refine pm_pst (post' := pm_fp ((0, ln).1) (some (.int ((0, ln).2))) nx M) (by rw [hDq1]) ?_
  exact pm_ireturn B dX12_denial_25 rfl (by first | rfl | (apply pm_nz; first | assumption | decide | exact pm_in01 _ _ _ | ((repeat' split) <;> first | exact Or.inl rfl | exact Or.inr rfl))) ⟨rfl, Nat.le_refl _, Or.inl ⟨rfl, rfl, rfl⟩⟩ rfl rfl
def d_X12_denialDetail1 (ln : Int32) (lw : Int32) (to : Nat → Int32) : (Nat × Int32) := (0, lw)
set_option maxRecDepth 100000 in
set_option maxHeartbeats 8000000 in
theorem c_X12_denialDetail1 {l : Launch} {z : Nat} {D : va_G} {kA : Nat → ClassId} {kE : Nat → Nat} {nx : Nat} {M : pm_M} {ln : Int32} {lw : Int32} {la : Nat} {ldv : Value} {to : Nat → Int32} (hto : M 0 = some (.inr (10, [.ref (z + 1), .ref (z + 2), .ref (z + 17), .ref (z + 28), .ref (z + 39), .ref (z + 129), .ref (z + 131), .ref (z + 133), .ref (z + 138), .int (to 9), .int (to 10), .int (to 11), .ref (z + la)]))) (hla : M la = some (.inr (6, [.int ln, .int lw, .null]))) : pm_C l z D kA kE yX12_denialDetail cX12_denialDetail 1 (some .int) 20 2 12 [.ref (z + 0)] nx M (pm_fp ((d_X12_denialDetail1 ln lw to).1) (some (.int ((d_X12_denialDetail1 ln lw to).2))) nx M) := by
  refine pm_mk (own := RX12) (nm := "denialDetail") mt_X12_denialDetail rfl rfl rfl rfl fun X B => ?_
  refine pm_loc (L' := [some (.ref (z + 0))]) rfl ?_
  refine pm_aload_n B dX12_denialDetail_0 rfl ?_
  refine pm_get B dX12_denialDetail_1 fl_X12_297 hto rfl ?_
  refine pm_ifnonnull (tgt := 18) B dX12_denialDetail_4 (by decide) ?_
  refine pm_aload_n B dX12_denialDetail_18 rfl ?_
  refine pm_get B dX12_denialDetail_19 fl_X12_297 hto rfl ?_
  refine pm_get B dX12_denialDetail_22 fl_X12_342 hla rfl ?_
  have hDq1 : (d_X12_denialDetail1 ln lw to) = (0, lw) := by rw [d_X12_denialDetail1]
  refine pm_pst (post' := pm_fp ((0, lw).1) (some (.int ((0, lw).2))) nx M) (by rw [hDq1]) ?_
  exact pm_ireturn B dX12_denialDetail_25 rfl (by first | rfl | (apply pm_nz; first | assumption | decide | exact pm_in01 _ _ _ | ((repeat' split) <;> first | exact Or.inl rfl | exact Or.inr rfl))) ⟨rfl, Nat.le_refl _, Or.inl ⟨rfl, rfl, rfl⟩⟩ rfl rfl
def d_X12_denialCause1 (ln : Int32) (lw : Int32) (to : Nat → Int32) : (Nat × Int32) := (4, 0)
set_option maxRecDepth 100000 in
set_option maxHeartbeats 8000000 in
theorem c_X12_denialCause1 {l : Launch} {z : Nat} {D : va_G} {kA : Nat → ClassId} {kE : Nat → Nat} {nx : Nat} {M : pm_M} {ln : Int32} {lw : Int32} {la : Nat} {ldv : Value} {to : Nat → Int32} (hto : M 0 = some (.inr (10, [.ref (z + 1), .ref (z + 2), .ref (z + 17), .ref (z + 28), .ref (z + 39), .ref (z + 129), .ref (z + 131), .ref (z + 133), .ref (z + 138), .int (to 9), .int (to 10), .int (to 11), .ref (z + la)]))) (hla : M la = some (.inr (6, [.int ln, .int lw, .null]))) : pm_C l z D kA kE yX12_denialCause cX12_denialCause 1 (some .int) 20 2 12 [.ref (z + 0)] nx M (pm_fp ((d_X12_denialCause1 ln lw to).1) (some (.int ((d_X12_denialCause1 ln lw to).2))) nx M) := by
  refine pm_mk (own := RX12) (nm := "denialCause") mt_X12_denialCause rfl rfl rfl rfl fun X B => ?_
  refine pm_loc (L' := [some (.ref (z + 0))]) rfl ?_
  refine pm_aload_n B dX12_denialCause_0 rfl ?_
  refine pm_get B dX12_denialCause_1 fl_X12_297 hto rfl ?_
  refine pm_ifnull B dX12_denialCause_4 ?_
  refine pm_aload_n B dX12_denialCause_7 rfl ?_
  refine pm_get B dX12_denialCause_8 fl_X12_297 hto rfl ?_
  refine pm_get B dX12_denialCause_11 fl_X12_345 hla rfl ?_
  refine pm_ifnonnullN B dX12_denialCause_14 ?_
  have hDq1 : (d_X12_denialCause1 ln lw to) = (4, 0) := by rw [d_X12_denialCause1]
  refine pm_pst (post' := pm_fp ((4, 0).1) (some (.int ((4, 0).2))) nx M) (by rw [hDq1]) ?_
  exact pm_throwW13 (text := "there is no denial with a cause") B rfl px_NoSuchElement (by decide) dX12_denialCause_17 dX12_denialCause_20 dX12_denialCause_21 dX12_denialCause_24 dX12_denialCause_27 rfl rfl rfl rfl (fun n' hn => ⟨rfl, hn, Or.inr ⟨(show (0 : Nat) < 4 by decide), rfl⟩⟩)
def d_X12_denial2 (ln : Int32) (lw : Int32) (lc : Int32) (le : Int32) (to : Nat → Int32) : (Nat × Int32) := (0, ln)
set_option maxRecDepth 100000 in
set_option maxHeartbeats 8000000 in
theorem c_X12_denial2 {l : Launch} {z : Nat} {D : va_G} {kA : Nat → ClassId} {kE : Nat → Nat} {nx : Nat} {M : pm_M} {ln : Int32} {lw : Int32} {lc : Int32} {le : Int32} {la : Nat} {lb : Nat} {ldv : Value} {to : Nat → Int32} (hto : M 0 = some (.inr (10, [.ref (z + 1), .ref (z + 2), .ref (z + 17), .ref (z + 28), .ref (z + 39), .ref (z + 129), .ref (z + 131), .ref (z + 133), .ref (z + 138), .int (to 9), .int (to 10), .int (to 11), .ref (z + la)]))) (hla : M la = some (.inr (6, [.int ln, .int lw, .ref (z + lb)]))) (hlb : M lb = some (.inr (6, [.int lc, .int le, .null]))) : pm_C l z D kA kE yX12_denial cX12_denial 1 (some .int) 20 2 12 [.ref (z + 0)] nx M (pm_fp ((d_X12_denial2 ln lw lc le to).1) (some (.int ((d_X12_denial2 ln lw lc le to).2))) nx M) := by
  refine pm_mk (own := RX12) (nm := "denial") mt_X12_denial rfl rfl rfl rfl fun X B => ?_
  refine pm_loc (L' := [some (.ref (z + 0))]) rfl ?_
  refine pm_aload_n B dX12_denial_0 rfl ?_
  refine pm_get B dX12_denial_1 fl_X12_297 hto rfl ?_
  refine pm_ifnonnull (tgt := 18) B dX12_denial_4 (by decide) ?_
  refine pm_aload_n B dX12_denial_18 rfl ?_
  refine pm_get B dX12_denial_19 fl_X12_297 hto rfl ?_
  refine pm_get B dX12_denial_22 fl_X12_337 hla rfl ?_
  have hDq1 : (d_X12_denial2 ln lw lc le to) = (0, ln) := by rw [d_X12_denial2]
  refine pm_pst (post' := pm_fp ((0, ln).1) (some (.int ((0, ln).2))) nx M) (by rw [hDq1]) ?_
  exact pm_ireturn B dX12_denial_25 rfl (by first | rfl | (apply pm_nz; first | assumption | decide | exact pm_in01 _ _ _ | ((repeat' split) <;> first | exact Or.inl rfl | exact Or.inr rfl))) ⟨rfl, Nat.le_refl _, Or.inl ⟨rfl, rfl, rfl⟩⟩ rfl rfl
def d_X12_denialDetail2 (ln : Int32) (lw : Int32) (lc : Int32) (le : Int32) (to : Nat → Int32) : (Nat × Int32) := (0, lw)
set_option maxRecDepth 100000 in
set_option maxHeartbeats 8000000 in
theorem c_X12_denialDetail2 {l : Launch} {z : Nat} {D : va_G} {kA : Nat → ClassId} {kE : Nat → Nat} {nx : Nat} {M : pm_M} {ln : Int32} {lw : Int32} {lc : Int32} {le : Int32} {la : Nat} {lb : Nat} {ldv : Value} {to : Nat → Int32} (hto : M 0 = some (.inr (10, [.ref (z + 1), .ref (z + 2), .ref (z + 17), .ref (z + 28), .ref (z + 39), .ref (z + 129), .ref (z + 131), .ref (z + 133), .ref (z + 138), .int (to 9), .int (to 10), .int (to 11), .ref (z + la)]))) (hla : M la = some (.inr (6, [.int ln, .int lw, .ref (z + lb)]))) (hlb : M lb = some (.inr (6, [.int lc, .int le, .null]))) : pm_C l z D kA kE yX12_denialDetail cX12_denialDetail 1 (some .int) 20 2 12 [.ref (z + 0)] nx M (pm_fp ((d_X12_denialDetail2 ln lw lc le to).1) (some (.int ((d_X12_denialDetail2 ln lw lc le to).2))) nx M) := by
  refine pm_mk (own := RX12) (nm := "denialDetail") mt_X12_denialDetail rfl rfl rfl rfl fun X B => ?_
  refine pm_loc (L' := [some (.ref (z + 0))]) rfl ?_
  refine pm_aload_n B dX12_denialDetail_0 rfl ?_
  refine pm_get B dX12_denialDetail_1 fl_X12_297 hto rfl ?_
  refine pm_ifnonnull (tgt := 18) B dX12_denialDetail_4 (by decide) ?_
  refine pm_aload_n B dX12_denialDetail_18 rfl ?_
  refine pm_get B dX12_denialDetail_19 fl_X12_297 hto rfl ?_
  refine pm_get B dX12_denialDetail_22 fl_X12_342 hla rfl ?_
  have hDq1 : (d_X12_denialDetail2 ln lw lc le to) = (0, lw) := by rw [d_X12_denialDetail2]
  refine pm_pst (post' := pm_fp ((0, lw).1) (some (.int ((0, lw).2))) nx M) (by rw [hDq1]) ?_
  exact pm_ireturn B dX12_denialDetail_25 rfl (by first | rfl | (apply pm_nz; first | assumption | decide | exact pm_in01 _ _ _ | ((repeat' split) <;> first | exact Or.inl rfl | exact Or.inr rfl))) ⟨rfl, Nat.le_refl _, Or.inl ⟨rfl, rfl, rfl⟩⟩ rfl rfl
def d_X12_denialCause2 (ln : Int32) (lw : Int32) (lc : Int32) (le : Int32) (to : Nat → Int32) : (Nat × Int32) := (0, lc)
set_option maxRecDepth 100000 in
set_option maxHeartbeats 8000000 in
theorem c_X12_denialCause2 {l : Launch} {z : Nat} {D : va_G} {kA : Nat → ClassId} {kE : Nat → Nat} {nx : Nat} {M : pm_M} {ln : Int32} {lw : Int32} {lc : Int32} {le : Int32} {la : Nat} {lb : Nat} {ldv : Value} {to : Nat → Int32} (hto : M 0 = some (.inr (10, [.ref (z + 1), .ref (z + 2), .ref (z + 17), .ref (z + 28), .ref (z + 39), .ref (z + 129), .ref (z + 131), .ref (z + 133), .ref (z + 138), .int (to 9), .int (to 10), .int (to 11), .ref (z + la)]))) (hla : M la = some (.inr (6, [.int ln, .int lw, .ref (z + lb)]))) (hlb : M lb = some (.inr (6, [.int lc, .int le, .null]))) : pm_C l z D kA kE yX12_denialCause cX12_denialCause 1 (some .int) 20 2 12 [.ref (z + 0)] nx M (pm_fp ((d_X12_denialCause2 ln lw lc le to).1) (some (.int ((d_X12_denialCause2 ln lw lc le to).2))) nx M) := by
  refine pm_mk (own := RX12) (nm := "denialCause") mt_X12_denialCause rfl rfl rfl rfl fun X B => ?_
  refine pm_loc (L' := [some (.ref (z + 0))]) rfl ?_
  refine pm_aload_n B dX12_denialCause_0 rfl ?_
  refine pm_get B dX12_denialCause_1 fl_X12_297 hto rfl ?_
  refine pm_ifnull B dX12_denialCause_4 ?_
  refine pm_aload_n B dX12_denialCause_7 rfl ?_
  refine pm_get B dX12_denialCause_8 fl_X12_297 hto rfl ?_
  refine pm_get B dX12_denialCause_11 fl_X12_345 hla rfl ?_
  refine pm_ifnonnull (tgt := 28) B dX12_denialCause_14 (by decide) ?_
  refine pm_aload_n B dX12_denialCause_28 rfl ?_
  refine pm_get B dX12_denialCause_29 fl_X12_297 hto rfl ?_
  refine pm_get B dX12_denialCause_32 fl_X12_345 hla rfl ?_
  refine pm_get B dX12_denialCause_35 fl_X12_337 hlb rfl ?_
  have hDq1 : (d_X12_denialCause2 ln lw lc le to) = (0, lc) := by rw [d_X12_denialCause2]
  refine pm_pst (post' := pm_fp ((0, lc).1) (some (.int ((0, lc).2))) nx M) (by rw [hDq1]) ?_
  exact pm_ireturn B dX12_denialCause_38 rfl (by first | rfl | (apply pm_nz; first | assumption | decide | exact pm_in01 _ _ _ | ((repeat' split) <;> first | exact Or.inl rfl | exact Or.inr rfl))) ⟨rfl, Nat.le_refl _, Or.inl ⟨rfl, rfl, rfl⟩⟩ rfl rfl
/-! ThunderCartelModel: each method as a function -/
theorem pm_in_nx {x : Int32} {n : Nat} (hn : n ≤ 7) (h : ¬ pm_in x 0 (nI n - 1) = 0) : x = nI (pm_n x) ∧ pm_n x < n := by
  obtain ⟨i, hi, rfl⟩ := pm_in_ex hn h
  rw [pm_n_nI (by omega)]
  exact ⟨rfl, hi⟩
def d_X13_keep (f : Nat → Int32) (g : Nat → Int32) (gb : Nat → Int32) : ((Nat → Int32) × (Nat → Int32)) := ((upd (upd f 6 0) 7 0), (va_cpy g gb 0 0 91))
set_option maxRecDepth 100000 in
set_option maxHeartbeats 8000000 in
theorem c_X13_keep {l : Launch} {z : Nat} {D : va_G} {kA : Nat → ClassId} {kE : Nat → Nat} {nx : Nat} {M : pm_M} {m0 : Nat} {f : Nat → Int32} {g : Nat → Int32} {gb : Nat → Int32} (hM : M m0 = some (pm_mo z m0 f)) (hg : M (m0 + 1) = some (.inl (kA 0, 91, .inl g))) (hgb : M (m0 + 2) = some (.inl (kA 0, 91, .inl gb))) : pm_C l z D kA kE yX13_keep cX13_keep 1 none 2 0 0 [.ref (z + m0)] nx M (pm_rt none nx (pm_up (pm_up M m0 (pm_mo z m0 ((d_X13_keep f g gb).1))) (m0 + 2) (.inl (kA 0, 91, .inl ((d_X13_keep f g gb).2))))) := by
  refine pm_mk (own := RX13) (nm := "keep") mt_X13_keep rfl rfl rfl rfl fun X B => ?_
  refine pm_loc (L' := [some (.ref (z + m0))]) rfl ?_
  refine pm_mem (M' := pm_up (pm_up M m0 (pm_mo z m0 f)) (m0 + 2) (.inl (kA 0, 91, .inl gb))) (by rw [pm_up_id hM, pm_up_id hgb]) ?_
  refine pm_aload_n B dX13_keep_0 rfl ?_
  refine pm_iconst (v := 0) B dX13_keep_1 (by decide) ?_
  refine pm_put B dX13_keep_2 fs_X13_39 ((pm_up_n (by omega)).trans pm_up_s) rfl rfl rfl ?_
  refine pm_mem (M' := pm_up (pm_up (pm_up M m0 (pm_mo z m0 f)) (m0 + 2) (.inl (kA 0, 91, .inl gb))) m0 (pm_mo z m0 (upd f 6 0))) rfl ?_
  refine pm_mem (M' := pm_up (pm_up M m0 (pm_mo z m0 (upd f 6 0))) (m0 + 2) (.inl (kA 0, 91, .inl gb))) (by rw [pm_up_sw (a := m0 + 2) (b := m0) (by omega), pm_up_up]) ?_
  refine pm_aload_n B dX13_keep_5 rfl ?_
  refine pm_iconst (v := 0) B dX13_keep_6 (by decide) ?_
  refine pm_put B dX13_keep_7 fs_X13_42 ((pm_up_n (by omega)).trans pm_up_s) rfl rfl rfl ?_
  refine pm_mem (M' := pm_up (pm_up (pm_up M m0 (pm_mo z m0 (upd f 6 0))) (m0 + 2) (.inl (kA 0, 91, .inl gb))) m0 (pm_mo z m0 (upd (upd f 6 0) 7 0))) rfl ?_
  refine pm_mem (M' := pm_up (pm_up M m0 (pm_mo z m0 (upd (upd f 6 0) 7 0))) (m0 + 2) (.inl (kA 0, 91, .inl gb))) (by rw [pm_up_sw (a := m0 + 2) (b := m0) (by omega), pm_up_up]) ?_
  refine pm_aload_n B dX13_keep_10 rfl ?_
  refine pm_get B dX13_keep_11 fl_X13_9 ((pm_up_n (by omega)).trans pm_up_s) rfl ?_
  refine pm_stk (st' := [.ref (z + (m0 + 1))]) rfl ?_
  refine pm_iconst (v := 0) B dX13_keep_14 (by decide) ?_
  refine pm_aload_n B dX13_keep_15 rfl ?_
  refine pm_get B dX13_keep_16 fl_X13_13 ((pm_up_n (by omega)).trans pm_up_s) rfl ?_
  refine pm_stk (st' := [.ref (z + (m0 + 2)), .int 0, .ref (z + (m0 + 1))]) rfl ?_
  refine pm_iconst (v := 0) B dX13_keep_19 (by decide) ?_
  refine pm_bipush (v := 91) B dX13_keep_20 (by decide) ?_
  refine pm_acopy B dX13_keep_22 (pm_T_in 1721 (by decide +kernel) (by decide +kernel)) ((pm_up_n (by omega)).trans ((pm_up_n (by omega)).trans hg)) pm_up_s 0 0 91 rfl rfl rfl (by first | decide | omega) (by first | decide | omega) (by first | decide | omega) (by first | decide | omega) rfl rfl ?_
  refine pm_mem (M' := pm_up (pm_up M m0 (pm_mo z m0 (upd (upd f 6 0) 7 0))) (m0 + 2) (.inl (kA 0, 91, .inl (va_cpy g gb 0 0 91)))) pm_up_up ?_
  have hDq1 : (d_X13_keep f g gb) = ((upd (upd f 6 0) 7 0), (va_cpy g gb 0 0 91)) := by rw [d_X13_keep]
  exact pm_return B dX13_keep_25 rfl ⟨rfl, rfl, by rw [hDq1]⟩ rfl rfl
theorem d_X13_keep_k_f5  (f : Nat → Int32) (g : Nat → Int32) (gb : Nat → Int32) : ((d_X13_keep f g gb).1) 5 = f 5 := by
  unfold d_X13_keep
  (repeat' split) <;> rfl
def d_X13_ends (x : Int32) (y : Int32) (k : Nat) (f : Nat → Int32) (g : Nat → Int32) (gb : Nat → Int32) (gp : Nat → Int32) : (Int32 × (Nat → Int32) × (Nat → Int32) × (Nat → Int32)) := if (f 7) ≤ 0 then (if (f 6) ≤ 0 then (if (nI k) = 8 then (x, (upd (upd f 5 (nI (k - 1))) 5 ((nI (k - 1)) + 1)), g, (va_cpy gb (va_cpy gp gp 91 0 637) 0 (91 * (k - 1)) 91)) else (x, (upd f 5 ((nI k) + 1)), g, (va_cpy gb gp 0 (91 * k) 91))) else (0, f, (va_cpy gb g 0 0 91), gp)) else (if (f 6) ≤ 0 then (if (nI k) = 8 then (x, (upd (upd (upd (upd (upd f 9 (f 7)) 10 (f 8)) 11 y) 5 (nI (k - 1))) 5 ((nI (k - 1)) + 1)), g, (va_cpy gb (va_cpy gp gp 91 0 637) 0 (91 * (k - 1)) 91)) else (x, (upd (upd (upd (upd f 9 (f 7)) 10 (f 8)) 11 y) 5 ((nI k) + 1)), g, (va_cpy gb gp 0 (91 * k) 91))) else (0, (upd (upd (upd f 9 (f 7)) 10 (f 8)) 11 y), (va_cpy gb g 0 0 91), gp))
set_option maxRecDepth 100000 in
set_option maxHeartbeats 8000000 in
theorem c_X13_ends {l : Launch} {z : Nat} {D : va_G} {kA : Nat → ClassId} {kE : Nat → Nat} {nx : Nat} {M : pm_M} {x : Int32} {y : Int32} {k : Nat}{m0 : Nat} {f : Nat → Int32} {g : Nat → Int32} {gb : Nat → Int32} {gp : Nat → Int32} (hM : M m0 = some (pm_mo z m0 f)) (hg : M (m0 + 1) = some (.inl (kA 0, 91, .inl g))) (hgb : M (m0 + 2) = some (.inl (kA 0, 91, .inl gb))) (hgp : M (m0 + 4) = some (.inl (kA 0, 728, .inl gp))) (hf5 : f 5 = nI k) (h8 : k ≤ 8) : pm_C l z D kA kE yX13_ends cX13_ends 3 (some .int) 2 0 0 [.ref (z + m0), .int x, .int y] nx M (pm_rt (some (.int ((d_X13_ends x y k f g gb gp).1))) nx (pm_up (pm_up (pm_up M m0 (pm_mo z m0 ((d_X13_ends x y k f g gb gp).2.1))) (m0 + 1) (.inl (kA 0, 91, .inl ((d_X13_ends x y k f g gb gp).2.2.1)))) (m0 + 4) (.inl (kA 0, 728, .inl ((d_X13_ends x y k f g gb gp).2.2.2))))) := by
  refine pm_mk (own := RX13) (nm := "ends") mt_X13_ends rfl rfl rfl rfl fun X B => ?_
  refine pm_loc (L' := [some (.ref (z + m0)), some (.int x), some (.int y)]) rfl ?_
  refine pm_mem (M' := pm_up (pm_up (pm_up M m0 (pm_mo z m0 f)) (m0 + 1) (.inl (kA 0, 91, .inl g))) (m0 + 4) (.inl (kA 0, 728, .inl gp))) (by rw [pm_up_id hM, pm_up_id hg, pm_up_id hgp]) ?_
  refine pm_aload_n B dX13_ends_0 rfl ?_
  refine pm_get B dX13_ends_1 fl_X13_42 ((pm_up_n (by omega)).trans ((pm_up_n (by omega)).trans pm_up_s)) rfl ?_
  refine pm_if_le (tgt := 28) B dX13_ends_4 (by decide) (fun hq1 => ?_) (fun hq1 => ?_)
  · refine pm_aload_n B dX13_ends_28 rfl ?_
    refine pm_get B dX13_ends_29 fl_X13_39 ((pm_up_n (by omega)).trans ((pm_up_n (by omega)).trans pm_up_s)) rfl ?_
    refine pm_if_le (tgt := 52) B dX13_ends_32 (by decide) (fun hq2 => ?_) (fun hq2 => ?_)
    · refine pm_aload_n B dX13_ends_52 rfl ?_
      refine pm_get B dX13_ends_53 fl_X13_63 ((pm_up_n (by omega)).trans ((pm_up_n (by omega)).trans pm_up_s)) rfl ?_
      refine pm_stk (st' := [.int (nI k)]) (by rw [show (f 5) = (nI k) from by rw [hf5]]) ?_
      refine pm_bipush (v := 8) B dX13_ends_56 (by decide) ?_
      refine pm_icmp_ne (tgt := 88) B dX13_ends_58 (by decide) (fun hq3 => ?_) (fun hq3 => ?_)
      · have hk8 : k < 8 := by have h := hq3; rw [show (8 : Int32) = nI 8 from rfl, nI_eq (by omega) (by decide)] at h; omega
        refine pm_aload_n B dX13_ends_88 rfl ?_
        refine pm_get B dX13_ends_89 fl_X13_13 ((pm_up_n (by omega)).trans ((pm_up_n (by omega)).trans pm_up_s)) rfl ?_
        refine pm_iconst (v := 0) B dX13_ends_92 (by decide) ?_
        refine pm_aload_n B dX13_ends_93 rfl ?_
        refine pm_get B dX13_ends_94 fl_X13_19 ((pm_up_n (by omega)).trans ((pm_up_n (by omega)).trans pm_up_s)) rfl ?_
        refine pm_bipush (v := 91) B dX13_ends_97 (by decide) ?_
        refine pm_aload_n B dX13_ends_99 rfl ?_
        refine pm_get B dX13_ends_100 fl_X13_63 ((pm_up_n (by omega)).trans ((pm_up_n (by omega)).trans pm_up_s)) rfl ?_
        refine pm_stk (st' := [.int (nI k), .int 91, .ref (z + (m0 + 4)), .int 0, .ref (z + (m0 + 2))]) (by rw [show (f 5) = (nI k) from by rw [hf5]]) ?_
        refine pm_imul B dX13_ends_103 ?_
        refine pm_bipush (v := 91) B dX13_ends_104 (by decide) ?_
        refine pm_acopy B dX13_ends_106 (pm_T_in 1721 (by decide +kernel) (by decide +kernel)) ((pm_up_n (by omega)).trans ((pm_up_n (by omega)).trans ((pm_up_n (by omega)).trans hgb))) pm_up_s 0 (91 * k) 91 rfl (by rw [show (91 : Int32) = nI 91 from rfl, pk_mul]) rfl (by first | decide | omega) (by first | decide | omega) (by first | decide | omega) (by first | decide | omega) rfl rfl ?_
        refine pm_mem (M' := pm_up (pm_up (pm_up M m0 (pm_mo z m0 f)) (m0 + 1) (.inl (kA 0, 91, .inl g))) (m0 + 4) (.inl (kA 0, 728, .inl (va_cpy gb gp 0 (91 * k) 91)))) pm_up_up ?_
        refine pm_aload_n B dX13_ends_109 rfl ?_
        refine pm_dup B dX13_ends_110 rfl ?_
        refine pm_get B dX13_ends_111 fl_X13_63 ((pm_up_n (by omega)).trans ((pm_up_n (by omega)).trans pm_up_s)) rfl ?_
        refine pm_stk (st' := [.int (nI k), .ref (z + m0)]) (by rw [show (f 5) = (nI k) from by rw [hf5]]) ?_
        refine pm_iconst (v := 1) B dX13_ends_114 (by decide) ?_
        refine pm_iadd B dX13_ends_115 ?_
        refine pm_put B dX13_ends_116 fs_X13_63 ((pm_up_n (by omega)).trans ((pm_up_n (by omega)).trans pm_up_s)) rfl rfl rfl ?_
        refine pm_mem (M' := pm_up (pm_up (pm_up (pm_up M m0 (pm_mo z m0 f)) (m0 + 1) (.inl (kA 0, 91, .inl g))) (m0 + 4) (.inl (kA 0, 728, .inl (va_cpy gb gp 0 (91 * k) 91)))) m0 (pm_mo z m0 (upd f 5 ((nI k) + 1)))) rfl ?_
        refine pm_mem (M' := pm_up (pm_up (pm_up M m0 (pm_mo z m0 (upd f 5 ((nI k) + 1)))) (m0 + 1) (.inl (kA 0, 91, .inl g))) (m0 + 4) (.inl (kA 0, 728, .inl (va_cpy gb gp 0 (91 * k) 91)))) (by rw [pm_up_sw (a := m0 + 4) (b := m0) (by omega), pm_up_sw (a := m0 + 1) (b := m0) (by omega), pm_up_up]) ?_
        refine pm_iload_n B dX13_ends_119 rfl ?_
        have hDq4 : (d_X13_ends x y k f g gb gp) = (x, (upd f 5 ((nI k) + 1)), g, (va_cpy gb gp 0 (91 * k) 91)) := by rw [d_X13_ends, if_pos hq1, if_pos hq2, if_neg hq3]
        exact pm_ireturn B dX13_ends_120 rfl (by first | rfl | (apply pm_nz; first | assumption | decide | exact pm_in01 _ _ _ | simp)) ⟨(by rw [hDq4]), rfl, by rw [hDq4]⟩ rfl rfl
      · have hk8 : k = 8 := (nI_eq (by omega) (by decide)).mp (hq3.trans (show (8 : Int32) = nI 8 from rfl))
        refine pm_aload_n B dX13_ends_61 rfl ?_
        refine pm_get B dX13_ends_62 fl_X13_19 ((pm_up_n (by omega)).trans ((pm_up_n (by omega)).trans pm_up_s)) rfl ?_
        refine pm_bipush (v := 91) B dX13_ends_65 (by decide) ?_
        refine pm_aload_n B dX13_ends_67 rfl ?_
        refine pm_get B dX13_ends_68 fl_X13_19 ((pm_up_n (by omega)).trans ((pm_up_n (by omega)).trans pm_up_s)) rfl ?_
        refine pm_iconst (v := 0) B dX13_ends_71 (by decide) ?_
        refine pm_sipush (v := 637) B dX13_ends_72 (by decide) ?_
        refine pm_acopy B dX13_ends_75 (pm_T_in 1721 (by decide +kernel) (by decide +kernel)) pm_up_s pm_up_s 91 0 637 rfl rfl rfl (by first | decide | omega) (by first | decide | omega) (by first | decide | omega) (by first | decide | omega) rfl rfl ?_
        refine pm_mem (M' := pm_up (pm_up (pm_up M m0 (pm_mo z m0 f)) (m0 + 1) (.inl (kA 0, 91, .inl g))) (m0 + 4) (.inl (kA 0, 728, .inl (va_cpy gp gp 91 0 637)))) pm_up_up ?_
        refine pm_aload_n B dX13_ends_78 rfl ?_
        refine pm_dup B dX13_ends_79 rfl ?_
        refine pm_get B dX13_ends_80 fl_X13_63 ((pm_up_n (by omega)).trans ((pm_up_n (by omega)).trans pm_up_s)) rfl ?_
        refine pm_stk (st' := [.int (nI k), .ref (z + m0)]) (by rw [show (f 5) = (nI k) from by rw [hf5]]) ?_
        refine pm_iconst (v := 1) B dX13_ends_83 (by decide) ?_
        refine pm_isub B dX13_ends_84 ?_
        refine pm_stk (st' := [.int (nI (k - 1)), .ref (z + m0)]) (by rw [show ((nI k) - 1) = (nI (k - 1)) from by rw [hk8]; rfl]) ?_
        refine pm_put B dX13_ends_85 fs_X13_63 ((pm_up_n (by omega)).trans ((pm_up_n (by omega)).trans pm_up_s)) rfl rfl rfl ?_
        refine pm_mem (M' := pm_up (pm_up (pm_up (pm_up M m0 (pm_mo z m0 f)) (m0 + 1) (.inl (kA 0, 91, .inl g))) (m0 + 4) (.inl (kA 0, 728, .inl (va_cpy gp gp 91 0 637)))) m0 (pm_mo z m0 (upd f 5 (nI (k - 1))))) rfl ?_
        refine pm_mem (M' := pm_up (pm_up (pm_up M m0 (pm_mo z m0 (upd f 5 (nI (k - 1))))) (m0 + 1) (.inl (kA 0, 91, .inl g))) (m0 + 4) (.inl (kA 0, 728, .inl (va_cpy gp gp 91 0 637)))) (by rw [pm_up_sw (a := m0 + 4) (b := m0) (by omega), pm_up_sw (a := m0 + 1) (b := m0) (by omega), pm_up_up]) ?_
        refine pm_aload_n B dX13_ends_88 rfl ?_
        refine pm_get B dX13_ends_89 fl_X13_13 ((pm_up_n (by omega)).trans ((pm_up_n (by omega)).trans pm_up_s)) rfl ?_
        refine pm_stk (st' := [.ref (z + (m0 + 2))]) rfl ?_
        refine pm_iconst (v := 0) B dX13_ends_92 (by decide) ?_
        refine pm_aload_n B dX13_ends_93 rfl ?_
        refine pm_get B dX13_ends_94 fl_X13_19 ((pm_up_n (by omega)).trans ((pm_up_n (by omega)).trans pm_up_s)) rfl ?_
        refine pm_stk (st' := [.ref (z + (m0 + 4)), .int 0, .ref (z + (m0 + 2))]) rfl ?_
        refine pm_bipush (v := 91) B dX13_ends_97 (by decide) ?_
        refine pm_aload_n B dX13_ends_99 rfl ?_
        refine pm_get B dX13_ends_100 fl_X13_63 ((pm_up_n (by omega)).trans ((pm_up_n (by omega)).trans pm_up_s)) rfl ?_
        refine pm_stk (st' := [.int (nI (k - 1)), .int 91, .ref (z + (m0 + 4)), .int 0, .ref (z + (m0 + 2))]) rfl ?_
        refine pm_imul B dX13_ends_103 ?_
        refine pm_bipush (v := 91) B dX13_ends_104 (by decide) ?_
        refine pm_acopy B dX13_ends_106 (pm_T_in 1721 (by decide +kernel) (by decide +kernel)) ((pm_up_n (by omega)).trans ((pm_up_n (by omega)).trans ((pm_up_n (by omega)).trans hgb))) pm_up_s 0 (91 * (k - 1)) 91 rfl (by rw [show (91 : Int32) = nI 91 from rfl, pk_mul]) rfl (by first | decide | omega) (by first | decide | omega) (by first | decide | omega) (by first | decide | omega) rfl rfl ?_
        refine pm_mem (M' := pm_up (pm_up (pm_up M m0 (pm_mo z m0 (upd f 5 (nI (k - 1))))) (m0 + 1) (.inl (kA 0, 91, .inl g))) (m0 + 4) (.inl (kA 0, 728, .inl (va_cpy gb (va_cpy gp gp 91 0 637) 0 (91 * (k - 1)) 91)))) pm_up_up ?_
        refine pm_aload_n B dX13_ends_109 rfl ?_
        refine pm_dup B dX13_ends_110 rfl ?_
        refine pm_get B dX13_ends_111 fl_X13_63 ((pm_up_n (by omega)).trans ((pm_up_n (by omega)).trans pm_up_s)) rfl ?_
        refine pm_stk (st' := [.int (nI (k - 1)), .ref (z + m0)]) rfl ?_
        refine pm_iconst (v := 1) B dX13_ends_114 (by decide) ?_
        refine pm_iadd B dX13_ends_115 ?_
        refine pm_put B dX13_ends_116 fs_X13_63 ((pm_up_n (by omega)).trans ((pm_up_n (by omega)).trans pm_up_s)) rfl rfl rfl ?_
        refine pm_mem (M' := pm_up (pm_up (pm_up (pm_up M m0 (pm_mo z m0 (upd f 5 (nI (k - 1))))) (m0 + 1) (.inl (kA 0, 91, .inl g))) (m0 + 4) (.inl (kA 0, 728, .inl (va_cpy gb (va_cpy gp gp 91 0 637) 0 (91 * (k - 1)) 91)))) m0 (pm_mo z m0 (upd (upd f 5 (nI (k - 1))) 5 ((nI (k - 1)) + 1)))) rfl ?_
        refine pm_mem (M' := pm_up (pm_up (pm_up M m0 (pm_mo z m0 (upd (upd f 5 (nI (k - 1))) 5 ((nI (k - 1)) + 1)))) (m0 + 1) (.inl (kA 0, 91, .inl g))) (m0 + 4) (.inl (kA 0, 728, .inl (va_cpy gb (va_cpy gp gp 91 0 637) 0 (91 * (k - 1)) 91)))) (by rw [pm_up_sw (a := m0 + 4) (b := m0) (by omega), pm_up_sw (a := m0 + 1) (b := m0) (by omega), pm_up_up]) ?_
        refine pm_iload_n B dX13_ends_119 rfl ?_
        have hDq5 : (d_X13_ends x y k f g gb gp) = (x, (upd (upd f 5 (nI (k - 1))) 5 ((nI (k - 1)) + 1)), g, (va_cpy gb (va_cpy gp gp 91 0 637) 0 (91 * (k - 1)) 91)) := by rw [d_X13_ends, if_pos hq1, if_pos hq2, if_pos hq3]
        exact pm_ireturn B dX13_ends_120 rfl (by first | rfl | (apply pm_nz; first | assumption | decide | exact pm_in01 _ _ _ | simp)) ⟨(by rw [hDq5]), rfl, by rw [hDq5]⟩ rfl rfl
    · refine pm_aload_n B dX13_ends_35 rfl ?_
      refine pm_get B dX13_ends_36 fl_X13_13 ((pm_up_n (by omega)).trans ((pm_up_n (by omega)).trans pm_up_s)) rfl ?_
      refine pm_iconst (v := 0) B dX13_ends_39 (by decide) ?_
      refine pm_aload_n B dX13_ends_40 rfl ?_
      refine pm_get B dX13_ends_41 fl_X13_9 ((pm_up_n (by omega)).trans ((pm_up_n (by omega)).trans pm_up_s)) rfl ?_
      refine pm_iconst (v := 0) B dX13_ends_44 (by decide) ?_
      refine pm_bipush (v := 91) B dX13_ends_45 (by decide) ?_
      refine pm_acopy B dX13_ends_47 (pm_T_in 1721 (by decide +kernel) (by decide +kernel)) ((pm_up_n (by omega)).trans ((pm_up_n (by omega)).trans ((pm_up_n (by omega)).trans hgb))) ((pm_up_n (by omega)).trans pm_up_s) 0 0 91 rfl rfl rfl (by first | decide | omega) (by first | decide | omega) (by first | decide | omega) (by first | decide | omega) rfl rfl ?_
      refine pm_mem (M' := pm_up (pm_up (pm_up (pm_up M m0 (pm_mo z m0 f)) (m0 + 1) (.inl (kA 0, 91, .inl g))) (m0 + 4) (.inl (kA 0, 728, .inl gp))) (m0 + 1) (.inl (kA 0, 91, .inl (va_cpy gb g 0 0 91)))) rfl ?_
      refine pm_mem (M' := pm_up (pm_up (pm_up M m0 (pm_mo z m0 f)) (m0 + 1) (.inl (kA 0, 91, .inl (va_cpy gb g 0 0 91)))) (m0 + 4) (.inl (kA 0, 728, .inl gp))) (by rw [pm_up_sw (a := m0 + 4) (b := m0 + 1) (by omega), pm_up_up]) ?_
      refine pm_iconst (v := 0) B dX13_ends_50 (by decide) ?_
      have hDq6 : (d_X13_ends x y k f g gb gp) = (0, f, (va_cpy gb g 0 0 91), gp) := by rw [d_X13_ends, if_pos hq1, if_neg hq2]
      exact pm_ireturn B dX13_ends_51 rfl (by first | rfl | (apply pm_nz; first | assumption | decide | exact pm_in01 _ _ _ | simp)) ⟨(by rw [hDq6]), rfl, by rw [hDq6]⟩ rfl rfl
  · refine pm_aload_n B dX13_ends_7 rfl ?_
    refine pm_aload_n B dX13_ends_8 rfl ?_
    refine pm_get B dX13_ends_9 fl_X13_42 ((pm_up_n (by omega)).trans ((pm_up_n (by omega)).trans pm_up_s)) rfl ?_
    refine pm_put B dX13_ends_12 fs_X13_51 ((pm_up_n (by omega)).trans ((pm_up_n (by omega)).trans pm_up_s)) rfl rfl rfl ?_
    refine pm_mem (M' := pm_up (pm_up (pm_up (pm_up M m0 (pm_mo z m0 f)) (m0 + 1) (.inl (kA 0, 91, .inl g))) (m0 + 4) (.inl (kA 0, 728, .inl gp))) m0 (pm_mo z m0 (upd f 9 (f 7)))) rfl ?_
    refine pm_mem (M' := pm_up (pm_up (pm_up M m0 (pm_mo z m0 (upd f 9 (f 7)))) (m0 + 1) (.inl (kA 0, 91, .inl g))) (m0 + 4) (.inl (kA 0, 728, .inl gp))) (by rw [pm_up_sw (a := m0 + 4) (b := m0) (by omega), pm_up_sw (a := m0 + 1) (b := m0) (by omega), pm_up_up]) ?_
    refine pm_aload_n B dX13_ends_15 rfl ?_
    refine pm_aload_n B dX13_ends_16 rfl ?_
    refine pm_get B dX13_ends_17 fl_X13_54 ((pm_up_n (by omega)).trans ((pm_up_n (by omega)).trans pm_up_s)) rfl ?_
    refine pm_stk (st' := [.int (f 8), .ref (z + m0)]) rfl ?_
    refine pm_put B dX13_ends_20 fs_X13_57 ((pm_up_n (by omega)).trans ((pm_up_n (by omega)).trans pm_up_s)) rfl rfl rfl ?_
    refine pm_mem (M' := pm_up (pm_up (pm_up (pm_up M m0 (pm_mo z m0 (upd f 9 (f 7)))) (m0 + 1) (.inl (kA 0, 91, .inl g))) (m0 + 4) (.inl (kA 0, 728, .inl gp))) m0 (pm_mo z m0 (upd (upd f 9 (f 7)) 10 (f 8)))) rfl ?_
    refine pm_mem (M' := pm_up (pm_up (pm_up M m0 (pm_mo z m0 (upd (upd f 9 (f 7)) 10 (f 8)))) (m0 + 1) (.inl (kA 0, 91, .inl g))) (m0 + 4) (.inl (kA 0, 728, .inl gp))) (by rw [pm_up_sw (a := m0 + 4) (b := m0) (by omega), pm_up_sw (a := m0 + 1) (b := m0) (by omega), pm_up_up]) ?_
    refine pm_aload_n B dX13_ends_23 rfl ?_
    refine pm_iload_n B dX13_ends_24 rfl ?_
    refine pm_put B dX13_ends_25 fs_X13_60 ((pm_up_n (by omega)).trans ((pm_up_n (by omega)).trans pm_up_s)) rfl rfl rfl ?_
    refine pm_mem (M' := pm_up (pm_up (pm_up (pm_up M m0 (pm_mo z m0 (upd (upd f 9 (f 7)) 10 (f 8)))) (m0 + 1) (.inl (kA 0, 91, .inl g))) (m0 + 4) (.inl (kA 0, 728, .inl gp))) m0 (pm_mo z m0 (upd (upd (upd f 9 (f 7)) 10 (f 8)) 11 y))) rfl ?_
    refine pm_mem (M' := pm_up (pm_up (pm_up M m0 (pm_mo z m0 (upd (upd (upd f 9 (f 7)) 10 (f 8)) 11 y))) (m0 + 1) (.inl (kA 0, 91, .inl g))) (m0 + 4) (.inl (kA 0, 728, .inl gp))) (by rw [pm_up_sw (a := m0 + 4) (b := m0) (by omega), pm_up_sw (a := m0 + 1) (b := m0) (by omega), pm_up_up]) ?_
    refine pm_aload_n B dX13_ends_28 rfl ?_
    refine pm_get B dX13_ends_29 fl_X13_39 ((pm_up_n (by omega)).trans ((pm_up_n (by omega)).trans pm_up_s)) rfl ?_
    refine pm_stk (st' := [.int (f 6)]) rfl ?_
    refine pm_if_le (tgt := 52) B dX13_ends_32 (by decide) (fun hq7 => ?_) (fun hq7 => ?_)
    · refine pm_aload_n B dX13_ends_52 rfl ?_
      refine pm_get B dX13_ends_53 fl_X13_63 ((pm_up_n (by omega)).trans ((pm_up_n (by omega)).trans pm_up_s)) rfl ?_
      refine pm_stk (st' := [.int (f 5)]) rfl ?_
      refine pm_stk (st' := [.int (nI k)]) (by rw [show (f 5) = (nI k) from by rw [hf5]]) ?_
      refine pm_bipush (v := 8) B dX13_ends_56 (by decide) ?_
      refine pm_icmp_ne (tgt := 88) B dX13_ends_58 (by decide) (fun hq8 => ?_) (fun hq8 => ?_)
      · have hk8 : k < 8 := by have h := hq8; rw [show (8 : Int32) = nI 8 from rfl, nI_eq (by omega) (by decide)] at h; omega
        refine pm_aload_n B dX13_ends_88 rfl ?_
        refine pm_get B dX13_ends_89 fl_X13_13 ((pm_up_n (by omega)).trans ((pm_up_n (by omega)).trans pm_up_s)) rfl ?_
        refine pm_stk (st' := [.ref (z + (m0 + 2))]) rfl ?_
        refine pm_iconst (v := 0) B dX13_ends_92 (by decide) ?_
        refine pm_aload_n B dX13_ends_93 rfl ?_
        refine pm_get B dX13_ends_94 fl_X13_19 ((pm_up_n (by omega)).trans ((pm_up_n (by omega)).trans pm_up_s)) rfl ?_
        refine pm_stk (st' := [.ref (z + (m0 + 4)), .int 0, .ref (z + (m0 + 2))]) rfl ?_
        refine pm_bipush (v := 91) B dX13_ends_97 (by decide) ?_
        refine pm_aload_n B dX13_ends_99 rfl ?_
        refine pm_get B dX13_ends_100 fl_X13_63 ((pm_up_n (by omega)).trans ((pm_up_n (by omega)).trans pm_up_s)) rfl ?_
        refine pm_stk (st' := [.int (f 5), .int 91, .ref (z + (m0 + 4)), .int 0, .ref (z + (m0 + 2))]) rfl ?_
        refine pm_stk (st' := [.int (nI k), .int 91, .ref (z + (m0 + 4)), .int 0, .ref (z + (m0 + 2))]) (by rw [show (f 5) = (nI k) from by rw [hf5]]) ?_
        refine pm_imul B dX13_ends_103 ?_
        refine pm_bipush (v := 91) B dX13_ends_104 (by decide) ?_
        refine pm_acopy B dX13_ends_106 (pm_T_in 1721 (by decide +kernel) (by decide +kernel)) ((pm_up_n (by omega)).trans ((pm_up_n (by omega)).trans ((pm_up_n (by omega)).trans hgb))) pm_up_s 0 (91 * k) 91 rfl (by rw [show (91 : Int32) = nI 91 from rfl, pk_mul]) rfl (by first | decide | omega) (by first | decide | omega) (by first | decide | omega) (by first | decide | omega) rfl rfl ?_
        refine pm_mem (M' := pm_up (pm_up (pm_up M m0 (pm_mo z m0 (upd (upd (upd f 9 (f 7)) 10 (f 8)) 11 y))) (m0 + 1) (.inl (kA 0, 91, .inl g))) (m0 + 4) (.inl (kA 0, 728, .inl (va_cpy gb gp 0 (91 * k) 91)))) pm_up_up ?_
        refine pm_aload_n B dX13_ends_109 rfl ?_
        refine pm_dup B dX13_ends_110 rfl ?_
        refine pm_get B dX13_ends_111 fl_X13_63 ((pm_up_n (by omega)).trans ((pm_up_n (by omega)).trans pm_up_s)) rfl ?_
        refine pm_stk (st' := [.int (f 5), .ref (z + m0)]) rfl ?_
        refine pm_stk (st' := [.int (nI k), .ref (z + m0)]) (by rw [show (f 5) = (nI k) from by rw [hf5]]) ?_
        refine pm_iconst (v := 1) B dX13_ends_114 (by decide) ?_
        refine pm_iadd B dX13_ends_115 ?_
        refine pm_put B dX13_ends_116 fs_X13_63 ((pm_up_n (by omega)).trans ((pm_up_n (by omega)).trans pm_up_s)) rfl rfl rfl ?_
        refine pm_mem (M' := pm_up (pm_up (pm_up (pm_up M m0 (pm_mo z m0 (upd (upd (upd f 9 (f 7)) 10 (f 8)) 11 y))) (m0 + 1) (.inl (kA 0, 91, .inl g))) (m0 + 4) (.inl (kA 0, 728, .inl (va_cpy gb gp 0 (91 * k) 91)))) m0 (pm_mo z m0 (upd (upd (upd (upd f 9 (f 7)) 10 (f 8)) 11 y) 5 ((nI k) + 1)))) rfl ?_
        refine pm_mem (M' := pm_up (pm_up (pm_up M m0 (pm_mo z m0 (upd (upd (upd (upd f 9 (f 7)) 10 (f 8)) 11 y) 5 ((nI k) + 1)))) (m0 + 1) (.inl (kA 0, 91, .inl g))) (m0 + 4) (.inl (kA 0, 728, .inl (va_cpy gb gp 0 (91 * k) 91)))) (by rw [pm_up_sw (a := m0 + 4) (b := m0) (by omega), pm_up_sw (a := m0 + 1) (b := m0) (by omega), pm_up_up]) ?_
        refine pm_iload_n B dX13_ends_119 rfl ?_
        have hDq9 : (d_X13_ends x y k f g gb gp) = (x, (upd (upd (upd (upd f 9 (f 7)) 10 (f 8)) 11 y) 5 ((nI k) + 1)), g, (va_cpy gb gp 0 (91 * k) 91)) := by rw [d_X13_ends, if_neg hq1, if_pos hq7, if_neg hq8]
        exact pm_ireturn B dX13_ends_120 rfl (by first | rfl | (apply pm_nz; first | assumption | decide | exact pm_in01 _ _ _ | simp)) ⟨(by rw [hDq9]), rfl, by rw [hDq9]⟩ rfl rfl
      · have hk8 : k = 8 := (nI_eq (by omega) (by decide)).mp (hq8.trans (show (8 : Int32) = nI 8 from rfl))
        refine pm_aload_n B dX13_ends_61 rfl ?_
        refine pm_get B dX13_ends_62 fl_X13_19 ((pm_up_n (by omega)).trans ((pm_up_n (by omega)).trans pm_up_s)) rfl ?_
        refine pm_stk (st' := [.ref (z + (m0 + 4))]) rfl ?_
        refine pm_bipush (v := 91) B dX13_ends_65 (by decide) ?_
        refine pm_aload_n B dX13_ends_67 rfl ?_
        refine pm_get B dX13_ends_68 fl_X13_19 ((pm_up_n (by omega)).trans ((pm_up_n (by omega)).trans pm_up_s)) rfl ?_
        refine pm_stk (st' := [.ref (z + (m0 + 4)), .int 91, .ref (z + (m0 + 4))]) rfl ?_
        refine pm_iconst (v := 0) B dX13_ends_71 (by decide) ?_
        refine pm_sipush (v := 637) B dX13_ends_72 (by decide) ?_
        refine pm_acopy B dX13_ends_75 (pm_T_in 1721 (by decide +kernel) (by decide +kernel)) pm_up_s pm_up_s 91 0 637 rfl rfl rfl (by first | decide | omega) (by first | decide | omega) (by first | decide | omega) (by first | decide | omega) rfl rfl ?_
        refine pm_mem (M' := pm_up (pm_up (pm_up M m0 (pm_mo z m0 (upd (upd (upd f 9 (f 7)) 10 (f 8)) 11 y))) (m0 + 1) (.inl (kA 0, 91, .inl g))) (m0 + 4) (.inl (kA 0, 728, .inl (va_cpy gp gp 91 0 637)))) pm_up_up ?_
        refine pm_aload_n B dX13_ends_78 rfl ?_
        refine pm_dup B dX13_ends_79 rfl ?_
        refine pm_get B dX13_ends_80 fl_X13_63 ((pm_up_n (by omega)).trans ((pm_up_n (by omega)).trans pm_up_s)) rfl ?_
        refine pm_stk (st' := [.int (f 5), .ref (z + m0)]) rfl ?_
        refine pm_stk (st' := [.int (nI k), .ref (z + m0)]) (by rw [show (f 5) = (nI k) from by rw [hf5]]) ?_
        refine pm_iconst (v := 1) B dX13_ends_83 (by decide) ?_
        refine pm_isub B dX13_ends_84 ?_
        refine pm_stk (st' := [.int (nI (k - 1)), .ref (z + m0)]) (by rw [show ((nI k) - 1) = (nI (k - 1)) from by rw [hk8]; rfl]) ?_
        refine pm_put B dX13_ends_85 fs_X13_63 ((pm_up_n (by omega)).trans ((pm_up_n (by omega)).trans pm_up_s)) rfl rfl rfl ?_
        refine pm_mem (M' := pm_up (pm_up (pm_up (pm_up M m0 (pm_mo z m0 (upd (upd (upd f 9 (f 7)) 10 (f 8)) 11 y))) (m0 + 1) (.inl (kA 0, 91, .inl g))) (m0 + 4) (.inl (kA 0, 728, .inl (va_cpy gp gp 91 0 637)))) m0 (pm_mo z m0 (upd (upd (upd (upd f 9 (f 7)) 10 (f 8)) 11 y) 5 (nI (k - 1))))) rfl ?_
        refine pm_mem (M' := pm_up (pm_up (pm_up M m0 (pm_mo z m0 (upd (upd (upd (upd f 9 (f 7)) 10 (f 8)) 11 y) 5 (nI (k - 1))))) (m0 + 1) (.inl (kA 0, 91, .inl g))) (m0 + 4) (.inl (kA 0, 728, .inl (va_cpy gp gp 91 0 637)))) (by rw [pm_up_sw (a := m0 + 4) (b := m0) (by omega), pm_up_sw (a := m0 + 1) (b := m0) (by omega), pm_up_up]) ?_
        refine pm_aload_n B dX13_ends_88 rfl ?_
        refine pm_get B dX13_ends_89 fl_X13_13 ((pm_up_n (by omega)).trans ((pm_up_n (by omega)).trans pm_up_s)) rfl ?_
        refine pm_stk (st' := [.ref (z + (m0 + 2))]) rfl ?_
        refine pm_iconst (v := 0) B dX13_ends_92 (by decide) ?_
        refine pm_aload_n B dX13_ends_93 rfl ?_
        refine pm_get B dX13_ends_94 fl_X13_19 ((pm_up_n (by omega)).trans ((pm_up_n (by omega)).trans pm_up_s)) rfl ?_
        refine pm_stk (st' := [.ref (z + (m0 + 4)), .int 0, .ref (z + (m0 + 2))]) rfl ?_
        refine pm_bipush (v := 91) B dX13_ends_97 (by decide) ?_
        refine pm_aload_n B dX13_ends_99 rfl ?_
        refine pm_get B dX13_ends_100 fl_X13_63 ((pm_up_n (by omega)).trans ((pm_up_n (by omega)).trans pm_up_s)) rfl ?_
        refine pm_stk (st' := [.int (nI (k - 1)), .int 91, .ref (z + (m0 + 4)), .int 0, .ref (z + (m0 + 2))]) rfl ?_
        refine pm_imul B dX13_ends_103 ?_
        refine pm_bipush (v := 91) B dX13_ends_104 (by decide) ?_
        refine pm_acopy B dX13_ends_106 (pm_T_in 1721 (by decide +kernel) (by decide +kernel)) ((pm_up_n (by omega)).trans ((pm_up_n (by omega)).trans ((pm_up_n (by omega)).trans hgb))) pm_up_s 0 (91 * (k - 1)) 91 rfl (by rw [show (91 : Int32) = nI 91 from rfl, pk_mul]) rfl (by first | decide | omega) (by first | decide | omega) (by first | decide | omega) (by first | decide | omega) rfl rfl ?_
        refine pm_mem (M' := pm_up (pm_up (pm_up M m0 (pm_mo z m0 (upd (upd (upd (upd f 9 (f 7)) 10 (f 8)) 11 y) 5 (nI (k - 1))))) (m0 + 1) (.inl (kA 0, 91, .inl g))) (m0 + 4) (.inl (kA 0, 728, .inl (va_cpy gb (va_cpy gp gp 91 0 637) 0 (91 * (k - 1)) 91)))) pm_up_up ?_
        refine pm_aload_n B dX13_ends_109 rfl ?_
        refine pm_dup B dX13_ends_110 rfl ?_
        refine pm_get B dX13_ends_111 fl_X13_63 ((pm_up_n (by omega)).trans ((pm_up_n (by omega)).trans pm_up_s)) rfl ?_
        refine pm_stk (st' := [.int (nI (k - 1)), .ref (z + m0)]) rfl ?_
        refine pm_iconst (v := 1) B dX13_ends_114 (by decide) ?_
        refine pm_iadd B dX13_ends_115 ?_
        refine pm_put B dX13_ends_116 fs_X13_63 ((pm_up_n (by omega)).trans ((pm_up_n (by omega)).trans pm_up_s)) rfl rfl rfl ?_
        refine pm_mem (M' := pm_up (pm_up (pm_up (pm_up M m0 (pm_mo z m0 (upd (upd (upd (upd f 9 (f 7)) 10 (f 8)) 11 y) 5 (nI (k - 1))))) (m0 + 1) (.inl (kA 0, 91, .inl g))) (m0 + 4) (.inl (kA 0, 728, .inl (va_cpy gb (va_cpy gp gp 91 0 637) 0 (91 * (k - 1)) 91)))) m0 (pm_mo z m0 (upd (upd (upd (upd (upd f 9 (f 7)) 10 (f 8)) 11 y) 5 (nI (k - 1))) 5 ((nI (k - 1)) + 1)))) rfl ?_
        refine pm_mem (M' := pm_up (pm_up (pm_up M m0 (pm_mo z m0 (upd (upd (upd (upd (upd f 9 (f 7)) 10 (f 8)) 11 y) 5 (nI (k - 1))) 5 ((nI (k - 1)) + 1)))) (m0 + 1) (.inl (kA 0, 91, .inl g))) (m0 + 4) (.inl (kA 0, 728, .inl (va_cpy gb (va_cpy gp gp 91 0 637) 0 (91 * (k - 1)) 91)))) (by rw [pm_up_sw (a := m0 + 4) (b := m0) (by omega), pm_up_sw (a := m0 + 1) (b := m0) (by omega), pm_up_up]) ?_
        refine pm_iload_n B dX13_ends_119 rfl ?_
        have hDq10 : (d_X13_ends x y k f g gb gp) = (x, (upd (upd (upd (upd (upd f 9 (f 7)) 10 (f 8)) 11 y) 5 (nI (k - 1))) 5 ((nI (k - 1)) + 1)), g, (va_cpy gb (va_cpy gp gp 91 0 637) 0 (91 * (k - 1)) 91)) := by rw [d_X13_ends, if_neg hq1, if_pos hq7, if_pos hq8]
        exact pm_ireturn B dX13_ends_120 rfl (by first | rfl | (apply pm_nz; first | assumption | decide | exact pm_in01 _ _ _ | simp)) ⟨(by rw [hDq10]), rfl, by rw [hDq10]⟩ rfl rfl
    · refine pm_aload_n B dX13_ends_35 rfl ?_
      refine pm_get B dX13_ends_36 fl_X13_13 ((pm_up_n (by omega)).trans ((pm_up_n (by omega)).trans pm_up_s)) rfl ?_
      refine pm_stk (st' := [.ref (z + (m0 + 2))]) rfl ?_
      refine pm_iconst (v := 0) B dX13_ends_39 (by decide) ?_
      refine pm_aload_n B dX13_ends_40 rfl ?_
      refine pm_get B dX13_ends_41 fl_X13_9 ((pm_up_n (by omega)).trans ((pm_up_n (by omega)).trans pm_up_s)) rfl ?_
      refine pm_stk (st' := [.ref (z + (m0 + 1)), .int 0, .ref (z + (m0 + 2))]) rfl ?_
      refine pm_iconst (v := 0) B dX13_ends_44 (by decide) ?_
      refine pm_bipush (v := 91) B dX13_ends_45 (by decide) ?_
      refine pm_acopy B dX13_ends_47 (pm_T_in 1721 (by decide +kernel) (by decide +kernel)) ((pm_up_n (by omega)).trans ((pm_up_n (by omega)).trans ((pm_up_n (by omega)).trans hgb))) ((pm_up_n (by omega)).trans pm_up_s) 0 0 91 rfl rfl rfl (by first | decide | omega) (by first | decide | omega) (by first | decide | omega) (by first | decide | omega) rfl rfl ?_
      refine pm_mem (M' := pm_up (pm_up (pm_up (pm_up M m0 (pm_mo z m0 (upd (upd (upd f 9 (f 7)) 10 (f 8)) 11 y))) (m0 + 1) (.inl (kA 0, 91, .inl g))) (m0 + 4) (.inl (kA 0, 728, .inl gp))) (m0 + 1) (.inl (kA 0, 91, .inl (va_cpy gb g 0 0 91)))) rfl ?_
      refine pm_mem (M' := pm_up (pm_up (pm_up M m0 (pm_mo z m0 (upd (upd (upd f 9 (f 7)) 10 (f 8)) 11 y))) (m0 + 1) (.inl (kA 0, 91, .inl (va_cpy gb g 0 0 91)))) (m0 + 4) (.inl (kA 0, 728, .inl gp))) (by rw [pm_up_sw (a := m0 + 4) (b := m0 + 1) (by omega), pm_up_up]) ?_
      refine pm_iconst (v := 0) B dX13_ends_50 (by decide) ?_
      have hDq11 : (d_X13_ends x y k f g gb gp) = (0, (upd (upd (upd f 9 (f 7)) 10 (f 8)) 11 y), (va_cpy gb g 0 0 91), gp) := by rw [d_X13_ends, if_neg hq1, if_neg hq7]
      exact pm_ireturn B dX13_ends_51 rfl (by first | rfl | (apply pm_nz; first | assumption | decide | exact pm_in01 _ _ _ | simp)) ⟨(by rw [hDq11]), rfl, by rw [hDq11]⟩ rfl rfl
def d_X13_doAddMember (x : Int32) (y : Int32) (n : Nat) (f : Nat → Int32) (g : Nat → Int32) : (Int32 × (Nat → Int32) × (Nat → Int32)) := if (pm_in x 1 99) = 0 then (0, (upd f 6 1), g) else (if (pm_in y 1 20) = 0 then (0, (upd f 6 1), g) else (if (nI n) = 7 then (0, (upd (upd (upd f 7 1) 8 7) 6 2), g) else ((nI n), f, (upd (upd (upd (upd (upd (upd g (7 + 5 * n + 0) x) (7 + 5 * n + 1) y) (7 + 5 * n + 2) 0) (7 + 5 * n + 3) 0) (7 + 5 * n + 4) 0) 0 ((nI n) + 1)))))
set_option maxRecDepth 100000 in
set_option maxHeartbeats 8000000 in
theorem c_X13_doAddMember {l : Launch} {z : Nat} {D : va_G} {kA : Nat → ClassId} {kE : Nat → Nat} {nx : Nat} {M : pm_M} {x : Int32} {y : Int32} {n : Nat}{m0 : Nat} {f : Nat → Int32} {g : Nat → Int32} (hM : M m0 = some (pm_mo z m0 f)) (hg : M (m0 + 1) = some (.inl (kA 0, 91, .inl g))) (hn : g 0 = nI n) (h7 : n ≤ 7) : pm_C l z D kA kE yX13_doAddMember cX13_doAddMember 4 (some .int) 2 0 0 [.ref (z + m0), .int x, .int y] nx M (pm_rt (some (.int ((d_X13_doAddMember x y n f g).1))) nx (pm_up (pm_up M m0 (pm_mo z m0 ((d_X13_doAddMember x y n f g).2.1))) (m0 + 1) (.inl (kA 0, 91, .inl ((d_X13_doAddMember x y n f g).2.2))))) := by
  refine pm_mk (own := RX13) (nm := "doAddMember") mt_X13_doAddMember rfl rfl rfl rfl fun X B => ?_
  refine pm_loc (L' := [some (.ref (z + m0)), some (.int x), some (.int y), none]) rfl ?_
  refine pm_mem (M' := pm_up (pm_up M m0 (pm_mo z m0 f)) (m0 + 1) (.inl (kA 0, 91, .inl g))) (by rw [pm_up_id hM, pm_up_id hg]) ?_
  refine pm_aload_n B dX13_doAddMember_0 rfl ?_
  refine pm_get B dX13_doAddMember_1 fl_X13_9 ((pm_up_n (by omega)).trans pm_up_s) rfl ?_
  refine pm_iconst (v := 0) B dX13_doAddMember_4 (by decide) ?_
  refine pm_iald_n B dX13_doAddMember_5 pm_up_s 0 (by decide) (by decide) ?_
  refine pm_stk (st' := [.int (nI n)]) (by rw [show (g 0) = (nI n) from by rw [hn]]) ?_
  refine pm_istore_n B dX13_doAddMember_6 rfl rfl ?_
  refine pm_loc (L' := [some (.ref (z + m0)), some (.int x), some (.int y), some (.int (nI n))]) rfl ?_
  refine pm_iload_n B dX13_doAddMember_7 rfl ?_
  refine pm_iconst (v := 1) B dX13_doAddMember_8 (by decide) ?_
  refine pm_bipush (v := 99) B dX13_doAddMember_9 (by decide) ?_
  refine pm_cS (As := [.int x, .int 1, .int 99]) (mc2 := 0) (ms2 := 0) B c_X13_in mt_X13_in ss_X13_70 dX13_doAddMember_11 rfl rfl rfl rfl rfl ?_
  refine pm_stk (st' := [.int (pm_in x 1 99)]) rfl ?_
  refine pm_if_eq (tgt := 27) B dX13_doAddMember_14 (by decide) (fun hq1 => ?_) (fun hq1 => ?_)
  · refine pm_aload_n B dX13_doAddMember_27 rfl ?_
    refine pm_iconst (v := 1) B dX13_doAddMember_28 (by decide) ?_
    refine pm_cV (As := [.int 1]) (mc2 := 0) (ms2 := 0) B rfl ((pm_up_n (by omega)).trans pm_up_s) rfl (c_X13_fails (f := f) ((pm_up_n (by omega)).trans pm_up_s)) mt_X13_fails sv_X13_66 dX13_doAddMember_29 rfl rfl rfl rfl rfl ?_
    refine pm_mem (M' := pm_up (pm_up (pm_up M m0 (pm_mo z m0 f)) (m0 + 1) (.inl (kA 0, 91, .inl g))) m0 (pm_mo z m0 (upd f 6 1))) rfl ?_
    refine pm_mem (M' := pm_up (pm_up M m0 (pm_mo z m0 (upd f 6 1))) (m0 + 1) (.inl (kA 0, 91, .inl g))) (by rw [pm_up_sw (a := m0 + 1) (b := m0) (by omega), pm_up_up]) ?_
    refine pm_stk (st' := [.int 0]) rfl ?_
    have hDq2 : (d_X13_doAddMember x y n f g) = (0, (upd f 6 1), g) := by rw [d_X13_doAddMember, if_pos hq1]
    exact pm_ireturn B dX13_doAddMember_32 rfl (by first | rfl | (apply pm_nz; first | assumption | decide | exact pm_in01 _ _ _ | simp)) ⟨(by rw [hDq2]), rfl, by rw [hDq2]⟩ rfl rfl
  · refine pm_iload_n B dX13_doAddMember_17 rfl ?_
    refine pm_iconst (v := 1) B dX13_doAddMember_18 (by decide) ?_
    refine pm_bipush (v := 20) B dX13_doAddMember_19 (by decide) ?_
    refine pm_cS (As := [.int y, .int 1, .int 20]) (mc2 := 0) (ms2 := 0) B c_X13_in mt_X13_in ss_X13_70 dX13_doAddMember_21 rfl rfl rfl rfl rfl ?_
    refine pm_stk (st' := [.int (pm_in y 1 20)]) rfl ?_
    refine pm_if_ne (tgt := 33) B dX13_doAddMember_24 (by decide) (fun hq3 => ?_) (fun hq3 => ?_)
    · refine pm_iload_n B dX13_doAddMember_33 rfl ?_
      refine pm_bipush (v := 7) B dX13_doAddMember_34 (by decide) ?_
      refine pm_icmp_ne (tgt := 48) B dX13_doAddMember_36 (by decide) (fun hq4 => ?_) (fun hq4 => ?_)
      · have hn7 : n < 7 := by have h := hq4; rw [show (7 : Int32) = nI 7 from rfl, nI_eq (by omega) (by decide)] at h; omega
        refine pm_aload_n B dX13_doAddMember_48 rfl ?_
        refine pm_iload_n B dX13_doAddMember_49 rfl ?_
        refine pm_iconst (v := 0) B dX13_doAddMember_50 (by decide) ?_
        refine pm_iload_n B dX13_doAddMember_51 rfl ?_
        refine pm_cV (As := [.int (nI n), .int (nI 0), .int x]) (mc2 := 0) (ms2 := 0) B rfl ((pm_up_n (by omega)).trans pm_up_s) rfl (c_X13_sets (f := f) ((pm_up_n (by omega)).trans pm_up_s) pm_up_s (i := n) (w := 0) (by first | assumption | omega) (by first | assumption | omega)) mt_X13_sets sv_X13_87 dX13_doAddMember_52 rfl rfl rfl rfl rfl ?_
        refine pm_mem (M' := pm_up (pm_up M m0 (pm_mo z m0 f)) (m0 + 1) (.inl (kA 0, 91, .inl (upd g (7 + 5 * n + 0) x)))) pm_up_up ?_
        refine pm_stk (st' := []) rfl ?_
        refine pm_aload_n B dX13_doAddMember_55 rfl ?_
        refine pm_iload_n B dX13_doAddMember_56 rfl ?_
        refine pm_iconst (v := 1) B dX13_doAddMember_57 (by decide) ?_
        refine pm_iload_n B dX13_doAddMember_58 rfl ?_
        refine pm_cV (As := [.int (nI n), .int (nI 1), .int y]) (mc2 := 0) (ms2 := 0) B rfl ((pm_up_n (by omega)).trans pm_up_s) rfl (c_X13_sets (f := f) ((pm_up_n (by omega)).trans pm_up_s) pm_up_s (i := n) (w := 1) (by first | assumption | omega) (by first | assumption | omega)) mt_X13_sets sv_X13_87 dX13_doAddMember_59 rfl rfl rfl rfl rfl ?_
        refine pm_mem (M' := pm_up (pm_up M m0 (pm_mo z m0 f)) (m0 + 1) (.inl (kA 0, 91, .inl (upd (upd g (7 + 5 * n + 0) x) (7 + 5 * n + 1) y)))) pm_up_up ?_
        refine pm_stk (st' := []) rfl ?_
        refine pm_aload_n B dX13_doAddMember_62 rfl ?_
        refine pm_iload_n B dX13_doAddMember_63 rfl ?_
        refine pm_iconst (v := 2) B dX13_doAddMember_64 (by decide) ?_
        refine pm_iconst (v := 0) B dX13_doAddMember_65 (by decide) ?_
        refine pm_cV (As := [.int (nI n), .int (nI 2), .int 0]) (mc2 := 0) (ms2 := 0) B rfl ((pm_up_n (by omega)).trans pm_up_s) rfl (c_X13_sets (f := f) ((pm_up_n (by omega)).trans pm_up_s) pm_up_s (i := n) (w := 2) (by first | assumption | omega) (by first | assumption | omega)) mt_X13_sets sv_X13_87 dX13_doAddMember_66 rfl rfl rfl rfl rfl ?_
        refine pm_mem (M' := pm_up (pm_up M m0 (pm_mo z m0 f)) (m0 + 1) (.inl (kA 0, 91, .inl (upd (upd (upd g (7 + 5 * n + 0) x) (7 + 5 * n + 1) y) (7 + 5 * n + 2) 0)))) pm_up_up ?_
        refine pm_stk (st' := []) rfl ?_
        refine pm_aload_n B dX13_doAddMember_69 rfl ?_
        refine pm_iload_n B dX13_doAddMember_70 rfl ?_
        refine pm_iconst (v := 3) B dX13_doAddMember_71 (by decide) ?_
        refine pm_iconst (v := 0) B dX13_doAddMember_72 (by decide) ?_
        refine pm_cV (As := [.int (nI n), .int (nI 3), .int 0]) (mc2 := 0) (ms2 := 0) B rfl ((pm_up_n (by omega)).trans pm_up_s) rfl (c_X13_sets (f := f) ((pm_up_n (by omega)).trans pm_up_s) pm_up_s (i := n) (w := 3) (by first | assumption | omega) (by first | assumption | omega)) mt_X13_sets sv_X13_87 dX13_doAddMember_73 rfl rfl rfl rfl rfl ?_
        refine pm_mem (M' := pm_up (pm_up M m0 (pm_mo z m0 f)) (m0 + 1) (.inl (kA 0, 91, .inl (upd (upd (upd (upd g (7 + 5 * n + 0) x) (7 + 5 * n + 1) y) (7 + 5 * n + 2) 0) (7 + 5 * n + 3) 0)))) pm_up_up ?_
        refine pm_stk (st' := []) rfl ?_
        refine pm_aload_n B dX13_doAddMember_76 rfl ?_
        refine pm_iload_n B dX13_doAddMember_77 rfl ?_
        refine pm_iconst (v := 4) B dX13_doAddMember_78 (by decide) ?_
        refine pm_iconst (v := 0) B dX13_doAddMember_79 (by decide) ?_
        refine pm_cV (As := [.int (nI n), .int (nI 4), .int 0]) (mc2 := 0) (ms2 := 0) B rfl ((pm_up_n (by omega)).trans pm_up_s) rfl (c_X13_sets (f := f) ((pm_up_n (by omega)).trans pm_up_s) pm_up_s (i := n) (w := 4) (by first | assumption | omega) (by first | assumption | omega)) mt_X13_sets sv_X13_87 dX13_doAddMember_80 rfl rfl rfl rfl rfl ?_
        refine pm_mem (M' := pm_up (pm_up M m0 (pm_mo z m0 f)) (m0 + 1) (.inl (kA 0, 91, .inl (upd (upd (upd (upd (upd g (7 + 5 * n + 0) x) (7 + 5 * n + 1) y) (7 + 5 * n + 2) 0) (7 + 5 * n + 3) 0) (7 + 5 * n + 4) 0)))) pm_up_up ?_
        refine pm_stk (st' := []) rfl ?_
        refine pm_aload_n B dX13_doAddMember_83 rfl ?_
        refine pm_get B dX13_doAddMember_84 fl_X13_9 ((pm_up_n (by omega)).trans pm_up_s) rfl ?_
        refine pm_iconst (v := 0) B dX13_doAddMember_87 (by decide) ?_
        refine pm_dup2 B dX13_doAddMember_88 rfl rfl ?_
        refine pm_iald_n B dX13_doAddMember_89 pm_up_s 0 (by decide) (by decide) ?_
        refine pm_stk (st' := [.int (nI n), .int 0, .ref (z + (m0 + 1))]) (by rw [show ((upd (upd (upd (upd (upd g (7 + 5 * n + 0) x) (7 + 5 * n + 1) y) (7 + 5 * n + 2) 0) (7 + 5 * n + 3) 0) (7 + 5 * n + 4) 0) 0) = (nI n) from by rw [pk_un (show 0 ≠ 7 + 5 * n + 4 from (by omega)), pk_un (show 0 ≠ 7 + 5 * n + 3 from (by omega)), pk_un (show 0 ≠ 7 + 5 * n + 2 from (by omega)), pk_un (show 0 ≠ 7 + 5 * n + 1 from (by omega)), pk_un (show 0 ≠ 7 + 5 * n + 0 from (by omega)), hn]]) ?_
        refine pm_iconst (v := 1) B dX13_doAddMember_90 (by decide) ?_
        refine pm_iadd B dX13_doAddMember_91 ?_
        refine pm_iast_n B dX13_doAddMember_92 pm_up_s 0 (by decide) (by decide) ?_
        refine pm_mem (M' := pm_up (pm_up M m0 (pm_mo z m0 f)) (m0 + 1) (.inl (kA 0, 91, .inl (upd (upd (upd (upd (upd (upd g (7 + 5 * n + 0) x) (7 + 5 * n + 1) y) (7 + 5 * n + 2) 0) (7 + 5 * n + 3) 0) (7 + 5 * n + 4) 0) 0 ((nI n) + 1))))) pm_up_up ?_
        refine pm_iload_n B dX13_doAddMember_93 rfl ?_
        have hDq5 : (d_X13_doAddMember x y n f g) = ((nI n), f, (upd (upd (upd (upd (upd (upd g (7 + 5 * n + 0) x) (7 + 5 * n + 1) y) (7 + 5 * n + 2) 0) (7 + 5 * n + 3) 0) (7 + 5 * n + 4) 0) 0 ((nI n) + 1))) := by rw [d_X13_doAddMember, if_neg hq1, if_neg hq3, if_neg hq4]
        exact pm_ireturn B dX13_doAddMember_94 rfl (by first | rfl | (apply pm_nz; first | assumption | decide | exact pm_in01 _ _ _ | simp)) ⟨(by rw [hDq5]), rfl, by rw [hDq5]⟩ rfl rfl
      · refine pm_aload_n B dX13_doAddMember_39 rfl ?_
        refine pm_iconst (v := 2) B dX13_doAddMember_40 (by decide) ?_
        refine pm_iconst (v := 1) B dX13_doAddMember_41 (by decide) ?_
        refine pm_bipush (v := 7) B dX13_doAddMember_42 (by decide) ?_
        refine pm_cV (As := [.int 2, .int 1, .int 7]) (mc2 := 0) (ms2 := 0) B rfl ((pm_up_n (by omega)).trans pm_up_s) rfl (c_X13_denies (f := f) ((pm_up_n (by omega)).trans pm_up_s)) mt_X13_denies sv_X13_83 dX13_doAddMember_44 rfl rfl rfl rfl rfl ?_
        refine pm_mem (M' := pm_up (pm_up (pm_up M m0 (pm_mo z m0 f)) (m0 + 1) (.inl (kA 0, 91, .inl g))) m0 (pm_mo z m0 (upd (upd (upd f 7 1) 8 7) 6 2))) rfl ?_
        refine pm_mem (M' := pm_up (pm_up M m0 (pm_mo z m0 (upd (upd (upd f 7 1) 8 7) 6 2))) (m0 + 1) (.inl (kA 0, 91, .inl g))) (by rw [pm_up_sw (a := m0 + 1) (b := m0) (by omega), pm_up_up]) ?_
        refine pm_stk (st' := [.int 0]) rfl ?_
        have hDq6 : (d_X13_doAddMember x y n f g) = (0, (upd (upd (upd f 7 1) 8 7) 6 2), g) := by rw [d_X13_doAddMember, if_neg hq1, if_neg hq3, if_pos hq4]
        exact pm_ireturn B dX13_doAddMember_47 rfl (by first | rfl | (apply pm_nz; first | assumption | decide | exact pm_in01 _ _ _ | simp)) ⟨(by rw [hDq6]), rfl, by rw [hDq6]⟩ rfl rfl
    · refine pm_aload_n B dX13_doAddMember_27 rfl ?_
      refine pm_iconst (v := 1) B dX13_doAddMember_28 (by decide) ?_
      refine pm_cV (As := [.int 1]) (mc2 := 0) (ms2 := 0) B rfl ((pm_up_n (by omega)).trans pm_up_s) rfl (c_X13_fails (f := f) ((pm_up_n (by omega)).trans pm_up_s)) mt_X13_fails sv_X13_66 dX13_doAddMember_29 rfl rfl rfl rfl rfl ?_
      refine pm_mem (M' := pm_up (pm_up (pm_up M m0 (pm_mo z m0 f)) (m0 + 1) (.inl (kA 0, 91, .inl g))) m0 (pm_mo z m0 (upd f 6 1))) rfl ?_
      refine pm_mem (M' := pm_up (pm_up M m0 (pm_mo z m0 (upd f 6 1))) (m0 + 1) (.inl (kA 0, 91, .inl g))) (by rw [pm_up_sw (a := m0 + 1) (b := m0) (by omega), pm_up_up]) ?_
      refine pm_stk (st' := [.int 0]) rfl ?_
      have hDq7 : (d_X13_doAddMember x y n f g) = (0, (upd f 6 1), g) := by rw [d_X13_doAddMember, if_neg hq1, if_pos hq3]
      exact pm_ireturn B dX13_doAddMember_32 rfl (by first | rfl | (apply pm_nz; first | assumption | decide | exact pm_in01 _ _ _ | simp)) ⟨(by rw [hDq7]), rfl, by rw [hDq7]⟩ rfl rfl
theorem d_X13_doAddMember_k_f5 (x : Int32) (y : Int32) (n : Nat) (f : Nat → Int32) (g : Nat → Int32) : ((d_X13_doAddMember x y n f g).2.1) 5 = f 5 := by
  unfold d_X13_doAddMember
  (repeat' split) <;> rfl
def d_X13_addMember (x : Int32) (y : Int32) (n : Nat) (k : Nat) (f : Nat → Int32) (g : Nat → Int32) (gb : Nat → Int32) (gp : Nat → Int32) : (Int32 × (Nat → Int32) × (Nat → Int32) × (Nat → Int32) × (Nat → Int32)) := (((d_X13_ends ((d_X13_doAddMember x y n ((d_X13_keep f g gb).1) g).1) 0 k ((d_X13_doAddMember x y n ((d_X13_keep f g gb).1) g).2.1) ((d_X13_doAddMember x y n ((d_X13_keep f g gb).1) g).2.2) ((d_X13_keep f g gb).2) gp).1), ((d_X13_ends ((d_X13_doAddMember x y n ((d_X13_keep f g gb).1) g).1) 0 k ((d_X13_doAddMember x y n ((d_X13_keep f g gb).1) g).2.1) ((d_X13_doAddMember x y n ((d_X13_keep f g gb).1) g).2.2) ((d_X13_keep f g gb).2) gp).2.1), ((d_X13_ends ((d_X13_doAddMember x y n ((d_X13_keep f g gb).1) g).1) 0 k ((d_X13_doAddMember x y n ((d_X13_keep f g gb).1) g).2.1) ((d_X13_doAddMember x y n ((d_X13_keep f g gb).1) g).2.2) ((d_X13_keep f g gb).2) gp).2.2.1), ((d_X13_keep f g gb).2), ((d_X13_ends ((d_X13_doAddMember x y n ((d_X13_keep f g gb).1) g).1) 0 k ((d_X13_doAddMember x y n ((d_X13_keep f g gb).1) g).2.1) ((d_X13_doAddMember x y n ((d_X13_keep f g gb).1) g).2.2) ((d_X13_keep f g gb).2) gp).2.2.2))
set_option maxRecDepth 100000 in
set_option maxHeartbeats 8000000 in
theorem c_X13_addMember {l : Launch} {z : Nat} {D : va_G} {kA : Nat → ClassId} {kE : Nat → Nat} {nx : Nat} {M : pm_M} {x : Int32} {y : Int32} {n : Nat} {k : Nat}{m0 : Nat} {f : Nat → Int32} {g : Nat → Int32} {gb : Nat → Int32} {gp : Nat → Int32} (hM : M m0 = some (pm_mo z m0 f)) (hg : M (m0 + 1) = some (.inl (kA 0, 91, .inl g))) (hgb : M (m0 + 2) = some (.inl (kA 0, 91, .inl gb))) (hgp : M (m0 + 4) = some (.inl (kA 0, 728, .inl gp))) (hn : g 0 = nI n) (h7 : n ≤ 7) (hf5 : f 5 = nI k) (h8 : k ≤ 8) : pm_C l z D kA kE yX13_addMember cX13_addMember 3 (some .int) 3 0 0 [.ref (z + m0), .int x, .int y] nx M (pm_rt (some (.int ((d_X13_addMember x y n k f g gb gp).1))) nx (pm_up (pm_up (pm_up (pm_up M m0 (pm_mo z m0 ((d_X13_addMember x y n k f g gb gp).2.1))) (m0 + 1) (.inl (kA 0, 91, .inl ((d_X13_addMember x y n k f g gb gp).2.2.1)))) (m0 + 2) (.inl (kA 0, 91, .inl ((d_X13_addMember x y n k f g gb gp).2.2.2.1)))) (m0 + 4) (.inl (kA 0, 728, .inl ((d_X13_addMember x y n k f g gb gp).2.2.2.2))))) := by
  refine pm_mk (own := RX13) (nm := "addMember") mt_X13_addMember rfl rfl rfl rfl fun X B => ?_
  refine pm_loc (L' := [some (.ref (z + m0)), some (.int x), some (.int y)]) rfl ?_
  refine pm_mem (M' := pm_up (pm_up (pm_up (pm_up M m0 (pm_mo z m0 f)) (m0 + 1) (.inl (kA 0, 91, .inl g))) (m0 + 2) (.inl (kA 0, 91, .inl gb))) (m0 + 4) (.inl (kA 0, 728, .inl gp))) (by rw [pm_up_id hM, pm_up_id hg, pm_up_id hgb, pm_up_id hgp]) ?_
  refine pm_aload_n B dX13_addMember_0 rfl ?_
  refine pm_cV (As := []) (mc2 := 0) (ms2 := 0) B rfl ((pm_up_n (by omega)).trans ((pm_up_n (by omega)).trans ((pm_up_n (by omega)).trans pm_up_s))) rfl (c_X13_keep (f := f) (g := g) (gb := gb) ((pm_up_n (by omega)).trans ((pm_up_n (by omega)).trans ((pm_up_n (by omega)).trans pm_up_s))) ((pm_up_n (by omega)).trans ((pm_up_n (by omega)).trans pm_up_s)) ((pm_up_n (by omega)).trans pm_up_s) ) mt_X13_keep sv_X13_91 dX13_addMember_1 rfl rfl rfl rfl rfl ?_
  refine pm_mem (M' := pm_up (pm_up (pm_up (pm_up (pm_up (pm_up M m0 (pm_mo z m0 f)) (m0 + 1) (.inl (kA 0, 91, .inl g))) (m0 + 2) (.inl (kA 0, 91, .inl gb))) (m0 + 4) (.inl (kA 0, 728, .inl gp))) m0 (pm_mo z m0 ((d_X13_keep f g gb).1))) (m0 + 2) (.inl (kA 0, 91, .inl ((d_X13_keep f g gb).2)))) rfl ?_
  refine pm_mem (M' := pm_up (pm_up (pm_up (pm_up (pm_up M m0 (pm_mo z m0 ((d_X13_keep f g gb).1))) (m0 + 1) (.inl (kA 0, 91, .inl g))) (m0 + 2) (.inl (kA 0, 91, .inl gb))) (m0 + 4) (.inl (kA 0, 728, .inl gp))) (m0 + 2) (.inl (kA 0, 91, .inl ((d_X13_keep f g gb).2)))) (by rw [pm_up_sw (a := m0 + 4) (b := m0) (by omega), pm_up_sw (a := m0 + 2) (b := m0) (by omega), pm_up_sw (a := m0 + 1) (b := m0) (by omega), pm_up_up (a := m0)]) ?_
  refine pm_mem (M' := pm_up (pm_up (pm_up (pm_up M m0 (pm_mo z m0 ((d_X13_keep f g gb).1))) (m0 + 1) (.inl (kA 0, 91, .inl g))) (m0 + 2) (.inl (kA 0, 91, .inl ((d_X13_keep f g gb).2)))) (m0 + 4) (.inl (kA 0, 728, .inl gp))) (by rw [pm_up_sw (a := m0 + 4) (b := m0 + 2) (by omega), pm_up_up (a := m0 + 2)]) ?_
  refine pm_stk (st' := []) rfl ?_
  refine pm_aload_n B dX13_addMember_4 rfl ?_
  refine pm_aload_n B dX13_addMember_5 rfl ?_
  refine pm_iload_n B dX13_addMember_6 rfl ?_
  refine pm_iload_n B dX13_addMember_7 rfl ?_
  refine pm_cV (As := [.int x, .int y]) (mc2 := 0) (ms2 := 0) B rfl ((pm_up_n (by omega)).trans ((pm_up_n (by omega)).trans ((pm_up_n (by omega)).trans pm_up_s))) rfl (c_X13_doAddMember (x := x) (y := y) (n := n) (f := ((d_X13_keep f g gb).1)) (g := g) ((pm_up_n (by omega)).trans ((pm_up_n (by omega)).trans ((pm_up_n (by omega)).trans pm_up_s))) ((pm_up_n (by omega)).trans ((pm_up_n (by omega)).trans pm_up_s)) hn (by first | assumption | omega)) mt_X13_doAddMember sv_X13_94 dX13_addMember_8 rfl rfl rfl rfl rfl ?_
  refine pm_mem (M' := pm_up (pm_up (pm_up (pm_up (pm_up (pm_up M m0 (pm_mo z m0 ((d_X13_keep f g gb).1))) (m0 + 1) (.inl (kA 0, 91, .inl g))) (m0 + 2) (.inl (kA 0, 91, .inl ((d_X13_keep f g gb).2)))) (m0 + 4) (.inl (kA 0, 728, .inl gp))) m0 (pm_mo z m0 ((d_X13_doAddMember x y n ((d_X13_keep f g gb).1) g).2.1))) (m0 + 1) (.inl (kA 0, 91, .inl ((d_X13_doAddMember x y n ((d_X13_keep f g gb).1) g).2.2)))) rfl ?_
  refine pm_mem (M' := pm_up (pm_up (pm_up (pm_up (pm_up M m0 (pm_mo z m0 ((d_X13_doAddMember x y n ((d_X13_keep f g gb).1) g).2.1))) (m0 + 1) (.inl (kA 0, 91, .inl g))) (m0 + 2) (.inl (kA 0, 91, .inl ((d_X13_keep f g gb).2)))) (m0 + 4) (.inl (kA 0, 728, .inl gp))) (m0 + 1) (.inl (kA 0, 91, .inl ((d_X13_doAddMember x y n ((d_X13_keep f g gb).1) g).2.2)))) (by rw [pm_up_sw (a := m0 + 4) (b := m0) (by omega), pm_up_sw (a := m0 + 2) (b := m0) (by omega), pm_up_sw (a := m0 + 1) (b := m0) (by omega), pm_up_up (a := m0)]) ?_
  refine pm_mem (M' := pm_up (pm_up (pm_up (pm_up M m0 (pm_mo z m0 ((d_X13_doAddMember x y n ((d_X13_keep f g gb).1) g).2.1))) (m0 + 1) (.inl (kA 0, 91, .inl ((d_X13_doAddMember x y n ((d_X13_keep f g gb).1) g).2.2)))) (m0 + 2) (.inl (kA 0, 91, .inl ((d_X13_keep f g gb).2)))) (m0 + 4) (.inl (kA 0, 728, .inl gp))) (by rw [pm_up_sw (a := m0 + 4) (b := m0 + 1) (by omega), pm_up_sw (a := m0 + 2) (b := m0 + 1) (by omega), pm_up_up (a := m0 + 1)]) ?_
  refine pm_stk (st' := [.int ((d_X13_doAddMember x y n ((d_X13_keep f g gb).1) g).1), .ref (z + m0)]) rfl ?_
  refine pm_iconst (v := 0) B dX13_addMember_11 (by decide) ?_
  refine pm_cV (As := [.int ((d_X13_doAddMember x y n ((d_X13_keep f g gb).1) g).1), .int 0]) (mc2 := 0) (ms2 := 0) B rfl ((pm_up_n (by omega)).trans ((pm_up_n (by omega)).trans ((pm_up_n (by omega)).trans pm_up_s))) rfl (c_X13_ends (x := ((d_X13_doAddMember x y n ((d_X13_keep f g gb).1) g).1)) (y := 0) (k := k) (f := ((d_X13_doAddMember x y n ((d_X13_keep f g gb).1) g).2.1)) (g := ((d_X13_doAddMember x y n ((d_X13_keep f g gb).1) g).2.2)) (gb := ((d_X13_keep f g gb).2)) (gp := gp) ((pm_up_n (by omega)).trans ((pm_up_n (by omega)).trans ((pm_up_n (by omega)).trans pm_up_s))) ((pm_up_n (by omega)).trans ((pm_up_n (by omega)).trans pm_up_s)) ((pm_up_n (by omega)).trans pm_up_s) pm_up_s (show ((d_X13_doAddMember x y n ((d_X13_keep f g gb).1) g).2.1) 5 = (nI k) from by rw [((d_X13_doAddMember_k_f5 x y n ((d_X13_keep f g gb).1) g).trans ((d_X13_keep_k_f5  f g gb).trans hf5))]) (by first | assumption | omega)) mt_X13_ends sv_X13_97 dX13_addMember_12 rfl rfl rfl rfl rfl ?_
  refine pm_mem (M' := pm_up (pm_up (pm_up (pm_up (pm_up (pm_up (pm_up M m0 (pm_mo z m0 ((d_X13_doAddMember x y n ((d_X13_keep f g gb).1) g).2.1))) (m0 + 1) (.inl (kA 0, 91, .inl ((d_X13_doAddMember x y n ((d_X13_keep f g gb).1) g).2.2)))) (m0 + 2) (.inl (kA 0, 91, .inl ((d_X13_keep f g gb).2)))) (m0 + 4) (.inl (kA 0, 728, .inl gp))) m0 (pm_mo z m0 ((d_X13_ends ((d_X13_doAddMember x y n ((d_X13_keep f g gb).1) g).1) 0 k ((d_X13_doAddMember x y n ((d_X13_keep f g gb).1) g).2.1) ((d_X13_doAddMember x y n ((d_X13_keep f g gb).1) g).2.2) ((d_X13_keep f g gb).2) gp).2.1))) (m0 + 1) (.inl (kA 0, 91, .inl ((d_X13_ends ((d_X13_doAddMember x y n ((d_X13_keep f g gb).1) g).1) 0 k ((d_X13_doAddMember x y n ((d_X13_keep f g gb).1) g).2.1) ((d_X13_doAddMember x y n ((d_X13_keep f g gb).1) g).2.2) ((d_X13_keep f g gb).2) gp).2.2.1)))) (m0 + 4) (.inl (kA 0, 728, .inl ((d_X13_ends ((d_X13_doAddMember x y n ((d_X13_keep f g gb).1) g).1) 0 k ((d_X13_doAddMember x y n ((d_X13_keep f g gb).1) g).2.1) ((d_X13_doAddMember x y n ((d_X13_keep f g gb).1) g).2.2) ((d_X13_keep f g gb).2) gp).2.2.2)))) rfl ?_
  refine pm_mem (M' := pm_up (pm_up (pm_up (pm_up (pm_up (pm_up M m0 (pm_mo z m0 ((d_X13_ends ((d_X13_doAddMember x y n ((d_X13_keep f g gb).1) g).1) 0 k ((d_X13_doAddMember x y n ((d_X13_keep f g gb).1) g).2.1) ((d_X13_doAddMember x y n ((d_X13_keep f g gb).1) g).2.2) ((d_X13_keep f g gb).2) gp).2.1))) (m0 + 1) (.inl (kA 0, 91, .inl ((d_X13_doAddMember x y n ((d_X13_keep f g gb).1) g).2.2)))) (m0 + 2) (.inl (kA 0, 91, .inl ((d_X13_keep f g gb).2)))) (m0 + 4) (.inl (kA 0, 728, .inl gp))) (m0 + 1) (.inl (kA 0, 91, .inl ((d_X13_ends ((d_X13_doAddMember x y n ((d_X13_keep f g gb).1) g).1) 0 k ((d_X13_doAddMember x y n ((d_X13_keep f g gb).1) g).2.1) ((d_X13_doAddMember x y n ((d_X13_keep f g gb).1) g).2.2) ((d_X13_keep f g gb).2) gp).2.2.1)))) (m0 + 4) (.inl (kA 0, 728, .inl ((d_X13_ends ((d_X13_doAddMember x y n ((d_X13_keep f g gb).1) g).1) 0 k ((d_X13_doAddMember x y n ((d_X13_keep f g gb).1) g).2.1) ((d_X13_doAddMember x y n ((d_X13_keep f g gb).1) g).2.2) ((d_X13_keep f g gb).2) gp).2.2.2)))) (by rw [pm_up_sw (a := m0 + 4) (b := m0) (by omega), pm_up_sw (a := m0 + 2) (b := m0) (by omega), pm_up_sw (a := m0 + 1) (b := m0) (by omega), pm_up_up (a := m0)]) ?_
  refine pm_mem (M' := pm_up (pm_up (pm_up (pm_up (pm_up M m0 (pm_mo z m0 ((d_X13_ends ((d_X13_doAddMember x y n ((d_X13_keep f g gb).1) g).1) 0 k ((d_X13_doAddMember x y n ((d_X13_keep f g gb).1) g).2.1) ((d_X13_doAddMember x y n ((d_X13_keep f g gb).1) g).2.2) ((d_X13_keep f g gb).2) gp).2.1))) (m0 + 1) (.inl (kA 0, 91, .inl ((d_X13_ends ((d_X13_doAddMember x y n ((d_X13_keep f g gb).1) g).1) 0 k ((d_X13_doAddMember x y n ((d_X13_keep f g gb).1) g).2.1) ((d_X13_doAddMember x y n ((d_X13_keep f g gb).1) g).2.2) ((d_X13_keep f g gb).2) gp).2.2.1)))) (m0 + 2) (.inl (kA 0, 91, .inl ((d_X13_keep f g gb).2)))) (m0 + 4) (.inl (kA 0, 728, .inl gp))) (m0 + 4) (.inl (kA 0, 728, .inl ((d_X13_ends ((d_X13_doAddMember x y n ((d_X13_keep f g gb).1) g).1) 0 k ((d_X13_doAddMember x y n ((d_X13_keep f g gb).1) g).2.1) ((d_X13_doAddMember x y n ((d_X13_keep f g gb).1) g).2.2) ((d_X13_keep f g gb).2) gp).2.2.2)))) (by rw [pm_up_sw (a := m0 + 4) (b := m0 + 1) (by omega), pm_up_sw (a := m0 + 2) (b := m0 + 1) (by omega), pm_up_up (a := m0 + 1)]) ?_
  refine pm_mem (M' := pm_up (pm_up (pm_up (pm_up M m0 (pm_mo z m0 ((d_X13_ends ((d_X13_doAddMember x y n ((d_X13_keep f g gb).1) g).1) 0 k ((d_X13_doAddMember x y n ((d_X13_keep f g gb).1) g).2.1) ((d_X13_doAddMember x y n ((d_X13_keep f g gb).1) g).2.2) ((d_X13_keep f g gb).2) gp).2.1))) (m0 + 1) (.inl (kA 0, 91, .inl ((d_X13_ends ((d_X13_doAddMember x y n ((d_X13_keep f g gb).1) g).1) 0 k ((d_X13_doAddMember x y n ((d_X13_keep f g gb).1) g).2.1) ((d_X13_doAddMember x y n ((d_X13_keep f g gb).1) g).2.2) ((d_X13_keep f g gb).2) gp).2.2.1)))) (m0 + 2) (.inl (kA 0, 91, .inl ((d_X13_keep f g gb).2)))) (m0 + 4) (.inl (kA 0, 728, .inl ((d_X13_ends ((d_X13_doAddMember x y n ((d_X13_keep f g gb).1) g).1) 0 k ((d_X13_doAddMember x y n ((d_X13_keep f g gb).1) g).2.1) ((d_X13_doAddMember x y n ((d_X13_keep f g gb).1) g).2.2) ((d_X13_keep f g gb).2) gp).2.2.2)))) (by rw [pm_up_up (a := m0 + 4)]) ?_
  refine pm_stk (st' := [.int ((d_X13_ends ((d_X13_doAddMember x y n ((d_X13_keep f g gb).1) g).1) 0 k ((d_X13_doAddMember x y n ((d_X13_keep f g gb).1) g).2.1) ((d_X13_doAddMember x y n ((d_X13_keep f g gb).1) g).2.2) ((d_X13_keep f g gb).2) gp).1)]) rfl ?_
  have hDq1 : (d_X13_addMember x y n k f g gb gp) = (((d_X13_ends ((d_X13_doAddMember x y n ((d_X13_keep f g gb).1) g).1) 0 k ((d_X13_doAddMember x y n ((d_X13_keep f g gb).1) g).2.1) ((d_X13_doAddMember x y n ((d_X13_keep f g gb).1) g).2.2) ((d_X13_keep f g gb).2) gp).1), ((d_X13_ends ((d_X13_doAddMember x y n ((d_X13_keep f g gb).1) g).1) 0 k ((d_X13_doAddMember x y n ((d_X13_keep f g gb).1) g).2.1) ((d_X13_doAddMember x y n ((d_X13_keep f g gb).1) g).2.2) ((d_X13_keep f g gb).2) gp).2.1), ((d_X13_ends ((d_X13_doAddMember x y n ((d_X13_keep f g gb).1) g).1) 0 k ((d_X13_doAddMember x y n ((d_X13_keep f g gb).1) g).2.1) ((d_X13_doAddMember x y n ((d_X13_keep f g gb).1) g).2.2) ((d_X13_keep f g gb).2) gp).2.2.1), ((d_X13_keep f g gb).2), ((d_X13_ends ((d_X13_doAddMember x y n ((d_X13_keep f g gb).1) g).1) 0 k ((d_X13_doAddMember x y n ((d_X13_keep f g gb).1) g).2.1) ((d_X13_doAddMember x y n ((d_X13_keep f g gb).1) g).2.2) ((d_X13_keep f g gb).2) gp).2.2.2)) := by rw [d_X13_addMember]
  exact pm_ireturn B dX13_addMember_15 rfl (by first | rfl | (apply pm_nz; first | assumption | decide | exact pm_in01 _ _ _ | simp)) ⟨(by rw [hDq1]), rfl, by rw [hDq1]⟩ rfl rfl
def d_X13_doSetRule (x : Int32) (f : Nat → Int32) (g : Nat → Int32) : (Int32 × (Nat → Int32) × (Nat → Int32)) := if (pm_in x 0 1) = 0 then (0, (upd f 6 1), g) else (if x = (g 1) then (0, (upd (upd (upd f 7 7) 8 x) 6 2), g) else ((1 - x), f, (upd g 1 x)))
set_option maxRecDepth 100000 in
set_option maxHeartbeats 8000000 in
theorem c_X13_doSetRule {l : Launch} {z : Nat} {D : va_G} {kA : Nat → ClassId} {kE : Nat → Nat} {nx : Nat} {M : pm_M} {x : Int32}{m0 : Nat} {f : Nat → Int32} {g : Nat → Int32} (hM : M m0 = some (pm_mo z m0 f)) (hg : M (m0 + 1) = some (.inl (kA 0, 91, .inl g))) : pm_C l z D kA kE yX13_doSetRule cX13_doSetRule 2 (some .int) 2 0 0 [.ref (z + m0), .int x] nx M (pm_rt (some (.int ((d_X13_doSetRule x f g).1))) nx (pm_up (pm_up M m0 (pm_mo z m0 ((d_X13_doSetRule x f g).2.1))) (m0 + 1) (.inl (kA 0, 91, .inl ((d_X13_doSetRule x f g).2.2))))) := by
  refine pm_mk (own := RX13) (nm := "doSetRule") mt_X13_doSetRule rfl rfl rfl rfl fun X B => ?_
  refine pm_loc (L' := [some (.ref (z + m0)), some (.int x)]) rfl ?_
  refine pm_mem (M' := pm_up (pm_up M m0 (pm_mo z m0 f)) (m0 + 1) (.inl (kA 0, 91, .inl g))) (by rw [pm_up_id hM, pm_up_id hg]) ?_
  refine pm_iload_n B dX13_doSetRule_0 rfl ?_
  refine pm_iconst (v := 0) B dX13_doSetRule_1 (by decide) ?_
  refine pm_iconst (v := 1) B dX13_doSetRule_2 (by decide) ?_
  refine pm_cS (As := [.int x, .int 0, .int 1]) (mc2 := 0) (ms2 := 0) B c_X13_in mt_X13_in ss_X13_70 dX13_doSetRule_3 rfl rfl rfl rfl rfl ?_
  refine pm_stk (st' := [.int (pm_in x 0 1)]) rfl ?_
  refine pm_if_ne (tgt := 15) B dX13_doSetRule_6 (by decide) (fun hq1 => ?_) (fun hq1 => ?_)
  · refine pm_iload_n B dX13_doSetRule_15 rfl ?_
    refine pm_aload_n B dX13_doSetRule_16 rfl ?_
    refine pm_get B dX13_doSetRule_17 fl_X13_9 ((pm_up_n (by omega)).trans pm_up_s) rfl ?_
    refine pm_iconst (v := 1) B dX13_doSetRule_20 (by decide) ?_
    refine pm_iald_n B dX13_doSetRule_21 pm_up_s 1 (by decide) (by decide) ?_
    refine pm_icmp_ne (tgt := 34) B dX13_doSetRule_22 (by decide) (fun hq2 => ?_) (fun hq2 => ?_)
    · refine pm_aload_n B dX13_doSetRule_34 rfl ?_
      refine pm_get B dX13_doSetRule_35 fl_X13_9 ((pm_up_n (by omega)).trans pm_up_s) rfl ?_
      refine pm_iconst (v := 1) B dX13_doSetRule_38 (by decide) ?_
      refine pm_iload_n B dX13_doSetRule_39 rfl ?_
      refine pm_iast_n B dX13_doSetRule_40 pm_up_s 1 (by decide) (by decide) ?_
      refine pm_mem (M' := pm_up (pm_up M m0 (pm_mo z m0 f)) (m0 + 1) (.inl (kA 0, 91, .inl (upd g 1 x)))) pm_up_up ?_
      refine pm_iconst (v := 1) B dX13_doSetRule_41 (by decide) ?_
      refine pm_iload_n B dX13_doSetRule_42 rfl ?_
      refine pm_isub B dX13_doSetRule_43 ?_
      have hDq3 : (d_X13_doSetRule x f g) = ((1 - x), f, (upd g 1 x)) := by rw [d_X13_doSetRule, if_neg hq1, if_neg hq2]
      exact pm_ireturn B dX13_doSetRule_44 rfl (by first | rfl | (apply pm_nz; first | assumption | decide | exact pm_in01 _ _ _ | simp)) ⟨(by rw [hDq3]), rfl, by rw [hDq3]⟩ rfl rfl
    · refine pm_aload_n B dX13_doSetRule_25 rfl ?_
      refine pm_iconst (v := 2) B dX13_doSetRule_26 (by decide) ?_
      refine pm_bipush (v := 7) B dX13_doSetRule_27 (by decide) ?_
      refine pm_iload_n B dX13_doSetRule_29 rfl ?_
      refine pm_cV (As := [.int 2, .int 7, .int x]) (mc2 := 0) (ms2 := 0) B rfl ((pm_up_n (by omega)).trans pm_up_s) rfl (c_X13_denies (f := f) ((pm_up_n (by omega)).trans pm_up_s)) mt_X13_denies sv_X13_83 dX13_doSetRule_30 rfl rfl rfl rfl rfl ?_
      refine pm_mem (M' := pm_up (pm_up (pm_up M m0 (pm_mo z m0 f)) (m0 + 1) (.inl (kA 0, 91, .inl g))) m0 (pm_mo z m0 (upd (upd (upd f 7 7) 8 x) 6 2))) rfl ?_
      refine pm_mem (M' := pm_up (pm_up M m0 (pm_mo z m0 (upd (upd (upd f 7 7) 8 x) 6 2))) (m0 + 1) (.inl (kA 0, 91, .inl g))) (by rw [pm_up_sw (a := m0 + 1) (b := m0) (by omega), pm_up_up]) ?_
      refine pm_stk (st' := [.int 0]) rfl ?_
      have hDq4 : (d_X13_doSetRule x f g) = (0, (upd (upd (upd f 7 7) 8 x) 6 2), g) := by rw [d_X13_doSetRule, if_neg hq1, if_pos hq2]
      exact pm_ireturn B dX13_doSetRule_33 rfl (by first | rfl | (apply pm_nz; first | assumption | decide | exact pm_in01 _ _ _ | simp)) ⟨(by rw [hDq4]), rfl, by rw [hDq4]⟩ rfl rfl
  · refine pm_aload_n B dX13_doSetRule_9 rfl ?_
    refine pm_iconst (v := 1) B dX13_doSetRule_10 (by decide) ?_
    refine pm_cV (As := [.int 1]) (mc2 := 0) (ms2 := 0) B rfl ((pm_up_n (by omega)).trans pm_up_s) rfl (c_X13_fails (f := f) ((pm_up_n (by omega)).trans pm_up_s)) mt_X13_fails sv_X13_66 dX13_doSetRule_11 rfl rfl rfl rfl rfl ?_
    refine pm_mem (M' := pm_up (pm_up (pm_up M m0 (pm_mo z m0 f)) (m0 + 1) (.inl (kA 0, 91, .inl g))) m0 (pm_mo z m0 (upd f 6 1))) rfl ?_
    refine pm_mem (M' := pm_up (pm_up M m0 (pm_mo z m0 (upd f 6 1))) (m0 + 1) (.inl (kA 0, 91, .inl g))) (by rw [pm_up_sw (a := m0 + 1) (b := m0) (by omega), pm_up_up]) ?_
    refine pm_stk (st' := [.int 0]) rfl ?_
    have hDq5 : (d_X13_doSetRule x f g) = (0, (upd f 6 1), g) := by rw [d_X13_doSetRule, if_pos hq1]
    exact pm_ireturn B dX13_doSetRule_14 rfl (by first | rfl | (apply pm_nz; first | assumption | decide | exact pm_in01 _ _ _ | simp)) ⟨(by rw [hDq5]), rfl, by rw [hDq5]⟩ rfl rfl
theorem d_X13_doSetRule_k_f5 (x : Int32) (f : Nat → Int32) (g : Nat → Int32) : ((d_X13_doSetRule x f g).2.1) 5 = f 5 := by
  unfold d_X13_doSetRule
  (repeat' split) <;> rfl
def d_X13_setRule (x : Int32) (k : Nat) (f : Nat → Int32) (g : Nat → Int32) (gb : Nat → Int32) (gp : Nat → Int32) : (Int32 × (Nat → Int32) × (Nat → Int32) × (Nat → Int32) × (Nat → Int32)) := (((d_X13_ends ((d_X13_doSetRule x ((d_X13_keep f g gb).1) g).1) 0 k ((d_X13_doSetRule x ((d_X13_keep f g gb).1) g).2.1) ((d_X13_doSetRule x ((d_X13_keep f g gb).1) g).2.2) ((d_X13_keep f g gb).2) gp).1), ((d_X13_ends ((d_X13_doSetRule x ((d_X13_keep f g gb).1) g).1) 0 k ((d_X13_doSetRule x ((d_X13_keep f g gb).1) g).2.1) ((d_X13_doSetRule x ((d_X13_keep f g gb).1) g).2.2) ((d_X13_keep f g gb).2) gp).2.1), ((d_X13_ends ((d_X13_doSetRule x ((d_X13_keep f g gb).1) g).1) 0 k ((d_X13_doSetRule x ((d_X13_keep f g gb).1) g).2.1) ((d_X13_doSetRule x ((d_X13_keep f g gb).1) g).2.2) ((d_X13_keep f g gb).2) gp).2.2.1), ((d_X13_keep f g gb).2), ((d_X13_ends ((d_X13_doSetRule x ((d_X13_keep f g gb).1) g).1) 0 k ((d_X13_doSetRule x ((d_X13_keep f g gb).1) g).2.1) ((d_X13_doSetRule x ((d_X13_keep f g gb).1) g).2.2) ((d_X13_keep f g gb).2) gp).2.2.2))
set_option maxRecDepth 100000 in
set_option maxHeartbeats 8000000 in
theorem c_X13_setRule {l : Launch} {z : Nat} {D : va_G} {kA : Nat → ClassId} {kE : Nat → Nat} {nx : Nat} {M : pm_M} {x : Int32} {k : Nat}{m0 : Nat} {f : Nat → Int32} {g : Nat → Int32} {gb : Nat → Int32} {gp : Nat → Int32} (hM : M m0 = some (pm_mo z m0 f)) (hg : M (m0 + 1) = some (.inl (kA 0, 91, .inl g))) (hgb : M (m0 + 2) = some (.inl (kA 0, 91, .inl gb))) (hgp : M (m0 + 4) = some (.inl (kA 0, 728, .inl gp))) (hf5 : f 5 = nI k) (h8 : k ≤ 8) : pm_C l z D kA kE yX13_setRule cX13_setRule 2 (some .int) 3 0 0 [.ref (z + m0), .int x] nx M (pm_rt (some (.int ((d_X13_setRule x k f g gb gp).1))) nx (pm_up (pm_up (pm_up (pm_up M m0 (pm_mo z m0 ((d_X13_setRule x k f g gb gp).2.1))) (m0 + 1) (.inl (kA 0, 91, .inl ((d_X13_setRule x k f g gb gp).2.2.1)))) (m0 + 2) (.inl (kA 0, 91, .inl ((d_X13_setRule x k f g gb gp).2.2.2.1)))) (m0 + 4) (.inl (kA 0, 728, .inl ((d_X13_setRule x k f g gb gp).2.2.2.2))))) := by
  refine pm_mk (own := RX13) (nm := "setRule") mt_X13_setRule rfl rfl rfl rfl fun X B => ?_
  refine pm_loc (L' := [some (.ref (z + m0)), some (.int x)]) rfl ?_
  refine pm_mem (M' := pm_up (pm_up (pm_up (pm_up M m0 (pm_mo z m0 f)) (m0 + 1) (.inl (kA 0, 91, .inl g))) (m0 + 2) (.inl (kA 0, 91, .inl gb))) (m0 + 4) (.inl (kA 0, 728, .inl gp))) (by rw [pm_up_id hM, pm_up_id hg, pm_up_id hgb, pm_up_id hgp]) ?_
  refine pm_aload_n B dX13_setRule_0 rfl ?_
  refine pm_cV (As := []) (mc2 := 0) (ms2 := 0) B rfl ((pm_up_n (by omega)).trans ((pm_up_n (by omega)).trans ((pm_up_n (by omega)).trans pm_up_s))) rfl (c_X13_keep (f := f) (g := g) (gb := gb) ((pm_up_n (by omega)).trans ((pm_up_n (by omega)).trans ((pm_up_n (by omega)).trans pm_up_s))) ((pm_up_n (by omega)).trans ((pm_up_n (by omega)).trans pm_up_s)) ((pm_up_n (by omega)).trans pm_up_s) ) mt_X13_keep sv_X13_91 dX13_setRule_1 rfl rfl rfl rfl rfl ?_
  refine pm_mem (M' := pm_up (pm_up (pm_up (pm_up (pm_up (pm_up M m0 (pm_mo z m0 f)) (m0 + 1) (.inl (kA 0, 91, .inl g))) (m0 + 2) (.inl (kA 0, 91, .inl gb))) (m0 + 4) (.inl (kA 0, 728, .inl gp))) m0 (pm_mo z m0 ((d_X13_keep f g gb).1))) (m0 + 2) (.inl (kA 0, 91, .inl ((d_X13_keep f g gb).2)))) rfl ?_
  refine pm_mem (M' := pm_up (pm_up (pm_up (pm_up (pm_up M m0 (pm_mo z m0 ((d_X13_keep f g gb).1))) (m0 + 1) (.inl (kA 0, 91, .inl g))) (m0 + 2) (.inl (kA 0, 91, .inl gb))) (m0 + 4) (.inl (kA 0, 728, .inl gp))) (m0 + 2) (.inl (kA 0, 91, .inl ((d_X13_keep f g gb).2)))) (by rw [pm_up_sw (a := m0 + 4) (b := m0) (by omega), pm_up_sw (a := m0 + 2) (b := m0) (by omega), pm_up_sw (a := m0 + 1) (b := m0) (by omega), pm_up_up (a := m0)]) ?_
  refine pm_mem (M' := pm_up (pm_up (pm_up (pm_up M m0 (pm_mo z m0 ((d_X13_keep f g gb).1))) (m0 + 1) (.inl (kA 0, 91, .inl g))) (m0 + 2) (.inl (kA 0, 91, .inl ((d_X13_keep f g gb).2)))) (m0 + 4) (.inl (kA 0, 728, .inl gp))) (by rw [pm_up_sw (a := m0 + 4) (b := m0 + 2) (by omega), pm_up_up (a := m0 + 2)]) ?_
  refine pm_stk (st' := []) rfl ?_
  refine pm_aload_n B dX13_setRule_4 rfl ?_
  refine pm_aload_n B dX13_setRule_5 rfl ?_
  refine pm_iload_n B dX13_setRule_6 rfl ?_
  refine pm_cV (As := [.int x]) (mc2 := 0) (ms2 := 0) B rfl ((pm_up_n (by omega)).trans ((pm_up_n (by omega)).trans ((pm_up_n (by omega)).trans pm_up_s))) rfl (c_X13_doSetRule (x := x) (f := ((d_X13_keep f g gb).1)) (g := g) ((pm_up_n (by omega)).trans ((pm_up_n (by omega)).trans ((pm_up_n (by omega)).trans pm_up_s))) ((pm_up_n (by omega)).trans ((pm_up_n (by omega)).trans pm_up_s)) ) mt_X13_doSetRule sv_X13_124 dX13_setRule_7 rfl rfl rfl rfl rfl ?_
  refine pm_mem (M' := pm_up (pm_up (pm_up (pm_up (pm_up (pm_up M m0 (pm_mo z m0 ((d_X13_keep f g gb).1))) (m0 + 1) (.inl (kA 0, 91, .inl g))) (m0 + 2) (.inl (kA 0, 91, .inl ((d_X13_keep f g gb).2)))) (m0 + 4) (.inl (kA 0, 728, .inl gp))) m0 (pm_mo z m0 ((d_X13_doSetRule x ((d_X13_keep f g gb).1) g).2.1))) (m0 + 1) (.inl (kA 0, 91, .inl ((d_X13_doSetRule x ((d_X13_keep f g gb).1) g).2.2)))) rfl ?_
  refine pm_mem (M' := pm_up (pm_up (pm_up (pm_up (pm_up M m0 (pm_mo z m0 ((d_X13_doSetRule x ((d_X13_keep f g gb).1) g).2.1))) (m0 + 1) (.inl (kA 0, 91, .inl g))) (m0 + 2) (.inl (kA 0, 91, .inl ((d_X13_keep f g gb).2)))) (m0 + 4) (.inl (kA 0, 728, .inl gp))) (m0 + 1) (.inl (kA 0, 91, .inl ((d_X13_doSetRule x ((d_X13_keep f g gb).1) g).2.2)))) (by rw [pm_up_sw (a := m0 + 4) (b := m0) (by omega), pm_up_sw (a := m0 + 2) (b := m0) (by omega), pm_up_sw (a := m0 + 1) (b := m0) (by omega), pm_up_up (a := m0)]) ?_
  refine pm_mem (M' := pm_up (pm_up (pm_up (pm_up M m0 (pm_mo z m0 ((d_X13_doSetRule x ((d_X13_keep f g gb).1) g).2.1))) (m0 + 1) (.inl (kA 0, 91, .inl ((d_X13_doSetRule x ((d_X13_keep f g gb).1) g).2.2)))) (m0 + 2) (.inl (kA 0, 91, .inl ((d_X13_keep f g gb).2)))) (m0 + 4) (.inl (kA 0, 728, .inl gp))) (by rw [pm_up_sw (a := m0 + 4) (b := m0 + 1) (by omega), pm_up_sw (a := m0 + 2) (b := m0 + 1) (by omega), pm_up_up (a := m0 + 1)]) ?_
  refine pm_stk (st' := [.int ((d_X13_doSetRule x ((d_X13_keep f g gb).1) g).1), .ref (z + m0)]) rfl ?_
  refine pm_iconst (v := 0) B dX13_setRule_10 (by decide) ?_
  refine pm_cV (As := [.int ((d_X13_doSetRule x ((d_X13_keep f g gb).1) g).1), .int 0]) (mc2 := 0) (ms2 := 0) B rfl ((pm_up_n (by omega)).trans ((pm_up_n (by omega)).trans ((pm_up_n (by omega)).trans pm_up_s))) rfl (c_X13_ends (x := ((d_X13_doSetRule x ((d_X13_keep f g gb).1) g).1)) (y := 0) (k := k) (f := ((d_X13_doSetRule x ((d_X13_keep f g gb).1) g).2.1)) (g := ((d_X13_doSetRule x ((d_X13_keep f g gb).1) g).2.2)) (gb := ((d_X13_keep f g gb).2)) (gp := gp) ((pm_up_n (by omega)).trans ((pm_up_n (by omega)).trans ((pm_up_n (by omega)).trans pm_up_s))) ((pm_up_n (by omega)).trans ((pm_up_n (by omega)).trans pm_up_s)) ((pm_up_n (by omega)).trans pm_up_s) pm_up_s (show ((d_X13_doSetRule x ((d_X13_keep f g gb).1) g).2.1) 5 = (nI k) from by rw [((d_X13_doSetRule_k_f5 x ((d_X13_keep f g gb).1) g).trans ((d_X13_keep_k_f5  f g gb).trans hf5))]) (by first | assumption | omega)) mt_X13_ends sv_X13_97 dX13_setRule_11 rfl rfl rfl rfl rfl ?_
  refine pm_mem (M' := pm_up (pm_up (pm_up (pm_up (pm_up (pm_up (pm_up M m0 (pm_mo z m0 ((d_X13_doSetRule x ((d_X13_keep f g gb).1) g).2.1))) (m0 + 1) (.inl (kA 0, 91, .inl ((d_X13_doSetRule x ((d_X13_keep f g gb).1) g).2.2)))) (m0 + 2) (.inl (kA 0, 91, .inl ((d_X13_keep f g gb).2)))) (m0 + 4) (.inl (kA 0, 728, .inl gp))) m0 (pm_mo z m0 ((d_X13_ends ((d_X13_doSetRule x ((d_X13_keep f g gb).1) g).1) 0 k ((d_X13_doSetRule x ((d_X13_keep f g gb).1) g).2.1) ((d_X13_doSetRule x ((d_X13_keep f g gb).1) g).2.2) ((d_X13_keep f g gb).2) gp).2.1))) (m0 + 1) (.inl (kA 0, 91, .inl ((d_X13_ends ((d_X13_doSetRule x ((d_X13_keep f g gb).1) g).1) 0 k ((d_X13_doSetRule x ((d_X13_keep f g gb).1) g).2.1) ((d_X13_doSetRule x ((d_X13_keep f g gb).1) g).2.2) ((d_X13_keep f g gb).2) gp).2.2.1)))) (m0 + 4) (.inl (kA 0, 728, .inl ((d_X13_ends ((d_X13_doSetRule x ((d_X13_keep f g gb).1) g).1) 0 k ((d_X13_doSetRule x ((d_X13_keep f g gb).1) g).2.1) ((d_X13_doSetRule x ((d_X13_keep f g gb).1) g).2.2) ((d_X13_keep f g gb).2) gp).2.2.2)))) rfl ?_
  refine pm_mem (M' := pm_up (pm_up (pm_up (pm_up (pm_up (pm_up M m0 (pm_mo z m0 ((d_X13_ends ((d_X13_doSetRule x ((d_X13_keep f g gb).1) g).1) 0 k ((d_X13_doSetRule x ((d_X13_keep f g gb).1) g).2.1) ((d_X13_doSetRule x ((d_X13_keep f g gb).1) g).2.2) ((d_X13_keep f g gb).2) gp).2.1))) (m0 + 1) (.inl (kA 0, 91, .inl ((d_X13_doSetRule x ((d_X13_keep f g gb).1) g).2.2)))) (m0 + 2) (.inl (kA 0, 91, .inl ((d_X13_keep f g gb).2)))) (m0 + 4) (.inl (kA 0, 728, .inl gp))) (m0 + 1) (.inl (kA 0, 91, .inl ((d_X13_ends ((d_X13_doSetRule x ((d_X13_keep f g gb).1) g).1) 0 k ((d_X13_doSetRule x ((d_X13_keep f g gb).1) g).2.1) ((d_X13_doSetRule x ((d_X13_keep f g gb).1) g).2.2) ((d_X13_keep f g gb).2) gp).2.2.1)))) (m0 + 4) (.inl (kA 0, 728, .inl ((d_X13_ends ((d_X13_doSetRule x ((d_X13_keep f g gb).1) g).1) 0 k ((d_X13_doSetRule x ((d_X13_keep f g gb).1) g).2.1) ((d_X13_doSetRule x ((d_X13_keep f g gb).1) g).2.2) ((d_X13_keep f g gb).2) gp).2.2.2)))) (by rw [pm_up_sw (a := m0 + 4) (b := m0) (by omega), pm_up_sw (a := m0 + 2) (b := m0) (by omega), pm_up_sw (a := m0 + 1) (b := m0) (by omega), pm_up_up (a := m0)]) ?_
  refine pm_mem (M' := pm_up (pm_up (pm_up (pm_up (pm_up M m0 (pm_mo z m0 ((d_X13_ends ((d_X13_doSetRule x ((d_X13_keep f g gb).1) g).1) 0 k ((d_X13_doSetRule x ((d_X13_keep f g gb).1) g).2.1) ((d_X13_doSetRule x ((d_X13_keep f g gb).1) g).2.2) ((d_X13_keep f g gb).2) gp).2.1))) (m0 + 1) (.inl (kA 0, 91, .inl ((d_X13_ends ((d_X13_doSetRule x ((d_X13_keep f g gb).1) g).1) 0 k ((d_X13_doSetRule x ((d_X13_keep f g gb).1) g).2.1) ((d_X13_doSetRule x ((d_X13_keep f g gb).1) g).2.2) ((d_X13_keep f g gb).2) gp).2.2.1)))) (m0 + 2) (.inl (kA 0, 91, .inl ((d_X13_keep f g gb).2)))) (m0 + 4) (.inl (kA 0, 728, .inl gp))) (m0 + 4) (.inl (kA 0, 728, .inl ((d_X13_ends ((d_X13_doSetRule x ((d_X13_keep f g gb).1) g).1) 0 k ((d_X13_doSetRule x ((d_X13_keep f g gb).1) g).2.1) ((d_X13_doSetRule x ((d_X13_keep f g gb).1) g).2.2) ((d_X13_keep f g gb).2) gp).2.2.2)))) (by rw [pm_up_sw (a := m0 + 4) (b := m0 + 1) (by omega), pm_up_sw (a := m0 + 2) (b := m0 + 1) (by omega), pm_up_up (a := m0 + 1)]) ?_
  refine pm_mem (M' := pm_up (pm_up (pm_up (pm_up M m0 (pm_mo z m0 ((d_X13_ends ((d_X13_doSetRule x ((d_X13_keep f g gb).1) g).1) 0 k ((d_X13_doSetRule x ((d_X13_keep f g gb).1) g).2.1) ((d_X13_doSetRule x ((d_X13_keep f g gb).1) g).2.2) ((d_X13_keep f g gb).2) gp).2.1))) (m0 + 1) (.inl (kA 0, 91, .inl ((d_X13_ends ((d_X13_doSetRule x ((d_X13_keep f g gb).1) g).1) 0 k ((d_X13_doSetRule x ((d_X13_keep f g gb).1) g).2.1) ((d_X13_doSetRule x ((d_X13_keep f g gb).1) g).2.2) ((d_X13_keep f g gb).2) gp).2.2.1)))) (m0 + 2) (.inl (kA 0, 91, .inl ((d_X13_keep f g gb).2)))) (m0 + 4) (.inl (kA 0, 728, .inl ((d_X13_ends ((d_X13_doSetRule x ((d_X13_keep f g gb).1) g).1) 0 k ((d_X13_doSetRule x ((d_X13_keep f g gb).1) g).2.1) ((d_X13_doSetRule x ((d_X13_keep f g gb).1) g).2.2) ((d_X13_keep f g gb).2) gp).2.2.2)))) (by rw [pm_up_up (a := m0 + 4)]) ?_
  refine pm_stk (st' := [.int ((d_X13_ends ((d_X13_doSetRule x ((d_X13_keep f g gb).1) g).1) 0 k ((d_X13_doSetRule x ((d_X13_keep f g gb).1) g).2.1) ((d_X13_doSetRule x ((d_X13_keep f g gb).1) g).2.2) ((d_X13_keep f g gb).2) gp).1)]) rfl ?_
  have hDq1 : (d_X13_setRule x k f g gb gp) = (((d_X13_ends ((d_X13_doSetRule x ((d_X13_keep f g gb).1) g).1) 0 k ((d_X13_doSetRule x ((d_X13_keep f g gb).1) g).2.1) ((d_X13_doSetRule x ((d_X13_keep f g gb).1) g).2.2) ((d_X13_keep f g gb).2) gp).1), ((d_X13_ends ((d_X13_doSetRule x ((d_X13_keep f g gb).1) g).1) 0 k ((d_X13_doSetRule x ((d_X13_keep f g gb).1) g).2.1) ((d_X13_doSetRule x ((d_X13_keep f g gb).1) g).2.2) ((d_X13_keep f g gb).2) gp).2.1), ((d_X13_ends ((d_X13_doSetRule x ((d_X13_keep f g gb).1) g).1) 0 k ((d_X13_doSetRule x ((d_X13_keep f g gb).1) g).2.1) ((d_X13_doSetRule x ((d_X13_keep f g gb).1) g).2.2) ((d_X13_keep f g gb).2) gp).2.2.1), ((d_X13_keep f g gb).2), ((d_X13_ends ((d_X13_doSetRule x ((d_X13_keep f g gb).1) g).1) 0 k ((d_X13_doSetRule x ((d_X13_keep f g gb).1) g).2.1) ((d_X13_doSetRule x ((d_X13_keep f g gb).1) g).2.2) ((d_X13_keep f g gb).2) gp).2.2.2)) := by rw [d_X13_setRule]
  exact pm_ireturn B dX13_setRule_14 rfl (by first | rfl | (apply pm_nz; first | assumption | decide | exact pm_in01 _ _ _ | simp)) ⟨(by rw [hDq1]), rfl, by rw [hDq1]⟩ rfl rfl
def d_X13_doSetSeed (x : Int32) (f : Nat → Int32) (g : Nat → Int32) : (Int32 × (Nat → Int32) × (Nat → Int32)) := if (pm_in x 0 1023) = 0 then (0, (upd f 6 1), g) else ((g 2), f, (upd g 2 x))
set_option maxRecDepth 100000 in
set_option maxHeartbeats 8000000 in
theorem c_X13_doSetSeed {l : Launch} {z : Nat} {D : va_G} {kA : Nat → ClassId} {kE : Nat → Nat} {nx : Nat} {M : pm_M} {x : Int32}{m0 : Nat} {f : Nat → Int32} {g : Nat → Int32} (hM : M m0 = some (pm_mo z m0 f)) (hg : M (m0 + 1) = some (.inl (kA 0, 91, .inl g))) : pm_C l z D kA kE yX13_doSetSeed cX13_doSetSeed 3 (some .int) 2 0 0 [.ref (z + m0), .int x] nx M (pm_rt (some (.int ((d_X13_doSetSeed x f g).1))) nx (pm_up (pm_up M m0 (pm_mo z m0 ((d_X13_doSetSeed x f g).2.1))) (m0 + 1) (.inl (kA 0, 91, .inl ((d_X13_doSetSeed x f g).2.2))))) := by
  refine pm_mk (own := RX13) (nm := "doSetSeed") mt_X13_doSetSeed rfl rfl rfl rfl fun X B => ?_
  refine pm_loc (L' := [some (.ref (z + m0)), some (.int x), none]) rfl ?_
  refine pm_mem (M' := pm_up (pm_up M m0 (pm_mo z m0 f)) (m0 + 1) (.inl (kA 0, 91, .inl g))) (by rw [pm_up_id hM, pm_up_id hg]) ?_
  refine pm_iload_n B dX13_doSetSeed_0 rfl ?_
  refine pm_iconst (v := 0) B dX13_doSetSeed_1 (by decide) ?_
  refine pm_sipush (v := 1023) B dX13_doSetSeed_2 (by decide) ?_
  refine pm_cS (As := [.int x, .int 0, .int 1023]) (mc2 := 0) (ms2 := 0) B c_X13_in mt_X13_in ss_X13_70 dX13_doSetSeed_5 rfl rfl rfl rfl rfl ?_
  refine pm_stk (st' := [.int (pm_in x 0 1023)]) rfl ?_
  refine pm_if_ne (tgt := 17) B dX13_doSetSeed_8 (by decide) (fun hq1 => ?_) (fun hq1 => ?_)
  · refine pm_aload_n B dX13_doSetSeed_17 rfl ?_
    refine pm_get B dX13_doSetSeed_18 fl_X13_9 ((pm_up_n (by omega)).trans pm_up_s) rfl ?_
    refine pm_iconst (v := 2) B dX13_doSetSeed_21 (by decide) ?_
    refine pm_iald_n B dX13_doSetSeed_22 pm_up_s 2 (by decide) (by decide) ?_
    refine pm_istore_n B dX13_doSetSeed_23 rfl rfl ?_
    refine pm_loc (L' := [some (.ref (z + m0)), some (.int x), some (.int (g 2))]) rfl ?_
    refine pm_aload_n B dX13_doSetSeed_24 rfl ?_
    refine pm_get B dX13_doSetSeed_25 fl_X13_9 ((pm_up_n (by omega)).trans pm_up_s) rfl ?_
    refine pm_iconst (v := 2) B dX13_doSetSeed_28 (by decide) ?_
    refine pm_iload_n B dX13_doSetSeed_29 rfl ?_
    refine pm_iast_n B dX13_doSetSeed_30 pm_up_s 2 (by decide) (by decide) ?_
    refine pm_mem (M' := pm_up (pm_up M m0 (pm_mo z m0 f)) (m0 + 1) (.inl (kA 0, 91, .inl (upd g 2 x)))) pm_up_up ?_
    refine pm_iload_n B dX13_doSetSeed_31 rfl ?_
    have hDq2 : (d_X13_doSetSeed x f g) = ((g 2), f, (upd g 2 x)) := by rw [d_X13_doSetSeed, if_neg hq1]
    exact pm_ireturn B dX13_doSetSeed_32 rfl (by first | rfl | (apply pm_nz; first | assumption | decide | exact pm_in01 _ _ _ | simp)) ⟨(by rw [hDq2]), rfl, by rw [hDq2]⟩ rfl rfl
  · refine pm_aload_n B dX13_doSetSeed_11 rfl ?_
    refine pm_iconst (v := 1) B dX13_doSetSeed_12 (by decide) ?_
    refine pm_cV (As := [.int 1]) (mc2 := 0) (ms2 := 0) B rfl ((pm_up_n (by omega)).trans pm_up_s) rfl (c_X13_fails (f := f) ((pm_up_n (by omega)).trans pm_up_s)) mt_X13_fails sv_X13_66 dX13_doSetSeed_13 rfl rfl rfl rfl rfl ?_
    refine pm_mem (M' := pm_up (pm_up (pm_up M m0 (pm_mo z m0 f)) (m0 + 1) (.inl (kA 0, 91, .inl g))) m0 (pm_mo z m0 (upd f 6 1))) rfl ?_
    refine pm_mem (M' := pm_up (pm_up M m0 (pm_mo z m0 (upd f 6 1))) (m0 + 1) (.inl (kA 0, 91, .inl g))) (by rw [pm_up_sw (a := m0 + 1) (b := m0) (by omega), pm_up_up]) ?_
    refine pm_stk (st' := [.int 0]) rfl ?_
    have hDq3 : (d_X13_doSetSeed x f g) = (0, (upd f 6 1), g) := by rw [d_X13_doSetSeed, if_pos hq1]
    exact pm_ireturn B dX13_doSetSeed_16 rfl (by first | rfl | (apply pm_nz; first | assumption | decide | exact pm_in01 _ _ _ | simp)) ⟨(by rw [hDq3]), rfl, by rw [hDq3]⟩ rfl rfl
theorem d_X13_doSetSeed_k_f5 (x : Int32) (f : Nat → Int32) (g : Nat → Int32) : ((d_X13_doSetSeed x f g).2.1) 5 = f 5 := by
  unfold d_X13_doSetSeed
  (repeat' split) <;> rfl
def d_X13_setSeed (x : Int32) (k : Nat) (f : Nat → Int32) (g : Nat → Int32) (gb : Nat → Int32) (gp : Nat → Int32) : (Int32 × (Nat → Int32) × (Nat → Int32) × (Nat → Int32) × (Nat → Int32)) := (((d_X13_ends ((d_X13_doSetSeed x ((d_X13_keep f g gb).1) g).1) 0 k ((d_X13_doSetSeed x ((d_X13_keep f g gb).1) g).2.1) ((d_X13_doSetSeed x ((d_X13_keep f g gb).1) g).2.2) ((d_X13_keep f g gb).2) gp).1), ((d_X13_ends ((d_X13_doSetSeed x ((d_X13_keep f g gb).1) g).1) 0 k ((d_X13_doSetSeed x ((d_X13_keep f g gb).1) g).2.1) ((d_X13_doSetSeed x ((d_X13_keep f g gb).1) g).2.2) ((d_X13_keep f g gb).2) gp).2.1), ((d_X13_ends ((d_X13_doSetSeed x ((d_X13_keep f g gb).1) g).1) 0 k ((d_X13_doSetSeed x ((d_X13_keep f g gb).1) g).2.1) ((d_X13_doSetSeed x ((d_X13_keep f g gb).1) g).2.2) ((d_X13_keep f g gb).2) gp).2.2.1), ((d_X13_keep f g gb).2), ((d_X13_ends ((d_X13_doSetSeed x ((d_X13_keep f g gb).1) g).1) 0 k ((d_X13_doSetSeed x ((d_X13_keep f g gb).1) g).2.1) ((d_X13_doSetSeed x ((d_X13_keep f g gb).1) g).2.2) ((d_X13_keep f g gb).2) gp).2.2.2))
set_option maxRecDepth 100000 in
set_option maxHeartbeats 8000000 in
theorem c_X13_setSeed {l : Launch} {z : Nat} {D : va_G} {kA : Nat → ClassId} {kE : Nat → Nat} {nx : Nat} {M : pm_M} {x : Int32} {k : Nat}{m0 : Nat} {f : Nat → Int32} {g : Nat → Int32} {gb : Nat → Int32} {gp : Nat → Int32} (hM : M m0 = some (pm_mo z m0 f)) (hg : M (m0 + 1) = some (.inl (kA 0, 91, .inl g))) (hgb : M (m0 + 2) = some (.inl (kA 0, 91, .inl gb))) (hgp : M (m0 + 4) = some (.inl (kA 0, 728, .inl gp))) (hf5 : f 5 = nI k) (h8 : k ≤ 8) : pm_C l z D kA kE yX13_setSeed cX13_setSeed 2 (some .int) 3 0 0 [.ref (z + m0), .int x] nx M (pm_rt (some (.int ((d_X13_setSeed x k f g gb gp).1))) nx (pm_up (pm_up (pm_up (pm_up M m0 (pm_mo z m0 ((d_X13_setSeed x k f g gb gp).2.1))) (m0 + 1) (.inl (kA 0, 91, .inl ((d_X13_setSeed x k f g gb gp).2.2.1)))) (m0 + 2) (.inl (kA 0, 91, .inl ((d_X13_setSeed x k f g gb gp).2.2.2.1)))) (m0 + 4) (.inl (kA 0, 728, .inl ((d_X13_setSeed x k f g gb gp).2.2.2.2))))) := by
  refine pm_mk (own := RX13) (nm := "setSeed") mt_X13_setSeed rfl rfl rfl rfl fun X B => ?_
  refine pm_loc (L' := [some (.ref (z + m0)), some (.int x)]) rfl ?_
  refine pm_mem (M' := pm_up (pm_up (pm_up (pm_up M m0 (pm_mo z m0 f)) (m0 + 1) (.inl (kA 0, 91, .inl g))) (m0 + 2) (.inl (kA 0, 91, .inl gb))) (m0 + 4) (.inl (kA 0, 728, .inl gp))) (by rw [pm_up_id hM, pm_up_id hg, pm_up_id hgb, pm_up_id hgp]) ?_
  refine pm_aload_n B dX13_setSeed_0 rfl ?_
  refine pm_cV (As := []) (mc2 := 0) (ms2 := 0) B rfl ((pm_up_n (by omega)).trans ((pm_up_n (by omega)).trans ((pm_up_n (by omega)).trans pm_up_s))) rfl (c_X13_keep (f := f) (g := g) (gb := gb) ((pm_up_n (by omega)).trans ((pm_up_n (by omega)).trans ((pm_up_n (by omega)).trans pm_up_s))) ((pm_up_n (by omega)).trans ((pm_up_n (by omega)).trans pm_up_s)) ((pm_up_n (by omega)).trans pm_up_s) ) mt_X13_keep sv_X13_91 dX13_setSeed_1 rfl rfl rfl rfl rfl ?_
  refine pm_mem (M' := pm_up (pm_up (pm_up (pm_up (pm_up (pm_up M m0 (pm_mo z m0 f)) (m0 + 1) (.inl (kA 0, 91, .inl g))) (m0 + 2) (.inl (kA 0, 91, .inl gb))) (m0 + 4) (.inl (kA 0, 728, .inl gp))) m0 (pm_mo z m0 ((d_X13_keep f g gb).1))) (m0 + 2) (.inl (kA 0, 91, .inl ((d_X13_keep f g gb).2)))) rfl ?_
  refine pm_mem (M' := pm_up (pm_up (pm_up (pm_up (pm_up M m0 (pm_mo z m0 ((d_X13_keep f g gb).1))) (m0 + 1) (.inl (kA 0, 91, .inl g))) (m0 + 2) (.inl (kA 0, 91, .inl gb))) (m0 + 4) (.inl (kA 0, 728, .inl gp))) (m0 + 2) (.inl (kA 0, 91, .inl ((d_X13_keep f g gb).2)))) (by rw [pm_up_sw (a := m0 + 4) (b := m0) (by omega), pm_up_sw (a := m0 + 2) (b := m0) (by omega), pm_up_sw (a := m0 + 1) (b := m0) (by omega), pm_up_up (a := m0)]) ?_
  refine pm_mem (M' := pm_up (pm_up (pm_up (pm_up M m0 (pm_mo z m0 ((d_X13_keep f g gb).1))) (m0 + 1) (.inl (kA 0, 91, .inl g))) (m0 + 2) (.inl (kA 0, 91, .inl ((d_X13_keep f g gb).2)))) (m0 + 4) (.inl (kA 0, 728, .inl gp))) (by rw [pm_up_sw (a := m0 + 4) (b := m0 + 2) (by omega), pm_up_up (a := m0 + 2)]) ?_
  refine pm_stk (st' := []) rfl ?_
  refine pm_aload_n B dX13_setSeed_4 rfl ?_
  refine pm_aload_n B dX13_setSeed_5 rfl ?_
  refine pm_iload_n B dX13_setSeed_6 rfl ?_
  refine pm_cV (As := [.int x]) (mc2 := 0) (ms2 := 0) B rfl ((pm_up_n (by omega)).trans ((pm_up_n (by omega)).trans ((pm_up_n (by omega)).trans pm_up_s))) rfl (c_X13_doSetSeed (x := x) (f := ((d_X13_keep f g gb).1)) (g := g) ((pm_up_n (by omega)).trans ((pm_up_n (by omega)).trans ((pm_up_n (by omega)).trans pm_up_s))) ((pm_up_n (by omega)).trans ((pm_up_n (by omega)).trans pm_up_s)) ) mt_X13_doSetSeed sv_X13_150 dX13_setSeed_7 rfl rfl rfl rfl rfl ?_
  refine pm_mem (M' := pm_up (pm_up (pm_up (pm_up (pm_up (pm_up M m0 (pm_mo z m0 ((d_X13_keep f g gb).1))) (m0 + 1) (.inl (kA 0, 91, .inl g))) (m0 + 2) (.inl (kA 0, 91, .inl ((d_X13_keep f g gb).2)))) (m0 + 4) (.inl (kA 0, 728, .inl gp))) m0 (pm_mo z m0 ((d_X13_doSetSeed x ((d_X13_keep f g gb).1) g).2.1))) (m0 + 1) (.inl (kA 0, 91, .inl ((d_X13_doSetSeed x ((d_X13_keep f g gb).1) g).2.2)))) rfl ?_
  refine pm_mem (M' := pm_up (pm_up (pm_up (pm_up (pm_up M m0 (pm_mo z m0 ((d_X13_doSetSeed x ((d_X13_keep f g gb).1) g).2.1))) (m0 + 1) (.inl (kA 0, 91, .inl g))) (m0 + 2) (.inl (kA 0, 91, .inl ((d_X13_keep f g gb).2)))) (m0 + 4) (.inl (kA 0, 728, .inl gp))) (m0 + 1) (.inl (kA 0, 91, .inl ((d_X13_doSetSeed x ((d_X13_keep f g gb).1) g).2.2)))) (by rw [pm_up_sw (a := m0 + 4) (b := m0) (by omega), pm_up_sw (a := m0 + 2) (b := m0) (by omega), pm_up_sw (a := m0 + 1) (b := m0) (by omega), pm_up_up (a := m0)]) ?_
  refine pm_mem (M' := pm_up (pm_up (pm_up (pm_up M m0 (pm_mo z m0 ((d_X13_doSetSeed x ((d_X13_keep f g gb).1) g).2.1))) (m0 + 1) (.inl (kA 0, 91, .inl ((d_X13_doSetSeed x ((d_X13_keep f g gb).1) g).2.2)))) (m0 + 2) (.inl (kA 0, 91, .inl ((d_X13_keep f g gb).2)))) (m0 + 4) (.inl (kA 0, 728, .inl gp))) (by rw [pm_up_sw (a := m0 + 4) (b := m0 + 1) (by omega), pm_up_sw (a := m0 + 2) (b := m0 + 1) (by omega), pm_up_up (a := m0 + 1)]) ?_
  refine pm_stk (st' := [.int ((d_X13_doSetSeed x ((d_X13_keep f g gb).1) g).1), .ref (z + m0)]) rfl ?_
  refine pm_iconst (v := 0) B dX13_setSeed_10 (by decide) ?_
  refine pm_cV (As := [.int ((d_X13_doSetSeed x ((d_X13_keep f g gb).1) g).1), .int 0]) (mc2 := 0) (ms2 := 0) B rfl ((pm_up_n (by omega)).trans ((pm_up_n (by omega)).trans ((pm_up_n (by omega)).trans pm_up_s))) rfl (c_X13_ends (x := ((d_X13_doSetSeed x ((d_X13_keep f g gb).1) g).1)) (y := 0) (k := k) (f := ((d_X13_doSetSeed x ((d_X13_keep f g gb).1) g).2.1)) (g := ((d_X13_doSetSeed x ((d_X13_keep f g gb).1) g).2.2)) (gb := ((d_X13_keep f g gb).2)) (gp := gp) ((pm_up_n (by omega)).trans ((pm_up_n (by omega)).trans ((pm_up_n (by omega)).trans pm_up_s))) ((pm_up_n (by omega)).trans ((pm_up_n (by omega)).trans pm_up_s)) ((pm_up_n (by omega)).trans pm_up_s) pm_up_s (show ((d_X13_doSetSeed x ((d_X13_keep f g gb).1) g).2.1) 5 = (nI k) from by rw [((d_X13_doSetSeed_k_f5 x ((d_X13_keep f g gb).1) g).trans ((d_X13_keep_k_f5  f g gb).trans hf5))]) (by first | assumption | omega)) mt_X13_ends sv_X13_97 dX13_setSeed_11 rfl rfl rfl rfl rfl ?_
  refine pm_mem (M' := pm_up (pm_up (pm_up (pm_up (pm_up (pm_up (pm_up M m0 (pm_mo z m0 ((d_X13_doSetSeed x ((d_X13_keep f g gb).1) g).2.1))) (m0 + 1) (.inl (kA 0, 91, .inl ((d_X13_doSetSeed x ((d_X13_keep f g gb).1) g).2.2)))) (m0 + 2) (.inl (kA 0, 91, .inl ((d_X13_keep f g gb).2)))) (m0 + 4) (.inl (kA 0, 728, .inl gp))) m0 (pm_mo z m0 ((d_X13_ends ((d_X13_doSetSeed x ((d_X13_keep f g gb).1) g).1) 0 k ((d_X13_doSetSeed x ((d_X13_keep f g gb).1) g).2.1) ((d_X13_doSetSeed x ((d_X13_keep f g gb).1) g).2.2) ((d_X13_keep f g gb).2) gp).2.1))) (m0 + 1) (.inl (kA 0, 91, .inl ((d_X13_ends ((d_X13_doSetSeed x ((d_X13_keep f g gb).1) g).1) 0 k ((d_X13_doSetSeed x ((d_X13_keep f g gb).1) g).2.1) ((d_X13_doSetSeed x ((d_X13_keep f g gb).1) g).2.2) ((d_X13_keep f g gb).2) gp).2.2.1)))) (m0 + 4) (.inl (kA 0, 728, .inl ((d_X13_ends ((d_X13_doSetSeed x ((d_X13_keep f g gb).1) g).1) 0 k ((d_X13_doSetSeed x ((d_X13_keep f g gb).1) g).2.1) ((d_X13_doSetSeed x ((d_X13_keep f g gb).1) g).2.2) ((d_X13_keep f g gb).2) gp).2.2.2)))) rfl ?_
  refine pm_mem (M' := pm_up (pm_up (pm_up (pm_up (pm_up (pm_up M m0 (pm_mo z m0 ((d_X13_ends ((d_X13_doSetSeed x ((d_X13_keep f g gb).1) g).1) 0 k ((d_X13_doSetSeed x ((d_X13_keep f g gb).1) g).2.1) ((d_X13_doSetSeed x ((d_X13_keep f g gb).1) g).2.2) ((d_X13_keep f g gb).2) gp).2.1))) (m0 + 1) (.inl (kA 0, 91, .inl ((d_X13_doSetSeed x ((d_X13_keep f g gb).1) g).2.2)))) (m0 + 2) (.inl (kA 0, 91, .inl ((d_X13_keep f g gb).2)))) (m0 + 4) (.inl (kA 0, 728, .inl gp))) (m0 + 1) (.inl (kA 0, 91, .inl ((d_X13_ends ((d_X13_doSetSeed x ((d_X13_keep f g gb).1) g).1) 0 k ((d_X13_doSetSeed x ((d_X13_keep f g gb).1) g).2.1) ((d_X13_doSetSeed x ((d_X13_keep f g gb).1) g).2.2) ((d_X13_keep f g gb).2) gp).2.2.1)))) (m0 + 4) (.inl (kA 0, 728, .inl ((d_X13_ends ((d_X13_doSetSeed x ((d_X13_keep f g gb).1) g).1) 0 k ((d_X13_doSetSeed x ((d_X13_keep f g gb).1) g).2.1) ((d_X13_doSetSeed x ((d_X13_keep f g gb).1) g).2.2) ((d_X13_keep f g gb).2) gp).2.2.2)))) (by rw [pm_up_sw (a := m0 + 4) (b := m0) (by omega), pm_up_sw (a := m0 + 2) (b := m0) (by omega), pm_up_sw (a := m0 + 1) (b := m0) (by omega), pm_up_up (a := m0)]) ?_
  refine pm_mem (M' := pm_up (pm_up (pm_up (pm_up (pm_up M m0 (pm_mo z m0 ((d_X13_ends ((d_X13_doSetSeed x ((d_X13_keep f g gb).1) g).1) 0 k ((d_X13_doSetSeed x ((d_X13_keep f g gb).1) g).2.1) ((d_X13_doSetSeed x ((d_X13_keep f g gb).1) g).2.2) ((d_X13_keep f g gb).2) gp).2.1))) (m0 + 1) (.inl (kA 0, 91, .inl ((d_X13_ends ((d_X13_doSetSeed x ((d_X13_keep f g gb).1) g).1) 0 k ((d_X13_doSetSeed x ((d_X13_keep f g gb).1) g).2.1) ((d_X13_doSetSeed x ((d_X13_keep f g gb).1) g).2.2) ((d_X13_keep f g gb).2) gp).2.2.1)))) (m0 + 2) (.inl (kA 0, 91, .inl ((d_X13_keep f g gb).2)))) (m0 + 4) (.inl (kA 0, 728, .inl gp))) (m0 + 4) (.inl (kA 0, 728, .inl ((d_X13_ends ((d_X13_doSetSeed x ((d_X13_keep f g gb).1) g).1) 0 k ((d_X13_doSetSeed x ((d_X13_keep f g gb).1) g).2.1) ((d_X13_doSetSeed x ((d_X13_keep f g gb).1) g).2.2) ((d_X13_keep f g gb).2) gp).2.2.2)))) (by rw [pm_up_sw (a := m0 + 4) (b := m0 + 1) (by omega), pm_up_sw (a := m0 + 2) (b := m0 + 1) (by omega), pm_up_up (a := m0 + 1)]) ?_
  refine pm_mem (M' := pm_up (pm_up (pm_up (pm_up M m0 (pm_mo z m0 ((d_X13_ends ((d_X13_doSetSeed x ((d_X13_keep f g gb).1) g).1) 0 k ((d_X13_doSetSeed x ((d_X13_keep f g gb).1) g).2.1) ((d_X13_doSetSeed x ((d_X13_keep f g gb).1) g).2.2) ((d_X13_keep f g gb).2) gp).2.1))) (m0 + 1) (.inl (kA 0, 91, .inl ((d_X13_ends ((d_X13_doSetSeed x ((d_X13_keep f g gb).1) g).1) 0 k ((d_X13_doSetSeed x ((d_X13_keep f g gb).1) g).2.1) ((d_X13_doSetSeed x ((d_X13_keep f g gb).1) g).2.2) ((d_X13_keep f g gb).2) gp).2.2.1)))) (m0 + 2) (.inl (kA 0, 91, .inl ((d_X13_keep f g gb).2)))) (m0 + 4) (.inl (kA 0, 728, .inl ((d_X13_ends ((d_X13_doSetSeed x ((d_X13_keep f g gb).1) g).1) 0 k ((d_X13_doSetSeed x ((d_X13_keep f g gb).1) g).2.1) ((d_X13_doSetSeed x ((d_X13_keep f g gb).1) g).2.2) ((d_X13_keep f g gb).2) gp).2.2.2)))) (by rw [pm_up_up (a := m0 + 4)]) ?_
  refine pm_stk (st' := [.int ((d_X13_ends ((d_X13_doSetSeed x ((d_X13_keep f g gb).1) g).1) 0 k ((d_X13_doSetSeed x ((d_X13_keep f g gb).1) g).2.1) ((d_X13_doSetSeed x ((d_X13_keep f g gb).1) g).2.2) ((d_X13_keep f g gb).2) gp).1)]) rfl ?_
  have hDq1 : (d_X13_setSeed x k f g gb gp) = (((d_X13_ends ((d_X13_doSetSeed x ((d_X13_keep f g gb).1) g).1) 0 k ((d_X13_doSetSeed x ((d_X13_keep f g gb).1) g).2.1) ((d_X13_doSetSeed x ((d_X13_keep f g gb).1) g).2.2) ((d_X13_keep f g gb).2) gp).1), ((d_X13_ends ((d_X13_doSetSeed x ((d_X13_keep f g gb).1) g).1) 0 k ((d_X13_doSetSeed x ((d_X13_keep f g gb).1) g).2.1) ((d_X13_doSetSeed x ((d_X13_keep f g gb).1) g).2.2) ((d_X13_keep f g gb).2) gp).2.1), ((d_X13_ends ((d_X13_doSetSeed x ((d_X13_keep f g gb).1) g).1) 0 k ((d_X13_doSetSeed x ((d_X13_keep f g gb).1) g).2.1) ((d_X13_doSetSeed x ((d_X13_keep f g gb).1) g).2.2) ((d_X13_keep f g gb).2) gp).2.2.1), ((d_X13_keep f g gb).2), ((d_X13_ends ((d_X13_doSetSeed x ((d_X13_keep f g gb).1) g).1) 0 k ((d_X13_doSetSeed x ((d_X13_keep f g gb).1) g).2.1) ((d_X13_doSetSeed x ((d_X13_keep f g gb).1) g).2.2) ((d_X13_keep f g gb).2) gp).2.2.2)) := by rw [d_X13_setSeed]
  exact pm_ireturn B dX13_setSeed_14 rfl (by first | rfl | (apply pm_nz; first | assumption | decide | exact pm_in01 _ _ _ | simp)) ⟨(by rw [hDq1]), rfl, by rw [hDq1]⟩ rfl rfl
def d_X13_doSetThreshold (x : Int32) (f : Nat → Int32) (g : Nat → Int32) : (Int32 × (Nat → Int32) × (Nat → Int32)) := if (pm_in x 1 99) = 0 then (0, (upd f 6 1), g) else (if x = (g 3) then (0, (upd (upd (upd f 7 7) 8 x) 6 2), g) else ((g 3), f, (upd g 3 x)))
set_option maxRecDepth 100000 in
set_option maxHeartbeats 8000000 in
theorem c_X13_doSetThreshold {l : Launch} {z : Nat} {D : va_G} {kA : Nat → ClassId} {kE : Nat → Nat} {nx : Nat} {M : pm_M} {x : Int32}{m0 : Nat} {f : Nat → Int32} {g : Nat → Int32} (hM : M m0 = some (pm_mo z m0 f)) (hg : M (m0 + 1) = some (.inl (kA 0, 91, .inl g))) : pm_C l z D kA kE yX13_doSetThreshold cX13_doSetThreshold 3 (some .int) 2 0 0 [.ref (z + m0), .int x] nx M (pm_rt (some (.int ((d_X13_doSetThreshold x f g).1))) nx (pm_up (pm_up M m0 (pm_mo z m0 ((d_X13_doSetThreshold x f g).2.1))) (m0 + 1) (.inl (kA 0, 91, .inl ((d_X13_doSetThreshold x f g).2.2))))) := by
  refine pm_mk (own := RX13) (nm := "doSetThreshold") mt_X13_doSetThreshold rfl rfl rfl rfl fun X B => ?_
  refine pm_loc (L' := [some (.ref (z + m0)), some (.int x), none]) rfl ?_
  refine pm_mem (M' := pm_up (pm_up M m0 (pm_mo z m0 f)) (m0 + 1) (.inl (kA 0, 91, .inl g))) (by rw [pm_up_id hM, pm_up_id hg]) ?_
  refine pm_iload_n B dX13_doSetThreshold_0 rfl ?_
  refine pm_iconst (v := 1) B dX13_doSetThreshold_1 (by decide) ?_
  refine pm_bipush (v := 99) B dX13_doSetThreshold_2 (by decide) ?_
  refine pm_cS (As := [.int x, .int 1, .int 99]) (mc2 := 0) (ms2 := 0) B c_X13_in mt_X13_in ss_X13_70 dX13_doSetThreshold_4 rfl rfl rfl rfl rfl ?_
  refine pm_stk (st' := [.int (pm_in x 1 99)]) rfl ?_
  refine pm_if_ne (tgt := 16) B dX13_doSetThreshold_7 (by decide) (fun hq1 => ?_) (fun hq1 => ?_)
  · refine pm_iload_n B dX13_doSetThreshold_16 rfl ?_
    refine pm_aload_n B dX13_doSetThreshold_17 rfl ?_
    refine pm_get B dX13_doSetThreshold_18 fl_X13_9 ((pm_up_n (by omega)).trans pm_up_s) rfl ?_
    refine pm_iconst (v := 3) B dX13_doSetThreshold_21 (by decide) ?_
    refine pm_iald_n B dX13_doSetThreshold_22 pm_up_s 3 (by decide) (by decide) ?_
    refine pm_icmp_ne (tgt := 35) B dX13_doSetThreshold_23 (by decide) (fun hq2 => ?_) (fun hq2 => ?_)
    · refine pm_aload_n B dX13_doSetThreshold_35 rfl ?_
      refine pm_get B dX13_doSetThreshold_36 fl_X13_9 ((pm_up_n (by omega)).trans pm_up_s) rfl ?_
      refine pm_iconst (v := 3) B dX13_doSetThreshold_39 (by decide) ?_
      refine pm_iald_n B dX13_doSetThreshold_40 pm_up_s 3 (by decide) (by decide) ?_
      refine pm_istore_n B dX13_doSetThreshold_41 rfl rfl ?_
      refine pm_loc (L' := [some (.ref (z + m0)), some (.int x), some (.int (g 3))]) rfl ?_
      refine pm_aload_n B dX13_doSetThreshold_42 rfl ?_
      refine pm_get B dX13_doSetThreshold_43 fl_X13_9 ((pm_up_n (by omega)).trans pm_up_s) rfl ?_
      refine pm_iconst (v := 3) B dX13_doSetThreshold_46 (by decide) ?_
      refine pm_iload_n B dX13_doSetThreshold_47 rfl ?_
      refine pm_iast_n B dX13_doSetThreshold_48 pm_up_s 3 (by decide) (by decide) ?_
      refine pm_mem (M' := pm_up (pm_up M m0 (pm_mo z m0 f)) (m0 + 1) (.inl (kA 0, 91, .inl (upd g 3 x)))) pm_up_up ?_
      refine pm_iload_n B dX13_doSetThreshold_49 rfl ?_
      have hDq3 : (d_X13_doSetThreshold x f g) = ((g 3), f, (upd g 3 x)) := by rw [d_X13_doSetThreshold, if_neg hq1, if_neg hq2]
      exact pm_ireturn B dX13_doSetThreshold_50 rfl (by first | rfl | (apply pm_nz; first | assumption | decide | exact pm_in01 _ _ _ | simp)) ⟨(by rw [hDq3]), rfl, by rw [hDq3]⟩ rfl rfl
    · refine pm_aload_n B dX13_doSetThreshold_26 rfl ?_
      refine pm_iconst (v := 2) B dX13_doSetThreshold_27 (by decide) ?_
      refine pm_bipush (v := 7) B dX13_doSetThreshold_28 (by decide) ?_
      refine pm_iload_n B dX13_doSetThreshold_30 rfl ?_
      refine pm_cV (As := [.int 2, .int 7, .int x]) (mc2 := 0) (ms2 := 0) B rfl ((pm_up_n (by omega)).trans pm_up_s) rfl (c_X13_denies (f := f) ((pm_up_n (by omega)).trans pm_up_s)) mt_X13_denies sv_X13_83 dX13_doSetThreshold_31 rfl rfl rfl rfl rfl ?_
      refine pm_mem (M' := pm_up (pm_up (pm_up M m0 (pm_mo z m0 f)) (m0 + 1) (.inl (kA 0, 91, .inl g))) m0 (pm_mo z m0 (upd (upd (upd f 7 7) 8 x) 6 2))) rfl ?_
      refine pm_mem (M' := pm_up (pm_up M m0 (pm_mo z m0 (upd (upd (upd f 7 7) 8 x) 6 2))) (m0 + 1) (.inl (kA 0, 91, .inl g))) (by rw [pm_up_sw (a := m0 + 1) (b := m0) (by omega), pm_up_up]) ?_
      refine pm_stk (st' := [.int 0]) rfl ?_
      have hDq4 : (d_X13_doSetThreshold x f g) = (0, (upd (upd (upd f 7 7) 8 x) 6 2), g) := by rw [d_X13_doSetThreshold, if_neg hq1, if_pos hq2]
      exact pm_ireturn B dX13_doSetThreshold_34 rfl (by first | rfl | (apply pm_nz; first | assumption | decide | exact pm_in01 _ _ _ | simp)) ⟨(by rw [hDq4]), rfl, by rw [hDq4]⟩ rfl rfl
  · refine pm_aload_n B dX13_doSetThreshold_10 rfl ?_
    refine pm_iconst (v := 1) B dX13_doSetThreshold_11 (by decide) ?_
    refine pm_cV (As := [.int 1]) (mc2 := 0) (ms2 := 0) B rfl ((pm_up_n (by omega)).trans pm_up_s) rfl (c_X13_fails (f := f) ((pm_up_n (by omega)).trans pm_up_s)) mt_X13_fails sv_X13_66 dX13_doSetThreshold_12 rfl rfl rfl rfl rfl ?_
    refine pm_mem (M' := pm_up (pm_up (pm_up M m0 (pm_mo z m0 f)) (m0 + 1) (.inl (kA 0, 91, .inl g))) m0 (pm_mo z m0 (upd f 6 1))) rfl ?_
    refine pm_mem (M' := pm_up (pm_up M m0 (pm_mo z m0 (upd f 6 1))) (m0 + 1) (.inl (kA 0, 91, .inl g))) (by rw [pm_up_sw (a := m0 + 1) (b := m0) (by omega), pm_up_up]) ?_
    refine pm_stk (st' := [.int 0]) rfl ?_
    have hDq5 : (d_X13_doSetThreshold x f g) = (0, (upd f 6 1), g) := by rw [d_X13_doSetThreshold, if_pos hq1]
    exact pm_ireturn B dX13_doSetThreshold_15 rfl (by first | rfl | (apply pm_nz; first | assumption | decide | exact pm_in01 _ _ _ | simp)) ⟨(by rw [hDq5]), rfl, by rw [hDq5]⟩ rfl rfl
theorem d_X13_doSetThreshold_k_f5 (x : Int32) (f : Nat → Int32) (g : Nat → Int32) : ((d_X13_doSetThreshold x f g).2.1) 5 = f 5 := by
  unfold d_X13_doSetThreshold
  (repeat' split) <;> rfl
def d_X13_setThreshold (x : Int32) (k : Nat) (f : Nat → Int32) (g : Nat → Int32) (gb : Nat → Int32) (gp : Nat → Int32) : (Int32 × (Nat → Int32) × (Nat → Int32) × (Nat → Int32) × (Nat → Int32)) := (((d_X13_ends ((d_X13_doSetThreshold x ((d_X13_keep f g gb).1) g).1) 0 k ((d_X13_doSetThreshold x ((d_X13_keep f g gb).1) g).2.1) ((d_X13_doSetThreshold x ((d_X13_keep f g gb).1) g).2.2) ((d_X13_keep f g gb).2) gp).1), ((d_X13_ends ((d_X13_doSetThreshold x ((d_X13_keep f g gb).1) g).1) 0 k ((d_X13_doSetThreshold x ((d_X13_keep f g gb).1) g).2.1) ((d_X13_doSetThreshold x ((d_X13_keep f g gb).1) g).2.2) ((d_X13_keep f g gb).2) gp).2.1), ((d_X13_ends ((d_X13_doSetThreshold x ((d_X13_keep f g gb).1) g).1) 0 k ((d_X13_doSetThreshold x ((d_X13_keep f g gb).1) g).2.1) ((d_X13_doSetThreshold x ((d_X13_keep f g gb).1) g).2.2) ((d_X13_keep f g gb).2) gp).2.2.1), ((d_X13_keep f g gb).2), ((d_X13_ends ((d_X13_doSetThreshold x ((d_X13_keep f g gb).1) g).1) 0 k ((d_X13_doSetThreshold x ((d_X13_keep f g gb).1) g).2.1) ((d_X13_doSetThreshold x ((d_X13_keep f g gb).1) g).2.2) ((d_X13_keep f g gb).2) gp).2.2.2))
set_option maxRecDepth 100000 in
set_option maxHeartbeats 8000000 in
theorem c_X13_setThreshold {l : Launch} {z : Nat} {D : va_G} {kA : Nat → ClassId} {kE : Nat → Nat} {nx : Nat} {M : pm_M} {x : Int32} {k : Nat}{m0 : Nat} {f : Nat → Int32} {g : Nat → Int32} {gb : Nat → Int32} {gp : Nat → Int32} (hM : M m0 = some (pm_mo z m0 f)) (hg : M (m0 + 1) = some (.inl (kA 0, 91, .inl g))) (hgb : M (m0 + 2) = some (.inl (kA 0, 91, .inl gb))) (hgp : M (m0 + 4) = some (.inl (kA 0, 728, .inl gp))) (hf5 : f 5 = nI k) (h8 : k ≤ 8) : pm_C l z D kA kE yX13_setThreshold cX13_setThreshold 2 (some .int) 3 0 0 [.ref (z + m0), .int x] nx M (pm_rt (some (.int ((d_X13_setThreshold x k f g gb gp).1))) nx (pm_up (pm_up (pm_up (pm_up M m0 (pm_mo z m0 ((d_X13_setThreshold x k f g gb gp).2.1))) (m0 + 1) (.inl (kA 0, 91, .inl ((d_X13_setThreshold x k f g gb gp).2.2.1)))) (m0 + 2) (.inl (kA 0, 91, .inl ((d_X13_setThreshold x k f g gb gp).2.2.2.1)))) (m0 + 4) (.inl (kA 0, 728, .inl ((d_X13_setThreshold x k f g gb gp).2.2.2.2))))) := by
  refine pm_mk (own := RX13) (nm := "setThreshold") mt_X13_setThreshold rfl rfl rfl rfl fun X B => ?_
  refine pm_loc (L' := [some (.ref (z + m0)), some (.int x)]) rfl ?_
  refine pm_mem (M' := pm_up (pm_up (pm_up (pm_up M m0 (pm_mo z m0 f)) (m0 + 1) (.inl (kA 0, 91, .inl g))) (m0 + 2) (.inl (kA 0, 91, .inl gb))) (m0 + 4) (.inl (kA 0, 728, .inl gp))) (by rw [pm_up_id hM, pm_up_id hg, pm_up_id hgb, pm_up_id hgp]) ?_
  refine pm_aload_n B dX13_setThreshold_0 rfl ?_
  refine pm_cV (As := []) (mc2 := 0) (ms2 := 0) B rfl ((pm_up_n (by omega)).trans ((pm_up_n (by omega)).trans ((pm_up_n (by omega)).trans pm_up_s))) rfl (c_X13_keep (f := f) (g := g) (gb := gb) ((pm_up_n (by omega)).trans ((pm_up_n (by omega)).trans ((pm_up_n (by omega)).trans pm_up_s))) ((pm_up_n (by omega)).trans ((pm_up_n (by omega)).trans pm_up_s)) ((pm_up_n (by omega)).trans pm_up_s) ) mt_X13_keep sv_X13_91 dX13_setThreshold_1 rfl rfl rfl rfl rfl ?_
  refine pm_mem (M' := pm_up (pm_up (pm_up (pm_up (pm_up (pm_up M m0 (pm_mo z m0 f)) (m0 + 1) (.inl (kA 0, 91, .inl g))) (m0 + 2) (.inl (kA 0, 91, .inl gb))) (m0 + 4) (.inl (kA 0, 728, .inl gp))) m0 (pm_mo z m0 ((d_X13_keep f g gb).1))) (m0 + 2) (.inl (kA 0, 91, .inl ((d_X13_keep f g gb).2)))) rfl ?_
  refine pm_mem (M' := pm_up (pm_up (pm_up (pm_up (pm_up M m0 (pm_mo z m0 ((d_X13_keep f g gb).1))) (m0 + 1) (.inl (kA 0, 91, .inl g))) (m0 + 2) (.inl (kA 0, 91, .inl gb))) (m0 + 4) (.inl (kA 0, 728, .inl gp))) (m0 + 2) (.inl (kA 0, 91, .inl ((d_X13_keep f g gb).2)))) (by rw [pm_up_sw (a := m0 + 4) (b := m0) (by omega), pm_up_sw (a := m0 + 2) (b := m0) (by omega), pm_up_sw (a := m0 + 1) (b := m0) (by omega), pm_up_up (a := m0)]) ?_
  refine pm_mem (M' := pm_up (pm_up (pm_up (pm_up M m0 (pm_mo z m0 ((d_X13_keep f g gb).1))) (m0 + 1) (.inl (kA 0, 91, .inl g))) (m0 + 2) (.inl (kA 0, 91, .inl ((d_X13_keep f g gb).2)))) (m0 + 4) (.inl (kA 0, 728, .inl gp))) (by rw [pm_up_sw (a := m0 + 4) (b := m0 + 2) (by omega), pm_up_up (a := m0 + 2)]) ?_
  refine pm_stk (st' := []) rfl ?_
  refine pm_aload_n B dX13_setThreshold_4 rfl ?_
  refine pm_aload_n B dX13_setThreshold_5 rfl ?_
  refine pm_iload_n B dX13_setThreshold_6 rfl ?_
  refine pm_cV (As := [.int x]) (mc2 := 0) (ms2 := 0) B rfl ((pm_up_n (by omega)).trans ((pm_up_n (by omega)).trans ((pm_up_n (by omega)).trans pm_up_s))) rfl (c_X13_doSetThreshold (x := x) (f := ((d_X13_keep f g gb).1)) (g := g) ((pm_up_n (by omega)).trans ((pm_up_n (by omega)).trans ((pm_up_n (by omega)).trans pm_up_s))) ((pm_up_n (by omega)).trans ((pm_up_n (by omega)).trans pm_up_s)) ) mt_X13_doSetThreshold sv_X13_178 dX13_setThreshold_7 rfl rfl rfl rfl rfl ?_
  refine pm_mem (M' := pm_up (pm_up (pm_up (pm_up (pm_up (pm_up M m0 (pm_mo z m0 ((d_X13_keep f g gb).1))) (m0 + 1) (.inl (kA 0, 91, .inl g))) (m0 + 2) (.inl (kA 0, 91, .inl ((d_X13_keep f g gb).2)))) (m0 + 4) (.inl (kA 0, 728, .inl gp))) m0 (pm_mo z m0 ((d_X13_doSetThreshold x ((d_X13_keep f g gb).1) g).2.1))) (m0 + 1) (.inl (kA 0, 91, .inl ((d_X13_doSetThreshold x ((d_X13_keep f g gb).1) g).2.2)))) rfl ?_
  refine pm_mem (M' := pm_up (pm_up (pm_up (pm_up (pm_up M m0 (pm_mo z m0 ((d_X13_doSetThreshold x ((d_X13_keep f g gb).1) g).2.1))) (m0 + 1) (.inl (kA 0, 91, .inl g))) (m0 + 2) (.inl (kA 0, 91, .inl ((d_X13_keep f g gb).2)))) (m0 + 4) (.inl (kA 0, 728, .inl gp))) (m0 + 1) (.inl (kA 0, 91, .inl ((d_X13_doSetThreshold x ((d_X13_keep f g gb).1) g).2.2)))) (by rw [pm_up_sw (a := m0 + 4) (b := m0) (by omega), pm_up_sw (a := m0 + 2) (b := m0) (by omega), pm_up_sw (a := m0 + 1) (b := m0) (by omega), pm_up_up (a := m0)]) ?_
  refine pm_mem (M' := pm_up (pm_up (pm_up (pm_up M m0 (pm_mo z m0 ((d_X13_doSetThreshold x ((d_X13_keep f g gb).1) g).2.1))) (m0 + 1) (.inl (kA 0, 91, .inl ((d_X13_doSetThreshold x ((d_X13_keep f g gb).1) g).2.2)))) (m0 + 2) (.inl (kA 0, 91, .inl ((d_X13_keep f g gb).2)))) (m0 + 4) (.inl (kA 0, 728, .inl gp))) (by rw [pm_up_sw (a := m0 + 4) (b := m0 + 1) (by omega), pm_up_sw (a := m0 + 2) (b := m0 + 1) (by omega), pm_up_up (a := m0 + 1)]) ?_
  refine pm_stk (st' := [.int ((d_X13_doSetThreshold x ((d_X13_keep f g gb).1) g).1), .ref (z + m0)]) rfl ?_
  refine pm_iconst (v := 0) B dX13_setThreshold_10 (by decide) ?_
  refine pm_cV (As := [.int ((d_X13_doSetThreshold x ((d_X13_keep f g gb).1) g).1), .int 0]) (mc2 := 0) (ms2 := 0) B rfl ((pm_up_n (by omega)).trans ((pm_up_n (by omega)).trans ((pm_up_n (by omega)).trans pm_up_s))) rfl (c_X13_ends (x := ((d_X13_doSetThreshold x ((d_X13_keep f g gb).1) g).1)) (y := 0) (k := k) (f := ((d_X13_doSetThreshold x ((d_X13_keep f g gb).1) g).2.1)) (g := ((d_X13_doSetThreshold x ((d_X13_keep f g gb).1) g).2.2)) (gb := ((d_X13_keep f g gb).2)) (gp := gp) ((pm_up_n (by omega)).trans ((pm_up_n (by omega)).trans ((pm_up_n (by omega)).trans pm_up_s))) ((pm_up_n (by omega)).trans ((pm_up_n (by omega)).trans pm_up_s)) ((pm_up_n (by omega)).trans pm_up_s) pm_up_s (show ((d_X13_doSetThreshold x ((d_X13_keep f g gb).1) g).2.1) 5 = (nI k) from by rw [((d_X13_doSetThreshold_k_f5 x ((d_X13_keep f g gb).1) g).trans ((d_X13_keep_k_f5  f g gb).trans hf5))]) (by first | assumption | omega)) mt_X13_ends sv_X13_97 dX13_setThreshold_11 rfl rfl rfl rfl rfl ?_
  refine pm_mem (M' := pm_up (pm_up (pm_up (pm_up (pm_up (pm_up (pm_up M m0 (pm_mo z m0 ((d_X13_doSetThreshold x ((d_X13_keep f g gb).1) g).2.1))) (m0 + 1) (.inl (kA 0, 91, .inl ((d_X13_doSetThreshold x ((d_X13_keep f g gb).1) g).2.2)))) (m0 + 2) (.inl (kA 0, 91, .inl ((d_X13_keep f g gb).2)))) (m0 + 4) (.inl (kA 0, 728, .inl gp))) m0 (pm_mo z m0 ((d_X13_ends ((d_X13_doSetThreshold x ((d_X13_keep f g gb).1) g).1) 0 k ((d_X13_doSetThreshold x ((d_X13_keep f g gb).1) g).2.1) ((d_X13_doSetThreshold x ((d_X13_keep f g gb).1) g).2.2) ((d_X13_keep f g gb).2) gp).2.1))) (m0 + 1) (.inl (kA 0, 91, .inl ((d_X13_ends ((d_X13_doSetThreshold x ((d_X13_keep f g gb).1) g).1) 0 k ((d_X13_doSetThreshold x ((d_X13_keep f g gb).1) g).2.1) ((d_X13_doSetThreshold x ((d_X13_keep f g gb).1) g).2.2) ((d_X13_keep f g gb).2) gp).2.2.1)))) (m0 + 4) (.inl (kA 0, 728, .inl ((d_X13_ends ((d_X13_doSetThreshold x ((d_X13_keep f g gb).1) g).1) 0 k ((d_X13_doSetThreshold x ((d_X13_keep f g gb).1) g).2.1) ((d_X13_doSetThreshold x ((d_X13_keep f g gb).1) g).2.2) ((d_X13_keep f g gb).2) gp).2.2.2)))) rfl ?_
  refine pm_mem (M' := pm_up (pm_up (pm_up (pm_up (pm_up (pm_up M m0 (pm_mo z m0 ((d_X13_ends ((d_X13_doSetThreshold x ((d_X13_keep f g gb).1) g).1) 0 k ((d_X13_doSetThreshold x ((d_X13_keep f g gb).1) g).2.1) ((d_X13_doSetThreshold x ((d_X13_keep f g gb).1) g).2.2) ((d_X13_keep f g gb).2) gp).2.1))) (m0 + 1) (.inl (kA 0, 91, .inl ((d_X13_doSetThreshold x ((d_X13_keep f g gb).1) g).2.2)))) (m0 + 2) (.inl (kA 0, 91, .inl ((d_X13_keep f g gb).2)))) (m0 + 4) (.inl (kA 0, 728, .inl gp))) (m0 + 1) (.inl (kA 0, 91, .inl ((d_X13_ends ((d_X13_doSetThreshold x ((d_X13_keep f g gb).1) g).1) 0 k ((d_X13_doSetThreshold x ((d_X13_keep f g gb).1) g).2.1) ((d_X13_doSetThreshold x ((d_X13_keep f g gb).1) g).2.2) ((d_X13_keep f g gb).2) gp).2.2.1)))) (m0 + 4) (.inl (kA 0, 728, .inl ((d_X13_ends ((d_X13_doSetThreshold x ((d_X13_keep f g gb).1) g).1) 0 k ((d_X13_doSetThreshold x ((d_X13_keep f g gb).1) g).2.1) ((d_X13_doSetThreshold x ((d_X13_keep f g gb).1) g).2.2) ((d_X13_keep f g gb).2) gp).2.2.2)))) (by rw [pm_up_sw (a := m0 + 4) (b := m0) (by omega), pm_up_sw (a := m0 + 2) (b := m0) (by omega), pm_up_sw (a := m0 + 1) (b := m0) (by omega), pm_up_up (a := m0)]) ?_
  refine pm_mem (M' := pm_up (pm_up (pm_up (pm_up (pm_up M m0 (pm_mo z m0 ((d_X13_ends ((d_X13_doSetThreshold x ((d_X13_keep f g gb).1) g).1) 0 k ((d_X13_doSetThreshold x ((d_X13_keep f g gb).1) g).2.1) ((d_X13_doSetThreshold x ((d_X13_keep f g gb).1) g).2.2) ((d_X13_keep f g gb).2) gp).2.1))) (m0 + 1) (.inl (kA 0, 91, .inl ((d_X13_ends ((d_X13_doSetThreshold x ((d_X13_keep f g gb).1) g).1) 0 k ((d_X13_doSetThreshold x ((d_X13_keep f g gb).1) g).2.1) ((d_X13_doSetThreshold x ((d_X13_keep f g gb).1) g).2.2) ((d_X13_keep f g gb).2) gp).2.2.1)))) (m0 + 2) (.inl (kA 0, 91, .inl ((d_X13_keep f g gb).2)))) (m0 + 4) (.inl (kA 0, 728, .inl gp))) (m0 + 4) (.inl (kA 0, 728, .inl ((d_X13_ends ((d_X13_doSetThreshold x ((d_X13_keep f g gb).1) g).1) 0 k ((d_X13_doSetThreshold x ((d_X13_keep f g gb).1) g).2.1) ((d_X13_doSetThreshold x ((d_X13_keep f g gb).1) g).2.2) ((d_X13_keep f g gb).2) gp).2.2.2)))) (by rw [pm_up_sw (a := m0 + 4) (b := m0 + 1) (by omega), pm_up_sw (a := m0 + 2) (b := m0 + 1) (by omega), pm_up_up (a := m0 + 1)]) ?_
  refine pm_mem (M' := pm_up (pm_up (pm_up (pm_up M m0 (pm_mo z m0 ((d_X13_ends ((d_X13_doSetThreshold x ((d_X13_keep f g gb).1) g).1) 0 k ((d_X13_doSetThreshold x ((d_X13_keep f g gb).1) g).2.1) ((d_X13_doSetThreshold x ((d_X13_keep f g gb).1) g).2.2) ((d_X13_keep f g gb).2) gp).2.1))) (m0 + 1) (.inl (kA 0, 91, .inl ((d_X13_ends ((d_X13_doSetThreshold x ((d_X13_keep f g gb).1) g).1) 0 k ((d_X13_doSetThreshold x ((d_X13_keep f g gb).1) g).2.1) ((d_X13_doSetThreshold x ((d_X13_keep f g gb).1) g).2.2) ((d_X13_keep f g gb).2) gp).2.2.1)))) (m0 + 2) (.inl (kA 0, 91, .inl ((d_X13_keep f g gb).2)))) (m0 + 4) (.inl (kA 0, 728, .inl ((d_X13_ends ((d_X13_doSetThreshold x ((d_X13_keep f g gb).1) g).1) 0 k ((d_X13_doSetThreshold x ((d_X13_keep f g gb).1) g).2.1) ((d_X13_doSetThreshold x ((d_X13_keep f g gb).1) g).2.2) ((d_X13_keep f g gb).2) gp).2.2.2)))) (by rw [pm_up_up (a := m0 + 4)]) ?_
  refine pm_stk (st' := [.int ((d_X13_ends ((d_X13_doSetThreshold x ((d_X13_keep f g gb).1) g).1) 0 k ((d_X13_doSetThreshold x ((d_X13_keep f g gb).1) g).2.1) ((d_X13_doSetThreshold x ((d_X13_keep f g gb).1) g).2.2) ((d_X13_keep f g gb).2) gp).1)]) rfl ?_
  have hDq1 : (d_X13_setThreshold x k f g gb gp) = (((d_X13_ends ((d_X13_doSetThreshold x ((d_X13_keep f g gb).1) g).1) 0 k ((d_X13_doSetThreshold x ((d_X13_keep f g gb).1) g).2.1) ((d_X13_doSetThreshold x ((d_X13_keep f g gb).1) g).2.2) ((d_X13_keep f g gb).2) gp).1), ((d_X13_ends ((d_X13_doSetThreshold x ((d_X13_keep f g gb).1) g).1) 0 k ((d_X13_doSetThreshold x ((d_X13_keep f g gb).1) g).2.1) ((d_X13_doSetThreshold x ((d_X13_keep f g gb).1) g).2.2) ((d_X13_keep f g gb).2) gp).2.1), ((d_X13_ends ((d_X13_doSetThreshold x ((d_X13_keep f g gb).1) g).1) 0 k ((d_X13_doSetThreshold x ((d_X13_keep f g gb).1) g).2.1) ((d_X13_doSetThreshold x ((d_X13_keep f g gb).1) g).2.2) ((d_X13_keep f g gb).2) gp).2.2.1), ((d_X13_keep f g gb).2), ((d_X13_ends ((d_X13_doSetThreshold x ((d_X13_keep f g gb).1) g).1) 0 k ((d_X13_doSetThreshold x ((d_X13_keep f g gb).1) g).2.1) ((d_X13_doSetThreshold x ((d_X13_keep f g gb).1) g).2.2) ((d_X13_keep f g gb).2) gp).2.2.2)) := by rw [d_X13_setThreshold]
  exact pm_ireturn B dX13_setThreshold_14 rfl (by first | rfl | (apply pm_nz; first | assumption | decide | exact pm_in01 _ _ _ | simp)) ⟨(by rw [hDq1]), rfl, by rw [hDq1]⟩ rfl rfl
def d_X13_doSell (x : Int32) (y : Int32) (n : Nat) (f : Nat → Int32) (g : Nat → Int32) : (Int32 × (Nat → Int32) × (Nat → Int32)) := if (pm_in x 0 (nI n - 1)) = 0 then (0, (upd f 6 1), g) else (if (pm_in y 1 99) = 0 then (0, (upd f 6 2), g) else (if (pm_ib g (pm_n x)) = 0 then (if y ≤ ((g (7 + 5 * (pm_n x) + 0)) - (g (7 + 5 * (pm_n x) + 3))) then (((g (7 + 5 * (pm_n x) + 3)) + y), f, (upd g (7 + 5 * (pm_n x) + 3) ((g (7 + 5 * (pm_n x) + 3)) + y))) else (0, (upd (upd (upd f 7 3) 8 ((g (7 + 5 * (pm_n x) + 0)) - (g (7 + 5 * (pm_n x) + 3)))) 6 3), g)) else (0, (upd (upd (upd f 7 2) 8 (-(g (7 + 5 * (pm_n x) + 4)))) 6 3), g)))
set_option maxRecDepth 100000 in
set_option maxHeartbeats 8000000 in
theorem c_X13_doSell {l : Launch} {z : Nat} {D : va_G} {kA : Nat → ClassId} {kE : Nat → Nat} {nx : Nat} {M : pm_M} {x : Int32} {y : Int32} {n : Nat}{m0 : Nat} {f : Nat → Int32} {g : Nat → Int32} (hM : M m0 = some (pm_mo z m0 f)) (hg : M (m0 + 1) = some (.inl (kA 0, 91, .inl g))) (hn : g 0 = nI n) (h7 : n ≤ 7) : pm_C l z D kA kE yX13_doSell cX13_doSell 4 (some .int) 2 0 0 [.ref (z + m0), .int x, .int y] nx M (pm_rt (some (.int ((d_X13_doSell x y n f g).1))) nx (pm_up (pm_up M m0 (pm_mo z m0 ((d_X13_doSell x y n f g).2.1))) (m0 + 1) (.inl (kA 0, 91, .inl ((d_X13_doSell x y n f g).2.2))))) := by
  refine pm_mk (own := RX13) (nm := "doSell") mt_X13_doSell rfl rfl rfl rfl fun X B => ?_
  refine pm_loc (L' := [some (.ref (z + m0)), some (.int x), some (.int y), none]) rfl ?_
  refine pm_mem (M' := pm_up (pm_up M m0 (pm_mo z m0 f)) (m0 + 1) (.inl (kA 0, 91, .inl g))) (by rw [pm_up_id hM, pm_up_id hg]) ?_
  refine pm_aload_n B dX13_doSell_0 rfl ?_
  refine pm_iload_n B dX13_doSell_1 rfl ?_
  refine pm_cV (As := [.int x]) (mc2 := 0) (ms2 := 0) B rfl ((pm_up_n (by omega)).trans pm_up_s) rfl (c_X13_isMember (f := f) ((pm_up_n (by omega)).trans pm_up_s) pm_up_s) mt_X13_isMember sv_X13_100 dX13_doSell_2 rfl rfl rfl rfl rfl ?_
  refine pm_stk (st' := [.int (pm_in x 0 (g 0 - 1))]) rfl ?_
  refine pm_stk (st' := [.int (pm_in x 0 (nI n - 1))]) (by rw [show (pm_in x 0 (g 0 - 1)) = (pm_in x 0 (nI n - 1)) from by rw [hn]]) ?_
  refine pm_if_ne (tgt := 14) B dX13_doSell_5 (by decide) (fun hq1 => ?_) (fun hq1 => ?_)
  · obtain ⟨he_x, hl_x⟩ := pm_in_nx h7 hq1
    refine pm_loc (L' := [some (.ref (z + m0)), some (.int (nI (pm_n x))), some (.int y), none]) (congrArg (fun yy : Int32 => ([some (.ref (z + m0)), some (.int yy), some (.int y), none] : List (Option Value))) he_x) ?_
    refine pm_iload_n B dX13_doSell_14 rfl ?_
    refine pm_iconst (v := 1) B dX13_doSell_15 (by decide) ?_
    refine pm_bipush (v := 99) B dX13_doSell_16 (by decide) ?_
    refine pm_cS (As := [.int y, .int 1, .int 99]) (mc2 := 0) (ms2 := 0) B c_X13_in mt_X13_in ss_X13_70 dX13_doSell_18 rfl rfl rfl rfl rfl ?_
    refine pm_stk (st' := [.int (pm_in y 1 99)]) rfl ?_
    refine pm_if_ne (tgt := 30) B dX13_doSell_21 (by decide) (fun hq2 => ?_) (fun hq2 => ?_)
    · refine pm_aload_n B dX13_doSell_30 rfl ?_
      refine pm_iload_n B dX13_doSell_31 rfl ?_
      refine pm_cV (As := [.int (nI (pm_n x))]) (mc2 := 0) (ms2 := 0) B rfl ((pm_up_n (by omega)).trans pm_up_s) rfl (c_X13_isBarred (f := f) ((pm_up_n (by omega)).trans pm_up_s) pm_up_s (i := (pm_n x)) (by first | assumption | omega)) mt_X13_isBarred sv_X13_114 dX13_doSell_32 rfl rfl rfl rfl rfl ?_
      refine pm_stk (st' := [.int (pm_ib g (pm_n x))]) rfl ?_
      refine pm_if_eq (tgt := 52) B dX13_doSell_35 (by decide) (fun hq3 => ?_) (fun hq3 => ?_)
      · refine pm_aload_n B dX13_doSell_52 rfl ?_
        refine pm_iload_n B dX13_doSell_53 rfl ?_
        refine pm_iconst (v := 0) B dX13_doSell_54 (by decide) ?_
        refine pm_cV (As := [.int (nI (pm_n x)), .int (nI 0)]) (mc2 := 0) (ms2 := 0) B rfl ((pm_up_n (by omega)).trans pm_up_s) rfl (c_X13_of (f := f) ((pm_up_n (by omega)).trans pm_up_s) pm_up_s (i := (pm_n x)) (w := 0) (by first | assumption | omega) (by first | assumption | omega)) mt_X13_of sv_X13_74 dX13_doSell_55 rfl rfl rfl rfl rfl ?_
        refine pm_stk (st' := [.int (g (7 + 5 * (pm_n x) + 0))]) rfl ?_
        refine pm_aload_n B dX13_doSell_58 rfl ?_
        refine pm_iload_n B dX13_doSell_59 rfl ?_
        refine pm_iconst (v := 3) B dX13_doSell_60 (by decide) ?_
        refine pm_cV (As := [.int (nI (pm_n x)), .int (nI 3)]) (mc2 := 0) (ms2 := 0) B rfl ((pm_up_n (by omega)).trans pm_up_s) rfl (c_X13_of (f := f) ((pm_up_n (by omega)).trans pm_up_s) pm_up_s (i := (pm_n x)) (w := 3) (by first | assumption | omega) (by first | assumption | omega)) mt_X13_of sv_X13_74 dX13_doSell_61 rfl rfl rfl rfl rfl ?_
        refine pm_stk (st' := [.int (g (7 + 5 * (pm_n x) + 3)), .int (g (7 + 5 * (pm_n x) + 0))]) rfl ?_
        refine pm_isub B dX13_doSell_64 ?_
        refine pm_istore_n B dX13_doSell_65 rfl rfl ?_
        refine pm_loc (L' := [some (.ref (z + m0)), some (.int (nI (pm_n x))), some (.int y), some (.int ((g (7 + 5 * (pm_n x) + 0)) - (g (7 + 5 * (pm_n x) + 3))))]) rfl ?_
        refine pm_iload_n B dX13_doSell_66 rfl ?_
        refine pm_iload_n B dX13_doSell_67 rfl ?_
        refine pm_icmp_le (tgt := 79) B dX13_doSell_68 (by decide) (fun hq4 => ?_) (fun hq4 => ?_)
        · refine pm_aload_n B dX13_doSell_79 rfl ?_
          refine pm_iload_n B dX13_doSell_80 rfl ?_
          refine pm_iconst (v := 3) B dX13_doSell_81 (by decide) ?_
          refine pm_aload_n B dX13_doSell_82 rfl ?_
          refine pm_iload_n B dX13_doSell_83 rfl ?_
          refine pm_iconst (v := 3) B dX13_doSell_84 (by decide) ?_
          refine pm_cV (As := [.int (nI (pm_n x)), .int (nI 3)]) (mc2 := 0) (ms2 := 0) B rfl ((pm_up_n (by omega)).trans pm_up_s) rfl (c_X13_of (f := f) ((pm_up_n (by omega)).trans pm_up_s) pm_up_s (i := (pm_n x)) (w := 3) (by first | assumption | omega) (by first | assumption | omega)) mt_X13_of sv_X13_74 dX13_doSell_85 rfl rfl rfl rfl rfl ?_
          refine pm_stk (st' := [.int (g (7 + 5 * (pm_n x) + 3)), .int 3, .int (nI (pm_n x)), .ref (z + m0)]) rfl ?_
          refine pm_iload_n B dX13_doSell_88 rfl ?_
          refine pm_iadd B dX13_doSell_89 ?_
          refine pm_cV (As := [.int (nI (pm_n x)), .int (nI 3), .int ((g (7 + 5 * (pm_n x) + 3)) + y)]) (mc2 := 0) (ms2 := 0) B rfl ((pm_up_n (by omega)).trans pm_up_s) rfl (c_X13_sets (f := f) ((pm_up_n (by omega)).trans pm_up_s) pm_up_s (i := (pm_n x)) (w := 3) (by first | assumption | omega) (by first | assumption | omega)) mt_X13_sets sv_X13_87 dX13_doSell_90 rfl rfl rfl rfl rfl ?_
          refine pm_mem (M' := pm_up (pm_up M m0 (pm_mo z m0 f)) (m0 + 1) (.inl (kA 0, 91, .inl (upd g (7 + 5 * (pm_n x) + 3) ((g (7 + 5 * (pm_n x) + 3)) + y))))) pm_up_up ?_
          refine pm_stk (st' := []) rfl ?_
          refine pm_aload_n B dX13_doSell_93 rfl ?_
          refine pm_iload_n B dX13_doSell_94 rfl ?_
          refine pm_iconst (v := 3) B dX13_doSell_95 (by decide) ?_
          refine pm_cV (As := [.int (nI (pm_n x)), .int (nI 3)]) (mc2 := 0) (ms2 := 0) B rfl ((pm_up_n (by omega)).trans pm_up_s) rfl (c_X13_of (f := f) ((pm_up_n (by omega)).trans pm_up_s) pm_up_s (i := (pm_n x)) (w := 3) (by first | assumption | omega) (by first | assumption | omega)) mt_X13_of sv_X13_74 dX13_doSell_96 rfl rfl rfl rfl rfl ?_
          refine pm_stk (st' := [.int ((upd g (7 + 5 * (pm_n x) + 3) ((g (7 + 5 * (pm_n x) + 3)) + y)) (7 + 5 * (pm_n x) + 3))]) rfl ?_
          refine pm_stk (st' := [.int ((g (7 + 5 * (pm_n x) + 3)) + y)]) (by rw [show ((upd g (7 + 5 * (pm_n x) + 3) ((g (7 + 5 * (pm_n x) + 3)) + y)) (7 + 5 * (pm_n x) + 3)) = ((g (7 + 5 * (pm_n x) + 3)) + y) from by rw [pk_us]]) ?_
          have hDq5 : (d_X13_doSell x y n f g) = (((g (7 + 5 * (pm_n x) + 3)) + y), f, (upd g (7 + 5 * (pm_n x) + 3) ((g (7 + 5 * (pm_n x) + 3)) + y))) := by rw [d_X13_doSell, if_neg hq1, if_neg hq2, if_pos hq3, if_pos hq4]
          exact pm_ireturn B dX13_doSell_99 rfl (by first | rfl | (apply pm_nz; first | assumption | decide | exact pm_in01 _ _ _ | simp)) ⟨(by rw [hDq5]), rfl, by rw [hDq5]⟩ rfl rfl
        · refine pm_aload_n B dX13_doSell_71 rfl ?_
          refine pm_iconst (v := 3) B dX13_doSell_72 (by decide) ?_
          refine pm_iconst (v := 3) B dX13_doSell_73 (by decide) ?_
          refine pm_iload_n B dX13_doSell_74 rfl ?_
          refine pm_cV (As := [.int 3, .int 3, .int ((g (7 + 5 * (pm_n x) + 0)) - (g (7 + 5 * (pm_n x) + 3)))]) (mc2 := 0) (ms2 := 0) B rfl ((pm_up_n (by omega)).trans pm_up_s) rfl (c_X13_denies (f := f) ((pm_up_n (by omega)).trans pm_up_s)) mt_X13_denies sv_X13_83 dX13_doSell_75 rfl rfl rfl rfl rfl ?_
          refine pm_mem (M' := pm_up (pm_up (pm_up M m0 (pm_mo z m0 f)) (m0 + 1) (.inl (kA 0, 91, .inl g))) m0 (pm_mo z m0 (upd (upd (upd f 7 3) 8 ((g (7 + 5 * (pm_n x) + 0)) - (g (7 + 5 * (pm_n x) + 3)))) 6 3))) rfl ?_
          refine pm_mem (M' := pm_up (pm_up M m0 (pm_mo z m0 (upd (upd (upd f 7 3) 8 ((g (7 + 5 * (pm_n x) + 0)) - (g (7 + 5 * (pm_n x) + 3)))) 6 3))) (m0 + 1) (.inl (kA 0, 91, .inl g))) (by rw [pm_up_sw (a := m0 + 1) (b := m0) (by omega), pm_up_up]) ?_
          refine pm_stk (st' := [.int 0]) rfl ?_
          have hDq6 : (d_X13_doSell x y n f g) = (0, (upd (upd (upd f 7 3) 8 ((g (7 + 5 * (pm_n x) + 0)) - (g (7 + 5 * (pm_n x) + 3)))) 6 3), g) := by rw [d_X13_doSell, if_neg hq1, if_neg hq2, if_pos hq3, if_neg hq4]
          exact pm_ireturn B dX13_doSell_78 rfl (by first | rfl | (apply pm_nz; first | assumption | decide | exact pm_in01 _ _ _ | simp)) ⟨(by rw [hDq6]), rfl, by rw [hDq6]⟩ rfl rfl
      · refine pm_aload_n B dX13_doSell_38 rfl ?_
        refine pm_iconst (v := 3) B dX13_doSell_39 (by decide) ?_
        refine pm_iconst (v := 2) B dX13_doSell_40 (by decide) ?_
        refine pm_aload_n B dX13_doSell_41 rfl ?_
        refine pm_iload_n B dX13_doSell_42 rfl ?_
        refine pm_iconst (v := 4) B dX13_doSell_43 (by decide) ?_
        refine pm_cV (As := [.int (nI (pm_n x)), .int (nI 4)]) (mc2 := 0) (ms2 := 0) B rfl ((pm_up_n (by omega)).trans pm_up_s) rfl (c_X13_of (f := f) ((pm_up_n (by omega)).trans pm_up_s) pm_up_s (i := (pm_n x)) (w := 4) (by first | assumption | omega) (by first | assumption | omega)) mt_X13_of sv_X13_74 dX13_doSell_44 rfl rfl rfl rfl rfl ?_
        refine pm_stk (st' := [.int (g (7 + 5 * (pm_n x) + 4)), .int 2, .int 3, .ref (z + m0)]) rfl ?_
        refine pm_ineg B dX13_doSell_47 ?_
        refine pm_cV (As := [.int 3, .int 2, .int (-(g (7 + 5 * (pm_n x) + 4)))]) (mc2 := 0) (ms2 := 0) B rfl ((pm_up_n (by omega)).trans pm_up_s) rfl (c_X13_denies (f := f) ((pm_up_n (by omega)).trans pm_up_s)) mt_X13_denies sv_X13_83 dX13_doSell_48 rfl rfl rfl rfl rfl ?_
        refine pm_mem (M' := pm_up (pm_up (pm_up M m0 (pm_mo z m0 f)) (m0 + 1) (.inl (kA 0, 91, .inl g))) m0 (pm_mo z m0 (upd (upd (upd f 7 2) 8 (-(g (7 + 5 * (pm_n x) + 4)))) 6 3))) rfl ?_
        refine pm_mem (M' := pm_up (pm_up M m0 (pm_mo z m0 (upd (upd (upd f 7 2) 8 (-(g (7 + 5 * (pm_n x) + 4)))) 6 3))) (m0 + 1) (.inl (kA 0, 91, .inl g))) (by rw [pm_up_sw (a := m0 + 1) (b := m0) (by omega), pm_up_up]) ?_
        refine pm_stk (st' := [.int 0]) rfl ?_
        have hDq7 : (d_X13_doSell x y n f g) = (0, (upd (upd (upd f 7 2) 8 (-(g (7 + 5 * (pm_n x) + 4)))) 6 3), g) := by rw [d_X13_doSell, if_neg hq1, if_neg hq2, if_neg hq3]
        exact pm_ireturn B dX13_doSell_51 rfl (by first | rfl | (apply pm_nz; first | assumption | decide | exact pm_in01 _ _ _ | simp)) ⟨(by rw [hDq7]), rfl, by rw [hDq7]⟩ rfl rfl
    · refine pm_aload_n B dX13_doSell_24 rfl ?_
      refine pm_iconst (v := 2) B dX13_doSell_25 (by decide) ?_
      refine pm_cV (As := [.int 2]) (mc2 := 0) (ms2 := 0) B rfl ((pm_up_n (by omega)).trans pm_up_s) rfl (c_X13_fails (f := f) ((pm_up_n (by omega)).trans pm_up_s)) mt_X13_fails sv_X13_66 dX13_doSell_26 rfl rfl rfl rfl rfl ?_
      refine pm_mem (M' := pm_up (pm_up (pm_up M m0 (pm_mo z m0 f)) (m0 + 1) (.inl (kA 0, 91, .inl g))) m0 (pm_mo z m0 (upd f 6 2))) rfl ?_
      refine pm_mem (M' := pm_up (pm_up M m0 (pm_mo z m0 (upd f 6 2))) (m0 + 1) (.inl (kA 0, 91, .inl g))) (by rw [pm_up_sw (a := m0 + 1) (b := m0) (by omega), pm_up_up]) ?_
      refine pm_stk (st' := [.int 0]) rfl ?_
      have hDq8 : (d_X13_doSell x y n f g) = (0, (upd f 6 2), g) := by rw [d_X13_doSell, if_neg hq1, if_pos hq2]
      exact pm_ireturn B dX13_doSell_29 rfl (by first | rfl | (apply pm_nz; first | assumption | decide | exact pm_in01 _ _ _ | simp)) ⟨(by rw [hDq8]), rfl, by rw [hDq8]⟩ rfl rfl
  · refine pm_aload_n B dX13_doSell_8 rfl ?_
    refine pm_iconst (v := 1) B dX13_doSell_9 (by decide) ?_
    refine pm_cV (As := [.int 1]) (mc2 := 0) (ms2 := 0) B rfl ((pm_up_n (by omega)).trans pm_up_s) rfl (c_X13_fails (f := f) ((pm_up_n (by omega)).trans pm_up_s)) mt_X13_fails sv_X13_66 dX13_doSell_10 rfl rfl rfl rfl rfl ?_
    refine pm_mem (M' := pm_up (pm_up (pm_up M m0 (pm_mo z m0 f)) (m0 + 1) (.inl (kA 0, 91, .inl g))) m0 (pm_mo z m0 (upd f 6 1))) rfl ?_
    refine pm_mem (M' := pm_up (pm_up M m0 (pm_mo z m0 (upd f 6 1))) (m0 + 1) (.inl (kA 0, 91, .inl g))) (by rw [pm_up_sw (a := m0 + 1) (b := m0) (by omega), pm_up_up]) ?_
    refine pm_stk (st' := [.int 0]) rfl ?_
    have hDq9 : (d_X13_doSell x y n f g) = (0, (upd f 6 1), g) := by rw [d_X13_doSell, if_pos hq1]
    exact pm_ireturn B dX13_doSell_13 rfl (by first | rfl | (apply pm_nz; first | assumption | decide | exact pm_in01 _ _ _ | simp)) ⟨(by rw [hDq9]), rfl, by rw [hDq9]⟩ rfl rfl
theorem d_X13_doSell_k_f5 (x : Int32) (y : Int32) (n : Nat) (f : Nat → Int32) (g : Nat → Int32) : ((d_X13_doSell x y n f g).2.1) 5 = f 5 := by
  unfold d_X13_doSell
  (repeat' split) <;> rfl
def d_X13_sell (x : Int32) (y : Int32) (n : Nat) (k : Nat) (f : Nat → Int32) (g : Nat → Int32) (gb : Nat → Int32) (gp : Nat → Int32) : (Int32 × (Nat → Int32) × (Nat → Int32) × (Nat → Int32) × (Nat → Int32)) := (((d_X13_ends ((d_X13_doSell x y n ((d_X13_keep f g gb).1) g).1) 0 k ((d_X13_doSell x y n ((d_X13_keep f g gb).1) g).2.1) ((d_X13_doSell x y n ((d_X13_keep f g gb).1) g).2.2) ((d_X13_keep f g gb).2) gp).1), ((d_X13_ends ((d_X13_doSell x y n ((d_X13_keep f g gb).1) g).1) 0 k ((d_X13_doSell x y n ((d_X13_keep f g gb).1) g).2.1) ((d_X13_doSell x y n ((d_X13_keep f g gb).1) g).2.2) ((d_X13_keep f g gb).2) gp).2.1), ((d_X13_ends ((d_X13_doSell x y n ((d_X13_keep f g gb).1) g).1) 0 k ((d_X13_doSell x y n ((d_X13_keep f g gb).1) g).2.1) ((d_X13_doSell x y n ((d_X13_keep f g gb).1) g).2.2) ((d_X13_keep f g gb).2) gp).2.2.1), ((d_X13_keep f g gb).2), ((d_X13_ends ((d_X13_doSell x y n ((d_X13_keep f g gb).1) g).1) 0 k ((d_X13_doSell x y n ((d_X13_keep f g gb).1) g).2.1) ((d_X13_doSell x y n ((d_X13_keep f g gb).1) g).2.2) ((d_X13_keep f g gb).2) gp).2.2.2))
set_option maxRecDepth 100000 in
set_option maxHeartbeats 8000000 in
theorem c_X13_sell {l : Launch} {z : Nat} {D : va_G} {kA : Nat → ClassId} {kE : Nat → Nat} {nx : Nat} {M : pm_M} {x : Int32} {y : Int32} {n : Nat} {k : Nat}{m0 : Nat} {f : Nat → Int32} {g : Nat → Int32} {gb : Nat → Int32} {gp : Nat → Int32} (hM : M m0 = some (pm_mo z m0 f)) (hg : M (m0 + 1) = some (.inl (kA 0, 91, .inl g))) (hgb : M (m0 + 2) = some (.inl (kA 0, 91, .inl gb))) (hgp : M (m0 + 4) = some (.inl (kA 0, 728, .inl gp))) (hn : g 0 = nI n) (h7 : n ≤ 7) (hf5 : f 5 = nI k) (h8 : k ≤ 8) : pm_C l z D kA kE yX13_sell cX13_sell 3 (some .int) 3 0 0 [.ref (z + m0), .int x, .int y] nx M (pm_rt (some (.int ((d_X13_sell x y n k f g gb gp).1))) nx (pm_up (pm_up (pm_up (pm_up M m0 (pm_mo z m0 ((d_X13_sell x y n k f g gb gp).2.1))) (m0 + 1) (.inl (kA 0, 91, .inl ((d_X13_sell x y n k f g gb gp).2.2.1)))) (m0 + 2) (.inl (kA 0, 91, .inl ((d_X13_sell x y n k f g gb gp).2.2.2.1)))) (m0 + 4) (.inl (kA 0, 728, .inl ((d_X13_sell x y n k f g gb gp).2.2.2.2))))) := by
  refine pm_mk (own := RX13) (nm := "sell") mt_X13_sell rfl rfl rfl rfl fun X B => ?_
  refine pm_loc (L' := [some (.ref (z + m0)), some (.int x), some (.int y)]) rfl ?_
  refine pm_mem (M' := pm_up (pm_up (pm_up (pm_up M m0 (pm_mo z m0 f)) (m0 + 1) (.inl (kA 0, 91, .inl g))) (m0 + 2) (.inl (kA 0, 91, .inl gb))) (m0 + 4) (.inl (kA 0, 728, .inl gp))) (by rw [pm_up_id hM, pm_up_id hg, pm_up_id hgb, pm_up_id hgp]) ?_
  refine pm_aload_n B dX13_sell_0 rfl ?_
  refine pm_cV (As := []) (mc2 := 0) (ms2 := 0) B rfl ((pm_up_n (by omega)).trans ((pm_up_n (by omega)).trans ((pm_up_n (by omega)).trans pm_up_s))) rfl (c_X13_keep (f := f) (g := g) (gb := gb) ((pm_up_n (by omega)).trans ((pm_up_n (by omega)).trans ((pm_up_n (by omega)).trans pm_up_s))) ((pm_up_n (by omega)).trans ((pm_up_n (by omega)).trans pm_up_s)) ((pm_up_n (by omega)).trans pm_up_s) ) mt_X13_keep sv_X13_91 dX13_sell_1 rfl rfl rfl rfl rfl ?_
  refine pm_mem (M' := pm_up (pm_up (pm_up (pm_up (pm_up (pm_up M m0 (pm_mo z m0 f)) (m0 + 1) (.inl (kA 0, 91, .inl g))) (m0 + 2) (.inl (kA 0, 91, .inl gb))) (m0 + 4) (.inl (kA 0, 728, .inl gp))) m0 (pm_mo z m0 ((d_X13_keep f g gb).1))) (m0 + 2) (.inl (kA 0, 91, .inl ((d_X13_keep f g gb).2)))) rfl ?_
  refine pm_mem (M' := pm_up (pm_up (pm_up (pm_up (pm_up M m0 (pm_mo z m0 ((d_X13_keep f g gb).1))) (m0 + 1) (.inl (kA 0, 91, .inl g))) (m0 + 2) (.inl (kA 0, 91, .inl gb))) (m0 + 4) (.inl (kA 0, 728, .inl gp))) (m0 + 2) (.inl (kA 0, 91, .inl ((d_X13_keep f g gb).2)))) (by rw [pm_up_sw (a := m0 + 4) (b := m0) (by omega), pm_up_sw (a := m0 + 2) (b := m0) (by omega), pm_up_sw (a := m0 + 1) (b := m0) (by omega), pm_up_up (a := m0)]) ?_
  refine pm_mem (M' := pm_up (pm_up (pm_up (pm_up M m0 (pm_mo z m0 ((d_X13_keep f g gb).1))) (m0 + 1) (.inl (kA 0, 91, .inl g))) (m0 + 2) (.inl (kA 0, 91, .inl ((d_X13_keep f g gb).2)))) (m0 + 4) (.inl (kA 0, 728, .inl gp))) (by rw [pm_up_sw (a := m0 + 4) (b := m0 + 2) (by omega), pm_up_up (a := m0 + 2)]) ?_
  refine pm_stk (st' := []) rfl ?_
  refine pm_aload_n B dX13_sell_4 rfl ?_
  refine pm_aload_n B dX13_sell_5 rfl ?_
  refine pm_iload_n B dX13_sell_6 rfl ?_
  refine pm_iload_n B dX13_sell_7 rfl ?_
  refine pm_cV (As := [.int x, .int y]) (mc2 := 0) (ms2 := 0) B rfl ((pm_up_n (by omega)).trans ((pm_up_n (by omega)).trans ((pm_up_n (by omega)).trans pm_up_s))) rfl (c_X13_doSell (x := x) (y := y) (n := n) (f := ((d_X13_keep f g gb).1)) (g := g) ((pm_up_n (by omega)).trans ((pm_up_n (by omega)).trans ((pm_up_n (by omega)).trans pm_up_s))) ((pm_up_n (by omega)).trans ((pm_up_n (by omega)).trans pm_up_s)) hn (by first | assumption | omega)) mt_X13_doSell sv_X13_134 dX13_sell_8 rfl rfl rfl rfl rfl ?_
  refine pm_mem (M' := pm_up (pm_up (pm_up (pm_up (pm_up (pm_up M m0 (pm_mo z m0 ((d_X13_keep f g gb).1))) (m0 + 1) (.inl (kA 0, 91, .inl g))) (m0 + 2) (.inl (kA 0, 91, .inl ((d_X13_keep f g gb).2)))) (m0 + 4) (.inl (kA 0, 728, .inl gp))) m0 (pm_mo z m0 ((d_X13_doSell x y n ((d_X13_keep f g gb).1) g).2.1))) (m0 + 1) (.inl (kA 0, 91, .inl ((d_X13_doSell x y n ((d_X13_keep f g gb).1) g).2.2)))) rfl ?_
  refine pm_mem (M' := pm_up (pm_up (pm_up (pm_up (pm_up M m0 (pm_mo z m0 ((d_X13_doSell x y n ((d_X13_keep f g gb).1) g).2.1))) (m0 + 1) (.inl (kA 0, 91, .inl g))) (m0 + 2) (.inl (kA 0, 91, .inl ((d_X13_keep f g gb).2)))) (m0 + 4) (.inl (kA 0, 728, .inl gp))) (m0 + 1) (.inl (kA 0, 91, .inl ((d_X13_doSell x y n ((d_X13_keep f g gb).1) g).2.2)))) (by rw [pm_up_sw (a := m0 + 4) (b := m0) (by omega), pm_up_sw (a := m0 + 2) (b := m0) (by omega), pm_up_sw (a := m0 + 1) (b := m0) (by omega), pm_up_up (a := m0)]) ?_
  refine pm_mem (M' := pm_up (pm_up (pm_up (pm_up M m0 (pm_mo z m0 ((d_X13_doSell x y n ((d_X13_keep f g gb).1) g).2.1))) (m0 + 1) (.inl (kA 0, 91, .inl ((d_X13_doSell x y n ((d_X13_keep f g gb).1) g).2.2)))) (m0 + 2) (.inl (kA 0, 91, .inl ((d_X13_keep f g gb).2)))) (m0 + 4) (.inl (kA 0, 728, .inl gp))) (by rw [pm_up_sw (a := m0 + 4) (b := m0 + 1) (by omega), pm_up_sw (a := m0 + 2) (b := m0 + 1) (by omega), pm_up_up (a := m0 + 1)]) ?_
  refine pm_stk (st' := [.int ((d_X13_doSell x y n ((d_X13_keep f g gb).1) g).1), .ref (z + m0)]) rfl ?_
  refine pm_iconst (v := 0) B dX13_sell_11 (by decide) ?_
  refine pm_cV (As := [.int ((d_X13_doSell x y n ((d_X13_keep f g gb).1) g).1), .int 0]) (mc2 := 0) (ms2 := 0) B rfl ((pm_up_n (by omega)).trans ((pm_up_n (by omega)).trans ((pm_up_n (by omega)).trans pm_up_s))) rfl (c_X13_ends (x := ((d_X13_doSell x y n ((d_X13_keep f g gb).1) g).1)) (y := 0) (k := k) (f := ((d_X13_doSell x y n ((d_X13_keep f g gb).1) g).2.1)) (g := ((d_X13_doSell x y n ((d_X13_keep f g gb).1) g).2.2)) (gb := ((d_X13_keep f g gb).2)) (gp := gp) ((pm_up_n (by omega)).trans ((pm_up_n (by omega)).trans ((pm_up_n (by omega)).trans pm_up_s))) ((pm_up_n (by omega)).trans ((pm_up_n (by omega)).trans pm_up_s)) ((pm_up_n (by omega)).trans pm_up_s) pm_up_s (show ((d_X13_doSell x y n ((d_X13_keep f g gb).1) g).2.1) 5 = (nI k) from by rw [((d_X13_doSell_k_f5 x y n ((d_X13_keep f g gb).1) g).trans ((d_X13_keep_k_f5  f g gb).trans hf5))]) (by first | assumption | omega)) mt_X13_ends sv_X13_97 dX13_sell_12 rfl rfl rfl rfl rfl ?_
  refine pm_mem (M' := pm_up (pm_up (pm_up (pm_up (pm_up (pm_up (pm_up M m0 (pm_mo z m0 ((d_X13_doSell x y n ((d_X13_keep f g gb).1) g).2.1))) (m0 + 1) (.inl (kA 0, 91, .inl ((d_X13_doSell x y n ((d_X13_keep f g gb).1) g).2.2)))) (m0 + 2) (.inl (kA 0, 91, .inl ((d_X13_keep f g gb).2)))) (m0 + 4) (.inl (kA 0, 728, .inl gp))) m0 (pm_mo z m0 ((d_X13_ends ((d_X13_doSell x y n ((d_X13_keep f g gb).1) g).1) 0 k ((d_X13_doSell x y n ((d_X13_keep f g gb).1) g).2.1) ((d_X13_doSell x y n ((d_X13_keep f g gb).1) g).2.2) ((d_X13_keep f g gb).2) gp).2.1))) (m0 + 1) (.inl (kA 0, 91, .inl ((d_X13_ends ((d_X13_doSell x y n ((d_X13_keep f g gb).1) g).1) 0 k ((d_X13_doSell x y n ((d_X13_keep f g gb).1) g).2.1) ((d_X13_doSell x y n ((d_X13_keep f g gb).1) g).2.2) ((d_X13_keep f g gb).2) gp).2.2.1)))) (m0 + 4) (.inl (kA 0, 728, .inl ((d_X13_ends ((d_X13_doSell x y n ((d_X13_keep f g gb).1) g).1) 0 k ((d_X13_doSell x y n ((d_X13_keep f g gb).1) g).2.1) ((d_X13_doSell x y n ((d_X13_keep f g gb).1) g).2.2) ((d_X13_keep f g gb).2) gp).2.2.2)))) rfl ?_
  refine pm_mem (M' := pm_up (pm_up (pm_up (pm_up (pm_up (pm_up M m0 (pm_mo z m0 ((d_X13_ends ((d_X13_doSell x y n ((d_X13_keep f g gb).1) g).1) 0 k ((d_X13_doSell x y n ((d_X13_keep f g gb).1) g).2.1) ((d_X13_doSell x y n ((d_X13_keep f g gb).1) g).2.2) ((d_X13_keep f g gb).2) gp).2.1))) (m0 + 1) (.inl (kA 0, 91, .inl ((d_X13_doSell x y n ((d_X13_keep f g gb).1) g).2.2)))) (m0 + 2) (.inl (kA 0, 91, .inl ((d_X13_keep f g gb).2)))) (m0 + 4) (.inl (kA 0, 728, .inl gp))) (m0 + 1) (.inl (kA 0, 91, .inl ((d_X13_ends ((d_X13_doSell x y n ((d_X13_keep f g gb).1) g).1) 0 k ((d_X13_doSell x y n ((d_X13_keep f g gb).1) g).2.1) ((d_X13_doSell x y n ((d_X13_keep f g gb).1) g).2.2) ((d_X13_keep f g gb).2) gp).2.2.1)))) (m0 + 4) (.inl (kA 0, 728, .inl ((d_X13_ends ((d_X13_doSell x y n ((d_X13_keep f g gb).1) g).1) 0 k ((d_X13_doSell x y n ((d_X13_keep f g gb).1) g).2.1) ((d_X13_doSell x y n ((d_X13_keep f g gb).1) g).2.2) ((d_X13_keep f g gb).2) gp).2.2.2)))) (by rw [pm_up_sw (a := m0 + 4) (b := m0) (by omega), pm_up_sw (a := m0 + 2) (b := m0) (by omega), pm_up_sw (a := m0 + 1) (b := m0) (by omega), pm_up_up (a := m0)]) ?_
  refine pm_mem (M' := pm_up (pm_up (pm_up (pm_up (pm_up M m0 (pm_mo z m0 ((d_X13_ends ((d_X13_doSell x y n ((d_X13_keep f g gb).1) g).1) 0 k ((d_X13_doSell x y n ((d_X13_keep f g gb).1) g).2.1) ((d_X13_doSell x y n ((d_X13_keep f g gb).1) g).2.2) ((d_X13_keep f g gb).2) gp).2.1))) (m0 + 1) (.inl (kA 0, 91, .inl ((d_X13_ends ((d_X13_doSell x y n ((d_X13_keep f g gb).1) g).1) 0 k ((d_X13_doSell x y n ((d_X13_keep f g gb).1) g).2.1) ((d_X13_doSell x y n ((d_X13_keep f g gb).1) g).2.2) ((d_X13_keep f g gb).2) gp).2.2.1)))) (m0 + 2) (.inl (kA 0, 91, .inl ((d_X13_keep f g gb).2)))) (m0 + 4) (.inl (kA 0, 728, .inl gp))) (m0 + 4) (.inl (kA 0, 728, .inl ((d_X13_ends ((d_X13_doSell x y n ((d_X13_keep f g gb).1) g).1) 0 k ((d_X13_doSell x y n ((d_X13_keep f g gb).1) g).2.1) ((d_X13_doSell x y n ((d_X13_keep f g gb).1) g).2.2) ((d_X13_keep f g gb).2) gp).2.2.2)))) (by rw [pm_up_sw (a := m0 + 4) (b := m0 + 1) (by omega), pm_up_sw (a := m0 + 2) (b := m0 + 1) (by omega), pm_up_up (a := m0 + 1)]) ?_
  refine pm_mem (M' := pm_up (pm_up (pm_up (pm_up M m0 (pm_mo z m0 ((d_X13_ends ((d_X13_doSell x y n ((d_X13_keep f g gb).1) g).1) 0 k ((d_X13_doSell x y n ((d_X13_keep f g gb).1) g).2.1) ((d_X13_doSell x y n ((d_X13_keep f g gb).1) g).2.2) ((d_X13_keep f g gb).2) gp).2.1))) (m0 + 1) (.inl (kA 0, 91, .inl ((d_X13_ends ((d_X13_doSell x y n ((d_X13_keep f g gb).1) g).1) 0 k ((d_X13_doSell x y n ((d_X13_keep f g gb).1) g).2.1) ((d_X13_doSell x y n ((d_X13_keep f g gb).1) g).2.2) ((d_X13_keep f g gb).2) gp).2.2.1)))) (m0 + 2) (.inl (kA 0, 91, .inl ((d_X13_keep f g gb).2)))) (m0 + 4) (.inl (kA 0, 728, .inl ((d_X13_ends ((d_X13_doSell x y n ((d_X13_keep f g gb).1) g).1) 0 k ((d_X13_doSell x y n ((d_X13_keep f g gb).1) g).2.1) ((d_X13_doSell x y n ((d_X13_keep f g gb).1) g).2.2) ((d_X13_keep f g gb).2) gp).2.2.2)))) (by rw [pm_up_up (a := m0 + 4)]) ?_
  refine pm_stk (st' := [.int ((d_X13_ends ((d_X13_doSell x y n ((d_X13_keep f g gb).1) g).1) 0 k ((d_X13_doSell x y n ((d_X13_keep f g gb).1) g).2.1) ((d_X13_doSell x y n ((d_X13_keep f g gb).1) g).2.2) ((d_X13_keep f g gb).2) gp).1)]) rfl ?_
  have hDq1 : (d_X13_sell x y n k f g gb gp) = (((d_X13_ends ((d_X13_doSell x y n ((d_X13_keep f g gb).1) g).1) 0 k ((d_X13_doSell x y n ((d_X13_keep f g gb).1) g).2.1) ((d_X13_doSell x y n ((d_X13_keep f g gb).1) g).2.2) ((d_X13_keep f g gb).2) gp).1), ((d_X13_ends ((d_X13_doSell x y n ((d_X13_keep f g gb).1) g).1) 0 k ((d_X13_doSell x y n ((d_X13_keep f g gb).1) g).2.1) ((d_X13_doSell x y n ((d_X13_keep f g gb).1) g).2.2) ((d_X13_keep f g gb).2) gp).2.1), ((d_X13_ends ((d_X13_doSell x y n ((d_X13_keep f g gb).1) g).1) 0 k ((d_X13_doSell x y n ((d_X13_keep f g gb).1) g).2.1) ((d_X13_doSell x y n ((d_X13_keep f g gb).1) g).2.2) ((d_X13_keep f g gb).2) gp).2.2.1), ((d_X13_keep f g gb).2), ((d_X13_ends ((d_X13_doSell x y n ((d_X13_keep f g gb).1) g).1) 0 k ((d_X13_doSell x y n ((d_X13_keep f g gb).1) g).2.1) ((d_X13_doSell x y n ((d_X13_keep f g gb).1) g).2.2) ((d_X13_keep f g gb).2) gp).2.2.2)) := by rw [d_X13_sell]
  exact pm_ireturn B dX13_sell_15 rfl (by first | rfl | (apply pm_nz; first | assumption | decide | exact pm_in01 _ _ _ | simp)) ⟨(by rw [hDq1]), rfl, by rw [hDq1]⟩ rfl rfl
def d_X13_doPardon_L1 (x : Int32) (g : Nat → Int32) : Nat → Nat → Int32 → Int32
  | 0, _, a2_1 => a2_1
  | k1 + 1, j1, a2_1 => if ((upd g (7 + 5 * (pm_n x) + 4) 0) (7 + 5 * j1 + 4)) = 0 then (d_X13_doPardon_L1 x g k1 (j1 + 1) (a2_1 + 1)) else (d_X13_doPardon_L1 x g k1 (j1 + 1) (a2_1 + 0))
def d_X13_doPardon (x : Int32) (n : Nat) (f : Nat → Int32) (g : Nat → Int32) : (Int32 × (Nat → Int32) × (Nat → Int32)) := if (pm_in x 0 (nI n - 1)) = 0 then (0, (upd f 6 1), g) else (if (g (7 + 5 * (pm_n x) + 4)) = 0 then (0, (upd (upd (upd f 7 5) 8 (nI (pm_n x))) 6 2), g) else ((d_X13_doPardon_L1 x g n 0 0), f, (upd g (7 + 5 * (pm_n x) + 4) 0)))
set_option maxRecDepth 100000 in
set_option maxHeartbeats 8000000 in
theorem c_X13_doPardon {l : Launch} {z : Nat} {D : va_G} {kA : Nat → ClassId} {kE : Nat → Nat} {nx : Nat} {M : pm_M} {x : Int32} {n : Nat}{m0 : Nat} {f : Nat → Int32} {g : Nat → Int32} (hM : M m0 = some (pm_mo z m0 f)) (hg : M (m0 + 1) = some (.inl (kA 0, 91, .inl g))) (hn : g 0 = nI n) (h7 : n ≤ 7) : pm_C l z D kA kE yX13_doPardon cX13_doPardon 4 (some .int) 2 0 0 [.ref (z + m0), .int x] nx M (pm_rt (some (.int ((d_X13_doPardon x n f g).1))) nx (pm_up (pm_up M m0 (pm_mo z m0 ((d_X13_doPardon x n f g).2.1))) (m0 + 1) (.inl (kA 0, 91, .inl ((d_X13_doPardon x n f g).2.2))))) := by
  refine pm_mk (own := RX13) (nm := "doPardon") mt_X13_doPardon rfl rfl rfl rfl fun X B => ?_
  refine pm_loc (L' := [some (.ref (z + m0)), some (.int x), none, none]) rfl ?_
  refine pm_mem (M' := pm_up (pm_up M m0 (pm_mo z m0 f)) (m0 + 1) (.inl (kA 0, 91, .inl g))) (by rw [pm_up_id hM, pm_up_id hg]) ?_
  refine pm_aload_n B dX13_doPardon_0 rfl ?_
  refine pm_iload_n B dX13_doPardon_1 rfl ?_
  refine pm_cV (As := [.int x]) (mc2 := 0) (ms2 := 0) B rfl ((pm_up_n (by omega)).trans pm_up_s) rfl (c_X13_isMember (f := f) ((pm_up_n (by omega)).trans pm_up_s) pm_up_s) mt_X13_isMember sv_X13_100 dX13_doPardon_2 rfl rfl rfl rfl rfl ?_
  refine pm_stk (st' := [.int (pm_in x 0 (g 0 - 1))]) rfl ?_
  refine pm_stk (st' := [.int (pm_in x 0 (nI n - 1))]) (by rw [show (pm_in x 0 (g 0 - 1)) = (pm_in x 0 (nI n - 1)) from by rw [hn]]) ?_
  refine pm_if_ne (tgt := 14) B dX13_doPardon_5 (by decide) (fun hq1 => ?_) (fun hq1 => ?_)
  · obtain ⟨he_x, hl_x⟩ := pm_in_nx h7 hq1
    refine pm_loc (L' := [some (.ref (z + m0)), some (.int (nI (pm_n x))), none, none]) (congrArg (fun yy : Int32 => ([some (.ref (z + m0)), some (.int yy), none, none] : List (Option Value))) he_x) ?_
    refine pm_aload_n B dX13_doPardon_14 rfl ?_
    refine pm_iload_n B dX13_doPardon_15 rfl ?_
    refine pm_iconst (v := 4) B dX13_doPardon_16 (by decide) ?_
    refine pm_cV (As := [.int (nI (pm_n x)), .int (nI 4)]) (mc2 := 0) (ms2 := 0) B rfl ((pm_up_n (by omega)).trans pm_up_s) rfl (c_X13_of (f := f) ((pm_up_n (by omega)).trans pm_up_s) pm_up_s (i := (pm_n x)) (w := 4) (by first | assumption | omega) (by first | assumption | omega)) mt_X13_of sv_X13_74 dX13_doPardon_17 rfl rfl rfl rfl rfl ?_
    refine pm_stk (st' := [.int (g (7 + 5 * (pm_n x) + 4))]) rfl ?_
    refine pm_if_ne (tgt := 31) B dX13_doPardon_20 (by decide) (fun hq2 => ?_) (fun hq2 => ?_)
    · refine pm_aload_n B dX13_doPardon_31 rfl ?_
      refine pm_iload_n B dX13_doPardon_32 rfl ?_
      refine pm_iconst (v := 4) B dX13_doPardon_33 (by decide) ?_
      refine pm_iconst (v := 0) B dX13_doPardon_34 (by decide) ?_
      refine pm_cV (As := [.int (nI (pm_n x)), .int (nI 4), .int 0]) (mc2 := 0) (ms2 := 0) B rfl ((pm_up_n (by omega)).trans pm_up_s) rfl (c_X13_sets (f := f) ((pm_up_n (by omega)).trans pm_up_s) pm_up_s (i := (pm_n x)) (w := 4) (by first | assumption | omega) (by first | assumption | omega)) mt_X13_sets sv_X13_87 dX13_doPardon_35 rfl rfl rfl rfl rfl ?_
      refine pm_mem (M' := pm_up (pm_up M m0 (pm_mo z m0 f)) (m0 + 1) (.inl (kA 0, 91, .inl (upd g (7 + 5 * (pm_n x) + 4) 0)))) pm_up_up ?_
      refine pm_stk (st' := []) rfl ?_
      refine pm_iconst (v := 0) B dX13_doPardon_38 (by decide) ?_
      refine pm_istore_n B dX13_doPardon_39 rfl rfl ?_
      refine pm_loc (L' := [some (.ref (z + m0)), some (.int (nI (pm_n x))), some (.int 0), none]) rfl ?_
      refine pm_iconst (v := 0) B dX13_doPardon_40 (by decide) ?_
      refine pm_istore_n B dX13_doPardon_41 rfl rfl ?_
      refine pm_loc (L' := [some (.ref (z + m0)), some (.int (nI (pm_n x))), some (.int 0), some (.int 0)]) rfl ?_
      refine pm_wk (L' := [some (.ref (z + m0)), none, some (.int 0), some (.int 0)]) ⟨rfl, ⟨rfl, ⟨rfl, trivial⟩⟩⟩ ?_
      refine pm_loc (L' := [some (.ref (z + m0)), none, some (.int 0), some (.int (nI 0))]) rfl ?_
      have loop1 : ∀ (K1 : (Int32 → (Int32 × (Nat → Int32) × (Nat → Int32)))), (∀ (a2_1 : Int32), pm_G l z D X 0 0 (pm_Q z D (pm_rt (some (.int ((K1 a2_1).1))) nx (pm_up (pm_up M m0 (pm_mo z m0 ((K1 a2_1).2.1))) (m0 + 1) (.inl (kA 0, 91, .inl ((K1 a2_1).2.2))))) 0 0 X) nx (pm_up (pm_up M m0 (pm_mo z m0 f)) (m0 + 1) (.inl (kA 0, 91, .inl (upd g (7 + 5 * (pm_n x) + 4) 0)))) 75 [none, none, some (.int a2_1), none] []) → ∀ (k1 j1 : Nat), j1 + k1 = n → ∀ (a2_1 : Int32), pm_G l z D X 0 0 (pm_Q z D (pm_rt (some (.int ((K1 (d_X13_doPardon_L1 x g k1 j1 a2_1)).1))) nx (pm_up (pm_up M m0 (pm_mo z m0 ((K1 (d_X13_doPardon_L1 x g k1 j1 a2_1)).2.1))) (m0 + 1) (.inl (kA 0, 91, .inl ((K1 (d_X13_doPardon_L1 x g k1 j1 a2_1)).2.2))))) 0 0 X) nx (pm_up (pm_up M m0 (pm_mo z m0 f)) (m0 + 1) (.inl (kA 0, 91, .inl (upd g (7 + 5 * (pm_n x) + 4) 0)))) 42 [some (.ref (z + m0)), none, some (.int a2_1), some (.int (nI j1))] [] := by
        intro K1 hK1 k1
        induction k1 with
        | zero =>
          intro j1 hj1 a2_1
          have hjn1 : j1 = n := by omega
          refine pm_iload_n B dX13_doPardon_42 rfl ?_
          refine pm_aload_n B dX13_doPardon_43 rfl ?_
          refine pm_get B dX13_doPardon_44 fl_X13_9 ((pm_up_n (by omega)).trans pm_up_s) rfl ?_
          refine pm_iconst (v := 0) B dX13_doPardon_47 (by decide) ?_
          refine pm_iald_n B dX13_doPardon_48 pm_up_s 0 (by decide) (by decide) ?_
          refine pm_stk (st' := [.int (nI n), .int (nI j1)]) (by rw [show ((upd g (7 + 5 * (pm_n x) + 4) 0) 0) = (nI n) from by rw [pk_un (show 0 ≠ 7 + 5 * (pm_n x) + 4 from (by omega)), hn]]) ?_
          refine pm_icmp_ge (tgt := 75) B dX13_doPardon_49 (by decide) (fun hq3 => ?_) (fun hq3 => absurd ((nI_leI (by first | omega | decide) (by first | omega | decide)).mpr (by omega)) hq3)
          refine pm_wk (L' := [none, none, some (.int a2_1), none]) ⟨rfl, trivial⟩ ?_
          have hDq4 : (K1 (d_X13_doPardon_L1 x g 0 j1 a2_1)) = (K1 a2_1) := by rw [d_X13_doPardon_L1]
          refine pm_pst (post' := pm_rt (some (.int ((K1 a2_1).1))) nx (pm_up (pm_up M m0 (pm_mo z m0 ((K1 a2_1).2.1))) (m0 + 1) (.inl (kA 0, 91, .inl ((K1 a2_1).2.2))))) (by rw [hDq4]) ?_
          exact hK1 a2_1
        | succ k1 ih1 =>
          intro j1 hj1 a2_1
          have hjn1 : j1 < n := by omega
          refine pm_iload_n B dX13_doPardon_42 rfl ?_
          refine pm_aload_n B dX13_doPardon_43 rfl ?_
          refine pm_get B dX13_doPardon_44 fl_X13_9 ((pm_up_n (by omega)).trans pm_up_s) rfl ?_
          refine pm_iconst (v := 0) B dX13_doPardon_47 (by decide) ?_
          refine pm_iald_n B dX13_doPardon_48 pm_up_s 0 (by decide) (by decide) ?_
          refine pm_stk (st' := [.int (nI n), .int (nI j1)]) (by rw [show ((upd g (7 + 5 * (pm_n x) + 4) 0) 0) = (nI n) from by rw [pk_un (show 0 ≠ 7 + 5 * (pm_n x) + 4 from (by omega)), hn]]) ?_
          refine pm_icmp_ge (tgt := 75) B dX13_doPardon_49 (by decide) (fun hq5 => absurd hq5 (fun e => absurd ((nI_leI (by first | omega | decide) (by first | omega | decide)).mp e) (by omega))) (fun hq5 => ?_)
          refine pm_iload_n B dX13_doPardon_52 rfl ?_
          refine pm_aload_n B dX13_doPardon_53 rfl ?_
          refine pm_iload_n B dX13_doPardon_54 rfl ?_
          refine pm_iconst (v := 4) B dX13_doPardon_55 (by decide) ?_
          refine pm_cV (As := [.int (nI j1), .int (nI 4)]) (mc2 := 0) (ms2 := 0) B rfl ((pm_up_n (by omega)).trans pm_up_s) rfl (c_X13_of (f := f) ((pm_up_n (by omega)).trans pm_up_s) pm_up_s (i := j1) (w := 4) (by first | assumption | omega) (by first | assumption | omega)) mt_X13_of sv_X13_74 dX13_doPardon_56 rfl rfl rfl rfl rfl ?_
          refine pm_stk (st' := [.int ((upd g (7 + 5 * (pm_n x) + 4) 0) (7 + 5 * j1 + 4)), .int a2_1]) rfl ?_
          refine pm_if_ne (tgt := 66) B dX13_doPardon_59 (by decide) (fun hq6 => ?_) (fun hq6 => ?_)
          · refine pm_iconst (v := 0) B dX13_doPardon_66 (by decide) ?_
            refine pm_iadd B dX13_doPardon_67 ?_
            refine pm_istore_n B dX13_doPardon_68 rfl rfl ?_
            refine pm_loc (L' := [some (.ref (z + m0)), none, some (.int (a2_1 + 0)), some (.int (nI j1))]) rfl ?_
            refine pm_iinc B dX13_doPardon_69 rfl rfl rfl ?_
            refine pm_loc (L' := [some (.ref (z + m0)), none, some (.int (a2_1 + 0)), some (.int (nI (j1 + 1)))]) (by rw [show ((nI j1) : Int32) + Int32.ofInt 1 = (nI (j1 + 1)) from nI_1 _]; rfl) ?_
            refine pm_goto (tgt := 42) B dX13_doPardon_72 (by decide) ?_
            have hDq7 : (K1 (d_X13_doPardon_L1 x g (k1 + 1) j1 a2_1)) = (K1 (d_X13_doPardon_L1 x g k1 (j1 + 1) (a2_1 + 0))) := by rw [d_X13_doPardon_L1, if_neg hq6]
            refine pm_pst (post' := pm_rt (some (.int ((K1 (d_X13_doPardon_L1 x g k1 (j1 + 1) (a2_1 + 0))).1))) nx (pm_up (pm_up M m0 (pm_mo z m0 ((K1 (d_X13_doPardon_L1 x g k1 (j1 + 1) (a2_1 + 0))).2.1))) (m0 + 1) (.inl (kA 0, 91, .inl ((K1 (d_X13_doPardon_L1 x g k1 (j1 + 1) (a2_1 + 0))).2.2))))) (by rw [hDq7]) ?_
            exact ih1 (j1 + 1) (by omega) (a2_1 + 0)
          · refine pm_iconst (v := 1) B dX13_doPardon_62 (by decide) ?_
            refine pm_goto (tgt := 67) B dX13_doPardon_63 (by decide) ?_
            refine pm_iadd B dX13_doPardon_67 ?_
            refine pm_istore_n B dX13_doPardon_68 rfl rfl ?_
            refine pm_loc (L' := [some (.ref (z + m0)), none, some (.int (a2_1 + 1)), some (.int (nI j1))]) rfl ?_
            refine pm_iinc B dX13_doPardon_69 rfl rfl rfl ?_
            refine pm_loc (L' := [some (.ref (z + m0)), none, some (.int (a2_1 + 1)), some (.int (nI (j1 + 1)))]) (by rw [show ((nI j1) : Int32) + Int32.ofInt 1 = (nI (j1 + 1)) from nI_1 _]; rfl) ?_
            refine pm_goto (tgt := 42) B dX13_doPardon_72 (by decide) ?_
            have hDq8 : (K1 (d_X13_doPardon_L1 x g (k1 + 1) j1 a2_1)) = (K1 (d_X13_doPardon_L1 x g k1 (j1 + 1) (a2_1 + 1))) := by rw [d_X13_doPardon_L1, if_pos hq6]
            refine pm_pst (post' := pm_rt (some (.int ((K1 (d_X13_doPardon_L1 x g k1 (j1 + 1) (a2_1 + 1))).1))) nx (pm_up (pm_up M m0 (pm_mo z m0 ((K1 (d_X13_doPardon_L1 x g k1 (j1 + 1) (a2_1 + 1))).2.1))) (m0 + 1) (.inl (kA 0, 91, .inl ((K1 (d_X13_doPardon_L1 x g k1 (j1 + 1) (a2_1 + 1))).2.2))))) (by rw [hDq8]) ?_
            exact ih1 (j1 + 1) (by omega) (a2_1 + 1)
      refine pm_pst (post' := pm_rt (some (.int (((d_X13_doPardon_L1 x g n 0 0), f, (upd g (7 + 5 * (pm_n x) + 4) 0)).1))) nx (pm_up (pm_up M m0 (pm_mo z m0 (((d_X13_doPardon_L1 x g n 0 0), f, (upd g (7 + 5 * (pm_n x) + 4) 0)).2.1))) (m0 + 1) (.inl (kA 0, 91, .inl (((d_X13_doPardon_L1 x g n 0 0), f, (upd g (7 + 5 * (pm_n x) + 4) 0)).2.2))))) (by rw [show (d_X13_doPardon x n f g) = ((d_X13_doPardon_L1 x g n 0 0), f, (upd g (7 + 5 * (pm_n x) + 4) 0)) from by rw [d_X13_doPardon, if_neg hq1, if_neg hq2]]) ?_
      refine loop1 (fun (a2_1 : Int32) => (a2_1, f, (upd g (7 + 5 * (pm_n x) + 4) 0))) ?_ n 0 (by omega) 0
      intro a2_1
      refine pm_pst (post' := pm_rt (some (.int ((a2_1, f, (upd g (7 + 5 * (pm_n x) + 4) 0)).1))) nx (pm_up (pm_up M m0 (pm_mo z m0 ((a2_1, f, (upd g (7 + 5 * (pm_n x) + 4) 0)).2.1))) (m0 + 1) (.inl (kA 0, 91, .inl ((a2_1, f, (upd g (7 + 5 * (pm_n x) + 4) 0)).2.2))))) rfl ?_
      refine pm_iload_n B dX13_doPardon_75 rfl ?_
      have hDq9 : ((a2_1, f, (upd g (7 + 5 * (pm_n x) + 4) 0))) = (a2_1, f, (upd g (7 + 5 * (pm_n x) + 4) 0)) := rfl
      exact pm_ireturn B dX13_doPardon_76 rfl (by first | rfl | (apply pm_nz; first | assumption | decide | exact pm_in01 _ _ _ | simp)) ⟨rfl, rfl, rfl⟩ rfl rfl
    · refine pm_aload_n B dX13_doPardon_23 rfl ?_
      refine pm_iconst (v := 2) B dX13_doPardon_24 (by decide) ?_
      refine pm_iconst (v := 5) B dX13_doPardon_25 (by decide) ?_
      refine pm_iload_n B dX13_doPardon_26 rfl ?_
      refine pm_cV (As := [.int 2, .int 5, .int (nI (pm_n x))]) (mc2 := 0) (ms2 := 0) B rfl ((pm_up_n (by omega)).trans pm_up_s) rfl (c_X13_denies (f := f) ((pm_up_n (by omega)).trans pm_up_s)) mt_X13_denies sv_X13_83 dX13_doPardon_27 rfl rfl rfl rfl rfl ?_
      refine pm_mem (M' := pm_up (pm_up (pm_up M m0 (pm_mo z m0 f)) (m0 + 1) (.inl (kA 0, 91, .inl g))) m0 (pm_mo z m0 (upd (upd (upd f 7 5) 8 (nI (pm_n x))) 6 2))) rfl ?_
      refine pm_mem (M' := pm_up (pm_up M m0 (pm_mo z m0 (upd (upd (upd f 7 5) 8 (nI (pm_n x))) 6 2))) (m0 + 1) (.inl (kA 0, 91, .inl g))) (by rw [pm_up_sw (a := m0 + 1) (b := m0) (by omega), pm_up_up]) ?_
      refine pm_stk (st' := [.int 0]) rfl ?_
      have hDq10 : (d_X13_doPardon x n f g) = (0, (upd (upd (upd f 7 5) 8 (nI (pm_n x))) 6 2), g) := by rw [d_X13_doPardon, if_neg hq1, if_pos hq2]
      exact pm_ireturn B dX13_doPardon_30 rfl (by first | rfl | (apply pm_nz; first | assumption | decide | exact pm_in01 _ _ _ | simp)) ⟨(by rw [hDq10]), rfl, by rw [hDq10]⟩ rfl rfl
  · refine pm_aload_n B dX13_doPardon_8 rfl ?_
    refine pm_iconst (v := 1) B dX13_doPardon_9 (by decide) ?_
    refine pm_cV (As := [.int 1]) (mc2 := 0) (ms2 := 0) B rfl ((pm_up_n (by omega)).trans pm_up_s) rfl (c_X13_fails (f := f) ((pm_up_n (by omega)).trans pm_up_s)) mt_X13_fails sv_X13_66 dX13_doPardon_10 rfl rfl rfl rfl rfl ?_
    refine pm_mem (M' := pm_up (pm_up (pm_up M m0 (pm_mo z m0 f)) (m0 + 1) (.inl (kA 0, 91, .inl g))) m0 (pm_mo z m0 (upd f 6 1))) rfl ?_
    refine pm_mem (M' := pm_up (pm_up M m0 (pm_mo z m0 (upd f 6 1))) (m0 + 1) (.inl (kA 0, 91, .inl g))) (by rw [pm_up_sw (a := m0 + 1) (b := m0) (by omega), pm_up_up]) ?_
    refine pm_stk (st' := [.int 0]) rfl ?_
    have hDq11 : (d_X13_doPardon x n f g) = (0, (upd f 6 1), g) := by rw [d_X13_doPardon, if_pos hq1]
    exact pm_ireturn B dX13_doPardon_13 rfl (by first | rfl | (apply pm_nz; first | assumption | decide | exact pm_in01 _ _ _ | simp)) ⟨(by rw [hDq11]), rfl, by rw [hDq11]⟩ rfl rfl
theorem d_X13_doPardon_k_f5 (x : Int32) (n : Nat) (f : Nat → Int32) (g : Nat → Int32) : ((d_X13_doPardon x n f g).2.1) 5 = f 5 := by
  unfold d_X13_doPardon
  (repeat' split) <;> rfl
def d_X13_pardon (x : Int32) (n : Nat) (k : Nat) (f : Nat → Int32) (g : Nat → Int32) (gb : Nat → Int32) (gp : Nat → Int32) : (Int32 × (Nat → Int32) × (Nat → Int32) × (Nat → Int32) × (Nat → Int32)) := (((d_X13_ends ((d_X13_doPardon x n ((d_X13_keep f g gb).1) g).1) 0 k ((d_X13_doPardon x n ((d_X13_keep f g gb).1) g).2.1) ((d_X13_doPardon x n ((d_X13_keep f g gb).1) g).2.2) ((d_X13_keep f g gb).2) gp).1), ((d_X13_ends ((d_X13_doPardon x n ((d_X13_keep f g gb).1) g).1) 0 k ((d_X13_doPardon x n ((d_X13_keep f g gb).1) g).2.1) ((d_X13_doPardon x n ((d_X13_keep f g gb).1) g).2.2) ((d_X13_keep f g gb).2) gp).2.1), ((d_X13_ends ((d_X13_doPardon x n ((d_X13_keep f g gb).1) g).1) 0 k ((d_X13_doPardon x n ((d_X13_keep f g gb).1) g).2.1) ((d_X13_doPardon x n ((d_X13_keep f g gb).1) g).2.2) ((d_X13_keep f g gb).2) gp).2.2.1), ((d_X13_keep f g gb).2), ((d_X13_ends ((d_X13_doPardon x n ((d_X13_keep f g gb).1) g).1) 0 k ((d_X13_doPardon x n ((d_X13_keep f g gb).1) g).2.1) ((d_X13_doPardon x n ((d_X13_keep f g gb).1) g).2.2) ((d_X13_keep f g gb).2) gp).2.2.2))
set_option maxRecDepth 100000 in
set_option maxHeartbeats 8000000 in
theorem c_X13_pardon {l : Launch} {z : Nat} {D : va_G} {kA : Nat → ClassId} {kE : Nat → Nat} {nx : Nat} {M : pm_M} {x : Int32} {n : Nat} {k : Nat}{m0 : Nat} {f : Nat → Int32} {g : Nat → Int32} {gb : Nat → Int32} {gp : Nat → Int32} (hM : M m0 = some (pm_mo z m0 f)) (hg : M (m0 + 1) = some (.inl (kA 0, 91, .inl g))) (hgb : M (m0 + 2) = some (.inl (kA 0, 91, .inl gb))) (hgp : M (m0 + 4) = some (.inl (kA 0, 728, .inl gp))) (hn : g 0 = nI n) (h7 : n ≤ 7) (hf5 : f 5 = nI k) (h8 : k ≤ 8) : pm_C l z D kA kE yX13_pardon cX13_pardon 2 (some .int) 3 0 0 [.ref (z + m0), .int x] nx M (pm_rt (some (.int ((d_X13_pardon x n k f g gb gp).1))) nx (pm_up (pm_up (pm_up (pm_up M m0 (pm_mo z m0 ((d_X13_pardon x n k f g gb gp).2.1))) (m0 + 1) (.inl (kA 0, 91, .inl ((d_X13_pardon x n k f g gb gp).2.2.1)))) (m0 + 2) (.inl (kA 0, 91, .inl ((d_X13_pardon x n k f g gb gp).2.2.2.1)))) (m0 + 4) (.inl (kA 0, 728, .inl ((d_X13_pardon x n k f g gb gp).2.2.2.2))))) := by
  refine pm_mk (own := RX13) (nm := "pardon") mt_X13_pardon rfl rfl rfl rfl fun X B => ?_
  refine pm_loc (L' := [some (.ref (z + m0)), some (.int x)]) rfl ?_
  refine pm_mem (M' := pm_up (pm_up (pm_up (pm_up M m0 (pm_mo z m0 f)) (m0 + 1) (.inl (kA 0, 91, .inl g))) (m0 + 2) (.inl (kA 0, 91, .inl gb))) (m0 + 4) (.inl (kA 0, 728, .inl gp))) (by rw [pm_up_id hM, pm_up_id hg, pm_up_id hgb, pm_up_id hgp]) ?_
  refine pm_aload_n B dX13_pardon_0 rfl ?_
  refine pm_cV (As := []) (mc2 := 0) (ms2 := 0) B rfl ((pm_up_n (by omega)).trans ((pm_up_n (by omega)).trans ((pm_up_n (by omega)).trans pm_up_s))) rfl (c_X13_keep (f := f) (g := g) (gb := gb) ((pm_up_n (by omega)).trans ((pm_up_n (by omega)).trans ((pm_up_n (by omega)).trans pm_up_s))) ((pm_up_n (by omega)).trans ((pm_up_n (by omega)).trans pm_up_s)) ((pm_up_n (by omega)).trans pm_up_s) ) mt_X13_keep sv_X13_91 dX13_pardon_1 rfl rfl rfl rfl rfl ?_
  refine pm_mem (M' := pm_up (pm_up (pm_up (pm_up (pm_up (pm_up M m0 (pm_mo z m0 f)) (m0 + 1) (.inl (kA 0, 91, .inl g))) (m0 + 2) (.inl (kA 0, 91, .inl gb))) (m0 + 4) (.inl (kA 0, 728, .inl gp))) m0 (pm_mo z m0 ((d_X13_keep f g gb).1))) (m0 + 2) (.inl (kA 0, 91, .inl ((d_X13_keep f g gb).2)))) rfl ?_
  refine pm_mem (M' := pm_up (pm_up (pm_up (pm_up (pm_up M m0 (pm_mo z m0 ((d_X13_keep f g gb).1))) (m0 + 1) (.inl (kA 0, 91, .inl g))) (m0 + 2) (.inl (kA 0, 91, .inl gb))) (m0 + 4) (.inl (kA 0, 728, .inl gp))) (m0 + 2) (.inl (kA 0, 91, .inl ((d_X13_keep f g gb).2)))) (by rw [pm_up_sw (a := m0 + 4) (b := m0) (by omega), pm_up_sw (a := m0 + 2) (b := m0) (by omega), pm_up_sw (a := m0 + 1) (b := m0) (by omega), pm_up_up (a := m0)]) ?_
  refine pm_mem (M' := pm_up (pm_up (pm_up (pm_up M m0 (pm_mo z m0 ((d_X13_keep f g gb).1))) (m0 + 1) (.inl (kA 0, 91, .inl g))) (m0 + 2) (.inl (kA 0, 91, .inl ((d_X13_keep f g gb).2)))) (m0 + 4) (.inl (kA 0, 728, .inl gp))) (by rw [pm_up_sw (a := m0 + 4) (b := m0 + 2) (by omega), pm_up_up (a := m0 + 2)]) ?_
  refine pm_stk (st' := []) rfl ?_
  refine pm_aload_n B dX13_pardon_4 rfl ?_
  refine pm_aload_n B dX13_pardon_5 rfl ?_
  refine pm_iload_n B dX13_pardon_6 rfl ?_
  refine pm_cV (As := [.int x]) (mc2 := 0) (ms2 := 0) B rfl ((pm_up_n (by omega)).trans ((pm_up_n (by omega)).trans ((pm_up_n (by omega)).trans pm_up_s))) rfl (c_X13_doPardon (x := x) (n := n) (f := ((d_X13_keep f g gb).1)) (g := g) ((pm_up_n (by omega)).trans ((pm_up_n (by omega)).trans ((pm_up_n (by omega)).trans pm_up_s))) ((pm_up_n (by omega)).trans ((pm_up_n (by omega)).trans pm_up_s)) hn (by first | assumption | omega)) mt_X13_doPardon sv_X13_104 dX13_pardon_7 rfl rfl rfl rfl rfl ?_
  refine pm_mem (M' := pm_up (pm_up (pm_up (pm_up (pm_up (pm_up M m0 (pm_mo z m0 ((d_X13_keep f g gb).1))) (m0 + 1) (.inl (kA 0, 91, .inl g))) (m0 + 2) (.inl (kA 0, 91, .inl ((d_X13_keep f g gb).2)))) (m0 + 4) (.inl (kA 0, 728, .inl gp))) m0 (pm_mo z m0 ((d_X13_doPardon x n ((d_X13_keep f g gb).1) g).2.1))) (m0 + 1) (.inl (kA 0, 91, .inl ((d_X13_doPardon x n ((d_X13_keep f g gb).1) g).2.2)))) rfl ?_
  refine pm_mem (M' := pm_up (pm_up (pm_up (pm_up (pm_up M m0 (pm_mo z m0 ((d_X13_doPardon x n ((d_X13_keep f g gb).1) g).2.1))) (m0 + 1) (.inl (kA 0, 91, .inl g))) (m0 + 2) (.inl (kA 0, 91, .inl ((d_X13_keep f g gb).2)))) (m0 + 4) (.inl (kA 0, 728, .inl gp))) (m0 + 1) (.inl (kA 0, 91, .inl ((d_X13_doPardon x n ((d_X13_keep f g gb).1) g).2.2)))) (by rw [pm_up_sw (a := m0 + 4) (b := m0) (by omega), pm_up_sw (a := m0 + 2) (b := m0) (by omega), pm_up_sw (a := m0 + 1) (b := m0) (by omega), pm_up_up (a := m0)]) ?_
  refine pm_mem (M' := pm_up (pm_up (pm_up (pm_up M m0 (pm_mo z m0 ((d_X13_doPardon x n ((d_X13_keep f g gb).1) g).2.1))) (m0 + 1) (.inl (kA 0, 91, .inl ((d_X13_doPardon x n ((d_X13_keep f g gb).1) g).2.2)))) (m0 + 2) (.inl (kA 0, 91, .inl ((d_X13_keep f g gb).2)))) (m0 + 4) (.inl (kA 0, 728, .inl gp))) (by rw [pm_up_sw (a := m0 + 4) (b := m0 + 1) (by omega), pm_up_sw (a := m0 + 2) (b := m0 + 1) (by omega), pm_up_up (a := m0 + 1)]) ?_
  refine pm_stk (st' := [.int ((d_X13_doPardon x n ((d_X13_keep f g gb).1) g).1), .ref (z + m0)]) rfl ?_
  refine pm_iconst (v := 0) B dX13_pardon_10 (by decide) ?_
  refine pm_cV (As := [.int ((d_X13_doPardon x n ((d_X13_keep f g gb).1) g).1), .int 0]) (mc2 := 0) (ms2 := 0) B rfl ((pm_up_n (by omega)).trans ((pm_up_n (by omega)).trans ((pm_up_n (by omega)).trans pm_up_s))) rfl (c_X13_ends (x := ((d_X13_doPardon x n ((d_X13_keep f g gb).1) g).1)) (y := 0) (k := k) (f := ((d_X13_doPardon x n ((d_X13_keep f g gb).1) g).2.1)) (g := ((d_X13_doPardon x n ((d_X13_keep f g gb).1) g).2.2)) (gb := ((d_X13_keep f g gb).2)) (gp := gp) ((pm_up_n (by omega)).trans ((pm_up_n (by omega)).trans ((pm_up_n (by omega)).trans pm_up_s))) ((pm_up_n (by omega)).trans ((pm_up_n (by omega)).trans pm_up_s)) ((pm_up_n (by omega)).trans pm_up_s) pm_up_s (show ((d_X13_doPardon x n ((d_X13_keep f g gb).1) g).2.1) 5 = (nI k) from by rw [((d_X13_doPardon_k_f5 x n ((d_X13_keep f g gb).1) g).trans ((d_X13_keep_k_f5  f g gb).trans hf5))]) (by first | assumption | omega)) mt_X13_ends sv_X13_97 dX13_pardon_11 rfl rfl rfl rfl rfl ?_
  refine pm_mem (M' := pm_up (pm_up (pm_up (pm_up (pm_up (pm_up (pm_up M m0 (pm_mo z m0 ((d_X13_doPardon x n ((d_X13_keep f g gb).1) g).2.1))) (m0 + 1) (.inl (kA 0, 91, .inl ((d_X13_doPardon x n ((d_X13_keep f g gb).1) g).2.2)))) (m0 + 2) (.inl (kA 0, 91, .inl ((d_X13_keep f g gb).2)))) (m0 + 4) (.inl (kA 0, 728, .inl gp))) m0 (pm_mo z m0 ((d_X13_ends ((d_X13_doPardon x n ((d_X13_keep f g gb).1) g).1) 0 k ((d_X13_doPardon x n ((d_X13_keep f g gb).1) g).2.1) ((d_X13_doPardon x n ((d_X13_keep f g gb).1) g).2.2) ((d_X13_keep f g gb).2) gp).2.1))) (m0 + 1) (.inl (kA 0, 91, .inl ((d_X13_ends ((d_X13_doPardon x n ((d_X13_keep f g gb).1) g).1) 0 k ((d_X13_doPardon x n ((d_X13_keep f g gb).1) g).2.1) ((d_X13_doPardon x n ((d_X13_keep f g gb).1) g).2.2) ((d_X13_keep f g gb).2) gp).2.2.1)))) (m0 + 4) (.inl (kA 0, 728, .inl ((d_X13_ends ((d_X13_doPardon x n ((d_X13_keep f g gb).1) g).1) 0 k ((d_X13_doPardon x n ((d_X13_keep f g gb).1) g).2.1) ((d_X13_doPardon x n ((d_X13_keep f g gb).1) g).2.2) ((d_X13_keep f g gb).2) gp).2.2.2)))) rfl ?_
  refine pm_mem (M' := pm_up (pm_up (pm_up (pm_up (pm_up (pm_up M m0 (pm_mo z m0 ((d_X13_ends ((d_X13_doPardon x n ((d_X13_keep f g gb).1) g).1) 0 k ((d_X13_doPardon x n ((d_X13_keep f g gb).1) g).2.1) ((d_X13_doPardon x n ((d_X13_keep f g gb).1) g).2.2) ((d_X13_keep f g gb).2) gp).2.1))) (m0 + 1) (.inl (kA 0, 91, .inl ((d_X13_doPardon x n ((d_X13_keep f g gb).1) g).2.2)))) (m0 + 2) (.inl (kA 0, 91, .inl ((d_X13_keep f g gb).2)))) (m0 + 4) (.inl (kA 0, 728, .inl gp))) (m0 + 1) (.inl (kA 0, 91, .inl ((d_X13_ends ((d_X13_doPardon x n ((d_X13_keep f g gb).1) g).1) 0 k ((d_X13_doPardon x n ((d_X13_keep f g gb).1) g).2.1) ((d_X13_doPardon x n ((d_X13_keep f g gb).1) g).2.2) ((d_X13_keep f g gb).2) gp).2.2.1)))) (m0 + 4) (.inl (kA 0, 728, .inl ((d_X13_ends ((d_X13_doPardon x n ((d_X13_keep f g gb).1) g).1) 0 k ((d_X13_doPardon x n ((d_X13_keep f g gb).1) g).2.1) ((d_X13_doPardon x n ((d_X13_keep f g gb).1) g).2.2) ((d_X13_keep f g gb).2) gp).2.2.2)))) (by rw [pm_up_sw (a := m0 + 4) (b := m0) (by omega), pm_up_sw (a := m0 + 2) (b := m0) (by omega), pm_up_sw (a := m0 + 1) (b := m0) (by omega), pm_up_up (a := m0)]) ?_
  refine pm_mem (M' := pm_up (pm_up (pm_up (pm_up (pm_up M m0 (pm_mo z m0 ((d_X13_ends ((d_X13_doPardon x n ((d_X13_keep f g gb).1) g).1) 0 k ((d_X13_doPardon x n ((d_X13_keep f g gb).1) g).2.1) ((d_X13_doPardon x n ((d_X13_keep f g gb).1) g).2.2) ((d_X13_keep f g gb).2) gp).2.1))) (m0 + 1) (.inl (kA 0, 91, .inl ((d_X13_ends ((d_X13_doPardon x n ((d_X13_keep f g gb).1) g).1) 0 k ((d_X13_doPardon x n ((d_X13_keep f g gb).1) g).2.1) ((d_X13_doPardon x n ((d_X13_keep f g gb).1) g).2.2) ((d_X13_keep f g gb).2) gp).2.2.1)))) (m0 + 2) (.inl (kA 0, 91, .inl ((d_X13_keep f g gb).2)))) (m0 + 4) (.inl (kA 0, 728, .inl gp))) (m0 + 4) (.inl (kA 0, 728, .inl ((d_X13_ends ((d_X13_doPardon x n ((d_X13_keep f g gb).1) g).1) 0 k ((d_X13_doPardon x n ((d_X13_keep f g gb).1) g).2.1) ((d_X13_doPardon x n ((d_X13_keep f g gb).1) g).2.2) ((d_X13_keep f g gb).2) gp).2.2.2)))) (by rw [pm_up_sw (a := m0 + 4) (b := m0 + 1) (by omega), pm_up_sw (a := m0 + 2) (b := m0 + 1) (by omega), pm_up_up (a := m0 + 1)]) ?_
  refine pm_mem (M' := pm_up (pm_up (pm_up (pm_up M m0 (pm_mo z m0 ((d_X13_ends ((d_X13_doPardon x n ((d_X13_keep f g gb).1) g).1) 0 k ((d_X13_doPardon x n ((d_X13_keep f g gb).1) g).2.1) ((d_X13_doPardon x n ((d_X13_keep f g gb).1) g).2.2) ((d_X13_keep f g gb).2) gp).2.1))) (m0 + 1) (.inl (kA 0, 91, .inl ((d_X13_ends ((d_X13_doPardon x n ((d_X13_keep f g gb).1) g).1) 0 k ((d_X13_doPardon x n ((d_X13_keep f g gb).1) g).2.1) ((d_X13_doPardon x n ((d_X13_keep f g gb).1) g).2.2) ((d_X13_keep f g gb).2) gp).2.2.1)))) (m0 + 2) (.inl (kA 0, 91, .inl ((d_X13_keep f g gb).2)))) (m0 + 4) (.inl (kA 0, 728, .inl ((d_X13_ends ((d_X13_doPardon x n ((d_X13_keep f g gb).1) g).1) 0 k ((d_X13_doPardon x n ((d_X13_keep f g gb).1) g).2.1) ((d_X13_doPardon x n ((d_X13_keep f g gb).1) g).2.2) ((d_X13_keep f g gb).2) gp).2.2.2)))) (by rw [pm_up_up (a := m0 + 4)]) ?_
  refine pm_stk (st' := [.int ((d_X13_ends ((d_X13_doPardon x n ((d_X13_keep f g gb).1) g).1) 0 k ((d_X13_doPardon x n ((d_X13_keep f g gb).1) g).2.1) ((d_X13_doPardon x n ((d_X13_keep f g gb).1) g).2.2) ((d_X13_keep f g gb).2) gp).1)]) rfl ?_
  have hDq1 : (d_X13_pardon x n k f g gb gp) = (((d_X13_ends ((d_X13_doPardon x n ((d_X13_keep f g gb).1) g).1) 0 k ((d_X13_doPardon x n ((d_X13_keep f g gb).1) g).2.1) ((d_X13_doPardon x n ((d_X13_keep f g gb).1) g).2.2) ((d_X13_keep f g gb).2) gp).1), ((d_X13_ends ((d_X13_doPardon x n ((d_X13_keep f g gb).1) g).1) 0 k ((d_X13_doPardon x n ((d_X13_keep f g gb).1) g).2.1) ((d_X13_doPardon x n ((d_X13_keep f g gb).1) g).2.2) ((d_X13_keep f g gb).2) gp).2.1), ((d_X13_ends ((d_X13_doPardon x n ((d_X13_keep f g gb).1) g).1) 0 k ((d_X13_doPardon x n ((d_X13_keep f g gb).1) g).2.1) ((d_X13_doPardon x n ((d_X13_keep f g gb).1) g).2.2) ((d_X13_keep f g gb).2) gp).2.2.1), ((d_X13_keep f g gb).2), ((d_X13_ends ((d_X13_doPardon x n ((d_X13_keep f g gb).1) g).1) 0 k ((d_X13_doPardon x n ((d_X13_keep f g gb).1) g).2.1) ((d_X13_doPardon x n ((d_X13_keep f g gb).1) g).2.2) ((d_X13_keep f g gb).2) gp).2.2.2)) := by rw [d_X13_pardon]
  exact pm_ireturn B dX13_pardon_14 rfl (by first | rfl | (apply pm_nz; first | assumption | decide | exact pm_in01 _ _ _ | simp)) ⟨(by rw [hDq1]), rfl, by rw [hDq1]⟩ rfl rfl
def d_X13_doClose_L1  : Nat → Nat → Int32 → (Nat → Int32) → (Int32 × (Nat → Int32))
  | 0, _, a1_1, g_1 => (a1_1, g_1)
  | k1 + 1, j1, a1_1, g_1 => if 0 < (pm_mv g_1 j1) then (d_X13_doClose_L1 k1 (j1 + 1) (a1_1 + (3 * (pm_mv g_1 j1))) (upd (upd (upd (upd g_1 5 ((g_1 5) + (g_1 (7 + 5 * j1 + 3)))) 6 ((g_1 6) + (pm_mv g_1 j1))) (7 + 5 * j1 + 4) (g_1 (7 + 5 * j1 + 4))) (7 + 5 * j1 + 3) 0)) else (if (g_1 (7 + 5 * j1 + 4)) = 0 then (d_X13_doClose_L1 k1 (j1 + 1) (a1_1 + (3 * (pm_mv g_1 j1))) (upd (upd (upd (upd g_1 5 ((g_1 5) + (g_1 (7 + 5 * j1 + 3)))) 6 ((g_1 6) + (pm_mv g_1 j1))) (7 + 5 * j1 + 4) (g_1 (7 + 5 * j1 + 4))) (7 + 5 * j1 + 3) 0)) else (if (g_1 (7 + 5 * j1 + 4)) ≤ 0 then (d_X13_doClose_L1 k1 (j1 + 1) (a1_1 + (3 * (pm_mv g_1 j1))) (upd (upd (upd (upd g_1 5 ((g_1 5) + (g_1 (7 + 5 * j1 + 3)))) 6 ((g_1 6) + (pm_mv g_1 j1))) (7 + 5 * j1 + 4) ((g_1 (7 + 5 * j1 + 4)) + 1)) (7 + 5 * j1 + 3) 0)) else (d_X13_doClose_L1 k1 (j1 + 1) (a1_1 + (3 * (pm_mv g_1 j1))) (upd (upd (upd (upd g_1 5 ((g_1 5) + (g_1 (7 + 5 * j1 + 3)))) 6 ((g_1 6) + (pm_mv g_1 j1))) (7 + 5 * j1 + 4) ((g_1 (7 + 5 * j1 + 4)) - 1)) (7 + 5 * j1 + 3) 0))))
def d_X13_doClose (n : Nat) (f : Nat → Int32) (g : Nat → Int32) : (Int32 × (Nat → Int32)) := (((d_X13_doClose_L1 n 0 0 g).1), (upd ((d_X13_doClose_L1 n 0 0 g).2) 4 ((((d_X13_doClose_L1 n 0 0 g).2) 4) + 1)))
set_option maxRecDepth 100000 in
set_option maxHeartbeats 8000000 in
theorem c_X13_doClose {l : Launch} {z : Nat} {D : va_G} {kA : Nat → ClassId} {kE : Nat → Nat} {nx : Nat} {M : pm_M} {n : Nat}{m0 : Nat} {f : Nat → Int32} {g : Nat → Int32} (hM : M m0 = some (pm_mo z m0 f)) (hg : M (m0 + 1) = some (.inl (kA 0, 91, .inl g))) (hn : g 0 = nI n) (h7 : n ≤ 7) : pm_C l z D kA kE yX13_doClose cX13_doClose 5 (some .int) 2 0 0 [.ref (z + m0)] nx M (pm_rt (some (.int ((d_X13_doClose n f g).1))) nx (pm_up M (m0 + 1) (.inl (kA 0, 91, .inl ((d_X13_doClose n f g).2))))) := by
  refine pm_mk (own := RX13) (nm := "doClose") mt_X13_doClose rfl rfl rfl rfl fun X B => ?_
  refine pm_loc (L' := [some (.ref (z + m0)), none, none, none, none]) rfl ?_
  refine pm_mem (M' := pm_up M (m0 + 1) (.inl (kA 0, 91, .inl g))) (by rw [pm_up_id hg]) ?_
  refine pm_iconst (v := 0) B dX13_doClose_0 (by decide) ?_
  refine pm_istore_n B dX13_doClose_1 rfl rfl ?_
  refine pm_loc (L' := [some (.ref (z + m0)), some (.int 0), none, none, none]) rfl ?_
  refine pm_iconst (v := 0) B dX13_doClose_2 (by decide) ?_
  refine pm_istore_n B dX13_doClose_3 rfl rfl ?_
  refine pm_loc (L' := [some (.ref (z + m0)), some (.int 0), some (.int 0), none, none]) rfl ?_
  refine pm_loc (L' := [some (.ref (z + m0)), some (.int 0), some (.int (nI 0)), none, none]) rfl ?_
  have loop1 : ∀ (K1 : (Int32 → (Nat → Int32) → (Int32 × (Nat → Int32)))), (∀ (a1_1 : Int32) (g_1 : (Nat → Int32)), (hn_1 : g_1 0 = nI n) → pm_G l z D X 0 0 (pm_Q z D (pm_rt (some (.int ((K1 a1_1 g_1).1))) nx (pm_up M (m0 + 1) (.inl (kA 0, 91, .inl ((K1 a1_1 g_1).2))))) 0 0 X) nx (pm_up M (m0 + 1) (.inl (kA 0, 91, .inl g_1))) 109 [some (.ref (z + m0)), some (.int a1_1), none, none, none] []) → ∀ (k1 j1 : Nat), j1 + k1 = n → ∀ (a1_1 : Int32) (g_1 : (Nat → Int32)), (hn_1 : g_1 0 = nI n) → pm_G l z D X 0 0 (pm_Q z D (pm_rt (some (.int ((K1 ((d_X13_doClose_L1 k1 j1 a1_1 g_1).1) ((d_X13_doClose_L1 k1 j1 a1_1 g_1).2)).1))) nx (pm_up M (m0 + 1) (.inl (kA 0, 91, .inl ((K1 ((d_X13_doClose_L1 k1 j1 a1_1 g_1).1) ((d_X13_doClose_L1 k1 j1 a1_1 g_1).2)).2))))) 0 0 X) nx (pm_up M (m0 + 1) (.inl (kA 0, 91, .inl g_1))) 4 [some (.ref (z + m0)), some (.int a1_1), some (.int (nI j1)), none, none] [] := by
    intro K1 hK1 k1
    induction k1 with
    | zero =>
      intro j1 hj1 a1_1 g_1 hn_1
      have hjn1 : j1 = n := by omega
      refine pm_iload_n B dX13_doClose_4 rfl ?_
      refine pm_aload_n B dX13_doClose_5 rfl ?_
      refine pm_get B dX13_doClose_6 fl_X13_9 ((pm_up_n (by omega)).trans hM) rfl ?_
      refine pm_iconst (v := 0) B dX13_doClose_9 (by decide) ?_
      refine pm_iald_n B dX13_doClose_10 pm_up_s 0 (by decide) (by decide) ?_
      refine pm_stk (st' := [.int (nI n), .int (nI j1)]) (by rw [show (g_1 0) = (nI n) from by rw [hn_1]]) ?_
      refine pm_icmp_ge (tgt := 109) B dX13_doClose_11 (by decide) (fun hq1 => ?_) (fun hq1 => absurd ((nI_leI (by first | omega | decide) (by first | omega | decide)).mpr (by omega)) hq1)
      refine pm_wk (L' := [some (.ref (z + m0)), some (.int a1_1), none, none, none]) ⟨rfl, ⟨rfl, trivial⟩⟩ ?_
      have hDq2 : (K1 ((d_X13_doClose_L1 0 j1 a1_1 g_1).1) ((d_X13_doClose_L1 0 j1 a1_1 g_1).2)) = (K1 a1_1 g_1) := by rw [d_X13_doClose_L1]
      refine pm_pst (post' := pm_rt (some (.int ((K1 a1_1 g_1).1))) nx (pm_up M (m0 + 1) (.inl (kA 0, 91, .inl ((K1 a1_1 g_1).2))))) (by rw [hDq2]) ?_
      exact hK1 a1_1 g_1 (hn_1)
    | succ k1 ih1 =>
      intro j1 hj1 a1_1 g_1 hn_1
      have hjn1 : j1 < n := by omega
      refine pm_iload_n B dX13_doClose_4 rfl ?_
      refine pm_aload_n B dX13_doClose_5 rfl ?_
      refine pm_get B dX13_doClose_6 fl_X13_9 ((pm_up_n (by omega)).trans hM) rfl ?_
      refine pm_iconst (v := 0) B dX13_doClose_9 (by decide) ?_
      refine pm_iald_n B dX13_doClose_10 pm_up_s 0 (by decide) (by decide) ?_
      refine pm_stk (st' := [.int (nI n), .int (nI j1)]) (by rw [show (g_1 0) = (nI n) from by rw [hn_1]]) ?_
      refine pm_icmp_ge (tgt := 109) B dX13_doClose_11 (by decide) (fun hq3 => absurd hq3 (fun e => absurd ((nI_leI (by first | omega | decide) (by first | omega | decide)).mp e) (by omega))) (fun hq3 => ?_)
      refine pm_aload_n B dX13_doClose_14 rfl ?_
      refine pm_iload_n B dX13_doClose_15 rfl ?_
      refine pm_cV (As := [.int (nI j1)]) (mc2 := 0) (ms2 := 0) B rfl ((pm_up_n (by omega)).trans hM) rfl (c_X13_over (f := f) ((pm_up_n (by omega)).trans hM) pm_up_s (i := j1) (by first | assumption | omega)) mt_X13_over sv_X13_117 dX13_doClose_16 rfl rfl rfl rfl rfl ?_
      refine pm_stk (st' := [.int (pm_mv g_1 j1)]) rfl ?_
      refine pm_istore_n B dX13_doClose_19 rfl rfl ?_
      refine pm_loc (L' := [some (.ref (z + m0)), some (.int a1_1), some (.int (nI j1)), some (.int (pm_mv g_1 j1)), none]) rfl ?_
      refine pm_aload_n B dX13_doClose_20 rfl ?_
      refine pm_iload_n B dX13_doClose_21 rfl ?_
      refine pm_iconst (v := 4) B dX13_doClose_22 (by decide) ?_
      refine pm_cV (As := [.int (nI j1), .int (nI 4)]) (mc2 := 0) (ms2 := 0) B rfl ((pm_up_n (by omega)).trans hM) rfl (c_X13_of (f := f) ((pm_up_n (by omega)).trans hM) pm_up_s (i := j1) (w := 4) (by first | assumption | omega) (by first | assumption | omega)) mt_X13_of sv_X13_74 dX13_doClose_23 rfl rfl rfl rfl rfl ?_
      refine pm_stk (st' := [.int (g_1 (7 + 5 * j1 + 4))]) rfl ?_
      refine pm_istore B dX13_doClose_26 rfl rfl ?_
      refine pm_loc (L' := [some (.ref (z + m0)), some (.int a1_1), some (.int (nI j1)), some (.int (pm_mv g_1 j1)), some (.int (g_1 (7 + 5 * j1 + 4)))]) rfl ?_
      refine pm_iload_n B dX13_doClose_28 rfl ?_
      refine pm_iconst (v := 3) B dX13_doClose_29 (by decide) ?_
      refine pm_iload_n B dX13_doClose_30 rfl ?_
      refine pm_imul B dX13_doClose_31 ?_
      refine pm_iadd B dX13_doClose_32 ?_
      refine pm_istore_n B dX13_doClose_33 rfl rfl ?_
      refine pm_loc (L' := [some (.ref (z + m0)), some (.int (a1_1 + (3 * (pm_mv g_1 j1)))), some (.int (nI j1)), some (.int (pm_mv g_1 j1)), some (.int (g_1 (7 + 5 * j1 + 4)))]) rfl ?_
      refine pm_aload_n B dX13_doClose_34 rfl ?_
      refine pm_get B dX13_doClose_35 fl_X13_9 ((pm_up_n (by omega)).trans hM) rfl ?_
      refine pm_iconst (v := 5) B dX13_doClose_38 (by decide) ?_
      refine pm_dup2 B dX13_doClose_39 rfl rfl ?_
      refine pm_iald_n B dX13_doClose_40 pm_up_s 5 (by decide) (by decide) ?_
      refine pm_aload_n B dX13_doClose_41 rfl ?_
      refine pm_iload_n B dX13_doClose_42 rfl ?_
      refine pm_iconst (v := 3) B dX13_doClose_43 (by decide) ?_
      refine pm_cV (As := [.int (nI j1), .int (nI 3)]) (mc2 := 0) (ms2 := 0) B rfl ((pm_up_n (by omega)).trans hM) rfl (c_X13_of (f := f) ((pm_up_n (by omega)).trans hM) pm_up_s (i := j1) (w := 3) (by first | assumption | omega) (by first | assumption | omega)) mt_X13_of sv_X13_74 dX13_doClose_44 rfl rfl rfl rfl rfl ?_
      refine pm_stk (st' := [.int (g_1 (7 + 5 * j1 + 3)), .int (g_1 5), .int 5, .ref (z + (m0 + 1))]) rfl ?_
      refine pm_iadd B dX13_doClose_47 ?_
      refine pm_iast_n B dX13_doClose_48 pm_up_s 5 (by decide) (by decide) ?_
      refine pm_mem (M' := pm_up M (m0 + 1) (.inl (kA 0, 91, .inl (upd g_1 5 ((g_1 5) + (g_1 (7 + 5 * j1 + 3))))))) pm_up_up ?_
      refine pm_aload_n B dX13_doClose_49 rfl ?_
      refine pm_get B dX13_doClose_50 fl_X13_9 ((pm_up_n (by omega)).trans hM) rfl ?_
      refine pm_bipush (v := 6) B dX13_doClose_53 (by decide) ?_
      refine pm_dup2 B dX13_doClose_55 rfl rfl ?_
      refine pm_iald_n B dX13_doClose_56 pm_up_s 6 (by decide) (by decide) ?_
      refine pm_stk (st' := [.int (g_1 6), .int 6, .ref (z + (m0 + 1))]) (by rw [show ((upd g_1 5 ((g_1 5) + (g_1 (7 + 5 * j1 + 3)))) 6) = (g_1 6) from by rw [pk_un (show 6 ≠ 5 from (by decide))]]) ?_
      refine pm_iload_n B dX13_doClose_57 rfl ?_
      refine pm_iadd B dX13_doClose_58 ?_
      refine pm_iast_n B dX13_doClose_59 pm_up_s 6 (by decide) (by decide) ?_
      refine pm_mem (M' := pm_up M (m0 + 1) (.inl (kA 0, 91, .inl (upd (upd g_1 5 ((g_1 5) + (g_1 (7 + 5 * j1 + 3)))) 6 ((g_1 6) + (pm_mv g_1 j1)))))) pm_up_up ?_
      refine pm_aload_n B dX13_doClose_60 rfl ?_
      refine pm_iload_n B dX13_doClose_61 rfl ?_
      refine pm_iconst (v := 4) B dX13_doClose_62 (by decide) ?_
      refine pm_iload_n B dX13_doClose_63 rfl ?_
      refine pm_if_gt (tgt := 72) B dX13_doClose_64 (by decide) (fun hq4 => ?_) (fun hq4 => ?_)
      · refine pm_iload B dX13_doClose_72 rfl ?_
        refine pm_goto (tgt := 93) B dX13_doClose_74 (by decide) ?_
        refine pm_cV (As := [.int (nI j1), .int (nI 4), .int (g_1 (7 + 5 * j1 + 4))]) (mc2 := 0) (ms2 := 0) B rfl ((pm_up_n (by omega)).trans hM) rfl (c_X13_sets (f := f) ((pm_up_n (by omega)).trans hM) pm_up_s (i := j1) (w := 4) (by first | assumption | omega) (by first | assumption | omega)) mt_X13_sets sv_X13_87 dX13_doClose_93 rfl rfl rfl rfl rfl ?_
        refine pm_mem (M' := pm_up M (m0 + 1) (.inl (kA 0, 91, .inl (upd (upd (upd g_1 5 ((g_1 5) + (g_1 (7 + 5 * j1 + 3)))) 6 ((g_1 6) + (pm_mv g_1 j1))) (7 + 5 * j1 + 4) (g_1 (7 + 5 * j1 + 4)))))) pm_up_up ?_
        refine pm_stk (st' := []) rfl ?_
        refine pm_aload_n B dX13_doClose_96 rfl ?_
        refine pm_iload_n B dX13_doClose_97 rfl ?_
        refine pm_iconst (v := 3) B dX13_doClose_98 (by decide) ?_
        refine pm_iconst (v := 0) B dX13_doClose_99 (by decide) ?_
        refine pm_cV (As := [.int (nI j1), .int (nI 3), .int 0]) (mc2 := 0) (ms2 := 0) B rfl ((pm_up_n (by omega)).trans hM) rfl (c_X13_sets (f := f) ((pm_up_n (by omega)).trans hM) pm_up_s (i := j1) (w := 3) (by first | assumption | omega) (by first | assumption | omega)) mt_X13_sets sv_X13_87 dX13_doClose_100 rfl rfl rfl rfl rfl ?_
        refine pm_mem (M' := pm_up M (m0 + 1) (.inl (kA 0, 91, .inl (upd (upd (upd (upd g_1 5 ((g_1 5) + (g_1 (7 + 5 * j1 + 3)))) 6 ((g_1 6) + (pm_mv g_1 j1))) (7 + 5 * j1 + 4) (g_1 (7 + 5 * j1 + 4))) (7 + 5 * j1 + 3) 0)))) pm_up_up ?_
        refine pm_stk (st' := []) rfl ?_
        refine pm_iinc B dX13_doClose_103 rfl rfl rfl ?_
        refine pm_loc (L' := [some (.ref (z + m0)), some (.int (a1_1 + (3 * (pm_mv g_1 j1)))), some (.int (nI (j1 + 1))), some (.int (pm_mv g_1 j1)), some (.int (g_1 (7 + 5 * j1 + 4)))]) (by rw [show ((nI j1) : Int32) + Int32.ofInt 1 = (nI (j1 + 1)) from nI_1 _]; rfl) ?_
        refine pm_goto (tgt := 4) B dX13_doClose_106 (by decide) ?_
        refine pm_wk (L' := [some (.ref (z + m0)), some (.int (a1_1 + (3 * (pm_mv g_1 j1)))), some (.int (nI (j1 + 1))), none, none]) ⟨rfl, ⟨rfl, ⟨rfl, trivial⟩⟩⟩ ?_
        have hDq5 : (K1 ((d_X13_doClose_L1 (k1 + 1) j1 a1_1 g_1).1) ((d_X13_doClose_L1 (k1 + 1) j1 a1_1 g_1).2)) = (K1 ((d_X13_doClose_L1 k1 (j1 + 1) (a1_1 + (3 * (pm_mv g_1 j1))) (upd (upd (upd (upd g_1 5 ((g_1 5) + (g_1 (7 + 5 * j1 + 3)))) 6 ((g_1 6) + (pm_mv g_1 j1))) (7 + 5 * j1 + 4) (g_1 (7 + 5 * j1 + 4))) (7 + 5 * j1 + 3) 0)).1) ((d_X13_doClose_L1 k1 (j1 + 1) (a1_1 + (3 * (pm_mv g_1 j1))) (upd (upd (upd (upd g_1 5 ((g_1 5) + (g_1 (7 + 5 * j1 + 3)))) 6 ((g_1 6) + (pm_mv g_1 j1))) (7 + 5 * j1 + 4) (g_1 (7 + 5 * j1 + 4))) (7 + 5 * j1 + 3) 0)).2)) := by rw [d_X13_doClose_L1, if_pos hq4]
        refine pm_pst (post' := pm_rt (some (.int ((K1 ((d_X13_doClose_L1 k1 (j1 + 1) (a1_1 + (3 * (pm_mv g_1 j1))) (upd (upd (upd (upd g_1 5 ((g_1 5) + (g_1 (7 + 5 * j1 + 3)))) 6 ((g_1 6) + (pm_mv g_1 j1))) (7 + 5 * j1 + 4) (g_1 (7 + 5 * j1 + 4))) (7 + 5 * j1 + 3) 0)).1) ((d_X13_doClose_L1 k1 (j1 + 1) (a1_1 + (3 * (pm_mv g_1 j1))) (upd (upd (upd (upd g_1 5 ((g_1 5) + (g_1 (7 + 5 * j1 + 3)))) 6 ((g_1 6) + (pm_mv g_1 j1))) (7 + 5 * j1 + 4) (g_1 (7 + 5 * j1 + 4))) (7 + 5 * j1 + 3) 0)).2)).1))) nx (pm_up M (m0 + 1) (.inl (kA 0, 91, .inl ((K1 ((d_X13_doClose_L1 k1 (j1 + 1) (a1_1 + (3 * (pm_mv g_1 j1))) (upd (upd (upd (upd g_1 5 ((g_1 5) + (g_1 (7 + 5 * j1 + 3)))) 6 ((g_1 6) + (pm_mv g_1 j1))) (7 + 5 * j1 + 4) (g_1 (7 + 5 * j1 + 4))) (7 + 5 * j1 + 3) 0)).1) ((d_X13_doClose_L1 k1 (j1 + 1) (a1_1 + (3 * (pm_mv g_1 j1))) (upd (upd (upd (upd g_1 5 ((g_1 5) + (g_1 (7 + 5 * j1 + 3)))) 6 ((g_1 6) + (pm_mv g_1 j1))) (7 + 5 * j1 + 4) (g_1 (7 + 5 * j1 + 4))) (7 + 5 * j1 + 3) 0)).2)).2))))) (by rw [hDq5]) ?_
        exact ih1 (j1 + 1) (by omega) (a1_1 + (3 * (pm_mv g_1 j1))) (upd (upd (upd (upd g_1 5 ((g_1 5) + (g_1 (7 + 5 * j1 + 3)))) 6 ((g_1 6) + (pm_mv g_1 j1))) (7 + 5 * j1 + 4) (g_1 (7 + 5 * j1 + 4))) (7 + 5 * j1 + 3) 0) ((show (upd (upd (upd (upd g_1 5 ((g_1 5) + (g_1 (7 + 5 * j1 + 3)))) 6 ((g_1 6) + (pm_mv g_1 j1))) (7 + 5 * j1 + 4) (g_1 (7 + 5 * j1 + 4))) (7 + 5 * j1 + 3) 0) 0 = (nI n) from by rw [pk_un (show 0 ≠ 7 + 5 * j1 + 3 from (by omega)), pk_un (show 0 ≠ 7 + 5 * j1 + 4 from (by omega)), pk_un (show 0 ≠ 6 from (by decide)), pk_un (show 0 ≠ 5 from (by decide)), hn_1]))
      · refine pm_iload B dX13_doClose_67 rfl ?_
        refine pm_if_ne (tgt := 77) B dX13_doClose_69 (by decide) (fun hq6 => ?_) (fun hq6 => ?_)
        · refine pm_iload B dX13_doClose_77 rfl ?_
          refine pm_if_le (tgt := 89) B dX13_doClose_79 (by decide) (fun hq7 => ?_) (fun hq7 => ?_)
          · refine pm_iload B dX13_doClose_89 rfl ?_
            refine pm_iconst (v := 1) B dX13_doClose_91 (by decide) ?_
            refine pm_iadd B dX13_doClose_92 ?_
            refine pm_cV (As := [.int (nI j1), .int (nI 4), .int ((g_1 (7 + 5 * j1 + 4)) + 1)]) (mc2 := 0) (ms2 := 0) B rfl ((pm_up_n (by omega)).trans hM) rfl (c_X13_sets (f := f) ((pm_up_n (by omega)).trans hM) pm_up_s (i := j1) (w := 4) (by first | assumption | omega) (by first | assumption | omega)) mt_X13_sets sv_X13_87 dX13_doClose_93 rfl rfl rfl rfl rfl ?_
            refine pm_mem (M' := pm_up M (m0 + 1) (.inl (kA 0, 91, .inl (upd (upd (upd g_1 5 ((g_1 5) + (g_1 (7 + 5 * j1 + 3)))) 6 ((g_1 6) + (pm_mv g_1 j1))) (7 + 5 * j1 + 4) ((g_1 (7 + 5 * j1 + 4)) + 1))))) pm_up_up ?_
            refine pm_stk (st' := []) rfl ?_
            refine pm_aload_n B dX13_doClose_96 rfl ?_
            refine pm_iload_n B dX13_doClose_97 rfl ?_
            refine pm_iconst (v := 3) B dX13_doClose_98 (by decide) ?_
            refine pm_iconst (v := 0) B dX13_doClose_99 (by decide) ?_
            refine pm_cV (As := [.int (nI j1), .int (nI 3), .int 0]) (mc2 := 0) (ms2 := 0) B rfl ((pm_up_n (by omega)).trans hM) rfl (c_X13_sets (f := f) ((pm_up_n (by omega)).trans hM) pm_up_s (i := j1) (w := 3) (by first | assumption | omega) (by first | assumption | omega)) mt_X13_sets sv_X13_87 dX13_doClose_100 rfl rfl rfl rfl rfl ?_
            refine pm_mem (M' := pm_up M (m0 + 1) (.inl (kA 0, 91, .inl (upd (upd (upd (upd g_1 5 ((g_1 5) + (g_1 (7 + 5 * j1 + 3)))) 6 ((g_1 6) + (pm_mv g_1 j1))) (7 + 5 * j1 + 4) ((g_1 (7 + 5 * j1 + 4)) + 1)) (7 + 5 * j1 + 3) 0)))) pm_up_up ?_
            refine pm_stk (st' := []) rfl ?_
            refine pm_iinc B dX13_doClose_103 rfl rfl rfl ?_
            refine pm_loc (L' := [some (.ref (z + m0)), some (.int (a1_1 + (3 * (pm_mv g_1 j1)))), some (.int (nI (j1 + 1))), some (.int (pm_mv g_1 j1)), some (.int (g_1 (7 + 5 * j1 + 4)))]) (by rw [show ((nI j1) : Int32) + Int32.ofInt 1 = (nI (j1 + 1)) from nI_1 _]; rfl) ?_
            refine pm_goto (tgt := 4) B dX13_doClose_106 (by decide) ?_
            refine pm_wk (L' := [some (.ref (z + m0)), some (.int (a1_1 + (3 * (pm_mv g_1 j1)))), some (.int (nI (j1 + 1))), none, none]) ⟨rfl, ⟨rfl, ⟨rfl, trivial⟩⟩⟩ ?_
            have hDq8 : (K1 ((d_X13_doClose_L1 (k1 + 1) j1 a1_1 g_1).1) ((d_X13_doClose_L1 (k1 + 1) j1 a1_1 g_1).2)) = (K1 ((d_X13_doClose_L1 k1 (j1 + 1) (a1_1 + (3 * (pm_mv g_1 j1))) (upd (upd (upd (upd g_1 5 ((g_1 5) + (g_1 (7 + 5 * j1 + 3)))) 6 ((g_1 6) + (pm_mv g_1 j1))) (7 + 5 * j1 + 4) ((g_1 (7 + 5 * j1 + 4)) + 1)) (7 + 5 * j1 + 3) 0)).1) ((d_X13_doClose_L1 k1 (j1 + 1) (a1_1 + (3 * (pm_mv g_1 j1))) (upd (upd (upd (upd g_1 5 ((g_1 5) + (g_1 (7 + 5 * j1 + 3)))) 6 ((g_1 6) + (pm_mv g_1 j1))) (7 + 5 * j1 + 4) ((g_1 (7 + 5 * j1 + 4)) + 1)) (7 + 5 * j1 + 3) 0)).2)) := by rw [d_X13_doClose_L1, if_neg hq4, if_neg hq6, if_pos hq7]
            refine pm_pst (post' := pm_rt (some (.int ((K1 ((d_X13_doClose_L1 k1 (j1 + 1) (a1_1 + (3 * (pm_mv g_1 j1))) (upd (upd (upd (upd g_1 5 ((g_1 5) + (g_1 (7 + 5 * j1 + 3)))) 6 ((g_1 6) + (pm_mv g_1 j1))) (7 + 5 * j1 + 4) ((g_1 (7 + 5 * j1 + 4)) + 1)) (7 + 5 * j1 + 3) 0)).1) ((d_X13_doClose_L1 k1 (j1 + 1) (a1_1 + (3 * (pm_mv g_1 j1))) (upd (upd (upd (upd g_1 5 ((g_1 5) + (g_1 (7 + 5 * j1 + 3)))) 6 ((g_1 6) + (pm_mv g_1 j1))) (7 + 5 * j1 + 4) ((g_1 (7 + 5 * j1 + 4)) + 1)) (7 + 5 * j1 + 3) 0)).2)).1))) nx (pm_up M (m0 + 1) (.inl (kA 0, 91, .inl ((K1 ((d_X13_doClose_L1 k1 (j1 + 1) (a1_1 + (3 * (pm_mv g_1 j1))) (upd (upd (upd (upd g_1 5 ((g_1 5) + (g_1 (7 + 5 * j1 + 3)))) 6 ((g_1 6) + (pm_mv g_1 j1))) (7 + 5 * j1 + 4) ((g_1 (7 + 5 * j1 + 4)) + 1)) (7 + 5 * j1 + 3) 0)).1) ((d_X13_doClose_L1 k1 (j1 + 1) (a1_1 + (3 * (pm_mv g_1 j1))) (upd (upd (upd (upd g_1 5 ((g_1 5) + (g_1 (7 + 5 * j1 + 3)))) 6 ((g_1 6) + (pm_mv g_1 j1))) (7 + 5 * j1 + 4) ((g_1 (7 + 5 * j1 + 4)) + 1)) (7 + 5 * j1 + 3) 0)).2)).2))))) (by rw [hDq8]) ?_
            exact ih1 (j1 + 1) (by omega) (a1_1 + (3 * (pm_mv g_1 j1))) (upd (upd (upd (upd g_1 5 ((g_1 5) + (g_1 (7 + 5 * j1 + 3)))) 6 ((g_1 6) + (pm_mv g_1 j1))) (7 + 5 * j1 + 4) ((g_1 (7 + 5 * j1 + 4)) + 1)) (7 + 5 * j1 + 3) 0) ((show (upd (upd (upd (upd g_1 5 ((g_1 5) + (g_1 (7 + 5 * j1 + 3)))) 6 ((g_1 6) + (pm_mv g_1 j1))) (7 + 5 * j1 + 4) ((g_1 (7 + 5 * j1 + 4)) + 1)) (7 + 5 * j1 + 3) 0) 0 = (nI n) from by rw [pk_un (show 0 ≠ 7 + 5 * j1 + 3 from (by omega)), pk_un (show 0 ≠ 7 + 5 * j1 + 4 from (by omega)), pk_un (show 0 ≠ 6 from (by decide)), pk_un (show 0 ≠ 5 from (by decide)), hn_1]))
          · refine pm_iload B dX13_doClose_82 rfl ?_
            refine pm_iconst (v := 1) B dX13_doClose_84 (by decide) ?_
            refine pm_isub B dX13_doClose_85 ?_
            refine pm_goto (tgt := 93) B dX13_doClose_86 (by decide) ?_
            refine pm_cV (As := [.int (nI j1), .int (nI 4), .int ((g_1 (7 + 5 * j1 + 4)) - 1)]) (mc2 := 0) (ms2 := 0) B rfl ((pm_up_n (by omega)).trans hM) rfl (c_X13_sets (f := f) ((pm_up_n (by omega)).trans hM) pm_up_s (i := j1) (w := 4) (by first | assumption | omega) (by first | assumption | omega)) mt_X13_sets sv_X13_87 dX13_doClose_93 rfl rfl rfl rfl rfl ?_
            refine pm_mem (M' := pm_up M (m0 + 1) (.inl (kA 0, 91, .inl (upd (upd (upd g_1 5 ((g_1 5) + (g_1 (7 + 5 * j1 + 3)))) 6 ((g_1 6) + (pm_mv g_1 j1))) (7 + 5 * j1 + 4) ((g_1 (7 + 5 * j1 + 4)) - 1))))) pm_up_up ?_
            refine pm_stk (st' := []) rfl ?_
            refine pm_aload_n B dX13_doClose_96 rfl ?_
            refine pm_iload_n B dX13_doClose_97 rfl ?_
            refine pm_iconst (v := 3) B dX13_doClose_98 (by decide) ?_
            refine pm_iconst (v := 0) B dX13_doClose_99 (by decide) ?_
            refine pm_cV (As := [.int (nI j1), .int (nI 3), .int 0]) (mc2 := 0) (ms2 := 0) B rfl ((pm_up_n (by omega)).trans hM) rfl (c_X13_sets (f := f) ((pm_up_n (by omega)).trans hM) pm_up_s (i := j1) (w := 3) (by first | assumption | omega) (by first | assumption | omega)) mt_X13_sets sv_X13_87 dX13_doClose_100 rfl rfl rfl rfl rfl ?_
            refine pm_mem (M' := pm_up M (m0 + 1) (.inl (kA 0, 91, .inl (upd (upd (upd (upd g_1 5 ((g_1 5) + (g_1 (7 + 5 * j1 + 3)))) 6 ((g_1 6) + (pm_mv g_1 j1))) (7 + 5 * j1 + 4) ((g_1 (7 + 5 * j1 + 4)) - 1)) (7 + 5 * j1 + 3) 0)))) pm_up_up ?_
            refine pm_stk (st' := []) rfl ?_
            refine pm_iinc B dX13_doClose_103 rfl rfl rfl ?_
            refine pm_loc (L' := [some (.ref (z + m0)), some (.int (a1_1 + (3 * (pm_mv g_1 j1)))), some (.int (nI (j1 + 1))), some (.int (pm_mv g_1 j1)), some (.int (g_1 (7 + 5 * j1 + 4)))]) (by rw [show ((nI j1) : Int32) + Int32.ofInt 1 = (nI (j1 + 1)) from nI_1 _]; rfl) ?_
            refine pm_goto (tgt := 4) B dX13_doClose_106 (by decide) ?_
            refine pm_wk (L' := [some (.ref (z + m0)), some (.int (a1_1 + (3 * (pm_mv g_1 j1)))), some (.int (nI (j1 + 1))), none, none]) ⟨rfl, ⟨rfl, ⟨rfl, trivial⟩⟩⟩ ?_
            have hDq9 : (K1 ((d_X13_doClose_L1 (k1 + 1) j1 a1_1 g_1).1) ((d_X13_doClose_L1 (k1 + 1) j1 a1_1 g_1).2)) = (K1 ((d_X13_doClose_L1 k1 (j1 + 1) (a1_1 + (3 * (pm_mv g_1 j1))) (upd (upd (upd (upd g_1 5 ((g_1 5) + (g_1 (7 + 5 * j1 + 3)))) 6 ((g_1 6) + (pm_mv g_1 j1))) (7 + 5 * j1 + 4) ((g_1 (7 + 5 * j1 + 4)) - 1)) (7 + 5 * j1 + 3) 0)).1) ((d_X13_doClose_L1 k1 (j1 + 1) (a1_1 + (3 * (pm_mv g_1 j1))) (upd (upd (upd (upd g_1 5 ((g_1 5) + (g_1 (7 + 5 * j1 + 3)))) 6 ((g_1 6) + (pm_mv g_1 j1))) (7 + 5 * j1 + 4) ((g_1 (7 + 5 * j1 + 4)) - 1)) (7 + 5 * j1 + 3) 0)).2)) := by rw [d_X13_doClose_L1, if_neg hq4, if_neg hq6, if_neg hq7]
            refine pm_pst (post' := pm_rt (some (.int ((K1 ((d_X13_doClose_L1 k1 (j1 + 1) (a1_1 + (3 * (pm_mv g_1 j1))) (upd (upd (upd (upd g_1 5 ((g_1 5) + (g_1 (7 + 5 * j1 + 3)))) 6 ((g_1 6) + (pm_mv g_1 j1))) (7 + 5 * j1 + 4) ((g_1 (7 + 5 * j1 + 4)) - 1)) (7 + 5 * j1 + 3) 0)).1) ((d_X13_doClose_L1 k1 (j1 + 1) (a1_1 + (3 * (pm_mv g_1 j1))) (upd (upd (upd (upd g_1 5 ((g_1 5) + (g_1 (7 + 5 * j1 + 3)))) 6 ((g_1 6) + (pm_mv g_1 j1))) (7 + 5 * j1 + 4) ((g_1 (7 + 5 * j1 + 4)) - 1)) (7 + 5 * j1 + 3) 0)).2)).1))) nx (pm_up M (m0 + 1) (.inl (kA 0, 91, .inl ((K1 ((d_X13_doClose_L1 k1 (j1 + 1) (a1_1 + (3 * (pm_mv g_1 j1))) (upd (upd (upd (upd g_1 5 ((g_1 5) + (g_1 (7 + 5 * j1 + 3)))) 6 ((g_1 6) + (pm_mv g_1 j1))) (7 + 5 * j1 + 4) ((g_1 (7 + 5 * j1 + 4)) - 1)) (7 + 5 * j1 + 3) 0)).1) ((d_X13_doClose_L1 k1 (j1 + 1) (a1_1 + (3 * (pm_mv g_1 j1))) (upd (upd (upd (upd g_1 5 ((g_1 5) + (g_1 (7 + 5 * j1 + 3)))) 6 ((g_1 6) + (pm_mv g_1 j1))) (7 + 5 * j1 + 4) ((g_1 (7 + 5 * j1 + 4)) - 1)) (7 + 5 * j1 + 3) 0)).2)).2))))) (by rw [hDq9]) ?_
            exact ih1 (j1 + 1) (by omega) (a1_1 + (3 * (pm_mv g_1 j1))) (upd (upd (upd (upd g_1 5 ((g_1 5) + (g_1 (7 + 5 * j1 + 3)))) 6 ((g_1 6) + (pm_mv g_1 j1))) (7 + 5 * j1 + 4) ((g_1 (7 + 5 * j1 + 4)) - 1)) (7 + 5 * j1 + 3) 0) ((show (upd (upd (upd (upd g_1 5 ((g_1 5) + (g_1 (7 + 5 * j1 + 3)))) 6 ((g_1 6) + (pm_mv g_1 j1))) (7 + 5 * j1 + 4) ((g_1 (7 + 5 * j1 + 4)) - 1)) (7 + 5 * j1 + 3) 0) 0 = (nI n) from by rw [pk_un (show 0 ≠ 7 + 5 * j1 + 3 from (by omega)), pk_un (show 0 ≠ 7 + 5 * j1 + 4 from (by omega)), pk_un (show 0 ≠ 6 from (by decide)), pk_un (show 0 ≠ 5 from (by decide)), hn_1]))
        · refine pm_iload B dX13_doClose_72 rfl ?_
          refine pm_goto (tgt := 93) B dX13_doClose_74 (by decide) ?_
          refine pm_cV (As := [.int (nI j1), .int (nI 4), .int (g_1 (7 + 5 * j1 + 4))]) (mc2 := 0) (ms2 := 0) B rfl ((pm_up_n (by omega)).trans hM) rfl (c_X13_sets (f := f) ((pm_up_n (by omega)).trans hM) pm_up_s (i := j1) (w := 4) (by first | assumption | omega) (by first | assumption | omega)) mt_X13_sets sv_X13_87 dX13_doClose_93 rfl rfl rfl rfl rfl ?_
          refine pm_mem (M' := pm_up M (m0 + 1) (.inl (kA 0, 91, .inl (upd (upd (upd g_1 5 ((g_1 5) + (g_1 (7 + 5 * j1 + 3)))) 6 ((g_1 6) + (pm_mv g_1 j1))) (7 + 5 * j1 + 4) (g_1 (7 + 5 * j1 + 4)))))) pm_up_up ?_
          refine pm_stk (st' := []) rfl ?_
          refine pm_aload_n B dX13_doClose_96 rfl ?_
          refine pm_iload_n B dX13_doClose_97 rfl ?_
          refine pm_iconst (v := 3) B dX13_doClose_98 (by decide) ?_
          refine pm_iconst (v := 0) B dX13_doClose_99 (by decide) ?_
          refine pm_cV (As := [.int (nI j1), .int (nI 3), .int 0]) (mc2 := 0) (ms2 := 0) B rfl ((pm_up_n (by omega)).trans hM) rfl (c_X13_sets (f := f) ((pm_up_n (by omega)).trans hM) pm_up_s (i := j1) (w := 3) (by first | assumption | omega) (by first | assumption | omega)) mt_X13_sets sv_X13_87 dX13_doClose_100 rfl rfl rfl rfl rfl ?_
          refine pm_mem (M' := pm_up M (m0 + 1) (.inl (kA 0, 91, .inl (upd (upd (upd (upd g_1 5 ((g_1 5) + (g_1 (7 + 5 * j1 + 3)))) 6 ((g_1 6) + (pm_mv g_1 j1))) (7 + 5 * j1 + 4) (g_1 (7 + 5 * j1 + 4))) (7 + 5 * j1 + 3) 0)))) pm_up_up ?_
          refine pm_stk (st' := []) rfl ?_
          refine pm_iinc B dX13_doClose_103 rfl rfl rfl ?_
          refine pm_loc (L' := [some (.ref (z + m0)), some (.int (a1_1 + (3 * (pm_mv g_1 j1)))), some (.int (nI (j1 + 1))), some (.int (pm_mv g_1 j1)), some (.int (g_1 (7 + 5 * j1 + 4)))]) (by rw [show ((nI j1) : Int32) + Int32.ofInt 1 = (nI (j1 + 1)) from nI_1 _]; rfl) ?_
          refine pm_goto (tgt := 4) B dX13_doClose_106 (by decide) ?_
          refine pm_wk (L' := [some (.ref (z + m0)), some (.int (a1_1 + (3 * (pm_mv g_1 j1)))), some (.int (nI (j1 + 1))), none, none]) ⟨rfl, ⟨rfl, ⟨rfl, trivial⟩⟩⟩ ?_
          have hDq10 : (K1 ((d_X13_doClose_L1 (k1 + 1) j1 a1_1 g_1).1) ((d_X13_doClose_L1 (k1 + 1) j1 a1_1 g_1).2)) = (K1 ((d_X13_doClose_L1 k1 (j1 + 1) (a1_1 + (3 * (pm_mv g_1 j1))) (upd (upd (upd (upd g_1 5 ((g_1 5) + (g_1 (7 + 5 * j1 + 3)))) 6 ((g_1 6) + (pm_mv g_1 j1))) (7 + 5 * j1 + 4) (g_1 (7 + 5 * j1 + 4))) (7 + 5 * j1 + 3) 0)).1) ((d_X13_doClose_L1 k1 (j1 + 1) (a1_1 + (3 * (pm_mv g_1 j1))) (upd (upd (upd (upd g_1 5 ((g_1 5) + (g_1 (7 + 5 * j1 + 3)))) 6 ((g_1 6) + (pm_mv g_1 j1))) (7 + 5 * j1 + 4) (g_1 (7 + 5 * j1 + 4))) (7 + 5 * j1 + 3) 0)).2)) := by rw [d_X13_doClose_L1, if_neg hq4, if_pos hq6]
          refine pm_pst (post' := pm_rt (some (.int ((K1 ((d_X13_doClose_L1 k1 (j1 + 1) (a1_1 + (3 * (pm_mv g_1 j1))) (upd (upd (upd (upd g_1 5 ((g_1 5) + (g_1 (7 + 5 * j1 + 3)))) 6 ((g_1 6) + (pm_mv g_1 j1))) (7 + 5 * j1 + 4) (g_1 (7 + 5 * j1 + 4))) (7 + 5 * j1 + 3) 0)).1) ((d_X13_doClose_L1 k1 (j1 + 1) (a1_1 + (3 * (pm_mv g_1 j1))) (upd (upd (upd (upd g_1 5 ((g_1 5) + (g_1 (7 + 5 * j1 + 3)))) 6 ((g_1 6) + (pm_mv g_1 j1))) (7 + 5 * j1 + 4) (g_1 (7 + 5 * j1 + 4))) (7 + 5 * j1 + 3) 0)).2)).1))) nx (pm_up M (m0 + 1) (.inl (kA 0, 91, .inl ((K1 ((d_X13_doClose_L1 k1 (j1 + 1) (a1_1 + (3 * (pm_mv g_1 j1))) (upd (upd (upd (upd g_1 5 ((g_1 5) + (g_1 (7 + 5 * j1 + 3)))) 6 ((g_1 6) + (pm_mv g_1 j1))) (7 + 5 * j1 + 4) (g_1 (7 + 5 * j1 + 4))) (7 + 5 * j1 + 3) 0)).1) ((d_X13_doClose_L1 k1 (j1 + 1) (a1_1 + (3 * (pm_mv g_1 j1))) (upd (upd (upd (upd g_1 5 ((g_1 5) + (g_1 (7 + 5 * j1 + 3)))) 6 ((g_1 6) + (pm_mv g_1 j1))) (7 + 5 * j1 + 4) (g_1 (7 + 5 * j1 + 4))) (7 + 5 * j1 + 3) 0)).2)).2))))) (by rw [hDq10]) ?_
          exact ih1 (j1 + 1) (by omega) (a1_1 + (3 * (pm_mv g_1 j1))) (upd (upd (upd (upd g_1 5 ((g_1 5) + (g_1 (7 + 5 * j1 + 3)))) 6 ((g_1 6) + (pm_mv g_1 j1))) (7 + 5 * j1 + 4) (g_1 (7 + 5 * j1 + 4))) (7 + 5 * j1 + 3) 0) ((show (upd (upd (upd (upd g_1 5 ((g_1 5) + (g_1 (7 + 5 * j1 + 3)))) 6 ((g_1 6) + (pm_mv g_1 j1))) (7 + 5 * j1 + 4) (g_1 (7 + 5 * j1 + 4))) (7 + 5 * j1 + 3) 0) 0 = (nI n) from by rw [pk_un (show 0 ≠ 7 + 5 * j1 + 3 from (by omega)), pk_un (show 0 ≠ 7 + 5 * j1 + 4 from (by omega)), pk_un (show 0 ≠ 6 from (by decide)), pk_un (show 0 ≠ 5 from (by decide)), hn_1]))
  refine pm_pst (post' := pm_rt (some (.int ((((d_X13_doClose_L1 n 0 0 g).1), (upd ((d_X13_doClose_L1 n 0 0 g).2) 4 ((((d_X13_doClose_L1 n 0 0 g).2) 4) + 1))).1))) nx (pm_up M (m0 + 1) (.inl (kA 0, 91, .inl ((((d_X13_doClose_L1 n 0 0 g).1), (upd ((d_X13_doClose_L1 n 0 0 g).2) 4 ((((d_X13_doClose_L1 n 0 0 g).2) 4) + 1))).2))))) (by rw [show (d_X13_doClose n f g) = (((d_X13_doClose_L1 n 0 0 g).1), (upd ((d_X13_doClose_L1 n 0 0 g).2) 4 ((((d_X13_doClose_L1 n 0 0 g).2) 4) + 1))) from by rw [d_X13_doClose]]) ?_
  refine loop1 (fun (a1_1 : Int32) (g_1 : (Nat → Int32)) => (a1_1, (upd g_1 4 ((g_1 4) + 1)))) ?_ n 0 (by omega) 0 g (hn)
  intro a1_1 g_1 hn_1
  refine pm_pst (post' := pm_rt (some (.int ((a1_1, (upd g_1 4 ((g_1 4) + 1))).1))) nx (pm_up M (m0 + 1) (.inl (kA 0, 91, .inl ((a1_1, (upd g_1 4 ((g_1 4) + 1))).2))))) rfl ?_
  refine pm_aload_n B dX13_doClose_109 rfl ?_
  refine pm_get B dX13_doClose_110 fl_X13_9 ((pm_up_n (by omega)).trans hM) rfl ?_
  refine pm_iconst (v := 4) B dX13_doClose_113 (by decide) ?_
  refine pm_dup2 B dX13_doClose_114 rfl rfl ?_
  refine pm_iald_n B dX13_doClose_115 pm_up_s 4 (by decide) (by decide) ?_
  refine pm_iconst (v := 1) B dX13_doClose_116 (by decide) ?_
  refine pm_iadd B dX13_doClose_117 ?_
  refine pm_iast_n B dX13_doClose_118 pm_up_s 4 (by decide) (by decide) ?_
  refine pm_mem (M' := pm_up M (m0 + 1) (.inl (kA 0, 91, .inl (upd g_1 4 ((g_1 4) + 1))))) pm_up_up ?_
  refine pm_iload_n B dX13_doClose_119 rfl ?_
  have hDq11 : ((a1_1, (upd g_1 4 ((g_1 4) + 1)))) = (a1_1, (upd g_1 4 ((g_1 4) + 1))) := rfl
  exact pm_ireturn B dX13_doClose_120 rfl (by first | rfl | (apply pm_nz; first | assumption | decide | exact pm_in01 _ _ _ | simp)) ⟨rfl, rfl, rfl⟩ rfl rfl
def d_X13_close (n : Nat) (k : Nat) (f : Nat → Int32) (g : Nat → Int32) (gb : Nat → Int32) (gp : Nat → Int32) : (Int32 × (Nat → Int32) × (Nat → Int32) × (Nat → Int32) × (Nat → Int32)) := (((d_X13_ends ((d_X13_doClose n ((d_X13_keep f g gb).1) g).1) 0 k ((d_X13_keep f g gb).1) ((d_X13_doClose n ((d_X13_keep f g gb).1) g).2) ((d_X13_keep f g gb).2) gp).1), ((d_X13_ends ((d_X13_doClose n ((d_X13_keep f g gb).1) g).1) 0 k ((d_X13_keep f g gb).1) ((d_X13_doClose n ((d_X13_keep f g gb).1) g).2) ((d_X13_keep f g gb).2) gp).2.1), ((d_X13_ends ((d_X13_doClose n ((d_X13_keep f g gb).1) g).1) 0 k ((d_X13_keep f g gb).1) ((d_X13_doClose n ((d_X13_keep f g gb).1) g).2) ((d_X13_keep f g gb).2) gp).2.2.1), ((d_X13_keep f g gb).2), ((d_X13_ends ((d_X13_doClose n ((d_X13_keep f g gb).1) g).1) 0 k ((d_X13_keep f g gb).1) ((d_X13_doClose n ((d_X13_keep f g gb).1) g).2) ((d_X13_keep f g gb).2) gp).2.2.2))
set_option maxRecDepth 100000 in
set_option maxHeartbeats 8000000 in
theorem c_X13_close {l : Launch} {z : Nat} {D : va_G} {kA : Nat → ClassId} {kE : Nat → Nat} {nx : Nat} {M : pm_M} {n : Nat} {k : Nat}{m0 : Nat} {f : Nat → Int32} {g : Nat → Int32} {gb : Nat → Int32} {gp : Nat → Int32} (hM : M m0 = some (pm_mo z m0 f)) (hg : M (m0 + 1) = some (.inl (kA 0, 91, .inl g))) (hgb : M (m0 + 2) = some (.inl (kA 0, 91, .inl gb))) (hgp : M (m0 + 4) = some (.inl (kA 0, 728, .inl gp))) (hn : g 0 = nI n) (h7 : n ≤ 7) (hf5 : f 5 = nI k) (h8 : k ≤ 8) : pm_C l z D kA kE yX13_close cX13_close 1 (some .int) 3 0 0 [.ref (z + m0)] nx M (pm_rt (some (.int ((d_X13_close n k f g gb gp).1))) nx (pm_up (pm_up (pm_up (pm_up M m0 (pm_mo z m0 ((d_X13_close n k f g gb gp).2.1))) (m0 + 1) (.inl (kA 0, 91, .inl ((d_X13_close n k f g gb gp).2.2.1)))) (m0 + 2) (.inl (kA 0, 91, .inl ((d_X13_close n k f g gb gp).2.2.2.1)))) (m0 + 4) (.inl (kA 0, 728, .inl ((d_X13_close n k f g gb gp).2.2.2.2))))) := by
  refine pm_mk (own := RX13) (nm := "close") mt_X13_close rfl rfl rfl rfl fun X B => ?_
  refine pm_loc (L' := [some (.ref (z + m0))]) rfl ?_
  refine pm_mem (M' := pm_up (pm_up (pm_up (pm_up M m0 (pm_mo z m0 f)) (m0 + 1) (.inl (kA 0, 91, .inl g))) (m0 + 2) (.inl (kA 0, 91, .inl gb))) (m0 + 4) (.inl (kA 0, 728, .inl gp))) (by rw [pm_up_id hM, pm_up_id hg, pm_up_id hgb, pm_up_id hgp]) ?_
  refine pm_aload_n B dX13_close_0 rfl ?_
  refine pm_cV (As := []) (mc2 := 0) (ms2 := 0) B rfl ((pm_up_n (by omega)).trans ((pm_up_n (by omega)).trans ((pm_up_n (by omega)).trans pm_up_s))) rfl (c_X13_keep (f := f) (g := g) (gb := gb) ((pm_up_n (by omega)).trans ((pm_up_n (by omega)).trans ((pm_up_n (by omega)).trans pm_up_s))) ((pm_up_n (by omega)).trans ((pm_up_n (by omega)).trans pm_up_s)) ((pm_up_n (by omega)).trans pm_up_s) ) mt_X13_keep sv_X13_91 dX13_close_1 rfl rfl rfl rfl rfl ?_
  refine pm_mem (M' := pm_up (pm_up (pm_up (pm_up (pm_up (pm_up M m0 (pm_mo z m0 f)) (m0 + 1) (.inl (kA 0, 91, .inl g))) (m0 + 2) (.inl (kA 0, 91, .inl gb))) (m0 + 4) (.inl (kA 0, 728, .inl gp))) m0 (pm_mo z m0 ((d_X13_keep f g gb).1))) (m0 + 2) (.inl (kA 0, 91, .inl ((d_X13_keep f g gb).2)))) rfl ?_
  refine pm_mem (M' := pm_up (pm_up (pm_up (pm_up (pm_up M m0 (pm_mo z m0 ((d_X13_keep f g gb).1))) (m0 + 1) (.inl (kA 0, 91, .inl g))) (m0 + 2) (.inl (kA 0, 91, .inl gb))) (m0 + 4) (.inl (kA 0, 728, .inl gp))) (m0 + 2) (.inl (kA 0, 91, .inl ((d_X13_keep f g gb).2)))) (by rw [pm_up_sw (a := m0 + 4) (b := m0) (by omega), pm_up_sw (a := m0 + 2) (b := m0) (by omega), pm_up_sw (a := m0 + 1) (b := m0) (by omega), pm_up_up (a := m0)]) ?_
  refine pm_mem (M' := pm_up (pm_up (pm_up (pm_up M m0 (pm_mo z m0 ((d_X13_keep f g gb).1))) (m0 + 1) (.inl (kA 0, 91, .inl g))) (m0 + 2) (.inl (kA 0, 91, .inl ((d_X13_keep f g gb).2)))) (m0 + 4) (.inl (kA 0, 728, .inl gp))) (by rw [pm_up_sw (a := m0 + 4) (b := m0 + 2) (by omega), pm_up_up (a := m0 + 2)]) ?_
  refine pm_stk (st' := []) rfl ?_
  refine pm_aload_n B dX13_close_4 rfl ?_
  refine pm_aload_n B dX13_close_5 rfl ?_
  refine pm_cV (As := []) (mc2 := 0) (ms2 := 0) B rfl ((pm_up_n (by omega)).trans ((pm_up_n (by omega)).trans ((pm_up_n (by omega)).trans pm_up_s))) rfl (c_X13_doClose (n := n) (f := ((d_X13_keep f g gb).1)) (g := g) ((pm_up_n (by omega)).trans ((pm_up_n (by omega)).trans ((pm_up_n (by omega)).trans pm_up_s))) ((pm_up_n (by omega)).trans ((pm_up_n (by omega)).trans pm_up_s)) hn (by first | assumption | omega)) mt_X13_doClose sv_X13_137 dX13_close_6 rfl rfl rfl rfl rfl ?_
  refine pm_mem (M' := pm_up (pm_up (pm_up (pm_up (pm_up M m0 (pm_mo z m0 ((d_X13_keep f g gb).1))) (m0 + 1) (.inl (kA 0, 91, .inl g))) (m0 + 2) (.inl (kA 0, 91, .inl ((d_X13_keep f g gb).2)))) (m0 + 4) (.inl (kA 0, 728, .inl gp))) (m0 + 1) (.inl (kA 0, 91, .inl ((d_X13_doClose n ((d_X13_keep f g gb).1) g).2)))) rfl ?_
  refine pm_mem (M' := pm_up (pm_up (pm_up (pm_up M m0 (pm_mo z m0 ((d_X13_keep f g gb).1))) (m0 + 1) (.inl (kA 0, 91, .inl ((d_X13_doClose n ((d_X13_keep f g gb).1) g).2)))) (m0 + 2) (.inl (kA 0, 91, .inl ((d_X13_keep f g gb).2)))) (m0 + 4) (.inl (kA 0, 728, .inl gp))) (by rw [pm_up_sw (a := m0 + 4) (b := m0 + 1) (by omega), pm_up_sw (a := m0 + 2) (b := m0 + 1) (by omega), pm_up_up (a := m0 + 1)]) ?_
  refine pm_stk (st' := [.int ((d_X13_doClose n ((d_X13_keep f g gb).1) g).1), .ref (z + m0)]) rfl ?_
  refine pm_iconst (v := 0) B dX13_close_9 (by decide) ?_
  refine pm_cV (As := [.int ((d_X13_doClose n ((d_X13_keep f g gb).1) g).1), .int 0]) (mc2 := 0) (ms2 := 0) B rfl ((pm_up_n (by omega)).trans ((pm_up_n (by omega)).trans ((pm_up_n (by omega)).trans pm_up_s))) rfl (c_X13_ends (x := ((d_X13_doClose n ((d_X13_keep f g gb).1) g).1)) (y := 0) (k := k) (f := ((d_X13_keep f g gb).1)) (g := ((d_X13_doClose n ((d_X13_keep f g gb).1) g).2)) (gb := ((d_X13_keep f g gb).2)) (gp := gp) ((pm_up_n (by omega)).trans ((pm_up_n (by omega)).trans ((pm_up_n (by omega)).trans pm_up_s))) ((pm_up_n (by omega)).trans ((pm_up_n (by omega)).trans pm_up_s)) ((pm_up_n (by omega)).trans pm_up_s) pm_up_s (show ((d_X13_keep f g gb).1) 5 = (nI k) from by rw [((d_X13_keep_k_f5  f g gb).trans hf5)]) (by first | assumption | omega)) mt_X13_ends sv_X13_97 dX13_close_10 rfl rfl rfl rfl rfl ?_
  refine pm_mem (M' := pm_up (pm_up (pm_up (pm_up (pm_up (pm_up (pm_up M m0 (pm_mo z m0 ((d_X13_keep f g gb).1))) (m0 + 1) (.inl (kA 0, 91, .inl ((d_X13_doClose n ((d_X13_keep f g gb).1) g).2)))) (m0 + 2) (.inl (kA 0, 91, .inl ((d_X13_keep f g gb).2)))) (m0 + 4) (.inl (kA 0, 728, .inl gp))) m0 (pm_mo z m0 ((d_X13_ends ((d_X13_doClose n ((d_X13_keep f g gb).1) g).1) 0 k ((d_X13_keep f g gb).1) ((d_X13_doClose n ((d_X13_keep f g gb).1) g).2) ((d_X13_keep f g gb).2) gp).2.1))) (m0 + 1) (.inl (kA 0, 91, .inl ((d_X13_ends ((d_X13_doClose n ((d_X13_keep f g gb).1) g).1) 0 k ((d_X13_keep f g gb).1) ((d_X13_doClose n ((d_X13_keep f g gb).1) g).2) ((d_X13_keep f g gb).2) gp).2.2.1)))) (m0 + 4) (.inl (kA 0, 728, .inl ((d_X13_ends ((d_X13_doClose n ((d_X13_keep f g gb).1) g).1) 0 k ((d_X13_keep f g gb).1) ((d_X13_doClose n ((d_X13_keep f g gb).1) g).2) ((d_X13_keep f g gb).2) gp).2.2.2)))) rfl ?_
  refine pm_mem (M' := pm_up (pm_up (pm_up (pm_up (pm_up (pm_up M m0 (pm_mo z m0 ((d_X13_ends ((d_X13_doClose n ((d_X13_keep f g gb).1) g).1) 0 k ((d_X13_keep f g gb).1) ((d_X13_doClose n ((d_X13_keep f g gb).1) g).2) ((d_X13_keep f g gb).2) gp).2.1))) (m0 + 1) (.inl (kA 0, 91, .inl ((d_X13_doClose n ((d_X13_keep f g gb).1) g).2)))) (m0 + 2) (.inl (kA 0, 91, .inl ((d_X13_keep f g gb).2)))) (m0 + 4) (.inl (kA 0, 728, .inl gp))) (m0 + 1) (.inl (kA 0, 91, .inl ((d_X13_ends ((d_X13_doClose n ((d_X13_keep f g gb).1) g).1) 0 k ((d_X13_keep f g gb).1) ((d_X13_doClose n ((d_X13_keep f g gb).1) g).2) ((d_X13_keep f g gb).2) gp).2.2.1)))) (m0 + 4) (.inl (kA 0, 728, .inl ((d_X13_ends ((d_X13_doClose n ((d_X13_keep f g gb).1) g).1) 0 k ((d_X13_keep f g gb).1) ((d_X13_doClose n ((d_X13_keep f g gb).1) g).2) ((d_X13_keep f g gb).2) gp).2.2.2)))) (by rw [pm_up_sw (a := m0 + 4) (b := m0) (by omega), pm_up_sw (a := m0 + 2) (b := m0) (by omega), pm_up_sw (a := m0 + 1) (b := m0) (by omega), pm_up_up (a := m0)]) ?_
  refine pm_mem (M' := pm_up (pm_up (pm_up (pm_up (pm_up M m0 (pm_mo z m0 ((d_X13_ends ((d_X13_doClose n ((d_X13_keep f g gb).1) g).1) 0 k ((d_X13_keep f g gb).1) ((d_X13_doClose n ((d_X13_keep f g gb).1) g).2) ((d_X13_keep f g gb).2) gp).2.1))) (m0 + 1) (.inl (kA 0, 91, .inl ((d_X13_ends ((d_X13_doClose n ((d_X13_keep f g gb).1) g).1) 0 k ((d_X13_keep f g gb).1) ((d_X13_doClose n ((d_X13_keep f g gb).1) g).2) ((d_X13_keep f g gb).2) gp).2.2.1)))) (m0 + 2) (.inl (kA 0, 91, .inl ((d_X13_keep f g gb).2)))) (m0 + 4) (.inl (kA 0, 728, .inl gp))) (m0 + 4) (.inl (kA 0, 728, .inl ((d_X13_ends ((d_X13_doClose n ((d_X13_keep f g gb).1) g).1) 0 k ((d_X13_keep f g gb).1) ((d_X13_doClose n ((d_X13_keep f g gb).1) g).2) ((d_X13_keep f g gb).2) gp).2.2.2)))) (by rw [pm_up_sw (a := m0 + 4) (b := m0 + 1) (by omega), pm_up_sw (a := m0 + 2) (b := m0 + 1) (by omega), pm_up_up (a := m0 + 1)]) ?_
  refine pm_mem (M' := pm_up (pm_up (pm_up (pm_up M m0 (pm_mo z m0 ((d_X13_ends ((d_X13_doClose n ((d_X13_keep f g gb).1) g).1) 0 k ((d_X13_keep f g gb).1) ((d_X13_doClose n ((d_X13_keep f g gb).1) g).2) ((d_X13_keep f g gb).2) gp).2.1))) (m0 + 1) (.inl (kA 0, 91, .inl ((d_X13_ends ((d_X13_doClose n ((d_X13_keep f g gb).1) g).1) 0 k ((d_X13_keep f g gb).1) ((d_X13_doClose n ((d_X13_keep f g gb).1) g).2) ((d_X13_keep f g gb).2) gp).2.2.1)))) (m0 + 2) (.inl (kA 0, 91, .inl ((d_X13_keep f g gb).2)))) (m0 + 4) (.inl (kA 0, 728, .inl ((d_X13_ends ((d_X13_doClose n ((d_X13_keep f g gb).1) g).1) 0 k ((d_X13_keep f g gb).1) ((d_X13_doClose n ((d_X13_keep f g gb).1) g).2) ((d_X13_keep f g gb).2) gp).2.2.2)))) (by rw [pm_up_up (a := m0 + 4)]) ?_
  refine pm_stk (st' := [.int ((d_X13_ends ((d_X13_doClose n ((d_X13_keep f g gb).1) g).1) 0 k ((d_X13_keep f g gb).1) ((d_X13_doClose n ((d_X13_keep f g gb).1) g).2) ((d_X13_keep f g gb).2) gp).1)]) rfl ?_
  have hDq1 : (d_X13_close n k f g gb gp) = (((d_X13_ends ((d_X13_doClose n ((d_X13_keep f g gb).1) g).1) 0 k ((d_X13_keep f g gb).1) ((d_X13_doClose n ((d_X13_keep f g gb).1) g).2) ((d_X13_keep f g gb).2) gp).1), ((d_X13_ends ((d_X13_doClose n ((d_X13_keep f g gb).1) g).1) 0 k ((d_X13_keep f g gb).1) ((d_X13_doClose n ((d_X13_keep f g gb).1) g).2) ((d_X13_keep f g gb).2) gp).2.1), ((d_X13_ends ((d_X13_doClose n ((d_X13_keep f g gb).1) g).1) 0 k ((d_X13_keep f g gb).1) ((d_X13_doClose n ((d_X13_keep f g gb).1) g).2) ((d_X13_keep f g gb).2) gp).2.2.1), ((d_X13_keep f g gb).2), ((d_X13_ends ((d_X13_doClose n ((d_X13_keep f g gb).1) g).1) 0 k ((d_X13_keep f g gb).1) ((d_X13_doClose n ((d_X13_keep f g gb).1) g).2) ((d_X13_keep f g gb).2) gp).2.2.2)) := by rw [d_X13_close]
  exact pm_ireturn B dX13_close_13 rfl (by first | rfl | (apply pm_nz; first | assumption | decide | exact pm_in01 _ _ _ | simp)) ⟨(by rw [hDq1]), rfl, by rw [hDq1]⟩ rfl rfl
