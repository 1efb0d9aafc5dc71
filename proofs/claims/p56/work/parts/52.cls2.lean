/-! the class: CommonFine, Apportionment -/
def d_X3_readUnits_L1 (r : Nat → Int32) : Nat → Nat → (Nat → Int32) → (Nat → Int32)
  | 0, _, un_1 => un_1
  | k1 + 1, j1, un_1 => (d_X3_readUnits_L1 r k1 (j1 + 1) (upd un_1 j1 (pm_max 0 ((r (7 + 6 * j1 + 3)) - (r (7 + 6 * j1 + 2))))))
def d_X3_readUnits (n : Nat) (r : Nat → Int32) (un : Nat → Int32) (cu : Nat → Int32) : ((Nat → Int32) × (Nat → Int32)) := ((d_X3_readUnits_L1 r n 0 un), (upd cu 1 (nI n)))
set_option maxRecDepth 100000 in
set_option maxHeartbeats 8000000 in
theorem c_X3_readUnits {l : Launch} {z : Nat} {D : va_G} {kA : Nat → ClassId} {kE : Nat → Nat} {nx : Nat} {M : pm_M} {n : Nat} {r : Nat → Int32} {un : Nat → Int32} {cu : Nat → Int32} (hS : pm_SA z kA 2 M r) (hun : M 132 = some (.inl (kA 0, 7, .inl un))) (hcu : M 131 = some (.inr (1, [.ref (z + 132), .int (cu 1)]))) (hn : r 0 = nI n) (h7 : n ≤ 7) : pm_C l z D kA kE yX3_readUnits cX3_readUnits 3 none 2 0 0 [.ref (z + 131), .ref (z + 2)] nx M (pm_rt none nx (pm_up (pm_up M 132 (.inl (kA 0, 7, .inl ((d_X3_readUnits n r un cu).1)))) 131 (.inr (1, [.ref (z + 132), .int (((d_X3_readUnits n r un cu).2) 1)])))) := by
  refine pm_mk (own := RX3) (nm := "readUnits") mt_X3_readUnits rfl rfl rfl rfl fun X B => ?_
  refine pm_loc (L' := [some (.ref (z + 131)), some (.ref (z + 2)), none]) rfl ?_
  refine pm_mem (M' := pm_up (pm_up M 132 (.inl (kA 0, 7, .inl un))) 131 (.inr (1, [.ref (z + 132), .int (cu 1)]))) (by rw [pm_up_id hun, pm_up_id hcu]) ?_
  refine pm_aload_n B dX3_readUnits_0 rfl ?_
  refine pm_aload_n B dX3_readUnits_1 rfl ?_
  refine pm_get B dX3_readUnits_2 fl_X3_34 ((pm_up_n (by omega)).trans ((pm_up_n (by omega)).trans (hS.1))) rfl ?_
  refine pm_stk (st' := [.int (nI n), .ref (z + 131)]) (by rw [show (r 0) = (nI n) from by rw [hn]]) ?_
  refine pm_put B dX3_readUnits_5 fs_X3_23 pm_up_s rfl rfl rfl ?_
  refine pm_mem (M' := pm_up (pm_up M 132 (.inl (kA 0, 7, .inl un))) 131 (.inr (1, [.ref (z + 132), .int ((upd cu 1 (nI n)) 1)]))) (by rw [pm_up_up] <;> rfl) ?_
  refine pm_iconst (v := 0) B dX3_readUnits_8 (by decide) ?_
  refine pm_istore_n B dX3_readUnits_9 rfl rfl ?_
  refine pm_loc (L' := [some (.ref (z + 131)), some (.ref (z + 2)), some (.int 0)]) rfl ?_
  refine pm_loc (L' := [some (.ref (z + 131)), some (.ref (z + 2)), some (.int (nI 0))]) rfl ?_
  have loop1 : ∀ (K1 : ((Nat → Int32) → ((Nat → Int32) × (Nat → Int32)))), (∀ (un_1 : (Nat → Int32)), pm_G l z D X 0 0 (pm_Q z D (pm_rt none nx (pm_up (pm_up M 132 (.inl (kA 0, 7, .inl ((K1 un_1).1)))) 131 (.inr (1, [.ref (z + 132), .int (((K1 un_1).2) 1)])))) 0 0 X) nx (pm_up (pm_up M 132 (.inl (kA 0, 7, .inl un_1))) 131 (.inr (1, [.ref (z + 132), .int ((upd cu 1 (nI n)) 1)]))) 39 [none, none, none] []) → ∀ (k1 j1 : Nat), j1 + k1 = n → ∀ (un_1 : (Nat → Int32)), pm_G l z D X 0 0 (pm_Q z D (pm_rt none nx (pm_up (pm_up M 132 (.inl (kA 0, 7, .inl ((K1 (d_X3_readUnits_L1 r k1 j1 un_1)).1)))) 131 (.inr (1, [.ref (z + 132), .int (((K1 (d_X3_readUnits_L1 r k1 j1 un_1)).2) 1)])))) 0 0 X) nx (pm_up (pm_up M 132 (.inl (kA 0, 7, .inl un_1))) 131 (.inr (1, [.ref (z + 132), .int ((upd cu 1 (nI n)) 1)]))) 10 [some (.ref (z + 131)), some (.ref (z + 2)), some (.int (nI j1))] [] := by
    intro K1 hK1 k1
    induction k1 with
    | zero =>
      intro j1 hj1 un_1
      have hjn1 : j1 = n := by omega
      refine pm_iload_n B dX3_readUnits_10 rfl ?_
      refine pm_aload_n B dX3_readUnits_11 rfl ?_
      refine pm_get B dX3_readUnits_12 fl_X3_23 pm_up_s rfl ?_
      refine pm_stk (st' := [.int ((upd cu 1 (nI n)) 1), .int (nI j1)]) rfl ?_
      refine pm_stk (st' := [.int (nI n), .int (nI j1)]) (by rw [show ((upd cu 1 (nI n)) 1) = (nI n) from by rw [pk_us]]) ?_
      refine pm_icmp_ge (tgt := 39) B dX3_readUnits_15 (by decide) (fun hq1 => ?_) (fun hq1 => absurd ((nI_leI (by first | omega | decide) (by first | omega | decide)).mpr (by omega)) hq1)
      refine pm_wk (L' := [none, none, none]) trivial ?_
      have hDq2 : (K1 (d_X3_readUnits_L1 r 0 j1 un_1)) = (K1 un_1) := by rw [d_X3_readUnits_L1]
      refine pm_pst (post' := pm_rt none nx (pm_up (pm_up M 132 (.inl (kA 0, 7, .inl ((K1 un_1).1)))) 131 (.inr (1, [.ref (z + 132), .int (((K1 un_1).2) 1)])))) (by rw [hDq2]) ?_
      exact hK1 un_1
    | succ k1 ih1 =>
      intro j1 hj1 un_1
      have hjn1 : j1 < n := by omega
      refine pm_iload_n B dX3_readUnits_10 rfl ?_
      refine pm_aload_n B dX3_readUnits_11 rfl ?_
      refine pm_get B dX3_readUnits_12 fl_X3_23 pm_up_s rfl ?_
      refine pm_stk (st' := [.int ((upd cu 1 (nI n)) 1), .int (nI j1)]) rfl ?_
      refine pm_stk (st' := [.int (nI n), .int (nI j1)]) (by rw [show ((upd cu 1 (nI n)) 1) = (nI n) from by rw [pk_us]]) ?_
      refine pm_icmp_ge (tgt := 39) B dX3_readUnits_15 (by decide) (fun hq3 => absurd hq3 (fun e => absurd ((nI_leI (by first | omega | decide) (by first | omega | decide)).mp e) (by omega))) (fun hq3 => ?_)
      refine pm_aload_n B dX3_readUnits_18 rfl ?_
      refine pm_get B dX3_readUnits_19 fl_X3_9 pm_up_s rfl ?_
      refine pm_iload_n B dX3_readUnits_22 rfl ?_
      refine pm_aload_n B dX3_readUnits_23 rfl ?_
      refine pm_get B dX3_readUnits_24 fl_X3_37 ((pm_up_n (by omega)).trans ((pm_up_n (by omega)).trans (hS.1))) rfl ?_
      refine pm_iload_n B dX3_readUnits_27 rfl ?_
      refine pm_aald_n B dX3_readUnits_28 ((pm_up_n (by omega)).trans ((pm_up_n (by omega)).trans (hS.2.1))) rfl j1 (by first | assumption | omega) (by decide) (pm_mr_at (by first | assumption | omega)) ?_
      refine pm_cV (As := []) (mc2 := 0) (ms2 := 0) B rfl ((pm_up_n (by omega)).trans ((pm_up_n (by omega)).trans (hS.2.2.1 j1 (by first | assumption | omega)))) rfl (c_X6_unitsAbove ((pm_up_n (by omega)).trans ((pm_up_n (by omega)).trans (hS.2.2.1 j1 (by first | assumption | omega))))) mt_X6_unitsAbove sv_X3_41 dX3_readUnits_29 rfl rfl rfl rfl rfl ?_
      refine pm_stk (st' := [.int (pm_max 0 ((r (7 + 6 * j1 + 3)) - (r (7 + 6 * j1 + 2)))), .int (nI j1), .ref (z + 132)]) rfl ?_
      refine pm_iast_n B dX3_readUnits_32 ((pm_up_n (by omega)).trans pm_up_s) j1 (by first | assumption | omega) (by decide) ?_
      refine pm_mem (M' := pm_up (pm_up M 132 (.inl (kA 0, 7, .inl (upd un_1 j1 (pm_max 0 ((r (7 + 6 * j1 + 3)) - (r (7 + 6 * j1 + 2)))))))) 131 (.inr (1, [.ref (z + 132), .int ((upd cu 1 (nI n)) 1)]))) (by rw [pm_up_sw (a := 131) (b := 132) (by omega), pm_up_up] <;> rfl) ?_
      refine pm_iinc B dX3_readUnits_33 rfl rfl rfl ?_
      refine pm_loc (L' := [some (.ref (z + 131)), some (.ref (z + 2)), some (.int (nI (j1 + 1)))]) (by rw [show ((nI j1) : Int32) + Int32.ofInt 1 = (nI (j1 + 1)) from nI_1 _]; rfl) ?_
      refine pm_goto (tgt := 10) B dX3_readUnits_36 (by decide) ?_
      have hDq4 : (K1 (d_X3_readUnits_L1 r (k1 + 1) j1 un_1)) = (K1 (d_X3_readUnits_L1 r k1 (j1 + 1) (upd un_1 j1 (pm_max 0 ((r (7 + 6 * j1 + 3)) - (r (7 + 6 * j1 + 2))))))) := by rw [d_X3_readUnits_L1]
      refine pm_pst (post' := pm_rt none nx (pm_up (pm_up M 132 (.inl (kA 0, 7, .inl ((K1 (d_X3_readUnits_L1 r k1 (j1 + 1) (upd un_1 j1 (pm_max 0 ((r (7 + 6 * j1 + 3)) - (r (7 + 6 * j1 + 2))))))).1)))) 131 (.inr (1, [.ref (z + 132), .int (((K1 (d_X3_readUnits_L1 r k1 (j1 + 1) (upd un_1 j1 (pm_max 0 ((r (7 + 6 * j1 + 3)) - (r (7 + 6 * j1 + 2))))))).2) 1)])))) (by rw [hDq4]) ?_
      exact ih1 (j1 + 1) (by omega) (upd un_1 j1 (pm_max 0 ((r (7 + 6 * j1 + 3)) - (r (7 + 6 * j1 + 2)))))
  refine pm_pst (post' := pm_rt none nx (pm_up (pm_up M 132 (.inl (kA 0, 7, .inl (((d_X3_readUnits_L1 r n 0 un), (upd cu 1 (nI n))).1)))) 131 (.inr (1, [.ref (z + 132), .int ((((d_X3_readUnits_L1 r n 0 un), (upd cu 1 (nI n))).2) 1)])))) (by rw [show (d_X3_readUnits n r un cu) = ((d_X3_readUnits_L1 r n 0 un), (upd cu 1 (nI n))) from by rw [d_X3_readUnits]]) ?_
  refine loop1 (fun (un_1 : (Nat → Int32)) => (un_1, (upd cu 1 (nI n)))) ?_ n 0 (by omega) un
  intro un_1
  refine pm_pst (post' := pm_rt none nx (pm_up (pm_up M 132 (.inl (kA 0, 7, .inl ((un_1, (upd cu 1 (nI n))).1)))) 131 (.inr (1, [.ref (z + 132), .int (((un_1, (upd cu 1 (nI n))).2) 1)])))) rfl ?_
  have hDq5 : ((un_1, (upd cu 1 (nI n)))) = (un_1, (upd cu 1 (nI n))) := rfl
  exact pm_return B dX3_readUnits_39 rfl ⟨rfl, rfl, rfl⟩ rfl rfl
theorem d_X3_readUnits_1 (n : Nat) (r un cu : Nat → Int32) (hn : r 0 = nI n) : (d_X3_readUnits n r un cu).2 1 = nI n := by
  unfold d_X3_readUnits; exact (pk_us : upd cu 1 (nI n) 1 = nI n)
def d_X3_nextLevel_L1 (x : Int32) (un : Nat → Int32) : Nat → Nat → Int32 → Int32
  | 0, _, a2_1 => a2_1
  | k1 + 1, j1, a2_1 => if (un j1) ≤ x then (d_X3_nextLevel_L1 x un k1 (j1 + 1) a2_1) else (if a2_1 = x then (d_X3_nextLevel_L1 x un k1 (j1 + 1) (un j1)) else (if a2_1 ≤ (un j1) then (d_X3_nextLevel_L1 x un k1 (j1 + 1) a2_1) else (d_X3_nextLevel_L1 x un k1 (j1 + 1) (un j1))))
def d_X3_nextLevel (x : Int32) (n : Nat) (un : Nat → Int32) (cu : Nat → Int32) : Int32 := (d_X3_nextLevel_L1 x un n 0 x)
set_option maxRecDepth 100000 in
set_option maxHeartbeats 8000000 in
theorem c_X3_nextLevel {l : Launch} {z : Nat} {D : va_G} {kA : Nat → ClassId} {kE : Nat → Nat} {nx : Nat} {M : pm_M} {x : Int32} {n : Nat} {un : Nat → Int32} {cu : Nat → Int32} (hun : M 132 = some (.inl (kA 0, 7, .inl un))) (hcu : M 131 = some (.inr (1, [.ref (z + 132), .int (cu 1)]))) (hcn : cu 1 = nI n) (h7 : n ≤ 7) : pm_C l z D kA kE yX3_nextLevel cX3_nextLevel 4 (some .int) 0 0 0 [.ref (z + 131), .int x] nx M (pm_rt (some (.int (d_X3_nextLevel x n un cu))) nx M) := by
  refine pm_mk (own := RX3) (nm := "nextLevel") mt_X3_nextLevel rfl rfl rfl rfl fun X B => ?_
  refine pm_loc (L' := [some (.ref (z + 131)), some (.int x), none, none]) rfl ?_
  refine pm_iload_n B dX3_nextLevel_0 rfl ?_
  refine pm_istore_n B dX3_nextLevel_1 rfl rfl ?_
  refine pm_loc (L' := [some (.ref (z + 131)), some (.int x), some (.int x), none]) rfl ?_
  refine pm_iconst (v := 0) B dX3_nextLevel_2 (by decide) ?_
  refine pm_istore_n B dX3_nextLevel_3 rfl rfl ?_
  refine pm_loc (L' := [some (.ref (z + 131)), some (.int x), some (.int x), some (.int 0)]) rfl ?_
  refine pm_loc (L' := [some (.ref (z + 131)), some (.int x), some (.int x), some (.int (nI 0))]) rfl ?_
  have loop1 : ∀ (K1 : (Int32 → Int32)), (∀ (a2_1 : Int32), pm_G l z D X 0 0 (pm_Q z D (pm_rt (some (.int (K1 a2_1))) nx M) 0 0 X) nx M 50 [none, none, some (.int a2_1), none] []) → ∀ (k1 j1 : Nat), j1 + k1 = n → ∀ (a2_1 : Int32), pm_G l z D X 0 0 (pm_Q z D (pm_rt (some (.int (K1 (d_X3_nextLevel_L1 x un k1 j1 a2_1)))) nx M) 0 0 X) nx M 4 [some (.ref (z + 131)), some (.int x), some (.int a2_1), some (.int (nI j1))] [] := by
    intro K1 hK1 k1
    induction k1 with
    | zero =>
      intro j1 hj1 a2_1
      have hjn1 : j1 = n := by omega
      refine pm_iload_n B dX3_nextLevel_4 rfl ?_
      refine pm_aload_n B dX3_nextLevel_5 rfl ?_
      refine pm_get B dX3_nextLevel_6 fl_X3_23 hcu rfl ?_
      refine pm_stk (st' := [.int (cu 1), .int (nI j1)]) rfl ?_
      refine pm_stk (st' := [.int (nI n), .int (nI j1)]) (by rw [show (cu 1) = (nI n) from by rw [hcn]]) ?_
      refine pm_icmp_ge (tgt := 50) B dX3_nextLevel_9 (by decide) (fun hq1 => ?_) (fun hq1 => absurd ((nI_leI (by first | omega | decide) (by first | omega | decide)).mpr (by omega)) hq1)
      refine pm_wk (L' := [none, none, some (.int a2_1), none]) ⟨rfl, trivial⟩ ?_
      have hDq2 : (K1 (d_X3_nextLevel_L1 x un 0 j1 a2_1)) = (K1 a2_1) := by rw [d_X3_nextLevel_L1]
      refine pm_pst (post' := pm_rt (some (.int (K1 a2_1))) nx M) (by rw [hDq2]) ?_
      exact hK1 a2_1
    | succ k1 ih1 =>
      intro j1 hj1 a2_1
      have hjn1 : j1 < n := by omega
      refine pm_iload_n B dX3_nextLevel_4 rfl ?_
      refine pm_aload_n B dX3_nextLevel_5 rfl ?_
      refine pm_get B dX3_nextLevel_6 fl_X3_23 hcu rfl ?_
      refine pm_stk (st' := [.int (cu 1), .int (nI j1)]) rfl ?_
      refine pm_stk (st' := [.int (nI n), .int (nI j1)]) (by rw [show (cu 1) = (nI n) from by rw [hcn]]) ?_
      refine pm_icmp_ge (tgt := 50) B dX3_nextLevel_9 (by decide) (fun hq3 => absurd hq3 (fun e => absurd ((nI_leI (by first | omega | decide) (by first | omega | decide)).mp e) (by omega))) (fun hq3 => ?_)
      refine pm_aload_n B dX3_nextLevel_12 rfl ?_
      refine pm_get B dX3_nextLevel_13 fl_X3_9 hcu rfl ?_
      refine pm_iload_n B dX3_nextLevel_16 rfl ?_
      refine pm_iald_n B dX3_nextLevel_17 hun j1 (by first | assumption | omega) (by decide) ?_
      refine pm_iload_n B dX3_nextLevel_18 rfl ?_
      refine pm_icmp_le (tgt := 44) B dX3_nextLevel_19 (by decide) (fun hq4 => ?_) (fun hq4 => ?_)
      · refine pm_iinc B dX3_nextLevel_44 rfl rfl rfl ?_
        refine pm_loc (L' := [some (.ref (z + 131)), some (.int x), some (.int a2_1), some (.int (nI (j1 + 1)))]) (by rw [show ((nI j1) : Int32) + Int32.ofInt 1 = (nI (j1 + 1)) from nI_1 _]; rfl) ?_
        refine pm_goto (tgt := 4) B dX3_nextLevel_47 (by decide) ?_
        have hDq5 : (K1 (d_X3_nextLevel_L1 x un (k1 + 1) j1 a2_1)) = (K1 (d_X3_nextLevel_L1 x un k1 (j1 + 1) a2_1)) := by rw [d_X3_nextLevel_L1, if_pos hq4]
        refine pm_pst (post' := pm_rt (some (.int (K1 (d_X3_nextLevel_L1 x un k1 (j1 + 1) a2_1)))) nx M) (by rw [hDq5]) ?_
        exact ih1 (j1 + 1) (by omega) a2_1
      · refine pm_iload_n B dX3_nextLevel_22 rfl ?_
        refine pm_iload_n B dX3_nextLevel_23 rfl ?_
        refine pm_icmp_eq (tgt := 37) B dX3_nextLevel_24 (by decide) (fun hq6 => ?_) (fun hq6 => ?_)
        · refine pm_aload_n B dX3_nextLevel_37 rfl ?_
          refine pm_get B dX3_nextLevel_38 fl_X3_9 hcu rfl ?_
          refine pm_iload_n B dX3_nextLevel_41 rfl ?_
          refine pm_iald_n B dX3_nextLevel_42 hun j1 (by first | assumption | omega) (by decide) ?_
          refine pm_istore_n B dX3_nextLevel_43 rfl rfl ?_
          refine pm_loc (L' := [some (.ref (z + 131)), some (.int x), some (.int (un j1)), some (.int (nI j1))]) rfl ?_
          refine pm_iinc B dX3_nextLevel_44 rfl rfl rfl ?_
          refine pm_loc (L' := [some (.ref (z + 131)), some (.int x), some (.int (un j1)), some (.int (nI (j1 + 1)))]) (by rw [show ((nI j1) : Int32) + Int32.ofInt 1 = (nI (j1 + 1)) from nI_1 _]; rfl) ?_
          refine pm_goto (tgt := 4) B dX3_nextLevel_47 (by decide) ?_
          have hDq7 : (K1 (d_X3_nextLevel_L1 x un (k1 + 1) j1 a2_1)) = (K1 (d_X3_nextLevel_L1 x un k1 (j1 + 1) (un j1))) := by rw [d_X3_nextLevel_L1, if_neg hq4, if_pos hq6]
          refine pm_pst (post' := pm_rt (some (.int (K1 (d_X3_nextLevel_L1 x un k1 (j1 + 1) (un j1))))) nx M) (by rw [hDq7]) ?_
          exact ih1 (j1 + 1) (by omega) (un j1)
        · refine pm_aload_n B dX3_nextLevel_27 rfl ?_
          refine pm_get B dX3_nextLevel_28 fl_X3_9 hcu rfl ?_
          refine pm_iload_n B dX3_nextLevel_31 rfl ?_
          refine pm_iald_n B dX3_nextLevel_32 hun j1 (by first | assumption | omega) (by decide) ?_
          refine pm_iload_n B dX3_nextLevel_33 rfl ?_
          refine pm_icmp_ge (tgt := 44) B dX3_nextLevel_34 (by decide) (fun hq8 => ?_) (fun hq8 => ?_)
          · refine pm_iinc B dX3_nextLevel_44 rfl rfl rfl ?_
            refine pm_loc (L' := [some (.ref (z + 131)), some (.int x), some (.int a2_1), some (.int (nI (j1 + 1)))]) (by rw [show ((nI j1) : Int32) + Int32.ofInt 1 = (nI (j1 + 1)) from nI_1 _]; rfl) ?_
            refine pm_goto (tgt := 4) B dX3_nextLevel_47 (by decide) ?_
            have hDq9 : (K1 (d_X3_nextLevel_L1 x un (k1 + 1) j1 a2_1)) = (K1 (d_X3_nextLevel_L1 x un k1 (j1 + 1) a2_1)) := by rw [d_X3_nextLevel_L1, if_neg hq4, if_neg hq6, if_pos hq8]
            refine pm_pst (post' := pm_rt (some (.int (K1 (d_X3_nextLevel_L1 x un k1 (j1 + 1) a2_1)))) nx M) (by rw [hDq9]) ?_
            exact ih1 (j1 + 1) (by omega) a2_1
          · refine pm_aload_n B dX3_nextLevel_37 rfl ?_
            refine pm_get B dX3_nextLevel_38 fl_X3_9 hcu rfl ?_
            refine pm_iload_n B dX3_nextLevel_41 rfl ?_
            refine pm_iald_n B dX3_nextLevel_42 hun j1 (by first | assumption | omega) (by decide) ?_
            refine pm_istore_n B dX3_nextLevel_43 rfl rfl ?_
            refine pm_loc (L' := [some (.ref (z + 131)), some (.int x), some (.int (un j1)), some (.int (nI j1))]) rfl ?_
            refine pm_iinc B dX3_nextLevel_44 rfl rfl rfl ?_
            refine pm_loc (L' := [some (.ref (z + 131)), some (.int x), some (.int (un j1)), some (.int (nI (j1 + 1)))]) (by rw [show ((nI j1) : Int32) + Int32.ofInt 1 = (nI (j1 + 1)) from nI_1 _]; rfl) ?_
            refine pm_goto (tgt := 4) B dX3_nextLevel_47 (by decide) ?_
            have hDq10 : (K1 (d_X3_nextLevel_L1 x un (k1 + 1) j1 a2_1)) = (K1 (d_X3_nextLevel_L1 x un k1 (j1 + 1) (un j1))) := by rw [d_X3_nextLevel_L1, if_neg hq4, if_neg hq6, if_neg hq8]
            refine pm_pst (post' := pm_rt (some (.int (K1 (d_X3_nextLevel_L1 x un k1 (j1 + 1) (un j1))))) nx M) (by rw [hDq10]) ?_
            exact ih1 (j1 + 1) (by omega) (un j1)
  refine pm_pst (post' := pm_rt (some (.int (d_X3_nextLevel_L1 x un n 0 x))) nx M) (by rw [show (d_X3_nextLevel x n un cu) = (d_X3_nextLevel_L1 x un n 0 x) from by rw [d_X3_nextLevel]]) ?_
  refine loop1 (fun (a2_1 : Int32) => a2_1) ?_ n 0 (by omega) x
  intro a2_1
  refine pm_pst (post' := pm_rt (some (.int a2_1)) nx M) rfl ?_
  refine pm_iload_n B dX3_nextLevel_50 rfl ?_
  have hDq11 : (a2_1) = a2_1 := rfl
  exact pm_ireturn B dX3_nextLevel_51 rfl (by first | rfl | (apply pm_nz; first | assumption | decide | exact pm_in01 _ _ _ | simp)) ⟨rfl, rfl, rfl⟩ rfl rfl
def d_X3_bearersOf_L1 (x : Int32) (un : Nat → Int32) : Nat → Nat → Int32 → Int32
  | 0, _, a2_1 => a2_1
  | k1 + 1, j1, a2_1 => if (un j1) < x then (d_X3_bearersOf_L1 x un k1 (j1 + 1) (a2_1 + 0)) else (d_X3_bearersOf_L1 x un k1 (j1 + 1) (a2_1 + 1))
def d_X3_bearersOf (x : Int32) (n : Nat) (un : Nat → Int32) (cu : Nat → Int32) : Int32 := (d_X3_bearersOf_L1 x un n 0 0)
set_option maxRecDepth 100000 in
set_option maxHeartbeats 8000000 in
theorem c_X3_bearersOf {l : Launch} {z : Nat} {D : va_G} {kA : Nat → ClassId} {kE : Nat → Nat} {nx : Nat} {M : pm_M} {x : Int32} {n : Nat} {un : Nat → Int32} {cu : Nat → Int32} (hun : M 132 = some (.inl (kA 0, 7, .inl un))) (hcu : M 131 = some (.inr (1, [.ref (z + 132), .int (cu 1)]))) (hcn : cu 1 = nI n) (h7 : n ≤ 7) : pm_C l z D kA kE yX3_bearersOf cX3_bearersOf 4 (some .int) 0 0 0 [.ref (z + 131), .int x] nx M (pm_rt (some (.int (d_X3_bearersOf x n un cu))) nx M) := by
  refine pm_mk (own := RX3) (nm := "bearersOf") mt_X3_bearersOf rfl rfl rfl rfl fun X B => ?_
  refine pm_loc (L' := [some (.ref (z + 131)), some (.int x), none, none]) rfl ?_
  refine pm_iconst (v := 0) B dX3_bearersOf_0 (by decide) ?_
  refine pm_istore_n B dX3_bearersOf_1 rfl rfl ?_
  refine pm_loc (L' := [some (.ref (z + 131)), some (.int x), some (.int 0), none]) rfl ?_
  refine pm_iconst (v := 0) B dX3_bearersOf_2 (by decide) ?_
  refine pm_istore_n B dX3_bearersOf_3 rfl rfl ?_
  refine pm_loc (L' := [some (.ref (z + 131)), some (.int x), some (.int 0), some (.int 0)]) rfl ?_
  refine pm_loc (L' := [some (.ref (z + 131)), some (.int x), some (.int 0), some (.int (nI 0))]) rfl ?_
  have loop1 : ∀ (K1 : (Int32 → Int32)), (∀ (a2_1 : Int32), pm_G l z D X 0 0 (pm_Q z D (pm_rt (some (.int (K1 a2_1))) nx M) 0 0 X) nx M 36 [none, none, some (.int a2_1), none] []) → ∀ (k1 j1 : Nat), j1 + k1 = n → ∀ (a2_1 : Int32), pm_G l z D X 0 0 (pm_Q z D (pm_rt (some (.int (K1 (d_X3_bearersOf_L1 x un k1 j1 a2_1)))) nx M) 0 0 X) nx M 4 [some (.ref (z + 131)), some (.int x), some (.int a2_1), some (.int (nI j1))] [] := by
    intro K1 hK1 k1
    induction k1 with
    | zero =>
      intro j1 hj1 a2_1
      have hjn1 : j1 = n := by omega
      refine pm_iload_n B dX3_bearersOf_4 rfl ?_
      refine pm_aload_n B dX3_bearersOf_5 rfl ?_
      refine pm_get B dX3_bearersOf_6 fl_X3_23 hcu rfl ?_
      refine pm_stk (st' := [.int (cu 1), .int (nI j1)]) rfl ?_
      refine pm_stk (st' := [.int (nI n), .int (nI j1)]) (by rw [show (cu 1) = (nI n) from by rw [hcn]]) ?_
      refine pm_icmp_ge (tgt := 36) B dX3_bearersOf_9 (by decide) (fun hq1 => ?_) (fun hq1 => absurd ((nI_leI (by first | omega | decide) (by first | omega | decide)).mpr (by omega)) hq1)
      refine pm_wk (L' := [none, none, some (.int a2_1), none]) ⟨rfl, trivial⟩ ?_
      have hDq2 : (K1 (d_X3_bearersOf_L1 x un 0 j1 a2_1)) = (K1 a2_1) := by rw [d_X3_bearersOf_L1]
      refine pm_pst (post' := pm_rt (some (.int (K1 a2_1))) nx M) (by rw [hDq2]) ?_
      exact hK1 a2_1
    | succ k1 ih1 =>
      intro j1 hj1 a2_1
      have hjn1 : j1 < n := by omega
      refine pm_iload_n B dX3_bearersOf_4 rfl ?_
      refine pm_aload_n B dX3_bearersOf_5 rfl ?_
      refine pm_get B dX3_bearersOf_6 fl_X3_23 hcu rfl ?_
      refine pm_stk (st' := [.int (cu 1), .int (nI j1)]) rfl ?_
      refine pm_stk (st' := [.int (nI n), .int (nI j1)]) (by rw [show (cu 1) = (nI n) from by rw [hcn]]) ?_
      refine pm_icmp_ge (tgt := 36) B dX3_bearersOf_9 (by decide) (fun hq3 => absurd hq3 (fun e => absurd ((nI_leI (by first | omega | decide) (by first | omega | decide)).mp e) (by omega))) (fun hq3 => ?_)
      refine pm_iload_n B dX3_bearersOf_12 rfl ?_
      refine pm_aload_n B dX3_bearersOf_13 rfl ?_
      refine pm_get B dX3_bearersOf_14 fl_X3_9 hcu rfl ?_
      refine pm_iload_n B dX3_bearersOf_17 rfl ?_
      refine pm_iald_n B dX3_bearersOf_18 hun j1 (by first | assumption | omega) (by decide) ?_
      refine pm_iload_n B dX3_bearersOf_19 rfl ?_
      refine pm_icmp_lt (tgt := 27) B dX3_bearersOf_20 (by decide) (fun hq4 => ?_) (fun hq4 => ?_)
      · refine pm_iconst (v := 0) B dX3_bearersOf_27 (by decide) ?_
        refine pm_iadd B dX3_bearersOf_28 ?_
        refine pm_istore_n B dX3_bearersOf_29 rfl rfl ?_
        refine pm_loc (L' := [some (.ref (z + 131)), some (.int x), some (.int (a2_1 + 0)), some (.int (nI j1))]) rfl ?_
        refine pm_iinc B dX3_bearersOf_30 rfl rfl rfl ?_
        refine pm_loc (L' := [some (.ref (z + 131)), some (.int x), some (.int (a2_1 + 0)), some (.int (nI (j1 + 1)))]) (by rw [show ((nI j1) : Int32) + Int32.ofInt 1 = (nI (j1 + 1)) from nI_1 _]; rfl) ?_
        refine pm_goto (tgt := 4) B dX3_bearersOf_33 (by decide) ?_
        have hDq5 : (K1 (d_X3_bearersOf_L1 x un (k1 + 1) j1 a2_1)) = (K1 (d_X3_bearersOf_L1 x un k1 (j1 + 1) (a2_1 + 0))) := by rw [d_X3_bearersOf_L1, if_pos hq4]
        refine pm_pst (post' := pm_rt (some (.int (K1 (d_X3_bearersOf_L1 x un k1 (j1 + 1) (a2_1 + 0))))) nx M) (by rw [hDq5]) ?_
        exact ih1 (j1 + 1) (by omega) (a2_1 + 0)
      · refine pm_iconst (v := 1) B dX3_bearersOf_23 (by decide) ?_
        refine pm_goto (tgt := 28) B dX3_bearersOf_24 (by decide) ?_
        refine pm_iadd B dX3_bearersOf_28 ?_
        refine pm_istore_n B dX3_bearersOf_29 rfl rfl ?_
        refine pm_loc (L' := [some (.ref (z + 131)), some (.int x), some (.int (a2_1 + 1)), some (.int (nI j1))]) rfl ?_
        refine pm_iinc B dX3_bearersOf_30 rfl rfl rfl ?_
        refine pm_loc (L' := [some (.ref (z + 131)), some (.int x), some (.int (a2_1 + 1)), some (.int (nI (j1 + 1)))]) (by rw [show ((nI j1) : Int32) + Int32.ofInt 1 = (nI (j1 + 1)) from nI_1 _]; rfl) ?_
        refine pm_goto (tgt := 4) B dX3_bearersOf_33 (by decide) ?_
        have hDq6 : (K1 (d_X3_bearersOf_L1 x un (k1 + 1) j1 a2_1)) = (K1 (d_X3_bearersOf_L1 x un k1 (j1 + 1) (a2_1 + 1))) := by rw [d_X3_bearersOf_L1, if_neg hq4]
        refine pm_pst (post' := pm_rt (some (.int (K1 (d_X3_bearersOf_L1 x un k1 (j1 + 1) (a2_1 + 1))))) nx M) (by rw [hDq6]) ?_
        exact ih1 (j1 + 1) (by omega) (a2_1 + 1)
  refine pm_pst (post' := pm_rt (some (.int (d_X3_bearersOf_L1 x un n 0 0))) nx M) (by rw [show (d_X3_bearersOf x n un cu) = (d_X3_bearersOf_L1 x un n 0 0) from by rw [d_X3_bearersOf]]) ?_
  refine loop1 (fun (a2_1 : Int32) => a2_1) ?_ n 0 (by omega) 0
  intro a2_1
  refine pm_pst (post' := pm_rt (some (.int a2_1)) nx M) rfl ?_
  refine pm_iload_n B dX3_bearersOf_36 rfl ?_
  have hDq7 : (a2_1) = a2_1 := rfl
  exact pm_ireturn B dX3_bearersOf_37 rfl (by first | rfl | (apply pm_nz; first | assumption | decide | exact pm_in01 _ _ _ | simp)) ⟨rfl, rfl, rfl⟩ rfl rfl
def d_X3_bySteps_L1  : Nat → Nat → Int32 → Int32
  | 0, _, a3_1 => a3_1
  | k1 + 1, j1, a3_1 => (d_X3_bySteps_L1 k1 (j1 + 1) (a3_1 * (nI j1)))
def d_X3_bySteps_L2 (i : Nat) (n : Nat) (r : Nat → Int32) (un : Nat → Int32) (cu : Nat → Int32) (a3_1 : Int32) : Nat → Nat → Int32 → Int32 → (Int32 × Int32)
  | 0, _, a4_2, a5_2 => (a4_2, a5_2)
  | k2 + 1, j2, a4_2, a5_2 => if (((d_X3_readUnits n r un cu).1) i) ≤ a5_2 then (a4_2, a5_2) else (if (d_X3_bearersOf (d_X3_nextLevel a5_2 n ((d_X3_readUnits n r un cu).1) ((d_X3_readUnits n r un cu).2)) n ((d_X3_readUnits n r un cu).1) ((d_X3_readUnits n r un cu).2)) ≤ 0 then (d_X3_bySteps_L2 i n r un cu a3_1 k2 (j2 + 1) a4_2 (d_X3_nextLevel a5_2 n ((d_X3_readUnits n r un cu).1) ((d_X3_readUnits n r un cu).2))) else (d_X3_bySteps_L2 i n r un cu a3_1 k2 (j2 + 1) (a4_2 + (((d_X3_nextLevel a5_2 n ((d_X3_readUnits n r un cu).1) ((d_X3_readUnits n r un cu).2)) - a5_2) * (a3_1 / (d_X3_bearersOf (d_X3_nextLevel a5_2 n ((d_X3_readUnits n r un cu).1) ((d_X3_readUnits n r un cu).2)) n ((d_X3_readUnits n r un cu).1) ((d_X3_readUnits n r un cu).2))))) (d_X3_nextLevel a5_2 n ((d_X3_readUnits n r un cu).1) ((d_X3_readUnits n r un cu).2))))
def d_X3_bySteps (i : Nat) (n : Nat) (r : Nat → Int32) (un : Nat → Int32) (cu : Nat → Int32) : (Int32 × (Nat → Int32) × (Nat → Int32)) := (((d_X3_bySteps_L2 i n r un cu (d_X3_bySteps_L1 ((2 + (n - 1)) - 2) 2 1) n 0 0 0).1), ((d_X3_readUnits n r un cu).1), ((d_X3_readUnits n r un cu).2))
set_option maxRecDepth 100000 in
set_option maxHeartbeats 8000000 in
theorem c_X3_bySteps {l : Launch} {z : Nat} {D : va_G} {kA : Nat → ClassId} {kE : Nat → Nat} {nx : Nat} {M : pm_M} {i : Nat} {n : Nat} {r : Nat → Int32} {un : Nat → Int32} {cu : Nat → Int32} (hS : pm_SA z kA 2 M r) (hun : M 132 = some (.inl (kA 0, 7, .inl un))) (hcu : M 131 = some (.inr (1, [.ref (z + 132), .int (cu 1)]))) (hn : r 0 = nI n) (h7 : n ≤ 7) (hi : i < n) : pm_C l z D kA kE yX3_bySteps cX3_bySteps 9 (some .int) 3 0 0 [.ref (z + 131), .ref (z + 2), .int (nI i)] nx M (pm_rt (some (.int ((d_X3_bySteps i n r un cu).1))) nx (pm_up (pm_up M 132 (.inl (kA 0, 7, .inl ((d_X3_bySteps i n r un cu).2.1)))) 131 (.inr (1, [.ref (z + 132), .int (((d_X3_bySteps i n r un cu).2.2) 1)])))) := by
  refine pm_mk (own := RX3) (nm := "bySteps") mt_X3_bySteps rfl rfl rfl rfl fun X B => ?_
  refine pm_loc (L' := [some (.ref (z + 131)), some (.ref (z + 2)), some (.int (nI i)), none, none, none, none, none, none]) rfl ?_
  refine pm_mem (M' := pm_up (pm_up M 132 (.inl (kA 0, 7, .inl un))) 131 (.inr (1, [.ref (z + 132), .int (cu 1)]))) (by rw [pm_up_id hun, pm_up_id hcu]) ?_
  refine pm_aload_n B dX3_bySteps_0 rfl ?_
  refine pm_aload_n B dX3_bySteps_1 rfl ?_
  refine pm_cV (As := [.ref (z + 2)]) (mc2 := 0) (ms2 := 0) B rfl pm_up_s rfl (c_X3_readUnits (n := n) (r := r) (un := un) (cu := cu) (pm_SA_up (by omega) (pm_SA_up (by omega) hS)) ((pm_up_n (by omega)).trans pm_up_s) pm_up_s hn (by first | assumption | omega)) mt_X3_readUnits sv_X3_15 dX3_bySteps_2 rfl rfl rfl rfl rfl ?_
  refine pm_mem (M' := pm_up (pm_up M 132 (.inl (kA 0, 7, .inl ((d_X3_readUnits n r un cu).1)))) 131 (.inr (1, [.ref (z + 132), .int (((d_X3_readUnits n r un cu).2) 1)]))) (by rw [pm_up_sw (a := 131) (b := 132) (by omega), pm_up_up (a := 132), pm_up_up (a := 131)] <;> rfl) ?_
  refine pm_stk (st' := []) rfl ?_
  refine pm_iconst (v := 1) B dX3_bySteps_5 (by decide) ?_
  refine pm_istore_n B dX3_bySteps_6 rfl rfl ?_
  refine pm_loc (L' := [some (.ref (z + 131)), some (.ref (z + 2)), some (.int (nI i)), some (.int 1), none, none, none, none, none]) rfl ?_
  refine pm_iconst (v := 2) B dX3_bySteps_7 (by decide) ?_
  refine pm_istore B dX3_bySteps_8 rfl rfl ?_
  refine pm_loc (L' := [some (.ref (z + 131)), some (.ref (z + 2)), some (.int (nI i)), some (.int 1), some (.int 2), none, none, none, none]) rfl ?_
  refine pm_wk (L' := [some (.ref (z + 131)), none, some (.int (nI i)), some (.int 1), some (.int 2), none, none, none, none]) ⟨rfl, ⟨rfl, ⟨rfl, ⟨rfl, trivial⟩⟩⟩⟩ ?_
  refine pm_loc (L' := [some (.ref (z + 131)), none, some (.int (nI i)), some (.int 1), some (.int (nI 2)), none, none, none, none]) rfl ?_
  have loop1 : ∀ (K1 : (Int32 → (Int32 × (Nat → Int32) × (Nat → Int32)))), (∀ (a3_1 : Int32), pm_G l z D X 0 0 (pm_Q z D (pm_rt (some (.int ((K1 a3_1).1))) nx (pm_up (pm_up M 132 (.inl (kA 0, 7, .inl ((K1 a3_1).2.1)))) 131 (.inr (1, [.ref (z + 132), .int (((K1 a3_1).2.2) 1)])))) 0 0 X) nx (pm_up (pm_up M 132 (.inl (kA 0, 7, .inl ((d_X3_readUnits n r un cu).1)))) 131 (.inr (1, [.ref (z + 132), .int (((d_X3_readUnits n r un cu).2) 1)]))) 30 [some (.ref (z + 131)), none, some (.int (nI i)), some (.int a3_1), none, none, none, none, none] []) → ∀ (k1 j1 : Nat), j1 + k1 = (2 + (n - 1)) → ∀ (a3_1 : Int32), pm_G l z D X 0 0 (pm_Q z D (pm_rt (some (.int ((K1 (d_X3_bySteps_L1 k1 j1 a3_1)).1))) nx (pm_up (pm_up M 132 (.inl (kA 0, 7, .inl ((K1 (d_X3_bySteps_L1 k1 j1 a3_1)).2.1)))) 131 (.inr (1, [.ref (z + 132), .int (((K1 (d_X3_bySteps_L1 k1 j1 a3_1)).2.2) 1)])))) 0 0 X) nx (pm_up (pm_up M 132 (.inl (kA 0, 7, .inl ((d_X3_readUnits n r un cu).1)))) 131 (.inr (1, [.ref (z + 132), .int (((d_X3_readUnits n r un cu).2) 1)]))) 10 [some (.ref (z + 131)), none, some (.int (nI i)), some (.int a3_1), some (.int (nI j1)), none, none, none, none] [] := by
    intro K1 hK1 k1
    induction k1 with
    | zero =>
      intro j1 hj1 a3_1
      have hjn1 : j1 = (2 + (n - 1)) := by omega
      refine pm_iload B dX3_bySteps_10 rfl ?_
      refine pm_aload_n B dX3_bySteps_12 rfl ?_
      refine pm_get B dX3_bySteps_13 fl_X3_23 pm_up_s rfl ?_
      refine pm_stk (st' := [.int (((d_X3_readUnits n r un cu).2) 1), .int (nI j1)]) rfl ?_
      refine pm_stk (st' := [.int (nI n), .int (nI j1)]) (by rw [show (((d_X3_readUnits n r un cu).2) 1) = (nI n) from by rw [(d_X3_readUnits_1 n r un cu hn)]]) ?_
      refine pm_icmp_gt (tgt := 30) B dX3_bySteps_16 (by decide) (fun hq1 => ?_) (fun hq1 => absurd ((nI_ltI (by first | omega | decide) (by first | omega | decide)).mpr (by omega)) hq1)
      refine pm_wk (L' := [some (.ref (z + 131)), none, some (.int (nI i)), some (.int a3_1), none, none, none, none, none]) ⟨rfl, ⟨rfl, ⟨rfl, trivial⟩⟩⟩ ?_
      have hDq2 : (K1 (d_X3_bySteps_L1 0 j1 a3_1)) = (K1 a3_1) := by rw [d_X3_bySteps_L1]
      refine pm_pst (post' := pm_rt (some (.int ((K1 a3_1).1))) nx (pm_up (pm_up M 132 (.inl (kA 0, 7, .inl ((K1 a3_1).2.1)))) 131 (.inr (1, [.ref (z + 132), .int (((K1 a3_1).2.2) 1)])))) (by rw [hDq2]) ?_
      exact hK1 a3_1
    | succ k1 ih1 =>
      intro j1 hj1 a3_1
      have hjn1 : j1 < (2 + (n - 1)) := by omega
      refine pm_iload B dX3_bySteps_10 rfl ?_
      refine pm_aload_n B dX3_bySteps_12 rfl ?_
      refine pm_get B dX3_bySteps_13 fl_X3_23 pm_up_s rfl ?_
      refine pm_stk (st' := [.int (((d_X3_readUnits n r un cu).2) 1), .int (nI j1)]) rfl ?_
      refine pm_stk (st' := [.int (nI n), .int (nI j1)]) (by rw [show (((d_X3_readUnits n r un cu).2) 1) = (nI n) from by rw [(d_X3_readUnits_1 n r un cu hn)]]) ?_
      refine pm_icmp_gt (tgt := 30) B dX3_bySteps_16 (by decide) (fun hq3 => absurd hq3 (fun e => absurd ((nI_ltI (by first | omega | decide) (by first | omega | decide)).mp e) (by omega))) (fun hq3 => ?_)
      refine pm_iload_n B dX3_bySteps_19 rfl ?_
      refine pm_iload B dX3_bySteps_20 rfl ?_
      refine pm_imul B dX3_bySteps_22 ?_
      refine pm_istore_n B dX3_bySteps_23 rfl rfl ?_
      refine pm_loc (L' := [some (.ref (z + 131)), none, some (.int (nI i)), some (.int (a3_1 * (nI j1))), some (.int (nI j1)), none, none, none, none]) rfl ?_
      refine pm_iinc B dX3_bySteps_24 rfl rfl rfl ?_
      refine pm_loc (L' := [some (.ref (z + 131)), none, some (.int (nI i)), some (.int (a3_1 * (nI j1))), some (.int (nI (j1 + 1))), none, none, none, none]) (by rw [show ((nI j1) : Int32) + Int32.ofInt 1 = (nI (j1 + 1)) from nI_1 _]; rfl) ?_
      refine pm_goto (tgt := 10) B dX3_bySteps_27 (by decide) ?_
      have hDq4 : (K1 (d_X3_bySteps_L1 (k1 + 1) j1 a3_1)) = (K1 (d_X3_bySteps_L1 k1 (j1 + 1) (a3_1 * (nI j1)))) := by rw [d_X3_bySteps_L1]
      refine pm_pst (post' := pm_rt (some (.int ((K1 (d_X3_bySteps_L1 k1 (j1 + 1) (a3_1 * (nI j1)))).1))) nx (pm_up (pm_up M 132 (.inl (kA 0, 7, .inl ((K1 (d_X3_bySteps_L1 k1 (j1 + 1) (a3_1 * (nI j1)))).2.1)))) 131 (.inr (1, [.ref (z + 132), .int (((K1 (d_X3_bySteps_L1 k1 (j1 + 1) (a3_1 * (nI j1)))).2.2) 1)])))) (by rw [hDq4]) ?_
      exact ih1 (j1 + 1) (by omega) (a3_1 * (nI j1))
  refine pm_pst (post' := pm_rt (some (.int ((((d_X3_bySteps_L2 i n r un cu (d_X3_bySteps_L1 ((2 + (n - 1)) - 2) 2 1) n 0 0 0).1), ((d_X3_readUnits n r un cu).1), ((d_X3_readUnits n r un cu).2)).1))) nx (pm_up (pm_up M 132 (.inl (kA 0, 7, .inl ((((d_X3_bySteps_L2 i n r un cu (d_X3_bySteps_L1 ((2 + (n - 1)) - 2) 2 1) n 0 0 0).1), ((d_X3_readUnits n r un cu).1), ((d_X3_readUnits n r un cu).2)).2.1)))) 131 (.inr (1, [.ref (z + 132), .int (((((d_X3_bySteps_L2 i n r un cu (d_X3_bySteps_L1 ((2 + (n - 1)) - 2) 2 1) n 0 0 0).1), ((d_X3_readUnits n r un cu).1), ((d_X3_readUnits n r un cu).2)).2.2) 1)])))) (by rw [show (d_X3_bySteps i n r un cu) = (((d_X3_bySteps_L2 i n r un cu (d_X3_bySteps_L1 ((2 + (n - 1)) - 2) 2 1) n 0 0 0).1), ((d_X3_readUnits n r un cu).1), ((d_X3_readUnits n r un cu).2)) from by rw [d_X3_bySteps]]) ?_
  refine loop1 (fun (a3_1 : Int32) => (((d_X3_bySteps_L2 i n r un cu a3_1 n 0 0 0).1), ((d_X3_readUnits n r un cu).1), ((d_X3_readUnits n r un cu).2))) ?_ ((2 + (n - 1)) - 2) 2 (by omega) 1
  intro a3_1
  refine pm_pst (post' := pm_rt (some (.int ((((d_X3_bySteps_L2 i n r un cu a3_1 n 0 0 0).1), ((d_X3_readUnits n r un cu).1), ((d_X3_readUnits n r un cu).2)).1))) nx (pm_up (pm_up M 132 (.inl (kA 0, 7, .inl ((((d_X3_bySteps_L2 i n r un cu a3_1 n 0 0 0).1), ((d_X3_readUnits n r un cu).1), ((d_X3_readUnits n r un cu).2)).2.1)))) 131 (.inr (1, [.ref (z + 132), .int (((((d_X3_bySteps_L2 i n r un cu a3_1 n 0 0 0).1), ((d_X3_readUnits n r un cu).1), ((d_X3_readUnits n r un cu).2)).2.2) 1)])))) rfl ?_
  refine pm_iconst (v := 0) B dX3_bySteps_30 (by decide) ?_
  refine pm_istore B dX3_bySteps_31 rfl rfl ?_
  refine pm_loc (L' := [some (.ref (z + 131)), none, some (.int (nI i)), some (.int a3_1), some (.int 0), none, none, none, none]) rfl ?_
  refine pm_iconst (v := 0) B dX3_bySteps_33 (by decide) ?_
  refine pm_istore B dX3_bySteps_34 rfl rfl ?_
  refine pm_loc (L' := [some (.ref (z + 131)), none, some (.int (nI i)), some (.int a3_1), some (.int 0), some (.int 0), none, none, none]) rfl ?_
  refine pm_iconst (v := 0) B dX3_bySteps_36 (by decide) ?_
  refine pm_istore B dX3_bySteps_37 rfl rfl ?_
  refine pm_loc (L' := [some (.ref (z + 131)), none, some (.int (nI i)), some (.int a3_1), some (.int 0), some (.int 0), some (.int 0), none, none]) rfl ?_
  refine pm_loc (L' := [some (.ref (z + 131)), none, some (.int (nI i)), some (.int a3_1), some (.int 0), some (.int 0), some (.int (nI 0)), none, none]) rfl ?_
  have loop2 : ∀ (K2 : (Int32 → Int32 → (Int32 × (Nat → Int32) × (Nat → Int32)))), (∀ (a4_2 : Int32) (a5_2 : Int32), pm_G l z D X 0 0 (pm_Q z D (pm_rt (some (.int ((K2 a4_2 a5_2).1))) nx (pm_up (pm_up M 132 (.inl (kA 0, 7, .inl ((K2 a4_2 a5_2).2.1)))) 131 (.inr (1, [.ref (z + 132), .int (((K2 a4_2 a5_2).2.2) 1)])))) 0 0 X) nx (pm_up (pm_up M 132 (.inl (kA 0, 7, .inl ((d_X3_readUnits n r un cu).1)))) 131 (.inr (1, [.ref (z + 132), .int (((d_X3_readUnits n r un cu).2) 1)]))) 105 [none, none, none, none, some (.int a4_2), none, none, none, none] []) → ∀ (k2 j2 : Nat), j2 + k2 = n → ∀ (a4_2 : Int32) (a5_2 : Int32), pm_G l z D X 0 0 (pm_Q z D (pm_rt (some (.int ((K2 ((d_X3_bySteps_L2 i n r un cu a3_1 k2 j2 a4_2 a5_2).1) ((d_X3_bySteps_L2 i n r un cu a3_1 k2 j2 a4_2 a5_2).2)).1))) nx (pm_up (pm_up M 132 (.inl (kA 0, 7, .inl ((K2 ((d_X3_bySteps_L2 i n r un cu a3_1 k2 j2 a4_2 a5_2).1) ((d_X3_bySteps_L2 i n r un cu a3_1 k2 j2 a4_2 a5_2).2)).2.1)))) 131 (.inr (1, [.ref (z + 132), .int (((K2 ((d_X3_bySteps_L2 i n r un cu a3_1 k2 j2 a4_2 a5_2).1) ((d_X3_bySteps_L2 i n r un cu a3_1 k2 j2 a4_2 a5_2).2)).2.2) 1)])))) 0 0 X) nx (pm_up (pm_up M 132 (.inl (kA 0, 7, .inl ((d_X3_readUnits n r un cu).1)))) 131 (.inr (1, [.ref (z + 132), .int (((d_X3_readUnits n r un cu).2) 1)]))) 39 [some (.ref (z + 131)), none, some (.int (nI i)), some (.int a3_1), some (.int a4_2), some (.int a5_2), some (.int (nI j2)), none, none] [] := by
    intro K2 hK2 k2
    induction k2 with
    | zero =>
      intro j2 hj2 a4_2 a5_2
      have hjn2 : j2 = n := by omega
      refine pm_iload B dX3_bySteps_39 rfl ?_
      refine pm_aload_n B dX3_bySteps_41 rfl ?_
      refine pm_get B dX3_bySteps_42 fl_X3_23 pm_up_s rfl ?_
      refine pm_stk (st' := [.int (((d_X3_readUnits n r un cu).2) 1), .int (nI j2)]) rfl ?_
      refine pm_stk (st' := [.int (nI n), .int (nI j2)]) (by rw [show (((d_X3_readUnits n r un cu).2) 1) = (nI n) from by rw [(d_X3_readUnits_1 n r un cu hn)]]) ?_
      refine pm_icmp_ge (tgt := 105) B dX3_bySteps_45 (by decide) (fun hq5 => ?_) (fun hq5 => absurd ((nI_leI (by first | omega | decide) (by first | omega | decide)).mpr (by omega)) hq5)
      refine pm_wk (L' := [none, none, none, none, some (.int a4_2), none, none, none, none]) ⟨rfl, trivial⟩ ?_
      have hDq6 : (K2 ((d_X3_bySteps_L2 i n r un cu a3_1 0 j2 a4_2 a5_2).1) ((d_X3_bySteps_L2 i n r un cu a3_1 0 j2 a4_2 a5_2).2)) = (K2 a4_2 a5_2) := by rw [d_X3_bySteps_L2]
      refine pm_pst (post' := pm_rt (some (.int ((K2 a4_2 a5_2).1))) nx (pm_up (pm_up M 132 (.inl (kA 0, 7, .inl ((K2 a4_2 a5_2).2.1)))) 131 (.inr (1, [.ref (z + 132), .int (((K2 a4_2 a5_2).2.2) 1)])))) (by rw [hDq6]) ?_
      exact hK2 a4_2 a5_2
    | succ k2 ih2 =>
      intro j2 hj2 a4_2 a5_2
      have hjn2 : j2 < n := by omega
      refine pm_iload B dX3_bySteps_39 rfl ?_
      refine pm_aload_n B dX3_bySteps_41 rfl ?_
      refine pm_get B dX3_bySteps_42 fl_X3_23 pm_up_s rfl ?_
      refine pm_stk (st' := [.int (((d_X3_readUnits n r un cu).2) 1), .int (nI j2)]) rfl ?_
      refine pm_stk (st' := [.int (nI n), .int (nI j2)]) (by rw [show (((d_X3_readUnits n r un cu).2) 1) = (nI n) from by rw [(d_X3_readUnits_1 n r un cu hn)]]) ?_
      refine pm_icmp_ge (tgt := 105) B dX3_bySteps_45 (by decide) (fun hq7 => absurd hq7 (fun e => absurd ((nI_leI (by first | omega | decide) (by first | omega | decide)).mp e) (by omega))) (fun hq7 => ?_)
      refine pm_iload B dX3_bySteps_48 rfl ?_
      refine pm_aload_n B dX3_bySteps_50 rfl ?_
      refine pm_get B dX3_bySteps_51 fl_X3_9 pm_up_s rfl ?_
      refine pm_iload_n B dX3_bySteps_54 rfl ?_
      refine pm_iald_n B dX3_bySteps_55 ((pm_up_n (by omega)).trans pm_up_s) i (by first | assumption | omega) (by decide) ?_
      refine pm_icmp_ge (tgt := 105) B dX3_bySteps_56 (by decide) (fun hq8 => ?_) (fun hq8 => ?_)
      · refine pm_wk (L' := [none, none, none, none, some (.int a4_2), none, none, none, none]) ⟨rfl, trivial⟩ ?_
        have hDq9 : (K2 ((d_X3_bySteps_L2 i n r un cu a3_1 (k2 + 1) j2 a4_2 a5_2).1) ((d_X3_bySteps_L2 i n r un cu a3_1 (k2 + 1) j2 a4_2 a5_2).2)) = (K2 a4_2 a5_2) := by rw [d_X3_bySteps_L2, if_pos hq8]
        refine pm_pst (post' := pm_rt (some (.int ((K2 a4_2 a5_2).1))) nx (pm_up (pm_up M 132 (.inl (kA 0, 7, .inl ((K2 a4_2 a5_2).2.1)))) 131 (.inr (1, [.ref (z + 132), .int (((K2 a4_2 a5_2).2.2) 1)])))) (by rw [hDq9]) ?_
        exact hK2 a4_2 a5_2
      · refine pm_aload_n B dX3_bySteps_59 rfl ?_
        refine pm_iload B dX3_bySteps_60 rfl ?_
        refine pm_cV (As := [.int a5_2]) (mc2 := 0) (ms2 := 0) B rfl pm_up_s rfl (c_X3_nextLevel (x := a5_2) (n := n) (un := ((d_X3_readUnits n r un cu).1)) (cu := ((d_X3_readUnits n r un cu).2)) ((pm_up_n (by omega)).trans pm_up_s) pm_up_s (show ((d_X3_readUnits n r un cu).2) 1 = (nI n) from by rw [(d_X3_readUnits_1 n r un cu hn)]) (by first | assumption | omega)) mt_X3_nextLevel sv_X3_27 dX3_bySteps_62 rfl rfl rfl rfl rfl ?_
        refine pm_stk (st' := [.int (d_X3_nextLevel a5_2 n ((d_X3_readUnits n r un cu).1) ((d_X3_readUnits n r un cu).2))]) rfl ?_
        refine pm_istore B dX3_bySteps_65 rfl rfl ?_
        refine pm_loc (L' := [some (.ref (z + 131)), none, some (.int (nI i)), some (.int a3_1), some (.int a4_2), some (.int a5_2), some (.int (nI j2)), some (.int (d_X3_nextLevel a5_2 n ((d_X3_readUnits n r un cu).1) ((d_X3_readUnits n r un cu).2))), none]) rfl ?_
        refine pm_aload_n B dX3_bySteps_67 rfl ?_
        refine pm_iload B dX3_bySteps_68 rfl ?_
        refine pm_cV (As := [.int (d_X3_nextLevel a5_2 n ((d_X3_readUnits n r un cu).1) ((d_X3_readUnits n r un cu).2))]) (mc2 := 0) (ms2 := 0) B rfl pm_up_s rfl (c_X3_bearersOf (x := (d_X3_nextLevel a5_2 n ((d_X3_readUnits n r un cu).1) ((d_X3_readUnits n r un cu).2))) (n := n) (un := ((d_X3_readUnits n r un cu).1)) (cu := ((d_X3_readUnits n r un cu).2)) ((pm_up_n (by omega)).trans pm_up_s) pm_up_s (show ((d_X3_readUnits n r un cu).2) 1 = (nI n) from by rw [(d_X3_readUnits_1 n r un cu hn)]) (by first | assumption | omega)) mt_X3_bearersOf sv_X3_31 dX3_bySteps_70 rfl rfl rfl rfl rfl ?_
        refine pm_stk (st' := [.int (d_X3_bearersOf (d_X3_nextLevel a5_2 n ((d_X3_readUnits n r un cu).1) ((d_X3_readUnits n r un cu).2)) n ((d_X3_readUnits n r un cu).1) ((d_X3_readUnits n r un cu).2))]) rfl ?_
        refine pm_istore B dX3_bySteps_73 rfl rfl ?_
        refine pm_loc (L' := [some (.ref (z + 131)), none, some (.int (nI i)), some (.int a3_1), some (.int a4_2), some (.int a5_2), some (.int (nI j2)), some (.int (d_X3_nextLevel a5_2 n ((d_X3_readUnits n r un cu).1) ((d_X3_readUnits n r un cu).2))), some (.int (d_X3_bearersOf (d_X3_nextLevel a5_2 n ((d_X3_readUnits n r un cu).1) ((d_X3_readUnits n r un cu).2)) n ((d_X3_readUnits n r un cu).1) ((d_X3_readUnits n r un cu).2)))]) rfl ?_
        refine pm_iload B dX3_bySteps_75 rfl ?_
        refine pm_if_le (tgt := 95) B dX3_bySteps_77 (by decide) (fun hq10 => ?_) (fun hq10 => ?_)
        · refine pm_iload B dX3_bySteps_95 rfl ?_
          refine pm_istore B dX3_bySteps_97 rfl rfl ?_
          refine pm_loc (L' := [some (.ref (z + 131)), none, some (.int (nI i)), some (.int a3_1), some (.int a4_2), some (.int (d_X3_nextLevel a5_2 n ((d_X3_readUnits n r un cu).1) ((d_X3_readUnits n r un cu).2))), some (.int (nI j2)), some (.int (d_X3_nextLevel a5_2 n ((d_X3_readUnits n r un cu).1) ((d_X3_readUnits n r un cu).2))), some (.int (d_X3_bearersOf (d_X3_nextLevel a5_2 n ((d_X3_readUnits n r un cu).1) ((d_X3_readUnits n r un cu).2)) n ((d_X3_readUnits n r un cu).1) ((d_X3_readUnits n r un cu).2)))]) rfl ?_
          refine pm_iinc B dX3_bySteps_99 rfl rfl rfl ?_
          refine pm_loc (L' := [some (.ref (z + 131)), none, some (.int (nI i)), some (.int a3_1), some (.int a4_2), some (.int (d_X3_nextLevel a5_2 n ((d_X3_readUnits n r un cu).1) ((d_X3_readUnits n r un cu).2))), some (.int (nI (j2 + 1))), some (.int (d_X3_nextLevel a5_2 n ((d_X3_readUnits n r un cu).1) ((d_X3_readUnits n r un cu).2))), some (.int (d_X3_bearersOf (d_X3_nextLevel a5_2 n ((d_X3_readUnits n r un cu).1) ((d_X3_readUnits n r un cu).2)) n ((d_X3_readUnits n r un cu).1) ((d_X3_readUnits n r un cu).2)))]) (by rw [show ((nI j2) : Int32) + Int32.ofInt 1 = (nI (j2 + 1)) from nI_1 _]; rfl) ?_
          refine pm_goto (tgt := 39) B dX3_bySteps_102 (by decide) ?_
          refine pm_wk (L' := [some (.ref (z + 131)), none, some (.int (nI i)), some (.int a3_1), some (.int a4_2), some (.int (d_X3_nextLevel a5_2 n ((d_X3_readUnits n r un cu).1) ((d_X3_readUnits n r un cu).2))), some (.int (nI (j2 + 1))), none, none]) ⟨rfl, ⟨rfl, ⟨rfl, ⟨rfl, ⟨rfl, ⟨rfl, trivial⟩⟩⟩⟩⟩⟩ ?_
          have hDq11 : (K2 ((d_X3_bySteps_L2 i n r un cu a3_1 (k2 + 1) j2 a4_2 a5_2).1) ((d_X3_bySteps_L2 i n r un cu a3_1 (k2 + 1) j2 a4_2 a5_2).2)) = (K2 ((d_X3_bySteps_L2 i n r un cu a3_1 k2 (j2 + 1) a4_2 (d_X3_nextLevel a5_2 n ((d_X3_readUnits n r un cu).1) ((d_X3_readUnits n r un cu).2))).1) ((d_X3_bySteps_L2 i n r un cu a3_1 k2 (j2 + 1) a4_2 (d_X3_nextLevel a5_2 n ((d_X3_readUnits n r un cu).1) ((d_X3_readUnits n r un cu).2))).2)) := by rw [d_X3_bySteps_L2, if_neg hq8, if_pos hq10]
          refine pm_pst (post' := pm_rt (some (.int ((K2 ((d_X3_bySteps_L2 i n r un cu a3_1 k2 (j2 + 1) a4_2 (d_X3_nextLevel a5_2 n ((d_X3_readUnits n r un cu).1) ((d_X3_readUnits n r un cu).2))).1) ((d_X3_bySteps_L2 i n r un cu a3_1 k2 (j2 + 1) a4_2 (d_X3_nextLevel a5_2 n ((d_X3_readUnits n r un cu).1) ((d_X3_readUnits n r un cu).2))).2)).1))) nx (pm_up (pm_up M 132 (.inl (kA 0, 7, .inl ((K2 ((d_X3_bySteps_L2 i n r un cu a3_1 k2 (j2 + 1) a4_2 (d_X3_nextLevel a5_2 n ((d_X3_readUnits n r un cu).1) ((d_X3_readUnits n r un cu).2))).1) ((d_X3_bySteps_L2 i n r un cu a3_1 k2 (j2 + 1) a4_2 (d_X3_nextLevel a5_2 n ((d_X3_readUnits n r un cu).1) ((d_X3_readUnits n r un cu).2))).2)).2.1)))) 131 (.inr (1, [.ref (z + 132), .int (((K2 ((d_X3_bySteps_L2 i n r un cu a3_1 k2 (j2 + 1) a4_2 (d_X3_nextLevel a5_2 n ((d_X3_readUnits n r un cu).1) ((d_X3_readUnits n r un cu).2))).1) ((d_X3_bySteps_L2 i n r un cu a3_1 k2 (j2 + 1) a4_2 (d_X3_nextLevel a5_2 n ((d_X3_readUnits n r un cu).1) ((d_X3_readUnits n r un cu).2))).2)).2.2) 1)])))) (by rw [hDq11]) ?_
          exact ih2 (j2 + 1) (by omega) a4_2 (d_X3_nextLevel a5_2 n ((d_X3_readUnits n r un cu).1) ((d_X3_readUnits n r un cu).2))
        · refine pm_iload B dX3_bySteps_80 rfl ?_
          refine pm_iload B dX3_bySteps_82 rfl ?_
          refine pm_iload B dX3_bySteps_84 rfl ?_
          refine pm_isub B dX3_bySteps_86 ?_
          refine pm_iload_n B dX3_bySteps_87 rfl ?_
          refine pm_iload B dX3_bySteps_88 rfl ?_
          refine pm_idiv B dX3_bySteps_90 (by first | decide | assumption | exact pm_le_ne (by assumption)) ?_
          refine pm_imul B dX3_bySteps_91 ?_
          refine pm_iadd B dX3_bySteps_92 ?_
          refine pm_istore B dX3_bySteps_93 rfl rfl ?_
          refine pm_loc (L' := [some (.ref (z + 131)), none, some (.int (nI i)), some (.int a3_1), some (.int (a4_2 + (((d_X3_nextLevel a5_2 n ((d_X3_readUnits n r un cu).1) ((d_X3_readUnits n r un cu).2)) - a5_2) * (a3_1 / (d_X3_bearersOf (d_X3_nextLevel a5_2 n ((d_X3_readUnits n r un cu).1) ((d_X3_readUnits n r un cu).2)) n ((d_X3_readUnits n r un cu).1) ((d_X3_readUnits n r un cu).2)))))), some (.int a5_2), some (.int (nI j2)), some (.int (d_X3_nextLevel a5_2 n ((d_X3_readUnits n r un cu).1) ((d_X3_readUnits n r un cu).2))), some (.int (d_X3_bearersOf (d_X3_nextLevel a5_2 n ((d_X3_readUnits n r un cu).1) ((d_X3_readUnits n r un cu).2)) n ((d_X3_readUnits n r un cu).1) ((d_X3_readUnits n r un cu).2)))]) rfl ?_
          refine pm_iload B dX3_bySteps_95 rfl ?_
          refine pm_istore B dX3_bySteps_97 rfl rfl ?_
          refine pm_loc (L' := [some (.ref (z + 131)), none, some (.int (nI i)), some (.int a3_1), some (.int (a4_2 + (((d_X3_nextLevel a5_2 n ((d_X3_readUnits n r un cu).1) ((d_X3_readUnits n r un cu).2)) - a5_2) * (a3_1 / (d_X3_bearersOf (d_X3_nextLevel a5_2 n ((d_X3_readUnits n r un cu).1) ((d_X3_readUnits n r un cu).2)) n ((d_X3_readUnits n r un cu).1) ((d_X3_readUnits n r un cu).2)))))), some (.int (d_X3_nextLevel a5_2 n ((d_X3_readUnits n r un cu).1) ((d_X3_readUnits n r un cu).2))), some (.int (nI j2)), some (.int (d_X3_nextLevel a5_2 n ((d_X3_readUnits n r un cu).1) ((d_X3_readUnits n r un cu).2))), some (.int (d_X3_bearersOf (d_X3_nextLevel a5_2 n ((d_X3_readUnits n r un cu).1) ((d_X3_readUnits n r un cu).2)) n ((d_X3_readUnits n r un cu).1) ((d_X3_readUnits n r un cu).2)))]) rfl ?_
          refine pm_iinc B dX3_bySteps_99 rfl rfl rfl ?_
          refine pm_loc (L' := [some (.ref (z + 131)), none, some (.int (nI i)), some (.int a3_1), some (.int (a4_2 + (((d_X3_nextLevel a5_2 n ((d_X3_readUnits n r un cu).1) ((d_X3_readUnits n r un cu).2)) - a5_2) * (a3_1 / (d_X3_bearersOf (d_X3_nextLevel a5_2 n ((d_X3_readUnits n r un cu).1) ((d_X3_readUnits n r un cu).2)) n ((d_X3_readUnits n r un cu).1) ((d_X3_readUnits n r un cu).2)))))), some (.int (d_X3_nextLevel a5_2 n ((d_X3_readUnits n r un cu).1) ((d_X3_readUnits n r un cu).2))), some (.int (nI (j2 + 1))), some (.int (d_X3_nextLevel a5_2 n ((d_X3_readUnits n r un cu).1) ((d_X3_readUnits n r un cu).2))), some (.int (d_X3_bearersOf (d_X3_nextLevel a5_2 n ((d_X3_readUnits n r un cu).1) ((d_X3_readUnits n r un cu).2)) n ((d_X3_readUnits n r un cu).1) ((d_X3_readUnits n r un cu).2)))]) (by rw [show ((nI j2) : Int32) + Int32.ofInt 1 = (nI (j2 + 1)) from nI_1 _]; rfl) ?_
          refine pm_goto (tgt := 39) B dX3_bySteps_102 (by decide) ?_
          refine pm_wk (L' := [some (.ref (z + 131)), none, some (.int (nI i)), some (.int a3_1), some (.int (a4_2 + (((d_X3_nextLevel a5_2 n ((d_X3_readUnits n r un cu).1) ((d_X3_readUnits n r un cu).2)) - a5_2) * (a3_1 / (d_X3_bearersOf (d_X3_nextLevel a5_2 n ((d_X3_readUnits n r un cu).1) ((d_X3_readUnits n r un cu).2)) n ((d_X3_readUnits n r un cu).1) ((d_X3_readUnits n r un cu).2)))))), some (.int (d_X3_nextLevel a5_2 n ((d_X3_readUnits n r un cu).1) ((d_X3_readUnits n r un cu).2))), some (.int (nI (j2 + 1))), none, none]) ⟨rfl, ⟨rfl, ⟨rfl, ⟨rfl, ⟨rfl, ⟨rfl, trivial⟩⟩⟩⟩⟩⟩ ?_
          have hDq12 : (K2 ((d_X3_bySteps_L2 i n r un cu a3_1 (k2 + 1) j2 a4_2 a5_2).1) ((d_X3_bySteps_L2 i n r un cu a3_1 (k2 + 1) j2 a4_2 a5_2).2)) = (K2 ((d_X3_bySteps_L2 i n r un cu a3_1 k2 (j2 + 1) (a4_2 + (((d_X3_nextLevel a5_2 n ((d_X3_readUnits n r un cu).1) ((d_X3_readUnits n r un cu).2)) - a5_2) * (a3_1 / (d_X3_bearersOf (d_X3_nextLevel a5_2 n ((d_X3_readUnits n r un cu).1) ((d_X3_readUnits n r un cu).2)) n ((d_X3_readUnits n r un cu).1) ((d_X3_readUnits n r un cu).2))))) (d_X3_nextLevel a5_2 n ((d_X3_readUnits n r un cu).1) ((d_X3_readUnits n r un cu).2))).1) ((d_X3_bySteps_L2 i n r un cu a3_1 k2 (j2 + 1) (a4_2 + (((d_X3_nextLevel a5_2 n ((d_X3_readUnits n r un cu).1) ((d_X3_readUnits n r un cu).2)) - a5_2) * (a3_1 / (d_X3_bearersOf (d_X3_nextLevel a5_2 n ((d_X3_readUnits n r un cu).1) ((d_X3_readUnits n r un cu).2)) n ((d_X3_readUnits n r un cu).1) ((d_X3_readUnits n r un cu).2))))) (d_X3_nextLevel a5_2 n ((d_X3_readUnits n r un cu).1) ((d_X3_readUnits n r un cu).2))).2)) := by rw [d_X3_bySteps_L2, if_neg hq8, if_neg hq10]
          refine pm_pst (post' := pm_rt (some (.int ((K2 ((d_X3_bySteps_L2 i n r un cu a3_1 k2 (j2 + 1) (a4_2 + (((d_X3_nextLevel a5_2 n ((d_X3_readUnits n r un cu).1) ((d_X3_readUnits n r un cu).2)) - a5_2) * (a3_1 / (d_X3_bearersOf (d_X3_nextLevel a5_2 n ((d_X3_readUnits n r un cu).1) ((d_X3_readUnits n r un cu).2)) n ((d_X3_readUnits n r un cu).1) ((d_X3_readUnits n r un cu).2))))) (d_X3_nextLevel a5_2 n ((d_X3_readUnits n r un cu).1) ((d_X3_readUnits n r un cu).2))).1) ((d_X3_bySteps_L2 i n r un cu a3_1 k2 (j2 + 1) (a4_2 + (((d_X3_nextLevel a5_2 n ((d_X3_readUnits n r un cu).1) ((d_X3_readUnits n r un cu).2)) - a5_2) * (a3_1 / (d_X3_bearersOf (d_X3_nextLevel a5_2 n ((d_X3_readUnits n r un cu).1) ((d_X3_readUnits n r un cu).2)) n ((d_X3_readUnits n r un cu).1) ((d_X3_readUnits n r un cu).2))))) (d_X3_nextLevel a5_2 n ((d_X3_readUnits n r un cu).1) ((d_X3_readUnits n r un cu).2))).2)).1))) nx (pm_up (pm_up M 132 (.inl (kA 0, 7, .inl ((K2 ((d_X3_bySteps_L2 i n r un cu a3_1 k2 (j2 + 1) (a4_2 + (((d_X3_nextLevel a5_2 n ((d_X3_readUnits n r un cu).1) ((d_X3_readUnits n r un cu).2)) - a5_2) * (a3_1 / (d_X3_bearersOf (d_X3_nextLevel a5_2 n ((d_X3_readUnits n r un cu).1) ((d_X3_readUnits n r un cu).2)) n ((d_X3_readUnits n r un cu).1) ((d_X3_readUnits n r un cu).2))))) (d_X3_nextLevel a5_2 n ((d_X3_readUnits n r un cu).1) ((d_X3_readUnits n r un cu).2))).1) ((d_X3_bySteps_L2 i n r un cu a3_1 k2 (j2 + 1) (a4_2 + (((d_X3_nextLevel a5_2 n ((d_X3_readUnits n r un cu).1) ((d_X3_readUnits n r un cu).2)) - a5_2) * (a3_1 / (d_X3_bearersOf (d_X3_nextLevel a5_2 n ((d_X3_readUnits n r un cu).1) ((d_X3_readUnits n r un cu).2)) n ((d_X3_readUnits n r un cu).1) ((d_X3_readUnits n r un cu).2))))) (d_X3_nextLevel a5_2 n ((d_X3_readUnits n r un cu).1) ((d_X3_readUnits n r un cu).2))).2)).2.1)))) 131 (.inr (1, [.ref (z + 132), .int (((K2 ((d_X3_bySteps_L2 i n r un cu a3_1 k2 (j2 + 1) (a4_2 + (((d_X3_nextLevel a5_2 n ((d_X3_readUnits n r un cu).1) ((d_X3_readUnits n r un cu).2)) - a5_2) * (a3_1 / (d_X3_bearersOf (d_X3_nextLevel a5_2 n ((d_X3_readUnits n r un cu).1) ((d_X3_readUnits n r un cu).2)) n ((d_X3_readUnits n r un cu).1) ((d_X3_readUnits n r un cu).2))))) (d_X3_nextLevel a5_2 n ((d_X3_readUnits n r un cu).1) ((d_X3_readUnits n r un cu).2))).1) ((d_X3_bySteps_L2 i n r un cu a3_1 k2 (j2 + 1) (a4_2 + (((d_X3_nextLevel a5_2 n ((d_X3_readUnits n r un cu).1) ((d_X3_readUnits n r un cu).2)) - a5_2) * (a3_1 / (d_X3_bearersOf (d_X3_nextLevel a5_2 n ((d_X3_readUnits n r un cu).1) ((d_X3_readUnits n r un cu).2)) n ((d_X3_readUnits n r un cu).1) ((d_X3_readUnits n r un cu).2))))) (d_X3_nextLevel a5_2 n ((d_X3_readUnits n r un cu).1) ((d_X3_readUnits n r un cu).2))).2)).2.2) 1)])))) (by rw [hDq12]) ?_
          exact ih2 (j2 + 1) (by omega) (a4_2 + (((d_X3_nextLevel a5_2 n ((d_X3_readUnits n r un cu).1) ((d_X3_readUnits n r un cu).2)) - a5_2) * (a3_1 / (d_X3_bearersOf (d_X3_nextLevel a5_2 n ((d_X3_readUnits n r un cu).1) ((d_X3_readUnits n r un cu).2)) n ((d_X3_readUnits n r un cu).1) ((d_X3_readUnits n r un cu).2))))) (d_X3_nextLevel a5_2 n ((d_X3_readUnits n r un cu).1) ((d_X3_readUnits n r un cu).2))
  refine pm_pst (post' := pm_rt (some (.int ((((d_X3_bySteps_L2 i n r un cu a3_1 n 0 0 0).1), ((d_X3_readUnits n r un cu).1), ((d_X3_readUnits n r un cu).2)).1))) nx (pm_up (pm_up M 132 (.inl (kA 0, 7, .inl ((((d_X3_bySteps_L2 i n r un cu a3_1 n 0 0 0).1), ((d_X3_readUnits n r un cu).1), ((d_X3_readUnits n r un cu).2)).2.1)))) 131 (.inr (1, [.ref (z + 132), .int (((((d_X3_bySteps_L2 i n r un cu a3_1 n 0 0 0).1), ((d_X3_readUnits n r un cu).1), ((d_X3_readUnits n r un cu).2)).2.2) 1)])))) (by rw [show ((((d_X3_bySteps_L2 i n r un cu a3_1 n 0 0 0).1), ((d_X3_readUnits n r un cu).1), ((d_X3_readUnits n r un cu).2))) = (((d_X3_bySteps_L2 i n r un cu a3_1 n 0 0 0).1), ((d_X3_readUnits n r un cu).1), ((d_X3_readUnits n r un cu).2)) from rfl]) ?_
  refine loop2 (fun (a4_2 : Int32) (a5_2 : Int32) => (a4_2, ((d_X3_readUnits n r un cu).1), ((d_X3_readUnits n r un cu).2))) ?_ n 0 (by omega) 0 0
  intro a4_2 a5_2
  refine pm_pst (post' := pm_rt (some (.int ((a4_2, ((d_X3_readUnits n r un cu).1), ((d_X3_readUnits n r un cu).2)).1))) nx (pm_up (pm_up M 132 (.inl (kA 0, 7, .inl ((a4_2, ((d_X3_readUnits n r un cu).1), ((d_X3_readUnits n r un cu).2)).2.1)))) 131 (.inr (1, [.ref (z + 132), .int (((a4_2, ((d_X3_readUnits n r un cu).1), ((d_X3_readUnits n r un cu).2)).2.2) 1)])))) rfl ?_
  refine pm_iload B dX3_bySteps_105 rfl ?_
  have hDq13 : ((a4_2, ((d_X3_readUnits n r un cu).1), ((d_X3_readUnits n r un cu).2))) = (a4_2, ((d_X3_readUnits n r un cu).1), ((d_X3_readUnits n r un cu).2)) := rfl
  exact pm_ireturn B dX3_bySteps_107 rfl (by first | rfl | (apply pm_nz; first | assumption | decide | exact pm_in01 _ _ _ | simp)) ⟨rfl, rfl, rfl⟩ rfl rfl
def d_X3_soS_L1 (i : Nat) (s : Int32) (g : Int32) (o : Int32) (R : Int32 → Int32 → Int32 → Int32) (un : Nat → Int32) : Nat → Nat → Int32 → Int32
  | 0, _, a6_1 => a6_1
  | k1 + 1, j1, a6_1 => if ((s >>> ((nI j1) &&& 31)) &&& 1) = 0 then (if (nI j1) = (nI i) then (d_X3_soS_L1 i s g o R un k1 (j1 + 1) (a6_1 + (R (s ||| (1 <<< ((nI j1) &&& 31))) (pm_max g (un j1)) ((pm_max g (un j1)) - g)))) else (d_X3_soS_L1 i s g o R un k1 (j1 + 1) (a6_1 + (R (s ||| (1 <<< ((nI j1) &&& 31))) (pm_max g (un j1)) o)))) else (d_X3_soS_L1 i s g o R un k1 (j1 + 1) a6_1)
def d_X3_soS (i : Nat) (dp : Nat) (s : Int32) (g : Int32) (o : Int32) (R : Int32 → Int32 → Int32 → Int32) (n : Nat) (un : Nat → Int32) (cu : Nat → Int32) : Int32 := if (nI dp) < (nI n) then (d_X3_soS_L1 i s g o R un n 0 0) else o
set_option maxRecDepth 100000 in
set_option maxHeartbeats 8000000 in
theorem c_X3_sumOverOrdersS {l : Launch} {z : Nat} {D : va_G} {kA : Nat → ClassId} {kE : Nat → Nat} {nx : Nat} {M : pm_M} {i : Nat} {dp : Nat} {s : Int32} {g : Int32} {o : Int32} {R : Int32 → Int32 → Int32 → Int32} {n : Nat} {k : Nat} {un : Nat → Int32} {cu : Nat → Int32} (hun : M 132 = some (.inl (kA 0, 7, .inl un))) (hcu : M 131 = some (.inr (1, [.ref (z + 132), .int (cu 1)]))) (hcn : cu 1 = nI n) (h7 : n ≤ 7) (hi : i < n) (hdp : dp ≤ n) (hR : dp < n → ∀ s g o, pm_C l z D kA kE yX3_sumOverOrders cX3_sumOverOrders 10 (some .int) k 0 0 [.ref (z + 131), .int (nI i), .int (nI (dp + 1)), .int s, .int g, .int o] nx M (pm_rt (some (.int (R s g o))) nx M)) : pm_C l z D kA kE yX3_sumOverOrders cX3_sumOverOrders 10 (some .int) (k + 1) 0 0 [.ref (z + 131), .int (nI i), .int (nI dp), .int s, .int g, .int o] nx M (pm_rt (some (.int (d_X3_soS i dp s g o R n un cu))) nx M) := by
  refine pm_mk (own := RX3) (nm := "sumOverOrders") mt_X3_sumOverOrders rfl rfl rfl rfl fun X B => ?_
  refine pm_loc (L' := [some (.ref (z + 131)), some (.int (nI i)), some (.int (nI dp)), some (.int s), some (.int g), some (.int o), none, none, none, none]) rfl ?_
  refine pm_iload_n B dX3_sumOverOrders_0 rfl ?_
  refine pm_aload_n B dX3_sumOverOrders_1 rfl ?_
  refine pm_get B dX3_sumOverOrders_2 fl_X3_23 hcu rfl ?_
  refine pm_stk (st' := [.int (cu 1), .int (nI dp)]) rfl ?_
  refine pm_stk (st' := [.int (nI n), .int (nI dp)]) (by rw [show (cu 1) = (nI n) from by rw [hcn]]) ?_
  refine pm_icmp_lt (tgt := 11) B dX3_sumOverOrders_5 (by decide) (fun hq1 => ?_) (fun hq1 => ?_)
  · have hdn : dp < n := (nI_ltI (by omega) (by omega)).mp hq1
    refine pm_iconst (v := 0) B dX3_sumOverOrders_11 (by decide) ?_
    refine pm_istore B dX3_sumOverOrders_12 rfl rfl ?_
    refine pm_loc (L' := [some (.ref (z + 131)), some (.int (nI i)), some (.int (nI dp)), some (.int s), some (.int g), some (.int o), some (.int 0), none, none, none]) rfl ?_
    refine pm_iconst (v := 0) B dX3_sumOverOrders_14 (by decide) ?_
    refine pm_istore B dX3_sumOverOrders_15 rfl rfl ?_
    refine pm_loc (L' := [some (.ref (z + 131)), some (.int (nI i)), some (.int (nI dp)), some (.int s), some (.int g), some (.int o), some (.int 0), some (.int 0), none, none]) rfl ?_
    refine pm_loc (L' := [some (.ref (z + 131)), some (.int (nI i)), some (.int (nI dp)), some (.int s), some (.int g), some (.int o), some (.int 0), some (.int (nI 0)), none, none]) rfl ?_
    have loop1 : ∀ (K1 : (Int32 → Int32)), (∀ (a6_1 : Int32), pm_G l z D X 0 0 (pm_Q z D (pm_rt (some (.int (K1 a6_1))) nx M) 0 0 X) nx M 96 [none, none, none, none, none, none, some (.int a6_1), none, none, none] []) → ∀ (k1 j1 : Nat), j1 + k1 = n → ∀ (a6_1 : Int32), pm_G l z D X 0 0 (pm_Q z D (pm_rt (some (.int (K1 (d_X3_soS_L1 i s g o R un k1 j1 a6_1)))) nx M) 0 0 X) nx M 17 [some (.ref (z + 131)), some (.int (nI i)), some (.int (nI dp)), some (.int s), some (.int g), some (.int o), some (.int a6_1), some (.int (nI j1)), none, none] [] := by
      intro K1 hK1 k1
      induction k1 with
      | zero =>
        intro j1 hj1 a6_1
        have hjn1 : j1 = n := by omega
        refine pm_iload B dX3_sumOverOrders_17 rfl ?_
        refine pm_aload_n B dX3_sumOverOrders_19 rfl ?_
        refine pm_get B dX3_sumOverOrders_20 fl_X3_23 hcu rfl ?_
        refine pm_stk (st' := [.int (cu 1), .int (nI j1)]) rfl ?_
        refine pm_stk (st' := [.int (nI n), .int (nI j1)]) (by rw [show (cu 1) = (nI n) from by rw [hcn]]) ?_
        refine pm_icmp_ge (tgt := 96) B dX3_sumOverOrders_23 (by decide) (fun hq2 => ?_) (fun hq2 => absurd ((nI_leI (by first | omega | decide) (by first | omega | decide)).mpr (by omega)) hq2)
        refine pm_wk (L' := [none, none, none, none, none, none, some (.int a6_1), none, none, none]) ⟨rfl, trivial⟩ ?_
        have hDq3 : (K1 (d_X3_soS_L1 i s g o R un 0 j1 a6_1)) = (K1 a6_1) := by rw [d_X3_soS_L1]
        refine pm_pst (post' := pm_rt (some (.int (K1 a6_1))) nx M) (by rw [hDq3]) ?_
        exact hK1 a6_1
      | succ k1 ih1 =>
        intro j1 hj1 a6_1
        have hjn1 : j1 < n := by omega
        refine pm_iload B dX3_sumOverOrders_17 rfl ?_
        refine pm_aload_n B dX3_sumOverOrders_19 rfl ?_
        refine pm_get B dX3_sumOverOrders_20 fl_X3_23 hcu rfl ?_
        refine pm_stk (st' := [.int (cu 1), .int (nI j1)]) rfl ?_
        refine pm_stk (st' := [.int (nI n), .int (nI j1)]) (by rw [show (cu 1) = (nI n) from by rw [hcn]]) ?_
        refine pm_icmp_ge (tgt := 96) B dX3_sumOverOrders_23 (by decide) (fun hq4 => absurd hq4 (fun e => absurd ((nI_leI (by first | omega | decide) (by first | omega | decide)).mp e) (by omega))) (fun hq4 => ?_)
        refine pm_iload_n B dX3_sumOverOrders_26 rfl ?_
        refine pm_iload B dX3_sumOverOrders_27 rfl ?_
        refine pm_ishr B dX3_sumOverOrders_29 ?_
        refine pm_iconst (v := 1) B dX3_sumOverOrders_30 (by decide) ?_
        refine pm_iand B dX3_sumOverOrders_31 ?_
        refine pm_if_ne (tgt := 90) B dX3_sumOverOrders_32 (by decide) (fun hq5 => ?_) (fun hq5 => ?_)
        · refine pm_iinc B dX3_sumOverOrders_90 rfl rfl rfl ?_
          refine pm_loc (L' := [some (.ref (z + 131)), some (.int (nI i)), some (.int (nI dp)), some (.int s), some (.int g), some (.int o), some (.int a6_1), some (.int (nI (j1 + 1))), none, none]) (by rw [show ((nI j1) : Int32) + Int32.ofInt 1 = (nI (j1 + 1)) from nI_1 _]; rfl) ?_
          refine pm_goto (tgt := 17) B dX3_sumOverOrders_93 (by decide) ?_
          have hDq6 : (K1 (d_X3_soS_L1 i s g o R un (k1 + 1) j1 a6_1)) = (K1 (d_X3_soS_L1 i s g o R un k1 (j1 + 1) a6_1)) := by rw [d_X3_soS_L1, if_neg hq5]
          refine pm_pst (post' := pm_rt (some (.int (K1 (d_X3_soS_L1 i s g o R un k1 (j1 + 1) a6_1)))) nx M) (by rw [hDq6]) ?_
          exact ih1 (j1 + 1) (by omega) a6_1
        · refine pm_iload B dX3_sumOverOrders_35 rfl ?_
          refine pm_aload_n B dX3_sumOverOrders_37 rfl ?_
          refine pm_get B dX3_sumOverOrders_38 fl_X3_9 hcu rfl ?_
          refine pm_iload B dX3_sumOverOrders_41 rfl ?_
          refine pm_iald_n B dX3_sumOverOrders_43 hun j1 (by first | assumption | omega) (by decide) ?_
          refine pm_mmax B dX3_sumOverOrders_44 (pm_T_in 1158 (by decide +kernel) (by decide +kernel)) rfl rfl rfl rfl ?_
          refine pm_istore B dX3_sumOverOrders_47 rfl rfl ?_
          refine pm_loc (L' := [some (.ref (z + 131)), some (.int (nI i)), some (.int (nI dp)), some (.int s), some (.int g), some (.int o), some (.int a6_1), some (.int (nI j1)), some (.int (pm_max g (un j1))), none]) rfl ?_
          refine pm_iload B dX3_sumOverOrders_49 rfl ?_
          refine pm_iload_n B dX3_sumOverOrders_51 rfl ?_
          refine pm_icmp_ne (tgt := 63) B dX3_sumOverOrders_52 (by decide) (fun hq7 => ?_) (fun hq7 => ?_)
          · refine pm_iload B dX3_sumOverOrders_63 rfl ?_
            refine pm_istore B dX3_sumOverOrders_65 rfl rfl ?_
            refine pm_loc (L' := [some (.ref (z + 131)), some (.int (nI i)), some (.int (nI dp)), some (.int s), some (.int g), some (.int o), some (.int a6_1), some (.int (nI j1)), some (.int (pm_max g (un j1))), some (.int o)]) rfl ?_
            refine pm_iload B dX3_sumOverOrders_67 rfl ?_
            refine pm_aload_n B dX3_sumOverOrders_69 rfl ?_
            refine pm_iload_n B dX3_sumOverOrders_70 rfl ?_
            refine pm_iload_n B dX3_sumOverOrders_71 rfl ?_
            refine pm_iconst (v := 1) B dX3_sumOverOrders_72 (by decide) ?_
            refine pm_iadd B dX3_sumOverOrders_73 ?_
            refine pm_stk (st' := [.int (nI (dp + 1)), .int (nI i), .ref (z + 131), .int a6_1]) (by rw [show ((nI dp) + 1) = (nI (dp + 1)) from nI_1 dp]) ?_
            refine pm_iload_n B dX3_sumOverOrders_74 rfl ?_
            refine pm_iconst (v := 1) B dX3_sumOverOrders_75 (by decide) ?_
            refine pm_iload B dX3_sumOverOrders_76 rfl ?_
            refine pm_ishl B dX3_sumOverOrders_78 ?_
            refine pm_ior B dX3_sumOverOrders_79 ?_
            refine pm_iload B dX3_sumOverOrders_80 rfl ?_
            refine pm_iload B dX3_sumOverOrders_82 rfl ?_
            refine pm_cS (As := [.ref (z + 131), .int (nI i), .int (nI (dp + 1)), .int (s ||| (1 <<< ((nI j1) &&& 31))), .int (pm_max g (un j1)), .int o]) (mc2 := 0) (ms2 := 0) (d2 := k) B (hR hdn (s ||| (1 <<< ((nI j1) &&& 31))) (pm_max g (un j1)) o) mt_X3_sumOverOrders ss_X3_19 dX3_sumOverOrders_84 rfl (by simp) rfl rfl rfl ?_
            refine pm_stk (st' := [.int (R (s ||| (1 <<< ((nI j1) &&& 31))) (pm_max g (un j1)) o), .int a6_1]) rfl ?_
            refine pm_iadd B dX3_sumOverOrders_87 ?_
            refine pm_istore B dX3_sumOverOrders_88 rfl rfl ?_
            refine pm_loc (L' := [some (.ref (z + 131)), some (.int (nI i)), some (.int (nI dp)), some (.int s), some (.int g), some (.int o), some (.int (a6_1 + (R (s ||| (1 <<< ((nI j1) &&& 31))) (pm_max g (un j1)) o))), some (.int (nI j1)), some (.int (pm_max g (un j1))), some (.int o)]) rfl ?_
            refine pm_iinc B dX3_sumOverOrders_90 rfl rfl rfl ?_
            refine pm_loc (L' := [some (.ref (z + 131)), some (.int (nI i)), some (.int (nI dp)), some (.int s), some (.int g), some (.int o), some (.int (a6_1 + (R (s ||| (1 <<< ((nI j1) &&& 31))) (pm_max g (un j1)) o))), some (.int (nI (j1 + 1))), some (.int (pm_max g (un j1))), some (.int o)]) (by rw [show ((nI j1) : Int32) + Int32.ofInt 1 = (nI (j1 + 1)) from nI_1 _]; rfl) ?_
            refine pm_goto (tgt := 17) B dX3_sumOverOrders_93 (by decide) ?_
            refine pm_wk (L' := [some (.ref (z + 131)), some (.int (nI i)), some (.int (nI dp)), some (.int s), some (.int g), some (.int o), some (.int (a6_1 + (R (s ||| (1 <<< ((nI j1) &&& 31))) (pm_max g (un j1)) o))), some (.int (nI (j1 + 1))), none, none]) ⟨rfl, ⟨rfl, ⟨rfl, ⟨rfl, ⟨rfl, ⟨rfl, ⟨rfl, ⟨rfl, trivial⟩⟩⟩⟩⟩⟩⟩⟩ ?_
            have hDq8 : (K1 (d_X3_soS_L1 i s g o R un (k1 + 1) j1 a6_1)) = (K1 (d_X3_soS_L1 i s g o R un k1 (j1 + 1) (a6_1 + (R (s ||| (1 <<< ((nI j1) &&& 31))) (pm_max g (un j1)) o)))) := by rw [d_X3_soS_L1, if_pos hq5, if_neg hq7]
            refine pm_pst (post' := pm_rt (some (.int (K1 (d_X3_soS_L1 i s g o R un k1 (j1 + 1) (a6_1 + (R (s ||| (1 <<< ((nI j1) &&& 31))) (pm_max g (un j1)) o)))))) nx M) (by rw [hDq8]) ?_
            exact ih1 (j1 + 1) (by omega) (a6_1 + (R (s ||| (1 <<< ((nI j1) &&& 31))) (pm_max g (un j1)) o))
          · refine pm_iload B dX3_sumOverOrders_55 rfl ?_
            refine pm_iload B dX3_sumOverOrders_57 rfl ?_
            refine pm_isub B dX3_sumOverOrders_59 ?_
            refine pm_goto (tgt := 65) B dX3_sumOverOrders_60 (by decide) ?_
            refine pm_istore B dX3_sumOverOrders_65 rfl rfl ?_
            refine pm_loc (L' := [some (.ref (z + 131)), some (.int (nI i)), some (.int (nI dp)), some (.int s), some (.int g), some (.int o), some (.int a6_1), some (.int (nI j1)), some (.int (pm_max g (un j1))), some (.int ((pm_max g (un j1)) - g))]) rfl ?_
            refine pm_iload B dX3_sumOverOrders_67 rfl ?_
            refine pm_aload_n B dX3_sumOverOrders_69 rfl ?_
            refine pm_iload_n B dX3_sumOverOrders_70 rfl ?_
            refine pm_iload_n B dX3_sumOverOrders_71 rfl ?_
            refine pm_iconst (v := 1) B dX3_sumOverOrders_72 (by decide) ?_
            refine pm_iadd B dX3_sumOverOrders_73 ?_
            refine pm_stk (st' := [.int (nI (dp + 1)), .int (nI i), .ref (z + 131), .int a6_1]) (by rw [show ((nI dp) + 1) = (nI (dp + 1)) from nI_1 dp]) ?_
            refine pm_iload_n B dX3_sumOverOrders_74 rfl ?_
            refine pm_iconst (v := 1) B dX3_sumOverOrders_75 (by decide) ?_
            refine pm_iload B dX3_sumOverOrders_76 rfl ?_
            refine pm_ishl B dX3_sumOverOrders_78 ?_
            refine pm_ior B dX3_sumOverOrders_79 ?_
            refine pm_iload B dX3_sumOverOrders_80 rfl ?_
            refine pm_iload B dX3_sumOverOrders_82 rfl ?_
            refine pm_cS (As := [.ref (z + 131), .int (nI i), .int (nI (dp + 1)), .int (s ||| (1 <<< ((nI j1) &&& 31))), .int (pm_max g (un j1)), .int ((pm_max g (un j1)) - g)]) (mc2 := 0) (ms2 := 0) (d2 := k) B (hR hdn (s ||| (1 <<< ((nI j1) &&& 31))) (pm_max g (un j1)) ((pm_max g (un j1)) - g)) mt_X3_sumOverOrders ss_X3_19 dX3_sumOverOrders_84 rfl (by simp) rfl rfl rfl ?_
            refine pm_stk (st' := [.int (R (s ||| (1 <<< ((nI j1) &&& 31))) (pm_max g (un j1)) ((pm_max g (un j1)) - g)), .int a6_1]) rfl ?_
            refine pm_iadd B dX3_sumOverOrders_87 ?_
            refine pm_istore B dX3_sumOverOrders_88 rfl rfl ?_
            refine pm_loc (L' := [some (.ref (z + 131)), some (.int (nI i)), some (.int (nI dp)), some (.int s), some (.int g), some (.int o), some (.int (a6_1 + (R (s ||| (1 <<< ((nI j1) &&& 31))) (pm_max g (un j1)) ((pm_max g (un j1)) - g)))), some (.int (nI j1)), some (.int (pm_max g (un j1))), some (.int ((pm_max g (un j1)) - g))]) rfl ?_
            refine pm_iinc B dX3_sumOverOrders_90 rfl rfl rfl ?_
            refine pm_loc (L' := [some (.ref (z + 131)), some (.int (nI i)), some (.int (nI dp)), some (.int s), some (.int g), some (.int o), some (.int (a6_1 + (R (s ||| (1 <<< ((nI j1) &&& 31))) (pm_max g (un j1)) ((pm_max g (un j1)) - g)))), some (.int (nI (j1 + 1))), some (.int (pm_max g (un j1))), some (.int ((pm_max g (un j1)) - g))]) (by rw [show ((nI j1) : Int32) + Int32.ofInt 1 = (nI (j1 + 1)) from nI_1 _]; rfl) ?_
            refine pm_goto (tgt := 17) B dX3_sumOverOrders_93 (by decide) ?_
            refine pm_wk (L' := [some (.ref (z + 131)), some (.int (nI i)), some (.int (nI dp)), some (.int s), some (.int g), some (.int o), some (.int (a6_1 + (R (s ||| (1 <<< ((nI j1) &&& 31))) (pm_max g (un j1)) ((pm_max g (un j1)) - g)))), some (.int (nI (j1 + 1))), none, none]) ⟨rfl, ⟨rfl, ⟨rfl, ⟨rfl, ⟨rfl, ⟨rfl, ⟨rfl, ⟨rfl, trivial⟩⟩⟩⟩⟩⟩⟩⟩ ?_
            have hDq9 : (K1 (d_X3_soS_L1 i s g o R un (k1 + 1) j1 a6_1)) = (K1 (d_X3_soS_L1 i s g o R un k1 (j1 + 1) (a6_1 + (R (s ||| (1 <<< ((nI j1) &&& 31))) (pm_max g (un j1)) ((pm_max g (un j1)) - g))))) := by rw [d_X3_soS_L1, if_pos hq5, if_pos hq7]
            refine pm_pst (post' := pm_rt (some (.int (K1 (d_X3_soS_L1 i s g o R un k1 (j1 + 1) (a6_1 + (R (s ||| (1 <<< ((nI j1) &&& 31))) (pm_max g (un j1)) ((pm_max g (un j1)) - g))))))) nx M) (by rw [hDq9]) ?_
            exact ih1 (j1 + 1) (by omega) (a6_1 + (R (s ||| (1 <<< ((nI j1) &&& 31))) (pm_max g (un j1)) ((pm_max g (un j1)) - g)))
    refine pm_pst (post' := pm_rt (some (.int (d_X3_soS_L1 i s g o R un n 0 0))) nx M) (by rw [show (d_X3_soS i dp s g o R n un cu) = (d_X3_soS_L1 i s g o R un n 0 0) from by rw [d_X3_soS, if_pos hq1]]) ?_
    refine loop1 (fun (a6_1 : Int32) => a6_1) ?_ n 0 (by omega) 0
    intro a6_1
    refine pm_pst (post' := pm_rt (some (.int a6_1)) nx M) rfl ?_
    refine pm_iload B dX3_sumOverOrders_96 rfl ?_
    have hDq10 : (a6_1) = a6_1 := rfl
    exact pm_ireturn B dX3_sumOverOrders_98 rfl (by first | rfl | (apply pm_nz; first | assumption | decide | exact pm_in01 _ _ _ | simp)) ⟨rfl, rfl, rfl⟩ rfl rfl
  · refine pm_iload B dX3_sumOverOrders_8 rfl ?_
    have hDq11 : (d_X3_soS i dp s g o R n un cu) = o := by rw [d_X3_soS, if_neg hq1]
    exact pm_ireturn B dX3_sumOverOrders_10 rfl (by first | rfl | (apply pm_nz; first | assumption | decide | exact pm_in01 _ _ _ | simp)) ⟨(by rw [hDq11]), rfl, rfl⟩ rfl rfl
/-- the orders that go on behind the set s, k places left -/
def d_X3_so (i n : Nat) (un cu : Nat → Int32) : Nat → Nat → Int32 → Int32 → Int32 → Int32
  | 0, _, _, _, o => o
  | k + 1, dp, s, g, o => d_X3_soS i dp s g o (d_X3_so i n un cu k (dp + 1)) n un cu
theorem c_X3_so {l : Launch} {z : Nat} {D : va_G} {kA : Nat → ClassId} {kE : Nat → Nat} {nx : Nat} {M : pm_M} {i n : Nat} {un cu : Nat → Int32} (hun : M 132 = some (.inl (kA 0, 7, .inl un))) (hcu : M 131 = some (.inr (1, [.ref (z + 132), .int (cu 1)]))) (hcn : cu 1 = nI n) (h7 : n ≤ 7) (hi : i < n) :
    ∀ (k dp : Nat) (s g o : Int32), dp + k = n → pm_C l z D kA kE yX3_sumOverOrders cX3_sumOverOrders 10 (some .int) (k + 1) 0 0 [.ref (z + 131), .int (nI i), .int (nI dp), .int s, .int g, .int o] nx M (pm_rt (some (.int (d_X3_so i n un cu k dp s g o))) nx M) := by
  intro k
  induction k with
  | zero =>
    intro dp s g o hk
    refine pm_Cpost (c_X3_sumOverOrdersS (k := 0) (R := fun _ _ _ => 0) hun hcu hcn h7 hi (by omega) (fun h => absurd h (by omega))) fun oc n' M' h => ?_
    have e : (d_X3_soS i dp s g o (fun _ _ _ => 0) n un cu) = o := by unfold d_X3_soS; rw [if_neg (by rw [nI_ltI (by omega) (by omega)]; omega)]
    rw [e] at h
    exact h
  | succ k ih =>
    intro dp s g o hk
    exact c_X3_sumOverOrdersS (k := k + 1) (R := d_X3_so i n un cu k (dp + 1)) hun hcu hcn h7 hi (by omega) (fun h s g o => ih (dp + 1) s g o (by omega))
def d_X3_byOrders (i : Nat) (n : Nat) (r : Nat → Int32) (un : Nat → Int32) (cu : Nat → Int32) : (Int32 × (Nat → Int32) × (Nat → Int32)) := ((d_X3_so i n ((d_X3_readUnits n r un cu).1) ((d_X3_readUnits n r un cu).2) n 0 0 0 0), ((d_X3_readUnits n r un cu).1), ((d_X3_readUnits n r un cu).2))
set_option maxRecDepth 100000 in
set_option maxHeartbeats 8000000 in
theorem c_X3_byOrders {l : Launch} {z : Nat} {D : va_G} {kA : Nat → ClassId} {kE : Nat → Nat} {nx : Nat} {M : pm_M} {i : Nat} {n : Nat} {r : Nat → Int32} {un : Nat → Int32} {cu : Nat → Int32} (hS : pm_SA z kA 2 M r) (hun : M 132 = some (.inl (kA 0, 7, .inl un))) (hcu : M 131 = some (.inr (1, [.ref (z + 132), .int (cu 1)]))) (hn : r 0 = nI n) (h7 : n ≤ 7) (hi : i < n) : pm_C l z D kA kE yX3_byOrders cX3_byOrders 3 (some .int) 10 0 0 [.ref (z + 131), .ref (z + 2), .int (nI i)] nx M (pm_rt (some (.int ((d_X3_byOrders i n r un cu).1))) nx (pm_up (pm_up M 132 (.inl (kA 0, 7, .inl ((d_X3_byOrders i n r un cu).2.1)))) 131 (.inr (1, [.ref (z + 132), .int (((d_X3_byOrders i n r un cu).2.2) 1)])))) := by
  refine pm_mk (own := RX3) (nm := "byOrders") mt_X3_byOrders rfl rfl rfl rfl fun X B => ?_
  refine pm_loc (L' := [some (.ref (z + 131)), some (.ref (z + 2)), some (.int (nI i))]) rfl ?_
  refine pm_mem (M' := pm_up (pm_up M 132 (.inl (kA 0, 7, .inl un))) 131 (.inr (1, [.ref (z + 132), .int (cu 1)]))) (by rw [pm_up_id hun, pm_up_id hcu]) ?_
  refine pm_aload_n B dX3_byOrders_0 rfl ?_
  refine pm_aload_n B dX3_byOrders_1 rfl ?_
  refine pm_cV (As := [.ref (z + 2)]) (mc2 := 0) (ms2 := 0) B rfl pm_up_s rfl (c_X3_readUnits (n := n) (r := r) (un := un) (cu := cu) (pm_SA_up (by omega) (pm_SA_up (by omega) hS)) ((pm_up_n (by omega)).trans pm_up_s) pm_up_s hn (by first | assumption | omega)) mt_X3_readUnits sv_X3_15 dX3_byOrders_2 rfl rfl rfl rfl rfl ?_
  refine pm_mem (M' := pm_up (pm_up M 132 (.inl (kA 0, 7, .inl ((d_X3_readUnits n r un cu).1)))) 131 (.inr (1, [.ref (z + 132), .int (((d_X3_readUnits n r un cu).2) 1)]))) (by rw [pm_up_sw (a := 131) (b := 132) (by omega), pm_up_up (a := 132), pm_up_up (a := 131)] <;> rfl) ?_
  refine pm_stk (st' := []) rfl ?_
  refine pm_aload_n B dX3_byOrders_5 rfl ?_
  refine pm_iload_n B dX3_byOrders_6 rfl ?_
  refine pm_iconst (v := 0) B dX3_byOrders_7 (by decide) ?_
  refine pm_iconst (v := 0) B dX3_byOrders_8 (by decide) ?_
  refine pm_iconst (v := 0) B dX3_byOrders_9 (by decide) ?_
  refine pm_iconst (v := 0) B dX3_byOrders_10 (by decide) ?_
  refine pm_cS (As := [.ref (z + 131), .int (nI i), .int 0, .int 0, .int 0, .int 0]) (mc2 := 0) (ms2 := 0) (d2 := n + 1) B (c_X3_so ((pm_up_n (by omega)).trans pm_up_s) pm_up_s (show ((d_X3_readUnits n r un cu).2) 1 = (nI n) from by rw [(d_X3_readUnits_1 n r un cu hn)]) h7 hi n 0 0 0 0 (by omega)) mt_X3_sumOverOrders ss_X3_19 dX3_byOrders_11 rfl (by simp; omega) rfl rfl rfl ?_
  refine pm_stk (st' := [.int (d_X3_so i n ((d_X3_readUnits n r un cu).1) ((d_X3_readUnits n r un cu).2) n 0 0 0 0)]) rfl ?_
  have hDq1 : (d_X3_byOrders i n r un cu) = ((d_X3_so i n ((d_X3_readUnits n r un cu).1) ((d_X3_readUnits n r un cu).2) n 0 0 0 0), ((d_X3_readUnits n r un cu).1), ((d_X3_readUnits n r un cu).2)) := by rw [d_X3_byOrders]
  exact pm_ireturn B dX3_byOrders_14 rfl (by first | rfl | (apply pm_nz; first | assumption | decide | exact pm_in01 _ _ _ | simp)) ⟨(by rw [hDq1]), rfl, by rw [hDq1]⟩ rfl rfl
