/-! ThunderCartelModel: ranks, links -/
theorem pm_shr1 {x : Int32} {k : Nat} (h : ¬ x < 0) (hk : pm_n x < 2 ^ (k + 1)) : ¬ (x >>> ((1 : Int32) &&& 31)) < 0 ∧ pm_n (x >>> ((1 : Int32) &&& 31)) < 2 ^ k := by
  obtain ⟨j, hj, rfl⟩ := nI_of h
  rw [pm_n_nI hj] at hk
  have h1 : nI j >>> ((1 : Int32) &&& 31) = nI (j / 2 ^ 1) := pk_shrN hj _ 1 (by decide)
  rw [h1]
  have h2 : j / 2 ^ 1 < 2 ^ k := by
    rw [Nat.pow_succ] at hk
    omega
  exact ⟨nI_pos (by omega), by rw [pm_n_nI (by omega)]; exact h2⟩
theorem pm_le0 {x : Int32} (h : ¬ x < 0) (hk : pm_n x < 2 ^ 0) : x ≤ 0 := by
  obtain ⟨j, hj, rfl⟩ := nI_of h
  rw [pm_n_nI hj] at hk
  have : j = 0 := by omega
  subst this
  exact Int32.le_refl _
def d_X13_memberByExcess_L2 (g : Nat → Int32) (j1 : Nat) : Nat → Nat → Int32 → Int32
  | 0, _, a5_2 => a5_2
  | k2 + 1, j2, a5_2 => if 0 < ((pm_mv g j2) - (pm_mv g j1)) then (d_X13_memberByExcess_L2 g j1 k2 (j2 + 1) (a5_2 + 1)) else (if ((pm_mv g j2) - (pm_mv g j1)) = 0 then (if 0 < ((g (7 + 5 * j2 + 3)) - (g (7 + 5 * j1 + 3))) then (d_X13_memberByExcess_L2 g j1 k2 (j2 + 1) (a5_2 + 1)) else (if ((g (7 + 5 * j2 + 3)) - (g (7 + 5 * j1 + 3))) = 0 then (if (nI j1) ≤ (nI j2) then (d_X13_memberByExcess_L2 g j1 k2 (j2 + 1) (a5_2 + 0)) else (d_X13_memberByExcess_L2 g j1 k2 (j2 + 1) (a5_2 + 1))) else (d_X13_memberByExcess_L2 g j1 k2 (j2 + 1) (a5_2 + 0)))) else (d_X13_memberByExcess_L2 g j1 k2 (j2 + 1) (a5_2 + 0)))
def d_X13_memberByExcess_L1 (x : Int32) (n : Nat) (g : Nat → Int32) : Nat → Nat → Int32 → Int32
  | 0, _, a2_1 => a2_1
  | k1 + 1, j1, a2_1 => if (pm_in x 0 (nI n - 1)) = 0 then a2_1 else (if (d_X13_memberByExcess_L2 g j1 n 0 0) = x then (d_X13_memberByExcess_L1 x n g k1 (j1 + 1) (nI j1)) else (d_X13_memberByExcess_L1 x n g k1 (j1 + 1) a2_1))
def d_X13_memberByExcess (x : Int32) (n : Nat) (f : Nat → Int32) (g : Nat → Int32) : (Int32 × (Nat → Int32)) := ((d_X13_memberByExcess_L1 x n g n 0 0), (upd f 6 (pm_th (pm_in x 0 (nI n - 1)))))
set_option maxRecDepth 100000 in
set_option maxHeartbeats 8000000 in
theorem c_X13_memberByExcess {l : Launch} {z : Nat} {D : va_G} {kA : Nat → ClassId} {kE : Nat → Nat} {nx : Nat} {M : pm_M} {x : Int32} {n : Nat}{m0 : Nat} {f : Nat → Int32} {g : Nat → Int32} (hM : M m0 = some (pm_mo z m0 f)) (hg : M (m0 + 1) = some (.inl (kA 0, 91, .inl g))) (hn : g 0 = nI n) (h7 : n ≤ 7) : pm_C l z D kA kE yX13_memberByExcess cX13_memberByExcess 9 (some .int) 2 0 0 [.ref (z + m0), .int x] nx M (pm_rt (some (.int ((d_X13_memberByExcess x n f g).1))) nx (pm_up M m0 (pm_mo z m0 ((d_X13_memberByExcess x n f g).2)))) := by
  refine pm_mk (own := RX13) (nm := "memberByExcess") mt_X13_memberByExcess rfl rfl rfl rfl fun X B => ?_
  refine pm_loc (L' := [some (.ref (z + m0)), some (.int x), none, none, none, none, none, none, none]) rfl ?_
  refine pm_mem (M' := pm_up M m0 (pm_mo z m0 f)) (by rw [pm_up_id hM]) ?_
  refine pm_iconst (v := 0) B dX13_memberByExcess_0 (by decide) ?_
  refine pm_istore_n B dX13_memberByExcess_1 rfl rfl ?_
  refine pm_loc (L' := [some (.ref (z + m0)), some (.int x), some (.int 0), none, none, none, none, none, none]) rfl ?_
  refine pm_aload_n B dX13_memberByExcess_2 rfl ?_
  refine pm_aload_n B dX13_memberByExcess_3 rfl ?_
  refine pm_iload_n B dX13_memberByExcess_4 rfl ?_
  refine pm_cV (As := [.int x]) (mc2 := 0) (ms2 := 0) B rfl pm_up_s rfl (c_X13_isMember (f := f) pm_up_s ((pm_up_n (by omega)).trans hg)) mt_X13_isMember sv_X13_100 dX13_memberByExcess_5 rfl rfl rfl rfl rfl ?_
  refine pm_stk (st' := [.int (pm_in x 0 (g 0 - 1)), .ref (z + m0)]) rfl ?_
  refine pm_stk (st' := [.int (pm_in x 0 (nI n - 1)), .ref (z + m0)]) (by rw [show (pm_in x 0 (g 0 - 1)) = (pm_in x 0 (nI n - 1)) from by rw [hn]]) ?_
  refine pm_cV (As := [.int (pm_in x 0 (nI n - 1))]) (mc2 := 0) (ms2 := 0) B rfl pm_up_s rfl (c_X13_isThere (f := f) (b := (pm_in x 0 (nI n - 1))) pm_up_s (by first | assumption | exact pm_in01 _ _ _ | decide | simp)) mt_X13_isThere sv_X13_107 dX13_memberByExcess_8 rfl rfl rfl rfl rfl ?_
  refine pm_mem (M' := pm_up M m0 (pm_mo z m0 (upd f 6 (pm_th (pm_in x 0 (nI n - 1)))))) pm_up_up ?_
  refine pm_stk (st' := [.int (pm_in x 0 (nI n - 1))]) rfl ?_
  refine pm_istore_n B dX13_memberByExcess_11 rfl rfl ?_
  refine pm_loc (L' := [some (.ref (z + m0)), some (.int x), some (.int 0), some (.int (pm_in x 0 (nI n - 1))), none, none, none, none, none]) rfl ?_
  refine pm_iconst (v := 0) B dX13_memberByExcess_12 (by decide) ?_
  refine pm_istore B dX13_memberByExcess_13 rfl rfl ?_
  refine pm_loc (L' := [some (.ref (z + m0)), some (.int x), some (.int 0), some (.int (pm_in x 0 (nI n - 1))), some (.int 0), none, none, none, none]) rfl ?_
  refine pm_loc (L' := [some (.ref (z + m0)), some (.int x), some (.int 0), some (.int (pm_in x 0 (nI n - 1))), some (.int (nI 0)), none, none, none, none]) rfl ?_
  have loop1 : ∀ (K1 : (Int32 → (Int32 × (Nat → Int32)))), (∀ (a2_1 : Int32), pm_G l z D X 0 0 (pm_Q z D (pm_rt (some (.int ((K1 a2_1).1))) nx (pm_up M m0 (pm_mo z m0 ((K1 a2_1).2)))) 0 0 X) nx (pm_up M m0 (pm_mo z m0 (upd f 6 (pm_th (pm_in x 0 (nI n - 1)))))) 141 [none, none, some (.int a2_1), none, none, none, none, none, none] []) → ∀ (k1 j1 : Nat), j1 + k1 = n → ∀ (a2_1 : Int32), pm_G l z D X 0 0 (pm_Q z D (pm_rt (some (.int ((K1 (d_X13_memberByExcess_L1 x n g k1 j1 a2_1)).1))) nx (pm_up M m0 (pm_mo z m0 ((K1 (d_X13_memberByExcess_L1 x n g k1 j1 a2_1)).2)))) 0 0 X) nx (pm_up M m0 (pm_mo z m0 (upd f 6 (pm_th (pm_in x 0 (nI n - 1)))))) 15 [some (.ref (z + m0)), some (.int x), some (.int a2_1), some (.int (pm_in x 0 (nI n - 1))), some (.int (nI j1)), none, none, none, none] [] := by
    intro K1 hK1 k1
    induction k1 with
    | zero =>
      intro j1 hj1 a2_1
      have hjn1 : j1 = n := by omega
      refine pm_iload B dX13_memberByExcess_15 rfl ?_
      refine pm_aload_n B dX13_memberByExcess_17 rfl ?_
      refine pm_get B dX13_memberByExcess_18 fl_X13_9 pm_up_s rfl ?_
      refine pm_stk (st' := [.ref (z + (m0 + 1)), .int (nI j1)]) rfl ?_
      refine pm_iconst (v := 0) B dX13_memberByExcess_21 (by decide) ?_
      refine pm_iald_n B dX13_memberByExcess_22 ((pm_up_n (by omega)).trans hg) 0 (by decide) (by decide) ?_
      refine pm_stk (st' := [.int (nI n), .int (nI j1)]) (by rw [show (g 0) = (nI n) from by rw [hn]]) ?_
      refine pm_icmp_ge (tgt := 141) B dX13_memberByExcess_23 (by decide) (fun hq1 => ?_) (fun hq1 => absurd ((nI_leI (by first | omega | decide) (by first | omega | decide)).mpr (by omega)) hq1)
      refine pm_wk (L' := [none, none, some (.int a2_1), none, none, none, none, none, none]) ⟨rfl, trivial⟩ ?_
      have hDq2 : (K1 (d_X13_memberByExcess_L1 x n g 0 j1 a2_1)) = (K1 a2_1) := by rw [d_X13_memberByExcess_L1]
      refine pm_pst (post' := pm_rt (some (.int ((K1 a2_1).1))) nx (pm_up M m0 (pm_mo z m0 ((K1 a2_1).2)))) (by rw [hDq2]) ?_
      exact hK1 a2_1
    | succ k1 ih1 =>
      intro j1 hj1 a2_1
      have hjn1 : j1 < n := by omega
      refine pm_iload B dX13_memberByExcess_15 rfl ?_
      refine pm_aload_n B dX13_memberByExcess_17 rfl ?_
      refine pm_get B dX13_memberByExcess_18 fl_X13_9 pm_up_s rfl ?_
      refine pm_stk (st' := [.ref (z + (m0 + 1)), .int (nI j1)]) rfl ?_
      refine pm_iconst (v := 0) B dX13_memberByExcess_21 (by decide) ?_
      refine pm_iald_n B dX13_memberByExcess_22 ((pm_up_n (by omega)).trans hg) 0 (by decide) (by decide) ?_
      refine pm_stk (st' := [.int (nI n), .int (nI j1)]) (by rw [show (g 0) = (nI n) from by rw [hn]]) ?_
      refine pm_icmp_ge (tgt := 141) B dX13_memberByExcess_23 (by decide) (fun hq3 => absurd hq3 (fun e => absurd ((nI_leI (by first | omega | decide) (by first | omega | decide)).mp e) (by omega))) (fun hq3 => ?_)
      refine pm_iload_n B dX13_memberByExcess_26 rfl ?_
      refine pm_if_eq (tgt := 141) B dX13_memberByExcess_27 (by decide) (fun hq4 => ?_) (fun hq4 => ?_)
      · refine pm_wk (L' := [none, none, some (.int a2_1), none, none, none, none, none, none]) ⟨rfl, trivial⟩ ?_
        have hDq5 : (K1 (d_X13_memberByExcess_L1 x n g (k1 + 1) j1 a2_1)) = (K1 a2_1) := by rw [d_X13_memberByExcess_L1, if_pos hq4]
        refine pm_pst (post' := pm_rt (some (.int ((K1 a2_1).1))) nx (pm_up M m0 (pm_mo z m0 ((K1 a2_1).2)))) (by rw [hDq5]) ?_
        exact hK1 a2_1
      · refine pm_iconst (v := 0) B dX13_memberByExcess_30 (by decide) ?_
        refine pm_istore B dX13_memberByExcess_31 rfl rfl ?_
        refine pm_loc (L' := [some (.ref (z + m0)), some (.int x), some (.int a2_1), some (.int (pm_in x 0 (nI n - 1))), some (.int (nI j1)), some (.int 0), none, none, none]) rfl ?_
        refine pm_iconst (v := 0) B dX13_memberByExcess_33 (by decide) ?_
        refine pm_istore B dX13_memberByExcess_34 rfl rfl ?_
        refine pm_loc (L' := [some (.ref (z + m0)), some (.int x), some (.int a2_1), some (.int (pm_in x 0 (nI n - 1))), some (.int (nI j1)), some (.int 0), some (.int 0), none, none]) rfl ?_
        refine pm_loc (L' := [some (.ref (z + m0)), some (.int x), some (.int a2_1), some (.int (pm_in x 0 (nI n - 1))), some (.int (nI j1)), some (.int 0), some (.int (nI 0)), none, none]) rfl ?_
        have loop2 : ∀ (K2 : (Int32 → (Int32 × (Nat → Int32)))), (∀ (a5_2 : Int32), pm_G l z D X 0 0 (pm_Q z D (pm_rt (some (.int ((K2 a5_2).1))) nx (pm_up M m0 (pm_mo z m0 ((K2 a5_2).2)))) 0 0 X) nx (pm_up M m0 (pm_mo z m0 (upd f 6 (pm_th (pm_in x 0 (nI n - 1)))))) 122 [some (.ref (z + m0)), some (.int x), some (.int a2_1), some (.int (pm_in x 0 (nI n - 1))), some (.int (nI j1)), some (.int a5_2), none, none, none] []) → ∀ (k2 j2 : Nat), j2 + k2 = n → ∀ (a5_2 : Int32), pm_G l z D X 0 0 (pm_Q z D (pm_rt (some (.int ((K2 (d_X13_memberByExcess_L2 g j1 k2 j2 a5_2)).1))) nx (pm_up M m0 (pm_mo z m0 ((K2 (d_X13_memberByExcess_L2 g j1 k2 j2 a5_2)).2)))) 0 0 X) nx (pm_up M m0 (pm_mo z m0 (upd f 6 (pm_th (pm_in x 0 (nI n - 1)))))) 36 [some (.ref (z + m0)), some (.int x), some (.int a2_1), some (.int (pm_in x 0 (nI n - 1))), some (.int (nI j1)), some (.int a5_2), some (.int (nI j2)), none, none] [] := by
          intro K2 hK2 k2
          induction k2 with
          | zero =>
            intro j2 hj2 a5_2
            have hjn2 : j2 = n := by omega
            refine pm_iload B dX13_memberByExcess_36 rfl ?_
            refine pm_aload_n B dX13_memberByExcess_38 rfl ?_
            refine pm_get B dX13_memberByExcess_39 fl_X13_9 pm_up_s rfl ?_
            refine pm_stk (st' := [.ref (z + (m0 + 1)), .int (nI j2)]) rfl ?_
            refine pm_iconst (v := 0) B dX13_memberByExcess_42 (by decide) ?_
            refine pm_iald_n B dX13_memberByExcess_43 ((pm_up_n (by omega)).trans hg) 0 (by decide) (by decide) ?_
            refine pm_stk (st' := [.int (nI n), .int (nI j2)]) (by rw [show (g 0) = (nI n) from by rw [hn]]) ?_
            refine pm_icmp_ge (tgt := 122) B dX13_memberByExcess_44 (by decide) (fun hq6 => ?_) (fun hq6 => absurd ((nI_leI (by first | omega | decide) (by first | omega | decide)).mpr (by omega)) hq6)
            refine pm_wk (L' := [some (.ref (z + m0)), some (.int x), some (.int a2_1), some (.int (pm_in x 0 (nI n - 1))), some (.int (nI j1)), some (.int a5_2), none, none, none]) ⟨rfl, ⟨rfl, ⟨rfl, ⟨rfl, ⟨rfl, ⟨rfl, trivial⟩⟩⟩⟩⟩⟩ ?_
            have hDq7 : (K2 (d_X13_memberByExcess_L2 g j1 0 j2 a5_2)) = (K2 a5_2) := by rw [d_X13_memberByExcess_L2]
            refine pm_pst (post' := pm_rt (some (.int ((K2 a5_2).1))) nx (pm_up M m0 (pm_mo z m0 ((K2 a5_2).2)))) (by rw [hDq7]) ?_
            exact hK2 a5_2
          | succ k2 ih2 =>
            intro j2 hj2 a5_2
            have hjn2 : j2 < n := by omega
            refine pm_iload B dX13_memberByExcess_36 rfl ?_
            refine pm_aload_n B dX13_memberByExcess_38 rfl ?_
            refine pm_get B dX13_memberByExcess_39 fl_X13_9 pm_up_s rfl ?_
            refine pm_stk (st' := [.ref (z + (m0 + 1)), .int (nI j2)]) rfl ?_
            refine pm_iconst (v := 0) B dX13_memberByExcess_42 (by decide) ?_
            refine pm_iald_n B dX13_memberByExcess_43 ((pm_up_n (by omega)).trans hg) 0 (by decide) (by decide) ?_
            refine pm_stk (st' := [.int (nI n), .int (nI j2)]) (by rw [show (g 0) = (nI n) from by rw [hn]]) ?_
            refine pm_icmp_ge (tgt := 122) B dX13_memberByExcess_44 (by decide) (fun hq8 => absurd hq8 (fun e => absurd ((nI_leI (by first | omega | decide) (by first | omega | decide)).mp e) (by omega))) (fun hq8 => ?_)
            refine pm_aload_n B dX13_memberByExcess_47 rfl ?_
            refine pm_iload B dX13_memberByExcess_48 rfl ?_
            refine pm_cV (As := [.int (nI j2)]) (mc2 := 0) (ms2 := 0) B rfl pm_up_s rfl (c_X13_over (f := (upd f 6 (pm_th (pm_in x 0 (nI n - 1))))) pm_up_s ((pm_up_n (by omega)).trans hg) (i := j2) (by first | assumption | omega)) mt_X13_over sv_X13_117 dX13_memberByExcess_50 rfl rfl rfl rfl rfl ?_
            refine pm_stk (st' := [.int (pm_mv g j2)]) rfl ?_
            refine pm_aload_n B dX13_memberByExcess_53 rfl ?_
            refine pm_iload B dX13_memberByExcess_54 rfl ?_
            refine pm_cV (As := [.int (nI j1)]) (mc2 := 0) (ms2 := 0) B rfl pm_up_s rfl (c_X13_over (f := (upd f 6 (pm_th (pm_in x 0 (nI n - 1))))) pm_up_s ((pm_up_n (by omega)).trans hg) (i := j1) (by first | assumption | omega)) mt_X13_over sv_X13_117 dX13_memberByExcess_56 rfl rfl rfl rfl rfl ?_
            refine pm_stk (st' := [.int (pm_mv g j1), .int (pm_mv g j2)]) rfl ?_
            refine pm_isub B dX13_memberByExcess_59 ?_
            refine pm_istore B dX13_memberByExcess_60 rfl rfl ?_
            refine pm_loc (L' := [some (.ref (z + m0)), some (.int x), some (.int a2_1), some (.int (pm_in x 0 (nI n - 1))), some (.int (nI j1)), some (.int a5_2), some (.int (nI j2)), some (.int ((pm_mv g j2) - (pm_mv g j1))), none]) rfl ?_
            refine pm_aload_n B dX13_memberByExcess_62 rfl ?_
            refine pm_iload B dX13_memberByExcess_63 rfl ?_
            refine pm_iconst (v := 3) B dX13_memberByExcess_65 (by decide) ?_
            refine pm_cV (As := [.int (nI j2), .int (nI 3)]) (mc2 := 0) (ms2 := 0) B rfl pm_up_s rfl (c_X13_of (f := (upd f 6 (pm_th (pm_in x 0 (nI n - 1))))) pm_up_s ((pm_up_n (by omega)).trans hg) (i := j2) (w := 3) (by first | assumption | omega) (by first | assumption | omega)) mt_X13_of sv_X13_74 dX13_memberByExcess_66 rfl rfl rfl rfl rfl ?_
            refine pm_stk (st' := [.int (g (7 + 5 * j2 + 3))]) rfl ?_
            refine pm_aload_n B dX13_memberByExcess_69 rfl ?_
            refine pm_iload B dX13_memberByExcess_70 rfl ?_
            refine pm_iconst (v := 3) B dX13_memberByExcess_72 (by decide) ?_
            refine pm_cV (As := [.int (nI j1), .int (nI 3)]) (mc2 := 0) (ms2 := 0) B rfl pm_up_s rfl (c_X13_of (f := (upd f 6 (pm_th (pm_in x 0 (nI n - 1))))) pm_up_s ((pm_up_n (by omega)).trans hg) (i := j1) (w := 3) (by first | assumption | omega) (by first | assumption | omega)) mt_X13_of sv_X13_74 dX13_memberByExcess_73 rfl rfl rfl rfl rfl ?_
            refine pm_stk (st' := [.int (g (7 + 5 * j1 + 3)), .int (g (7 + 5 * j2 + 3))]) rfl ?_
            refine pm_isub B dX13_memberByExcess_76 ?_
            refine pm_istore B dX13_memberByExcess_77 rfl rfl ?_
            refine pm_loc (L' := [some (.ref (z + m0)), some (.int x), some (.int a2_1), some (.int (pm_in x 0 (nI n - 1))), some (.int (nI j1)), some (.int a5_2), some (.int (nI j2)), some (.int ((pm_mv g j2) - (pm_mv g j1))), some (.int ((g (7 + 5 * j2 + 3)) - (g (7 + 5 * j1 + 3))))]) rfl ?_
            refine pm_iload B dX13_memberByExcess_79 rfl ?_
            refine pm_iload B dX13_memberByExcess_81 rfl ?_
            refine pm_if_gt (tgt := 108) B dX13_memberByExcess_83 (by decide) (fun hq9 => ?_) (fun hq9 => ?_)
            · refine pm_iconst (v := 1) B dX13_memberByExcess_108 (by decide) ?_
              refine pm_goto (tgt := 113) B dX13_memberByExcess_109 (by decide) ?_
              refine pm_iadd B dX13_memberByExcess_113 ?_
              refine pm_istore B dX13_memberByExcess_114 rfl rfl ?_
              refine pm_loc (L' := [some (.ref (z + m0)), some (.int x), some (.int a2_1), some (.int (pm_in x 0 (nI n - 1))), some (.int (nI j1)), some (.int (a5_2 + 1)), some (.int (nI j2)), some (.int ((pm_mv g j2) - (pm_mv g j1))), some (.int ((g (7 + 5 * j2 + 3)) - (g (7 + 5 * j1 + 3))))]) rfl ?_
              refine pm_iinc B dX13_memberByExcess_116 rfl rfl rfl ?_
              refine pm_loc (L' := [some (.ref (z + m0)), some (.int x), some (.int a2_1), some (.int (pm_in x 0 (nI n - 1))), some (.int (nI j1)), some (.int (a5_2 + 1)), some (.int (nI (j2 + 1))), some (.int ((pm_mv g j2) - (pm_mv g j1))), some (.int ((g (7 + 5 * j2 + 3)) - (g (7 + 5 * j1 + 3))))]) (by rw [show ((nI j2) : Int32) + Int32.ofInt 1 = (nI (j2 + 1)) from nI_1 _]; rfl) ?_
              refine pm_goto (tgt := 36) B dX13_memberByExcess_119 (by decide) ?_
              refine pm_wk (L' := [some (.ref (z + m0)), some (.int x), some (.int a2_1), some (.int (pm_in x 0 (nI n - 1))), some (.int (nI j1)), some (.int (a5_2 + 1)), some (.int (nI (j2 + 1))), none, none]) ⟨rfl, ⟨rfl, ⟨rfl, ⟨rfl, ⟨rfl, ⟨rfl, ⟨rfl, trivial⟩⟩⟩⟩⟩⟩⟩ ?_
              have hDq10 : (K2 (d_X13_memberByExcess_L2 g j1 (k2 + 1) j2 a5_2)) = (K2 (d_X13_memberByExcess_L2 g j1 k2 (j2 + 1) (a5_2 + 1))) := by rw [d_X13_memberByExcess_L2, if_pos hq9]
              refine pm_pst (post' := pm_rt (some (.int ((K2 (d_X13_memberByExcess_L2 g j1 k2 (j2 + 1) (a5_2 + 1))).1))) nx (pm_up M m0 (pm_mo z m0 ((K2 (d_X13_memberByExcess_L2 g j1 k2 (j2 + 1) (a5_2 + 1))).2)))) (by rw [hDq10]) ?_
              exact ih2 (j2 + 1) (by omega) (a5_2 + 1)
            · refine pm_iload B dX13_memberByExcess_86 rfl ?_
              refine pm_if_ne (tgt := 112) B dX13_memberByExcess_88 (by decide) (fun hq11 => ?_) (fun hq11 => ?_)
              · refine pm_iconst (v := 0) B dX13_memberByExcess_112 (by decide) ?_
                refine pm_iadd B dX13_memberByExcess_113 ?_
                refine pm_istore B dX13_memberByExcess_114 rfl rfl ?_
                refine pm_loc (L' := [some (.ref (z + m0)), some (.int x), some (.int a2_1), some (.int (pm_in x 0 (nI n - 1))), some (.int (nI j1)), some (.int (a5_2 + 0)), some (.int (nI j2)), some (.int ((pm_mv g j2) - (pm_mv g j1))), some (.int ((g (7 + 5 * j2 + 3)) - (g (7 + 5 * j1 + 3))))]) rfl ?_
                refine pm_iinc B dX13_memberByExcess_116 rfl rfl rfl ?_
                refine pm_loc (L' := [some (.ref (z + m0)), some (.int x), some (.int a2_1), some (.int (pm_in x 0 (nI n - 1))), some (.int (nI j1)), some (.int (a5_2 + 0)), some (.int (nI (j2 + 1))), some (.int ((pm_mv g j2) - (pm_mv g j1))), some (.int ((g (7 + 5 * j2 + 3)) - (g (7 + 5 * j1 + 3))))]) (by rw [show ((nI j2) : Int32) + Int32.ofInt 1 = (nI (j2 + 1)) from nI_1 _]; rfl) ?_
                refine pm_goto (tgt := 36) B dX13_memberByExcess_119 (by decide) ?_
                refine pm_wk (L' := [some (.ref (z + m0)), some (.int x), some (.int a2_1), some (.int (pm_in x 0 (nI n - 1))), some (.int (nI j1)), some (.int (a5_2 + 0)), some (.int (nI (j2 + 1))), none, none]) ⟨rfl, ⟨rfl, ⟨rfl, ⟨rfl, ⟨rfl, ⟨rfl, ⟨rfl, trivial⟩⟩⟩⟩⟩⟩⟩ ?_
                have hDq12 : (K2 (d_X13_memberByExcess_L2 g j1 (k2 + 1) j2 a5_2)) = (K2 (d_X13_memberByExcess_L2 g j1 k2 (j2 + 1) (a5_2 + 0))) := by rw [d_X13_memberByExcess_L2, if_neg hq9, if_neg hq11]
                refine pm_pst (post' := pm_rt (some (.int ((K2 (d_X13_memberByExcess_L2 g j1 k2 (j2 + 1) (a5_2 + 0))).1))) nx (pm_up M m0 (pm_mo z m0 ((K2 (d_X13_memberByExcess_L2 g j1 k2 (j2 + 1) (a5_2 + 0))).2)))) (by rw [hDq12]) ?_
                exact ih2 (j2 + 1) (by omega) (a5_2 + 0)
              · refine pm_iload B dX13_memberByExcess_91 rfl ?_
                refine pm_if_gt (tgt := 108) B dX13_memberByExcess_93 (by decide) (fun hq13 => ?_) (fun hq13 => ?_)
                · refine pm_iconst (v := 1) B dX13_memberByExcess_108 (by decide) ?_
                  refine pm_goto (tgt := 113) B dX13_memberByExcess_109 (by decide) ?_
                  refine pm_iadd B dX13_memberByExcess_113 ?_
                  refine pm_istore B dX13_memberByExcess_114 rfl rfl ?_
                  refine pm_loc (L' := [some (.ref (z + m0)), some (.int x), some (.int a2_1), some (.int (pm_in x 0 (nI n - 1))), some (.int (nI j1)), some (.int (a5_2 + 1)), some (.int (nI j2)), some (.int ((pm_mv g j2) - (pm_mv g j1))), some (.int ((g (7 + 5 * j2 + 3)) - (g (7 + 5 * j1 + 3))))]) rfl ?_
                  refine pm_iinc B dX13_memberByExcess_116 rfl rfl rfl ?_
                  refine pm_loc (L' := [some (.ref (z + m0)), some (.int x), some (.int a2_1), some (.int (pm_in x 0 (nI n - 1))), some (.int (nI j1)), some (.int (a5_2 + 1)), some (.int (nI (j2 + 1))), some (.int ((pm_mv g j2) - (pm_mv g j1))), some (.int ((g (7 + 5 * j2 + 3)) - (g (7 + 5 * j1 + 3))))]) (by rw [show ((nI j2) : Int32) + Int32.ofInt 1 = (nI (j2 + 1)) from nI_1 _]; rfl) ?_
                  refine pm_goto (tgt := 36) B dX13_memberByExcess_119 (by decide) ?_
                  refine pm_wk (L' := [some (.ref (z + m0)), some (.int x), some (.int a2_1), some (.int (pm_in x 0 (nI n - 1))), some (.int (nI j1)), some (.int (a5_2 + 1)), some (.int (nI (j2 + 1))), none, none]) ⟨rfl, ⟨rfl, ⟨rfl, ⟨rfl, ⟨rfl, ⟨rfl, ⟨rfl, trivial⟩⟩⟩⟩⟩⟩⟩ ?_
                  have hDq14 : (K2 (d_X13_memberByExcess_L2 g j1 (k2 + 1) j2 a5_2)) = (K2 (d_X13_memberByExcess_L2 g j1 k2 (j2 + 1) (a5_2 + 1))) := by rw [d_X13_memberByExcess_L2, if_neg hq9, if_pos hq11, if_pos hq13]
                  refine pm_pst (post' := pm_rt (some (.int ((K2 (d_X13_memberByExcess_L2 g j1 k2 (j2 + 1) (a5_2 + 1))).1))) nx (pm_up M m0 (pm_mo z m0 ((K2 (d_X13_memberByExcess_L2 g j1 k2 (j2 + 1) (a5_2 + 1))).2)))) (by rw [hDq14]) ?_
                  exact ih2 (j2 + 1) (by omega) (a5_2 + 1)
                · refine pm_iload B dX13_memberByExcess_96 rfl ?_
                  refine pm_if_ne (tgt := 112) B dX13_memberByExcess_98 (by decide) (fun hq15 => ?_) (fun hq15 => ?_)
                  · refine pm_iconst (v := 0) B dX13_memberByExcess_112 (by decide) ?_
                    refine pm_iadd B dX13_memberByExcess_113 ?_
                    refine pm_istore B dX13_memberByExcess_114 rfl rfl ?_
                    refine pm_loc (L' := [some (.ref (z + m0)), some (.int x), some (.int a2_1), some (.int (pm_in x 0 (nI n - 1))), some (.int (nI j1)), some (.int (a5_2 + 0)), some (.int (nI j2)), some (.int ((pm_mv g j2) - (pm_mv g j1))), some (.int ((g (7 + 5 * j2 + 3)) - (g (7 + 5 * j1 + 3))))]) rfl ?_
                    refine pm_iinc B dX13_memberByExcess_116 rfl rfl rfl ?_
                    refine pm_loc (L' := [some (.ref (z + m0)), some (.int x), some (.int a2_1), some (.int (pm_in x 0 (nI n - 1))), some (.int (nI j1)), some (.int (a5_2 + 0)), some (.int (nI (j2 + 1))), some (.int ((pm_mv g j2) - (pm_mv g j1))), some (.int ((g (7 + 5 * j2 + 3)) - (g (7 + 5 * j1 + 3))))]) (by rw [show ((nI j2) : Int32) + Int32.ofInt 1 = (nI (j2 + 1)) from nI_1 _]; rfl) ?_
                    refine pm_goto (tgt := 36) B dX13_memberByExcess_119 (by decide) ?_
                    refine pm_wk (L' := [some (.ref (z + m0)), some (.int x), some (.int a2_1), some (.int (pm_in x 0 (nI n - 1))), some (.int (nI j1)), some (.int (a5_2 + 0)), some (.int (nI (j2 + 1))), none, none]) ⟨rfl, ⟨rfl, ⟨rfl, ⟨rfl, ⟨rfl, ⟨rfl, ⟨rfl, trivial⟩⟩⟩⟩⟩⟩⟩ ?_
                    have hDq16 : (K2 (d_X13_memberByExcess_L2 g j1 (k2 + 1) j2 a5_2)) = (K2 (d_X13_memberByExcess_L2 g j1 k2 (j2 + 1) (a5_2 + 0))) := by rw [d_X13_memberByExcess_L2, if_neg hq9, if_pos hq11, if_neg hq13, if_neg hq15]
                    refine pm_pst (post' := pm_rt (some (.int ((K2 (d_X13_memberByExcess_L2 g j1 k2 (j2 + 1) (a5_2 + 0))).1))) nx (pm_up M m0 (pm_mo z m0 ((K2 (d_X13_memberByExcess_L2 g j1 k2 (j2 + 1) (a5_2 + 0))).2)))) (by rw [hDq16]) ?_
                    exact ih2 (j2 + 1) (by omega) (a5_2 + 0)
                  · refine pm_iload B dX13_memberByExcess_101 rfl ?_
                    refine pm_iload B dX13_memberByExcess_103 rfl ?_
                    refine pm_icmp_ge (tgt := 112) B dX13_memberByExcess_105 (by decide) (fun hq17 => ?_) (fun hq17 => ?_)
                    · refine pm_iconst (v := 0) B dX13_memberByExcess_112 (by decide) ?_
                      refine pm_iadd B dX13_memberByExcess_113 ?_
                      refine pm_istore B dX13_memberByExcess_114 rfl rfl ?_
                      refine pm_loc (L' := [some (.ref (z + m0)), some (.int x), some (.int a2_1), some (.int (pm_in x 0 (nI n - 1))), some (.int (nI j1)), some (.int (a5_2 + 0)), some (.int (nI j2)), some (.int ((pm_mv g j2) - (pm_mv g j1))), some (.int ((g (7 + 5 * j2 + 3)) - (g (7 + 5 * j1 + 3))))]) rfl ?_
                      refine pm_iinc B dX13_memberByExcess_116 rfl rfl rfl ?_
                      refine pm_loc (L' := [some (.ref (z + m0)), some (.int x), some (.int a2_1), some (.int (pm_in x 0 (nI n - 1))), some (.int (nI j1)), some (.int (a5_2 + 0)), some (.int (nI (j2 + 1))), some (.int ((pm_mv g j2) - (pm_mv g j1))), some (.int ((g (7 + 5 * j2 + 3)) - (g (7 + 5 * j1 + 3))))]) (by rw [show ((nI j2) : Int32) + Int32.ofInt 1 = (nI (j2 + 1)) from nI_1 _]; rfl) ?_
                      refine pm_goto (tgt := 36) B dX13_memberByExcess_119 (by decide) ?_
                      refine pm_wk (L' := [some (.ref (z + m0)), some (.int x), some (.int a2_1), some (.int (pm_in x 0 (nI n - 1))), some (.int (nI j1)), some (.int (a5_2 + 0)), some (.int (nI (j2 + 1))), none, none]) ⟨rfl, ⟨rfl, ⟨rfl, ⟨rfl, ⟨rfl, ⟨rfl, ⟨rfl, trivial⟩⟩⟩⟩⟩⟩⟩ ?_
                      have hDq18 : (K2 (d_X13_memberByExcess_L2 g j1 (k2 + 1) j2 a5_2)) = (K2 (d_X13_memberByExcess_L2 g j1 k2 (j2 + 1) (a5_2 + 0))) := by rw [d_X13_memberByExcess_L2, if_neg hq9, if_pos hq11, if_neg hq13, if_pos hq15, if_pos hq17]
                      refine pm_pst (post' := pm_rt (some (.int ((K2 (d_X13_memberByExcess_L2 g j1 k2 (j2 + 1) (a5_2 + 0))).1))) nx (pm_up M m0 (pm_mo z m0 ((K2 (d_X13_memberByExcess_L2 g j1 k2 (j2 + 1) (a5_2 + 0))).2)))) (by rw [hDq18]) ?_
                      exact ih2 (j2 + 1) (by omega) (a5_2 + 0)
                    · refine pm_iconst (v := 1) B dX13_memberByExcess_108 (by decide) ?_
                      refine pm_goto (tgt := 113) B dX13_memberByExcess_109 (by decide) ?_
                      refine pm_iadd B dX13_memberByExcess_113 ?_
                      refine pm_istore B dX13_memberByExcess_114 rfl rfl ?_
                      refine pm_loc (L' := [some (.ref (z + m0)), some (.int x), some (.int a2_1), some (.int (pm_in x 0 (nI n - 1))), some (.int (nI j1)), some (.int (a5_2 + 1)), some (.int (nI j2)), some (.int ((pm_mv g j2) - (pm_mv g j1))), some (.int ((g (7 + 5 * j2 + 3)) - (g (7 + 5 * j1 + 3))))]) rfl ?_
                      refine pm_iinc B dX13_memberByExcess_116 rfl rfl rfl ?_
                      refine pm_loc (L' := [some (.ref (z + m0)), some (.int x), some (.int a2_1), some (.int (pm_in x 0 (nI n - 1))), some (.int (nI j1)), some (.int (a5_2 + 1)), some (.int (nI (j2 + 1))), some (.int ((pm_mv g j2) - (pm_mv g j1))), some (.int ((g (7 + 5 * j2 + 3)) - (g (7 + 5 * j1 + 3))))]) (by rw [show ((nI j2) : Int32) + Int32.ofInt 1 = (nI (j2 + 1)) from nI_1 _]; rfl) ?_
                      refine pm_goto (tgt := 36) B dX13_memberByExcess_119 (by decide) ?_
                      refine pm_wk (L' := [some (.ref (z + m0)), some (.int x), some (.int a2_1), some (.int (pm_in x 0 (nI n - 1))), some (.int (nI j1)), some (.int (a5_2 + 1)), some (.int (nI (j2 + 1))), none, none]) ⟨rfl, ⟨rfl, ⟨rfl, ⟨rfl, ⟨rfl, ⟨rfl, ⟨rfl, trivial⟩⟩⟩⟩⟩⟩⟩ ?_
                      have hDq19 : (K2 (d_X13_memberByExcess_L2 g j1 (k2 + 1) j2 a5_2)) = (K2 (d_X13_memberByExcess_L2 g j1 k2 (j2 + 1) (a5_2 + 1))) := by rw [d_X13_memberByExcess_L2, if_neg hq9, if_pos hq11, if_neg hq13, if_pos hq15, if_neg hq17]
                      refine pm_pst (post' := pm_rt (some (.int ((K2 (d_X13_memberByExcess_L2 g j1 k2 (j2 + 1) (a5_2 + 1))).1))) nx (pm_up M m0 (pm_mo z m0 ((K2 (d_X13_memberByExcess_L2 g j1 k2 (j2 + 1) (a5_2 + 1))).2)))) (by rw [hDq19]) ?_
                      exact ih2 (j2 + 1) (by omega) (a5_2 + 1)
        refine pm_pst (post' := pm_rt (some (.int ((K1 (if (d_X13_memberByExcess_L2 g j1 n 0 0) = x then (d_X13_memberByExcess_L1 x n g k1 (j1 + 1) (nI j1)) else (d_X13_memberByExcess_L1 x n g k1 (j1 + 1) a2_1))).1))) nx (pm_up M m0 (pm_mo z m0 ((K1 (if (d_X13_memberByExcess_L2 g j1 n 0 0) = x then (d_X13_memberByExcess_L1 x n g k1 (j1 + 1) (nI j1)) else (d_X13_memberByExcess_L1 x n g k1 (j1 + 1) a2_1))).2)))) (by rw [show (K1 (d_X13_memberByExcess_L1 x n g (k1 + 1) j1 a2_1)) = (K1 (if (d_X13_memberByExcess_L2 g j1 n 0 0) = x then (d_X13_memberByExcess_L1 x n g k1 (j1 + 1) (nI j1)) else (d_X13_memberByExcess_L1 x n g k1 (j1 + 1) a2_1))) from by rw [d_X13_memberByExcess_L1, if_neg hq4]]) ?_
        refine loop2 (fun (a5_2 : Int32) => (K1 (if a5_2 = x then (d_X13_memberByExcess_L1 x n g k1 (j1 + 1) (nI j1)) else (d_X13_memberByExcess_L1 x n g k1 (j1 + 1) a2_1)))) ?_ n 0 (by omega) 0
        intro a5_2
        refine pm_pst (post' := pm_rt (some (.int ((K1 (if a5_2 = x then (d_X13_memberByExcess_L1 x n g k1 (j1 + 1) (nI j1)) else (d_X13_memberByExcess_L1 x n g k1 (j1 + 1) a2_1))).1))) nx (pm_up M m0 (pm_mo z m0 ((K1 (if a5_2 = x then (d_X13_memberByExcess_L1 x n g k1 (j1 + 1) (nI j1)) else (d_X13_memberByExcess_L1 x n g k1 (j1 + 1) a2_1))).2)))) rfl ?_
        refine pm_iload B dX13_memberByExcess_122 rfl ?_
        refine pm_iload_n B dX13_memberByExcess_124 rfl ?_
        refine pm_icmp_ne (tgt := 133) B dX13_memberByExcess_125 (by decide) (fun hq20 => ?_) (fun hq20 => ?_)
        · refine pm_iload_n B dX13_memberByExcess_133 rfl ?_
          refine pm_istore_n B dX13_memberByExcess_134 rfl rfl ?_
          refine pm_loc (L' := [some (.ref (z + m0)), some (.int x), some (.int a2_1), some (.int (pm_in x 0 (nI n - 1))), some (.int (nI j1)), some (.int a5_2), none, none, none]) rfl ?_
          refine pm_iinc B dX13_memberByExcess_135 rfl rfl rfl ?_
          refine pm_loc (L' := [some (.ref (z + m0)), some (.int x), some (.int a2_1), some (.int (pm_in x 0 (nI n - 1))), some (.int (nI (j1 + 1))), some (.int a5_2), none, none, none]) (by rw [show ((nI j1) : Int32) + Int32.ofInt 1 = (nI (j1 + 1)) from nI_1 _]; rfl) ?_
          refine pm_goto (tgt := 15) B dX13_memberByExcess_138 (by decide) ?_
          refine pm_wk (L' := [some (.ref (z + m0)), some (.int x), some (.int a2_1), some (.int (pm_in x 0 (nI n - 1))), some (.int (nI (j1 + 1))), none, none, none, none]) ⟨rfl, ⟨rfl, ⟨rfl, ⟨rfl, ⟨rfl, trivial⟩⟩⟩⟩⟩ ?_
          have hDq21 : ((K1 (if a5_2 = x then (d_X13_memberByExcess_L1 x n g k1 (j1 + 1) (nI j1)) else (d_X13_memberByExcess_L1 x n g k1 (j1 + 1) a2_1)))) = (K1 (d_X13_memberByExcess_L1 x n g k1 (j1 + 1) a2_1)) := by rw [if_neg hq20]
          refine pm_pst (post' := pm_rt (some (.int ((K1 (d_X13_memberByExcess_L1 x n g k1 (j1 + 1) a2_1)).1))) nx (pm_up M m0 (pm_mo z m0 ((K1 (d_X13_memberByExcess_L1 x n g k1 (j1 + 1) a2_1)).2)))) (by rw [hDq21]) ?_
          exact ih1 (j1 + 1) (by omega) a2_1
        · refine pm_iload B dX13_memberByExcess_128 rfl ?_
          refine pm_goto (tgt := 134) B dX13_memberByExcess_130 (by decide) ?_
          refine pm_istore_n B dX13_memberByExcess_134 rfl rfl ?_
          refine pm_loc (L' := [some (.ref (z + m0)), some (.int x), some (.int (nI j1)), some (.int (pm_in x 0 (nI n - 1))), some (.int (nI j1)), some (.int a5_2), none, none, none]) rfl ?_
          refine pm_iinc B dX13_memberByExcess_135 rfl rfl rfl ?_
          refine pm_loc (L' := [some (.ref (z + m0)), some (.int x), some (.int (nI j1)), some (.int (pm_in x 0 (nI n - 1))), some (.int (nI (j1 + 1))), some (.int a5_2), none, none, none]) (by rw [show ((nI j1) : Int32) + Int32.ofInt 1 = (nI (j1 + 1)) from nI_1 _]; rfl) ?_
          refine pm_goto (tgt := 15) B dX13_memberByExcess_138 (by decide) ?_
          refine pm_wk (L' := [some (.ref (z + m0)), some (.int x), some (.int (nI j1)), some (.int (pm_in x 0 (nI n - 1))), some (.int (nI (j1 + 1))), none, none, none, none]) ⟨rfl, ⟨rfl, ⟨rfl, ⟨rfl, ⟨rfl, trivial⟩⟩⟩⟩⟩ ?_
          have hDq22 : ((K1 (if a5_2 = x then (d_X13_memberByExcess_L1 x n g k1 (j1 + 1) (nI j1)) else (d_X13_memberByExcess_L1 x n g k1 (j1 + 1) a2_1)))) = (K1 (d_X13_memberByExcess_L1 x n g k1 (j1 + 1) (nI j1))) := by rw [if_pos hq20]
          refine pm_pst (post' := pm_rt (some (.int ((K1 (d_X13_memberByExcess_L1 x n g k1 (j1 + 1) (nI j1))).1))) nx (pm_up M m0 (pm_mo z m0 ((K1 (d_X13_memberByExcess_L1 x n g k1 (j1 + 1) (nI j1))).2)))) (by rw [hDq22]) ?_
          exact ih1 (j1 + 1) (by omega) (nI j1)
  refine pm_pst (post' := pm_rt (some (.int (((d_X13_memberByExcess_L1 x n g n 0 0), (upd f 6 (pm_th (pm_in x 0 (nI n - 1))))).1))) nx (pm_up M m0 (pm_mo z m0 (((d_X13_memberByExcess_L1 x n g n 0 0), (upd f 6 (pm_th (pm_in x 0 (nI n - 1))))).2)))) (by rw [show (d_X13_memberByExcess x n f g) = ((d_X13_memberByExcess_L1 x n g n 0 0), (upd f 6 (pm_th (pm_in x 0 (nI n - 1))))) from by rw [d_X13_memberByExcess]]) ?_
  refine loop1 (fun (a2_1 : Int32) => (a2_1, (upd f 6 (pm_th (pm_in x 0 (nI n - 1)))))) ?_ n 0 (by omega) 0
  intro a2_1
  refine pm_pst (post' := pm_rt (some (.int ((a2_1, (upd f 6 (pm_th (pm_in x 0 (nI n - 1))))).1))) nx (pm_up M m0 (pm_mo z m0 ((a2_1, (upd f 6 (pm_th (pm_in x 0 (nI n - 1))))).2)))) rfl ?_
  refine pm_iload_n B dX13_memberByExcess_141 rfl ?_
  have hDq23 : ((a2_1, (upd f 6 (pm_th (pm_in x 0 (nI n - 1)))))) = (a2_1, (upd f 6 (pm_th (pm_in x 0 (nI n - 1))))) := rfl
  exact pm_ireturn B dX13_memberByExcess_142 rfl (by first | rfl | (apply pm_nz; first | assumption | decide | exact pm_in01 _ _ _ | simp)) ⟨(by rw [hDq23]), rfl, by rw [hDq23]⟩ rfl rfl
def d_X13_linked (i : Nat) (w : Nat) (f : Nat → Int32) (g : Nat → Int32) : Int32 := if (g ((42 + (7 * i)) + w)) = 1 then 1 else 0
set_option maxRecDepth 100000 in
set_option maxHeartbeats 8000000 in
theorem c_X13_linked {l : Launch} {z : Nat} {D : va_G} {kA : Nat → ClassId} {kE : Nat → Nat} {nx : Nat} {M : pm_M} {i : Nat} {w : Nat}{m0 : Nat} {f : Nat → Int32} {g : Nat → Int32} (hM : M m0 = some (pm_mo z m0 f)) (hg : M (m0 + 1) = some (.inl (kA 0, 91, .inl g))) (hi : i < 7) (hw : w < 7) : pm_C l z D kA kE yX13_linked cX13_linked 3 (some .boolean) 0 0 0 [.ref (z + m0), .int (nI i), .int (nI w)] nx M (pm_rt (some (.int (d_X13_linked i w f g))) nx M) := by
  refine pm_mk (own := RX13) (nm := "linked") mt_X13_linked rfl rfl rfl rfl fun X B => ?_
  refine pm_loc (L' := [some (.ref (z + m0)), some (.int (nI i)), some (.int (nI w))]) rfl ?_
  refine pm_aload_n B dX13_linked_0 rfl ?_
  refine pm_get B dX13_linked_1 fl_X13_9 hM rfl ?_
  refine pm_bipush (v := 42) B dX13_linked_4 (by decide) ?_
  refine pm_bipush (v := 7) B dX13_linked_6 (by decide) ?_
  refine pm_iload_n B dX13_linked_8 rfl ?_
  refine pm_imul B dX13_linked_9 ?_
  refine pm_iadd B dX13_linked_10 ?_
  refine pm_iload_n B dX13_linked_11 rfl ?_
  refine pm_iadd B dX13_linked_12 ?_
  refine pm_stk (st' := [.int (nI ((42 + (7 * i)) + w)), .ref (z + (m0 + 1))]) (by rw [show ((42 + (7 * (nI i))) + (nI w)) = (nI ((42 + (7 * i)) + w)) from (by rw [show (42 + (7 * (nI i))) = nI (42 + (7 * i)) from (by rw [show 42 = nI 42 from rfl, show (7 * (nI i)) = nI (7 * i) from (by rw [show 7 = nI 7 from rfl, show (nI i) = nI i from rfl, pk_mul]), nI_add]), show (nI w) = nI w from rfl, nI_add])]) ?_
  refine pm_iald_n B dX13_linked_13 hg ((42 + (7 * i)) + w) (by first | assumption | omega) (by decide) ?_
  refine pm_iconst (v := 1) B dX13_linked_14 (by decide) ?_
  refine pm_icmp_ne (tgt := 22) B dX13_linked_15 (by decide) (fun hq1 => ?_) (fun hq1 => ?_)
  · refine pm_iconst (v := 0) B dX13_linked_22 (by decide) ?_
    have hDq2 : (d_X13_linked i w f g) = 0 := by rw [d_X13_linked, if_neg hq1]
    exact pm_ireturn B dX13_linked_23 rfl (by first | rfl | (apply pm_nz; first | assumption | decide | exact pm_in01 _ _ _ | simp)) ⟨(by rw [hDq2]), rfl, rfl⟩ rfl rfl
  · refine pm_iconst (v := 1) B dX13_linked_18 (by decide) ?_
    refine pm_goto (tgt := 23) B dX13_linked_19 (by decide) ?_
    have hDq3 : (d_X13_linked i w f g) = 1 := by rw [d_X13_linked, if_pos hq1]
    exact pm_ireturn B dX13_linked_23 rfl (by first | rfl | (apply pm_nz; first | assumption | decide | exact pm_in01 _ _ _ | simp)) ⟨(by rw [hDq3]), rfl, rfl⟩ rfl rfl
def d_X13_links_L1 (g : Nat → Int32) : Nat → Nat → Int32 → Int32
  | 0, _, a1_1 => a1_1
  | k1 + 1, j1, a1_1 => (d_X13_links_L1 g k1 (j1 + 1) (a1_1 + (g (42 + j1))))
def d_X13_links (f : Nat → Int32) (g : Nat → Int32) : Int32 := ((d_X13_links_L1 g 49 0 0) / 2)
set_option maxRecDepth 100000 in
set_option maxHeartbeats 8000000 in
theorem c_X13_links {l : Launch} {z : Nat} {D : va_G} {kA : Nat → ClassId} {kE : Nat → Nat} {nx : Nat} {M : pm_M} {m0 : Nat} {f : Nat → Int32} {g : Nat → Int32} (hM : M m0 = some (pm_mo z m0 f)) (hg : M (m0 + 1) = some (.inl (kA 0, 91, .inl g))) : pm_C l z D kA kE yX13_links cX13_links 3 (some .int) 0 0 0 [.ref (z + m0)] nx M (pm_rt (some (.int (d_X13_links f g))) nx M) := by
  refine pm_mk (own := RX13) (nm := "links") mt_X13_links rfl rfl rfl rfl fun X B => ?_
  refine pm_loc (L' := [some (.ref (z + m0)), none, none]) rfl ?_
  refine pm_iconst (v := 0) B dX13_links_0 (by decide) ?_
  refine pm_istore_n B dX13_links_1 rfl rfl ?_
  refine pm_loc (L' := [some (.ref (z + m0)), some (.int 0), none]) rfl ?_
  refine pm_iconst (v := 0) B dX13_links_2 (by decide) ?_
  refine pm_istore_n B dX13_links_3 rfl rfl ?_
  refine pm_loc (L' := [some (.ref (z + m0)), some (.int 0), some (.int 0)]) rfl ?_
  refine pm_loc (L' := [some (.ref (z + m0)), some (.int 0), some (.int (nI 0))]) rfl ?_
  have loop1 : ∀ (K1 : (Int32 → Int32)), (∀ (a1_1 : Int32), pm_G l z D X 0 0 (pm_Q z D (pm_rt (some (.int (K1 a1_1))) nx M) 0 0 X) nx M 28 [none, some (.int a1_1), none] []) → ∀ (k1 j1 : Nat), j1 + k1 = 49 → ∀ (a1_1 : Int32), pm_G l z D X 0 0 (pm_Q z D (pm_rt (some (.int (K1 (d_X13_links_L1 g k1 j1 a1_1)))) nx M) 0 0 X) nx M 4 [some (.ref (z + m0)), some (.int a1_1), some (.int (nI j1))] [] := by
    intro K1 hK1 k1
    induction k1 with
    | zero =>
      intro j1 hj1 a1_1
      have hjn1 : j1 = 49 := by omega
      refine pm_iload_n B dX13_links_4 rfl ?_
      refine pm_bipush (v := 49) B dX13_links_5 (by decide) ?_
      refine pm_icmp_ge (tgt := 28) B dX13_links_7 (by decide) (fun hq1 => ?_) (fun hq1 => absurd (by rw [show (49 : Int32) = nI 49 from rfl]; exact (nI_leI (by first | omega | decide) (by first | omega | decide)).mpr (by omega)) hq1)
      refine pm_wk (L' := [none, some (.int a1_1), none]) ⟨rfl, trivial⟩ ?_
      have hDq2 : (K1 (d_X13_links_L1 g 0 j1 a1_1)) = (K1 a1_1) := by rw [d_X13_links_L1]
      refine pm_pst (post' := pm_rt (some (.int (K1 a1_1))) nx M) (by rw [hDq2]) ?_
      exact hK1 a1_1
    | succ k1 ih1 =>
      intro j1 hj1 a1_1
      have hjn1 : j1 < 49 := by omega
      refine pm_iload_n B dX13_links_4 rfl ?_
      refine pm_bipush (v := 49) B dX13_links_5 (by decide) ?_
      refine pm_icmp_ge (tgt := 28) B dX13_links_7 (by decide) (fun hq3 => absurd hq3 (by rw [show (49 : Int32) = nI 49 from rfl]; exact fun e => absurd ((nI_leI (by first | omega | decide) (by first | omega | decide)).mp e) (by omega))) (fun hq3 => ?_)
      refine pm_iload_n B dX13_links_10 rfl ?_
      refine pm_aload_n B dX13_links_11 rfl ?_
      refine pm_get B dX13_links_12 fl_X13_9 hM rfl ?_
      refine pm_bipush (v := 42) B dX13_links_15 (by decide) ?_
      refine pm_iload_n B dX13_links_17 rfl ?_
      refine pm_iadd B dX13_links_18 ?_
      refine pm_stk (st' := [.int (nI (42 + j1)), .ref (z + (m0 + 1)), .int a1_1]) (by rw [show (42 + (nI j1)) = (nI (42 + j1)) from (by rw [show 42 = nI 42 from rfl, show (nI j1) = nI j1 from rfl, nI_add])]) ?_
      refine pm_iald_n B dX13_links_19 hg (42 + j1) (by first | assumption | omega) (by decide) ?_
      refine pm_iadd B dX13_links_20 ?_
      refine pm_istore_n B dX13_links_21 rfl rfl ?_
      refine pm_loc (L' := [some (.ref (z + m0)), some (.int (a1_1 + (g (42 + j1)))), some (.int (nI j1))]) rfl ?_
      refine pm_iinc B dX13_links_22 rfl rfl rfl ?_
      refine pm_loc (L' := [some (.ref (z + m0)), some (.int (a1_1 + (g (42 + j1)))), some (.int (nI (j1 + 1)))]) (by rw [show ((nI j1) : Int32) + Int32.ofInt 1 = (nI (j1 + 1)) from nI_1 _]; rfl) ?_
      refine pm_goto (tgt := 4) B dX13_links_25 (by decide) ?_
      have hDq4 : (K1 (d_X13_links_L1 g (k1 + 1) j1 a1_1)) = (K1 (d_X13_links_L1 g k1 (j1 + 1) (a1_1 + (g (42 + j1))))) := by rw [d_X13_links_L1]
      refine pm_pst (post' := pm_rt (some (.int (K1 (d_X13_links_L1 g k1 (j1 + 1) (a1_1 + (g (42 + j1))))))) nx M) (by rw [hDq4]) ?_
      exact ih1 (j1 + 1) (by omega) (a1_1 + (g (42 + j1)))
  refine pm_pst (post' := pm_rt (some (.int ((d_X13_links_L1 g 49 0 0) / 2))) nx M) (by rw [show (d_X13_links f g) = ((d_X13_links_L1 g 49 0 0) / 2) from by rw [d_X13_links]]) ?_
  refine loop1 (fun (a1_1 : Int32) => (a1_1 / 2)) ?_ 49 0 (by omega) 0
  intro a1_1
  refine pm_pst (post' := pm_rt (some (.int (a1_1 / 2))) nx M) rfl ?_
  refine pm_iload_n B dX13_links_28 rfl ?_
  refine pm_iconst (v := 2) B dX13_links_29 (by decide) ?_
  refine pm_idiv B dX13_links_30 (by first | decide | assumption) ?_
  have hDq5 : ((a1_1 / 2)) = (a1_1 / 2) := rfl
  exact pm_ireturn B dX13_links_31 rfl (by first | rfl | (apply pm_nz; first | assumption | decide | exact pm_in01 _ _ _ | simp)) ⟨(by rw [hDq5]), rfl, rfl⟩ rfl rfl
def d_X13_setsLink (i : Nat) (w : Nat) (v : Int32) (f : Nat → Int32) (g : Nat → Int32) : (Int32 × (Nat → Int32)) := ((d_X13_links f (upd (upd g ((42 + (7 * i)) + w) v) ((42 + (7 * w)) + i) v)), (upd (upd g ((42 + (7 * i)) + w) v) ((42 + (7 * w)) + i) v))
set_option maxRecDepth 100000 in
set_option maxHeartbeats 8000000 in
theorem c_X13_setsLink {l : Launch} {z : Nat} {D : va_G} {kA : Nat → ClassId} {kE : Nat → Nat} {nx : Nat} {M : pm_M} {i : Nat} {w : Nat} {v : Int32}{m0 : Nat} {f : Nat → Int32} {g : Nat → Int32} (hM : M m0 = some (pm_mo z m0 f)) (hg : M (m0 + 1) = some (.inl (kA 0, 91, .inl g))) (hi : i < 7) (hw : w < 7) : pm_C l z D kA kE yX13_setsLink cX13_setsLink 4 (some .int) 1 0 0 [.ref (z + m0), .int (nI i), .int (nI w), .int v] nx M (pm_rt (some (.int ((d_X13_setsLink i w v f g).1))) nx (pm_up M (m0 + 1) (.inl (kA 0, 91, .inl ((d_X13_setsLink i w v f g).2))))) := by
  refine pm_mk (own := RX13) (nm := "setsLink") mt_X13_setsLink rfl rfl rfl rfl fun X B => ?_
  refine pm_loc (L' := [some (.ref (z + m0)), some (.int (nI i)), some (.int (nI w)), some (.int v)]) rfl ?_
  refine pm_mem (M' := pm_up M (m0 + 1) (.inl (kA 0, 91, .inl g))) (by rw [pm_up_id hg]) ?_
  refine pm_aload_n B dX13_setsLink_0 rfl ?_
  refine pm_get B dX13_setsLink_1 fl_X13_9 ((pm_up_n (by omega)).trans hM) rfl ?_
  refine pm_bipush (v := 42) B dX13_setsLink_4 (by decide) ?_
  refine pm_bipush (v := 7) B dX13_setsLink_6 (by decide) ?_
  refine pm_iload_n B dX13_setsLink_8 rfl ?_
  refine pm_imul B dX13_setsLink_9 ?_
  refine pm_iadd B dX13_setsLink_10 ?_
  refine pm_iload_n B dX13_setsLink_11 rfl ?_
  refine pm_iadd B dX13_setsLink_12 ?_
  refine pm_iload_n B dX13_setsLink_13 rfl ?_
  refine pm_stk (st' := [.int v, .int (nI ((42 + (7 * i)) + w)), .ref (z + (m0 + 1))]) (by rw [show ((42 + (7 * (nI i))) + (nI w)) = (nI ((42 + (7 * i)) + w)) from (by rw [show (42 + (7 * (nI i))) = nI (42 + (7 * i)) from (by rw [show 42 = nI 42 from rfl, show (7 * (nI i)) = nI (7 * i) from (by rw [show 7 = nI 7 from rfl, show (nI i) = nI i from rfl, pk_mul]), nI_add]), show (nI w) = nI w from rfl, nI_add])]) ?_
  refine pm_iast_n B dX13_setsLink_14 pm_up_s ((42 + (7 * i)) + w) (by first | assumption | omega) (by decide) ?_
  refine pm_mem (M' := pm_up M (m0 + 1) (.inl (kA 0, 91, .inl (upd g ((42 + (7 * i)) + w) v)))) pm_up_up ?_
  refine pm_aload_n B dX13_setsLink_15 rfl ?_
  refine pm_get B dX13_setsLink_16 fl_X13_9 ((pm_up_n (by omega)).trans hM) rfl ?_
  refine pm_bipush (v := 42) B dX13_setsLink_19 (by decide) ?_
  refine pm_bipush (v := 7) B dX13_setsLink_21 (by decide) ?_
  refine pm_iload_n B dX13_setsLink_23 rfl ?_
  refine pm_imul B dX13_setsLink_24 ?_
  refine pm_iadd B dX13_setsLink_25 ?_
  refine pm_iload_n B dX13_setsLink_26 rfl ?_
  refine pm_iadd B dX13_setsLink_27 ?_
  refine pm_iload_n B dX13_setsLink_28 rfl ?_
  refine pm_stk (st' := [.int v, .int (nI ((42 + (7 * w)) + i)), .ref (z + (m0 + 1))]) (by rw [show ((42 + (7 * (nI w))) + (nI i)) = (nI ((42 + (7 * w)) + i)) from (by rw [show (42 + (7 * (nI w))) = nI (42 + (7 * w)) from (by rw [show 42 = nI 42 from rfl, show (7 * (nI w)) = nI (7 * w) from (by rw [show 7 = nI 7 from rfl, show (nI w) = nI w from rfl, pk_mul]), nI_add]), show (nI i) = nI i from rfl, nI_add])]) ?_
  refine pm_iast_n B dX13_setsLink_29 pm_up_s ((42 + (7 * w)) + i) (by first | assumption | omega) (by decide) ?_
  refine pm_mem (M' := pm_up M (m0 + 1) (.inl (kA 0, 91, .inl (upd (upd g ((42 + (7 * i)) + w) v) ((42 + (7 * w)) + i) v)))) pm_up_up ?_
  refine pm_aload_n B dX13_setsLink_30 rfl ?_
  refine pm_cV (As := []) (mc2 := 0) (ms2 := 0) B rfl ((pm_up_n (by omega)).trans hM) rfl (c_X13_links (f := f) (g := (upd (upd g ((42 + (7 * i)) + w) v) ((42 + (7 * w)) + i) v)) ((pm_up_n (by omega)).trans hM) pm_up_s ) mt_X13_links sv_X13_153 dX13_setsLink_31 rfl rfl rfl rfl rfl ?_
  refine pm_stk (st' := [.int (d_X13_links f (upd (upd g ((42 + (7 * i)) + w) v) ((42 + (7 * w)) + i) v))]) rfl ?_
  have hDq1 : (d_X13_setsLink i w v f g) = ((d_X13_links f (upd (upd g ((42 + (7 * i)) + w) v) ((42 + (7 * w)) + i) v)), (upd (upd g ((42 + (7 * i)) + w) v) ((42 + (7 * w)) + i) v)) := by rw [d_X13_setsLink]
  exact pm_ireturn B dX13_setsLink_34 rfl (by first | rfl | (apply pm_nz; first | assumption | decide | exact pm_in01 _ _ _ | simp)) ⟨(by rw [hDq1]), rfl, by rw [hDq1]⟩ rfl rfl
def d_X13_doLink (x : Int32) (y : Int32) (v : Int32) (n : Nat) (f : Nat → Int32) (g : Nat → Int32) : (Int32 × (Nat → Int32) × (Nat → Int32)) := if (pm_in x 0 (nI n - 1)) = 0 then (0, (upd f 6 1), g) else (if (pm_in y 0 (nI n - 1)) = 0 then (0, (upd f 6 1), g) else (if (nI (pm_n x)) = (nI (pm_n y)) then (0, (upd f 6 2), g) else (if v = 1 then (if (d_X13_linked (pm_n x) (pm_n y) f g) = 1 then (0, (upd (upd (upd f 7 4) 8 (d_X13_links f g)) 6 3), g) else (if v = 1 then (if (d_X13_links f g) = 12 then (0, (upd (upd (upd f 7 1) 8 12) 6 3), g) else (((d_X13_setsLink (pm_n x) (pm_n y) v f g).1), f, ((d_X13_setsLink (pm_n x) (pm_n y) v f g).2))) else (((d_X13_setsLink (pm_n x) (pm_n y) v f g).1), f, ((d_X13_setsLink (pm_n x) (pm_n y) v f g).2)))) else (if (d_X13_linked (pm_n x) (pm_n y) f g) = 0 then (0, (upd (upd (upd f 7 4) 8 (d_X13_links f g)) 6 3), g) else (if v = 1 then (if (d_X13_links f g) = 12 then (0, (upd (upd (upd f 7 1) 8 12) 6 3), g) else (((d_X13_setsLink (pm_n x) (pm_n y) v f g).1), f, ((d_X13_setsLink (pm_n x) (pm_n y) v f g).2))) else (((d_X13_setsLink (pm_n x) (pm_n y) v f g).1), f, ((d_X13_setsLink (pm_n x) (pm_n y) v f g).2)))))))
set_option maxRecDepth 100000 in
set_option maxHeartbeats 8000000 in
theorem c_X13_doLink {l : Launch} {z : Nat} {D : va_G} {kA : Nat → ClassId} {kE : Nat → Nat} {nx : Nat} {M : pm_M} {x : Int32} {y : Int32} {v : Int32} {n : Nat}{m0 : Nat} {f : Nat → Int32} {g : Nat → Int32} (hM : M m0 = some (pm_mo z m0 f)) (hg : M (m0 + 1) = some (.inl (kA 0, 91, .inl g))) (hn : g 0 = nI n) (h7 : n ≤ 7) : pm_C l z D kA kE yX13_doLink cX13_doLink 4 (some .int) 2 0 0 [.ref (z + m0), .int x, .int y, .int v] nx M (pm_rt (some (.int ((d_X13_doLink x y v n f g).1))) nx (pm_up (pm_up M m0 (pm_mo z m0 ((d_X13_doLink x y v n f g).2.1))) (m0 + 1) (.inl (kA 0, 91, .inl ((d_X13_doLink x y v n f g).2.2))))) := by
  refine pm_mk (own := RX13) (nm := "doLink") mt_X13_doLink rfl rfl rfl rfl fun X B => ?_
  refine pm_loc (L' := [some (.ref (z + m0)), some (.int x), some (.int y), some (.int v)]) rfl ?_
  refine pm_mem (M' := pm_up (pm_up M m0 (pm_mo z m0 f)) (m0 + 1) (.inl (kA 0, 91, .inl g))) (by rw [pm_up_id hM, pm_up_id hg]) ?_
  refine pm_aload_n B dX13_doLink_0 rfl ?_
  refine pm_iload_n B dX13_doLink_1 rfl ?_
  refine pm_cV (As := [.int x]) (mc2 := 0) (ms2 := 0) B rfl ((pm_up_n (by omega)).trans pm_up_s) rfl (c_X13_isMember (f := f) ((pm_up_n (by omega)).trans pm_up_s) pm_up_s) mt_X13_isMember sv_X13_100 dX13_doLink_2 rfl rfl rfl rfl rfl ?_
  refine pm_stk (st' := [.int (pm_in x 0 (g 0 - 1))]) rfl ?_
  refine pm_stk (st' := [.int (pm_in x 0 (nI n - 1))]) (by rw [show (pm_in x 0 (g 0 - 1)) = (pm_in x 0 (nI n - 1)) from by rw [hn]]) ?_
  refine pm_if_eq (tgt := 16) B dX13_doLink_5 (by decide) (fun hq1 => ?_) (fun hq1 => ?_)
  · refine pm_aload_n B dX13_doLink_16 rfl ?_
    refine pm_iconst (v := 1) B dX13_doLink_17 (by decide) ?_
    refine pm_cV (As := [.int 1]) (mc2 := 0) (ms2 := 0) B rfl ((pm_up_n (by omega)).trans pm_up_s) rfl (c_X13_fails (f := f) ((pm_up_n (by omega)).trans pm_up_s)) mt_X13_fails sv_X13_66 dX13_doLink_18 rfl rfl rfl rfl rfl ?_
    refine pm_mem (M' := pm_up (pm_up (pm_up M m0 (pm_mo z m0 f)) (m0 + 1) (.inl (kA 0, 91, .inl g))) m0 (pm_mo z m0 (upd f 6 1))) rfl ?_
    refine pm_mem (M' := pm_up (pm_up M m0 (pm_mo z m0 (upd f 6 1))) (m0 + 1) (.inl (kA 0, 91, .inl g))) (by rw [pm_up_sw (a := m0 + 1) (b := m0) (by omega), pm_up_up]) ?_
    refine pm_stk (st' := [.int 0]) rfl ?_
    have hDq2 : (d_X13_doLink x y v n f g) = (0, (upd f 6 1), g) := by rw [d_X13_doLink, if_pos hq1]
    exact pm_ireturn B dX13_doLink_21 rfl (by first | rfl | (apply pm_nz; first | assumption | decide | exact pm_in01 _ _ _ | simp)) ⟨(by rw [hDq2]), rfl, by rw [hDq2]⟩ rfl rfl
  · obtain ⟨he_x, hl_x⟩ := pm_in_nx h7 hq1
    refine pm_loc (L' := [some (.ref (z + m0)), some (.int (nI (pm_n x))), some (.int y), some (.int v)]) (congrArg (fun yy : Int32 => ([some (.ref (z + m0)), some (.int yy), some (.int y), some (.int v)] : List (Option Value))) he_x) ?_
    refine pm_aload_n B dX13_doLink_8 rfl ?_
    refine pm_iload_n B dX13_doLink_9 rfl ?_
    refine pm_cV (As := [.int y]) (mc2 := 0) (ms2 := 0) B rfl ((pm_up_n (by omega)).trans pm_up_s) rfl (c_X13_isMember (f := f) ((pm_up_n (by omega)).trans pm_up_s) pm_up_s) mt_X13_isMember sv_X13_100 dX13_doLink_10 rfl rfl rfl rfl rfl ?_
    refine pm_stk (st' := [.int (pm_in y 0 (g 0 - 1))]) rfl ?_
    refine pm_stk (st' := [.int (pm_in y 0 (nI n - 1))]) (by rw [show (pm_in y 0 (g 0 - 1)) = (pm_in y 0 (nI n - 1)) from by rw [hn]]) ?_
    refine pm_if_ne (tgt := 22) B dX13_doLink_13 (by decide) (fun hq3 => ?_) (fun hq3 => ?_)
    · obtain ⟨he_y, hl_y⟩ := pm_in_nx h7 hq3
      refine pm_loc (L' := [some (.ref (z + m0)), some (.int (nI (pm_n x))), some (.int (nI (pm_n y))), some (.int v)]) (congrArg (fun yy : Int32 => ([some (.ref (z + m0)), some (.int (nI (pm_n x))), some (.int yy), some (.int v)] : List (Option Value))) he_y) ?_
      refine pm_iload_n B dX13_doLink_22 rfl ?_
      refine pm_iload_n B dX13_doLink_23 rfl ?_
      refine pm_icmp_ne (tgt := 33) B dX13_doLink_24 (by decide) (fun hq4 => ?_) (fun hq4 => ?_)
      · refine pm_aload_n B dX13_doLink_33 rfl ?_
        refine pm_iload_n B dX13_doLink_34 rfl ?_
        refine pm_iload_n B dX13_doLink_35 rfl ?_
        refine pm_cV (As := [.int (nI (pm_n x)), .int (nI (pm_n y))]) (mc2 := 0) (ms2 := 0) B rfl ((pm_up_n (by omega)).trans pm_up_s) rfl (c_X13_linked (i := (pm_n x)) (w := (pm_n y)) (f := f) (g := g) ((pm_up_n (by omega)).trans pm_up_s) pm_up_s (by omega) (by omega)) mt_X13_linked sv_X13_156 dX13_doLink_36 rfl rfl rfl rfl rfl ?_
        refine pm_stk (st' := [.int (d_X13_linked (pm_n x) (pm_n y) f g)]) rfl ?_
        refine pm_iload_n B dX13_doLink_39 rfl ?_
        refine pm_iconst (v := 1) B dX13_doLink_40 (by decide) ?_
        refine pm_icmp_ne (tgt := 48) B dX13_doLink_41 (by decide) (fun hq5 => ?_) (fun hq5 => ?_)
        · refine pm_iconst (v := 0) B dX13_doLink_48 (by decide) ?_
          refine pm_icmp_ne (tgt := 63) B dX13_doLink_49 (by decide) (fun hq6 => ?_) (fun hq6 => ?_)
          · refine pm_iload_n B dX13_doLink_63 rfl ?_
            refine pm_iconst (v := 1) B dX13_doLink_64 (by decide) ?_
            refine pm_icmp_ne (tgt := 86) B dX13_doLink_65 (by decide) (fun hq7 => ?_) (fun hq7 => ?_)
            · refine pm_aload_n B dX13_doLink_86 rfl ?_
              refine pm_iload_n B dX13_doLink_87 rfl ?_
              refine pm_iload_n B dX13_doLink_88 rfl ?_
              refine pm_iload_n B dX13_doLink_89 rfl ?_
              refine pm_cV (As := [.int (nI (pm_n x)), .int (nI (pm_n y)), .int v]) (mc2 := 0) (ms2 := 0) B rfl ((pm_up_n (by omega)).trans pm_up_s) rfl (c_X13_setsLink (i := (pm_n x)) (w := (pm_n y)) (v := v) (f := f) (g := g) ((pm_up_n (by omega)).trans pm_up_s) pm_up_s (by omega) (by omega)) mt_X13_setsLink sv_X13_160 dX13_doLink_90 rfl rfl rfl rfl rfl ?_
              refine pm_mem (M' := pm_up (pm_up (pm_up M m0 (pm_mo z m0 f)) (m0 + 1) (.inl (kA 0, 91, .inl g))) (m0 + 1) (.inl (kA 0, 91, .inl ((d_X13_setsLink (pm_n x) (pm_n y) v f g).2)))) rfl ?_
              refine pm_mem (M' := pm_up (pm_up M m0 (pm_mo z m0 f)) (m0 + 1) (.inl (kA 0, 91, .inl ((d_X13_setsLink (pm_n x) (pm_n y) v f g).2)))) (by rw [pm_up_up (a := m0 + 1)]) ?_
              refine pm_stk (st' := [.int ((d_X13_setsLink (pm_n x) (pm_n y) v f g).1)]) rfl ?_
              have hDq8 : (d_X13_doLink x y v n f g) = (((d_X13_setsLink (pm_n x) (pm_n y) v f g).1), f, ((d_X13_setsLink (pm_n x) (pm_n y) v f g).2)) := by rw [d_X13_doLink, if_neg hq1, if_neg hq3, if_neg hq4, if_neg hq5, if_neg hq6, if_neg hq7]
              exact pm_ireturn B dX13_doLink_93 rfl (by first | rfl | (apply pm_nz; first | assumption | decide | exact pm_in01 _ _ _ | simp)) ⟨(by rw [hDq8]), rfl, by rw [hDq8]⟩ rfl rfl
            · refine pm_aload_n B dX13_doLink_68 rfl ?_
              refine pm_cV (As := []) (mc2 := 0) (ms2 := 0) B rfl ((pm_up_n (by omega)).trans pm_up_s) rfl (c_X13_links (f := f) (g := g) ((pm_up_n (by omega)).trans pm_up_s) pm_up_s ) mt_X13_links sv_X13_153 dX13_doLink_69 rfl rfl rfl rfl rfl ?_
              refine pm_stk (st' := [.int (d_X13_links f g)]) rfl ?_
              refine pm_bipush (v := 12) B dX13_doLink_72 (by decide) ?_
              refine pm_icmp_ne (tgt := 86) B dX13_doLink_74 (by decide) (fun hq9 => ?_) (fun hq9 => ?_)
              · refine pm_aload_n B dX13_doLink_86 rfl ?_
                refine pm_iload_n B dX13_doLink_87 rfl ?_
                refine pm_iload_n B dX13_doLink_88 rfl ?_
                refine pm_iload_n B dX13_doLink_89 rfl ?_
                refine pm_cV (As := [.int (nI (pm_n x)), .int (nI (pm_n y)), .int v]) (mc2 := 0) (ms2 := 0) B rfl ((pm_up_n (by omega)).trans pm_up_s) rfl (c_X13_setsLink (i := (pm_n x)) (w := (pm_n y)) (v := v) (f := f) (g := g) ((pm_up_n (by omega)).trans pm_up_s) pm_up_s (by omega) (by omega)) mt_X13_setsLink sv_X13_160 dX13_doLink_90 rfl rfl rfl rfl rfl ?_
                refine pm_mem (M' := pm_up (pm_up (pm_up M m0 (pm_mo z m0 f)) (m0 + 1) (.inl (kA 0, 91, .inl g))) (m0 + 1) (.inl (kA 0, 91, .inl ((d_X13_setsLink (pm_n x) (pm_n y) v f g).2)))) rfl ?_
                refine pm_mem (M' := pm_up (pm_up M m0 (pm_mo z m0 f)) (m0 + 1) (.inl (kA 0, 91, .inl ((d_X13_setsLink (pm_n x) (pm_n y) v f g).2)))) (by rw [pm_up_up (a := m0 + 1)]) ?_
                refine pm_stk (st' := [.int ((d_X13_setsLink (pm_n x) (pm_n y) v f g).1)]) rfl ?_
                have hDq10 : (d_X13_doLink x y v n f g) = (((d_X13_setsLink (pm_n x) (pm_n y) v f g).1), f, ((d_X13_setsLink (pm_n x) (pm_n y) v f g).2)) := by rw [d_X13_doLink, if_neg hq1, if_neg hq3, if_neg hq4, if_neg hq5, if_neg hq6, if_pos hq7, if_neg hq9]
                exact pm_ireturn B dX13_doLink_93 rfl (by first | rfl | (apply pm_nz; first | assumption | decide | exact pm_in01 _ _ _ | simp)) ⟨(by rw [hDq10]), rfl, by rw [hDq10]⟩ rfl rfl
              · refine pm_aload_n B dX13_doLink_77 rfl ?_
                refine pm_iconst (v := 3) B dX13_doLink_78 (by decide) ?_
                refine pm_iconst (v := 1) B dX13_doLink_79 (by decide) ?_
                refine pm_bipush (v := 12) B dX13_doLink_80 (by decide) ?_
                refine pm_cV (As := [.int 3, .int 1, .int 12]) (mc2 := 0) (ms2 := 0) B rfl ((pm_up_n (by omega)).trans pm_up_s) rfl (c_X13_denies (f := f) ((pm_up_n (by omega)).trans pm_up_s)) mt_X13_denies sv_X13_83 dX13_doLink_82 rfl rfl rfl rfl rfl ?_
                refine pm_mem (M' := pm_up (pm_up (pm_up M m0 (pm_mo z m0 f)) (m0 + 1) (.inl (kA 0, 91, .inl g))) m0 (pm_mo z m0 (upd (upd (upd f 7 1) 8 12) 6 3))) rfl ?_
                refine pm_mem (M' := pm_up (pm_up M m0 (pm_mo z m0 (upd (upd (upd f 7 1) 8 12) 6 3))) (m0 + 1) (.inl (kA 0, 91, .inl g))) (by rw [pm_up_sw (a := m0 + 1) (b := m0) (by omega), pm_up_up]) ?_
                refine pm_stk (st' := [.int 0]) rfl ?_
                have hDq11 : (d_X13_doLink x y v n f g) = (0, (upd (upd (upd f 7 1) 8 12) 6 3), g) := by rw [d_X13_doLink, if_neg hq1, if_neg hq3, if_neg hq4, if_neg hq5, if_neg hq6, if_pos hq7, if_pos hq9]
                exact pm_ireturn B dX13_doLink_85 rfl (by first | rfl | (apply pm_nz; first | assumption | decide | exact pm_in01 _ _ _ | simp)) ⟨(by rw [hDq11]), rfl, by rw [hDq11]⟩ rfl rfl
          · refine pm_aload_n B dX13_doLink_52 rfl ?_
            refine pm_iconst (v := 3) B dX13_doLink_53 (by decide) ?_
            refine pm_iconst (v := 4) B dX13_doLink_54 (by decide) ?_
            refine pm_aload_n B dX13_doLink_55 rfl ?_
            refine pm_cV (As := []) (mc2 := 0) (ms2 := 0) B rfl ((pm_up_n (by omega)).trans pm_up_s) rfl (c_X13_links (f := f) (g := g) ((pm_up_n (by omega)).trans pm_up_s) pm_up_s ) mt_X13_links sv_X13_153 dX13_doLink_56 rfl rfl rfl rfl rfl ?_
            refine pm_stk (st' := [.int (d_X13_links f g), .int 4, .int 3, .ref (z + m0)]) rfl ?_
            refine pm_cV (As := [.int 3, .int 4, .int (d_X13_links f g)]) (mc2 := 0) (ms2 := 0) B rfl ((pm_up_n (by omega)).trans pm_up_s) rfl (c_X13_denies (f := f) ((pm_up_n (by omega)).trans pm_up_s)) mt_X13_denies sv_X13_83 dX13_doLink_59 rfl rfl rfl rfl rfl ?_
            refine pm_mem (M' := pm_up (pm_up (pm_up M m0 (pm_mo z m0 f)) (m0 + 1) (.inl (kA 0, 91, .inl g))) m0 (pm_mo z m0 (upd (upd (upd f 7 4) 8 (d_X13_links f g)) 6 3))) rfl ?_
            refine pm_mem (M' := pm_up (pm_up M m0 (pm_mo z m0 (upd (upd (upd f 7 4) 8 (d_X13_links f g)) 6 3))) (m0 + 1) (.inl (kA 0, 91, .inl g))) (by rw [pm_up_sw (a := m0 + 1) (b := m0) (by omega), pm_up_up]) ?_
            refine pm_stk (st' := [.int 0]) rfl ?_
            have hDq12 : (d_X13_doLink x y v n f g) = (0, (upd (upd (upd f 7 4) 8 (d_X13_links f g)) 6 3), g) := by rw [d_X13_doLink, if_neg hq1, if_neg hq3, if_neg hq4, if_neg hq5, if_pos hq6]
            exact pm_ireturn B dX13_doLink_62 rfl (by first | rfl | (apply pm_nz; first | assumption | decide | exact pm_in01 _ _ _ | simp)) ⟨(by rw [hDq12]), rfl, by rw [hDq12]⟩ rfl rfl
        · refine pm_iconst (v := 1) B dX13_doLink_44 (by decide) ?_
          refine pm_goto (tgt := 49) B dX13_doLink_45 (by decide) ?_
          refine pm_icmp_ne (tgt := 63) B dX13_doLink_49 (by decide) (fun hq13 => ?_) (fun hq13 => ?_)
          · refine pm_iload_n B dX13_doLink_63 rfl ?_
            refine pm_iconst (v := 1) B dX13_doLink_64 (by decide) ?_
            refine pm_icmp_ne (tgt := 86) B dX13_doLink_65 (by decide) (fun hq14 => ?_) (fun hq14 => ?_)
            · refine pm_aload_n B dX13_doLink_86 rfl ?_
              refine pm_iload_n B dX13_doLink_87 rfl ?_
              refine pm_iload_n B dX13_doLink_88 rfl ?_
              refine pm_iload_n B dX13_doLink_89 rfl ?_
              refine pm_cV (As := [.int (nI (pm_n x)), .int (nI (pm_n y)), .int v]) (mc2 := 0) (ms2 := 0) B rfl ((pm_up_n (by omega)).trans pm_up_s) rfl (c_X13_setsLink (i := (pm_n x)) (w := (pm_n y)) (v := v) (f := f) (g := g) ((pm_up_n (by omega)).trans pm_up_s) pm_up_s (by omega) (by omega)) mt_X13_setsLink sv_X13_160 dX13_doLink_90 rfl rfl rfl rfl rfl ?_
              refine pm_mem (M' := pm_up (pm_up (pm_up M m0 (pm_mo z m0 f)) (m0 + 1) (.inl (kA 0, 91, .inl g))) (m0 + 1) (.inl (kA 0, 91, .inl ((d_X13_setsLink (pm_n x) (pm_n y) v f g).2)))) rfl ?_
              refine pm_mem (M' := pm_up (pm_up M m0 (pm_mo z m0 f)) (m0 + 1) (.inl (kA 0, 91, .inl ((d_X13_setsLink (pm_n x) (pm_n y) v f g).2)))) (by rw [pm_up_up (a := m0 + 1)]) ?_
              refine pm_stk (st' := [.int ((d_X13_setsLink (pm_n x) (pm_n y) v f g).1)]) rfl ?_
              have hDq15 : (d_X13_doLink x y v n f g) = (((d_X13_setsLink (pm_n x) (pm_n y) v f g).1), f, ((d_X13_setsLink (pm_n x) (pm_n y) v f g).2)) := by rw [d_X13_doLink, if_neg hq1, if_neg hq3, if_neg hq4, if_pos hq5, if_neg hq13, if_neg hq14]
              exact pm_ireturn B dX13_doLink_93 rfl (by first | rfl | (apply pm_nz; first | assumption | decide | exact pm_in01 _ _ _ | simp)) ⟨(by rw [hDq15]), rfl, by rw [hDq15]⟩ rfl rfl
            · refine pm_aload_n B dX13_doLink_68 rfl ?_
              refine pm_cV (As := []) (mc2 := 0) (ms2 := 0) B rfl ((pm_up_n (by omega)).trans pm_up_s) rfl (c_X13_links (f := f) (g := g) ((pm_up_n (by omega)).trans pm_up_s) pm_up_s ) mt_X13_links sv_X13_153 dX13_doLink_69 rfl rfl rfl rfl rfl ?_
              refine pm_stk (st' := [.int (d_X13_links f g)]) rfl ?_
              refine pm_bipush (v := 12) B dX13_doLink_72 (by decide) ?_
              refine pm_icmp_ne (tgt := 86) B dX13_doLink_74 (by decide) (fun hq16 => ?_) (fun hq16 => ?_)
              · refine pm_aload_n B dX13_doLink_86 rfl ?_
                refine pm_iload_n B dX13_doLink_87 rfl ?_
                refine pm_iload_n B dX13_doLink_88 rfl ?_
                refine pm_iload_n B dX13_doLink_89 rfl ?_
                refine pm_cV (As := [.int (nI (pm_n x)), .int (nI (pm_n y)), .int v]) (mc2 := 0) (ms2 := 0) B rfl ((pm_up_n (by omega)).trans pm_up_s) rfl (c_X13_setsLink (i := (pm_n x)) (w := (pm_n y)) (v := v) (f := f) (g := g) ((pm_up_n (by omega)).trans pm_up_s) pm_up_s (by omega) (by omega)) mt_X13_setsLink sv_X13_160 dX13_doLink_90 rfl rfl rfl rfl rfl ?_
                refine pm_mem (M' := pm_up (pm_up (pm_up M m0 (pm_mo z m0 f)) (m0 + 1) (.inl (kA 0, 91, .inl g))) (m0 + 1) (.inl (kA 0, 91, .inl ((d_X13_setsLink (pm_n x) (pm_n y) v f g).2)))) rfl ?_
                refine pm_mem (M' := pm_up (pm_up M m0 (pm_mo z m0 f)) (m0 + 1) (.inl (kA 0, 91, .inl ((d_X13_setsLink (pm_n x) (pm_n y) v f g).2)))) (by rw [pm_up_up (a := m0 + 1)]) ?_
                refine pm_stk (st' := [.int ((d_X13_setsLink (pm_n x) (pm_n y) v f g).1)]) rfl ?_
                have hDq17 : (d_X13_doLink x y v n f g) = (((d_X13_setsLink (pm_n x) (pm_n y) v f g).1), f, ((d_X13_setsLink (pm_n x) (pm_n y) v f g).2)) := by rw [d_X13_doLink, if_neg hq1, if_neg hq3, if_neg hq4, if_pos hq5, if_neg hq13, if_pos hq14, if_neg hq16]
                exact pm_ireturn B dX13_doLink_93 rfl (by first | rfl | (apply pm_nz; first | assumption | decide | exact pm_in01 _ _ _ | simp)) ⟨(by rw [hDq17]), rfl, by rw [hDq17]⟩ rfl rfl
              · refine pm_aload_n B dX13_doLink_77 rfl ?_
                refine pm_iconst (v := 3) B dX13_doLink_78 (by decide) ?_
                refine pm_iconst (v := 1) B dX13_doLink_79 (by decide) ?_
                refine pm_bipush (v := 12) B dX13_doLink_80 (by decide) ?_
                refine pm_cV (As := [.int 3, .int 1, .int 12]) (mc2 := 0) (ms2 := 0) B rfl ((pm_up_n (by omega)).trans pm_up_s) rfl (c_X13_denies (f := f) ((pm_up_n (by omega)).trans pm_up_s)) mt_X13_denies sv_X13_83 dX13_doLink_82 rfl rfl rfl rfl rfl ?_
                refine pm_mem (M' := pm_up (pm_up (pm_up M m0 (pm_mo z m0 f)) (m0 + 1) (.inl (kA 0, 91, .inl g))) m0 (pm_mo z m0 (upd (upd (upd f 7 1) 8 12) 6 3))) rfl ?_
                refine pm_mem (M' := pm_up (pm_up M m0 (pm_mo z m0 (upd (upd (upd f 7 1) 8 12) 6 3))) (m0 + 1) (.inl (kA 0, 91, .inl g))) (by rw [pm_up_sw (a := m0 + 1) (b := m0) (by omega), pm_up_up]) ?_
                refine pm_stk (st' := [.int 0]) rfl ?_
                have hDq18 : (d_X13_doLink x y v n f g) = (0, (upd (upd (upd f 7 1) 8 12) 6 3), g) := by rw [d_X13_doLink, if_neg hq1, if_neg hq3, if_neg hq4, if_pos hq5, if_neg hq13, if_pos hq14, if_pos hq16]
                exact pm_ireturn B dX13_doLink_85 rfl (by first | rfl | (apply pm_nz; first | assumption | decide | exact pm_in01 _ _ _ | simp)) ⟨(by rw [hDq18]), rfl, by rw [hDq18]⟩ rfl rfl
          · refine pm_aload_n B dX13_doLink_52 rfl ?_
            refine pm_iconst (v := 3) B dX13_doLink_53 (by decide) ?_
            refine pm_iconst (v := 4) B dX13_doLink_54 (by decide) ?_
            refine pm_aload_n B dX13_doLink_55 rfl ?_
            refine pm_cV (As := []) (mc2 := 0) (ms2 := 0) B rfl ((pm_up_n (by omega)).trans pm_up_s) rfl (c_X13_links (f := f) (g := g) ((pm_up_n (by omega)).trans pm_up_s) pm_up_s ) mt_X13_links sv_X13_153 dX13_doLink_56 rfl rfl rfl rfl rfl ?_
            refine pm_stk (st' := [.int (d_X13_links f g), .int 4, .int 3, .ref (z + m0)]) rfl ?_
            refine pm_cV (As := [.int 3, .int 4, .int (d_X13_links f g)]) (mc2 := 0) (ms2 := 0) B rfl ((pm_up_n (by omega)).trans pm_up_s) rfl (c_X13_denies (f := f) ((pm_up_n (by omega)).trans pm_up_s)) mt_X13_denies sv_X13_83 dX13_doLink_59 rfl rfl rfl rfl rfl ?_
            refine pm_mem (M' := pm_up (pm_up (pm_up M m0 (pm_mo z m0 f)) (m0 + 1) (.inl (kA 0, 91, .inl g))) m0 (pm_mo z m0 (upd (upd (upd f 7 4) 8 (d_X13_links f g)) 6 3))) rfl ?_
            refine pm_mem (M' := pm_up (pm_up M m0 (pm_mo z m0 (upd (upd (upd f 7 4) 8 (d_X13_links f g)) 6 3))) (m0 + 1) (.inl (kA 0, 91, .inl g))) (by rw [pm_up_sw (a := m0 + 1) (b := m0) (by omega), pm_up_up]) ?_
            refine pm_stk (st' := [.int 0]) rfl ?_
            have hDq19 : (d_X13_doLink x y v n f g) = (0, (upd (upd (upd f 7 4) 8 (d_X13_links f g)) 6 3), g) := by rw [d_X13_doLink, if_neg hq1, if_neg hq3, if_neg hq4, if_pos hq5, if_pos hq13]
            exact pm_ireturn B dX13_doLink_62 rfl (by first | rfl | (apply pm_nz; first | assumption | decide | exact pm_in01 _ _ _ | simp)) ⟨(by rw [hDq19]), rfl, by rw [hDq19]⟩ rfl rfl
      · refine pm_aload_n B dX13_doLink_27 rfl ?_
        refine pm_iconst (v := 2) B dX13_doLink_28 (by decide) ?_
        refine pm_cV (As := [.int 2]) (mc2 := 0) (ms2 := 0) B rfl ((pm_up_n (by omega)).trans pm_up_s) rfl (c_X13_fails (f := f) ((pm_up_n (by omega)).trans pm_up_s)) mt_X13_fails sv_X13_66 dX13_doLink_29 rfl rfl rfl rfl rfl ?_
        refine pm_mem (M' := pm_up (pm_up (pm_up M m0 (pm_mo z m0 f)) (m0 + 1) (.inl (kA 0, 91, .inl g))) m0 (pm_mo z m0 (upd f 6 2))) rfl ?_
        refine pm_mem (M' := pm_up (pm_up M m0 (pm_mo z m0 (upd f 6 2))) (m0 + 1) (.inl (kA 0, 91, .inl g))) (by rw [pm_up_sw (a := m0 + 1) (b := m0) (by omega), pm_up_up]) ?_
        refine pm_stk (st' := [.int 0]) rfl ?_
        have hDq20 : (d_X13_doLink x y v n f g) = (0, (upd f 6 2), g) := by rw [d_X13_doLink, if_neg hq1, if_neg hq3, if_pos hq4]
        exact pm_ireturn B dX13_doLink_32 rfl (by first | rfl | (apply pm_nz; first | assumption | decide | exact pm_in01 _ _ _ | simp)) ⟨(by rw [hDq20]), rfl, by rw [hDq20]⟩ rfl rfl
    · refine pm_aload_n B dX13_doLink_16 rfl ?_
      refine pm_iconst (v := 1) B dX13_doLink_17 (by decide) ?_
      refine pm_cV (As := [.int 1]) (mc2 := 0) (ms2 := 0) B rfl ((pm_up_n (by omega)).trans pm_up_s) rfl (c_X13_fails (f := f) ((pm_up_n (by omega)).trans pm_up_s)) mt_X13_fails sv_X13_66 dX13_doLink_18 rfl rfl rfl rfl rfl ?_
      refine pm_mem (M' := pm_up (pm_up (pm_up M m0 (pm_mo z m0 f)) (m0 + 1) (.inl (kA 0, 91, .inl g))) m0 (pm_mo z m0 (upd f 6 1))) rfl ?_
      refine pm_mem (M' := pm_up (pm_up M m0 (pm_mo z m0 (upd f 6 1))) (m0 + 1) (.inl (kA 0, 91, .inl g))) (by rw [pm_up_sw (a := m0 + 1) (b := m0) (by omega), pm_up_up]) ?_
      refine pm_stk (st' := [.int 0]) rfl ?_
      have hDq21 : (d_X13_doLink x y v n f g) = (0, (upd f 6 1), g) := by rw [d_X13_doLink, if_neg hq1, if_pos hq3]
      exact pm_ireturn B dX13_doLink_21 rfl (by first | rfl | (apply pm_nz; first | assumption | decide | exact pm_in01 _ _ _ | simp)) ⟨(by rw [hDq21]), rfl, by rw [hDq21]⟩ rfl rfl
theorem d_X13_doLink_k_f5 (x : Int32) (y : Int32) (v : Int32) (n : Nat) (f : Nat → Int32) (g : Nat → Int32) : ((d_X13_doLink x y v n f g).2.1) 5 = f 5 := by
  unfold d_X13_doLink
  (repeat' split) <;> rfl
def d_X13_link (x : Int32) (y : Int32) (n : Nat) (k : Nat) (f : Nat → Int32) (g : Nat → Int32) (gb : Nat → Int32) (gp : Nat → Int32) : (Int32 × (Nat → Int32) × (Nat → Int32) × (Nat → Int32) × (Nat → Int32)) := (((d_X13_ends ((d_X13_doLink x y 1 n ((d_X13_keep f g gb).1) g).1) 0 k ((d_X13_doLink x y 1 n ((d_X13_keep f g gb).1) g).2.1) ((d_X13_doLink x y 1 n ((d_X13_keep f g gb).1) g).2.2) ((d_X13_keep f g gb).2) gp).1), ((d_X13_ends ((d_X13_doLink x y 1 n ((d_X13_keep f g gb).1) g).1) 0 k ((d_X13_doLink x y 1 n ((d_X13_keep f g gb).1) g).2.1) ((d_X13_doLink x y 1 n ((d_X13_keep f g gb).1) g).2.2) ((d_X13_keep f g gb).2) gp).2.1), ((d_X13_ends ((d_X13_doLink x y 1 n ((d_X13_keep f g gb).1) g).1) 0 k ((d_X13_doLink x y 1 n ((d_X13_keep f g gb).1) g).2.1) ((d_X13_doLink x y 1 n ((d_X13_keep f g gb).1) g).2.2) ((d_X13_keep f g gb).2) gp).2.2.1), ((d_X13_keep f g gb).2), ((d_X13_ends ((d_X13_doLink x y 1 n ((d_X13_keep f g gb).1) g).1) 0 k ((d_X13_doLink x y 1 n ((d_X13_keep f g gb).1) g).2.1) ((d_X13_doLink x y 1 n ((d_X13_keep f g gb).1) g).2.2) ((d_X13_keep f g gb).2) gp).2.2.2))
set_option maxRecDepth 100000 in
set_option maxHeartbeats 8000000 in
theorem c_X13_link {l : Launch} {z : Nat} {D : va_G} {kA : Nat → ClassId} {kE : Nat → Nat} {nx : Nat} {M : pm_M} {x : Int32} {y : Int32} {n : Nat} {k : Nat}{m0 : Nat} {f : Nat → Int32} {g : Nat → Int32} {gb : Nat → Int32} {gp : Nat → Int32} (hM : M m0 = some (pm_mo z m0 f)) (hg : M (m0 + 1) = some (.inl (kA 0, 91, .inl g))) (hgb : M (m0 + 2) = some (.inl (kA 0, 91, .inl gb))) (hgp : M (m0 + 4) = some (.inl (kA 0, 728, .inl gp))) (hn : g 0 = nI n) (h7 : n ≤ 7) (hf5 : f 5 = nI k) (h8 : k ≤ 8) : pm_C l z D kA kE yX13_link cX13_link 3 (some .int) 3 0 0 [.ref (z + m0), .int x, .int y] nx M (pm_rt (some (.int ((d_X13_link x y n k f g gb gp).1))) nx (pm_up (pm_up (pm_up (pm_up M m0 (pm_mo z m0 ((d_X13_link x y n k f g gb gp).2.1))) (m0 + 1) (.inl (kA 0, 91, .inl ((d_X13_link x y n k f g gb gp).2.2.1)))) (m0 + 2) (.inl (kA 0, 91, .inl ((d_X13_link x y n k f g gb gp).2.2.2.1)))) (m0 + 4) (.inl (kA 0, 728, .inl ((d_X13_link x y n k f g gb gp).2.2.2.2))))) := by
  refine pm_mk (own := RX13) (nm := "link") mt_X13_link rfl rfl rfl rfl fun X B => ?_
  refine pm_loc (L' := [some (.ref (z + m0)), some (.int x), some (.int y)]) rfl ?_
  refine pm_mem (M' := pm_up (pm_up (pm_up (pm_up M m0 (pm_mo z m0 f)) (m0 + 1) (.inl (kA 0, 91, .inl g))) (m0 + 2) (.inl (kA 0, 91, .inl gb))) (m0 + 4) (.inl (kA 0, 728, .inl gp))) (by rw [pm_up_id hM, pm_up_id hg, pm_up_id hgb, pm_up_id hgp]) ?_
  refine pm_aload_n B dX13_link_0 rfl ?_
  refine pm_cV (As := []) (mc2 := 0) (ms2 := 0) B rfl ((pm_up_n (by omega)).trans ((pm_up_n (by omega)).trans ((pm_up_n (by omega)).trans pm_up_s))) rfl (c_X13_keep (f := f) (g := g) (gb := gb) ((pm_up_n (by omega)).trans ((pm_up_n (by omega)).trans ((pm_up_n (by omega)).trans pm_up_s))) ((pm_up_n (by omega)).trans ((pm_up_n (by omega)).trans pm_up_s)) ((pm_up_n (by omega)).trans pm_up_s) ) mt_X13_keep sv_X13_91 dX13_link_1 rfl rfl rfl rfl rfl ?_
  refine pm_mem (M' := pm_up (pm_up (pm_up (pm_up (pm_up (pm_up M m0 (pm_mo z m0 f)) (m0 + 1) (.inl (kA 0, 91, .inl g))) (m0 + 2) (.inl (kA 0, 91, .inl gb))) (m0 + 4) (.inl (kA 0, 728, .inl gp))) m0 (pm_mo z m0 ((d_X13_keep f g gb).1))) (m0 + 2) (.inl (kA 0, 91, .inl ((d_X13_keep f g gb).2)))) rfl ?_
  refine pm_mem (M' := pm_up (pm_up (pm_up (pm_up (pm_up M m0 (pm_mo z m0 ((d_X13_keep f g gb).1))) (m0 + 1) (.inl (kA 0, 91, .inl g))) (m0 + 2) (.inl (kA 0, 91, .inl gb))) (m0 + 4) (.inl (kA 0, 728, .inl gp))) (m0 + 2) (.inl (kA 0, 91, .inl ((d_X13_keep f g gb).2)))) (by rw [pm_up_sw (a := m0 + 4) (b := m0) (by omega), pm_up_sw (a := m0 + 2) (b := m0) (by omega), pm_up_sw (a := m0 + 1) (b := m0) (by omega), pm_up_up (a := m0)]) ?_
  refine pm_mem (M' := pm_up (pm_up (pm_up (pm_up M m0 (pm_mo z m0 ((d_X13_keep f g gb).1))) (m0 + 1) (.inl (kA 0, 91, .inl g))) (m0 + 2) (.inl (kA 0, 91, .inl ((d_X13_keep f g gb).2)))) (m0 + 4) (.inl (kA 0, 728, .inl gp))) (by rw [pm_up_sw (a := m0 + 4) (b := m0 + 2) (by omega), pm_up_up (a := m0 + 2)]) ?_
  refine pm_stk (st' := []) rfl ?_
  refine pm_aload_n B dX13_link_4 rfl ?_
  refine pm_aload_n B dX13_link_5 rfl ?_
  refine pm_iload_n B dX13_link_6 rfl ?_
  refine pm_iload_n B dX13_link_7 rfl ?_
  refine pm_iconst (v := 1) B dX13_link_8 (by decide) ?_
  refine pm_cV (As := [.int x, .int y, .int 1]) (mc2 := 0) (ms2 := 0) B rfl ((pm_up_n (by omega)).trans ((pm_up_n (by omega)).trans ((pm_up_n (by omega)).trans pm_up_s))) rfl (c_X13_doLink (x := x) (y := y) (v := 1) (n := n) (f := ((d_X13_keep f g gb).1)) (g := g) ((pm_up_n (by omega)).trans ((pm_up_n (by omega)).trans ((pm_up_n (by omega)).trans pm_up_s))) ((pm_up_n (by omega)).trans ((pm_up_n (by omega)).trans pm_up_s)) hn (by first | assumption | omega)) mt_X13_doLink sv_X13_163 dX13_link_9 rfl rfl rfl rfl rfl ?_
  refine pm_mem (M' := pm_up (pm_up (pm_up (pm_up (pm_up (pm_up M m0 (pm_mo z m0 ((d_X13_keep f g gb).1))) (m0 + 1) (.inl (kA 0, 91, .inl g))) (m0 + 2) (.inl (kA 0, 91, .inl ((d_X13_keep f g gb).2)))) (m0 + 4) (.inl (kA 0, 728, .inl gp))) m0 (pm_mo z m0 ((d_X13_doLink x y 1 n ((d_X13_keep f g gb).1) g).2.1))) (m0 + 1) (.inl (kA 0, 91, .inl ((d_X13_doLink x y 1 n ((d_X13_keep f g gb).1) g).2.2)))) rfl ?_
  refine pm_mem (M' := pm_up (pm_up (pm_up (pm_up (pm_up M m0 (pm_mo z m0 ((d_X13_doLink x y 1 n ((d_X13_keep f g gb).1) g).2.1))) (m0 + 1) (.inl (kA 0, 91, .inl g))) (m0 + 2) (.inl (kA 0, 91, .inl ((d_X13_keep f g gb).2)))) (m0 + 4) (.inl (kA 0, 728, .inl gp))) (m0 + 1) (.inl (kA 0, 91, .inl ((d_X13_doLink x y 1 n ((d_X13_keep f g gb).1) g).2.2)))) (by rw [pm_up_sw (a := m0 + 4) (b := m0) (by omega), pm_up_sw (a := m0 + 2) (b := m0) (by omega), pm_up_sw (a := m0 + 1) (b := m0) (by omega), pm_up_up (a := m0)]) ?_
  refine pm_mem (M' := pm_up (pm_up (pm_up (pm_up M m0 (pm_mo z m0 ((d_X13_doLink x y 1 n ((d_X13_keep f g gb).1) g).2.1))) (m0 + 1) (.inl (kA 0, 91, .inl ((d_X13_doLink x y 1 n ((d_X13_keep f g gb).1) g).2.2)))) (m0 + 2) (.inl (kA 0, 91, .inl ((d_X13_keep f g gb).2)))) (m0 + 4) (.inl (kA 0, 728, .inl gp))) (by rw [pm_up_sw (a := m0 + 4) (b := m0 + 1) (by omega), pm_up_sw (a := m0 + 2) (b := m0 + 1) (by omega), pm_up_up (a := m0 + 1)]) ?_
  refine pm_stk (st' := [.int ((d_X13_doLink x y 1 n ((d_X13_keep f g gb).1) g).1), .ref (z + m0)]) rfl ?_
  refine pm_iconst (v := 0) B dX13_link_12 (by decide) ?_
  refine pm_cV (As := [.int ((d_X13_doLink x y 1 n ((d_X13_keep f g gb).1) g).1), .int 0]) (mc2 := 0) (ms2 := 0) B rfl ((pm_up_n (by omega)).trans ((pm_up_n (by omega)).trans ((pm_up_n (by omega)).trans pm_up_s))) rfl (c_X13_ends (x := ((d_X13_doLink x y 1 n ((d_X13_keep f g gb).1) g).1)) (y := 0) (k := k) (f := ((d_X13_doLink x y 1 n ((d_X13_keep f g gb).1) g).2.1)) (g := ((d_X13_doLink x y 1 n ((d_X13_keep f g gb).1) g).2.2)) (gb := ((d_X13_keep f g gb).2)) (gp := gp) ((pm_up_n (by omega)).trans ((pm_up_n (by omega)).trans ((pm_up_n (by omega)).trans pm_up_s))) ((pm_up_n (by omega)).trans ((pm_up_n (by omega)).trans pm_up_s)) ((pm_up_n (by omega)).trans pm_up_s) pm_up_s (show ((d_X13_doLink x y 1 n ((d_X13_keep f g gb).1) g).2.1) 5 = (nI k) from by rw [((d_X13_doLink_k_f5 x y 1 n ((d_X13_keep f g gb).1) g).trans ((d_X13_keep_k_f5  f g gb).trans hf5))]) (by first | assumption | omega)) mt_X13_ends sv_X13_97 dX13_link_13 rfl rfl rfl rfl rfl ?_
  refine pm_mem (M' := pm_up (pm_up (pm_up (pm_up (pm_up (pm_up (pm_up M m0 (pm_mo z m0 ((d_X13_doLink x y 1 n ((d_X13_keep f g gb).1) g).2.1))) (m0 + 1) (.inl (kA 0, 91, .inl ((d_X13_doLink x y 1 n ((d_X13_keep f g gb).1) g).2.2)))) (m0 + 2) (.inl (kA 0, 91, .inl ((d_X13_keep f g gb).2)))) (m0 + 4) (.inl (kA 0, 728, .inl gp))) m0 (pm_mo z m0 ((d_X13_ends ((d_X13_doLink x y 1 n ((d_X13_keep f g gb).1) g).1) 0 k ((d_X13_doLink x y 1 n ((d_X13_keep f g gb).1) g).2.1) ((d_X13_doLink x y 1 n ((d_X13_keep f g gb).1) g).2.2) ((d_X13_keep f g gb).2) gp).2.1))) (m0 + 1) (.inl (kA 0, 91, .inl ((d_X13_ends ((d_X13_doLink x y 1 n ((d_X13_keep f g gb).1) g).1) 0 k ((d_X13_doLink x y 1 n ((d_X13_keep f g gb).1) g).2.1) ((d_X13_doLink x y 1 n ((d_X13_keep f g gb).1) g).2.2) ((d_X13_keep f g gb).2) gp).2.2.1)))) (m0 + 4) (.inl (kA 0, 728, .inl ((d_X13_ends ((d_X13_doLink x y 1 n ((d_X13_keep f g gb).1) g).1) 0 k ((d_X13_doLink x y 1 n ((d_X13_keep f g gb).1) g).2.1) ((d_X13_doLink x y 1 n ((d_X13_keep f g gb).1) g).2.2) ((d_X13_keep f g gb).2) gp).2.2.2)))) rfl ?_
  refine pm_mem (M' := pm_up (pm_up (pm_up (pm_up (pm_up (pm_up M m0 (pm_mo z m0 ((d_X13_ends ((d_X13_doLink x y 1 n ((d_X13_keep f g gb).1) g).1) 0 k ((d_X13_doLink x y 1 n ((d_X13_keep f g gb).1) g).2.1) ((d_X13_doLink x y 1 n ((d_X13_keep f g gb).1) g).2.2) ((d_X13_keep f g gb).2) gp).2.1))) (m0 + 1) (.inl (kA 0, 91, .inl ((d_X13_doLink x y 1 n ((d_X13_keep f g gb).1) g).2.2)))) (m0 + 2) (.inl (kA 0, 91, .inl ((d_X13_keep f g gb).2)))) (m0 + 4) (.inl (kA 0, 728, .inl gp))) (m0 + 1) (.inl (kA 0, 91, .inl ((d_X13_ends ((d_X13_doLink x y 1 n ((d_X13_keep f g gb).1) g).1) 0 k ((d_X13_doLink x y 1 n ((d_X13_keep f g gb).1) g).2.1) ((d_X13_doLink x y 1 n ((d_X13_keep f g gb).1) g).2.2) ((d_X13_keep f g gb).2) gp).2.2.1)))) (m0 + 4) (.inl (kA 0, 728, .inl ((d_X13_ends ((d_X13_doLink x y 1 n ((d_X13_keep f g gb).1) g).1) 0 k ((d_X13_doLink x y 1 n ((d_X13_keep f g gb).1) g).2.1) ((d_X13_doLink x y 1 n ((d_X13_keep f g gb).1) g).2.2) ((d_X13_keep f g gb).2) gp).2.2.2)))) (by rw [pm_up_sw (a := m0 + 4) (b := m0) (by omega), pm_up_sw (a := m0 + 2) (b := m0) (by omega), pm_up_sw (a := m0 + 1) (b := m0) (by omega), pm_up_up (a := m0)]) ?_
  refine pm_mem (M' := pm_up (pm_up (pm_up (pm_up (pm_up M m0 (pm_mo z m0 ((d_X13_ends ((d_X13_doLink x y 1 n ((d_X13_keep f g gb).1) g).1) 0 k ((d_X13_doLink x y 1 n ((d_X13_keep f g gb).1) g).2.1) ((d_X13_doLink x y 1 n ((d_X13_keep f g gb).1) g).2.2) ((d_X13_keep f g gb).2) gp).2.1))) (m0 + 1) (.inl (kA 0, 91, .inl ((d_X13_ends ((d_X13_doLink x y 1 n ((d_X13_keep f g gb).1) g).1) 0 k ((d_X13_doLink x y 1 n ((d_X13_keep f g gb).1) g).2.1) ((d_X13_doLink x y 1 n ((d_X13_keep f g gb).1) g).2.2) ((d_X13_keep f g gb).2) gp).2.2.1)))) (m0 + 2) (.inl (kA 0, 91, .inl ((d_X13_keep f g gb).2)))) (m0 + 4) (.inl (kA 0, 728, .inl gp))) (m0 + 4) (.inl (kA 0, 728, .inl ((d_X13_ends ((d_X13_doLink x y 1 n ((d_X13_keep f g gb).1) g).1) 0 k ((d_X13_doLink x y 1 n ((d_X13_keep f g gb).1) g).2.1) ((d_X13_doLink x y 1 n ((d_X13_keep f g gb).1) g).2.2) ((d_X13_keep f g gb).2) gp).2.2.2)))) (by rw [pm_up_sw (a := m0 + 4) (b := m0 + 1) (by omega), pm_up_sw (a := m0 + 2) (b := m0 + 1) (by omega), pm_up_up (a := m0 + 1)]) ?_
  refine pm_mem (M' := pm_up (pm_up (pm_up (pm_up M m0 (pm_mo z m0 ((d_X13_ends ((d_X13_doLink x y 1 n ((d_X13_keep f g gb).1) g).1) 0 k ((d_X13_doLink x y 1 n ((d_X13_keep f g gb).1) g).2.1) ((d_X13_doLink x y 1 n ((d_X13_keep f g gb).1) g).2.2) ((d_X13_keep f g gb).2) gp).2.1))) (m0 + 1) (.inl (kA 0, 91, .inl ((d_X13_ends ((d_X13_doLink x y 1 n ((d_X13_keep f g gb).1) g).1) 0 k ((d_X13_doLink x y 1 n ((d_X13_keep f g gb).1) g).2.1) ((d_X13_doLink x y 1 n ((d_X13_keep f g gb).1) g).2.2) ((d_X13_keep f g gb).2) gp).2.2.1)))) (m0 + 2) (.inl (kA 0, 91, .inl ((d_X13_keep f g gb).2)))) (m0 + 4) (.inl (kA 0, 728, .inl ((d_X13_ends ((d_X13_doLink x y 1 n ((d_X13_keep f g gb).1) g).1) 0 k ((d_X13_doLink x y 1 n ((d_X13_keep f g gb).1) g).2.1) ((d_X13_doLink x y 1 n ((d_X13_keep f g gb).1) g).2.2) ((d_X13_keep f g gb).2) gp).2.2.2)))) (by rw [pm_up_up (a := m0 + 4)]) ?_
  refine pm_stk (st' := [.int ((d_X13_ends ((d_X13_doLink x y 1 n ((d_X13_keep f g gb).1) g).1) 0 k ((d_X13_doLink x y 1 n ((d_X13_keep f g gb).1) g).2.1) ((d_X13_doLink x y 1 n ((d_X13_keep f g gb).1) g).2.2) ((d_X13_keep f g gb).2) gp).1)]) rfl ?_
  have hDq1 : (d_X13_link x y n k f g gb gp) = (((d_X13_ends ((d_X13_doLink x y 1 n ((d_X13_keep f g gb).1) g).1) 0 k ((d_X13_doLink x y 1 n ((d_X13_keep f g gb).1) g).2.1) ((d_X13_doLink x y 1 n ((d_X13_keep f g gb).1) g).2.2) ((d_X13_keep f g gb).2) gp).1), ((d_X13_ends ((d_X13_doLink x y 1 n ((d_X13_keep f g gb).1) g).1) 0 k ((d_X13_doLink x y 1 n ((d_X13_keep f g gb).1) g).2.1) ((d_X13_doLink x y 1 n ((d_X13_keep f g gb).1) g).2.2) ((d_X13_keep f g gb).2) gp).2.1), ((d_X13_ends ((d_X13_doLink x y 1 n ((d_X13_keep f g gb).1) g).1) 0 k ((d_X13_doLink x y 1 n ((d_X13_keep f g gb).1) g).2.1) ((d_X13_doLink x y 1 n ((d_X13_keep f g gb).1) g).2.2) ((d_X13_keep f g gb).2) gp).2.2.1), ((d_X13_keep f g gb).2), ((d_X13_ends ((d_X13_doLink x y 1 n ((d_X13_keep f g gb).1) g).1) 0 k ((d_X13_doLink x y 1 n ((d_X13_keep f g gb).1) g).2.1) ((d_X13_doLink x y 1 n ((d_X13_keep f g gb).1) g).2.2) ((d_X13_keep f g gb).2) gp).2.2.2)) := by rw [d_X13_link]
  exact pm_ireturn B dX13_link_16 rfl (by first | rfl | (apply pm_nz; first | assumption | decide | exact pm_in01 _ _ _ | simp)) ⟨(by rw [hDq1]), rfl, by rw [hDq1]⟩ rfl rfl
def d_X13_unlink (x : Int32) (y : Int32) (n : Nat) (k : Nat) (f : Nat → Int32) (g : Nat → Int32) (gb : Nat → Int32) (gp : Nat → Int32) : (Int32 × (Nat → Int32) × (Nat → Int32) × (Nat → Int32) × (Nat → Int32)) := (((d_X13_ends ((d_X13_doLink x y 0 n ((d_X13_keep f g gb).1) g).1) 0 k ((d_X13_doLink x y 0 n ((d_X13_keep f g gb).1) g).2.1) ((d_X13_doLink x y 0 n ((d_X13_keep f g gb).1) g).2.2) ((d_X13_keep f g gb).2) gp).1), ((d_X13_ends ((d_X13_doLink x y 0 n ((d_X13_keep f g gb).1) g).1) 0 k ((d_X13_doLink x y 0 n ((d_X13_keep f g gb).1) g).2.1) ((d_X13_doLink x y 0 n ((d_X13_keep f g gb).1) g).2.2) ((d_X13_keep f g gb).2) gp).2.1), ((d_X13_ends ((d_X13_doLink x y 0 n ((d_X13_keep f g gb).1) g).1) 0 k ((d_X13_doLink x y 0 n ((d_X13_keep f g gb).1) g).2.1) ((d_X13_doLink x y 0 n ((d_X13_keep f g gb).1) g).2.2) ((d_X13_keep f g gb).2) gp).2.2.1), ((d_X13_keep f g gb).2), ((d_X13_ends ((d_X13_doLink x y 0 n ((d_X13_keep f g gb).1) g).1) 0 k ((d_X13_doLink x y 0 n ((d_X13_keep f g gb).1) g).2.1) ((d_X13_doLink x y 0 n ((d_X13_keep f g gb).1) g).2.2) ((d_X13_keep f g gb).2) gp).2.2.2))
set_option maxRecDepth 100000 in
set_option maxHeartbeats 8000000 in
theorem c_X13_unlink {l : Launch} {z : Nat} {D : va_G} {kA : Nat → ClassId} {kE : Nat → Nat} {nx : Nat} {M : pm_M} {x : Int32} {y : Int32} {n : Nat} {k : Nat}{m0 : Nat} {f : Nat → Int32} {g : Nat → Int32} {gb : Nat → Int32} {gp : Nat → Int32} (hM : M m0 = some (pm_mo z m0 f)) (hg : M (m0 + 1) = some (.inl (kA 0, 91, .inl g))) (hgb : M (m0 + 2) = some (.inl (kA 0, 91, .inl gb))) (hgp : M (m0 + 4) = some (.inl (kA 0, 728, .inl gp))) (hn : g 0 = nI n) (h7 : n ≤ 7) (hf5 : f 5 = nI k) (h8 : k ≤ 8) : pm_C l z D kA kE yX13_unlink cX13_unlink 3 (some .int) 3 0 0 [.ref (z + m0), .int x, .int y] nx M (pm_rt (some (.int ((d_X13_unlink x y n k f g gb gp).1))) nx (pm_up (pm_up (pm_up (pm_up M m0 (pm_mo z m0 ((d_X13_unlink x y n k f g gb gp).2.1))) (m0 + 1) (.inl (kA 0, 91, .inl ((d_X13_unlink x y n k f g gb gp).2.2.1)))) (m0 + 2) (.inl (kA 0, 91, .inl ((d_X13_unlink x y n k f g gb gp).2.2.2.1)))) (m0 + 4) (.inl (kA 0, 728, .inl ((d_X13_unlink x y n k f g gb gp).2.2.2.2))))) := by
  refine pm_mk (own := RX13) (nm := "unlink") mt_X13_unlink rfl rfl rfl rfl fun X B => ?_
  refine pm_loc (L' := [some (.ref (z + m0)), some (.int x), some (.int y)]) rfl ?_
  refine pm_mem (M' := pm_up (pm_up (pm_up (pm_up M m0 (pm_mo z m0 f)) (m0 + 1) (.inl (kA 0, 91, .inl g))) (m0 + 2) (.inl (kA 0, 91, .inl gb))) (m0 + 4) (.inl (kA 0, 728, .inl gp))) (by rw [pm_up_id hM, pm_up_id hg, pm_up_id hgb, pm_up_id hgp]) ?_
  refine pm_aload_n B dX13_unlink_0 rfl ?_
  refine pm_cV (As := []) (mc2 := 0) (ms2 := 0) B rfl ((pm_up_n (by omega)).trans ((pm_up_n (by omega)).trans ((pm_up_n (by omega)).trans pm_up_s))) rfl (c_X13_keep (f := f) (g := g) (gb := gb) ((pm_up_n (by omega)).trans ((pm_up_n (by omega)).trans ((pm_up_n (by omega)).trans pm_up_s))) ((pm_up_n (by omega)).trans ((pm_up_n (by omega)).trans pm_up_s)) ((pm_up_n (by omega)).trans pm_up_s) ) mt_X13_keep sv_X13_91 dX13_unlink_1 rfl rfl rfl rfl rfl ?_
  refine pm_mem (M' := pm_up (pm_up (pm_up (pm_up (pm_up (pm_up M m0 (pm_mo z m0 f)) (m0 + 1) (.inl (kA 0, 91, .inl g))) (m0 + 2) (.inl (kA 0, 91, .inl gb))) (m0 + 4) (.inl (kA 0, 728, .inl gp))) m0 (pm_mo z m0 ((d_X13_keep f g gb).1))) (m0 + 2) (.inl (kA 0, 91, .inl ((d_X13_keep f g gb).2)))) rfl ?_
  refine pm_mem (M' := pm_up (pm_up (pm_up (pm_up (pm_up M m0 (pm_mo z m0 ((d_X13_keep f g gb).1))) (m0 + 1) (.inl (kA 0, 91, .inl g))) (m0 + 2) (.inl (kA 0, 91, .inl gb))) (m0 + 4) (.inl (kA 0, 728, .inl gp))) (m0 + 2) (.inl (kA 0, 91, .inl ((d_X13_keep f g gb).2)))) (by rw [pm_up_sw (a := m0 + 4) (b := m0) (by omega), pm_up_sw (a := m0 + 2) (b := m0) (by omega), pm_up_sw (a := m0 + 1) (b := m0) (by omega), pm_up_up (a := m0)]) ?_
  refine pm_mem (M' := pm_up (pm_up (pm_up (pm_up M m0 (pm_mo z m0 ((d_X13_keep f g gb).1))) (m0 + 1) (.inl (kA 0, 91, .inl g))) (m0 + 2) (.inl (kA 0, 91, .inl ((d_X13_keep f g gb).2)))) (m0 + 4) (.inl (kA 0, 728, .inl gp))) (by rw [pm_up_sw (a := m0 + 4) (b := m0 + 2) (by omega), pm_up_up (a := m0 + 2)]) ?_
  refine pm_stk (st' := []) rfl ?_
  refine pm_aload_n B dX13_unlink_4 rfl ?_
  refine pm_aload_n B dX13_unlink_5 rfl ?_
  refine pm_iload_n B dX13_unlink_6 rfl ?_
  refine pm_iload_n B dX13_unlink_7 rfl ?_
  refine pm_iconst (v := 0) B dX13_unlink_8 (by decide) ?_
  refine pm_cV (As := [.int x, .int y, .int 0]) (mc2 := 0) (ms2 := 0) B rfl ((pm_up_n (by omega)).trans ((pm_up_n (by omega)).trans ((pm_up_n (by omega)).trans pm_up_s))) rfl (c_X13_doLink (x := x) (y := y) (v := 0) (n := n) (f := ((d_X13_keep f g gb).1)) (g := g) ((pm_up_n (by omega)).trans ((pm_up_n (by omega)).trans ((pm_up_n (by omega)).trans pm_up_s))) ((pm_up_n (by omega)).trans ((pm_up_n (by omega)).trans pm_up_s)) hn (by first | assumption | omega)) mt_X13_doLink sv_X13_163 dX13_unlink_9 rfl rfl rfl rfl rfl ?_
  refine pm_mem (M' := pm_up (pm_up (pm_up (pm_up (pm_up (pm_up M m0 (pm_mo z m0 ((d_X13_keep f g gb).1))) (m0 + 1) (.inl (kA 0, 91, .inl g))) (m0 + 2) (.inl (kA 0, 91, .inl ((d_X13_keep f g gb).2)))) (m0 + 4) (.inl (kA 0, 728, .inl gp))) m0 (pm_mo z m0 ((d_X13_doLink x y 0 n ((d_X13_keep f g gb).1) g).2.1))) (m0 + 1) (.inl (kA 0, 91, .inl ((d_X13_doLink x y 0 n ((d_X13_keep f g gb).1) g).2.2)))) rfl ?_
  refine pm_mem (M' := pm_up (pm_up (pm_up (pm_up (pm_up M m0 (pm_mo z m0 ((d_X13_doLink x y 0 n ((d_X13_keep f g gb).1) g).2.1))) (m0 + 1) (.inl (kA 0, 91, .inl g))) (m0 + 2) (.inl (kA 0, 91, .inl ((d_X13_keep f g gb).2)))) (m0 + 4) (.inl (kA 0, 728, .inl gp))) (m0 + 1) (.inl (kA 0, 91, .inl ((d_X13_doLink x y 0 n ((d_X13_keep f g gb).1) g).2.2)))) (by rw [pm_up_sw (a := m0 + 4) (b := m0) (by omega), pm_up_sw (a := m0 + 2) (b := m0) (by omega), pm_up_sw (a := m0 + 1) (b := m0) (by omega), pm_up_up (a := m0)]) ?_
  refine pm_mem (M' := pm_up (pm_up (pm_up (pm_up M m0 (pm_mo z m0 ((d_X13_doLink x y 0 n ((d_X13_keep f g gb).1) g).2.1))) (m0 + 1) (.inl (kA 0, 91, .inl ((d_X13_doLink x y 0 n ((d_X13_keep f g gb).1) g).2.2)))) (m0 + 2) (.inl (kA 0, 91, .inl ((d_X13_keep f g gb).2)))) (m0 + 4) (.inl (kA 0, 728, .inl gp))) (by rw [pm_up_sw (a := m0 + 4) (b := m0 + 1) (by omega), pm_up_sw (a := m0 + 2) (b := m0 + 1) (by omega), pm_up_up (a := m0 + 1)]) ?_
  refine pm_stk (st' := [.int ((d_X13_doLink x y 0 n ((d_X13_keep f g gb).1) g).1), .ref (z + m0)]) rfl ?_
  refine pm_iconst (v := 0) B dX13_unlink_12 (by decide) ?_
  refine pm_cV (As := [.int ((d_X13_doLink x y 0 n ((d_X13_keep f g gb).1) g).1), .int 0]) (mc2 := 0) (ms2 := 0) B rfl ((pm_up_n (by omega)).trans ((pm_up_n (by omega)).trans ((pm_up_n (by omega)).trans pm_up_s))) rfl (c_X13_ends (x := ((d_X13_doLink x y 0 n ((d_X13_keep f g gb).1) g).1)) (y := 0) (k := k) (f := ((d_X13_doLink x y 0 n ((d_X13_keep f g gb).1) g).2.1)) (g := ((d_X13_doLink x y 0 n ((d_X13_keep f g gb).1) g).2.2)) (gb := ((d_X13_keep f g gb).2)) (gp := gp) ((pm_up_n (by omega)).trans ((pm_up_n (by omega)).trans ((pm_up_n (by omega)).trans pm_up_s))) ((pm_up_n (by omega)).trans ((pm_up_n (by omega)).trans pm_up_s)) ((pm_up_n (by omega)).trans pm_up_s) pm_up_s (show ((d_X13_doLink x y 0 n ((d_X13_keep f g gb).1) g).2.1) 5 = (nI k) from by rw [((d_X13_doLink_k_f5 x y 0 n ((d_X13_keep f g gb).1) g).trans ((d_X13_keep_k_f5  f g gb).trans hf5))]) (by first | assumption | omega)) mt_X13_ends sv_X13_97 dX13_unlink_13 rfl rfl rfl rfl rfl ?_
  refine pm_mem (M' := pm_up (pm_up (pm_up (pm_up (pm_up (pm_up (pm_up M m0 (pm_mo z m0 ((d_X13_doLink x y 0 n ((d_X13_keep f g gb).1) g).2.1))) (m0 + 1) (.inl (kA 0, 91, .inl ((d_X13_doLink x y 0 n ((d_X13_keep f g gb).1) g).2.2)))) (m0 + 2) (.inl (kA 0, 91, .inl ((d_X13_keep f g gb).2)))) (m0 + 4) (.inl (kA 0, 728, .inl gp))) m0 (pm_mo z m0 ((d_X13_ends ((d_X13_doLink x y 0 n ((d_X13_keep f g gb).1) g).1) 0 k ((d_X13_doLink x y 0 n ((d_X13_keep f g gb).1) g).2.1) ((d_X13_doLink x y 0 n ((d_X13_keep f g gb).1) g).2.2) ((d_X13_keep f g gb).2) gp).2.1))) (m0 + 1) (.inl (kA 0, 91, .inl ((d_X13_ends ((d_X13_doLink x y 0 n ((d_X13_keep f g gb).1) g).1) 0 k ((d_X13_doLink x y 0 n ((d_X13_keep f g gb).1) g).2.1) ((d_X13_doLink x y 0 n ((d_X13_keep f g gb).1) g).2.2) ((d_X13_keep f g gb).2) gp).2.2.1)))) (m0 + 4) (.inl (kA 0, 728, .inl ((d_X13_ends ((d_X13_doLink x y 0 n ((d_X13_keep f g gb).1) g).1) 0 k ((d_X13_doLink x y 0 n ((d_X13_keep f g gb).1) g).2.1) ((d_X13_doLink x y 0 n ((d_X13_keep f g gb).1) g).2.2) ((d_X13_keep f g gb).2) gp).2.2.2)))) rfl ?_
  refine pm_mem (M' := pm_up (pm_up (pm_up (pm_up (pm_up (pm_up M m0 (pm_mo z m0 ((d_X13_ends ((d_X13_doLink x y 0 n ((d_X13_keep f g gb).1) g).1) 0 k ((d_X13_doLink x y 0 n ((d_X13_keep f g gb).1) g).2.1) ((d_X13_doLink x y 0 n ((d_X13_keep f g gb).1) g).2.2) ((d_X13_keep f g gb).2) gp).2.1))) (m0 + 1) (.inl (kA 0, 91, .inl ((d_X13_doLink x y 0 n ((d_X13_keep f g gb).1) g).2.2)))) (m0 + 2) (.inl (kA 0, 91, .inl ((d_X13_keep f g gb).2)))) (m0 + 4) (.inl (kA 0, 728, .inl gp))) (m0 + 1) (.inl (kA 0, 91, .inl ((d_X13_ends ((d_X13_doLink x y 0 n ((d_X13_keep f g gb).1) g).1) 0 k ((d_X13_doLink x y 0 n ((d_X13_keep f g gb).1) g).2.1) ((d_X13_doLink x y 0 n ((d_X13_keep f g gb).1) g).2.2) ((d_X13_keep f g gb).2) gp).2.2.1)))) (m0 + 4) (.inl (kA 0, 728, .inl ((d_X13_ends ((d_X13_doLink x y 0 n ((d_X13_keep f g gb).1) g).1) 0 k ((d_X13_doLink x y 0 n ((d_X13_keep f g gb).1) g).2.1) ((d_X13_doLink x y 0 n ((d_X13_keep f g gb).1) g).2.2) ((d_X13_keep f g gb).2) gp).2.2.2)))) (by rw [pm_up_sw (a := m0 + 4) (b := m0) (by omega), pm_up_sw (a := m0 + 2) (b := m0) (by omega), pm_up_sw (a := m0 + 1) (b := m0) (by omega), pm_up_up (a := m0)]) ?_
  refine pm_mem (M' := pm_up (pm_up (pm_up (pm_up (pm_up M m0 (pm_mo z m0 ((d_X13_ends ((d_X13_doLink x y 0 n ((d_X13_keep f g gb).1) g).1) 0 k ((d_X13_doLink x y 0 n ((d_X13_keep f g gb).1) g).2.1) ((d_X13_doLink x y 0 n ((d_X13_keep f g gb).1) g).2.2) ((d_X13_keep f g gb).2) gp).2.1))) (m0 + 1) (.inl (kA 0, 91, .inl ((d_X13_ends ((d_X13_doLink x y 0 n ((d_X13_keep f g gb).1) g).1) 0 k ((d_X13_doLink x y 0 n ((d_X13_keep f g gb).1) g).2.1) ((d_X13_doLink x y 0 n ((d_X13_keep f g gb).1) g).2.2) ((d_X13_keep f g gb).2) gp).2.2.1)))) (m0 + 2) (.inl (kA 0, 91, .inl ((d_X13_keep f g gb).2)))) (m0 + 4) (.inl (kA 0, 728, .inl gp))) (m0 + 4) (.inl (kA 0, 728, .inl ((d_X13_ends ((d_X13_doLink x y 0 n ((d_X13_keep f g gb).1) g).1) 0 k ((d_X13_doLink x y 0 n ((d_X13_keep f g gb).1) g).2.1) ((d_X13_doLink x y 0 n ((d_X13_keep f g gb).1) g).2.2) ((d_X13_keep f g gb).2) gp).2.2.2)))) (by rw [pm_up_sw (a := m0 + 4) (b := m0 + 1) (by omega), pm_up_sw (a := m0 + 2) (b := m0 + 1) (by omega), pm_up_up (a := m0 + 1)]) ?_
  refine pm_mem (M' := pm_up (pm_up (pm_up (pm_up M m0 (pm_mo z m0 ((d_X13_ends ((d_X13_doLink x y 0 n ((d_X13_keep f g gb).1) g).1) 0 k ((d_X13_doLink x y 0 n ((d_X13_keep f g gb).1) g).2.1) ((d_X13_doLink x y 0 n ((d_X13_keep f g gb).1) g).2.2) ((d_X13_keep f g gb).2) gp).2.1))) (m0 + 1) (.inl (kA 0, 91, .inl ((d_X13_ends ((d_X13_doLink x y 0 n ((d_X13_keep f g gb).1) g).1) 0 k ((d_X13_doLink x y 0 n ((d_X13_keep f g gb).1) g).2.1) ((d_X13_doLink x y 0 n ((d_X13_keep f g gb).1) g).2.2) ((d_X13_keep f g gb).2) gp).2.2.1)))) (m0 + 2) (.inl (kA 0, 91, .inl ((d_X13_keep f g gb).2)))) (m0 + 4) (.inl (kA 0, 728, .inl ((d_X13_ends ((d_X13_doLink x y 0 n ((d_X13_keep f g gb).1) g).1) 0 k ((d_X13_doLink x y 0 n ((d_X13_keep f g gb).1) g).2.1) ((d_X13_doLink x y 0 n ((d_X13_keep f g gb).1) g).2.2) ((d_X13_keep f g gb).2) gp).2.2.2)))) (by rw [pm_up_up (a := m0 + 4)]) ?_
  refine pm_stk (st' := [.int ((d_X13_ends ((d_X13_doLink x y 0 n ((d_X13_keep f g gb).1) g).1) 0 k ((d_X13_doLink x y 0 n ((d_X13_keep f g gb).1) g).2.1) ((d_X13_doLink x y 0 n ((d_X13_keep f g gb).1) g).2.2) ((d_X13_keep f g gb).2) gp).1)]) rfl ?_
  have hDq1 : (d_X13_unlink x y n k f g gb gp) = (((d_X13_ends ((d_X13_doLink x y 0 n ((d_X13_keep f g gb).1) g).1) 0 k ((d_X13_doLink x y 0 n ((d_X13_keep f g gb).1) g).2.1) ((d_X13_doLink x y 0 n ((d_X13_keep f g gb).1) g).2.2) ((d_X13_keep f g gb).2) gp).1), ((d_X13_ends ((d_X13_doLink x y 0 n ((d_X13_keep f g gb).1) g).1) 0 k ((d_X13_doLink x y 0 n ((d_X13_keep f g gb).1) g).2.1) ((d_X13_doLink x y 0 n ((d_X13_keep f g gb).1) g).2.2) ((d_X13_keep f g gb).2) gp).2.1), ((d_X13_ends ((d_X13_doLink x y 0 n ((d_X13_keep f g gb).1) g).1) 0 k ((d_X13_doLink x y 0 n ((d_X13_keep f g gb).1) g).2.1) ((d_X13_doLink x y 0 n ((d_X13_keep f g gb).1) g).2.2) ((d_X13_keep f g gb).2) gp).2.2.1), ((d_X13_keep f g gb).2), ((d_X13_ends ((d_X13_doLink x y 0 n ((d_X13_keep f g gb).1) g).1) 0 k ((d_X13_doLink x y 0 n ((d_X13_keep f g gb).1) g).2.1) ((d_X13_doLink x y 0 n ((d_X13_keep f g gb).1) g).2.2) ((d_X13_keep f g gb).2) gp).2.2.2)) := by rw [d_X13_unlink]
  exact pm_ireturn B dX13_unlink_16 rfl (by first | rfl | (apply pm_nz; first | assumption | decide | exact pm_in01 _ _ _ | simp)) ⟨(by rw [hDq1]), rfl, by rw [hDq1]⟩ rfl rfl
def d_X13_linkCount (f : Nat → Int32) (g : Nat → Int32) : (Int32 × (Nat → Int32)) := ((d_X13_links (upd f 6 0) g), (upd f 6 0))
set_option maxRecDepth 100000 in
set_option maxHeartbeats 8000000 in
theorem c_X13_linkCount {l : Launch} {z : Nat} {D : va_G} {kA : Nat → ClassId} {kE : Nat → Nat} {nx : Nat} {M : pm_M} {m0 : Nat} {f : Nat → Int32} {g : Nat → Int32} (hM : M m0 = some (pm_mo z m0 f)) (hg : M (m0 + 1) = some (.inl (kA 0, 91, .inl g))) : pm_C l z D kA kE yX13_linkCount cX13_linkCount 1 (some .int) 1 0 0 [.ref (z + m0)] nx M (pm_rt (some (.int ((d_X13_linkCount f g).1))) nx (pm_up M m0 (pm_mo z m0 ((d_X13_linkCount f g).2)))) := by
  refine pm_mk (own := RX13) (nm := "linkCount") mt_X13_linkCount rfl rfl rfl rfl fun X B => ?_
  refine pm_loc (L' := [some (.ref (z + m0))]) rfl ?_
  refine pm_mem (M' := pm_up M m0 (pm_mo z m0 f)) (by rw [pm_up_id hM]) ?_
  refine pm_aload_n B dX13_linkCount_0 rfl ?_
  refine pm_iconst (v := 0) B dX13_linkCount_1 (by decide) ?_
  refine pm_put B dX13_linkCount_2 fs_X13_39 pm_up_s rfl rfl rfl ?_
  refine pm_mem (M' := pm_up M m0 (pm_mo z m0 (upd f 6 0))) pm_up_up ?_
  refine pm_aload_n B dX13_linkCount_5 rfl ?_
  refine pm_cV (As := []) (mc2 := 0) (ms2 := 0) B rfl pm_up_s rfl (c_X13_links (f := (upd f 6 0)) (g := g) pm_up_s ((pm_up_n (by omega)).trans hg) ) mt_X13_links sv_X13_153 dX13_linkCount_6 rfl rfl rfl rfl rfl ?_
  refine pm_stk (st' := [.int (d_X13_links (upd f 6 0) g)]) rfl ?_
  have hDq1 : (d_X13_linkCount f g) = ((d_X13_links (upd f 6 0) g), (upd f 6 0)) := by rw [d_X13_linkCount]
  exact pm_ireturn B dX13_linkCount_9 rfl (by first | rfl | (apply pm_nz; first | assumption | decide | exact pm_in01 _ _ _ | simp)) ⟨(by rw [hDq1]), rfl, by rw [hDq1]⟩ rfl rfl
def d_X13_areLinked (x : Int32) (y : Int32) (n : Nat) (f : Nat → Int32) (g : Nat → Int32) : (Int32 × (Nat → Int32)) := if (pm_in x 0 (nI n - 1)) = 0 then (0, (upd f 6 (pm_th 0))) else (if (pm_in y 0 (nI n - 1)) = 0 then (0, (upd f 6 (pm_th 0))) else (if (d_X13_linked (pm_n x) (pm_n y) (upd f 6 (pm_th 1)) g) = 0 then (0, (upd f 6 (pm_th 1))) else (1, (upd f 6 (pm_th 1)))))
set_option maxRecDepth 100000 in
set_option maxHeartbeats 8000000 in
theorem c_X13_areLinked {l : Launch} {z : Nat} {D : va_G} {kA : Nat → ClassId} {kE : Nat → Nat} {nx : Nat} {M : pm_M} {x : Int32} {y : Int32} {n : Nat}{m0 : Nat} {f : Nat → Int32} {g : Nat → Int32} (hM : M m0 = some (pm_mo z m0 f)) (hg : M (m0 + 1) = some (.inl (kA 0, 91, .inl g))) (hn : g 0 = nI n) (h7 : n ≤ 7) : pm_C l z D kA kE yX13_areLinked cX13_areLinked 3 (some .boolean) 2 0 0 [.ref (z + m0), .int x, .int y] nx M (pm_rt (some (.int ((d_X13_areLinked x y n f g).1))) nx (pm_up M m0 (pm_mo z m0 ((d_X13_areLinked x y n f g).2)))) := by
  refine pm_mk (own := RX13) (nm := "areLinked") mt_X13_areLinked rfl rfl rfl rfl fun X B => ?_
  refine pm_loc (L' := [some (.ref (z + m0)), some (.int x), some (.int y)]) rfl ?_
  refine pm_mem (M' := pm_up M m0 (pm_mo z m0 f)) (by rw [pm_up_id hM]) ?_
  refine pm_aload_n B dX13_areLinked_0 rfl ?_
  refine pm_aload_n B dX13_areLinked_1 rfl ?_
  refine pm_iload_n B dX13_areLinked_2 rfl ?_
  refine pm_cV (As := [.int x]) (mc2 := 0) (ms2 := 0) B rfl pm_up_s rfl (c_X13_isMember (f := f) pm_up_s ((pm_up_n (by omega)).trans hg)) mt_X13_isMember sv_X13_100 dX13_areLinked_3 rfl rfl rfl rfl rfl ?_
  refine pm_stk (st' := [.int (pm_in x 0 (g 0 - 1)), .ref (z + m0)]) rfl ?_
  refine pm_stk (st' := [.int (pm_in x 0 (nI n - 1)), .ref (z + m0)]) (by rw [show (pm_in x 0 (g 0 - 1)) = (pm_in x 0 (nI n - 1)) from by rw [hn]]) ?_
  refine pm_if_eq (tgt := 21) B dX13_areLinked_6 (by decide) (fun hq1 => ?_) (fun hq1 => ?_)
  · refine pm_iconst (v := 0) B dX13_areLinked_21 (by decide) ?_
    refine pm_cV (As := [.int 0]) (mc2 := 0) (ms2 := 0) B rfl pm_up_s rfl (c_X13_isThere (f := f) (b := 0) pm_up_s (by first | assumption | exact pm_in01 _ _ _ | decide | simp)) mt_X13_isThere sv_X13_107 dX13_areLinked_22 rfl rfl rfl rfl rfl ?_
    refine pm_mem (M' := pm_up M m0 (pm_mo z m0 (upd f 6 (pm_th 0)))) pm_up_up ?_
    refine pm_stk (st' := [.int 0]) rfl ?_
    refine pm_if_eq (tgt := 41) B dX13_areLinked_25 (by decide) (fun hq2 => ?_) (fun hq2 => absurd (by decide) hq2)
    refine pm_iconst (v := 0) B dX13_areLinked_41 (by decide) ?_
    have hDq3 : (d_X13_areLinked x y n f g) = (0, (upd f 6 (pm_th 0))) := by rw [d_X13_areLinked, if_pos hq1]
    exact pm_ireturn B dX13_areLinked_42 rfl (by first | rfl | (apply pm_nz; first | assumption | decide | exact pm_in01 _ _ _ | simp)) ⟨(by rw [hDq3]), rfl, by rw [hDq3]⟩ rfl rfl
  · obtain ⟨he_x, hl_x⟩ := pm_in_nx h7 hq1
    refine pm_loc (L' := [some (.ref (z + m0)), some (.int (nI (pm_n x))), some (.int y)]) (congrArg (fun yy : Int32 => ([some (.ref (z + m0)), some (.int yy), some (.int y)] : List (Option Value))) he_x) ?_
    refine pm_aload_n B dX13_areLinked_9 rfl ?_
    refine pm_iload_n B dX13_areLinked_10 rfl ?_
    refine pm_cV (As := [.int y]) (mc2 := 0) (ms2 := 0) B rfl pm_up_s rfl (c_X13_isMember (f := f) pm_up_s ((pm_up_n (by omega)).trans hg)) mt_X13_isMember sv_X13_100 dX13_areLinked_11 rfl rfl rfl rfl rfl ?_
    refine pm_stk (st' := [.int (pm_in y 0 (g 0 - 1)), .ref (z + m0)]) rfl ?_
    refine pm_stk (st' := [.int (pm_in y 0 (nI n - 1)), .ref (z + m0)]) (by rw [show (pm_in y 0 (g 0 - 1)) = (pm_in y 0 (nI n - 1)) from by rw [hn]]) ?_
    refine pm_if_eq (tgt := 21) B dX13_areLinked_14 (by decide) (fun hq4 => ?_) (fun hq4 => ?_)
    · refine pm_iconst (v := 0) B dX13_areLinked_21 (by decide) ?_
      refine pm_cV (As := [.int 0]) (mc2 := 0) (ms2 := 0) B rfl pm_up_s rfl (c_X13_isThere (f := f) (b := 0) pm_up_s (by first | assumption | exact pm_in01 _ _ _ | decide | simp)) mt_X13_isThere sv_X13_107 dX13_areLinked_22 rfl rfl rfl rfl rfl ?_
      refine pm_mem (M' := pm_up M m0 (pm_mo z m0 (upd f 6 (pm_th 0)))) pm_up_up ?_
      refine pm_stk (st' := [.int 0]) rfl ?_
      refine pm_if_eq (tgt := 41) B dX13_areLinked_25 (by decide) (fun hq5 => ?_) (fun hq5 => absurd (by decide) hq5)
      refine pm_iconst (v := 0) B dX13_areLinked_41 (by decide) ?_
      have hDq6 : (d_X13_areLinked x y n f g) = (0, (upd f 6 (pm_th 0))) := by rw [d_X13_areLinked, if_neg hq1, if_pos hq4]
      exact pm_ireturn B dX13_areLinked_42 rfl (by first | rfl | (apply pm_nz; first | assumption | decide | exact pm_in01 _ _ _ | simp)) ⟨(by rw [hDq6]), rfl, by rw [hDq6]⟩ rfl rfl
    · obtain ⟨he_y, hl_y⟩ := pm_in_nx h7 hq4
      refine pm_loc (L' := [some (.ref (z + m0)), some (.int (nI (pm_n x))), some (.int (nI (pm_n y)))]) (congrArg (fun yy : Int32 => ([some (.ref (z + m0)), some (.int (nI (pm_n x))), some (.int yy)] : List (Option Value))) he_y) ?_
      refine pm_iconst (v := 1) B dX13_areLinked_17 (by decide) ?_
      refine pm_goto (tgt := 22) B dX13_areLinked_18 (by decide) ?_
      refine pm_cV (As := [.int 1]) (mc2 := 0) (ms2 := 0) B rfl pm_up_s rfl (c_X13_isThere (f := f) (b := 1) pm_up_s (by first | assumption | exact pm_in01 _ _ _ | decide | simp)) mt_X13_isThere sv_X13_107 dX13_areLinked_22 rfl rfl rfl rfl rfl ?_
      refine pm_mem (M' := pm_up M m0 (pm_mo z m0 (upd f 6 (pm_th 1)))) pm_up_up ?_
      refine pm_stk (st' := [.int 1]) rfl ?_
      refine pm_if_eq (tgt := 41) B dX13_areLinked_25 (by decide) (fun hq7 => absurd hq7 (by decide)) (fun hq7 => ?_)
      refine pm_aload_n B dX13_areLinked_28 rfl ?_
      refine pm_iload_n B dX13_areLinked_29 rfl ?_
      refine pm_iload_n B dX13_areLinked_30 rfl ?_
      refine pm_cV (As := [.int (nI (pm_n x)), .int (nI (pm_n y))]) (mc2 := 0) (ms2 := 0) B rfl pm_up_s rfl (c_X13_linked (i := (pm_n x)) (w := (pm_n y)) (f := (upd f 6 (pm_th 1))) (g := g) pm_up_s ((pm_up_n (by omega)).trans hg) (by omega) (by omega)) mt_X13_linked sv_X13_156 dX13_areLinked_31 rfl rfl rfl rfl rfl ?_
      refine pm_stk (st' := [.int (d_X13_linked (pm_n x) (pm_n y) (upd f 6 (pm_th 1)) g)]) rfl ?_
      refine pm_if_eq (tgt := 41) B dX13_areLinked_34 (by decide) (fun hq8 => ?_) (fun hq8 => ?_)
      · refine pm_iconst (v := 0) B dX13_areLinked_41 (by decide) ?_
        have hDq9 : (d_X13_areLinked x y n f g) = (0, (upd f 6 (pm_th 1))) := by rw [d_X13_areLinked, if_neg hq1, if_neg hq4, if_pos hq8]
        exact pm_ireturn B dX13_areLinked_42 rfl (by first | rfl | (apply pm_nz; first | assumption | decide | exact pm_in01 _ _ _ | simp)) ⟨(by rw [hDq9]), rfl, by rw [hDq9]⟩ rfl rfl
      · refine pm_iconst (v := 1) B dX13_areLinked_37 (by decide) ?_
        refine pm_goto (tgt := 42) B dX13_areLinked_38 (by decide) ?_
        have hDq10 : (d_X13_areLinked x y n f g) = (1, (upd f 6 (pm_th 1))) := by rw [d_X13_areLinked, if_neg hq1, if_neg hq4, if_neg hq8]
        exact pm_ireturn B dX13_areLinked_42 rfl (by first | rfl | (apply pm_nz; first | assumption | decide | exact pm_in01 _ _ _ | simp)) ⟨(by rw [hDq10]), rfl, by rw [hDq10]⟩ rfl rfl
def d_X13_bits_L1  : Nat → Int32 → Int32 → (Int32 × Int32)
  | 0, a1_1, a2_1 => (a1_1, a2_1)
  | k1 + 1, a1_1, a2_1 => if a2_1 ≤ 0 then (a1_1, a2_1) else (d_X13_bits_L1 k1 (a1_1 + (a2_1 &&& 1)) (a2_1 >>> (1 &&& 31)))
def d_X13_bits (x : Int32) : Int32 := ((d_X13_bits_L1 7 0 x).1)
set_option maxRecDepth 100000 in
set_option maxHeartbeats 8000000 in
theorem c_X13_bits {l : Launch} {z : Nat} {D : va_G} {kA : Nat → ClassId} {kE : Nat → Nat} {nx : Nat} {M : pm_M} {x : Int32} (h0 : ¬ x < 0) (h1 : pm_n x < 128) : pm_C l z D kA kE yX13_bits cX13_bits 3 (some .int) 0 0 0 [.int x] nx M (pm_rt (some (.int (d_X13_bits x))) nx M) := by
  refine pm_mk (own := RX13) (nm := "bits") mt_X13_bits rfl rfl rfl rfl fun X B => ?_
  refine pm_loc (L' := [some (.int x), none, none]) rfl ?_
  refine pm_iconst (v := 0) B dX13_bits_0 (by decide) ?_
  refine pm_istore_n B dX13_bits_1 rfl rfl ?_
  refine pm_loc (L' := [some (.int x), some (.int 0), none]) rfl ?_
  refine pm_iload_n B dX13_bits_2 rfl ?_
  refine pm_istore_n B dX13_bits_3 rfl rfl ?_
  refine pm_loc (L' := [some (.int x), some (.int 0), some (.int x)]) rfl ?_
  refine pm_wk (L' := [none, some (.int 0), some (.int x)]) ⟨rfl, ⟨rfl, trivial⟩⟩ ?_
  have loop1 : ∀ (K1 : (Int32 → Int32 → Int32)), (∀ (a1_1 : Int32) (a2_1 : Int32), pm_G l z D X 0 0 (pm_Q z D (pm_rt (some (.int (K1 a1_1 a2_1))) nx M) 0 0 X) nx M 21 [none, some (.int a1_1), none] []) → ∀ (k1 : Nat), ∀ (a1_1 : Int32) (a2_1 : Int32), (hp_1 : ¬ a2_1 < 0) → (hb_1 : pm_n a2_1 < 2 ^ k1) → pm_G l z D X 0 0 (pm_Q z D (pm_rt (some (.int (K1 ((d_X13_bits_L1 k1 a1_1 a2_1).1) ((d_X13_bits_L1 k1 a1_1 a2_1).2)))) nx M) 0 0 X) nx M 4 [none, some (.int a1_1), some (.int a2_1)] [] := by
    intro K1 hK1 k1
    induction k1 with
    | zero =>
      intro a1_1 a2_1 hp_1 hb_1
      refine pm_iload_n B dX13_bits_4 rfl ?_
      refine pm_if_le (tgt := 21) B dX13_bits_5 (by decide) (fun hq1 => ?_) (fun hq1 => absurd ((pm_le0 hp_1 hb_1)) hq1)
      refine pm_wk (L' := [none, some (.int a1_1), none]) ⟨rfl, trivial⟩ ?_
      have hDq2 : (K1 ((d_X13_bits_L1 0 a1_1 a2_1).1) ((d_X13_bits_L1 0 a1_1 a2_1).2)) = (K1 a1_1 a2_1) := by rw [d_X13_bits_L1]
      refine pm_pst (post' := pm_rt (some (.int (K1 a1_1 a2_1))) nx M) (by rw [hDq2]) ?_
      exact hK1 a1_1 a2_1
    | succ k1 ih1 =>
      intro a1_1 a2_1 hp_1 hb_1
      refine pm_iload_n B dX13_bits_4 rfl ?_
      refine pm_if_le (tgt := 21) B dX13_bits_5 (by decide) (fun hq3 => ?_) (fun hq3 => ?_)
      · refine pm_wk (L' := [none, some (.int a1_1), none]) ⟨rfl, trivial⟩ ?_
        have hDq4 : (K1 ((d_X13_bits_L1 (k1 + 1) a1_1 a2_1).1) ((d_X13_bits_L1 (k1 + 1) a1_1 a2_1).2)) = (K1 a1_1 a2_1) := by rw [d_X13_bits_L1, if_pos hq3]
        refine pm_pst (post' := pm_rt (some (.int (K1 a1_1 a2_1))) nx M) (by rw [hDq4]) ?_
        exact hK1 a1_1 a2_1
      · refine pm_iload_n B dX13_bits_8 rfl ?_
        refine pm_iload_n B dX13_bits_9 rfl ?_
        refine pm_iconst (v := 1) B dX13_bits_10 (by decide) ?_
        refine pm_iand B dX13_bits_11 ?_
        refine pm_iadd B dX13_bits_12 ?_
        refine pm_istore_n B dX13_bits_13 rfl rfl ?_
        refine pm_loc (L' := [none, some (.int (a1_1 + (a2_1 &&& 1))), some (.int a2_1)]) rfl ?_
        refine pm_iload_n B dX13_bits_14 rfl ?_
        refine pm_iconst (v := 1) B dX13_bits_15 (by decide) ?_
        refine pm_ishr B dX13_bits_16 ?_
        refine pm_istore_n B dX13_bits_17 rfl rfl ?_
        refine pm_loc (L' := [none, some (.int (a1_1 + (a2_1 &&& 1))), some (.int (a2_1 >>> (1 &&& 31)))]) rfl ?_
        refine pm_goto (tgt := 4) B dX13_bits_18 (by decide) ?_
        have hDq5 : (K1 ((d_X13_bits_L1 (k1 + 1) a1_1 a2_1).1) ((d_X13_bits_L1 (k1 + 1) a1_1 a2_1).2)) = (K1 ((d_X13_bits_L1 k1 (a1_1 + (a2_1 &&& 1)) (a2_1 >>> (1 &&& 31))).1) ((d_X13_bits_L1 k1 (a1_1 + (a2_1 &&& 1)) (a2_1 >>> (1 &&& 31))).2)) := by rw [d_X13_bits_L1, if_neg hq3]
        refine pm_pst (post' := pm_rt (some (.int (K1 ((d_X13_bits_L1 k1 (a1_1 + (a2_1 &&& 1)) (a2_1 >>> (1 &&& 31))).1) ((d_X13_bits_L1 k1 (a1_1 + (a2_1 &&& 1)) (a2_1 >>> (1 &&& 31))).2)))) nx M) (by rw [hDq5]) ?_
        exact ih1 (a1_1 + (a2_1 &&& 1)) (a2_1 >>> (1 &&& 31)) ((pm_shr1 hp_1 hb_1).1) ((pm_shr1 hp_1 hb_1).2)
  refine pm_pst (post' := pm_rt (some (.int ((d_X13_bits_L1 7 0 x).1))) nx M) (by rw [show (d_X13_bits x) = ((d_X13_bits_L1 7 0 x).1) from by rw [d_X13_bits]]) ?_
  refine loop1 (fun (a1_1 : Int32) (a2_1 : Int32) => a1_1) ?_ 7 0 x (h0) (h1)
  intro a1_1 a2_1
  refine pm_pst (post' := pm_rt (some (.int a1_1)) nx M) rfl ?_
  refine pm_iload_n B dX13_bits_21 rfl ?_
  have hDq6 : (a1_1) = a1_1 := rfl
  exact pm_ireturn B dX13_bits_22 rfl (by first | rfl | (apply pm_nz; first | assumption | decide | exact pm_in01 _ _ _ | simp)) ⟨(by rw [hDq6]), rfl, rfl⟩ rfl rfl
