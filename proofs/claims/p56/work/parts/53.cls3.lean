/-! the class: Apportionment -/
def d_X1_isGreater (i : Nat) (w : Nat) (n : Nat) (r : Nat → Int32) (q : Nat → Int32) : Int32 := if ((r (7 + 6 * i + 0)) * ((q w) + 1)) ≤ ((r (7 + 6 * w + 0)) * ((q i) + 1)) then 0 else 1
set_option maxRecDepth 100000 in
set_option maxHeartbeats 8000000 in
theorem c_X1_isGreater {l : Launch} {z : Nat} {D : va_G} {kA : Nat → ClassId} {kE : Nat → Nat} {nx : Nat} {M : pm_M} {i : Nat} {w : Nat} {n : Nat} {r : Nat → Int32} {q : Nat → Int32} (hS : pm_SA z kA 2 M r) (hq : M 14 = some (.inl (kA 0, 7, .inl q))) (hO13 : M 13 = some (.inr (0, [.ref (z + 14), .ref (z + 15)]))) (hn : r 0 = nI n) (h7 : n ≤ 7) (hi : i < 7) (hw : w < 7) : pm_C l z D kA kE yX1_isGreater cX1_isGreater 4 (some .boolean) 0 0 0 [.ref (z + 13), .ref (z + 2), .int (nI i), .int (nI w)] nx M (pm_rt (some (.int (d_X1_isGreater i w n r q))) nx M) := by
  refine pm_mk (own := RX1) (nm := "isGreater") mt_X1_isGreater rfl rfl rfl rfl fun X B => ?_
  refine pm_loc (L' := [some (.ref (z + 13)), some (.ref (z + 2)), some (.int (nI i)), some (.int (nI w))]) rfl ?_
  refine pm_aload_n B dX1_isGreater_0 rfl ?_
  refine pm_get B dX1_isGreater_1 fl_X1_24 (hS.1) rfl ?_
  refine pm_iload_n B dX1_isGreater_4 rfl ?_
  refine pm_aald_n B dX1_isGreater_5 (hS.2.1) rfl i (by first | assumption | omega) (by decide) (pm_mr_at (by first | assumption | omega)) ?_
  refine pm_get B dX1_isGreater_6 fl_X1_34 (hS.2.2.1 i (by first | assumption | omega)) rfl ?_
  refine pm_aload_n B dX1_isGreater_9 rfl ?_
  refine pm_get B dX1_isGreater_10 fl_X1_9 hO13 rfl ?_
  refine pm_iload_n B dX1_isGreater_13 rfl ?_
  refine pm_iald_n B dX1_isGreater_14 hq w (by first | assumption | omega) (by decide) ?_
  refine pm_iconst (v := 1) B dX1_isGreater_15 (by decide) ?_
  refine pm_iadd B dX1_isGreater_16 ?_
  refine pm_imul B dX1_isGreater_17 ?_
  refine pm_aload_n B dX1_isGreater_18 rfl ?_
  refine pm_get B dX1_isGreater_19 fl_X1_24 (hS.1) rfl ?_
  refine pm_iload_n B dX1_isGreater_22 rfl ?_
  refine pm_aald_n B dX1_isGreater_23 (hS.2.1) rfl w (by first | assumption | omega) (by decide) (pm_mr_at (by first | assumption | omega)) ?_
  refine pm_get B dX1_isGreater_24 fl_X1_34 (hS.2.2.1 w (by first | assumption | omega)) rfl ?_
  refine pm_aload_n B dX1_isGreater_27 rfl ?_
  refine pm_get B dX1_isGreater_28 fl_X1_9 hO13 rfl ?_
  refine pm_iload_n B dX1_isGreater_31 rfl ?_
  refine pm_iald_n B dX1_isGreater_32 hq i (by first | assumption | omega) (by decide) ?_
  refine pm_iconst (v := 1) B dX1_isGreater_33 (by decide) ?_
  refine pm_iadd B dX1_isGreater_34 ?_
  refine pm_imul B dX1_isGreater_35 ?_
  refine pm_icmp_le (tgt := 43) B dX1_isGreater_36 (by decide) (fun hq1 => ?_) (fun hq1 => ?_)
  · refine pm_iconst (v := 0) B dX1_isGreater_43 (by decide) ?_
    have hDq2 : (d_X1_isGreater i w n r q) = 0 := by rw [d_X1_isGreater, if_pos hq1]
    exact pm_ireturn B dX1_isGreater_44 rfl (by first | rfl | (apply pm_nz; first | assumption | decide | exact pm_in01 _ _ _ | simp)) ⟨(by rw [hDq2]), rfl, rfl⟩ rfl rfl
  · refine pm_iconst (v := 1) B dX1_isGreater_39 (by decide) ?_
    refine pm_goto (tgt := 44) B dX1_isGreater_40 (by decide) ?_
    have hDq3 : (d_X1_isGreater i w n r q) = 1 := by rw [d_X1_isGreater, if_neg hq1]
    exact pm_ireturn B dX1_isGreater_44 rfl (by first | rfl | (apply pm_nz; first | assumption | decide | exact pm_in01 _ _ _ | simp)) ⟨(by rw [hDq3]), rfl, rfl⟩ rfl rfl
def d_X1_remaindersAheadOf_L1 (i : Nat) (rm : Nat → Int32) : Nat → Nat → Int32 → Int32
  | 0, _, a3_1 => a3_1
  | k1 + 1, j1, a3_1 => if (rm j1) ≤ (rm i) then (if (rm j1) = (rm i) then (if (nI i) ≤ (nI j1) then (d_X1_remaindersAheadOf_L1 i rm k1 (j1 + 1) (a3_1 + 0)) else (d_X1_remaindersAheadOf_L1 i rm k1 (j1 + 1) (a3_1 + 1))) else (d_X1_remaindersAheadOf_L1 i rm k1 (j1 + 1) (a3_1 + 0))) else (if (rm j1) = (rm i) then (if (nI i) ≤ (nI j1) then (d_X1_remaindersAheadOf_L1 i rm k1 (j1 + 1) (a3_1 + 1)) else (d_X1_remaindersAheadOf_L1 i rm k1 (j1 + 1) (a3_1 + 1))) else (d_X1_remaindersAheadOf_L1 i rm k1 (j1 + 1) (a3_1 + 1)))
def d_X1_remaindersAheadOf (i : Nat) (n : Nat) (rm : Nat → Int32) : Int32 := (d_X1_remaindersAheadOf_L1 i rm n 0 0)
set_option maxRecDepth 100000 in
set_option maxHeartbeats 8000000 in
theorem c_X1_remaindersAheadOf {l : Launch} {z : Nat} {D : va_G} {kA : Nat → ClassId} {kE : Nat → Nat} {nx : Nat} {M : pm_M} {i : Nat} {n : Nat} {rm : Nat → Int32} (hrm : M 15 = some (.inl (kA 0, 7, .inl rm))) (hO13 : M 13 = some (.inr (0, [.ref (z + 14), .ref (z + 15)]))) (hi : i < 7) (h7 : n ≤ 7) : pm_C l z D kA kE yX1_remaindersAheadOf cX1_remaindersAheadOf 7 (some .int) 0 0 0 [.ref (z + 13), .int (nI i), .int (nI n)] nx M (pm_rt (some (.int (d_X1_remaindersAheadOf i n rm))) nx M) := by
  refine pm_mk (own := RX1) (nm := "remaindersAheadOf") mt_X1_remaindersAheadOf rfl rfl rfl rfl fun X B => ?_
  refine pm_loc (L' := [some (.ref (z + 13)), some (.int (nI i)), some (.int (nI n)), none, none, none, none]) rfl ?_
  refine pm_iconst (v := 0) B dX1_remaindersAheadOf_0 (by decide) ?_
  refine pm_istore_n B dX1_remaindersAheadOf_1 rfl rfl ?_
  refine pm_loc (L' := [some (.ref (z + 13)), some (.int (nI i)), some (.int (nI n)), some (.int 0), none, none, none]) rfl ?_
  refine pm_iconst (v := 0) B dX1_remaindersAheadOf_2 (by decide) ?_
  refine pm_istore B dX1_remaindersAheadOf_3 rfl rfl ?_
  refine pm_loc (L' := [some (.ref (z + 13)), some (.int (nI i)), some (.int (nI n)), some (.int 0), some (.int 0), none, none]) rfl ?_
  refine pm_loc (L' := [some (.ref (z + 13)), some (.int (nI i)), some (.int (nI n)), some (.int 0), some (.int (nI 0)), none, none]) rfl ?_
  have loop1 : ∀ (K1 : (Int32 → Int32)), (∀ (a3_1 : Int32), pm_G l z D X 0 0 (pm_Q z D (pm_rt (some (.int (K1 a3_1))) nx M) 0 0 X) nx M 87 [none, none, none, some (.int a3_1), none, none, none] []) → ∀ (k1 j1 : Nat), j1 + k1 = n → ∀ (a3_1 : Int32), pm_G l z D X 0 0 (pm_Q z D (pm_rt (some (.int (K1 (d_X1_remaindersAheadOf_L1 i rm k1 j1 a3_1)))) nx M) 0 0 X) nx M 5 [some (.ref (z + 13)), some (.int (nI i)), some (.int (nI n)), some (.int a3_1), some (.int (nI j1)), none, none] [] := by
    intro K1 hK1 k1
    induction k1 with
    | zero =>
      intro j1 hj1 a3_1
      have hjn1 : j1 = n := by omega
      refine pm_iload B dX1_remaindersAheadOf_5 rfl ?_
      refine pm_iload_n B dX1_remaindersAheadOf_7 rfl ?_
      refine pm_icmp_ge (tgt := 87) B dX1_remaindersAheadOf_8 (by decide) (fun hq1 => ?_) (fun hq1 => absurd ((nI_leI (by first | omega | decide) (by first | omega | decide)).mpr (by omega)) hq1)
      refine pm_wk (L' := [none, none, none, some (.int a3_1), none, none, none]) ⟨rfl, trivial⟩ ?_
      have hDq2 : (K1 (d_X1_remaindersAheadOf_L1 i rm 0 j1 a3_1)) = (K1 a3_1) := by rw [d_X1_remaindersAheadOf_L1]
      refine pm_pst (post' := pm_rt (some (.int (K1 a3_1))) nx M) (by rw [hDq2]) ?_
      exact hK1 a3_1
    | succ k1 ih1 =>
      intro j1 hj1 a3_1
      have hjn1 : j1 < n := by omega
      refine pm_iload B dX1_remaindersAheadOf_5 rfl ?_
      refine pm_iload_n B dX1_remaindersAheadOf_7 rfl ?_
      refine pm_icmp_ge (tgt := 87) B dX1_remaindersAheadOf_8 (by decide) (fun hq3 => absurd hq3 (fun e => absurd ((nI_leI (by first | omega | decide) (by first | omega | decide)).mp e) (by omega))) (fun hq3 => ?_)
      refine pm_aload_n B dX1_remaindersAheadOf_11 rfl ?_
      refine pm_get B dX1_remaindersAheadOf_12 fl_X1_15 hO13 rfl ?_
      refine pm_iload B dX1_remaindersAheadOf_15 rfl ?_
      refine pm_iald_n B dX1_remaindersAheadOf_17 hrm j1 (by first | assumption | omega) (by decide) ?_
      refine pm_aload_n B dX1_remaindersAheadOf_18 rfl ?_
      refine pm_get B dX1_remaindersAheadOf_19 fl_X1_15 hO13 rfl ?_
      refine pm_iload_n B dX1_remaindersAheadOf_22 rfl ?_
      refine pm_iald_n B dX1_remaindersAheadOf_23 hrm i (by first | assumption | omega) (by decide) ?_
      refine pm_icmp_le (tgt := 31) B dX1_remaindersAheadOf_24 (by decide) (fun hq4 => ?_) (fun hq4 => ?_)
      · refine pm_iconst (v := 0) B dX1_remaindersAheadOf_31 (by decide) ?_
        refine pm_istore B dX1_remaindersAheadOf_32 rfl rfl ?_
        refine pm_loc (L' := [some (.ref (z + 13)), some (.int (nI i)), some (.int (nI n)), some (.int a3_1), some (.int (nI j1)), some (.int 0), none]) rfl ?_
        refine pm_aload_n B dX1_remaindersAheadOf_34 rfl ?_
        refine pm_get B dX1_remaindersAheadOf_35 fl_X1_15 hO13 rfl ?_
        refine pm_iload B dX1_remaindersAheadOf_38 rfl ?_
        refine pm_iald_n B dX1_remaindersAheadOf_40 hrm j1 (by first | assumption | omega) (by decide) ?_
        refine pm_aload_n B dX1_remaindersAheadOf_41 rfl ?_
        refine pm_get B dX1_remaindersAheadOf_42 fl_X1_15 hO13 rfl ?_
        refine pm_iload_n B dX1_remaindersAheadOf_45 rfl ?_
        refine pm_iald_n B dX1_remaindersAheadOf_46 hrm i (by first | assumption | omega) (by decide) ?_
        refine pm_icmp_ne (tgt := 60) B dX1_remaindersAheadOf_47 (by decide) (fun hq5 => ?_) (fun hq5 => ?_)
        · refine pm_iconst (v := 0) B dX1_remaindersAheadOf_60 (by decide) ?_
          refine pm_istore B dX1_remaindersAheadOf_61 rfl rfl ?_
          refine pm_loc (L' := [some (.ref (z + 13)), some (.int (nI i)), some (.int (nI n)), some (.int a3_1), some (.int (nI j1)), some (.int 0), some (.int 0)]) rfl ?_
          refine pm_iload_n B dX1_remaindersAheadOf_63 rfl ?_
          refine pm_iload B dX1_remaindersAheadOf_64 rfl ?_
          refine pm_if_ne (tgt := 74) B dX1_remaindersAheadOf_66 (by decide) (fun hq6 => absurd (by decide) hq6) (fun hq6 => ?_)
          refine pm_iload B dX1_remaindersAheadOf_69 rfl ?_
          refine pm_if_eq (tgt := 78) B dX1_remaindersAheadOf_71 (by decide) (fun hq7 => ?_) (fun hq7 => absurd (by decide) hq7)
          refine pm_iconst (v := 0) B dX1_remaindersAheadOf_78 (by decide) ?_
          refine pm_iadd B dX1_remaindersAheadOf_79 ?_
          refine pm_istore_n B dX1_remaindersAheadOf_80 rfl rfl ?_
          refine pm_loc (L' := [some (.ref (z + 13)), some (.int (nI i)), some (.int (nI n)), some (.int (a3_1 + 0)), some (.int (nI j1)), some (.int 0), some (.int 0)]) rfl ?_
          refine pm_iinc B dX1_remaindersAheadOf_81 rfl rfl rfl ?_
          refine pm_loc (L' := [some (.ref (z + 13)), some (.int (nI i)), some (.int (nI n)), some (.int (a3_1 + 0)), some (.int (nI (j1 + 1))), some (.int 0), some (.int 0)]) (by rw [show ((nI j1) : Int32) + Int32.ofInt 1 = (nI (j1 + 1)) from nI_1 _]; rfl) ?_
          refine pm_goto (tgt := 5) B dX1_remaindersAheadOf_84 (by decide) ?_
          refine pm_wk (L' := [some (.ref (z + 13)), some (.int (nI i)), some (.int (nI n)), some (.int (a3_1 + 0)), some (.int (nI (j1 + 1))), none, none]) ⟨rfl, ⟨rfl, ⟨rfl, ⟨rfl, ⟨rfl, trivial⟩⟩⟩⟩⟩ ?_
          have hDq8 : (K1 (d_X1_remaindersAheadOf_L1 i rm (k1 + 1) j1 a3_1)) = (K1 (d_X1_remaindersAheadOf_L1 i rm k1 (j1 + 1) (a3_1 + 0))) := by rw [d_X1_remaindersAheadOf_L1, if_pos hq4, if_neg hq5]
          refine pm_pst (post' := pm_rt (some (.int (K1 (d_X1_remaindersAheadOf_L1 i rm k1 (j1 + 1) (a3_1 + 0))))) nx M) (by rw [hDq8]) ?_
          exact ih1 (j1 + 1) (by omega) (a3_1 + 0)
        · refine pm_iload B dX1_remaindersAheadOf_50 rfl ?_
          refine pm_iload_n B dX1_remaindersAheadOf_52 rfl ?_
          refine pm_icmp_ge (tgt := 60) B dX1_remaindersAheadOf_53 (by decide) (fun hq9 => ?_) (fun hq9 => ?_)
          · refine pm_iconst (v := 0) B dX1_remaindersAheadOf_60 (by decide) ?_
            refine pm_istore B dX1_remaindersAheadOf_61 rfl rfl ?_
            refine pm_loc (L' := [some (.ref (z + 13)), some (.int (nI i)), some (.int (nI n)), some (.int a3_1), some (.int (nI j1)), some (.int 0), some (.int 0)]) rfl ?_
            refine pm_iload_n B dX1_remaindersAheadOf_63 rfl ?_
            refine pm_iload B dX1_remaindersAheadOf_64 rfl ?_
            refine pm_if_ne (tgt := 74) B dX1_remaindersAheadOf_66 (by decide) (fun hq10 => absurd (by decide) hq10) (fun hq10 => ?_)
            refine pm_iload B dX1_remaindersAheadOf_69 rfl ?_
            refine pm_if_eq (tgt := 78) B dX1_remaindersAheadOf_71 (by decide) (fun hq11 => ?_) (fun hq11 => absurd (by decide) hq11)
            refine pm_iconst (v := 0) B dX1_remaindersAheadOf_78 (by decide) ?_
            refine pm_iadd B dX1_remaindersAheadOf_79 ?_
            refine pm_istore_n B dX1_remaindersAheadOf_80 rfl rfl ?_
            refine pm_loc (L' := [some (.ref (z + 13)), some (.int (nI i)), some (.int (nI n)), some (.int (a3_1 + 0)), some (.int (nI j1)), some (.int 0), some (.int 0)]) rfl ?_
            refine pm_iinc B dX1_remaindersAheadOf_81 rfl rfl rfl ?_
            refine pm_loc (L' := [some (.ref (z + 13)), some (.int (nI i)), some (.int (nI n)), some (.int (a3_1 + 0)), some (.int (nI (j1 + 1))), some (.int 0), some (.int 0)]) (by rw [show ((nI j1) : Int32) + Int32.ofInt 1 = (nI (j1 + 1)) from nI_1 _]; rfl) ?_
            refine pm_goto (tgt := 5) B dX1_remaindersAheadOf_84 (by decide) ?_
            refine pm_wk (L' := [some (.ref (z + 13)), some (.int (nI i)), some (.int (nI n)), some (.int (a3_1 + 0)), some (.int (nI (j1 + 1))), none, none]) ⟨rfl, ⟨rfl, ⟨rfl, ⟨rfl, ⟨rfl, trivial⟩⟩⟩⟩⟩ ?_
            have hDq12 : (K1 (d_X1_remaindersAheadOf_L1 i rm (k1 + 1) j1 a3_1)) = (K1 (d_X1_remaindersAheadOf_L1 i rm k1 (j1 + 1) (a3_1 + 0))) := by rw [d_X1_remaindersAheadOf_L1, if_pos hq4, if_pos hq5, if_pos hq9]
            refine pm_pst (post' := pm_rt (some (.int (K1 (d_X1_remaindersAheadOf_L1 i rm k1 (j1 + 1) (a3_1 + 0))))) nx M) (by rw [hDq12]) ?_
            exact ih1 (j1 + 1) (by omega) (a3_1 + 0)
          · refine pm_iconst (v := 1) B dX1_remaindersAheadOf_56 (by decide) ?_
            refine pm_goto (tgt := 61) B dX1_remaindersAheadOf_57 (by decide) ?_
            refine pm_istore B dX1_remaindersAheadOf_61 rfl rfl ?_
            refine pm_loc (L' := [some (.ref (z + 13)), some (.int (nI i)), some (.int (nI n)), some (.int a3_1), some (.int (nI j1)), some (.int 0), some (.int 1)]) rfl ?_
            refine pm_iload_n B dX1_remaindersAheadOf_63 rfl ?_
            refine pm_iload B dX1_remaindersAheadOf_64 rfl ?_
            refine pm_if_ne (tgt := 74) B dX1_remaindersAheadOf_66 (by decide) (fun hq13 => absurd (by decide) hq13) (fun hq13 => ?_)
            refine pm_iload B dX1_remaindersAheadOf_69 rfl ?_
            refine pm_if_eq (tgt := 78) B dX1_remaindersAheadOf_71 (by decide) (fun hq14 => absurd hq14 (by decide)) (fun hq14 => ?_)
            refine pm_iconst (v := 1) B dX1_remaindersAheadOf_74 (by decide) ?_
            refine pm_goto (tgt := 79) B dX1_remaindersAheadOf_75 (by decide) ?_
            refine pm_iadd B dX1_remaindersAheadOf_79 ?_
            refine pm_istore_n B dX1_remaindersAheadOf_80 rfl rfl ?_
            refine pm_loc (L' := [some (.ref (z + 13)), some (.int (nI i)), some (.int (nI n)), some (.int (a3_1 + 1)), some (.int (nI j1)), some (.int 0), some (.int 1)]) rfl ?_
            refine pm_iinc B dX1_remaindersAheadOf_81 rfl rfl rfl ?_
            refine pm_loc (L' := [some (.ref (z + 13)), some (.int (nI i)), some (.int (nI n)), some (.int (a3_1 + 1)), some (.int (nI (j1 + 1))), some (.int 0), some (.int 1)]) (by rw [show ((nI j1) : Int32) + Int32.ofInt 1 = (nI (j1 + 1)) from nI_1 _]; rfl) ?_
            refine pm_goto (tgt := 5) B dX1_remaindersAheadOf_84 (by decide) ?_
            refine pm_wk (L' := [some (.ref (z + 13)), some (.int (nI i)), some (.int (nI n)), some (.int (a3_1 + 1)), some (.int (nI (j1 + 1))), none, none]) ⟨rfl, ⟨rfl, ⟨rfl, ⟨rfl, ⟨rfl, trivial⟩⟩⟩⟩⟩ ?_
            have hDq15 : (K1 (d_X1_remaindersAheadOf_L1 i rm (k1 + 1) j1 a3_1)) = (K1 (d_X1_remaindersAheadOf_L1 i rm k1 (j1 + 1) (a3_1 + 1))) := by rw [d_X1_remaindersAheadOf_L1, if_pos hq4, if_pos hq5, if_neg hq9]
            refine pm_pst (post' := pm_rt (some (.int (K1 (d_X1_remaindersAheadOf_L1 i rm k1 (j1 + 1) (a3_1 + 1))))) nx M) (by rw [hDq15]) ?_
            exact ih1 (j1 + 1) (by omega) (a3_1 + 1)
      · refine pm_iconst (v := 1) B dX1_remaindersAheadOf_27 (by decide) ?_
        refine pm_goto (tgt := 32) B dX1_remaindersAheadOf_28 (by decide) ?_
        refine pm_istore B dX1_remaindersAheadOf_32 rfl rfl ?_
        refine pm_loc (L' := [some (.ref (z + 13)), some (.int (nI i)), some (.int (nI n)), some (.int a3_1), some (.int (nI j1)), some (.int 1), none]) rfl ?_
        refine pm_aload_n B dX1_remaindersAheadOf_34 rfl ?_
        refine pm_get B dX1_remaindersAheadOf_35 fl_X1_15 hO13 rfl ?_
        refine pm_iload B dX1_remaindersAheadOf_38 rfl ?_
        refine pm_iald_n B dX1_remaindersAheadOf_40 hrm j1 (by first | assumption | omega) (by decide) ?_
        refine pm_aload_n B dX1_remaindersAheadOf_41 rfl ?_
        refine pm_get B dX1_remaindersAheadOf_42 fl_X1_15 hO13 rfl ?_
        refine pm_iload_n B dX1_remaindersAheadOf_45 rfl ?_
        refine pm_iald_n B dX1_remaindersAheadOf_46 hrm i (by first | assumption | omega) (by decide) ?_
        refine pm_icmp_ne (tgt := 60) B dX1_remaindersAheadOf_47 (by decide) (fun hq16 => ?_) (fun hq16 => ?_)
        · refine pm_iconst (v := 0) B dX1_remaindersAheadOf_60 (by decide) ?_
          refine pm_istore B dX1_remaindersAheadOf_61 rfl rfl ?_
          refine pm_loc (L' := [some (.ref (z + 13)), some (.int (nI i)), some (.int (nI n)), some (.int a3_1), some (.int (nI j1)), some (.int 1), some (.int 0)]) rfl ?_
          refine pm_iload_n B dX1_remaindersAheadOf_63 rfl ?_
          refine pm_iload B dX1_remaindersAheadOf_64 rfl ?_
          refine pm_if_ne (tgt := 74) B dX1_remaindersAheadOf_66 (by decide) (fun hq17 => ?_) (fun hq17 => absurd hq17 (by decide))
          refine pm_iconst (v := 1) B dX1_remaindersAheadOf_74 (by decide) ?_
          refine pm_goto (tgt := 79) B dX1_remaindersAheadOf_75 (by decide) ?_
          refine pm_iadd B dX1_remaindersAheadOf_79 ?_
          refine pm_istore_n B dX1_remaindersAheadOf_80 rfl rfl ?_
          refine pm_loc (L' := [some (.ref (z + 13)), some (.int (nI i)), some (.int (nI n)), some (.int (a3_1 + 1)), some (.int (nI j1)), some (.int 1), some (.int 0)]) rfl ?_
          refine pm_iinc B dX1_remaindersAheadOf_81 rfl rfl rfl ?_
          refine pm_loc (L' := [some (.ref (z + 13)), some (.int (nI i)), some (.int (nI n)), some (.int (a3_1 + 1)), some (.int (nI (j1 + 1))), some (.int 1), some (.int 0)]) (by rw [show ((nI j1) : Int32) + Int32.ofInt 1 = (nI (j1 + 1)) from nI_1 _]; rfl) ?_
          refine pm_goto (tgt := 5) B dX1_remaindersAheadOf_84 (by decide) ?_
          refine pm_wk (L' := [some (.ref (z + 13)), some (.int (nI i)), some (.int (nI n)), some (.int (a3_1 + 1)), some (.int (nI (j1 + 1))), none, none]) ⟨rfl, ⟨rfl, ⟨rfl, ⟨rfl, ⟨rfl, trivial⟩⟩⟩⟩⟩ ?_
          have hDq18 : (K1 (d_X1_remaindersAheadOf_L1 i rm (k1 + 1) j1 a3_1)) = (K1 (d_X1_remaindersAheadOf_L1 i rm k1 (j1 + 1) (a3_1 + 1))) := by rw [d_X1_remaindersAheadOf_L1, if_neg hq4, if_neg hq16]
          refine pm_pst (post' := pm_rt (some (.int (K1 (d_X1_remaindersAheadOf_L1 i rm k1 (j1 + 1) (a3_1 + 1))))) nx M) (by rw [hDq18]) ?_
          exact ih1 (j1 + 1) (by omega) (a3_1 + 1)
        · refine pm_iload B dX1_remaindersAheadOf_50 rfl ?_
          refine pm_iload_n B dX1_remaindersAheadOf_52 rfl ?_
          refine pm_icmp_ge (tgt := 60) B dX1_remaindersAheadOf_53 (by decide) (fun hq19 => ?_) (fun hq19 => ?_)
          · refine pm_iconst (v := 0) B dX1_remaindersAheadOf_60 (by decide) ?_
            refine pm_istore B dX1_remaindersAheadOf_61 rfl rfl ?_
            refine pm_loc (L' := [some (.ref (z + 13)), some (.int (nI i)), some (.int (nI n)), some (.int a3_1), some (.int (nI j1)), some (.int 1), some (.int 0)]) rfl ?_
            refine pm_iload_n B dX1_remaindersAheadOf_63 rfl ?_
            refine pm_iload B dX1_remaindersAheadOf_64 rfl ?_
            refine pm_if_ne (tgt := 74) B dX1_remaindersAheadOf_66 (by decide) (fun hq20 => ?_) (fun hq20 => absurd hq20 (by decide))
            refine pm_iconst (v := 1) B dX1_remaindersAheadOf_74 (by decide) ?_
            refine pm_goto (tgt := 79) B dX1_remaindersAheadOf_75 (by decide) ?_
            refine pm_iadd B dX1_remaindersAheadOf_79 ?_
            refine pm_istore_n B dX1_remaindersAheadOf_80 rfl rfl ?_
            refine pm_loc (L' := [some (.ref (z + 13)), some (.int (nI i)), some (.int (nI n)), some (.int (a3_1 + 1)), some (.int (nI j1)), some (.int 1), some (.int 0)]) rfl ?_
            refine pm_iinc B dX1_remaindersAheadOf_81 rfl rfl rfl ?_
            refine pm_loc (L' := [some (.ref (z + 13)), some (.int (nI i)), some (.int (nI n)), some (.int (a3_1 + 1)), some (.int (nI (j1 + 1))), some (.int 1), some (.int 0)]) (by rw [show ((nI j1) : Int32) + Int32.ofInt 1 = (nI (j1 + 1)) from nI_1 _]; rfl) ?_
            refine pm_goto (tgt := 5) B dX1_remaindersAheadOf_84 (by decide) ?_
            refine pm_wk (L' := [some (.ref (z + 13)), some (.int (nI i)), some (.int (nI n)), some (.int (a3_1 + 1)), some (.int (nI (j1 + 1))), none, none]) ⟨rfl, ⟨rfl, ⟨rfl, ⟨rfl, ⟨rfl, trivial⟩⟩⟩⟩⟩ ?_
            have hDq21 : (K1 (d_X1_remaindersAheadOf_L1 i rm (k1 + 1) j1 a3_1)) = (K1 (d_X1_remaindersAheadOf_L1 i rm k1 (j1 + 1) (a3_1 + 1))) := by rw [d_X1_remaindersAheadOf_L1, if_neg hq4, if_pos hq16, if_pos hq19]
            refine pm_pst (post' := pm_rt (some (.int (K1 (d_X1_remaindersAheadOf_L1 i rm k1 (j1 + 1) (a3_1 + 1))))) nx M) (by rw [hDq21]) ?_
            exact ih1 (j1 + 1) (by omega) (a3_1 + 1)
          · refine pm_iconst (v := 1) B dX1_remaindersAheadOf_56 (by decide) ?_
            refine pm_goto (tgt := 61) B dX1_remaindersAheadOf_57 (by decide) ?_
            refine pm_istore B dX1_remaindersAheadOf_61 rfl rfl ?_
            refine pm_loc (L' := [some (.ref (z + 13)), some (.int (nI i)), some (.int (nI n)), some (.int a3_1), some (.int (nI j1)), some (.int 1), some (.int 1)]) rfl ?_
            refine pm_iload_n B dX1_remaindersAheadOf_63 rfl ?_
            refine pm_iload B dX1_remaindersAheadOf_64 rfl ?_
            refine pm_if_ne (tgt := 74) B dX1_remaindersAheadOf_66 (by decide) (fun hq22 => ?_) (fun hq22 => absurd hq22 (by decide))
            refine pm_iconst (v := 1) B dX1_remaindersAheadOf_74 (by decide) ?_
            refine pm_goto (tgt := 79) B dX1_remaindersAheadOf_75 (by decide) ?_
            refine pm_iadd B dX1_remaindersAheadOf_79 ?_
            refine pm_istore_n B dX1_remaindersAheadOf_80 rfl rfl ?_
            refine pm_loc (L' := [some (.ref (z + 13)), some (.int (nI i)), some (.int (nI n)), some (.int (a3_1 + 1)), some (.int (nI j1)), some (.int 1), some (.int 1)]) rfl ?_
            refine pm_iinc B dX1_remaindersAheadOf_81 rfl rfl rfl ?_
            refine pm_loc (L' := [some (.ref (z + 13)), some (.int (nI i)), some (.int (nI n)), some (.int (a3_1 + 1)), some (.int (nI (j1 + 1))), some (.int 1), some (.int 1)]) (by rw [show ((nI j1) : Int32) + Int32.ofInt 1 = (nI (j1 + 1)) from nI_1 _]; rfl) ?_
            refine pm_goto (tgt := 5) B dX1_remaindersAheadOf_84 (by decide) ?_
            refine pm_wk (L' := [some (.ref (z + 13)), some (.int (nI i)), some (.int (nI n)), some (.int (a3_1 + 1)), some (.int (nI (j1 + 1))), none, none]) ⟨rfl, ⟨rfl, ⟨rfl, ⟨rfl, ⟨rfl, trivial⟩⟩⟩⟩⟩ ?_
            have hDq23 : (K1 (d_X1_remaindersAheadOf_L1 i rm (k1 + 1) j1 a3_1)) = (K1 (d_X1_remaindersAheadOf_L1 i rm k1 (j1 + 1) (a3_1 + 1))) := by rw [d_X1_remaindersAheadOf_L1, if_neg hq4, if_pos hq16, if_neg hq19]
            refine pm_pst (post' := pm_rt (some (.int (K1 (d_X1_remaindersAheadOf_L1 i rm k1 (j1 + 1) (a3_1 + 1))))) nx M) (by rw [hDq23]) ?_
            exact ih1 (j1 + 1) (by omega) (a3_1 + 1)
  refine pm_pst (post' := pm_rt (some (.int (d_X1_remaindersAheadOf_L1 i rm n 0 0))) nx M) (by rw [show (d_X1_remaindersAheadOf i n rm) = (d_X1_remaindersAheadOf_L1 i rm n 0 0) from by rw [d_X1_remaindersAheadOf]]) ?_
  refine loop1 (fun (a3_1 : Int32) => a3_1) ?_ n 0 (by omega) 0
  intro a3_1
  refine pm_pst (post' := pm_rt (some (.int a3_1)) nx M) rfl ?_
  refine pm_iload_n B dX1_remaindersAheadOf_87 rfl ?_
  have hDq24 : (a3_1) = a3_1 := rfl
  exact pm_ireturn B dX1_remaindersAheadOf_88 rfl (by first | rfl | (apply pm_nz; first | assumption | decide | exact pm_in01 _ _ _ | simp)) ⟨rfl, rfl, rfl⟩ rfl rfl
def d_X1_giveByRemainders_L1 (x : Int32) (c : Int32) (r : Nat → Int32) : Nat → Nat → Int32 → (Nat → Int32) → (Nat → Int32) → (Int32 × (Nat → Int32) × (Nat → Int32))
  | 0, _, a4_1, q_1, rm_1 => (a4_1, q_1, rm_1)
  | k1 + 1, j1, a4_1, q_1, rm_1 => if (r (7 + 6 * j1 + 5)) = 0 then (d_X1_giveByRemainders_L1 x c r k1 (j1 + 1) (a4_1 - ((x * (r (7 + 6 * j1 + 0))) / c)) (upd q_1 j1 ((x * (r (7 + 6 * j1 + 0))) / c)) (upd (upd rm_1 j1 (-1)) j1 ((x * (r (7 + 6 * j1 + 0))) - (x * (r (7 + 6 * j1 + 0))) / c * c))) else (d_X1_giveByRemainders_L1 x c r k1 (j1 + 1) a4_1 q_1 (upd rm_1 j1 (-1)))
def d_X1_giveByRemainders_L2 (n : Nat) (a4_1 : Int32) (rm_1 : Nat → Int32) : Nat → Nat → (Nat → Int32) → (Nat → Int32)
  | 0, _, q_2 => q_2
  | k2 + 1, j2, q_2 => if (rm_1 j2) < 0 then (d_X1_giveByRemainders_L2 n a4_1 rm_1 k2 (j2 + 1) q_2) else (if a4_1 ≤ (d_X1_remaindersAheadOf j2 n rm_1) then (d_X1_giveByRemainders_L2 n a4_1 rm_1 k2 (j2 + 1) q_2) else (d_X1_giveByRemainders_L2 n a4_1 rm_1 k2 (j2 + 1) (upd q_2 j2 ((q_2 j2) + 1))))
def d_X1_giveByRemainders (x : Int32) (c : Int32) (n : Nat) (r : Nat → Int32) (q : Nat → Int32) (rm : Nat → Int32) : ((Nat → Int32) × (Nat → Int32)) := ((d_X1_giveByRemainders_L2 n ((d_X1_giveByRemainders_L1 x c r n 0 x q rm).1) ((d_X1_giveByRemainders_L1 x c r n 0 x q rm).2.2) n 0 ((d_X1_giveByRemainders_L1 x c r n 0 x q rm).2.1)), ((d_X1_giveByRemainders_L1 x c r n 0 x q rm).2.2))
set_option maxRecDepth 100000 in
set_option maxHeartbeats 8000000 in
theorem c_X1_giveByRemainders {l : Launch} {z : Nat} {D : va_G} {kA : Nat → ClassId} {kE : Nat → Nat} {nx : Nat} {M : pm_M} {x : Int32} {c : Int32} {n : Nat} {r : Nat → Int32} {q : Nat → Int32} {rm : Nat → Int32} (hS : pm_SA z kA 2 M r) (hq : M 14 = some (.inl (kA 0, 7, .inl q))) (hrm : M 15 = some (.inl (kA 0, 7, .inl rm))) (hO13 : M 13 = some (.inr (0, [.ref (z + 14), .ref (z + 15)]))) (hn : r 0 = nI n) (h7 : n ≤ 7) (hc : ¬ c = 0) : pm_C l z D kA kE yX1_giveByRemainders cX1_giveByRemainders 7 none 1 0 0 [.ref (z + 13), .ref (z + 2), .int x, .int c] nx M (pm_rt none nx (pm_up (pm_up M 14 (.inl (kA 0, 7, .inl ((d_X1_giveByRemainders x c n r q rm).1)))) 15 (.inl (kA 0, 7, .inl ((d_X1_giveByRemainders x c n r q rm).2))))) := by
  refine pm_mk (own := RX1) (nm := "giveByRemainders") mt_X1_giveByRemainders rfl rfl rfl rfl fun X B => ?_
  refine pm_loc (L' := [some (.ref (z + 13)), some (.ref (z + 2)), some (.int x), some (.int c), none, none, none]) rfl ?_
  refine pm_mem (M' := pm_up (pm_up M 14 (.inl (kA 0, 7, .inl q))) 15 (.inl (kA 0, 7, .inl rm))) (by rw [pm_up_id hq, pm_up_id hrm]) ?_
  refine pm_iload_n B dX1_giveByRemainders_0 rfl ?_
  refine pm_if_ne (tgt := 5) B dX1_giveByRemainders_1 (by decide) (fun hq1 => ?_) (fun hq1 => absurd hq1 (hc))
  refine pm_iload_n B dX1_giveByRemainders_5 rfl ?_
  refine pm_istore B dX1_giveByRemainders_6 rfl rfl ?_
  refine pm_loc (L' := [some (.ref (z + 13)), some (.ref (z + 2)), some (.int x), some (.int c), some (.int x), none, none]) rfl ?_
  refine pm_iconst (v := 0) B dX1_giveByRemainders_8 (by decide) ?_
  refine pm_istore B dX1_giveByRemainders_9 rfl rfl ?_
  refine pm_loc (L' := [some (.ref (z + 13)), some (.ref (z + 2)), some (.int x), some (.int c), some (.int x), some (.int 0), none]) rfl ?_
  refine pm_loc (L' := [some (.ref (z + 13)), some (.ref (z + 2)), some (.int x), some (.int c), some (.int x), some (.int (nI 0)), none]) rfl ?_
  have loop1 : ∀ (K1 : (Int32 → (Nat → Int32) → (Nat → Int32) → ((Nat → Int32) × (Nat → Int32)))), (∀ (a4_1 : Int32) (q_1 : (Nat → Int32)) (rm_1 : (Nat → Int32)), pm_G l z D X 0 0 (pm_Q z D (pm_rt none nx (pm_up (pm_up M 14 (.inl (kA 0, 7, .inl ((K1 a4_1 q_1 rm_1).1)))) 15 (.inl (kA 0, 7, .inl ((K1 a4_1 q_1 rm_1).2))))) 0 0 X) nx (pm_up (pm_up M 14 (.inl (kA 0, 7, .inl q_1))) 15 (.inl (kA 0, 7, .inl rm_1))) 95 [some (.ref (z + 13)), some (.ref (z + 2)), none, none, some (.int a4_1), none, none] []) → ∀ (k1 j1 : Nat), j1 + k1 = n → ∀ (a4_1 : Int32) (q_1 : (Nat → Int32)) (rm_1 : (Nat → Int32)), pm_G l z D X 0 0 (pm_Q z D (pm_rt none nx (pm_up (pm_up M 14 (.inl (kA 0, 7, .inl ((K1 ((d_X1_giveByRemainders_L1 x c r k1 j1 a4_1 q_1 rm_1).1) ((d_X1_giveByRemainders_L1 x c r k1 j1 a4_1 q_1 rm_1).2.1) ((d_X1_giveByRemainders_L1 x c r k1 j1 a4_1 q_1 rm_1).2.2)).1)))) 15 (.inl (kA 0, 7, .inl ((K1 ((d_X1_giveByRemainders_L1 x c r k1 j1 a4_1 q_1 rm_1).1) ((d_X1_giveByRemainders_L1 x c r k1 j1 a4_1 q_1 rm_1).2.1) ((d_X1_giveByRemainders_L1 x c r k1 j1 a4_1 q_1 rm_1).2.2)).2))))) 0 0 X) nx (pm_up (pm_up M 14 (.inl (kA 0, 7, .inl q_1))) 15 (.inl (kA 0, 7, .inl rm_1))) 11 [some (.ref (z + 13)), some (.ref (z + 2)), some (.int x), some (.int c), some (.int a4_1), some (.int (nI j1)), none] [] := by
    intro K1 hK1 k1
    induction k1 with
    | zero =>
      intro j1 hj1 a4_1 q_1 rm_1
      have hjn1 : j1 = n := by omega
      refine pm_iload B dX1_giveByRemainders_11 rfl ?_
      refine pm_aload_n B dX1_giveByRemainders_13 rfl ?_
      refine pm_get B dX1_giveByRemainders_14 fl_X1_18 ((pm_up_n (by omega)).trans ((pm_up_n (by omega)).trans (hS.1))) rfl ?_
      refine pm_stk (st' := [.int (nI n), .int (nI j1)]) (by rw [show (r 0) = (nI n) from by rw [hn]]) ?_
      refine pm_icmp_ge (tgt := 95) B dX1_giveByRemainders_17 (by decide) (fun hq2 => ?_) (fun hq2 => absurd ((nI_leI (by first | omega | decide) (by first | omega | decide)).mpr (by omega)) hq2)
      refine pm_wk (L' := [some (.ref (z + 13)), some (.ref (z + 2)), none, none, some (.int a4_1), none, none]) ⟨rfl, ⟨rfl, ⟨rfl, trivial⟩⟩⟩ ?_
      have hDq3 : (K1 ((d_X1_giveByRemainders_L1 x c r 0 j1 a4_1 q_1 rm_1).1) ((d_X1_giveByRemainders_L1 x c r 0 j1 a4_1 q_1 rm_1).2.1) ((d_X1_giveByRemainders_L1 x c r 0 j1 a4_1 q_1 rm_1).2.2)) = (K1 a4_1 q_1 rm_1) := by rw [d_X1_giveByRemainders_L1]
      refine pm_pst (post' := pm_rt none nx (pm_up (pm_up M 14 (.inl (kA 0, 7, .inl ((K1 a4_1 q_1 rm_1).1)))) 15 (.inl (kA 0, 7, .inl ((K1 a4_1 q_1 rm_1).2))))) (by rw [hDq3]) ?_
      exact hK1 a4_1 q_1 rm_1
    | succ k1 ih1 =>
      intro j1 hj1 a4_1 q_1 rm_1
      have hjn1 : j1 < n := by omega
      refine pm_iload B dX1_giveByRemainders_11 rfl ?_
      refine pm_aload_n B dX1_giveByRemainders_13 rfl ?_
      refine pm_get B dX1_giveByRemainders_14 fl_X1_18 ((pm_up_n (by omega)).trans ((pm_up_n (by omega)).trans (hS.1))) rfl ?_
      refine pm_stk (st' := [.int (nI n), .int (nI j1)]) (by rw [show (r 0) = (nI n) from by rw [hn]]) ?_
      refine pm_icmp_ge (tgt := 95) B dX1_giveByRemainders_17 (by decide) (fun hq4 => absurd hq4 (fun e => absurd ((nI_leI (by first | omega | decide) (by first | omega | decide)).mp e) (by omega))) (fun hq4 => ?_)
      refine pm_aload_n B dX1_giveByRemainders_20 rfl ?_
      refine pm_get B dX1_giveByRemainders_21 fl_X1_15 ((pm_up_n (by omega)).trans ((pm_up_n (by omega)).trans hO13)) rfl ?_
      refine pm_iload B dX1_giveByRemainders_24 rfl ?_
      refine pm_iconst (v := (-1)) B dX1_giveByRemainders_26 (by decide) ?_
      refine pm_iast_n B dX1_giveByRemainders_27 pm_up_s j1 (by first | assumption | omega) (by decide) ?_
      refine pm_mem (M' := pm_up (pm_up M 14 (.inl (kA 0, 7, .inl q_1))) 15 (.inl (kA 0, 7, .inl (upd rm_1 j1 (-1))))) (by rw [pm_up_up] <;> rfl) ?_
      refine pm_aload_n B dX1_giveByRemainders_28 rfl ?_
      refine pm_get B dX1_giveByRemainders_29 fl_X1_24 ((pm_up_n (by omega)).trans ((pm_up_n (by omega)).trans (hS.1))) rfl ?_
      refine pm_iload B dX1_giveByRemainders_32 rfl ?_
      refine pm_aald_n B dX1_giveByRemainders_34 ((pm_up_n (by omega)).trans ((pm_up_n (by omega)).trans (hS.2.1))) rfl j1 (by first | assumption | omega) (by decide) (pm_mr_at (by first | assumption | omega)) ?_
      refine pm_cV (As := []) (mc2 := 0) (ms2 := 0) B rfl ((pm_up_n (by omega)).trans ((pm_up_n (by omega)).trans (hS.2.2.1 j1 (by first | assumption | omega)))) rfl (c_X6_isActive ((pm_up_n (by omega)).trans ((pm_up_n (by omega)).trans (hS.2.2.1 j1 (by first | assumption | omega))))) mt_X6_isActive sv_X1_28 dX1_giveByRemainders_35 rfl rfl rfl rfl rfl ?_
      refine pm_stk (st' := [.int (if (r (7 + 6 * j1 + 5)) = 0 then 1 else 0)]) rfl ?_
      refine pm_if_eq (tgt := 89) B dX1_giveByRemainders_38 (by decide) (fun hq5 => ?_) (fun hq5 => ?_)
      · have hq5p : ¬ ((r (7 + 6 * j1 + 5)) = 0) := (pm_if01 _ _).mp hq5
        refine pm_iinc B dX1_giveByRemainders_89 rfl rfl rfl ?_
        refine pm_loc (L' := [some (.ref (z + 13)), some (.ref (z + 2)), some (.int x), some (.int c), some (.int a4_1), some (.int (nI (j1 + 1))), none]) (by rw [show ((nI j1) : Int32) + Int32.ofInt 1 = (nI (j1 + 1)) from nI_1 _]; rfl) ?_
        refine pm_goto (tgt := 11) B dX1_giveByRemainders_92 (by decide) ?_
        have hDq6 : (K1 ((d_X1_giveByRemainders_L1 x c r (k1 + 1) j1 a4_1 q_1 rm_1).1) ((d_X1_giveByRemainders_L1 x c r (k1 + 1) j1 a4_1 q_1 rm_1).2.1) ((d_X1_giveByRemainders_L1 x c r (k1 + 1) j1 a4_1 q_1 rm_1).2.2)) = (K1 ((d_X1_giveByRemainders_L1 x c r k1 (j1 + 1) a4_1 q_1 (upd rm_1 j1 (-1))).1) ((d_X1_giveByRemainders_L1 x c r k1 (j1 + 1) a4_1 q_1 (upd rm_1 j1 (-1))).2.1) ((d_X1_giveByRemainders_L1 x c r k1 (j1 + 1) a4_1 q_1 (upd rm_1 j1 (-1))).2.2)) := by rw [d_X1_giveByRemainders_L1, if_neg hq5p]
        refine pm_pst (post' := pm_rt none nx (pm_up (pm_up M 14 (.inl (kA 0, 7, .inl ((K1 ((d_X1_giveByRemainders_L1 x c r k1 (j1 + 1) a4_1 q_1 (upd rm_1 j1 (-1))).1) ((d_X1_giveByRemainders_L1 x c r k1 (j1 + 1) a4_1 q_1 (upd rm_1 j1 (-1))).2.1) ((d_X1_giveByRemainders_L1 x c r k1 (j1 + 1) a4_1 q_1 (upd rm_1 j1 (-1))).2.2)).1)))) 15 (.inl (kA 0, 7, .inl ((K1 ((d_X1_giveByRemainders_L1 x c r k1 (j1 + 1) a4_1 q_1 (upd rm_1 j1 (-1))).1) ((d_X1_giveByRemainders_L1 x c r k1 (j1 + 1) a4_1 q_1 (upd rm_1 j1 (-1))).2.1) ((d_X1_giveByRemainders_L1 x c r k1 (j1 + 1) a4_1 q_1 (upd rm_1 j1 (-1))).2.2)).2))))) (by rw [hDq6]) ?_
        exact ih1 (j1 + 1) (by omega) a4_1 q_1 (upd rm_1 j1 (-1))
      · have hq5p : ((r (7 + 6 * j1 + 5)) = 0) := Decidable.not_not.mp (fun e => hq5 ((pm_if01 _ _).mpr e))
        refine pm_iload_n B dX1_giveByRemainders_41 rfl ?_
        refine pm_aload_n B dX1_giveByRemainders_42 rfl ?_
        refine pm_get B dX1_giveByRemainders_43 fl_X1_24 ((pm_up_n (by omega)).trans ((pm_up_n (by omega)).trans (hS.1))) rfl ?_
        refine pm_iload B dX1_giveByRemainders_46 rfl ?_
        refine pm_aald_n B dX1_giveByRemainders_48 ((pm_up_n (by omega)).trans ((pm_up_n (by omega)).trans (hS.2.1))) rfl j1 (by first | assumption | omega) (by decide) (pm_mr_at (by first | assumption | omega)) ?_
        refine pm_get B dX1_giveByRemainders_49 fl_X1_34 ((pm_up_n (by omega)).trans ((pm_up_n (by omega)).trans (hS.2.2.1 j1 (by first | assumption | omega)))) rfl ?_
        refine pm_imul B dX1_giveByRemainders_52 ?_
        refine pm_istore B dX1_giveByRemainders_53 rfl rfl ?_
        refine pm_loc (L' := [some (.ref (z + 13)), some (.ref (z + 2)), some (.int x), some (.int c), some (.int a4_1), some (.int (nI j1)), some (.int (x * (r (7 + 6 * j1 + 0))))]) rfl ?_
        refine pm_aload_n B dX1_giveByRemainders_55 rfl ?_
        refine pm_get B dX1_giveByRemainders_56 fl_X1_9 ((pm_up_n (by omega)).trans ((pm_up_n (by omega)).trans hO13)) rfl ?_
        refine pm_iload B dX1_giveByRemainders_59 rfl ?_
        refine pm_iload B dX1_giveByRemainders_61 rfl ?_
        refine pm_iload_n B dX1_giveByRemainders_63 rfl ?_
        refine pm_idiv B dX1_giveByRemainders_64 (by first | decide | assumption | exact pm_le_ne (by assumption)) ?_
        refine pm_iast_n B dX1_giveByRemainders_65 ((pm_up_n (by omega)).trans pm_up_s) j1 (by first | assumption | omega) (by decide) ?_
        refine pm_mem (M' := pm_up (pm_up M 14 (.inl (kA 0, 7, .inl (upd q_1 j1 ((x * (r (7 + 6 * j1 + 0))) / c))))) 15 (.inl (kA 0, 7, .inl (upd rm_1 j1 (-1))))) (by rw [pm_up_sw (a := 15) (b := 14) (by omega), pm_up_up] <;> rfl) ?_
        refine pm_aload_n B dX1_giveByRemainders_66 rfl ?_
        refine pm_get B dX1_giveByRemainders_67 fl_X1_15 ((pm_up_n (by omega)).trans ((pm_up_n (by omega)).trans hO13)) rfl ?_
        refine pm_iload B dX1_giveByRemainders_70 rfl ?_
        refine pm_iload B dX1_giveByRemainders_72 rfl ?_
        refine pm_iload_n B dX1_giveByRemainders_74 rfl ?_
        refine pm_irem B dX1_giveByRemainders_75 (by first | decide | assumption | exact pm_le_ne (by assumption)) ?_
        refine pm_iast_n B dX1_giveByRemainders_76 pm_up_s j1 (by first | assumption | omega) (by decide) ?_
        refine pm_mem (M' := pm_up (pm_up M 14 (.inl (kA 0, 7, .inl (upd q_1 j1 ((x * (r (7 + 6 * j1 + 0))) / c))))) 15 (.inl (kA 0, 7, .inl (upd (upd rm_1 j1 (-1)) j1 ((x * (r (7 + 6 * j1 + 0))) - (x * (r (7 + 6 * j1 + 0))) / c * c))))) (by rw [pm_up_up] <;> rfl) ?_
        refine pm_iload B dX1_giveByRemainders_77 rfl ?_
        refine pm_aload_n B dX1_giveByRemainders_79 rfl ?_
        refine pm_get B dX1_giveByRemainders_80 fl_X1_9 ((pm_up_n (by omega)).trans ((pm_up_n (by omega)).trans hO13)) rfl ?_
        refine pm_iload B dX1_giveByRemainders_83 rfl ?_
        refine pm_iald_n B dX1_giveByRemainders_85 ((pm_up_n (by omega)).trans pm_up_s) j1 (by first | assumption | omega) (by decide) ?_
        refine pm_stk (st' := [.int ((x * (r (7 + 6 * j1 + 0))) / c), .int a4_1]) (by rw [show ((upd q_1 j1 ((x * (r (7 + 6 * j1 + 0))) / c)) j1) = ((x * (r (7 + 6 * j1 + 0))) / c) from by rw [pk_us]]) ?_
        refine pm_isub B dX1_giveByRemainders_86 ?_
        refine pm_istore B dX1_giveByRemainders_87 rfl rfl ?_
        refine pm_loc (L' := [some (.ref (z + 13)), some (.ref (z + 2)), some (.int x), some (.int c), some (.int (a4_1 - ((x * (r (7 + 6 * j1 + 0))) / c))), some (.int (nI j1)), some (.int (x * (r (7 + 6 * j1 + 0))))]) rfl ?_
        refine pm_iinc B dX1_giveByRemainders_89 rfl rfl rfl ?_
        refine pm_loc (L' := [some (.ref (z + 13)), some (.ref (z + 2)), some (.int x), some (.int c), some (.int (a4_1 - ((x * (r (7 + 6 * j1 + 0))) / c))), some (.int (nI (j1 + 1))), some (.int (x * (r (7 + 6 * j1 + 0))))]) (by rw [show ((nI j1) : Int32) + Int32.ofInt 1 = (nI (j1 + 1)) from nI_1 _]; rfl) ?_
        refine pm_goto (tgt := 11) B dX1_giveByRemainders_92 (by decide) ?_
        refine pm_wk (L' := [some (.ref (z + 13)), some (.ref (z + 2)), some (.int x), some (.int c), some (.int (a4_1 - ((x * (r (7 + 6 * j1 + 0))) / c))), some (.int (nI (j1 + 1))), none]) ⟨rfl, ⟨rfl, ⟨rfl, ⟨rfl, ⟨rfl, ⟨rfl, trivial⟩⟩⟩⟩⟩⟩ ?_
        have hDq7 : (K1 ((d_X1_giveByRemainders_L1 x c r (k1 + 1) j1 a4_1 q_1 rm_1).1) ((d_X1_giveByRemainders_L1 x c r (k1 + 1) j1 a4_1 q_1 rm_1).2.1) ((d_X1_giveByRemainders_L1 x c r (k1 + 1) j1 a4_1 q_1 rm_1).2.2)) = (K1 ((d_X1_giveByRemainders_L1 x c r k1 (j1 + 1) (a4_1 - ((x * (r (7 + 6 * j1 + 0))) / c)) (upd q_1 j1 ((x * (r (7 + 6 * j1 + 0))) / c)) (upd (upd rm_1 j1 (-1)) j1 ((x * (r (7 + 6 * j1 + 0))) - (x * (r (7 + 6 * j1 + 0))) / c * c))).1) ((d_X1_giveByRemainders_L1 x c r k1 (j1 + 1) (a4_1 - ((x * (r (7 + 6 * j1 + 0))) / c)) (upd q_1 j1 ((x * (r (7 + 6 * j1 + 0))) / c)) (upd (upd rm_1 j1 (-1)) j1 ((x * (r (7 + 6 * j1 + 0))) - (x * (r (7 + 6 * j1 + 0))) / c * c))).2.1) ((d_X1_giveByRemainders_L1 x c r k1 (j1 + 1) (a4_1 - ((x * (r (7 + 6 * j1 + 0))) / c)) (upd q_1 j1 ((x * (r (7 + 6 * j1 + 0))) / c)) (upd (upd rm_1 j1 (-1)) j1 ((x * (r (7 + 6 * j1 + 0))) - (x * (r (7 + 6 * j1 + 0))) / c * c))).2.2)) := by rw [d_X1_giveByRemainders_L1, if_pos hq5p]
        refine pm_pst (post' := pm_rt none nx (pm_up (pm_up M 14 (.inl (kA 0, 7, .inl ((K1 ((d_X1_giveByRemainders_L1 x c r k1 (j1 + 1) (a4_1 - ((x * (r (7 + 6 * j1 + 0))) / c)) (upd q_1 j1 ((x * (r (7 + 6 * j1 + 0))) / c)) (upd (upd rm_1 j1 (-1)) j1 ((x * (r (7 + 6 * j1 + 0))) - (x * (r (7 + 6 * j1 + 0))) / c * c))).1) ((d_X1_giveByRemainders_L1 x c r k1 (j1 + 1) (a4_1 - ((x * (r (7 + 6 * j1 + 0))) / c)) (upd q_1 j1 ((x * (r (7 + 6 * j1 + 0))) / c)) (upd (upd rm_1 j1 (-1)) j1 ((x * (r (7 + 6 * j1 + 0))) - (x * (r (7 + 6 * j1 + 0))) / c * c))).2.1) ((d_X1_giveByRemainders_L1 x c r k1 (j1 + 1) (a4_1 - ((x * (r (7 + 6 * j1 + 0))) / c)) (upd q_1 j1 ((x * (r (7 + 6 * j1 + 0))) / c)) (upd (upd rm_1 j1 (-1)) j1 ((x * (r (7 + 6 * j1 + 0))) - (x * (r (7 + 6 * j1 + 0))) / c * c))).2.2)).1)))) 15 (.inl (kA 0, 7, .inl ((K1 ((d_X1_giveByRemainders_L1 x c r k1 (j1 + 1) (a4_1 - ((x * (r (7 + 6 * j1 + 0))) / c)) (upd q_1 j1 ((x * (r (7 + 6 * j1 + 0))) / c)) (upd (upd rm_1 j1 (-1)) j1 ((x * (r (7 + 6 * j1 + 0))) - (x * (r (7 + 6 * j1 + 0))) / c * c))).1) ((d_X1_giveByRemainders_L1 x c r k1 (j1 + 1) (a4_1 - ((x * (r (7 + 6 * j1 + 0))) / c)) (upd q_1 j1 ((x * (r (7 + 6 * j1 + 0))) / c)) (upd (upd rm_1 j1 (-1)) j1 ((x * (r (7 + 6 * j1 + 0))) - (x * (r (7 + 6 * j1 + 0))) / c * c))).2.1) ((d_X1_giveByRemainders_L1 x c r k1 (j1 + 1) (a4_1 - ((x * (r (7 + 6 * j1 + 0))) / c)) (upd q_1 j1 ((x * (r (7 + 6 * j1 + 0))) / c)) (upd (upd rm_1 j1 (-1)) j1 ((x * (r (7 + 6 * j1 + 0))) - (x * (r (7 + 6 * j1 + 0))) / c * c))).2.2)).2))))) (by rw [hDq7]) ?_
        exact ih1 (j1 + 1) (by omega) (a4_1 - ((x * (r (7 + 6 * j1 + 0))) / c)) (upd q_1 j1 ((x * (r (7 + 6 * j1 + 0))) / c)) (upd (upd rm_1 j1 (-1)) j1 ((x * (r (7 + 6 * j1 + 0))) - (x * (r (7 + 6 * j1 + 0))) / c * c))
  refine pm_pst (post' := pm_rt none nx (pm_up (pm_up M 14 (.inl (kA 0, 7, .inl (((d_X1_giveByRemainders_L2 n ((d_X1_giveByRemainders_L1 x c r n 0 x q rm).1) ((d_X1_giveByRemainders_L1 x c r n 0 x q rm).2.2) n 0 ((d_X1_giveByRemainders_L1 x c r n 0 x q rm).2.1)), ((d_X1_giveByRemainders_L1 x c r n 0 x q rm).2.2)).1)))) 15 (.inl (kA 0, 7, .inl (((d_X1_giveByRemainders_L2 n ((d_X1_giveByRemainders_L1 x c r n 0 x q rm).1) ((d_X1_giveByRemainders_L1 x c r n 0 x q rm).2.2) n 0 ((d_X1_giveByRemainders_L1 x c r n 0 x q rm).2.1)), ((d_X1_giveByRemainders_L1 x c r n 0 x q rm).2.2)).2))))) (by rw [show (d_X1_giveByRemainders x c n r q rm) = ((d_X1_giveByRemainders_L2 n ((d_X1_giveByRemainders_L1 x c r n 0 x q rm).1) ((d_X1_giveByRemainders_L1 x c r n 0 x q rm).2.2) n 0 ((d_X1_giveByRemainders_L1 x c r n 0 x q rm).2.1)), ((d_X1_giveByRemainders_L1 x c r n 0 x q rm).2.2)) from by rw [d_X1_giveByRemainders]]) ?_
  refine loop1 (fun (a4_1 : Int32) (q_1 : (Nat → Int32)) (rm_1 : (Nat → Int32)) => ((d_X1_giveByRemainders_L2 n a4_1 rm_1 n 0 q_1), rm_1)) ?_ n 0 (by omega) x q rm
  intro a4_1 q_1 rm_1
  refine pm_pst (post' := pm_rt none nx (pm_up (pm_up M 14 (.inl (kA 0, 7, .inl (((d_X1_giveByRemainders_L2 n a4_1 rm_1 n 0 q_1), rm_1).1)))) 15 (.inl (kA 0, 7, .inl (((d_X1_giveByRemainders_L2 n a4_1 rm_1 n 0 q_1), rm_1).2))))) rfl ?_
  refine pm_iconst (v := 0) B dX1_giveByRemainders_95 (by decide) ?_
  refine pm_istore B dX1_giveByRemainders_96 rfl rfl ?_
  refine pm_loc (L' := [some (.ref (z + 13)), some (.ref (z + 2)), none, none, some (.int a4_1), some (.int 0), none]) rfl ?_
  refine pm_loc (L' := [some (.ref (z + 13)), some (.ref (z + 2)), none, none, some (.int a4_1), some (.int (nI 0)), none]) rfl ?_
  have loop2 : ∀ (K2 : ((Nat → Int32) → ((Nat → Int32) × (Nat → Int32)))), (∀ (q_2 : (Nat → Int32)), pm_G l z D X 0 0 (pm_Q z D (pm_rt none nx (pm_up (pm_up M 14 (.inl (kA 0, 7, .inl ((K2 q_2).1)))) 15 (.inl (kA 0, 7, .inl ((K2 q_2).2))))) 0 0 X) nx (pm_up (pm_up M 14 (.inl (kA 0, 7, .inl q_2))) 15 (.inl (kA 0, 7, .inl rm_1))) 149 [none, none, none, none, none, none, none] []) → ∀ (k2 j2 : Nat), j2 + k2 = n → ∀ (q_2 : (Nat → Int32)), pm_G l z D X 0 0 (pm_Q z D (pm_rt none nx (pm_up (pm_up M 14 (.inl (kA 0, 7, .inl ((K2 (d_X1_giveByRemainders_L2 n a4_1 rm_1 k2 j2 q_2)).1)))) 15 (.inl (kA 0, 7, .inl ((K2 (d_X1_giveByRemainders_L2 n a4_1 rm_1 k2 j2 q_2)).2))))) 0 0 X) nx (pm_up (pm_up M 14 (.inl (kA 0, 7, .inl q_2))) 15 (.inl (kA 0, 7, .inl rm_1))) 98 [some (.ref (z + 13)), some (.ref (z + 2)), none, none, some (.int a4_1), some (.int (nI j2)), none] [] := by
    intro K2 hK2 k2
    induction k2 with
    | zero =>
      intro j2 hj2 q_2
      have hjn2 : j2 = n := by omega
      refine pm_iload B dX1_giveByRemainders_98 rfl ?_
      refine pm_aload_n B dX1_giveByRemainders_100 rfl ?_
      refine pm_get B dX1_giveByRemainders_101 fl_X1_18 ((pm_up_n (by omega)).trans ((pm_up_n (by omega)).trans (hS.1))) rfl ?_
      refine pm_stk (st' := [.int (nI n), .int (nI j2)]) (by rw [show (r 0) = (nI n) from by rw [hn]]) ?_
      refine pm_icmp_ge (tgt := 149) B dX1_giveByRemainders_104 (by decide) (fun hq8 => ?_) (fun hq8 => absurd ((nI_leI (by first | omega | decide) (by first | omega | decide)).mpr (by omega)) hq8)
      refine pm_wk (L' := [none, none, none, none, none, none, none]) trivial ?_
      have hDq9 : (K2 (d_X1_giveByRemainders_L2 n a4_1 rm_1 0 j2 q_2)) = (K2 q_2) := by rw [d_X1_giveByRemainders_L2]
      refine pm_pst (post' := pm_rt none nx (pm_up (pm_up M 14 (.inl (kA 0, 7, .inl ((K2 q_2).1)))) 15 (.inl (kA 0, 7, .inl ((K2 q_2).2))))) (by rw [hDq9]) ?_
      exact hK2 q_2
    | succ k2 ih2 =>
      intro j2 hj2 q_2
      have hjn2 : j2 < n := by omega
      refine pm_iload B dX1_giveByRemainders_98 rfl ?_
      refine pm_aload_n B dX1_giveByRemainders_100 rfl ?_
      refine pm_get B dX1_giveByRemainders_101 fl_X1_18 ((pm_up_n (by omega)).trans ((pm_up_n (by omega)).trans (hS.1))) rfl ?_
      refine pm_stk (st' := [.int (nI n), .int (nI j2)]) (by rw [show (r 0) = (nI n) from by rw [hn]]) ?_
      refine pm_icmp_ge (tgt := 149) B dX1_giveByRemainders_104 (by decide) (fun hq10 => absurd hq10 (fun e => absurd ((nI_leI (by first | omega | decide) (by first | omega | decide)).mp e) (by omega))) (fun hq10 => ?_)
      refine pm_aload_n B dX1_giveByRemainders_107 rfl ?_
      refine pm_get B dX1_giveByRemainders_108 fl_X1_15 ((pm_up_n (by omega)).trans ((pm_up_n (by omega)).trans hO13)) rfl ?_
      refine pm_iload B dX1_giveByRemainders_111 rfl ?_
      refine pm_iald_n B dX1_giveByRemainders_113 pm_up_s j2 (by first | assumption | omega) (by decide) ?_
      refine pm_if_lt (tgt := 143) B dX1_giveByRemainders_114 (by decide) (fun hq11 => ?_) (fun hq11 => ?_)
      · refine pm_iinc B dX1_giveByRemainders_143 rfl rfl rfl ?_
        refine pm_loc (L' := [some (.ref (z + 13)), some (.ref (z + 2)), none, none, some (.int a4_1), some (.int (nI (j2 + 1))), none]) (by rw [show ((nI j2) : Int32) + Int32.ofInt 1 = (nI (j2 + 1)) from nI_1 _]; rfl) ?_
        refine pm_goto (tgt := 98) B dX1_giveByRemainders_146 (by decide) ?_
        have hDq12 : (K2 (d_X1_giveByRemainders_L2 n a4_1 rm_1 (k2 + 1) j2 q_2)) = (K2 (d_X1_giveByRemainders_L2 n a4_1 rm_1 k2 (j2 + 1) q_2)) := by rw [d_X1_giveByRemainders_L2, if_pos hq11]
        refine pm_pst (post' := pm_rt none nx (pm_up (pm_up M 14 (.inl (kA 0, 7, .inl ((K2 (d_X1_giveByRemainders_L2 n a4_1 rm_1 k2 (j2 + 1) q_2)).1)))) 15 (.inl (kA 0, 7, .inl ((K2 (d_X1_giveByRemainders_L2 n a4_1 rm_1 k2 (j2 + 1) q_2)).2))))) (by rw [hDq12]) ?_
        exact ih2 (j2 + 1) (by omega) q_2
      · refine pm_aload_n B dX1_giveByRemainders_117 rfl ?_
        refine pm_iload B dX1_giveByRemainders_118 rfl ?_
        refine pm_aload_n B dX1_giveByRemainders_120 rfl ?_
        refine pm_get B dX1_giveByRemainders_121 fl_X1_18 ((pm_up_n (by omega)).trans ((pm_up_n (by omega)).trans (hS.1))) rfl ?_
        refine pm_stk (st' := [.int (nI n), .int (nI j2), .ref (z + 13)]) (by rw [show (r 0) = (nI n) from by rw [hn]]) ?_
        refine pm_cV (As := [.int (nI j2), .int (nI n)]) (mc2 := 0) (ms2 := 0) B rfl ((pm_up_n (by omega)).trans ((pm_up_n (by omega)).trans hO13)) rfl (c_X1_remaindersAheadOf (i := j2) (n := n) (rm := rm_1) pm_up_s ((pm_up_n (by omega)).trans ((pm_up_n (by omega)).trans hO13)) (by first | assumption | omega) (by first | assumption | omega)) mt_X1_remaindersAheadOf sv_X1_45 dX1_giveByRemainders_124 rfl rfl rfl rfl rfl ?_
        refine pm_stk (st' := [.int (d_X1_remaindersAheadOf j2 n rm_1)]) rfl ?_
        refine pm_iload B dX1_giveByRemainders_127 rfl ?_
        refine pm_icmp_ge (tgt := 143) B dX1_giveByRemainders_129 (by decide) (fun hq13 => ?_) (fun hq13 => ?_)
        · refine pm_iinc B dX1_giveByRemainders_143 rfl rfl rfl ?_
          refine pm_loc (L' := [some (.ref (z + 13)), some (.ref (z + 2)), none, none, some (.int a4_1), some (.int (nI (j2 + 1))), none]) (by rw [show ((nI j2) : Int32) + Int32.ofInt 1 = (nI (j2 + 1)) from nI_1 _]; rfl) ?_
          refine pm_goto (tgt := 98) B dX1_giveByRemainders_146 (by decide) ?_
          have hDq14 : (K2 (d_X1_giveByRemainders_L2 n a4_1 rm_1 (k2 + 1) j2 q_2)) = (K2 (d_X1_giveByRemainders_L2 n a4_1 rm_1 k2 (j2 + 1) q_2)) := by rw [d_X1_giveByRemainders_L2, if_neg hq11, if_pos hq13]
          refine pm_pst (post' := pm_rt none nx (pm_up (pm_up M 14 (.inl (kA 0, 7, .inl ((K2 (d_X1_giveByRemainders_L2 n a4_1 rm_1 k2 (j2 + 1) q_2)).1)))) 15 (.inl (kA 0, 7, .inl ((K2 (d_X1_giveByRemainders_L2 n a4_1 rm_1 k2 (j2 + 1) q_2)).2))))) (by rw [hDq14]) ?_
          exact ih2 (j2 + 1) (by omega) q_2
        · refine pm_aload_n B dX1_giveByRemainders_132 rfl ?_
          refine pm_get B dX1_giveByRemainders_133 fl_X1_9 ((pm_up_n (by omega)).trans ((pm_up_n (by omega)).trans hO13)) rfl ?_
          refine pm_iload B dX1_giveByRemainders_136 rfl ?_
          refine pm_dup2 B dX1_giveByRemainders_138 rfl rfl ?_
          refine pm_iald_n B dX1_giveByRemainders_139 ((pm_up_n (by omega)).trans pm_up_s) j2 (by first | assumption | omega) (by decide) ?_
          refine pm_iconst (v := 1) B dX1_giveByRemainders_140 (by decide) ?_
          refine pm_iadd B dX1_giveByRemainders_141 ?_
          refine pm_iast_n B dX1_giveByRemainders_142 ((pm_up_n (by omega)).trans pm_up_s) j2 (by first | assumption | omega) (by decide) ?_
          refine pm_mem (M' := pm_up (pm_up M 14 (.inl (kA 0, 7, .inl (upd q_2 j2 ((q_2 j2) + 1))))) 15 (.inl (kA 0, 7, .inl rm_1))) (by rw [pm_up_sw (a := 15) (b := 14) (by omega), pm_up_up] <;> rfl) ?_
          refine pm_iinc B dX1_giveByRemainders_143 rfl rfl rfl ?_
          refine pm_loc (L' := [some (.ref (z + 13)), some (.ref (z + 2)), none, none, some (.int a4_1), some (.int (nI (j2 + 1))), none]) (by rw [show ((nI j2) : Int32) + Int32.ofInt 1 = (nI (j2 + 1)) from nI_1 _]; rfl) ?_
          refine pm_goto (tgt := 98) B dX1_giveByRemainders_146 (by decide) ?_
          have hDq15 : (K2 (d_X1_giveByRemainders_L2 n a4_1 rm_1 (k2 + 1) j2 q_2)) = (K2 (d_X1_giveByRemainders_L2 n a4_1 rm_1 k2 (j2 + 1) (upd q_2 j2 ((q_2 j2) + 1)))) := by rw [d_X1_giveByRemainders_L2, if_neg hq11, if_neg hq13]
          refine pm_pst (post' := pm_rt none nx (pm_up (pm_up M 14 (.inl (kA 0, 7, .inl ((K2 (d_X1_giveByRemainders_L2 n a4_1 rm_1 k2 (j2 + 1) (upd q_2 j2 ((q_2 j2) + 1)))).1)))) 15 (.inl (kA 0, 7, .inl ((K2 (d_X1_giveByRemainders_L2 n a4_1 rm_1 k2 (j2 + 1) (upd q_2 j2 ((q_2 j2) + 1)))).2))))) (by rw [hDq15]) ?_
          exact ih2 (j2 + 1) (by omega) (upd q_2 j2 ((q_2 j2) + 1))
  refine pm_pst (post' := pm_rt none nx (pm_up (pm_up M 14 (.inl (kA 0, 7, .inl (((d_X1_giveByRemainders_L2 n a4_1 rm_1 n 0 q_1), rm_1).1)))) 15 (.inl (kA 0, 7, .inl (((d_X1_giveByRemainders_L2 n a4_1 rm_1 n 0 q_1), rm_1).2))))) (by rw [show (((d_X1_giveByRemainders_L2 n a4_1 rm_1 n 0 q_1), rm_1)) = ((d_X1_giveByRemainders_L2 n a4_1 rm_1 n 0 q_1), rm_1) from rfl]) ?_
  refine loop2 (fun (q_2 : (Nat → Int32)) => (q_2, rm_1)) ?_ n 0 (by omega) q_1
  intro q_2
  refine pm_pst (post' := pm_rt none nx (pm_up (pm_up M 14 (.inl (kA 0, 7, .inl ((q_2, rm_1).1)))) 15 (.inl (kA 0, 7, .inl ((q_2, rm_1).2))))) rfl ?_
  have hDq16 : ((q_2, rm_1)) = (q_2, rm_1) := rfl
  exact pm_return B dX1_giveByRemainders_149 rfl ⟨rfl, rfl, rfl⟩ rfl rfl
def d_X1_giveOneByOne_L2 (n : Nat) (r : Nat → Int32) (q_1 : Nat → Int32) : Nat → Nat → Int32 → Int32
  | 0, _, a4_2 => a4_2
  | k2 + 1, j2, a4_2 => if (r (7 + 6 * j2 + 5)) = 0 then (if a4_2 < 0 then (d_X1_giveOneByOne_L2 n r q_1 k2 (j2 + 1) (nI j2)) else (if (d_X1_isGreater j2 (pm_n a4_2) n r q_1) = 0 then (d_X1_giveOneByOne_L2 n r q_1 k2 (j2 + 1) a4_2) else (d_X1_giveOneByOne_L2 n r q_1 k2 (j2 + 1) (nI j2)))) else (d_X1_giveOneByOne_L2 n r q_1 k2 (j2 + 1) a4_2)
def d_X1_giveOneByOne_L1 (n : Nat) (r : Nat → Int32) : Nat → Nat → (Nat → Int32) → (Nat → Int32)
  | 0, _, q_1 => q_1
  | k1 + 1, j1, q_1 => if (d_X1_giveOneByOne_L2 n r q_1 n 0 (-1)) < 0 then (d_X1_giveOneByOne_L1 n r k1 (j1 + 1) q_1) else (d_X1_giveOneByOne_L1 n r k1 (j1 + 1) (upd q_1 (pm_n (d_X1_giveOneByOne_L2 n r q_1 n 0 (-1))) ((q_1 (pm_n (d_X1_giveOneByOne_L2 n r q_1 n 0 (-1)))) + 1)))
def d_X1_giveOneByOne (w : Nat) (n : Nat) (r : Nat → Int32) (q : Nat → Int32) : (Nat → Int32) := (d_X1_giveOneByOne_L1 n r w 0 q)
set_option maxRecDepth 100000 in
set_option maxHeartbeats 8000000 in
theorem c_X1_giveOneByOne {l : Launch} {z : Nat} {D : va_G} {kA : Nat → ClassId} {kE : Nat → Nat} {nx : Nat} {M : pm_M} {w : Nat} {n : Nat} {r : Nat → Int32} {q : Nat → Int32} (hS : pm_SA z kA 2 M r) (hq : M 14 = some (.inl (kA 0, 7, .inl q))) (hO13 : M 13 = some (.inr (0, [.ref (z + 14), .ref (z + 15)]))) (hn : r 0 = nI n) (h7 : n ≤ 7) (hw : w < 2147483648) : pm_C l z D kA kE yX1_giveOneByOne cX1_giveOneByOne 6 none 1 0 0 [.ref (z + 13), .ref (z + 2), .int (nI w)] nx M (pm_rt none nx (pm_up M 14 (.inl (kA 0, 7, .inl (d_X1_giveOneByOne w n r q))))) := by
  refine pm_mk (own := RX1) (nm := "giveOneByOne") mt_X1_giveOneByOne rfl rfl rfl rfl fun X B => ?_
  refine pm_loc (L' := [some (.ref (z + 13)), some (.ref (z + 2)), some (.int (nI w)), none, none, none]) rfl ?_
  refine pm_mem (M' := pm_up M 14 (.inl (kA 0, 7, .inl q))) (by rw [pm_up_id hq]) ?_
  refine pm_iconst (v := 0) B dX1_giveOneByOne_0 (by decide) ?_
  refine pm_istore_n B dX1_giveOneByOne_1 rfl rfl ?_
  refine pm_loc (L' := [some (.ref (z + 13)), some (.ref (z + 2)), some (.int (nI w)), some (.int 0), none, none]) rfl ?_
  refine pm_loc (L' := [some (.ref (z + 13)), some (.ref (z + 2)), some (.int (nI w)), some (.int (nI 0)), none, none]) rfl ?_
  have loop1 : ∀ (K1 : ((Nat → Int32) → (Nat → Int32))), (∀ (q_1 : (Nat → Int32)), pm_G l z D X 0 0 (pm_Q z D (pm_rt none nx (pm_up M 14 (.inl (kA 0, 7, .inl (K1 q_1))))) 0 0 X) nx (pm_up M 14 (.inl (kA 0, 7, .inl q_1))) 84 [none, none, none, none, none, none] []) → ∀ (k1 j1 : Nat), j1 + k1 = w → ∀ (q_1 : (Nat → Int32)), pm_G l z D X 0 0 (pm_Q z D (pm_rt none nx (pm_up M 14 (.inl (kA 0, 7, .inl (K1 (d_X1_giveOneByOne_L1 n r k1 j1 q_1)))))) 0 0 X) nx (pm_up M 14 (.inl (kA 0, 7, .inl q_1))) 2 [some (.ref (z + 13)), some (.ref (z + 2)), some (.int (nI w)), some (.int (nI j1)), none, none] [] := by
    intro K1 hK1 k1
    induction k1 with
    | zero =>
      intro j1 hj1 q_1
      have hjn1 : j1 = w := by omega
      refine pm_iload_n B dX1_giveOneByOne_2 rfl ?_
      refine pm_iload_n B dX1_giveOneByOne_3 rfl ?_
      refine pm_icmp_ge (tgt := 84) B dX1_giveOneByOne_4 (by decide) (fun hq1 => ?_) (fun hq1 => absurd ((nI_leI (by first | omega | decide) (by first | omega | decide)).mpr (by omega)) hq1)
      refine pm_wk (L' := [none, none, none, none, none, none]) trivial ?_
      have hDq2 : (K1 (d_X1_giveOneByOne_L1 n r 0 j1 q_1)) = (K1 q_1) := by rw [d_X1_giveOneByOne_L1]
      refine pm_pst (post' := pm_rt none nx (pm_up M 14 (.inl (kA 0, 7, .inl (K1 q_1))))) (by rw [hDq2]) ?_
      exact hK1 q_1
    | succ k1 ih1 =>
      intro j1 hj1 q_1
      have hjn1 : j1 < w := by omega
      refine pm_iload_n B dX1_giveOneByOne_2 rfl ?_
      refine pm_iload_n B dX1_giveOneByOne_3 rfl ?_
      refine pm_icmp_ge (tgt := 84) B dX1_giveOneByOne_4 (by decide) (fun hq3 => absurd hq3 (fun e => absurd ((nI_leI (by first | omega | decide) (by first | omega | decide)).mp e) (by omega))) (fun hq3 => ?_)
      refine pm_iconst (v := (-1)) B dX1_giveOneByOne_7 (by decide) ?_
      refine pm_istore B dX1_giveOneByOne_8 rfl rfl ?_
      refine pm_loc (L' := [some (.ref (z + 13)), some (.ref (z + 2)), some (.int (nI w)), some (.int (nI j1)), some (.int (-1)), none]) rfl ?_
      refine pm_iconst (v := 0) B dX1_giveOneByOne_10 (by decide) ?_
      refine pm_istore B dX1_giveOneByOne_11 rfl rfl ?_
      refine pm_loc (L' := [some (.ref (z + 13)), some (.ref (z + 2)), some (.int (nI w)), some (.int (nI j1)), some (.int (-1)), some (.int 0)]) rfl ?_
      refine pm_loc (L' := [some (.ref (z + 13)), some (.ref (z + 2)), some (.int (nI w)), some (.int (nI j1)), some (.int (-1)), some (.int (nI 0))]) rfl ?_
      have loop2 : ∀ (K2 : (Int32 → (Nat → Int32))), (∀ (a4_2 : Int32), (hs_2 : pm_bst n a4_2) → pm_G l z D X 0 0 (pm_Q z D (pm_rt none nx (pm_up M 14 (.inl (kA 0, 7, .inl (K2 a4_2))))) 0 0 X) nx (pm_up M 14 (.inl (kA 0, 7, .inl q_1))) 62 [some (.ref (z + 13)), some (.ref (z + 2)), some (.int (nI w)), some (.int (nI j1)), some (.int a4_2), none] []) → ∀ (k2 j2 : Nat), j2 + k2 = n → ∀ (a4_2 : Int32), (hs_2 : pm_bst n a4_2) → pm_G l z D X 0 0 (pm_Q z D (pm_rt none nx (pm_up M 14 (.inl (kA 0, 7, .inl (K2 (d_X1_giveOneByOne_L2 n r q_1 k2 j2 a4_2)))))) 0 0 X) nx (pm_up M 14 (.inl (kA 0, 7, .inl q_1))) 13 [some (.ref (z + 13)), some (.ref (z + 2)), some (.int (nI w)), some (.int (nI j1)), some (.int a4_2), some (.int (nI j2))] [] := by
        intro K2 hK2 k2
        induction k2 with
        | zero =>
          intro j2 hj2 a4_2 hs_2
          have hjn2 : j2 = n := by omega
          refine pm_iload B dX1_giveOneByOne_13 rfl ?_
          refine pm_aload_n B dX1_giveOneByOne_15 rfl ?_
          refine pm_get B dX1_giveOneByOne_16 fl_X1_18 ((pm_up_n (by omega)).trans (hS.1)) rfl ?_
          refine pm_stk (st' := [.int (nI n), .int (nI j2)]) (by rw [show (r 0) = (nI n) from by rw [hn]]) ?_
          refine pm_icmp_ge (tgt := 62) B dX1_giveOneByOne_19 (by decide) (fun hq4 => ?_) (fun hq4 => absurd ((nI_leI (by first | omega | decide) (by first | omega | decide)).mpr (by omega)) hq4)
          refine pm_wk (L' := [some (.ref (z + 13)), some (.ref (z + 2)), some (.int (nI w)), some (.int (nI j1)), some (.int a4_2), none]) ⟨rfl, ⟨rfl, ⟨rfl, ⟨rfl, ⟨rfl, trivial⟩⟩⟩⟩⟩ ?_
          have hDq5 : (K2 (d_X1_giveOneByOne_L2 n r q_1 0 j2 a4_2)) = (K2 a4_2) := by rw [d_X1_giveOneByOne_L2]
          refine pm_pst (post' := pm_rt none nx (pm_up M 14 (.inl (kA 0, 7, .inl (K2 a4_2))))) (by rw [hDq5]) ?_
          exact hK2 a4_2 (hs_2)
        | succ k2 ih2 =>
          intro j2 hj2 a4_2 hs_2
          have hjn2 : j2 < n := by omega
          refine pm_iload B dX1_giveOneByOne_13 rfl ?_
          refine pm_aload_n B dX1_giveOneByOne_15 rfl ?_
          refine pm_get B dX1_giveOneByOne_16 fl_X1_18 ((pm_up_n (by omega)).trans (hS.1)) rfl ?_
          refine pm_stk (st' := [.int (nI n), .int (nI j2)]) (by rw [show (r 0) = (nI n) from by rw [hn]]) ?_
          refine pm_icmp_ge (tgt := 62) B dX1_giveOneByOne_19 (by decide) (fun hq6 => absurd hq6 (fun e => absurd ((nI_leI (by first | omega | decide) (by first | omega | decide)).mp e) (by omega))) (fun hq6 => ?_)
          refine pm_aload_n B dX1_giveOneByOne_22 rfl ?_
          refine pm_get B dX1_giveOneByOne_23 fl_X1_24 ((pm_up_n (by omega)).trans (hS.1)) rfl ?_
          refine pm_iload B dX1_giveOneByOne_26 rfl ?_
          refine pm_aald_n B dX1_giveOneByOne_28 ((pm_up_n (by omega)).trans (hS.2.1)) rfl j2 (by first | assumption | omega) (by decide) (pm_mr_at (by first | assumption | omega)) ?_
          refine pm_cV (As := []) (mc2 := 0) (ms2 := 0) B rfl ((pm_up_n (by omega)).trans (hS.2.2.1 j2 (by first | assumption | omega))) rfl (c_X6_isActive ((pm_up_n (by omega)).trans (hS.2.2.1 j2 (by first | assumption | omega)))) mt_X6_isActive sv_X1_28 dX1_giveOneByOne_29 rfl rfl rfl rfl rfl ?_
          refine pm_stk (st' := [.int (if (r (7 + 6 * j2 + 5)) = 0 then 1 else 0)]) rfl ?_
          refine pm_if_eq (tgt := 56) B dX1_giveOneByOne_32 (by decide) (fun hq7 => ?_) (fun hq7 => ?_)
          · have hq7p : ¬ ((r (7 + 6 * j2 + 5)) = 0) := (pm_if01 _ _).mp hq7
            refine pm_iinc B dX1_giveOneByOne_56 rfl rfl rfl ?_
            refine pm_loc (L' := [some (.ref (z + 13)), some (.ref (z + 2)), some (.int (nI w)), some (.int (nI j1)), some (.int a4_2), some (.int (nI (j2 + 1)))]) (by rw [show ((nI j2) : Int32) + Int32.ofInt 1 = (nI (j2 + 1)) from nI_1 _]; rfl) ?_
            refine pm_goto (tgt := 13) B dX1_giveOneByOne_59 (by decide) ?_
            have hDq8 : (K2 (d_X1_giveOneByOne_L2 n r q_1 (k2 + 1) j2 a4_2)) = (K2 (d_X1_giveOneByOne_L2 n r q_1 k2 (j2 + 1) a4_2)) := by rw [d_X1_giveOneByOne_L2, if_neg hq7p]
            refine pm_pst (post' := pm_rt none nx (pm_up M 14 (.inl (kA 0, 7, .inl (K2 (d_X1_giveOneByOne_L2 n r q_1 k2 (j2 + 1) a4_2)))))) (by rw [hDq8]) ?_
            exact ih2 (j2 + 1) (by omega) a4_2 ((by first | assumption | exact Or.inr ⟨j2, hjn2, rfl⟩))
          · have hq7p : ((r (7 + 6 * j2 + 5)) = 0) := Decidable.not_not.mp (fun e => hq7 ((pm_if01 _ _).mpr e))
            refine pm_iload B dX1_giveOneByOne_35 rfl ?_
            refine pm_if_lt (tgt := 52) B dX1_giveOneByOne_37 (by decide) (fun hq9 => ?_) (fun hq9 => ?_)
            · refine pm_iload B dX1_giveOneByOne_52 rfl ?_
              refine pm_istore B dX1_giveOneByOne_54 rfl rfl ?_
              refine pm_loc (L' := [some (.ref (z + 13)), some (.ref (z + 2)), some (.int (nI w)), some (.int (nI j1)), some (.int (nI j2)), some (.int (nI j2))]) rfl ?_
              refine pm_iinc B dX1_giveOneByOne_56 rfl rfl rfl ?_
              refine pm_loc (L' := [some (.ref (z + 13)), some (.ref (z + 2)), some (.int (nI w)), some (.int (nI j1)), some (.int (nI j2)), some (.int (nI (j2 + 1)))]) (by rw [show ((nI j2) : Int32) + Int32.ofInt 1 = (nI (j2 + 1)) from nI_1 _]; rfl) ?_
              refine pm_goto (tgt := 13) B dX1_giveOneByOne_59 (by decide) ?_
              have hDq10 : (K2 (d_X1_giveOneByOne_L2 n r q_1 (k2 + 1) j2 a4_2)) = (K2 (d_X1_giveOneByOne_L2 n r q_1 k2 (j2 + 1) (nI j2))) := by rw [d_X1_giveOneByOne_L2, if_pos hq7p, if_pos hq9]
              refine pm_pst (post' := pm_rt none nx (pm_up M 14 (.inl (kA 0, 7, .inl (K2 (d_X1_giveOneByOne_L2 n r q_1 k2 (j2 + 1) (nI j2))))))) (by rw [hDq10]) ?_
              exact ih2 (j2 + 1) (by omega) (nI j2) ((by first | assumption | exact Or.inr ⟨j2, hjn2, rfl⟩))
            · refine pm_aload_n B dX1_giveOneByOne_40 rfl ?_
              refine pm_aload_n B dX1_giveOneByOne_41 rfl ?_
              refine pm_iload B dX1_giveOneByOne_42 rfl ?_
              refine pm_iload B dX1_giveOneByOne_44 rfl ?_
              obtain ⟨hbe, hbl⟩ := pm_bstN h7 hs_2 (by assumption)
              refine pm_stk (st' := [.int (nI (pm_n a4_2)), .int (nI j2), .ref (z + 2), .ref (z + 13)]) (congrArg (fun yy : Int32 => ([.int yy, .int (nI j2), .ref (z + 2), .ref (z + 13)] : List Value)) (show a4_2 = (nI (pm_n a4_2)) from hbe)) ?_
              refine pm_cV (As := [.ref (z + 2), .int (nI j2), .int (nI (pm_n a4_2))]) (mc2 := 0) (ms2 := 0) B rfl ((pm_up_n (by omega)).trans hO13) rfl (c_X1_isGreater (i := j2) (w := (pm_n a4_2)) (n := n) (r := r) (q := q_1) (pm_SA_up (by omega) hS) pm_up_s ((pm_up_n (by omega)).trans hO13) hn (by first | assumption | omega) (by first | assumption | omega) (by first | assumption | omega)) mt_X1_isGreater sv_X1_49 dX1_giveOneByOne_46 rfl rfl rfl rfl rfl ?_
              refine pm_stk (st' := [.int (d_X1_isGreater j2 (pm_n a4_2) n r q_1)]) rfl ?_
              refine pm_if_eq (tgt := 56) B dX1_giveOneByOne_49 (by decide) (fun hq11 => ?_) (fun hq11 => ?_)
              · refine pm_iinc B dX1_giveOneByOne_56 rfl rfl rfl ?_
                refine pm_loc (L' := [some (.ref (z + 13)), some (.ref (z + 2)), some (.int (nI w)), some (.int (nI j1)), some (.int a4_2), some (.int (nI (j2 + 1)))]) (by rw [show ((nI j2) : Int32) + Int32.ofInt 1 = (nI (j2 + 1)) from nI_1 _]; rfl) ?_
                refine pm_goto (tgt := 13) B dX1_giveOneByOne_59 (by decide) ?_
                have hDq12 : (K2 (d_X1_giveOneByOne_L2 n r q_1 (k2 + 1) j2 a4_2)) = (K2 (d_X1_giveOneByOne_L2 n r q_1 k2 (j2 + 1) a4_2)) := by rw [d_X1_giveOneByOne_L2, if_pos hq7p, if_neg hq9, if_pos hq11]
                refine pm_pst (post' := pm_rt none nx (pm_up M 14 (.inl (kA 0, 7, .inl (K2 (d_X1_giveOneByOne_L2 n r q_1 k2 (j2 + 1) a4_2)))))) (by rw [hDq12]) ?_
                exact ih2 (j2 + 1) (by omega) a4_2 ((by first | assumption | exact Or.inr ⟨j2, hjn2, rfl⟩))
              · refine pm_iload B dX1_giveOneByOne_52 rfl ?_
                refine pm_istore B dX1_giveOneByOne_54 rfl rfl ?_
                refine pm_loc (L' := [some (.ref (z + 13)), some (.ref (z + 2)), some (.int (nI w)), some (.int (nI j1)), some (.int (nI j2)), some (.int (nI j2))]) rfl ?_
                refine pm_iinc B dX1_giveOneByOne_56 rfl rfl rfl ?_
                refine pm_loc (L' := [some (.ref (z + 13)), some (.ref (z + 2)), some (.int (nI w)), some (.int (nI j1)), some (.int (nI j2)), some (.int (nI (j2 + 1)))]) (by rw [show ((nI j2) : Int32) + Int32.ofInt 1 = (nI (j2 + 1)) from nI_1 _]; rfl) ?_
                refine pm_goto (tgt := 13) B dX1_giveOneByOne_59 (by decide) ?_
                have hDq13 : (K2 (d_X1_giveOneByOne_L2 n r q_1 (k2 + 1) j2 a4_2)) = (K2 (d_X1_giveOneByOne_L2 n r q_1 k2 (j2 + 1) (nI j2))) := by rw [d_X1_giveOneByOne_L2, if_pos hq7p, if_neg hq9, if_neg hq11]
                refine pm_pst (post' := pm_rt none nx (pm_up M 14 (.inl (kA 0, 7, .inl (K2 (d_X1_giveOneByOne_L2 n r q_1 k2 (j2 + 1) (nI j2))))))) (by rw [hDq13]) ?_
                exact ih2 (j2 + 1) (by omega) (nI j2) ((by first | assumption | exact Or.inr ⟨j2, hjn2, rfl⟩))
      refine pm_pst (post' := pm_rt none nx (pm_up M 14 (.inl (kA 0, 7, .inl (K1 (if (d_X1_giveOneByOne_L2 n r q_1 n 0 (-1)) < 0 then (d_X1_giveOneByOne_L1 n r k1 (j1 + 1) q_1) else (d_X1_giveOneByOne_L1 n r k1 (j1 + 1) (upd q_1 (pm_n (d_X1_giveOneByOne_L2 n r q_1 n 0 (-1))) ((q_1 (pm_n (d_X1_giveOneByOne_L2 n r q_1 n 0 (-1)))) + 1))))))))) (by rw [show (K1 (d_X1_giveOneByOne_L1 n r (k1 + 1) j1 q_1)) = (K1 (if (d_X1_giveOneByOne_L2 n r q_1 n 0 (-1)) < 0 then (d_X1_giveOneByOne_L1 n r k1 (j1 + 1) q_1) else (d_X1_giveOneByOne_L1 n r k1 (j1 + 1) (upd q_1 (pm_n (d_X1_giveOneByOne_L2 n r q_1 n 0 (-1))) ((q_1 (pm_n (d_X1_giveOneByOne_L2 n r q_1 n 0 (-1)))) + 1))))) from by rw [d_X1_giveOneByOne_L1]]) ?_
      refine loop2 (fun (a4_2 : Int32) => (K1 (if a4_2 < 0 then (d_X1_giveOneByOne_L1 n r k1 (j1 + 1) q_1) else (d_X1_giveOneByOne_L1 n r k1 (j1 + 1) (upd q_1 (pm_n a4_2) ((q_1 (pm_n a4_2)) + 1)))))) ?_ n 0 (by omega) (-1) (Or.inl rfl)
      intro a4_2 hs_2
      refine pm_pst (post' := pm_rt none nx (pm_up M 14 (.inl (kA 0, 7, .inl (K1 (if a4_2 < 0 then (d_X1_giveOneByOne_L1 n r k1 (j1 + 1) q_1) else (d_X1_giveOneByOne_L1 n r k1 (j1 + 1) (upd q_1 (pm_n a4_2) ((q_1 (pm_n a4_2)) + 1))))))))) rfl ?_
      refine pm_iload B dX1_giveOneByOne_62 rfl ?_
      refine pm_if_lt (tgt := 78) B dX1_giveOneByOne_64 (by decide) (fun hq14 => ?_) (fun hq14 => ?_)
      · refine pm_iinc B dX1_giveOneByOne_78 rfl rfl rfl ?_
        refine pm_loc (L' := [some (.ref (z + 13)), some (.ref (z + 2)), some (.int (nI w)), some (.int (nI (j1 + 1))), some (.int a4_2), none]) (by rw [show ((nI j1) : Int32) + Int32.ofInt 1 = (nI (j1 + 1)) from nI_1 _]; rfl) ?_
        refine pm_goto (tgt := 2) B dX1_giveOneByOne_81 (by decide) ?_
        refine pm_wk (L' := [some (.ref (z + 13)), some (.ref (z + 2)), some (.int (nI w)), some (.int (nI (j1 + 1))), none, none]) ⟨rfl, ⟨rfl, ⟨rfl, ⟨rfl, trivial⟩⟩⟩⟩ ?_
        have hDq15 : ((K1 (if a4_2 < 0 then (d_X1_giveOneByOne_L1 n r k1 (j1 + 1) q_1) else (d_X1_giveOneByOne_L1 n r k1 (j1 + 1) (upd q_1 (pm_n a4_2) ((q_1 (pm_n a4_2)) + 1)))))) = (K1 (d_X1_giveOneByOne_L1 n r k1 (j1 + 1) q_1)) := by rw [if_pos hq14]
        refine pm_pst (post' := pm_rt none nx (pm_up M 14 (.inl (kA 0, 7, .inl (K1 (d_X1_giveOneByOne_L1 n r k1 (j1 + 1) q_1)))))) (by rw [hDq15]) ?_
        exact ih1 (j1 + 1) (by omega) q_1
      · refine pm_aload_n B dX1_giveOneByOne_67 rfl ?_
        refine pm_get B dX1_giveOneByOne_68 fl_X1_9 ((pm_up_n (by omega)).trans hO13) rfl ?_
        refine pm_iload B dX1_giveOneByOne_71 rfl ?_
        obtain ⟨hbe, hbl⟩ := pm_bstN h7 hs_2 (Int32.not_lt.mpr (Int32.not_lt.mp (by assumption)))
        refine pm_stk (st' := [.int (nI (pm_n a4_2)), .ref (z + 14)]) (congrArg (fun yy : Int32 => ([.int yy, .ref (z + 14)] : List Value)) (show a4_2 = (nI (pm_n a4_2)) from hbe)) ?_
        refine pm_dup2 B dX1_giveOneByOne_73 rfl rfl ?_
        refine pm_iald_n B dX1_giveOneByOne_74 pm_up_s (pm_n a4_2) (by first | assumption | omega) (by decide) ?_
        refine pm_iconst (v := 1) B dX1_giveOneByOne_75 (by decide) ?_
        refine pm_iadd B dX1_giveOneByOne_76 ?_
        refine pm_iast_n B dX1_giveOneByOne_77 pm_up_s (pm_n a4_2) (by first | assumption | omega) (by decide) ?_
        refine pm_mem (M' := pm_up M 14 (.inl (kA 0, 7, .inl (upd q_1 (pm_n a4_2) ((q_1 (pm_n a4_2)) + 1))))) (by rw [pm_up_up] <;> rfl) ?_
        refine pm_iinc B dX1_giveOneByOne_78 rfl rfl rfl ?_
        refine pm_loc (L' := [some (.ref (z + 13)), some (.ref (z + 2)), some (.int (nI w)), some (.int (nI (j1 + 1))), some (.int a4_2), none]) (by rw [show ((nI j1) : Int32) + Int32.ofInt 1 = (nI (j1 + 1)) from nI_1 _]; rfl) ?_
        refine pm_goto (tgt := 2) B dX1_giveOneByOne_81 (by decide) ?_
        refine pm_wk (L' := [some (.ref (z + 13)), some (.ref (z + 2)), some (.int (nI w)), some (.int (nI (j1 + 1))), none, none]) ⟨rfl, ⟨rfl, ⟨rfl, ⟨rfl, trivial⟩⟩⟩⟩ ?_
        have hDq16 : ((K1 (if a4_2 < 0 then (d_X1_giveOneByOne_L1 n r k1 (j1 + 1) q_1) else (d_X1_giveOneByOne_L1 n r k1 (j1 + 1) (upd q_1 (pm_n a4_2) ((q_1 (pm_n a4_2)) + 1)))))) = (K1 (d_X1_giveOneByOne_L1 n r k1 (j1 + 1) (upd q_1 (pm_n a4_2) ((q_1 (pm_n a4_2)) + 1)))) := by rw [if_neg hq14]
        refine pm_pst (post' := pm_rt none nx (pm_up M 14 (.inl (kA 0, 7, .inl (K1 (d_X1_giveOneByOne_L1 n r k1 (j1 + 1) (upd q_1 (pm_n a4_2) ((q_1 (pm_n a4_2)) + 1)))))))) (by rw [hDq16]) ?_
        exact ih1 (j1 + 1) (by omega) (upd q_1 (pm_n a4_2) ((q_1 (pm_n a4_2)) + 1))
  refine pm_pst (post' := pm_rt none nx (pm_up M 14 (.inl (kA 0, 7, .inl (d_X1_giveOneByOne_L1 n r w 0 q))))) (by rw [show (d_X1_giveOneByOne w n r q) = (d_X1_giveOneByOne_L1 n r w 0 q) from by rw [d_X1_giveOneByOne]]) ?_
  refine loop1 (fun (q_1 : (Nat → Int32)) => q_1) ?_ w 0 (by omega) q
  intro q_1
  refine pm_pst (post' := pm_rt none nx (pm_up M 14 (.inl (kA 0, 7, .inl q_1)))) rfl ?_
  have hDq17 : (q_1) = q_1 := rfl
  exact pm_return B dX1_giveOneByOne_84 rfl ⟨rfl, rfl, rfl⟩ rfl rfl
def d_X1_apportion_L1  : Nat → Nat → (Nat → Int32) → (Nat → Int32)
  | 0, _, q_1 => q_1
  | k1 + 1, j1, q_1 => (d_X1_apportion_L1 k1 (j1 + 1) (upd q_1 j1 0))
def d_X1_apportion_L2 (r : Nat → Int32) : Nat → Nat → Int32 → Int32
  | 0, _, a4_2 => a4_2
  | k2 + 1, j2, a4_2 => if (r (7 + 6 * j2 + 5)) = 0 then (d_X1_apportion_L2 r k2 (j2 + 1) (a4_2 + (r (7 + 6 * j2 + 0)))) else (d_X1_apportion_L2 r k2 (j2 + 1) (a4_2 + 0))
def d_X1_apportion (x : Int32) (y : Int32) (n : Nat) (r : Nat → Int32) (q : Nat → Int32) (rm : Nat → Int32) : ((Nat → Int32) × (Nat → Int32)) := if (d_X1_apportion_L2 r n 0 0) = 0 then ((d_X1_apportion_L1 7 0 q), rm) else (if y = 0 then (((d_X1_giveByRemainders x (d_X1_apportion_L2 r n 0 0) n r (d_X1_apportion_L1 7 0 q) rm).1), ((d_X1_giveByRemainders x (d_X1_apportion_L2 r n 0 0) n r (d_X1_apportion_L1 7 0 q) rm).2)) else ((d_X1_giveOneByOne (pm_n x) n r (d_X1_apportion_L1 7 0 q)), rm))
set_option maxRecDepth 100000 in
set_option maxHeartbeats 8000000 in
theorem c_X1_apportion {l : Launch} {z : Nat} {D : va_G} {kA : Nat → ClassId} {kE : Nat → Nat} {nx : Nat} {M : pm_M} {x : Int32} {y : Int32} {n : Nat} {r : Nat → Int32} {q : Nat → Int32} {rm : Nat → Int32} (hS : pm_SA z kA 2 M r) (hq : M 14 = some (.inl (kA 0, 7, .inl q))) (hrm : M 15 = some (.inl (kA 0, 7, .inl rm))) (hO13 : M 13 = some (.inr (0, [.ref (z + 14), .ref (z + 15)]))) (hn : r 0 = nI n) (h7 : n ≤ 7) (hx : x = nI (pm_n x)) (hx2 : pm_n x < 2147483648) : pm_C l z D kA kE yX1_apportion cX1_apportion 6 none 2 0 0 [.ref (z + 13), .ref (z + 2), .int x, .int y] nx M (pm_rt none nx (pm_up (pm_up M 14 (.inl (kA 0, 7, .inl ((d_X1_apportion x y n r q rm).1)))) 15 (.inl (kA 0, 7, .inl ((d_X1_apportion x y n r q rm).2))))) := by
  refine pm_mk (own := RX1) (nm := "apportion") mt_X1_apportion rfl rfl rfl rfl fun X B => ?_
  refine pm_loc (L' := [some (.ref (z + 13)), some (.ref (z + 2)), some (.int x), some (.int y), none, none]) rfl ?_
  refine pm_mem (M' := pm_up (pm_up M 14 (.inl (kA 0, 7, .inl q))) 15 (.inl (kA 0, 7, .inl rm))) (by rw [pm_up_id hq, pm_up_id hrm]) ?_
  refine pm_iconst (v := 0) B dX1_apportion_0 (by decide) ?_
  refine pm_istore B dX1_apportion_1 rfl rfl ?_
  refine pm_loc (L' := [some (.ref (z + 13)), some (.ref (z + 2)), some (.int x), some (.int y), some (.int 0), none]) rfl ?_
  refine pm_loc (L' := [some (.ref (z + 13)), some (.ref (z + 2)), some (.int x), some (.int y), some (.int (nI 0)), none]) rfl ?_
  have loop1 : ∀ (K1 : ((Nat → Int32) → ((Nat → Int32) × (Nat → Int32)))), (∀ (q_1 : (Nat → Int32)), pm_G l z D X 0 0 (pm_Q z D (pm_rt none nx (pm_up (pm_up M 14 (.inl (kA 0, 7, .inl ((K1 q_1).1)))) 15 (.inl (kA 0, 7, .inl ((K1 q_1).2))))) 0 0 X) nx (pm_up (pm_up M 14 (.inl (kA 0, 7, .inl q_1))) 15 (.inl (kA 0, 7, .inl rm))) 27 [some (.ref (z + 13)), some (.ref (z + 2)), some (.int x), some (.int y), none, none] []) → ∀ (k1 j1 : Nat), j1 + k1 = 7 → ∀ (q_1 : (Nat → Int32)), pm_G l z D X 0 0 (pm_Q z D (pm_rt none nx (pm_up (pm_up M 14 (.inl (kA 0, 7, .inl ((K1 (d_X1_apportion_L1 k1 j1 q_1)).1)))) 15 (.inl (kA 0, 7, .inl ((K1 (d_X1_apportion_L1 k1 j1 q_1)).2))))) 0 0 X) nx (pm_up (pm_up M 14 (.inl (kA 0, 7, .inl q_1))) 15 (.inl (kA 0, 7, .inl rm))) 3 [some (.ref (z + 13)), some (.ref (z + 2)), some (.int x), some (.int y), some (.int (nI j1)), none] [] := by
    intro K1 hK1 k1
    induction k1 with
    | zero =>
      intro j1 hj1 q_1
      have hjn1 : j1 = 7 := by omega
      refine pm_iload B dX1_apportion_3 rfl ?_
      refine pm_aload_n B dX1_apportion_5 rfl ?_
      refine pm_get B dX1_apportion_6 fl_X1_9 ((pm_up_n (by omega)).trans ((pm_up_n (by omega)).trans hO13)) rfl ?_
      refine pm_alen B dX1_apportion_9 ((pm_up_n (by omega)).trans pm_up_s) rfl rfl ?_
      refine pm_stk (st' := [.int (nI 7), .int (nI j1)]) rfl ?_
      refine pm_icmp_ge (tgt := 27) B dX1_apportion_10 (by decide) (fun hq1 => ?_) (fun hq1 => absurd ((nI_leI (by first | omega | decide) (by first | omega | decide)).mpr (by omega)) hq1)
      refine pm_wk (L' := [some (.ref (z + 13)), some (.ref (z + 2)), some (.int x), some (.int y), none, none]) ⟨rfl, ⟨rfl, ⟨rfl, ⟨rfl, trivial⟩⟩⟩⟩ ?_
      have hDq2 : (K1 (d_X1_apportion_L1 0 j1 q_1)) = (K1 q_1) := by rw [d_X1_apportion_L1]
      refine pm_pst (post' := pm_rt none nx (pm_up (pm_up M 14 (.inl (kA 0, 7, .inl ((K1 q_1).1)))) 15 (.inl (kA 0, 7, .inl ((K1 q_1).2))))) (by rw [hDq2]) ?_
      exact hK1 q_1
    | succ k1 ih1 =>
      intro j1 hj1 q_1
      have hjn1 : j1 < 7 := by omega
      refine pm_iload B dX1_apportion_3 rfl ?_
      refine pm_aload_n B dX1_apportion_5 rfl ?_
      refine pm_get B dX1_apportion_6 fl_X1_9 ((pm_up_n (by omega)).trans ((pm_up_n (by omega)).trans hO13)) rfl ?_
      refine pm_alen B dX1_apportion_9 ((pm_up_n (by omega)).trans pm_up_s) rfl rfl ?_
      refine pm_stk (st' := [.int (nI 7), .int (nI j1)]) rfl ?_
      refine pm_icmp_ge (tgt := 27) B dX1_apportion_10 (by decide) (fun hq3 => absurd hq3 (fun e => absurd ((nI_leI (by first | omega | decide) (by first | omega | decide)).mp e) (by omega))) (fun hq3 => ?_)
      refine pm_aload_n B dX1_apportion_13 rfl ?_
      refine pm_get B dX1_apportion_14 fl_X1_9 ((pm_up_n (by omega)).trans ((pm_up_n (by omega)).trans hO13)) rfl ?_
      refine pm_iload B dX1_apportion_17 rfl ?_
      refine pm_iconst (v := 0) B dX1_apportion_19 (by decide) ?_
      refine pm_iast_n B dX1_apportion_20 ((pm_up_n (by omega)).trans pm_up_s) j1 (by first | assumption | omega) (by decide) ?_
      refine pm_mem (M' := pm_up (pm_up M 14 (.inl (kA 0, 7, .inl (upd q_1 j1 0)))) 15 (.inl (kA 0, 7, .inl rm))) (by rw [pm_up_sw (a := 15) (b := 14) (by omega), pm_up_up] <;> rfl) ?_
      refine pm_iinc B dX1_apportion_21 rfl rfl rfl ?_
      refine pm_loc (L' := [some (.ref (z + 13)), some (.ref (z + 2)), some (.int x), some (.int y), some (.int (nI (j1 + 1))), none]) (by rw [show ((nI j1) : Int32) + Int32.ofInt 1 = (nI (j1 + 1)) from nI_1 _]; rfl) ?_
      refine pm_goto (tgt := 3) B dX1_apportion_24 (by decide) ?_
      have hDq4 : (K1 (d_X1_apportion_L1 (k1 + 1) j1 q_1)) = (K1 (d_X1_apportion_L1 k1 (j1 + 1) (upd q_1 j1 0))) := by rw [d_X1_apportion_L1]
      refine pm_pst (post' := pm_rt none nx (pm_up (pm_up M 14 (.inl (kA 0, 7, .inl ((K1 (d_X1_apportion_L1 k1 (j1 + 1) (upd q_1 j1 0))).1)))) 15 (.inl (kA 0, 7, .inl ((K1 (d_X1_apportion_L1 k1 (j1 + 1) (upd q_1 j1 0))).2))))) (by rw [hDq4]) ?_
      exact ih1 (j1 + 1) (by omega) (upd q_1 j1 0)
  refine pm_pst (post' := pm_rt none nx (pm_up (pm_up M 14 (.inl (kA 0, 7, .inl ((if (d_X1_apportion_L2 r n 0 0) = 0 then ((d_X1_apportion_L1 7 0 q), rm) else (if y = 0 then (((d_X1_giveByRemainders x (d_X1_apportion_L2 r n 0 0) n r (d_X1_apportion_L1 7 0 q) rm).1), ((d_X1_giveByRemainders x (d_X1_apportion_L2 r n 0 0) n r (d_X1_apportion_L1 7 0 q) rm).2)) else ((d_X1_giveOneByOne (pm_n x) n r (d_X1_apportion_L1 7 0 q)), rm))).1)))) 15 (.inl (kA 0, 7, .inl ((if (d_X1_apportion_L2 r n 0 0) = 0 then ((d_X1_apportion_L1 7 0 q), rm) else (if y = 0 then (((d_X1_giveByRemainders x (d_X1_apportion_L2 r n 0 0) n r (d_X1_apportion_L1 7 0 q) rm).1), ((d_X1_giveByRemainders x (d_X1_apportion_L2 r n 0 0) n r (d_X1_apportion_L1 7 0 q) rm).2)) else ((d_X1_giveOneByOne (pm_n x) n r (d_X1_apportion_L1 7 0 q)), rm))).2))))) (by rw [show (d_X1_apportion x y n r q rm) = if (d_X1_apportion_L2 r n 0 0) = 0 then ((d_X1_apportion_L1 7 0 q), rm) else (if y = 0 then (((d_X1_giveByRemainders x (d_X1_apportion_L2 r n 0 0) n r (d_X1_apportion_L1 7 0 q) rm).1), ((d_X1_giveByRemainders x (d_X1_apportion_L2 r n 0 0) n r (d_X1_apportion_L1 7 0 q) rm).2)) else ((d_X1_giveOneByOne (pm_n x) n r (d_X1_apportion_L1 7 0 q)), rm)) from by rw [d_X1_apportion]]) ?_
  refine loop1 (fun (q_1 : (Nat → Int32)) => if (d_X1_apportion_L2 r n 0 0) = 0 then (q_1, rm) else (if y = 0 then (((d_X1_giveByRemainders x (d_X1_apportion_L2 r n 0 0) n r q_1 rm).1), ((d_X1_giveByRemainders x (d_X1_apportion_L2 r n 0 0) n r q_1 rm).2)) else ((d_X1_giveOneByOne (pm_n x) n r q_1), rm))) ?_ 7 0 (by omega) q
  intro q_1
  refine pm_pst (post' := pm_rt none nx (pm_up (pm_up M 14 (.inl (kA 0, 7, .inl ((if (d_X1_apportion_L2 r n 0 0) = 0 then (q_1, rm) else (if y = 0 then (((d_X1_giveByRemainders x (d_X1_apportion_L2 r n 0 0) n r q_1 rm).1), ((d_X1_giveByRemainders x (d_X1_apportion_L2 r n 0 0) n r q_1 rm).2)) else ((d_X1_giveOneByOne (pm_n x) n r q_1), rm))).1)))) 15 (.inl (kA 0, 7, .inl ((if (d_X1_apportion_L2 r n 0 0) = 0 then (q_1, rm) else (if y = 0 then (((d_X1_giveByRemainders x (d_X1_apportion_L2 r n 0 0) n r q_1 rm).1), ((d_X1_giveByRemainders x (d_X1_apportion_L2 r n 0 0) n r q_1 rm).2)) else ((d_X1_giveOneByOne (pm_n x) n r q_1), rm))).2))))) rfl ?_
  refine pm_iconst (v := 0) B dX1_apportion_27 (by decide) ?_
  refine pm_istore B dX1_apportion_28 rfl rfl ?_
  refine pm_loc (L' := [some (.ref (z + 13)), some (.ref (z + 2)), some (.int x), some (.int y), some (.int 0), none]) rfl ?_
  refine pm_iconst (v := 0) B dX1_apportion_30 (by decide) ?_
  refine pm_istore B dX1_apportion_31 rfl rfl ?_
  refine pm_loc (L' := [some (.ref (z + 13)), some (.ref (z + 2)), some (.int x), some (.int y), some (.int 0), some (.int 0)]) rfl ?_
  refine pm_loc (L' := [some (.ref (z + 13)), some (.ref (z + 2)), some (.int x), some (.int y), some (.int 0), some (.int (nI 0))]) rfl ?_
  have loop2 : ∀ (K2 : (Int32 → ((Nat → Int32) × (Nat → Int32)))), (∀ (a4_2 : Int32), pm_G l z D X 0 0 (pm_Q z D (pm_rt none nx (pm_up (pm_up M 14 (.inl (kA 0, 7, .inl ((K2 a4_2).1)))) 15 (.inl (kA 0, 7, .inl ((K2 a4_2).2))))) 0 0 X) nx (pm_up (pm_up M 14 (.inl (kA 0, 7, .inl q_1))) 15 (.inl (kA 0, 7, .inl rm))) 80 [some (.ref (z + 13)), some (.ref (z + 2)), some (.int x), some (.int y), some (.int a4_2), none] []) → ∀ (k2 j2 : Nat), j2 + k2 = n → ∀ (a4_2 : Int32), pm_G l z D X 0 0 (pm_Q z D (pm_rt none nx (pm_up (pm_up M 14 (.inl (kA 0, 7, .inl ((K2 (d_X1_apportion_L2 r k2 j2 a4_2)).1)))) 15 (.inl (kA 0, 7, .inl ((K2 (d_X1_apportion_L2 r k2 j2 a4_2)).2))))) 0 0 X) nx (pm_up (pm_up M 14 (.inl (kA 0, 7, .inl q_1))) 15 (.inl (kA 0, 7, .inl rm))) 33 [some (.ref (z + 13)), some (.ref (z + 2)), some (.int x), some (.int y), some (.int a4_2), some (.int (nI j2))] [] := by
    intro K2 hK2 k2
    induction k2 with
    | zero =>
      intro j2 hj2 a4_2
      have hjn2 : j2 = n := by omega
      refine pm_iload B dX1_apportion_33 rfl ?_
      refine pm_aload_n B dX1_apportion_35 rfl ?_
      refine pm_get B dX1_apportion_36 fl_X1_18 ((pm_up_n (by omega)).trans ((pm_up_n (by omega)).trans (hS.1))) rfl ?_
      refine pm_stk (st' := [.int (nI n), .int (nI j2)]) (by rw [show (r 0) = (nI n) from by rw [hn]]) ?_
      refine pm_icmp_ge (tgt := 80) B dX1_apportion_39 (by decide) (fun hq5 => ?_) (fun hq5 => absurd ((nI_leI (by first | omega | decide) (by first | omega | decide)).mpr (by omega)) hq5)
      refine pm_wk (L' := [some (.ref (z + 13)), some (.ref (z + 2)), some (.int x), some (.int y), some (.int a4_2), none]) ⟨rfl, ⟨rfl, ⟨rfl, ⟨rfl, ⟨rfl, trivial⟩⟩⟩⟩⟩ ?_
      have hDq6 : (K2 (d_X1_apportion_L2 r 0 j2 a4_2)) = (K2 a4_2) := by rw [d_X1_apportion_L2]
      refine pm_pst (post' := pm_rt none nx (pm_up (pm_up M 14 (.inl (kA 0, 7, .inl ((K2 a4_2).1)))) 15 (.inl (kA 0, 7, .inl ((K2 a4_2).2))))) (by rw [hDq6]) ?_
      exact hK2 a4_2
    | succ k2 ih2 =>
      intro j2 hj2 a4_2
      have hjn2 : j2 < n := by omega
      refine pm_iload B dX1_apportion_33 rfl ?_
      refine pm_aload_n B dX1_apportion_35 rfl ?_
      refine pm_get B dX1_apportion_36 fl_X1_18 ((pm_up_n (by omega)).trans ((pm_up_n (by omega)).trans (hS.1))) rfl ?_
      refine pm_stk (st' := [.int (nI n), .int (nI j2)]) (by rw [show (r 0) = (nI n) from by rw [hn]]) ?_
      refine pm_icmp_ge (tgt := 80) B dX1_apportion_39 (by decide) (fun hq7 => absurd hq7 (fun e => absurd ((nI_leI (by first | omega | decide) (by first | omega | decide)).mp e) (by omega))) (fun hq7 => ?_)
      refine pm_iload B dX1_apportion_42 rfl ?_
      refine pm_aload_n B dX1_apportion_44 rfl ?_
      refine pm_get B dX1_apportion_45 fl_X1_24 ((pm_up_n (by omega)).trans ((pm_up_n (by omega)).trans (hS.1))) rfl ?_
      refine pm_iload B dX1_apportion_48 rfl ?_
      refine pm_aald_n B dX1_apportion_50 ((pm_up_n (by omega)).trans ((pm_up_n (by omega)).trans (hS.2.1))) rfl j2 (by first | assumption | omega) (by decide) (pm_mr_at (by first | assumption | omega)) ?_
      refine pm_cV (As := []) (mc2 := 0) (ms2 := 0) B rfl ((pm_up_n (by omega)).trans ((pm_up_n (by omega)).trans (hS.2.2.1 j2 (by first | assumption | omega)))) rfl (c_X6_isActive ((pm_up_n (by omega)).trans ((pm_up_n (by omega)).trans (hS.2.2.1 j2 (by first | assumption | omega))))) mt_X6_isActive sv_X1_28 dX1_apportion_51 rfl rfl rfl rfl rfl ?_
      refine pm_stk (st' := [.int (if (r (7 + 6 * j2 + 5)) = 0 then 1 else 0), .int a4_2]) rfl ?_
      refine pm_if_eq (tgt := 70) B dX1_apportion_54 (by decide) (fun hq8 => ?_) (fun hq8 => ?_)
      · have hq8p : ¬ ((r (7 + 6 * j2 + 5)) = 0) := (pm_if01 _ _).mp hq8
        refine pm_iconst (v := 0) B dX1_apportion_70 (by decide) ?_
        refine pm_iadd B dX1_apportion_71 ?_
        refine pm_istore B dX1_apportion_72 rfl rfl ?_
        refine pm_loc (L' := [some (.ref (z + 13)), some (.ref (z + 2)), some (.int x), some (.int y), some (.int (a4_2 + 0)), some (.int (nI j2))]) rfl ?_
        refine pm_iinc B dX1_apportion_74 rfl rfl rfl ?_
        refine pm_loc (L' := [some (.ref (z + 13)), some (.ref (z + 2)), some (.int x), some (.int y), some (.int (a4_2 + 0)), some (.int (nI (j2 + 1)))]) (by rw [show ((nI j2) : Int32) + Int32.ofInt 1 = (nI (j2 + 1)) from nI_1 _]; rfl) ?_
        refine pm_goto (tgt := 33) B dX1_apportion_77 (by decide) ?_
        have hDq9 : (K2 (d_X1_apportion_L2 r (k2 + 1) j2 a4_2)) = (K2 (d_X1_apportion_L2 r k2 (j2 + 1) (a4_2 + 0))) := by rw [d_X1_apportion_L2, if_neg hq8p]
        refine pm_pst (post' := pm_rt none nx (pm_up (pm_up M 14 (.inl (kA 0, 7, .inl ((K2 (d_X1_apportion_L2 r k2 (j2 + 1) (a4_2 + 0))).1)))) 15 (.inl (kA 0, 7, .inl ((K2 (d_X1_apportion_L2 r k2 (j2 + 1) (a4_2 + 0))).2))))) (by rw [hDq9]) ?_
        exact ih2 (j2 + 1) (by omega) (a4_2 + 0)
      · have hq8p : ((r (7 + 6 * j2 + 5)) = 0) := Decidable.not_not.mp (fun e => hq8 ((pm_if01 _ _).mpr e))
        refine pm_aload_n B dX1_apportion_57 rfl ?_
        refine pm_get B dX1_apportion_58 fl_X1_24 ((pm_up_n (by omega)).trans ((pm_up_n (by omega)).trans (hS.1))) rfl ?_
        refine pm_iload B dX1_apportion_61 rfl ?_
        refine pm_aald_n B dX1_apportion_63 ((pm_up_n (by omega)).trans ((pm_up_n (by omega)).trans (hS.2.1))) rfl j2 (by first | assumption | omega) (by decide) (pm_mr_at (by first | assumption | omega)) ?_
        refine pm_get B dX1_apportion_64 fl_X1_34 ((pm_up_n (by omega)).trans ((pm_up_n (by omega)).trans (hS.2.2.1 j2 (by first | assumption | omega)))) rfl ?_
        refine pm_goto (tgt := 71) B dX1_apportion_67 (by decide) ?_
        refine pm_iadd B dX1_apportion_71 ?_
        refine pm_istore B dX1_apportion_72 rfl rfl ?_
        refine pm_loc (L' := [some (.ref (z + 13)), some (.ref (z + 2)), some (.int x), some (.int y), some (.int (a4_2 + (r (7 + 6 * j2 + 0)))), some (.int (nI j2))]) rfl ?_
        refine pm_iinc B dX1_apportion_74 rfl rfl rfl ?_
        refine pm_loc (L' := [some (.ref (z + 13)), some (.ref (z + 2)), some (.int x), some (.int y), some (.int (a4_2 + (r (7 + 6 * j2 + 0)))), some (.int (nI (j2 + 1)))]) (by rw [show ((nI j2) : Int32) + Int32.ofInt 1 = (nI (j2 + 1)) from nI_1 _]; rfl) ?_
        refine pm_goto (tgt := 33) B dX1_apportion_77 (by decide) ?_
        have hDq10 : (K2 (d_X1_apportion_L2 r (k2 + 1) j2 a4_2)) = (K2 (d_X1_apportion_L2 r k2 (j2 + 1) (a4_2 + (r (7 + 6 * j2 + 0))))) := by rw [d_X1_apportion_L2, if_pos hq8p]
        refine pm_pst (post' := pm_rt none nx (pm_up (pm_up M 14 (.inl (kA 0, 7, .inl ((K2 (d_X1_apportion_L2 r k2 (j2 + 1) (a4_2 + (r (7 + 6 * j2 + 0))))).1)))) 15 (.inl (kA 0, 7, .inl ((K2 (d_X1_apportion_L2 r k2 (j2 + 1) (a4_2 + (r (7 + 6 * j2 + 0))))).2))))) (by rw [hDq10]) ?_
        exact ih2 (j2 + 1) (by omega) (a4_2 + (r (7 + 6 * j2 + 0)))
  refine pm_pst (post' := pm_rt none nx (pm_up (pm_up M 14 (.inl (kA 0, 7, .inl ((if (d_X1_apportion_L2 r n 0 0) = 0 then (q_1, rm) else (if y = 0 then (((d_X1_giveByRemainders x (d_X1_apportion_L2 r n 0 0) n r q_1 rm).1), ((d_X1_giveByRemainders x (d_X1_apportion_L2 r n 0 0) n r q_1 rm).2)) else ((d_X1_giveOneByOne (pm_n x) n r q_1), rm))).1)))) 15 (.inl (kA 0, 7, .inl ((if (d_X1_apportion_L2 r n 0 0) = 0 then (q_1, rm) else (if y = 0 then (((d_X1_giveByRemainders x (d_X1_apportion_L2 r n 0 0) n r q_1 rm).1), ((d_X1_giveByRemainders x (d_X1_apportion_L2 r n 0 0) n r q_1 rm).2)) else ((d_X1_giveOneByOne (pm_n x) n r q_1), rm))).2))))) (by rw [show (if (d_X1_apportion_L2 r n 0 0) = 0 then (q_1, rm) else (if y = 0 then (((d_X1_giveByRemainders x (d_X1_apportion_L2 r n 0 0) n r q_1 rm).1), ((d_X1_giveByRemainders x (d_X1_apportion_L2 r n 0 0) n r q_1 rm).2)) else ((d_X1_giveOneByOne (pm_n x) n r q_1), rm))) = if (d_X1_apportion_L2 r n 0 0) = 0 then (q_1, rm) else (if y = 0 then (((d_X1_giveByRemainders x (d_X1_apportion_L2 r n 0 0) n r q_1 rm).1), ((d_X1_giveByRemainders x (d_X1_apportion_L2 r n 0 0) n r q_1 rm).2)) else ((d_X1_giveOneByOne (pm_n x) n r q_1), rm)) from rfl]) ?_
  refine loop2 (fun (a4_2 : Int32) => if a4_2 = 0 then (q_1, rm) else (if y = 0 then (((d_X1_giveByRemainders x a4_2 n r q_1 rm).1), ((d_X1_giveByRemainders x a4_2 n r q_1 rm).2)) else ((d_X1_giveOneByOne (pm_n x) n r q_1), rm))) ?_ n 0 (by omega) 0
  intro a4_2
  refine pm_pst (post' := pm_rt none nx (pm_up (pm_up M 14 (.inl (kA 0, 7, .inl ((if a4_2 = 0 then (q_1, rm) else (if y = 0 then (((d_X1_giveByRemainders x a4_2 n r q_1 rm).1), ((d_X1_giveByRemainders x a4_2 n r q_1 rm).2)) else ((d_X1_giveOneByOne (pm_n x) n r q_1), rm))).1)))) 15 (.inl (kA 0, 7, .inl ((if a4_2 = 0 then (q_1, rm) else (if y = 0 then (((d_X1_giveByRemainders x a4_2 n r q_1 rm).1), ((d_X1_giveByRemainders x a4_2 n r q_1 rm).2)) else ((d_X1_giveOneByOne (pm_n x) n r q_1), rm))).2))))) rfl ?_
  refine pm_iload B dX1_apportion_80 rfl ?_
  refine pm_if_ne (tgt := 86) B dX1_apportion_82 (by decide) (fun hq11 => ?_) (fun hq11 => ?_)
  · refine pm_iload_n B dX1_apportion_86 rfl ?_
    refine pm_if_ne (tgt := 101) B dX1_apportion_87 (by decide) (fun hq12 => ?_) (fun hq12 => ?_)
    · refine pm_aload_n B dX1_apportion_101 rfl ?_
      refine pm_aload_n B dX1_apportion_102 rfl ?_
      refine pm_iload_n B dX1_apportion_103 rfl ?_
      refine pm_stk (st' := [.int (nI (pm_n x)), .ref (z + 2), .ref (z + 13)]) (congrArg (fun yy : Int32 => ([.int yy, .ref (z + 2), .ref (z + 13)] : List Value)) (show x = (nI (pm_n x)) from hx)) ?_
      refine pm_cV (As := [.ref (z + 2), .int (nI (pm_n x))]) (mc2 := 0) (ms2 := 0) B rfl ((pm_up_n (by omega)).trans ((pm_up_n (by omega)).trans hO13)) rfl (c_X1_giveOneByOne (w := (pm_n x)) (n := n) (r := r) (q := q_1) (pm_SA_up (by omega) (pm_SA_up (by omega) hS)) ((pm_up_n (by omega)).trans pm_up_s) ((pm_up_n (by omega)).trans ((pm_up_n (by omega)).trans hO13)) hn (by first | assumption | omega) (by first | assumption | omega)) mt_X1_giveOneByOne sv_X1_41 dX1_apportion_104 rfl rfl rfl rfl rfl ?_
      refine pm_mem (M' := pm_up (pm_up M 14 (.inl (kA 0, 7, .inl (d_X1_giveOneByOne (pm_n x) n r q_1)))) 15 (.inl (kA 0, 7, .inl rm))) (by rw [pm_up_sw (a := 15) (b := 14) (by omega), pm_up_up (a := 14)] <;> rfl) ?_
      refine pm_stk (st' := []) rfl ?_
      have hDq13 : (if a4_2 = 0 then (q_1, rm) else (if y = 0 then (((d_X1_giveByRemainders x a4_2 n r q_1 rm).1), ((d_X1_giveByRemainders x a4_2 n r q_1 rm).2)) else ((d_X1_giveOneByOne (pm_n x) n r q_1), rm))) = ((d_X1_giveOneByOne (pm_n x) n r q_1), rm) := by rw [if_neg hq11, if_neg hq12]
      exact pm_return B dX1_apportion_107 rfl ⟨rfl, rfl, by rw [hDq13]⟩ rfl rfl
    · refine pm_aload_n B dX1_apportion_90 rfl ?_
      refine pm_aload_n B dX1_apportion_91 rfl ?_
      refine pm_iload_n B dX1_apportion_92 rfl ?_
      refine pm_iload B dX1_apportion_93 rfl ?_
      refine pm_cV (As := [.ref (z + 2), .int x, .int a4_2]) (mc2 := 0) (ms2 := 0) B rfl ((pm_up_n (by omega)).trans ((pm_up_n (by omega)).trans hO13)) rfl (c_X1_giveByRemainders (x := x) (c := a4_2) (n := n) (r := r) (q := q_1) (rm := rm) (pm_SA_up (by omega) (pm_SA_up (by omega) hS)) ((pm_up_n (by omega)).trans pm_up_s) pm_up_s ((pm_up_n (by omega)).trans ((pm_up_n (by omega)).trans hO13)) hn (by first | assumption | omega) (by assumption)) mt_X1_giveByRemainders sv_X1_37 dX1_apportion_95 rfl rfl rfl rfl rfl ?_
      refine pm_mem (M' := pm_up (pm_up M 14 (.inl (kA 0, 7, .inl ((d_X1_giveByRemainders x a4_2 n r q_1 rm).1)))) 15 (.inl (kA 0, 7, .inl ((d_X1_giveByRemainders x a4_2 n r q_1 rm).2)))) (by rw [pm_up_sw (a := 15) (b := 14) (by omega), pm_up_up (a := 14), pm_up_up (a := 15)] <;> rfl) ?_
      refine pm_stk (st' := []) rfl ?_
      refine pm_goto (tgt := 107) B dX1_apportion_98 (by decide) ?_
      have hDq14 : (if a4_2 = 0 then (q_1, rm) else (if y = 0 then (((d_X1_giveByRemainders x a4_2 n r q_1 rm).1), ((d_X1_giveByRemainders x a4_2 n r q_1 rm).2)) else ((d_X1_giveOneByOne (pm_n x) n r q_1), rm))) = (((d_X1_giveByRemainders x a4_2 n r q_1 rm).1), ((d_X1_giveByRemainders x a4_2 n r q_1 rm).2)) := by rw [if_neg hq11, if_pos hq12]
      exact pm_return B dX1_apportion_107 rfl ⟨rfl, rfl, by rw [hDq14]⟩ rfl rfl
  · have hDq15 : (if a4_2 = 0 then (q_1, rm) else (if y = 0 then (((d_X1_giveByRemainders x a4_2 n r q_1 rm).1), ((d_X1_giveByRemainders x a4_2 n r q_1 rm).2)) else ((d_X1_giveOneByOne (pm_n x) n r q_1), rm))) = (q_1, rm) := by rw [if_pos hq11]
    exact pm_return B dX1_apportion_85 rfl ⟨rfl, rfl, by rw [hDq15]⟩ rfl rfl
