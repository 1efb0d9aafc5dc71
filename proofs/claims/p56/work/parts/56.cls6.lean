/-! Office: the changes by their commands -/
def d_X7_refusal0 (x : Int32) (y : Int32) (n : Nat) (r : Nat → Int32) : Int32 × Int32 := if (d_X7_refusalOfJoin x y n r).1 = 0 then (0, 0) else (((d_X7_refusalOfJoin x y n r).1), ((d_X7_refusalOfJoin x y n r).2))
set_option maxRecDepth 100000 in
set_option maxHeartbeats 8000000 in
theorem c_X7_refusal0 {l : Launch} {z : Nat} {D : va_G} {kA : Nat → ClassId} {kE : Nat → Nat} {nx : Nat} {M : pm_M} {x : Int32} {y : Int32} {n : Nat} {r : Nat → Int32} (hS : pm_SA z kA 2 M r) (hO1 : M 1 = some (.inr (5, [.ref (z + 2), .ref (z + 13), .ref (z + 16)]))) (hn : r 0 = nI n) (h7 : n ≤ 7) (hnx : 140 ≤ nx) : pm_C l z D kA kE yX7_refusal cX7_refusal 4 (some (.object "ThunderCartel$Refusal")) 4 2 6 [.ref (z + 1), .ref (kE 0), .int x, .int y] nx M (pm_rf z nx M (d_X7_refusal0 x y n r)) := by
  refine pm_mk (own := RX7) (nm := "refusal") mt_X7_refusal rfl rfl rfl rfl fun X B => ?_
  refine pm_loc (L' := [some (.ref (z + 1)), some (.ref (kE 0)), some (.int x), some (.int y)]) rfl ?_
  refine pm_gets (v := .ref (kE 61)) B (fun U H h => h.2.2.2.1.1) (pm_T_in 396 (by decide +kernel) (by decide +kernel)) dX7_refusal_0 ?_
  refine pm_aload_n B dX7_refusal_3 rfl ?_
  refine pm_cUL (As := []) (mc2 := 0) (ms2 := 0) (ov := some (.int (nI 0))) B (fun U H h => (h.1 0 (by decide)).2.1) (c_ordinal (i := 0) (by decide)) mt_ordinal su_X7_34 dX7_refusal_4 rfl rfl rfl rfl rfl ?_
  refine pm_stk (st' := [.int (nI 0), .ref (kE 61)]) rfl ?_
  refine pm_tiL (v := .int 1) B (fun U H h => h.2.2.2.1.2) 0 (by decide) (by decide) rfl dX7_refusal_7 ?_
  refine pm_tableIn (off := 56) (tgt := 64) B dX7_refusal_8 (by decide) (by decide) (by decide) (by decide) ?_
  refine pm_aload_n B dX7_refusal_64 rfl ?_
  refine pm_iload_n B dX7_refusal_65 rfl ?_
  refine pm_iload_n B dX7_refusal_66 rfl ?_
  by_cases hq1 : (d_X7_refusalOfJoin x y n r).1 = 0
  · refine pm_cV (As := [.int x, .int y]) (mc2 := 1) (ms2 := 3) B rfl hO1 rfl (pm_C_z hq1 (c_X7_refusalOfJoin (x := x) (y := y) (n := n) (r := r) hS hO1 hn (by first | assumption | omega) (by first | assumption | omega))) mt_X7_refusalOfJoin sv_X7_40 dX7_refusal_67 rfl rfl rfl rfl rfl ?_
    refine pm_stk (st' := [.null]) rfl ?_
    have hDq2 : (d_X7_refusal0 x y n r) = (0, 0) := by rw [d_X7_refusal0, if_pos hq1]
    exact pm_areturn B dX7_refusal_70 rfl (Or.inl ⟨_, rfl⟩) (Or.inl rfl) (by rw [hDq2, pm_rf_z rfl]; exact ⟨rfl, rfl, rfl⟩) rfl rfl
  · refine pm_cV (As := [.int x, .int y]) (mc2 := 1) (ms2 := 3) B rfl hO1 rfl (pm_C_p hq1 (c_X7_refusalOfJoin (x := x) (y := y) (n := n) (r := r) hS hO1 hn (by first | assumption | omega) (by first | assumption | omega))) mt_X7_refusalOfJoin sv_X7_40 dX7_refusal_67 rfl rfl rfl rfl rfl ?_
    refine pm_stk (st' := [.ref (z + nx)]) rfl ?_
    have hDq3 : (d_X7_refusal0 x y n r) = (((d_X7_refusalOfJoin x y n r).1), ((d_X7_refusalOfJoin x y n r).2)) := by rw [d_X7_refusal0, if_neg hq1]
    exact pm_areturn B dX7_refusal_70 rfl (Or.inl ⟨_, rfl⟩) (Or.inr ⟨_, rfl⟩) (by rw [hDq3, pm_rf_p (show ¬ (((d_X7_refusalOfJoin x y n r).1) : Int32) = 0 by first | decide | assumption)]; exact ⟨rfl, rfl, rfl⟩) rfl rfl
def d_X7_refusal1 (x : Int32) (y : Int32) (n : Nat) (r : Nat → Int32) : Int32 × Int32 := if (d_X7_refusalOfRange x 0 300).1 = 0 then (0, 0) else (((d_X7_refusalOfRange x 0 300).1), ((d_X7_refusalOfRange x 0 300).2))
set_option maxRecDepth 100000 in
set_option maxHeartbeats 8000000 in
theorem c_X7_refusal1 {l : Launch} {z : Nat} {D : va_G} {kA : Nat → ClassId} {kE : Nat → Nat} {nx : Nat} {M : pm_M} {x : Int32} {y : Int32} {n : Nat} {r : Nat → Int32} (hS : pm_SA z kA 2 M r) (hn : r 0 = nI n) (h7 : n ≤ 7) (hnx : 140 ≤ nx) : pm_C l z D kA kE yX7_refusal cX7_refusal 4 (some (.object "ThunderCartel$Refusal")) 4 2 6 [.ref (z + 1), .ref (kE 1), .int x, .int y] nx M (pm_rf z nx M (d_X7_refusal1 x y n r)) := by
  refine pm_mk (own := RX7) (nm := "refusal") mt_X7_refusal rfl rfl rfl rfl fun X B => ?_
  refine pm_loc (L' := [some (.ref (z + 1)), some (.ref (kE 1)), some (.int x), some (.int y)]) rfl ?_
  refine pm_gets (v := .ref (kE 61)) B (fun U H h => h.2.2.2.1.1) (pm_T_in 396 (by decide +kernel) (by decide +kernel)) dX7_refusal_0 ?_
  refine pm_aload_n B dX7_refusal_3 rfl ?_
  refine pm_cUL (As := []) (mc2 := 0) (ms2 := 0) (ov := some (.int (nI 1))) B (fun U H h => (h.1 1 (by decide)).2.1) (c_ordinal (i := 1) (by decide)) mt_ordinal su_X7_34 dX7_refusal_4 rfl rfl rfl rfl rfl ?_
  refine pm_stk (st' := [.int (nI 1), .ref (kE 61)]) rfl ?_
  refine pm_tiL (v := .int 2) B (fun U H h => h.2.2.2.1.2) 1 (by decide) (by decide) rfl dX7_refusal_7 ?_
  refine pm_tableIn (off := 63) (tgt := 71) B dX7_refusal_8 (by decide) (by decide) (by decide) (by decide) ?_
  refine pm_iload_n B dX7_refusal_71 rfl ?_
  refine pm_iconst (v := 0) B dX7_refusal_72 (by decide) ?_
  refine pm_sipush (v := 300) B dX7_refusal_73 (by decide) ?_
  by_cases hq1 : (d_X7_refusalOfRange x 0 300).1 = 0
  · refine pm_cS (As := [.int x, .int 0, .int 300]) (mc2 := 1) (ms2 := 3) B (pm_C_z hq1 (c_X7_refusalOfRange (x := x) (y := 0) (w := 300)  (by first | assumption | omega))) mt_X7_refusalOfRange ss_X7_44 dX7_refusal_76 rfl rfl rfl rfl rfl ?_
    refine pm_stk (st' := [.null]) rfl ?_
    have hDq2 : (d_X7_refusal1 x y n r) = (0, 0) := by rw [d_X7_refusal1, if_pos hq1]
    exact pm_areturn B dX7_refusal_79 rfl (Or.inl ⟨_, rfl⟩) (Or.inl rfl) (by rw [hDq2, pm_rf_z rfl]; exact ⟨rfl, rfl, rfl⟩) rfl rfl
  · refine pm_cS (As := [.int x, .int 0, .int 300]) (mc2 := 1) (ms2 := 3) B (pm_C_p hq1 (c_X7_refusalOfRange (x := x) (y := 0) (w := 300)  (by first | assumption | omega))) mt_X7_refusalOfRange ss_X7_44 dX7_refusal_76 rfl rfl rfl rfl rfl ?_
    refine pm_stk (st' := [.ref (z + nx)]) rfl ?_
    have hDq3 : (d_X7_refusal1 x y n r) = (((d_X7_refusalOfRange x 0 300).1), ((d_X7_refusalOfRange x 0 300).2)) := by rw [d_X7_refusal1, if_neg hq1]
    exact pm_areturn B dX7_refusal_79 rfl (Or.inl ⟨_, rfl⟩) (Or.inr ⟨_, rfl⟩) (by rw [hDq3, pm_rf_p (show ¬ (((d_X7_refusalOfRange x 0 300).1) : Int32) = 0 by first | decide | assumption)]; exact ⟨rfl, rfl, rfl⟩) rfl rfl
def d_X7_refusal2 (x : Int32) (y : Int32) (n : Nat) (r : Nat → Int32) : Int32 × Int32 := if (d_X7_refusalOfValue x 0 1 (r 1)).1 = 0 then (0, 0) else (((d_X7_refusalOfValue x 0 1 (r 1)).1), ((d_X7_refusalOfValue x 0 1 (r 1)).2))
set_option maxRecDepth 100000 in
set_option maxHeartbeats 8000000 in
theorem c_X7_refusal2 {l : Launch} {z : Nat} {D : va_G} {kA : Nat → ClassId} {kE : Nat → Nat} {nx : Nat} {M : pm_M} {x : Int32} {y : Int32} {n : Nat} {r : Nat → Int32} (hS : pm_SA z kA 2 M r) (hO1 : M 1 = some (.inr (5, [.ref (z + 2), .ref (z + 13), .ref (z + 16)]))) (hn : r 0 = nI n) (h7 : n ≤ 7) (hnx : 140 ≤ nx) : pm_C l z D kA kE yX7_refusal cX7_refusal 4 (some (.object "ThunderCartel$Refusal")) 4 2 6 [.ref (z + 1), .ref (kE 2), .int x, .int y] nx M (pm_rf z nx M (d_X7_refusal2 x y n r)) := by
  refine pm_mk (own := RX7) (nm := "refusal") mt_X7_refusal rfl rfl rfl rfl fun X B => ?_
  refine pm_loc (L' := [some (.ref (z + 1)), some (.ref (kE 2)), some (.int x), some (.int y)]) rfl ?_
  refine pm_gets (v := .ref (kE 61)) B (fun U H h => h.2.2.2.1.1) (pm_T_in 396 (by decide +kernel) (by decide +kernel)) dX7_refusal_0 ?_
  refine pm_aload_n B dX7_refusal_3 rfl ?_
  refine pm_cUL (As := []) (mc2 := 0) (ms2 := 0) (ov := some (.int (nI 2))) B (fun U H h => (h.1 2 (by decide)).2.1) (c_ordinal (i := 2) (by decide)) mt_ordinal su_X7_34 dX7_refusal_4 rfl rfl rfl rfl rfl ?_
  refine pm_stk (st' := [.int (nI 2), .ref (kE 61)]) rfl ?_
  refine pm_tiL (v := .int 3) B (fun U H h => h.2.2.2.1.2) 2 (by decide) (by decide) rfl dX7_refusal_7 ?_
  refine pm_tableIn (off := 72) (tgt := 80) B dX7_refusal_8 (by decide) (by decide) (by decide) (by decide) ?_
  refine pm_iload_n B dX7_refusal_80 rfl ?_
  refine pm_iconst (v := 0) B dX7_refusal_81 (by decide) ?_
  refine pm_iconst (v := 1) B dX7_refusal_82 (by decide) ?_
  refine pm_aload_n B dX7_refusal_83 rfl ?_
  refine pm_get B dX7_refusal_84 fl_X7_12 hO1 rfl ?_
  refine pm_get B dX7_refusal_87 fl_X7_48 (hS.1) rfl ?_
  by_cases hq1 : (d_X7_refusalOfValue x 0 1 (r 1)).1 = 0
  · refine pm_cS (As := [.int x, .int 0, .int 1, .int (r 1)]) (mc2 := 1) (ms2 := 3) B (pm_C_z hq1 (c_X7_refusalOfValue (x := x) (y := 0) (w := 1) (v := (r 1))  (by first | assumption | omega))) mt_X7_refusalOfValue ss_X7_52 dX7_refusal_90 rfl rfl rfl rfl rfl ?_
    refine pm_stk (st' := [.null]) rfl ?_
    have hDq2 : (d_X7_refusal2 x y n r) = (0, 0) := by rw [d_X7_refusal2, if_pos hq1]
    exact pm_areturn B dX7_refusal_93 rfl (Or.inl ⟨_, rfl⟩) (Or.inl rfl) (by rw [hDq2, pm_rf_z rfl]; exact ⟨rfl, rfl, rfl⟩) rfl rfl
  · refine pm_cS (As := [.int x, .int 0, .int 1, .int (r 1)]) (mc2 := 1) (ms2 := 3) B (pm_C_p hq1 (c_X7_refusalOfValue (x := x) (y := 0) (w := 1) (v := (r 1))  (by first | assumption | omega))) mt_X7_refusalOfValue ss_X7_52 dX7_refusal_90 rfl rfl rfl rfl rfl ?_
    refine pm_stk (st' := [.ref (z + nx)]) rfl ?_
    have hDq3 : (d_X7_refusal2 x y n r) = (((d_X7_refusalOfValue x 0 1 (r 1)).1), ((d_X7_refusalOfValue x 0 1 (r 1)).2)) := by rw [d_X7_refusal2, if_neg hq1]
    exact pm_areturn B dX7_refusal_93 rfl (Or.inl ⟨_, rfl⟩) (Or.inr ⟨_, rfl⟩) (by rw [hDq3, pm_rf_p (show ¬ (((d_X7_refusalOfValue x 0 1 (r 1)).1) : Int32) = 0 by first | decide | assumption)]; exact ⟨rfl, rfl, rfl⟩) rfl rfl
def d_X7_refusal3 (x : Int32) (y : Int32) (n : Nat) (r : Nat → Int32) : Int32 × Int32 := if (d_X7_refusalOfSale x y n r).1 = 0 then (0, 0) else (((d_X7_refusalOfSale x y n r).1), ((d_X7_refusalOfSale x y n r).2))
set_option maxRecDepth 100000 in
set_option maxHeartbeats 8000000 in
theorem c_X7_refusal3 {l : Launch} {z : Nat} {D : va_G} {kA : Nat → ClassId} {kE : Nat → Nat} {nx : Nat} {M : pm_M} {x : Int32} {y : Int32} {n : Nat} {r : Nat → Int32} (hS : pm_SA z kA 2 M r) (hO1 : M 1 = some (.inr (5, [.ref (z + 2), .ref (z + 13), .ref (z + 16)]))) (hn : r 0 = nI n) (h7 : n ≤ 7) (hnx : 140 ≤ nx) : pm_C l z D kA kE yX7_refusal cX7_refusal 4 (some (.object "ThunderCartel$Refusal")) 4 2 6 [.ref (z + 1), .ref (kE 3), .int x, .int y] nx M (pm_rf z nx M (d_X7_refusal3 x y n r)) := by
  refine pm_mk (own := RX7) (nm := "refusal") mt_X7_refusal rfl rfl rfl rfl fun X B => ?_
  refine pm_loc (L' := [some (.ref (z + 1)), some (.ref (kE 3)), some (.int x), some (.int y)]) rfl ?_
  refine pm_gets (v := .ref (kE 61)) B (fun U H h => h.2.2.2.1.1) (pm_T_in 396 (by decide +kernel) (by decide +kernel)) dX7_refusal_0 ?_
  refine pm_aload_n B dX7_refusal_3 rfl ?_
  refine pm_cUL (As := []) (mc2 := 0) (ms2 := 0) (ov := some (.int (nI 3))) B (fun U H h => (h.1 3 (by decide)).2.1) (c_ordinal (i := 3) (by decide)) mt_ordinal su_X7_34 dX7_refusal_4 rfl rfl rfl rfl rfl ?_
  refine pm_stk (st' := [.int (nI 3), .ref (kE 61)]) rfl ?_
  refine pm_tiL (v := .int 4) B (fun U H h => h.2.2.2.1.2) 3 (by decide) (by decide) rfl dX7_refusal_7 ?_
  refine pm_tableIn (off := 86) (tgt := 94) B dX7_refusal_8 (by decide) (by decide) (by decide) (by decide) ?_
  refine pm_aload_n B dX7_refusal_94 rfl ?_
  refine pm_iload_n B dX7_refusal_95 rfl ?_
  refine pm_iload_n B dX7_refusal_96 rfl ?_
  by_cases hq1 : (d_X7_refusalOfSale x y n r).1 = 0
  · refine pm_cV (As := [.int x, .int y]) (mc2 := 1) (ms2 := 3) B rfl hO1 rfl (pm_C_z hq1 (c_X7_refusalOfSale (x := x) (y := y) (n := n) (r := r) hS hO1 hn (by first | assumption | omega) (by first | assumption | omega))) mt_X7_refusalOfSale sv_X7_56 dX7_refusal_97 rfl rfl rfl rfl rfl ?_
    refine pm_stk (st' := [.null]) rfl ?_
    have hDq2 : (d_X7_refusal3 x y n r) = (0, 0) := by rw [d_X7_refusal3, if_pos hq1]
    exact pm_areturn B dX7_refusal_100 rfl (Or.inl ⟨_, rfl⟩) (Or.inl rfl) (by rw [hDq2, pm_rf_z rfl]; exact ⟨rfl, rfl, rfl⟩) rfl rfl
  · refine pm_cV (As := [.int x, .int y]) (mc2 := 1) (ms2 := 3) B rfl hO1 rfl (pm_C_p hq1 (c_X7_refusalOfSale (x := x) (y := y) (n := n) (r := r) hS hO1 hn (by first | assumption | omega) (by first | assumption | omega))) mt_X7_refusalOfSale sv_X7_56 dX7_refusal_97 rfl rfl rfl rfl rfl ?_
    refine pm_stk (st' := [.ref (z + nx)]) rfl ?_
    have hDq3 : (d_X7_refusal3 x y n r) = (((d_X7_refusalOfSale x y n r).1), ((d_X7_refusalOfSale x y n r).2)) := by rw [d_X7_refusal3, if_neg hq1]
    exact pm_areturn B dX7_refusal_100 rfl (Or.inl ⟨_, rfl⟩) (Or.inr ⟨_, rfl⟩) (by rw [hDq3, pm_rf_p (show ¬ (((d_X7_refusalOfSale x y n r).1) : Int32) = 0 by first | decide | assumption)]; exact ⟨rfl, rfl, rfl⟩) rfl rfl
def d_X7_refusal4 (x : Int32) (y : Int32) (n : Nat) (r : Nat → Int32) : Int32 × Int32 := if (d_X7_refusalOfAudit x n r).1 = 0 then (0, 0) else (((d_X7_refusalOfAudit x n r).1), ((d_X7_refusalOfAudit x n r).2))
set_option maxRecDepth 100000 in
set_option maxHeartbeats 8000000 in
theorem c_X7_refusal4 {l : Launch} {z : Nat} {D : va_G} {kA : Nat → ClassId} {kE : Nat → Nat} {nx : Nat} {M : pm_M} {x : Int32} {y : Int32} {n : Nat} {r : Nat → Int32} (hS : pm_SA z kA 2 M r) (hO1 : M 1 = some (.inr (5, [.ref (z + 2), .ref (z + 13), .ref (z + 16)]))) (hn : r 0 = nI n) (h7 : n ≤ 7) (hnx : 140 ≤ nx) : pm_C l z D kA kE yX7_refusal cX7_refusal 4 (some (.object "ThunderCartel$Refusal")) 4 2 6 [.ref (z + 1), .ref (kE 4), .int x, .int y] nx M (pm_rf z nx M (d_X7_refusal4 x y n r)) := by
  refine pm_mk (own := RX7) (nm := "refusal") mt_X7_refusal rfl rfl rfl rfl fun X B => ?_
  refine pm_loc (L' := [some (.ref (z + 1)), some (.ref (kE 4)), some (.int x), some (.int y)]) rfl ?_
  refine pm_gets (v := .ref (kE 61)) B (fun U H h => h.2.2.2.1.1) (pm_T_in 396 (by decide +kernel) (by decide +kernel)) dX7_refusal_0 ?_
  refine pm_aload_n B dX7_refusal_3 rfl ?_
  refine pm_cUL (As := []) (mc2 := 0) (ms2 := 0) (ov := some (.int (nI 4))) B (fun U H h => (h.1 4 (by decide)).2.1) (c_ordinal (i := 4) (by decide)) mt_ordinal su_X7_34 dX7_refusal_4 rfl rfl rfl rfl rfl ?_
  refine pm_stk (st' := [.int (nI 4), .ref (kE 61)]) rfl ?_
  refine pm_tiL (v := .int 5) B (fun U H h => h.2.2.2.1.2) 4 (by decide) (by decide) rfl dX7_refusal_7 ?_
  refine pm_tableIn (off := 93) (tgt := 101) B dX7_refusal_8 (by decide) (by decide) (by decide) (by decide) ?_
  refine pm_aload_n B dX7_refusal_101 rfl ?_
  refine pm_iload_n B dX7_refusal_102 rfl ?_
  by_cases hq1 : (d_X7_refusalOfAudit x n r).1 = 0
  · refine pm_cV (As := [.int x]) (mc2 := 1) (ms2 := 3) B rfl hO1 rfl (pm_C_z hq1 (c_X7_refusalOfAudit (x := x) (n := n) (r := r) hS hO1 hn (by first | assumption | omega) (by first | assumption | omega))) mt_X7_refusalOfAudit sv_X7_59 dX7_refusal_103 rfl rfl rfl rfl rfl ?_
    refine pm_stk (st' := [.null]) rfl ?_
    have hDq2 : (d_X7_refusal4 x y n r) = (0, 0) := by rw [d_X7_refusal4, if_pos hq1]
    exact pm_areturn B dX7_refusal_106 rfl (Or.inl ⟨_, rfl⟩) (Or.inl rfl) (by rw [hDq2, pm_rf_z rfl]; exact ⟨rfl, rfl, rfl⟩) rfl rfl
  · refine pm_cV (As := [.int x]) (mc2 := 1) (ms2 := 3) B rfl hO1 rfl (pm_C_p hq1 (c_X7_refusalOfAudit (x := x) (n := n) (r := r) hS hO1 hn (by first | assumption | omega) (by first | assumption | omega))) mt_X7_refusalOfAudit sv_X7_59 dX7_refusal_103 rfl rfl rfl rfl rfl ?_
    refine pm_stk (st' := [.ref (z + nx)]) rfl ?_
    have hDq3 : (d_X7_refusal4 x y n r) = (((d_X7_refusalOfAudit x n r).1), ((d_X7_refusalOfAudit x n r).2)) := by rw [d_X7_refusal4, if_neg hq1]
    exact pm_areturn B dX7_refusal_106 rfl (Or.inl ⟨_, rfl⟩) (Or.inr ⟨_, rfl⟩) (by rw [hDq3, pm_rf_p (show ¬ (((d_X7_refusalOfAudit x n r).1) : Int32) = 0 by first | decide | assumption)]; exact ⟨rfl, rfl, rfl⟩) rfl rfl
def d_X7_refusal5 (x : Int32) (y : Int32) (n : Nat) (r : Nat → Int32) : Int32 × Int32 := (0, 0)
set_option maxRecDepth 100000 in
set_option maxHeartbeats 8000000 in
theorem c_X7_refusal5 {l : Launch} {z : Nat} {D : va_G} {kA : Nat → ClassId} {kE : Nat → Nat} {nx : Nat} {M : pm_M} {x : Int32} {y : Int32} {n : Nat} {r : Nat → Int32} (hS : pm_SA z kA 2 M r) (hn : r 0 = nI n) (h7 : n ≤ 7) (hnx : 140 ≤ nx) : pm_C l z D kA kE yX7_refusal cX7_refusal 4 (some (.object "ThunderCartel$Refusal")) 4 2 6 [.ref (z + 1), .ref (kE 5), .int x, .int y] nx M (pm_rf z nx M (d_X7_refusal5 x y n r)) := by
  refine pm_mk (own := RX7) (nm := "refusal") mt_X7_refusal rfl rfl rfl rfl fun X B => ?_
  refine pm_loc (L' := [some (.ref (z + 1)), some (.ref (kE 5)), some (.int x), some (.int y)]) rfl ?_
  refine pm_gets (v := .ref (kE 61)) B (fun U H h => h.2.2.2.1.1) (pm_T_in 396 (by decide +kernel) (by decide +kernel)) dX7_refusal_0 ?_
  refine pm_aload_n B dX7_refusal_3 rfl ?_
  refine pm_cUL (As := []) (mc2 := 0) (ms2 := 0) (ov := some (.int (nI 5))) B (fun U H h => (h.1 5 (by decide)).2.1) (c_ordinal (i := 5) (by decide)) mt_ordinal su_X7_34 dX7_refusal_4 rfl rfl rfl rfl rfl ?_
  refine pm_stk (st' := [.int (nI 5), .ref (kE 61)]) rfl ?_
  refine pm_tiL (v := .int 0) B (fun U H h => h.2.2.2.1.2) 5 (by decide) (by decide) rfl dX7_refusal_7 ?_
  refine pm_tableOut (tgt := 151) B dX7_refusal_8 (by decide) (by decide) ?_
  refine pm_null B dX7_refusal_151 ?_
  have hDq1 : (d_X7_refusal5 x y n r) = (0, 0) := by rw [d_X7_refusal5]
  exact pm_areturn B dX7_refusal_152 rfl (Or.inl ⟨_, rfl⟩) (Or.inl rfl) (by rw [hDq1, pm_rf_z rfl]; exact ⟨rfl, rfl, rfl⟩) rfl rfl
def d_X7_refusal6 (x : Int32) (y : Int32) (n : Nat) (r : Nat → Int32) : Int32 × Int32 := if (d_X7_refusalOfLink x y n r).1 = 0 then (0, 0) else (((d_X7_refusalOfLink x y n r).1), ((d_X7_refusalOfLink x y n r).2))
set_option maxRecDepth 100000 in
set_option maxHeartbeats 8000000 in
theorem c_X7_refusal6 {l : Launch} {z : Nat} {D : va_G} {kA : Nat → ClassId} {kE : Nat → Nat} {nx : Nat} {M : pm_M} {x : Int32} {y : Int32} {n : Nat} {r : Nat → Int32} (hS : pm_SA z kA 2 M r) (hO1 : M 1 = some (.inr (5, [.ref (z + 2), .ref (z + 13), .ref (z + 16)]))) (hn : r 0 = nI n) (h7 : n ≤ 7) (hnx : 140 ≤ nx) : pm_C l z D kA kE yX7_refusal cX7_refusal 4 (some (.object "ThunderCartel$Refusal")) 4 2 6 [.ref (z + 1), .ref (kE 6), .int x, .int y] nx M (pm_rf z nx M (d_X7_refusal6 x y n r)) := by
  refine pm_mk (own := RX7) (nm := "refusal") mt_X7_refusal rfl rfl rfl rfl fun X B => ?_
  refine pm_loc (L' := [some (.ref (z + 1)), some (.ref (kE 6)), some (.int x), some (.int y)]) rfl ?_
  refine pm_gets (v := .ref (kE 61)) B (fun U H h => h.2.2.2.1.1) (pm_T_in 396 (by decide +kernel) (by decide +kernel)) dX7_refusal_0 ?_
  refine pm_aload_n B dX7_refusal_3 rfl ?_
  refine pm_cUL (As := []) (mc2 := 0) (ms2 := 0) (ov := some (.int (nI 6))) B (fun U H h => (h.1 6 (by decide)).2.1) (c_ordinal (i := 6) (by decide)) mt_ordinal su_X7_34 dX7_refusal_4 rfl rfl rfl rfl rfl ?_
  refine pm_stk (st' := [.int (nI 6), .ref (kE 61)]) rfl ?_
  refine pm_tiL (v := .int 6) B (fun U H h => h.2.2.2.1.2) 6 (by decide) (by decide) rfl dX7_refusal_7 ?_
  refine pm_tableIn (off := 99) (tgt := 107) B dX7_refusal_8 (by decide) (by decide) (by decide) (by decide) ?_
  refine pm_aload_n B dX7_refusal_107 rfl ?_
  refine pm_iload_n B dX7_refusal_108 rfl ?_
  refine pm_iload_n B dX7_refusal_109 rfl ?_
  by_cases hq1 : (d_X7_refusalOfLink x y n r).1 = 0
  · refine pm_cV (As := [.int x, .int y]) (mc2 := 2) (ms2 := 6) B rfl hO1 rfl (pm_C_z hq1 (c_X7_refusalOfLink (x := x) (y := y) (n := n) (r := r) hS hO1 hn (by first | assumption | omega) (by first | assumption | omega))) mt_X7_refusalOfLink sv_X7_63 dX7_refusal_110 rfl rfl rfl rfl rfl ?_
    refine pm_stk (st' := [.null]) rfl ?_
    have hDq2 : (d_X7_refusal6 x y n r) = (0, 0) := by rw [d_X7_refusal6, if_pos hq1]
    exact pm_areturn B dX7_refusal_113 rfl (Or.inl ⟨_, rfl⟩) (Or.inl rfl) (by rw [hDq2, pm_rf_z rfl]; exact ⟨rfl, rfl, rfl⟩) rfl rfl
  · refine pm_cV (As := [.int x, .int y]) (mc2 := 2) (ms2 := 6) B rfl hO1 rfl (pm_C_p hq1 (c_X7_refusalOfLink (x := x) (y := y) (n := n) (r := r) hS hO1 hn (by first | assumption | omega) (by first | assumption | omega))) mt_X7_refusalOfLink sv_X7_63 dX7_refusal_110 rfl rfl rfl rfl rfl ?_
    refine pm_stk (st' := [.ref (z + nx)]) rfl ?_
    have hDq3 : (d_X7_refusal6 x y n r) = (((d_X7_refusalOfLink x y n r).1), ((d_X7_refusalOfLink x y n r).2)) := by rw [d_X7_refusal6, if_neg hq1]
    exact pm_areturn B dX7_refusal_113 rfl (Or.inl ⟨_, rfl⟩) (Or.inr ⟨_, rfl⟩) (by rw [hDq3, pm_rf_p (show ¬ (((d_X7_refusalOfLink x y n r).1) : Int32) = 0 by first | decide | assumption)]; exact ⟨rfl, rfl, rfl⟩) rfl rfl
def d_X7_refusal7 (x : Int32) (y : Int32) (n : Nat) (r : Nat → Int32) : Int32 × Int32 := if (d_X7_refusalOfCut x y n r).1 = 0 then (0, 0) else (((d_X7_refusalOfCut x y n r).1), ((d_X7_refusalOfCut x y n r).2))
set_option maxRecDepth 100000 in
set_option maxHeartbeats 8000000 in
theorem c_X7_refusal7 {l : Launch} {z : Nat} {D : va_G} {kA : Nat → ClassId} {kE : Nat → Nat} {nx : Nat} {M : pm_M} {x : Int32} {y : Int32} {n : Nat} {r : Nat → Int32} (hS : pm_SA z kA 2 M r) (hO1 : M 1 = some (.inr (5, [.ref (z + 2), .ref (z + 13), .ref (z + 16)]))) (hn : r 0 = nI n) (h7 : n ≤ 7) (hnx : 140 ≤ nx) : pm_C l z D kA kE yX7_refusal cX7_refusal 4 (some (.object "ThunderCartel$Refusal")) 4 2 6 [.ref (z + 1), .ref (kE 7), .int x, .int y] nx M (pm_rf z nx M (d_X7_refusal7 x y n r)) := by
  refine pm_mk (own := RX7) (nm := "refusal") mt_X7_refusal rfl rfl rfl rfl fun X B => ?_
  refine pm_loc (L' := [some (.ref (z + 1)), some (.ref (kE 7)), some (.int x), some (.int y)]) rfl ?_
  refine pm_gets (v := .ref (kE 61)) B (fun U H h => h.2.2.2.1.1) (pm_T_in 396 (by decide +kernel) (by decide +kernel)) dX7_refusal_0 ?_
  refine pm_aload_n B dX7_refusal_3 rfl ?_
  refine pm_cUL (As := []) (mc2 := 0) (ms2 := 0) (ov := some (.int (nI 7))) B (fun U H h => (h.1 7 (by decide)).2.1) (c_ordinal (i := 7) (by decide)) mt_ordinal su_X7_34 dX7_refusal_4 rfl rfl rfl rfl rfl ?_
  refine pm_stk (st' := [.int (nI 7), .ref (kE 61)]) rfl ?_
  refine pm_tiL (v := .int 7) B (fun U H h => h.2.2.2.1.2) 7 (by decide) (by decide) rfl dX7_refusal_7 ?_
  refine pm_tableIn (off := 106) (tgt := 114) B dX7_refusal_8 (by decide) (by decide) (by decide) (by decide) ?_
  refine pm_aload_n B dX7_refusal_114 rfl ?_
  refine pm_iload_n B dX7_refusal_115 rfl ?_
  refine pm_iload_n B dX7_refusal_116 rfl ?_
  by_cases hq1 : (d_X7_refusalOfCut x y n r).1 = 0
  · refine pm_cV (As := [.int x, .int y]) (mc2 := 2) (ms2 := 6) B rfl hO1 rfl (pm_C_z hq1 (c_X7_refusalOfCut (x := x) (y := y) (n := n) (r := r) hS hO1 hn (by first | assumption | omega) (by first | assumption | omega))) mt_X7_refusalOfCut sv_X7_66 dX7_refusal_117 rfl rfl rfl rfl rfl ?_
    refine pm_stk (st' := [.null]) rfl ?_
    have hDq2 : (d_X7_refusal7 x y n r) = (0, 0) := by rw [d_X7_refusal7, if_pos hq1]
    exact pm_areturn B dX7_refusal_120 rfl (Or.inl ⟨_, rfl⟩) (Or.inl rfl) (by rw [hDq2, pm_rf_z rfl]; exact ⟨rfl, rfl, rfl⟩) rfl rfl
  · refine pm_cV (As := [.int x, .int y]) (mc2 := 2) (ms2 := 6) B rfl hO1 rfl (pm_C_p hq1 (c_X7_refusalOfCut (x := x) (y := y) (n := n) (r := r) hS hO1 hn (by first | assumption | omega) (by first | assumption | omega))) mt_X7_refusalOfCut sv_X7_66 dX7_refusal_117 rfl rfl rfl rfl rfl ?_
    refine pm_stk (st' := [.ref (z + nx)]) rfl ?_
    have hDq3 : (d_X7_refusal7 x y n r) = (((d_X7_refusalOfCut x y n r).1), ((d_X7_refusalOfCut x y n r).2)) := by rw [d_X7_refusal7, if_neg hq1]
    exact pm_areturn B dX7_refusal_120 rfl (Or.inl ⟨_, rfl⟩) (Or.inr ⟨_, rfl⟩) (by rw [hDq3, pm_rf_p (show ¬ (((d_X7_refusalOfCut x y n r).1) : Int32) = 0 by first | decide | assumption)]; exact ⟨rfl, rfl, rfl⟩) rfl rfl
def d_X7_refusal8 (x : Int32) (y : Int32) (n : Nat) (r : Nat → Int32) : Int32 × Int32 := if (d_X7_refusalOfPardon x n r).1 = 0 then (0, 0) else (((d_X7_refusalOfPardon x n r).1), ((d_X7_refusalOfPardon x n r).2))
set_option maxRecDepth 100000 in
set_option maxHeartbeats 8000000 in
theorem c_X7_refusal8 {l : Launch} {z : Nat} {D : va_G} {kA : Nat → ClassId} {kE : Nat → Nat} {nx : Nat} {M : pm_M} {x : Int32} {y : Int32} {n : Nat} {r : Nat → Int32} (hS : pm_SA z kA 2 M r) (hO1 : M 1 = some (.inr (5, [.ref (z + 2), .ref (z + 13), .ref (z + 16)]))) (hn : r 0 = nI n) (h7 : n ≤ 7) (hnx : 140 ≤ nx) : pm_C l z D kA kE yX7_refusal cX7_refusal 4 (some (.object "ThunderCartel$Refusal")) 4 2 6 [.ref (z + 1), .ref (kE 8), .int x, .int y] nx M (pm_rf z nx M (d_X7_refusal8 x y n r)) := by
  refine pm_mk (own := RX7) (nm := "refusal") mt_X7_refusal rfl rfl rfl rfl fun X B => ?_
  refine pm_loc (L' := [some (.ref (z + 1)), some (.ref (kE 8)), some (.int x), some (.int y)]) rfl ?_
  refine pm_gets (v := .ref (kE 61)) B (fun U H h => h.2.2.2.1.1) (pm_T_in 396 (by decide +kernel) (by decide +kernel)) dX7_refusal_0 ?_
  refine pm_aload_n B dX7_refusal_3 rfl ?_
  refine pm_cUL (As := []) (mc2 := 0) (ms2 := 0) (ov := some (.int (nI 8))) B (fun U H h => (h.1 8 (by decide)).2.1) (c_ordinal (i := 8) (by decide)) mt_ordinal su_X7_34 dX7_refusal_4 rfl rfl rfl rfl rfl ?_
  refine pm_stk (st' := [.int (nI 8), .ref (kE 61)]) rfl ?_
  refine pm_tiL (v := .int 8) B (fun U H h => h.2.2.2.1.2) 8 (by decide) (by decide) rfl dX7_refusal_7 ?_
  refine pm_tableIn (off := 113) (tgt := 121) B dX7_refusal_8 (by decide) (by decide) (by decide) (by decide) ?_
  refine pm_aload_n B dX7_refusal_121 rfl ?_
  refine pm_iload_n B dX7_refusal_122 rfl ?_
  by_cases hq1 : (d_X7_refusalOfPardon x n r).1 = 0
  · refine pm_cV (As := [.int x]) (mc2 := 1) (ms2 := 3) B rfl hO1 rfl (pm_C_z hq1 (c_X7_refusalOfPardon (x := x) (n := n) (r := r) hS hO1 hn (by first | assumption | omega) (by first | assumption | omega))) mt_X7_refusalOfPardon sv_X7_69 dX7_refusal_123 rfl rfl rfl rfl rfl ?_
    refine pm_stk (st' := [.null]) rfl ?_
    have hDq2 : (d_X7_refusal8 x y n r) = (0, 0) := by rw [d_X7_refusal8, if_pos hq1]
    exact pm_areturn B dX7_refusal_126 rfl (Or.inl ⟨_, rfl⟩) (Or.inl rfl) (by rw [hDq2, pm_rf_z rfl]; exact ⟨rfl, rfl, rfl⟩) rfl rfl
  · refine pm_cV (As := [.int x]) (mc2 := 1) (ms2 := 3) B rfl hO1 rfl (pm_C_p hq1 (c_X7_refusalOfPardon (x := x) (n := n) (r := r) hS hO1 hn (by first | assumption | omega) (by first | assumption | omega))) mt_X7_refusalOfPardon sv_X7_69 dX7_refusal_123 rfl rfl rfl rfl rfl ?_
    refine pm_stk (st' := [.ref (z + nx)]) rfl ?_
    have hDq3 : (d_X7_refusal8 x y n r) = (((d_X7_refusalOfPardon x n r).1), ((d_X7_refusalOfPardon x n r).2)) := by rw [d_X7_refusal8, if_neg hq1]
    exact pm_areturn B dX7_refusal_126 rfl (Or.inl ⟨_, rfl⟩) (Or.inr ⟨_, rfl⟩) (by rw [hDq3, pm_rf_p (show ¬ (((d_X7_refusalOfPardon x n r).1) : Int32) = 0 by first | decide | assumption)]; exact ⟨rfl, rfl, rfl⟩) rfl rfl
def d_X7_refusal9 (x : Int32) (y : Int32) (n : Nat) (r : Nat → Int32) : Int32 × Int32 := if (d_X7_refusalOfValue x 1 99 (r 3)).1 = 0 then (0, 0) else (((d_X7_refusalOfValue x 1 99 (r 3)).1), ((d_X7_refusalOfValue x 1 99 (r 3)).2))
set_option maxRecDepth 100000 in
set_option maxHeartbeats 8000000 in
theorem c_X7_refusal9 {l : Launch} {z : Nat} {D : va_G} {kA : Nat → ClassId} {kE : Nat → Nat} {nx : Nat} {M : pm_M} {x : Int32} {y : Int32} {n : Nat} {r : Nat → Int32} (hS : pm_SA z kA 2 M r) (hO1 : M 1 = some (.inr (5, [.ref (z + 2), .ref (z + 13), .ref (z + 16)]))) (hn : r 0 = nI n) (h7 : n ≤ 7) (hnx : 140 ≤ nx) : pm_C l z D kA kE yX7_refusal cX7_refusal 4 (some (.object "ThunderCartel$Refusal")) 4 2 6 [.ref (z + 1), .ref (kE 9), .int x, .int y] nx M (pm_rf z nx M (d_X7_refusal9 x y n r)) := by
  refine pm_mk (own := RX7) (nm := "refusal") mt_X7_refusal rfl rfl rfl rfl fun X B => ?_
  refine pm_loc (L' := [some (.ref (z + 1)), some (.ref (kE 9)), some (.int x), some (.int y)]) rfl ?_
  refine pm_gets (v := .ref (kE 61)) B (fun U H h => h.2.2.2.1.1) (pm_T_in 396 (by decide +kernel) (by decide +kernel)) dX7_refusal_0 ?_
  refine pm_aload_n B dX7_refusal_3 rfl ?_
  refine pm_cUL (As := []) (mc2 := 0) (ms2 := 0) (ov := some (.int (nI 9))) B (fun U H h => (h.1 9 (by decide)).2.1) (c_ordinal (i := 9) (by decide)) mt_ordinal su_X7_34 dX7_refusal_4 rfl rfl rfl rfl rfl ?_
  refine pm_stk (st' := [.int (nI 9), .ref (kE 61)]) rfl ?_
  refine pm_tiL (v := .int 9) B (fun U H h => h.2.2.2.1.2) 9 (by decide) (by decide) rfl dX7_refusal_7 ?_
  refine pm_tableIn (off := 119) (tgt := 127) B dX7_refusal_8 (by decide) (by decide) (by decide) (by decide) ?_
  refine pm_iload_n B dX7_refusal_127 rfl ?_
  refine pm_iconst (v := 1) B dX7_refusal_128 (by decide) ?_
  refine pm_bipush (v := 99) B dX7_refusal_129 (by decide) ?_
  refine pm_aload_n B dX7_refusal_131 rfl ?_
  refine pm_get B dX7_refusal_132 fl_X7_12 hO1 rfl ?_
  refine pm_get B dX7_refusal_135 fl_X7_72 (hS.1) rfl ?_
  by_cases hq1 : (d_X7_refusalOfValue x 1 99 (r 3)).1 = 0
  · refine pm_cS (As := [.int x, .int 1, .int 99, .int (r 3)]) (mc2 := 1) (ms2 := 3) B (pm_C_z hq1 (c_X7_refusalOfValue (x := x) (y := 1) (w := 99) (v := (r 3))  (by first | assumption | omega))) mt_X7_refusalOfValue ss_X7_52 dX7_refusal_138 rfl rfl rfl rfl rfl ?_
    refine pm_stk (st' := [.null]) rfl ?_
    have hDq2 : (d_X7_refusal9 x y n r) = (0, 0) := by rw [d_X7_refusal9, if_pos hq1]
    exact pm_areturn B dX7_refusal_141 rfl (Or.inl ⟨_, rfl⟩) (Or.inl rfl) (by rw [hDq2, pm_rf_z rfl]; exact ⟨rfl, rfl, rfl⟩) rfl rfl
  · refine pm_cS (As := [.int x, .int 1, .int 99, .int (r 3)]) (mc2 := 1) (ms2 := 3) B (pm_C_p hq1 (c_X7_refusalOfValue (x := x) (y := 1) (w := 99) (v := (r 3))  (by first | assumption | omega))) mt_X7_refusalOfValue ss_X7_52 dX7_refusal_138 rfl rfl rfl rfl rfl ?_
    refine pm_stk (st' := [.ref (z + nx)]) rfl ?_
    have hDq3 : (d_X7_refusal9 x y n r) = (((d_X7_refusalOfValue x 1 99 (r 3)).1), ((d_X7_refusalOfValue x 1 99 (r 3)).2)) := by rw [d_X7_refusal9, if_neg hq1]
    exact pm_areturn B dX7_refusal_141 rfl (Or.inl ⟨_, rfl⟩) (Or.inr ⟨_, rfl⟩) (by rw [hDq3, pm_rf_p (show ¬ (((d_X7_refusalOfValue x 1 99 (r 3)).1) : Int32) = 0 by first | decide | assumption)]; exact ⟨rfl, rfl, rfl⟩) rfl rfl
def d_X7_refusal10 (x : Int32) (y : Int32) (n : Nat) (r : Nat → Int32) : Int32 × Int32 := if (d_X7_refusalOfRange x 0 1023).1 = 0 then (0, 0) else (((d_X7_refusalOfRange x 0 1023).1), ((d_X7_refusalOfRange x 0 1023).2))
set_option maxRecDepth 100000 in
set_option maxHeartbeats 8000000 in
theorem c_X7_refusal10 {l : Launch} {z : Nat} {D : va_G} {kA : Nat → ClassId} {kE : Nat → Nat} {nx : Nat} {M : pm_M} {x : Int32} {y : Int32} {n : Nat} {r : Nat → Int32} (hS : pm_SA z kA 2 M r) (hn : r 0 = nI n) (h7 : n ≤ 7) (hnx : 140 ≤ nx) : pm_C l z D kA kE yX7_refusal cX7_refusal 4 (some (.object "ThunderCartel$Refusal")) 4 2 6 [.ref (z + 1), .ref (kE 10), .int x, .int y] nx M (pm_rf z nx M (d_X7_refusal10 x y n r)) := by
  refine pm_mk (own := RX7) (nm := "refusal") mt_X7_refusal rfl rfl rfl rfl fun X B => ?_
  refine pm_loc (L' := [some (.ref (z + 1)), some (.ref (kE 10)), some (.int x), some (.int y)]) rfl ?_
  refine pm_gets (v := .ref (kE 61)) B (fun U H h => h.2.2.2.1.1) (pm_T_in 396 (by decide +kernel) (by decide +kernel)) dX7_refusal_0 ?_
  refine pm_aload_n B dX7_refusal_3 rfl ?_
  refine pm_cUL (As := []) (mc2 := 0) (ms2 := 0) (ov := some (.int (nI 10))) B (fun U H h => (h.1 10 (by decide)).2.1) (c_ordinal (i := 10) (by decide)) mt_ordinal su_X7_34 dX7_refusal_4 rfl rfl rfl rfl rfl ?_
  refine pm_stk (st' := [.int (nI 10), .ref (kE 61)]) rfl ?_
  refine pm_tiL (v := .int 10) B (fun U H h => h.2.2.2.1.2) 10 (by decide) (by decide) rfl dX7_refusal_7 ?_
  refine pm_tableIn (off := 134) (tgt := 142) B dX7_refusal_8 (by decide) (by decide) (by decide) (by decide) ?_
  refine pm_iload_n B dX7_refusal_142 rfl ?_
  refine pm_iconst (v := 0) B dX7_refusal_143 (by decide) ?_
  refine pm_sipush (v := 1023) B dX7_refusal_144 (by decide) ?_
  by_cases hq1 : (d_X7_refusalOfRange x 0 1023).1 = 0
  · refine pm_cS (As := [.int x, .int 0, .int 1023]) (mc2 := 1) (ms2 := 3) B (pm_C_z hq1 (c_X7_refusalOfRange (x := x) (y := 0) (w := 1023)  (by first | assumption | omega))) mt_X7_refusalOfRange ss_X7_44 dX7_refusal_147 rfl rfl rfl rfl rfl ?_
    refine pm_stk (st' := [.null]) rfl ?_
    have hDq2 : (d_X7_refusal10 x y n r) = (0, 0) := by rw [d_X7_refusal10, if_pos hq1]
    exact pm_areturn B dX7_refusal_150 rfl (Or.inl ⟨_, rfl⟩) (Or.inl rfl) (by rw [hDq2, pm_rf_z rfl]; exact ⟨rfl, rfl, rfl⟩) rfl rfl
  · refine pm_cS (As := [.int x, .int 0, .int 1023]) (mc2 := 1) (ms2 := 3) B (pm_C_p hq1 (c_X7_refusalOfRange (x := x) (y := 0) (w := 1023)  (by first | assumption | omega))) mt_X7_refusalOfRange ss_X7_44 dX7_refusal_147 rfl rfl rfl rfl rfl ?_
    refine pm_stk (st' := [.ref (z + nx)]) rfl ?_
    have hDq3 : (d_X7_refusal10 x y n r) = (((d_X7_refusalOfRange x 0 1023).1), ((d_X7_refusalOfRange x 0 1023).2)) := by rw [d_X7_refusal10, if_neg hq1]
    exact pm_areturn B dX7_refusal_150 rfl (Or.inl ⟨_, rfl⟩) (Or.inr ⟨_, rfl⟩) (by rw [hDq3, pm_rf_p (show ¬ (((d_X7_refusalOfRange x 0 1023).1) : Int32) = 0 by first | decide | assumption)]; exact ⟨rfl, rfl, rfl⟩) rfl rfl
def d_X7_do0 (x : Int32) (y : Int32) (n : Nat) (r : Nat → Int32) : (Int32 × (Nat → Int32)) := (((d_X7_enter x y n r).1), ((d_X7_enter x y n r).2))
set_option maxRecDepth 100000 in
set_option maxHeartbeats 8000000 in
theorem c_X7_carryOut0 {l : Launch} {z : Nat} {D : va_G} {kA : Nat → ClassId} {kE : Nat → Nat} {nx : Nat} {M : pm_M} {x : Int32} {y : Int32} {n : Nat} {r : Nat → Int32} (hS : pm_SA z kA 2 M r) (hO1 : M 1 = some (.inr (5, [.ref (z + 2), .ref (z + 13), .ref (z + 16)]))) (hn : r 0 = nI n) (h7 : n ≤ 7) (h6 : n < 7) : pm_C l z D kA kE yX7_carryOut cX7_carryOut 4 (some .int) 5 0 0 [.ref (z + 1), .ref (kE 0), .int x, .int y] nx M (pm_rt (some (.int ((d_X7_do0 x y n r).1))) nx (pm_sw z kA 2 M ((d_X7_do0 x y n r).2))) := by
  refine pm_mk (own := RX7) (nm := "carryOut") mt_X7_carryOut rfl rfl rfl rfl fun X B => ?_
  refine pm_loc (L' := [some (.ref (z + 1)), some (.ref (kE 0)), some (.int x), some (.int y)]) rfl ?_
  refine pm_mem (M' := pm_sw z kA 2 M r) (by rw [pm_sw_id hS]) ?_
  refine pm_gets (v := .ref (kE 61)) B (fun U H h => h.2.2.2.1.1) (pm_T_in 396 (by decide +kernel) (by decide +kernel)) dX7_carryOut_0 ?_
  refine pm_aload_n B dX7_carryOut_3 rfl ?_
  refine pm_cUL (As := []) (mc2 := 0) (ms2 := 0) (ov := some (.int (nI 0))) B (fun U H h => (h.1 0 (by decide)).2.1) (c_ordinal (i := 0) (by decide)) mt_ordinal su_X7_34 dX7_carryOut_4 rfl rfl rfl rfl rfl ?_
  refine pm_stk (st' := [.int (nI 0), .ref (kE 61)]) rfl ?_
  refine pm_tiL (v := .int 1) B (fun U H h => h.2.2.2.1.2) 0 (by decide) (by decide) rfl dX7_carryOut_7 ?_
  refine pm_tableIn (off := 56) (tgt := 64) B dX7_carryOut_8 (by decide) (by decide) (by decide) (by decide) ?_
  refine pm_aload_n B dX7_carryOut_64 rfl ?_
  refine pm_iload_n B dX7_carryOut_65 rfl ?_
  refine pm_iload_n B dX7_carryOut_66 rfl ?_
  refine pm_cV (As := [.int x, .int y]) (mc2 := 0) (ms2 := 0) B rfl ((pm_sw_n (by omega)).trans hO1) rfl (c_X7_enter (x := x) (y := y) (n := n) (r := r) (pm_swS (z := z) (b := 2) (kA := kA)) ((pm_sw_n (by omega)).trans hO1) hn (by first | assumption | omega) (by first | assumption | omega)) mt_X7_enter sv_X7_75 dX7_carryOut_67 rfl rfl rfl rfl rfl ?_
  refine pm_mem (M' := pm_sw z kA 2 M ((d_X7_enter x y n r).2)) (by rw [pm_sw_sw] <;> rfl) ?_
  refine pm_stk (st' := [.int ((d_X7_enter x y n r).1)]) rfl ?_
  have hDq1 : (d_X7_do0 x y n r) = (((d_X7_enter x y n r).1), ((d_X7_enter x y n r).2)) := by rw [d_X7_do0]
  exact pm_ireturn B dX7_carryOut_70 rfl (by first | rfl | (apply pm_nz; first | assumption | decide | exact pm_in01 _ _ _ | simp)) ⟨(by rw [hDq1]), rfl, by rw [hDq1]⟩ rfl rfl
def d_X7_do1 (x : Int32) (y : Int32) (n : Nat) (r : Nat → Int32) (q : Nat → Int32) (rm : Nat → Int32) : (Int32 × (Nat → Int32) × (Nat → Int32) × (Nat → Int32)) := (((d_X7_assignTotal x n r q rm).1), ((d_X7_assignTotal x n r q rm).2.1), ((d_X7_assignTotal x n r q rm).2.2.1), ((d_X7_assignTotal x n r q rm).2.2.2))
set_option maxRecDepth 100000 in
set_option maxHeartbeats 8000000 in
theorem c_X7_carryOut1 {l : Launch} {z : Nat} {D : va_G} {kA : Nat → ClassId} {kE : Nat → Nat} {nx : Nat} {M : pm_M} {x : Int32} {y : Int32} {n : Nat} {r : Nat → Int32} {q : Nat → Int32} {rm : Nat → Int32} (hS : pm_SA z kA 2 M r) (hq : M 14 = some (.inl (kA 0, 7, .inl q))) (hrm : M 15 = some (.inl (kA 0, 7, .inl rm))) (hO1 : M 1 = some (.inr (5, [.ref (z + 2), .ref (z + 13), .ref (z + 16)]))) (hO13 : M 13 = some (.inr (0, [.ref (z + 14), .ref (z + 15)]))) (hn : r 0 = nI n) (h7 : n ≤ 7) (hx : x = nI (pm_n x)) (hx2 : pm_n x < 2147483648) : pm_C l z D kA kE yX7_carryOut cX7_carryOut 4 (some .int) 5 0 0 [.ref (z + 1), .ref (kE 1), .int x, .int y] nx M (pm_rt (some (.int ((d_X7_do1 x y n r q rm).1))) nx (pm_sw z kA 2 (pm_up (pm_up M 14 (.inl (kA 0, 7, .inl ((d_X7_do1 x y n r q rm).2.2.1)))) 15 (.inl (kA 0, 7, .inl ((d_X7_do1 x y n r q rm).2.2.2)))) ((d_X7_do1 x y n r q rm).2.1))) := by
  refine pm_mk (own := RX7) (nm := "carryOut") mt_X7_carryOut rfl rfl rfl rfl fun X B => ?_
  refine pm_loc (L' := [some (.ref (z + 1)), some (.ref (kE 1)), some (.int x), some (.int y)]) rfl ?_
  refine pm_mem (M' := pm_sw z kA 2 (pm_up (pm_up M 14 (.inl (kA 0, 7, .inl q))) 15 (.inl (kA 0, 7, .inl rm))) r) (by rw [pm_up_id hq, pm_up_id hrm, pm_sw_id hS]) ?_
  refine pm_gets (v := .ref (kE 61)) B (fun U H h => h.2.2.2.1.1) (pm_T_in 396 (by decide +kernel) (by decide +kernel)) dX7_carryOut_0 ?_
  refine pm_aload_n B dX7_carryOut_3 rfl ?_
  refine pm_cUL (As := []) (mc2 := 0) (ms2 := 0) (ov := some (.int (nI 1))) B (fun U H h => (h.1 1 (by decide)).2.1) (c_ordinal (i := 1) (by decide)) mt_ordinal su_X7_34 dX7_carryOut_4 rfl rfl rfl rfl rfl ?_
  refine pm_stk (st' := [.int (nI 1), .ref (kE 61)]) rfl ?_
  refine pm_tiL (v := .int 2) B (fun U H h => h.2.2.2.1.2) 1 (by decide) (by decide) rfl dX7_carryOut_7 ?_
  refine pm_tableIn (off := 63) (tgt := 71) B dX7_carryOut_8 (by decide) (by decide) (by decide) (by decide) ?_
  refine pm_aload_n B dX7_carryOut_71 rfl ?_
  refine pm_iload_n B dX7_carryOut_72 rfl ?_
  refine pm_cV (As := [.int x]) (mc2 := 0) (ms2 := 0) B rfl ((pm_sw_n (by omega)).trans ((pm_up_n (by omega)).trans ((pm_up_n (by omega)).trans hO1))) rfl (c_X7_assignTotal (x := x) (n := n) (r := r) (q := q) (rm := rm) (pm_swS (z := z) (b := 2) (kA := kA)) ((pm_sw_n (by omega)).trans ((pm_up_n (by omega)).trans pm_up_s)) ((pm_sw_n (by omega)).trans pm_up_s) ((pm_sw_n (by omega)).trans ((pm_up_n (by omega)).trans ((pm_up_n (by omega)).trans hO1))) ((pm_sw_n (by omega)).trans ((pm_up_n (by omega)).trans ((pm_up_n (by omega)).trans hO13))) hn (by first | assumption | omega) (by first | assumption | rfl) (by first | assumption | omega)) mt_X7_assignTotal sv_X7_79 dX7_carryOut_73 rfl rfl rfl rfl rfl ?_
  refine pm_mem (M' := pm_sw z kA 2 (pm_up (pm_up M 14 (.inl (kA 0, 7, .inl ((d_X7_assignTotal x n r q rm).2.2.1)))) 15 (.inl (kA 0, 7, .inl ((d_X7_assignTotal x n r q rm).2.2.2)))) ((d_X7_assignTotal x n r q rm).2.1)) (by rw [pm_sw_c (a := 14) (by omega), pm_sw_c (a := 15) (by omega), pm_sw_sw, pm_up_sw (a := 15) (b := 14) (by omega), pm_up_up (a := 14), pm_up_up (a := 15)] <;> rfl) ?_
  refine pm_stk (st' := [.int ((d_X7_assignTotal x n r q rm).1)]) rfl ?_
  have hDq1 : (d_X7_do1 x y n r q rm) = (((d_X7_assignTotal x n r q rm).1), ((d_X7_assignTotal x n r q rm).2.1), ((d_X7_assignTotal x n r q rm).2.2.1), ((d_X7_assignTotal x n r q rm).2.2.2)) := by rw [d_X7_do1]
  exact pm_ireturn B dX7_carryOut_76 rfl (by first | rfl | (apply pm_nz; first | assumption | decide | exact pm_in01 _ _ _ | simp)) ⟨(by rw [hDq1]), rfl, by rw [hDq1]⟩ rfl rfl
def d_X7_do2 (x : Int32) (y : Int32) (n : Nat) (r : Nat → Int32) : (Int32 × (Nat → Int32)) := (((d_X7_changeRule x r).1), ((d_X7_changeRule x r).2))
set_option maxRecDepth 100000 in
set_option maxHeartbeats 8000000 in
theorem c_X7_carryOut2 {l : Launch} {z : Nat} {D : va_G} {kA : Nat → ClassId} {kE : Nat → Nat} {nx : Nat} {M : pm_M} {x : Int32} {y : Int32} {n : Nat} {r : Nat → Int32} (hS : pm_SA z kA 2 M r) (hO1 : M 1 = some (.inr (5, [.ref (z + 2), .ref (z + 13), .ref (z + 16)]))) (hn : r 0 = nI n) (h7 : n ≤ 7) : pm_C l z D kA kE yX7_carryOut cX7_carryOut 4 (some .int) 5 0 0 [.ref (z + 1), .ref (kE 2), .int x, .int y] nx M (pm_rt (some (.int ((d_X7_do2 x y n r).1))) nx (pm_sw z kA 2 M ((d_X7_do2 x y n r).2))) := by
  refine pm_mk (own := RX7) (nm := "carryOut") mt_X7_carryOut rfl rfl rfl rfl fun X B => ?_
  refine pm_loc (L' := [some (.ref (z + 1)), some (.ref (kE 2)), some (.int x), some (.int y)]) rfl ?_
  refine pm_mem (M' := pm_sw z kA 2 M r) (by rw [pm_sw_id hS]) ?_
  refine pm_gets (v := .ref (kE 61)) B (fun U H h => h.2.2.2.1.1) (pm_T_in 396 (by decide +kernel) (by decide +kernel)) dX7_carryOut_0 ?_
  refine pm_aload_n B dX7_carryOut_3 rfl ?_
  refine pm_cUL (As := []) (mc2 := 0) (ms2 := 0) (ov := some (.int (nI 2))) B (fun U H h => (h.1 2 (by decide)).2.1) (c_ordinal (i := 2) (by decide)) mt_ordinal su_X7_34 dX7_carryOut_4 rfl rfl rfl rfl rfl ?_
  refine pm_stk (st' := [.int (nI 2), .ref (kE 61)]) rfl ?_
  refine pm_tiL (v := .int 3) B (fun U H h => h.2.2.2.1.2) 2 (by decide) (by decide) rfl dX7_carryOut_7 ?_
  refine pm_tableIn (off := 69) (tgt := 77) B dX7_carryOut_8 (by decide) (by decide) (by decide) (by decide) ?_
  refine pm_aload_n B dX7_carryOut_77 rfl ?_
  refine pm_iload_n B dX7_carryOut_78 rfl ?_
  refine pm_cV (As := [.int x]) (mc2 := 0) (ms2 := 0) B rfl ((pm_sw_n (by omega)).trans hO1) rfl (c_X7_changeRule (x := x) (r := r) (pm_swS (z := z) (b := 2) (kA := kA)) ((pm_sw_n (by omega)).trans hO1) ) mt_X7_changeRule sv_X7_83 dX7_carryOut_79 rfl rfl rfl rfl rfl ?_
  refine pm_mem (M' := pm_sw z kA 2 M ((d_X7_changeRule x r).2)) (by rw [pm_sw_sw] <;> rfl) ?_
  refine pm_stk (st' := [.int ((d_X7_changeRule x r).1)]) rfl ?_
  have hDq1 : (d_X7_do2 x y n r) = (((d_X7_changeRule x r).1), ((d_X7_changeRule x r).2)) := by rw [d_X7_do2]
  exact pm_ireturn B dX7_carryOut_82 rfl (by first | rfl | (apply pm_nz; first | assumption | decide | exact pm_in01 _ _ _ | simp)) ⟨(by rw [hDq1]), rfl, by rw [hDq1]⟩ rfl rfl
def d_X7_do3 (i : Nat) (y : Int32) (n : Nat) (r : Nat → Int32) : (Int32 × (Nat → Int32)) := (((d_X7_sellUnits i y n r).1), ((d_X7_sellUnits i y n r).2))
set_option maxRecDepth 100000 in
set_option maxHeartbeats 8000000 in
theorem c_X7_carryOut3 {l : Launch} {z : Nat} {D : va_G} {kA : Nat → ClassId} {kE : Nat → Nat} {nx : Nat} {M : pm_M} {i : Nat} {y : Int32} {n : Nat} {r : Nat → Int32} (hS : pm_SA z kA 2 M r) (hO1 : M 1 = some (.inr (5, [.ref (z + 2), .ref (z + 13), .ref (z + 16)]))) (hn : r 0 = nI n) (h7 : n ≤ 7) (hi : i < n) : pm_C l z D kA kE yX7_carryOut cX7_carryOut 4 (some .int) 5 0 0 [.ref (z + 1), .ref (kE 3), .int (nI i), .int y] nx M (pm_rt (some (.int ((d_X7_do3 i y n r).1))) nx (pm_sw z kA 2 M ((d_X7_do3 i y n r).2))) := by
  refine pm_mk (own := RX7) (nm := "carryOut") mt_X7_carryOut rfl rfl rfl rfl fun X B => ?_
  refine pm_loc (L' := [some (.ref (z + 1)), some (.ref (kE 3)), some (.int (nI i)), some (.int y)]) rfl ?_
  refine pm_mem (M' := pm_sw z kA 2 M r) (by rw [pm_sw_id hS]) ?_
  refine pm_gets (v := .ref (kE 61)) B (fun U H h => h.2.2.2.1.1) (pm_T_in 396 (by decide +kernel) (by decide +kernel)) dX7_carryOut_0 ?_
  refine pm_aload_n B dX7_carryOut_3 rfl ?_
  refine pm_cUL (As := []) (mc2 := 0) (ms2 := 0) (ov := some (.int (nI 3))) B (fun U H h => (h.1 3 (by decide)).2.1) (c_ordinal (i := 3) (by decide)) mt_ordinal su_X7_34 dX7_carryOut_4 rfl rfl rfl rfl rfl ?_
  refine pm_stk (st' := [.int (nI 3), .ref (kE 61)]) rfl ?_
  refine pm_tiL (v := .int 4) B (fun U H h => h.2.2.2.1.2) 3 (by decide) (by decide) rfl dX7_carryOut_7 ?_
  refine pm_tableIn (off := 75) (tgt := 83) B dX7_carryOut_8 (by decide) (by decide) (by decide) (by decide) ?_
  refine pm_aload_n B dX7_carryOut_83 rfl ?_
  refine pm_iload_n B dX7_carryOut_84 rfl ?_
  refine pm_iload_n B dX7_carryOut_85 rfl ?_
  refine pm_cV (As := [.int (nI i), .int y]) (mc2 := 0) (ms2 := 0) B rfl ((pm_sw_n (by omega)).trans hO1) rfl (c_X7_sellUnits (i := i) (x := y) (n := n) (r := r) (pm_swS (z := z) (b := 2) (kA := kA)) ((pm_sw_n (by omega)).trans hO1) hn (by first | assumption | omega) (by first | assumption | omega)) mt_X7_sellUnits sv_X7_86 dX7_carryOut_86 rfl rfl rfl rfl rfl ?_
  refine pm_mem (M' := pm_sw z kA 2 M ((d_X7_sellUnits i y n r).2)) (by rw [pm_sw_sw] <;> rfl) ?_
  refine pm_stk (st' := [.int ((d_X7_sellUnits i y n r).1)]) rfl ?_
  have hDq1 : (d_X7_do3 i y n r) = (((d_X7_sellUnits i y n r).1), ((d_X7_sellUnits i y n r).2)) := by rw [d_X7_do3]
  exact pm_ireturn B dX7_carryOut_89 rfl (by first | rfl | (apply pm_nz; first | assumption | decide | exact pm_in01 _ _ _ | simp)) ⟨(by rw [hDq1]), rfl, by rw [hDq1]⟩ rfl rfl
def d_X7_do4 (w : Nat) (y : Int32) (n : Nat) (r : Nat → Int32) (dr : Nat → Int32) : (Int32 × (Nat → Int32) × (Nat → Int32)) := (((d_X7_auditMembers w n r dr).1), ((d_X7_auditMembers w n r dr).2.1), ((d_X7_auditMembers w n r dr).2.2))
set_option maxRecDepth 100000 in
set_option maxHeartbeats 8000000 in
theorem c_X7_carryOut4 {l : Launch} {z : Nat} {D : va_G} {kA : Nat → ClassId} {kE : Nat → Nat} {nx : Nat} {M : pm_M} {w : Nat} {y : Int32} {n : Nat} {r : Nat → Int32} {dr : Nat → Int32} (hS : pm_SA z kA 2 M r) (hdr : M 16 = some (.inl (kA 0, 7, .inl dr))) (hO1 : M 1 = some (.inr (5, [.ref (z + 2), .ref (z + 13), .ref (z + 16)]))) (hn : r 0 = nI n) (h7 : n ≤ 7) (hsd : r 2 = nI (pm_n (r 2))) (hsl : pm_n (r 2) < 1024) (hw1 : 1 ≤ w) (hwn : w ≤ n) : pm_C l z D kA kE yX7_carryOut cX7_carryOut 4 (some .int) 5 0 0 [.ref (z + 1), .ref (kE 4), .int (nI w), .int y] nx M (pm_rt (some (.int ((d_X7_do4 w y n r dr).1))) nx (pm_sw z kA 2 (pm_up M 16 (.inl (kA 0, 7, .inl ((d_X7_do4 w y n r dr).2.2)))) ((d_X7_do4 w y n r dr).2.1))) := by
  refine pm_mk (own := RX7) (nm := "carryOut") mt_X7_carryOut rfl rfl rfl rfl fun X B => ?_
  refine pm_loc (L' := [some (.ref (z + 1)), some (.ref (kE 4)), some (.int (nI w)), some (.int y)]) rfl ?_
  refine pm_mem (M' := pm_sw z kA 2 (pm_up M 16 (.inl (kA 0, 7, .inl dr))) r) (by rw [pm_up_id hdr, pm_sw_id hS]) ?_
  refine pm_gets (v := .ref (kE 61)) B (fun U H h => h.2.2.2.1.1) (pm_T_in 396 (by decide +kernel) (by decide +kernel)) dX7_carryOut_0 ?_
  refine pm_aload_n B dX7_carryOut_3 rfl ?_
  refine pm_cUL (As := []) (mc2 := 0) (ms2 := 0) (ov := some (.int (nI 4))) B (fun U H h => (h.1 4 (by decide)).2.1) (c_ordinal (i := 4) (by decide)) mt_ordinal su_X7_34 dX7_carryOut_4 rfl rfl rfl rfl rfl ?_
  refine pm_stk (st' := [.int (nI 4), .ref (kE 61)]) rfl ?_
  refine pm_tiL (v := .int 5) B (fun U H h => h.2.2.2.1.2) 4 (by decide) (by decide) rfl dX7_carryOut_7 ?_
  refine pm_tableIn (off := 82) (tgt := 90) B dX7_carryOut_8 (by decide) (by decide) (by decide) (by decide) ?_
  refine pm_aload_n B dX7_carryOut_90 rfl ?_
  refine pm_iload_n B dX7_carryOut_91 rfl ?_
  refine pm_cV (As := [.int (nI w)]) (mc2 := 0) (ms2 := 0) B rfl ((pm_sw_n (by omega)).trans ((pm_up_n (by omega)).trans hO1)) rfl (c_X7_auditMembers (w := w) (n := n) (r := r) (dr := dr) (pm_swS (z := z) (b := 2) (kA := kA)) ((pm_sw_n (by omega)).trans pm_up_s) ((pm_sw_n (by omega)).trans ((pm_up_n (by omega)).trans hO1)) hn (by first | assumption | omega) (by first | assumption | exact hsd) (by first | assumption | omega) (by first | assumption | omega) (by first | assumption | omega)) mt_X7_auditMembers sv_X7_89 dX7_carryOut_92 rfl rfl rfl rfl rfl ?_
  refine pm_mem (M' := pm_sw z kA 2 (pm_up M 16 (.inl (kA 0, 7, .inl ((d_X7_auditMembers w n r dr).2.2)))) ((d_X7_auditMembers w n r dr).2.1)) (by rw [pm_sw_c (a := 16) (by omega), pm_sw_sw, pm_up_up (a := 16)] <;> rfl) ?_
  refine pm_stk (st' := [.int ((d_X7_auditMembers w n r dr).1)]) rfl ?_
  have hDq1 : (d_X7_do4 w y n r dr) = (((d_X7_auditMembers w n r dr).1), ((d_X7_auditMembers w n r dr).2.1), ((d_X7_auditMembers w n r dr).2.2)) := by rw [d_X7_do4]
  exact pm_ireturn B dX7_carryOut_95 rfl (by first | rfl | (apply pm_nz; first | assumption | decide | exact pm_in01 _ _ _ | simp)) ⟨(by rw [hDq1]), rfl, by rw [hDq1]⟩ rfl rfl
def d_X7_do5 (x : Int32) (y : Int32) (n : Nat) (r : Nat → Int32) : (Int32 × (Nat → Int32)) := (((d_X7_closeMonth n r).1), ((d_X7_closeMonth n r).2))
set_option maxRecDepth 100000 in
set_option maxHeartbeats 8000000 in
theorem c_X7_carryOut5 {l : Launch} {z : Nat} {D : va_G} {kA : Nat → ClassId} {kE : Nat → Nat} {nx : Nat} {M : pm_M} {x : Int32} {y : Int32} {n : Nat} {r : Nat → Int32} (hS : pm_SA z kA 2 M r) (hO1 : M 1 = some (.inr (5, [.ref (z + 2), .ref (z + 13), .ref (z + 16)]))) (hn : r 0 = nI n) (h7 : n ≤ 7) : pm_C l z D kA kE yX7_carryOut cX7_carryOut 4 (some .int) 5 0 0 [.ref (z + 1), .ref (kE 5), .int x, .int y] nx M (pm_rt (some (.int ((d_X7_do5 x y n r).1))) nx (pm_sw z kA 2 M ((d_X7_do5 x y n r).2))) := by
  refine pm_mk (own := RX7) (nm := "carryOut") mt_X7_carryOut rfl rfl rfl rfl fun X B => ?_
  refine pm_loc (L' := [some (.ref (z + 1)), some (.ref (kE 5)), some (.int x), some (.int y)]) rfl ?_
  refine pm_mem (M' := pm_sw z kA 2 M r) (by rw [pm_sw_id hS]) ?_
  refine pm_gets (v := .ref (kE 61)) B (fun U H h => h.2.2.2.1.1) (pm_T_in 396 (by decide +kernel) (by decide +kernel)) dX7_carryOut_0 ?_
  refine pm_aload_n B dX7_carryOut_3 rfl ?_
  refine pm_cUL (As := []) (mc2 := 0) (ms2 := 0) (ov := some (.int (nI 5))) B (fun U H h => (h.1 5 (by decide)).2.1) (c_ordinal (i := 5) (by decide)) mt_ordinal su_X7_34 dX7_carryOut_4 rfl rfl rfl rfl rfl ?_
  refine pm_stk (st' := [.int (nI 5), .ref (kE 61)]) rfl ?_
  refine pm_tiL (v := .int 0) B (fun U H h => h.2.2.2.1.2) 5 (by decide) (by decide) rfl dX7_carryOut_7 ?_
  refine pm_tableOut (tgt := 121) B dX7_carryOut_8 (by decide) (by decide) ?_
  refine pm_aload_n B dX7_carryOut_121 rfl ?_
  refine pm_cV (As := []) (mc2 := 0) (ms2 := 0) B rfl ((pm_sw_n (by omega)).trans hO1) rfl (c_X7_closeMonth (n := n) (r := r) (pm_swS (z := z) (b := 2) (kA := kA)) ((pm_sw_n (by omega)).trans hO1) hn (by first | assumption | omega)) mt_X7_closeMonth sv_X7_104 dX7_carryOut_122 rfl rfl rfl rfl rfl ?_
  refine pm_mem (M' := pm_sw z kA 2 M ((d_X7_closeMonth n r).2)) (by rw [pm_sw_sw] <;> rfl) ?_
  refine pm_stk (st' := [.int ((d_X7_closeMonth n r).1)]) rfl ?_
  have hDq1 : (d_X7_do5 x y n r) = (((d_X7_closeMonth n r).1), ((d_X7_closeMonth n r).2)) := by rw [d_X7_do5]
  exact pm_ireturn B dX7_carryOut_125 rfl (by first | rfl | (apply pm_nz; first | assumption | decide | exact pm_in01 _ _ _ | simp)) ⟨(by rw [hDq1]), rfl, by rw [hDq1]⟩ rfl rfl
def d_X7_do6 (i : Nat) (k : Nat) (n : Nat) (r : Nat → Int32) : (Int32 × (Nat → Int32)) := (((d_X7_flipLink i k n r).1), ((d_X7_flipLink i k n r).2))
set_option maxRecDepth 100000 in
set_option maxHeartbeats 8000000 in
theorem c_X7_carryOut6 {l : Launch} {z : Nat} {D : va_G} {kA : Nat → ClassId} {kE : Nat → Nat} {nx : Nat} {M : pm_M} {i : Nat} {k : Nat} {n : Nat} {r : Nat → Int32} (hS : pm_SA z kA 2 M r) (hO1 : M 1 = some (.inr (5, [.ref (z + 2), .ref (z + 13), .ref (z + 16)]))) (hn : r 0 = nI n) (h7 : n ≤ 7) (hi : i < n) (hk : k < n) : pm_C l z D kA kE yX7_carryOut cX7_carryOut 4 (some .int) 5 0 0 [.ref (z + 1), .ref (kE 6), .int (nI i), .int (nI k)] nx M (pm_rt (some (.int ((d_X7_do6 i k n r).1))) nx (pm_sw z kA 2 M ((d_X7_do6 i k n r).2))) := by
  refine pm_mk (own := RX7) (nm := "carryOut") mt_X7_carryOut rfl rfl rfl rfl fun X B => ?_
  refine pm_loc (L' := [some (.ref (z + 1)), some (.ref (kE 6)), some (.int (nI i)), some (.int (nI k))]) rfl ?_
  refine pm_mem (M' := pm_sw z kA 2 M r) (by rw [pm_sw_id hS]) ?_
  refine pm_gets (v := .ref (kE 61)) B (fun U H h => h.2.2.2.1.1) (pm_T_in 396 (by decide +kernel) (by decide +kernel)) dX7_carryOut_0 ?_
  refine pm_aload_n B dX7_carryOut_3 rfl ?_
  refine pm_cUL (As := []) (mc2 := 0) (ms2 := 0) (ov := some (.int (nI 6))) B (fun U H h => (h.1 6 (by decide)).2.1) (c_ordinal (i := 6) (by decide)) mt_ordinal su_X7_34 dX7_carryOut_4 rfl rfl rfl rfl rfl ?_
  refine pm_stk (st' := [.int (nI 6), .ref (kE 61)]) rfl ?_
  refine pm_tiL (v := .int 6) B (fun U H h => h.2.2.2.1.2) 6 (by decide) (by decide) rfl dX7_carryOut_7 ?_
  refine pm_tableIn (off := 88) (tgt := 96) B dX7_carryOut_8 (by decide) (by decide) (by decide) (by decide) ?_
  refine pm_aload_n B dX7_carryOut_96 rfl ?_
  refine pm_iload_n B dX7_carryOut_97 rfl ?_
  refine pm_iload_n B dX7_carryOut_98 rfl ?_
  refine pm_cV (As := [.int (nI i), .int (nI k)]) (mc2 := 0) (ms2 := 0) B rfl ((pm_sw_n (by omega)).trans hO1) rfl (c_X7_flipLink (i := i) (k := k) (n := n) (r := r) (pm_swS (z := z) (b := 2) (kA := kA)) ((pm_sw_n (by omega)).trans hO1) hn (by first | assumption | omega) (by first | assumption | omega) (by first | assumption | omega)) mt_X7_flipLink sv_X7_92 dX7_carryOut_99 rfl rfl rfl rfl rfl ?_
  refine pm_mem (M' := pm_sw z kA 2 M ((d_X7_flipLink i k n r).2)) (by rw [pm_sw_sw] <;> rfl) ?_
  refine pm_stk (st' := [.int ((d_X7_flipLink i k n r).1)]) rfl ?_
  have hDq1 : (d_X7_do6 i k n r) = (((d_X7_flipLink i k n r).1), ((d_X7_flipLink i k n r).2)) := by rw [d_X7_do6]
  exact pm_ireturn B dX7_carryOut_102 rfl (by first | rfl | (apply pm_nz; first | assumption | decide | exact pm_in01 _ _ _ | simp)) ⟨(by rw [hDq1]), rfl, by rw [hDq1]⟩ rfl rfl
def d_X7_do7 (i : Nat) (k : Nat) (n : Nat) (r : Nat → Int32) : (Int32 × (Nat → Int32)) := (((d_X7_flipLink i k n r).1), ((d_X7_flipLink i k n r).2))
set_option maxRecDepth 100000 in
set_option maxHeartbeats 8000000 in
theorem c_X7_carryOut7 {l : Launch} {z : Nat} {D : va_G} {kA : Nat → ClassId} {kE : Nat → Nat} {nx : Nat} {M : pm_M} {i : Nat} {k : Nat} {n : Nat} {r : Nat → Int32} (hS : pm_SA z kA 2 M r) (hO1 : M 1 = some (.inr (5, [.ref (z + 2), .ref (z + 13), .ref (z + 16)]))) (hn : r 0 = nI n) (h7 : n ≤ 7) (hi : i < n) (hk : k < n) : pm_C l z D kA kE yX7_carryOut cX7_carryOut 4 (some .int) 5 0 0 [.ref (z + 1), .ref (kE 7), .int (nI i), .int (nI k)] nx M (pm_rt (some (.int ((d_X7_do7 i k n r).1))) nx (pm_sw z kA 2 M ((d_X7_do7 i k n r).2))) := by
  refine pm_mk (own := RX7) (nm := "carryOut") mt_X7_carryOut rfl rfl rfl rfl fun X B => ?_
  refine pm_loc (L' := [some (.ref (z + 1)), some (.ref (kE 7)), some (.int (nI i)), some (.int (nI k))]) rfl ?_
  refine pm_mem (M' := pm_sw z kA 2 M r) (by rw [pm_sw_id hS]) ?_
  refine pm_gets (v := .ref (kE 61)) B (fun U H h => h.2.2.2.1.1) (pm_T_in 396 (by decide +kernel) (by decide +kernel)) dX7_carryOut_0 ?_
  refine pm_aload_n B dX7_carryOut_3 rfl ?_
  refine pm_cUL (As := []) (mc2 := 0) (ms2 := 0) (ov := some (.int (nI 7))) B (fun U H h => (h.1 7 (by decide)).2.1) (c_ordinal (i := 7) (by decide)) mt_ordinal su_X7_34 dX7_carryOut_4 rfl rfl rfl rfl rfl ?_
  refine pm_stk (st' := [.int (nI 7), .ref (kE 61)]) rfl ?_
  refine pm_tiL (v := .int 7) B (fun U H h => h.2.2.2.1.2) 7 (by decide) (by decide) rfl dX7_carryOut_7 ?_
  refine pm_tableIn (off := 88) (tgt := 96) B dX7_carryOut_8 (by decide) (by decide) (by decide) (by decide) ?_
  refine pm_aload_n B dX7_carryOut_96 rfl ?_
  refine pm_iload_n B dX7_carryOut_97 rfl ?_
  refine pm_iload_n B dX7_carryOut_98 rfl ?_
  refine pm_cV (As := [.int (nI i), .int (nI k)]) (mc2 := 0) (ms2 := 0) B rfl ((pm_sw_n (by omega)).trans hO1) rfl (c_X7_flipLink (i := i) (k := k) (n := n) (r := r) (pm_swS (z := z) (b := 2) (kA := kA)) ((pm_sw_n (by omega)).trans hO1) hn (by first | assumption | omega) (by first | assumption | omega) (by first | assumption | omega)) mt_X7_flipLink sv_X7_92 dX7_carryOut_99 rfl rfl rfl rfl rfl ?_
  refine pm_mem (M' := pm_sw z kA 2 M ((d_X7_flipLink i k n r).2)) (by rw [pm_sw_sw] <;> rfl) ?_
  refine pm_stk (st' := [.int ((d_X7_flipLink i k n r).1)]) rfl ?_
  have hDq1 : (d_X7_do7 i k n r) = (((d_X7_flipLink i k n r).1), ((d_X7_flipLink i k n r).2)) := by rw [d_X7_do7]
  exact pm_ireturn B dX7_carryOut_102 rfl (by first | rfl | (apply pm_nz; first | assumption | decide | exact pm_in01 _ _ _ | simp)) ⟨(by rw [hDq1]), rfl, by rw [hDq1]⟩ rfl rfl
def d_X7_do8 (i : Nat) (y : Int32) (n : Nat) (r : Nat → Int32) : (Int32 × (Nat → Int32)) := (((d_X7_forgive i n r).1), ((d_X7_forgive i n r).2))
set_option maxRecDepth 100000 in
set_option maxHeartbeats 8000000 in
theorem c_X7_carryOut8 {l : Launch} {z : Nat} {D : va_G} {kA : Nat → ClassId} {kE : Nat → Nat} {nx : Nat} {M : pm_M} {i : Nat} {y : Int32} {n : Nat} {r : Nat → Int32} (hS : pm_SA z kA 2 M r) (hO1 : M 1 = some (.inr (5, [.ref (z + 2), .ref (z + 13), .ref (z + 16)]))) (hn : r 0 = nI n) (h7 : n ≤ 7) (hi : i < n) : pm_C l z D kA kE yX7_carryOut cX7_carryOut 4 (some .int) 5 0 0 [.ref (z + 1), .ref (kE 8), .int (nI i), .int y] nx M (pm_rt (some (.int ((d_X7_do8 i y n r).1))) nx (pm_sw z kA 2 M ((d_X7_do8 i y n r).2))) := by
  refine pm_mk (own := RX7) (nm := "carryOut") mt_X7_carryOut rfl rfl rfl rfl fun X B => ?_
  refine pm_loc (L' := [some (.ref (z + 1)), some (.ref (kE 8)), some (.int (nI i)), some (.int y)]) rfl ?_
  refine pm_mem (M' := pm_sw z kA 2 M r) (by rw [pm_sw_id hS]) ?_
  refine pm_gets (v := .ref (kE 61)) B (fun U H h => h.2.2.2.1.1) (pm_T_in 396 (by decide +kernel) (by decide +kernel)) dX7_carryOut_0 ?_
  refine pm_aload_n B dX7_carryOut_3 rfl ?_
  refine pm_cUL (As := []) (mc2 := 0) (ms2 := 0) (ov := some (.int (nI 8))) B (fun U H h => (h.1 8 (by decide)).2.1) (c_ordinal (i := 8) (by decide)) mt_ordinal su_X7_34 dX7_carryOut_4 rfl rfl rfl rfl rfl ?_
  refine pm_stk (st' := [.int (nI 8), .ref (kE 61)]) rfl ?_
  refine pm_tiL (v := .int 8) B (fun U H h => h.2.2.2.1.2) 8 (by decide) (by decide) rfl dX7_carryOut_7 ?_
  refine pm_tableIn (off := 95) (tgt := 103) B dX7_carryOut_8 (by decide) (by decide) (by decide) (by decide) ?_
  refine pm_aload_n B dX7_carryOut_103 rfl ?_
  refine pm_iload_n B dX7_carryOut_104 rfl ?_
  refine pm_cV (As := [.int (nI i)]) (mc2 := 0) (ms2 := 0) B rfl ((pm_sw_n (by omega)).trans hO1) rfl (c_X7_forgive (i := i) (n := n) (r := r) (pm_swS (z := z) (b := 2) (kA := kA)) ((pm_sw_n (by omega)).trans hO1) hn (by first | assumption | omega) (by first | assumption | omega)) mt_X7_forgive sv_X7_95 dX7_carryOut_105 rfl rfl rfl rfl rfl ?_
  refine pm_mem (M' := pm_sw z kA 2 M ((d_X7_forgive i n r).2)) (by rw [pm_sw_sw] <;> rfl) ?_
  refine pm_stk (st' := [.int ((d_X7_forgive i n r).1)]) rfl ?_
  have hDq1 : (d_X7_do8 i y n r) = (((d_X7_forgive i n r).1), ((d_X7_forgive i n r).2)) := by rw [d_X7_do8]
  exact pm_ireturn B dX7_carryOut_108 rfl (by first | rfl | (apply pm_nz; first | assumption | decide | exact pm_in01 _ _ _ | simp)) ⟨(by rw [hDq1]), rfl, by rw [hDq1]⟩ rfl rfl
def d_X7_do9 (x : Int32) (y : Int32) (n : Nat) (r : Nat → Int32) : (Int32 × (Nat → Int32)) := (((d_X7_changeThreshold x r).1), ((d_X7_changeThreshold x r).2))
set_option maxRecDepth 100000 in
set_option maxHeartbeats 8000000 in
theorem c_X7_carryOut9 {l : Launch} {z : Nat} {D : va_G} {kA : Nat → ClassId} {kE : Nat → Nat} {nx : Nat} {M : pm_M} {x : Int32} {y : Int32} {n : Nat} {r : Nat → Int32} (hS : pm_SA z kA 2 M r) (hO1 : M 1 = some (.inr (5, [.ref (z + 2), .ref (z + 13), .ref (z + 16)]))) (hn : r 0 = nI n) (h7 : n ≤ 7) : pm_C l z D kA kE yX7_carryOut cX7_carryOut 4 (some .int) 5 0 0 [.ref (z + 1), .ref (kE 9), .int x, .int y] nx M (pm_rt (some (.int ((d_X7_do9 x y n r).1))) nx (pm_sw z kA 2 M ((d_X7_do9 x y n r).2))) := by
  refine pm_mk (own := RX7) (nm := "carryOut") mt_X7_carryOut rfl rfl rfl rfl fun X B => ?_
  refine pm_loc (L' := [some (.ref (z + 1)), some (.ref (kE 9)), some (.int x), some (.int y)]) rfl ?_
  refine pm_mem (M' := pm_sw z kA 2 M r) (by rw [pm_sw_id hS]) ?_
  refine pm_gets (v := .ref (kE 61)) B (fun U H h => h.2.2.2.1.1) (pm_T_in 396 (by decide +kernel) (by decide +kernel)) dX7_carryOut_0 ?_
  refine pm_aload_n B dX7_carryOut_3 rfl ?_
  refine pm_cUL (As := []) (mc2 := 0) (ms2 := 0) (ov := some (.int (nI 9))) B (fun U H h => (h.1 9 (by decide)).2.1) (c_ordinal (i := 9) (by decide)) mt_ordinal su_X7_34 dX7_carryOut_4 rfl rfl rfl rfl rfl ?_
  refine pm_stk (st' := [.int (nI 9), .ref (kE 61)]) rfl ?_
  refine pm_tiL (v := .int 9) B (fun U H h => h.2.2.2.1.2) 9 (by decide) (by decide) rfl dX7_carryOut_7 ?_
  refine pm_tableIn (off := 101) (tgt := 109) B dX7_carryOut_8 (by decide) (by decide) (by decide) (by decide) ?_
  refine pm_aload_n B dX7_carryOut_109 rfl ?_
  refine pm_iload_n B dX7_carryOut_110 rfl ?_
  refine pm_cV (As := [.int x]) (mc2 := 0) (ms2 := 0) B rfl ((pm_sw_n (by omega)).trans hO1) rfl (c_X7_changeThreshold (x := x) (r := r) (pm_swS (z := z) (b := 2) (kA := kA)) ((pm_sw_n (by omega)).trans hO1) ) mt_X7_changeThreshold sv_X7_98 dX7_carryOut_111 rfl rfl rfl rfl rfl ?_
  refine pm_mem (M' := pm_sw z kA 2 M ((d_X7_changeThreshold x r).2)) (by rw [pm_sw_sw] <;> rfl) ?_
  refine pm_stk (st' := [.int ((d_X7_changeThreshold x r).1)]) rfl ?_
  have hDq1 : (d_X7_do9 x y n r) = (((d_X7_changeThreshold x r).1), ((d_X7_changeThreshold x r).2)) := by rw [d_X7_do9]
  exact pm_ireturn B dX7_carryOut_114 rfl (by first | rfl | (apply pm_nz; first | assumption | decide | exact pm_in01 _ _ _ | simp)) ⟨(by rw [hDq1]), rfl, by rw [hDq1]⟩ rfl rfl
def d_X7_do10 (x : Int32) (y : Int32) (n : Nat) (r : Nat → Int32) : (Int32 × (Nat → Int32)) := (((d_X7_changeSeed x r).1), ((d_X7_changeSeed x r).2))
set_option maxRecDepth 100000 in
set_option maxHeartbeats 8000000 in
theorem c_X7_carryOut10 {l : Launch} {z : Nat} {D : va_G} {kA : Nat → ClassId} {kE : Nat → Nat} {nx : Nat} {M : pm_M} {x : Int32} {y : Int32} {n : Nat} {r : Nat → Int32} (hS : pm_SA z kA 2 M r) (hO1 : M 1 = some (.inr (5, [.ref (z + 2), .ref (z + 13), .ref (z + 16)]))) (hn : r 0 = nI n) (h7 : n ≤ 7) : pm_C l z D kA kE yX7_carryOut cX7_carryOut 4 (some .int) 5 0 0 [.ref (z + 1), .ref (kE 10), .int x, .int y] nx M (pm_rt (some (.int ((d_X7_do10 x y n r).1))) nx (pm_sw z kA 2 M ((d_X7_do10 x y n r).2))) := by
  refine pm_mk (own := RX7) (nm := "carryOut") mt_X7_carryOut rfl rfl rfl rfl fun X B => ?_
  refine pm_loc (L' := [some (.ref (z + 1)), some (.ref (kE 10)), some (.int x), some (.int y)]) rfl ?_
  refine pm_mem (M' := pm_sw z kA 2 M r) (by rw [pm_sw_id hS]) ?_
  refine pm_gets (v := .ref (kE 61)) B (fun U H h => h.2.2.2.1.1) (pm_T_in 396 (by decide +kernel) (by decide +kernel)) dX7_carryOut_0 ?_
  refine pm_aload_n B dX7_carryOut_3 rfl ?_
  refine pm_cUL (As := []) (mc2 := 0) (ms2 := 0) (ov := some (.int (nI 10))) B (fun U H h => (h.1 10 (by decide)).2.1) (c_ordinal (i := 10) (by decide)) mt_ordinal su_X7_34 dX7_carryOut_4 rfl rfl rfl rfl rfl ?_
  refine pm_stk (st' := [.int (nI 10), .ref (kE 61)]) rfl ?_
  refine pm_tiL (v := .int 10) B (fun U H h => h.2.2.2.1.2) 10 (by decide) (by decide) rfl dX7_carryOut_7 ?_
  refine pm_tableIn (off := 107) (tgt := 115) B dX7_carryOut_8 (by decide) (by decide) (by decide) (by decide) ?_
  refine pm_aload_n B dX7_carryOut_115 rfl ?_
  refine pm_iload_n B dX7_carryOut_116 rfl ?_
  refine pm_cV (As := [.int x]) (mc2 := 0) (ms2 := 0) B rfl ((pm_sw_n (by omega)).trans hO1) rfl (c_X7_changeSeed (x := x) (r := r) (pm_swS (z := z) (b := 2) (kA := kA)) ((pm_sw_n (by omega)).trans hO1) ) mt_X7_changeSeed sv_X7_101 dX7_carryOut_117 rfl rfl rfl rfl rfl ?_
  refine pm_mem (M' := pm_sw z kA 2 M ((d_X7_changeSeed x r).2)) (by rw [pm_sw_sw] <;> rfl) ?_
  refine pm_stk (st' := [.int ((d_X7_changeSeed x r).1)]) rfl ?_
  have hDq1 : (d_X7_do10 x y n r) = (((d_X7_changeSeed x r).1), ((d_X7_changeSeed x r).2)) := by rw [d_X7_do10]
  exact pm_ireturn B dX7_carryOut_120 rfl (by first | rfl | (apply pm_nz; first | assumption | decide | exact pm_in01 _ _ _ | simp)) ⟨(by rw [hDq1]), rfl, by rw [hDq1]⟩ rfl rfl
