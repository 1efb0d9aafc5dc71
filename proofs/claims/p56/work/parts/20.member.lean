/-! Member -/
abbrev pm_mb (c v q s w b : Int32) : va_E := .inr (4, [.int c, .int v, .int q, .int s, .int w, .int b])
set_option maxRecDepth 100000 in
set_option maxHeartbeats 4000000 in
theorem c_X6_isActive {l : Launch} {z : Nat} {D : va_G} {kA : Nat → ClassId} {kE : Nat → Nat} {nx : Nat} {M : pm_M} {a : Nat} {c v q s w b : Int32} (hM : M a = some (pm_mb c v q s w b)) : pm_C l z D kA kE yX6_isActive cX6_isActive 1 (some .boolean) 0 0 0 [.ref (z + a)] nx M (pm_rt (some (.int (if b = 0 then 1 else 0))) nx M) := by
  refine pm_mk (own := RX6) (nm := "isActive") mt_X6_isActive rfl rfl rfl rfl fun X B => ?_
  refine pm_loc (L' := [some (.ref (z + a))]) rfl ?_
  refine pm_aload_n B dX6_isActive_0 rfl ?_
  refine pm_get B dX6_isActive_1 fl_X6_25 hM rfl ?_
  refine pm_if_ne (tgt := 11) B dX6_isActive_4 (by decide) (fun hq1 => ?_) (fun hq1 => ?_)
  · refine pm_iconst (v := 0) B dX6_isActive_11 (by decide) ?_
    exact pm_ireturn B dX6_isActive_12 rfl (by first | rfl | (apply pm_nz; first | assumption | decide | exact pm_in01 _ _ _ | simp)) ⟨by simp [*], rfl, rfl⟩ rfl rfl
  · refine pm_iconst (v := 1) B dX6_isActive_7 (by decide) ?_
    refine pm_goto (tgt := 12) B dX6_isActive_8 (by decide) ?_
    exact pm_ireturn B dX6_isActive_12 rfl (by first | rfl | (apply pm_nz; first | assumption | decide | exact pm_in01 _ _ _ | simp)) ⟨by simp [*], rfl, rfl⟩ rfl rfl
set_option maxRecDepth 100000 in
set_option maxHeartbeats 4000000 in
theorem c_X6_isLoyal {l : Launch} {z : Nat} {D : va_G} {kA : Nat → ClassId} {kE : Nat → Nat} {nx : Nat} {M : pm_M} {a : Nat} {c v q s w b : Int32} (hM : M a = some (pm_mb c v q s w b)) : pm_C l z D kA kE yX6_isLoyal cX6_isLoyal 1 (some .boolean) 0 0 0 [.ref (z + a)] nx M (pm_rt (some (.int (if b = 0 ∧ w = 0 then 1 else 0))) nx M) := by
  refine pm_mk (own := RX6) (nm := "isLoyal") mt_X6_isLoyal rfl rfl rfl rfl fun X B => ?_
  refine pm_loc (L' := [some (.ref (z + a))]) rfl ?_
  refine pm_aload_n B dX6_isLoyal_0 rfl ?_
  refine pm_get B dX6_isLoyal_1 fl_X6_25 hM rfl ?_
  refine pm_if_ne (tgt := 18) B dX6_isLoyal_4 (by decide) (fun hq1 => ?_) (fun hq1 => ?_)
  · refine pm_iconst (v := 0) B dX6_isLoyal_18 (by decide) ?_
    exact pm_ireturn B dX6_isLoyal_19 rfl (by first | rfl | (apply pm_nz; first | assumption | decide | exact pm_in01 _ _ _ | simp)) ⟨by simp [*], rfl, rfl⟩ rfl rfl
  · refine pm_aload_n B dX6_isLoyal_7 rfl ?_
    refine pm_get B dX6_isLoyal_8 fl_X6_28 hM rfl ?_
    refine pm_if_ne (tgt := 18) B dX6_isLoyal_11 (by decide) (fun hq2 => ?_) (fun hq2 => ?_)
    · refine pm_iconst (v := 0) B dX6_isLoyal_18 (by decide) ?_
      exact pm_ireturn B dX6_isLoyal_19 rfl (by first | rfl | (apply pm_nz; first | assumption | decide | exact pm_in01 _ _ _ | simp)) ⟨by simp [*], rfl, rfl⟩ rfl rfl
    · refine pm_iconst (v := 1) B dX6_isLoyal_14 (by decide) ?_
      refine pm_goto (tgt := 19) B dX6_isLoyal_15 (by decide) ?_
      exact pm_ireturn B dX6_isLoyal_19 rfl (by first | rfl | (apply pm_nz; first | assumption | decide | exact pm_in01 _ _ _ | simp)) ⟨by simp [*], rfl, rfl⟩ rfl rfl
set_option maxRecDepth 100000 in
set_option maxHeartbeats 4000000 in
theorem c_X6_unitsAbove {l : Launch} {z : Nat} {D : va_G} {kA : Nat → ClassId} {kE : Nat → Nat} {nx : Nat} {M : pm_M} {a : Nat} {c v q s w b : Int32} (hM : M a = some (pm_mb c v q s w b)) : pm_C l z D kA kE yX6_unitsAbove cX6_unitsAbove 1 (some .int) 1 0 0 [.ref (z + a)] nx M (pm_rt (some (.int (pm_max 0 (s - q)))) nx M) := by
  refine pm_mk (own := RX6) (nm := "unitsAbove") mt_X6_unitsAbove rfl rfl rfl rfl fun X B => ?_
  refine pm_loc (L' := [some (.ref (z + a))]) rfl ?_
  refine pm_iconst (v := 0) B dX6_unitsAbove_0 (by decide) ?_
  refine pm_aload_n B dX6_unitsAbove_1 rfl ?_
  refine pm_get B dX6_unitsAbove_2 fl_X6_19 hM rfl ?_
  refine pm_aload_n B dX6_unitsAbove_5 rfl ?_
  refine pm_get B dX6_unitsAbove_6 fl_X6_16 hM rfl ?_
  refine pm_isub B dX6_unitsAbove_9 ?_
  refine pm_mmax B dX6_unitsAbove_10 (pm_T_in 668 (by decide +kernel) (by decide +kernel)) rfl rfl rfl rfl ?_
  exact pm_ireturn B dX6_unitsAbove_13 rfl (by first | rfl | (apply pm_nz; first | assumption | decide | exact pm_in01 _ _ _ | simp)) ⟨rfl, rfl, rfl⟩ rfl rfl
set_option maxRecDepth 100000 in
set_option maxHeartbeats 4000000 in
theorem c_X6_forgive {l : Launch} {z : Nat} {D : va_G} {kA : Nat → ClassId} {kE : Nat → Nat} {nx : Nat} {M : pm_M} {a : Nat} {c v q s w b : Int32} (hM : M a = some (pm_mb c v q s w b)) : pm_C l z D kA kE yX6_forgive cX6_forgive 1 none 0 0 0 [.ref (z + a)] nx M (pm_rt none nx (pm_up M a (pm_mb c v q s 0 0))) := by
  refine pm_mk (own := RX6) (nm := "forgive") mt_X6_forgive rfl rfl rfl rfl fun X B => ?_
  refine pm_loc (L' := [some (.ref (z + a))]) rfl ?_
  refine pm_aload_n B dX6_forgive_0 rfl ?_
  refine pm_iconst (v := 0) B dX6_forgive_1 (by decide) ?_
  refine pm_put B dX6_forgive_2 fs_X6_28 hM rfl rfl rfl ?_
  refine pm_mem (M' := pm_up M a (.inr (4, [.int c, .int v, .int q, .int s, .int 0, .int b]))) rfl ?_
  refine pm_aload_n B dX6_forgive_5 rfl ?_
  refine pm_iconst (v := 0) B dX6_forgive_6 (by decide) ?_
  refine pm_put B dX6_forgive_7 fs_X6_25 pm_up_s rfl rfl rfl ?_
  refine pm_mem (M' := pm_up M a (.inr (4, [.int c, .int v, .int q, .int s, .int 0, .int 0]))) pm_up_up ?_
  exact pm_return B dX6_forgive_10 rfl ⟨rfl, rfl, rfl⟩ rfl rfl
set_option maxRecDepth 100000 in
set_option maxHeartbeats 4000000 in
theorem c_X6_enter {l : Launch} {z : Nat} {D : va_G} {kA : Nat → ClassId} {kE : Nat → Nat} {nx : Nat} {M : pm_M} {a : Nat} {c v q s w b : Int32} (hM : M a = some (pm_mb c v q s w b)) {c2 v2 : Int32} : pm_C l z D kA kE yX6_enter cX6_enter 3 none 1 0 0 [.ref (z + a), .int c2, .int v2] nx M (pm_rt none nx (pm_up M a (pm_mb c2 v2 0 0 0 0))) := by
  refine pm_mk (own := RX6) (nm := "enter") mt_X6_enter rfl rfl rfl rfl fun X B => ?_
  refine pm_loc (L' := [some (.ref (z + a)), some (.int c2), some (.int v2)]) rfl ?_
  refine pm_aload_n B dX6_enter_0 rfl ?_
  refine pm_iload_n B dX6_enter_1 rfl ?_
  refine pm_put B dX6_enter_2 fs_X6_7 hM rfl rfl rfl ?_
  refine pm_mem (M' := pm_up M a (.inr (4, [.int c2, .int v, .int q, .int s, .int w, .int b]))) rfl ?_
  refine pm_aload_n B dX6_enter_5 rfl ?_
  refine pm_iload_n B dX6_enter_6 rfl ?_
  refine pm_put B dX6_enter_7 fs_X6_13 pm_up_s rfl rfl rfl ?_
  refine pm_mem (M' := pm_up M a (.inr (4, [.int c2, .int v2, .int q, .int s, .int w, .int b]))) pm_up_up ?_
  refine pm_aload_n B dX6_enter_10 rfl ?_
  refine pm_iconst (v := 0) B dX6_enter_11 (by decide) ?_
  refine pm_put B dX6_enter_12 fs_X6_16 pm_up_s rfl rfl rfl ?_
  refine pm_mem (M' := pm_up M a (.inr (4, [.int c2, .int v2, .int 0, .int s, .int w, .int b]))) pm_up_up ?_
  refine pm_aload_n B dX6_enter_15 rfl ?_
  refine pm_iconst (v := 0) B dX6_enter_16 (by decide) ?_
  refine pm_put B dX6_enter_17 fs_X6_19 pm_up_s rfl rfl rfl ?_
  refine pm_mem (M' := pm_up M a (.inr (4, [.int c2, .int v2, .int 0, .int 0, .int w, .int b]))) pm_up_up ?_
  refine pm_aload_n B dX6_enter_20 rfl ?_
  refine pm_cV (As := []) (mc2 := 0) (ms2 := 0) B rfl pm_up_s rfl (c_X6_forgive pm_up_s) mt_X6_forgive sv_X6_22 dX6_enter_21 rfl rfl rfl rfl rfl ?_
  refine pm_mem (M' := pm_up M a (.inr (4, [.int c2, .int v2, .int 0, .int 0, .int 0, .int 0]))) pm_up_up ?_
  refine pm_stk (st' := []) rfl ?_
  exact pm_return B dX6_enter_24 rfl ⟨rfl, rfl, rfl⟩ rfl rfl
set_option maxRecDepth 100000 in
set_option maxHeartbeats 4000000 in
theorem c_X6_warn {l : Launch} {z : Nat} {D : va_G} {kA : Nat → ClassId} {kE : Nat → Nat} {nx : Nat} {M : pm_M} {a : Nat} {c v q s w b : Int32} (hM : M a = some (pm_mb c v q s w b)) : pm_C l z D kA kE yX6_warn cX6_warn 1 none 0 0 0 [.ref (z + a)] nx M (pm_rt none nx (pm_up M a (if 2 ≤ w then pm_mb c v q s 0 2 else pm_mb c v q s (w + 1) b))) := by
  refine pm_mk (own := RX6) (nm := "warn") mt_X6_warn rfl rfl rfl rfl fun X B => ?_
  refine pm_loc (L' := [some (.ref (z + a))]) rfl ?_
  refine pm_aload_n B dX6_warn_0 rfl ?_
  refine pm_get B dX6_warn_1 fl_X6_28 hM rfl ?_
  refine pm_iconst (v := 2) B dX6_warn_4 (by decide) ?_
  refine pm_icmp_ge (tgt := 21) B dX6_warn_5 (by decide) (fun hq1 => ?_) (fun hq1 => ?_)
  · refine pm_aload_n B dX6_warn_21 rfl ?_
    refine pm_iconst (v := 0) B dX6_warn_22 (by decide) ?_
    refine pm_put B dX6_warn_23 fs_X6_28 hM rfl rfl rfl ?_
    refine pm_mem (M' := pm_up M a (.inr (4, [.int c, .int v, .int q, .int s, .int 0, .int b]))) rfl ?_
    refine pm_aload_n B dX6_warn_26 rfl ?_
    refine pm_iconst (v := 2) B dX6_warn_27 (by decide) ?_
    refine pm_put B dX6_warn_28 fs_X6_25 pm_up_s rfl rfl rfl ?_
    refine pm_mem (M' := pm_up M a (.inr (4, [.int c, .int v, .int q, .int s, .int 0, .int 2]))) pm_up_up ?_
    exact pm_return B dX6_warn_31 rfl ⟨rfl, rfl, by simp [*]⟩ rfl rfl
  · refine pm_aload_n B dX6_warn_8 rfl ?_
    refine pm_dup B dX6_warn_9 rfl ?_
    refine pm_get B dX6_warn_10 fl_X6_28 hM rfl ?_
    refine pm_iconst (v := 1) B dX6_warn_13 (by decide) ?_
    refine pm_iadd B dX6_warn_14 ?_
    refine pm_put B dX6_warn_15 fs_X6_28 hM rfl rfl rfl ?_
    refine pm_mem (M' := pm_up M a (.inr (4, [.int c, .int v, .int q, .int s, .int (w + 1), .int b]))) rfl ?_
    refine pm_goto (tgt := 31) B dX6_warn_18 (by decide) ?_
    exact pm_return B dX6_warn_31 rfl ⟨rfl, rfl, by simp [*]⟩ rfl rfl
set_option maxRecDepth 100000 in
set_option maxHeartbeats 4000000 in
theorem c_X6_improve {l : Launch} {z : Nat} {D : va_G} {kA : Nat → ClassId} {kE : Nat → Nat} {nx : Nat} {M : pm_M} {a : Nat} {c v q s w b : Int32} (hM : M a = some (pm_mb c v q s w b)) : pm_C l z D kA kE yX6_improve cX6_improve 1 none 0 0 0 [.ref (z + a)] nx M (pm_rt none nx (if w ≤ 0 then (if b ≤ 0 then M else pm_up M a (pm_mb c v q s w (b - 1))) else pm_up M a (pm_mb c v q s (w - 1) b))) := by
  refine pm_mk (own := RX6) (nm := "improve") mt_X6_improve rfl rfl rfl rfl fun X B => ?_
  refine pm_loc (L' := [some (.ref (z + a))]) rfl ?_
  refine pm_aload_n B dX6_improve_0 rfl ?_
  refine pm_get B dX6_improve_1 fl_X6_28 hM rfl ?_
  refine pm_if_le (tgt := 20) B dX6_improve_4 (by decide) (fun hq1 => ?_) (fun hq1 => ?_)
  · refine pm_aload_n B dX6_improve_20 rfl ?_
    refine pm_get B dX6_improve_21 fl_X6_25 hM rfl ?_
    refine pm_if_le (tgt := 37) B dX6_improve_24 (by decide) (fun hq2 => ?_) (fun hq2 => ?_)
    · exact pm_return B dX6_improve_37 rfl ⟨rfl, rfl, by simp [*]⟩ rfl rfl
    · refine pm_aload_n B dX6_improve_27 rfl ?_
      refine pm_dup B dX6_improve_28 rfl ?_
      refine pm_get B dX6_improve_29 fl_X6_25 hM rfl ?_
      refine pm_iconst (v := 1) B dX6_improve_32 (by decide) ?_
      refine pm_isub B dX6_improve_33 ?_
      refine pm_put B dX6_improve_34 fs_X6_25 hM rfl rfl rfl ?_
      refine pm_mem (M' := pm_up M a (.inr (4, [.int c, .int v, .int q, .int s, .int w, .int (b - 1)]))) rfl ?_
      exact pm_return B dX6_improve_37 rfl ⟨rfl, rfl, by simp [*]⟩ rfl rfl
  · refine pm_aload_n B dX6_improve_7 rfl ?_
    refine pm_dup B dX6_improve_8 rfl ?_
    refine pm_get B dX6_improve_9 fl_X6_28 hM rfl ?_
    refine pm_iconst (v := 1) B dX6_improve_12 (by decide) ?_
    refine pm_isub B dX6_improve_13 ?_
    refine pm_put B dX6_improve_14 fs_X6_28 hM rfl rfl rfl ?_
    refine pm_mem (M' := pm_up M a (.inr (4, [.int c, .int v, .int q, .int s, .int (w - 1), .int b]))) rfl ?_
    refine pm_goto (tgt := 37) B dX6_improve_17 (by decide) ?_
    exact pm_return B dX6_improve_37 rfl ⟨rfl, rfl, by simp [*]⟩ rfl rfl
set_option maxRecDepth 100000 in
set_option maxHeartbeats 4000000 in
theorem c_X6_copyFrom {l : Launch} {z : Nat} {D : va_G} {kA : Nat → ClassId} {kE : Nat → Nat} {nx : Nat} {M : pm_M} {a : Nat} {c v q s w b : Int32} (hM : M a = some (pm_mb c v q s w b)) {a2 : Nat} {c2 v2 q2 s2 w2 b2 : Int32} (hM2 : M a2 = some (pm_mb c2 v2 q2 s2 w2 b2)) (hne : a2 ≠ a) : pm_C l z D kA kE yX6_copyFrom cX6_copyFrom 2 none 0 0 0 [.ref (z + a), .ref (z + a2)] nx M (pm_rt none nx (pm_up M a (pm_mb c2 v2 q2 s2 w2 b2))) := by
  refine pm_mk (own := RX6) (nm := "copyFrom") mt_X6_copyFrom rfl rfl rfl rfl fun X B => ?_
  refine pm_loc (L' := [some (.ref (z + a)), some (.ref (z + a2))]) rfl ?_
  refine pm_aload_n B dX6_copyFrom_0 rfl ?_
  refine pm_aload_n B dX6_copyFrom_1 rfl ?_
  refine pm_get B dX6_copyFrom_2 fl_X6_7 hM2 rfl ?_
  refine pm_put B dX6_copyFrom_5 fs_X6_7 hM rfl rfl rfl ?_
  refine pm_mem (M' := pm_up M a (.inr (4, [.int c2, .int v, .int q, .int s, .int w, .int b]))) rfl ?_
  refine pm_aload_n B dX6_copyFrom_8 rfl ?_
  refine pm_aload_n B dX6_copyFrom_9 rfl ?_
  refine pm_get B dX6_copyFrom_10 fl_X6_13 ((pm_up_n hne).trans hM2) rfl ?_
  refine pm_put B dX6_copyFrom_13 fs_X6_13 pm_up_s rfl rfl rfl ?_
  refine pm_mem (M' := pm_up M a (.inr (4, [.int c2, .int v2, .int q, .int s, .int w, .int b]))) pm_up_up ?_
  refine pm_aload_n B dX6_copyFrom_16 rfl ?_
  refine pm_aload_n B dX6_copyFrom_17 rfl ?_
  refine pm_get B dX6_copyFrom_18 fl_X6_16 ((pm_up_n hne).trans hM2) rfl ?_
  refine pm_put B dX6_copyFrom_21 fs_X6_16 pm_up_s rfl rfl rfl ?_
  refine pm_mem (M' := pm_up M a (.inr (4, [.int c2, .int v2, .int q2, .int s, .int w, .int b]))) pm_up_up ?_
  refine pm_aload_n B dX6_copyFrom_24 rfl ?_
  refine pm_aload_n B dX6_copyFrom_25 rfl ?_
  refine pm_get B dX6_copyFrom_26 fl_X6_19 ((pm_up_n hne).trans hM2) rfl ?_
  refine pm_put B dX6_copyFrom_29 fs_X6_19 pm_up_s rfl rfl rfl ?_
  refine pm_mem (M' := pm_up M a (.inr (4, [.int c2, .int v2, .int q2, .int s2, .int w, .int b]))) pm_up_up ?_
  refine pm_aload_n B dX6_copyFrom_32 rfl ?_
  refine pm_aload_n B dX6_copyFrom_33 rfl ?_
  refine pm_get B dX6_copyFrom_34 fl_X6_28 ((pm_up_n hne).trans hM2) rfl ?_
  refine pm_put B dX6_copyFrom_37 fs_X6_28 pm_up_s rfl rfl rfl ?_
  refine pm_mem (M' := pm_up M a (.inr (4, [.int c2, .int v2, .int q2, .int s2, .int w2, .int b]))) pm_up_up ?_
  refine pm_aload_n B dX6_copyFrom_40 rfl ?_
  refine pm_aload_n B dX6_copyFrom_41 rfl ?_
  refine pm_get B dX6_copyFrom_42 fl_X6_25 ((pm_up_n hne).trans hM2) rfl ?_
  refine pm_put B dX6_copyFrom_45 fs_X6_25 pm_up_s rfl rfl rfl ?_
  refine pm_mem (M' := pm_up M a (.inr (4, [.int c2, .int v2, .int q2, .int s2, .int w2, .int b2]))) pm_up_up ?_
  exact pm_return B dX6_copyFrom_48 rfl ⟨rfl, rfl, rfl⟩ rfl rfl
