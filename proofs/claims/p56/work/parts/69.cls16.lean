/-! the face: a script -/
abbrev pm_scr (z : Nat) (sc : Nat → Int32) : va_E := .inr (7, [.ref (z + 134), .ref (z + 135), .ref (z + 136), .ref (z + 137), .int (sc 4), .int (sc 5), .int (sc 6)])
abbrev pm_co (kA : Nat → ClassId) (kE : Nat → Nat) (cc : Nat → Int32) : va_E := .inl (kA 7, 11, .inr (.inr (.inr (.inr (pm_cf kE cc)))))
/-- the memory when the script is parsed and empty -/
abbrev pm_E2 (z : Nat) (kA : Nat → ClassId) (kE : Nat → Nat) (M : pm_M) (t : Nat) (tx fs sd sc cc : Nat → Int32) : pm_M := pm_up (pm_up (pm_up (pm_up (pm_up M 136 (.inl (kA 0, 11, .inl ((d_X9_parse t tx fs sd sc cc).2.1)))) 137 (.inl (kA 0, 11, .inl ((d_X9_parse t tx fs sd sc cc).2.2.1)))) 133 (pm_scr z (d_X9_parse t tx fs sd sc cc).2.2.2.1)) 135 (pm_co kA kE (d_X9_parse t tx fs sd sc cc).2.2.2.2)) 133 (pm_scr z (d_X9_empty (d_X9_parse t tx fs sd sc cc).2.2.2.1))
section PE2
variable {z : Nat} {kA : Nat → ClassId} {kE : Nat → Nat} {M : pm_M} {t x : Nat} {tx fs sd sc cc : Nat → Int32}
theorem pm_E2_n (h : x < 133) : pm_E2 z kA kE M t tx fs sd sc cc x = M x := (pm_up_n (by omega)).trans ((pm_up_n (by omega)).trans ((pm_up_n (by omega)).trans ((pm_up_n (by omega)).trans (pm_up_n (by omega)))))
theorem pm_E2_S {b : Nat} {r : Nat → Int32} (h : b + 11 ≤ 133) (hS : pm_SA z kA b M r) : pm_SA z kA b (pm_E2 z kA kE M t tx fs sd sc cc) r := pm_SA_up (by omega) (pm_SA_up (by omega) (pm_SA_up (by omega) (pm_SA_up (by omega) (pm_SA_up (by omega) hS))))
theorem pm_E2_133 : pm_E2 z kA kE M t tx fs sd sc cc 133 = some (pm_scr z (d_X9_empty (d_X9_parse t tx fs sd sc cc).2.2.2.1)) := pm_up_s
theorem pm_E2_135 : pm_E2 z kA kE M t tx fs sd sc cc 135 = some (pm_co kA kE (d_X9_parse t tx fs sd sc cc).2.2.2.2) := (pm_up_n (by decide)).trans pm_up_s
theorem pm_E2_136 : pm_E2 z kA kE M t tx fs sd sc cc 136 = some (.inl (kA 0, 11, .inl ((d_X9_parse t tx fs sd sc cc).2.1))) := (pm_up_n (by decide)).trans ((pm_up_n (by decide)).trans ((pm_up_n (by decide)).trans ((pm_up_n (by decide)).trans pm_up_s)))
theorem pm_E2_137 : pm_E2 z kA kE M t tx fs sd sc cc 137 = some (.inl (kA 0, 11, .inl ((d_X9_parse t tx fs sd sc cc).2.2.1))) := (pm_up_n (by decide)).trans ((pm_up_n (by decide)).trans ((pm_up_n (by decide)).trans pm_up_s))
theorem pm_SA_eq {M2 : pm_M} {b : Nat} {r : Nat → Int32} (hS : pm_SA z kA b M r) (h : ∀ x, b ≤ x → x < b + 11 → M2 x = M x) : pm_SA z kA b M2 r := ⟨(h _ (by omega) (by omega)).trans hS.1, (h _ (by omega) (by omega)).trans hS.2.1, fun i hi => (h _ (by omega) (by omega)).trans (hS.2.2.1 i hi), (h _ (by omega) (by omega)).trans hS.2.2.2.1, (h _ (by omega) (by omega)).trans hS.2.2.2.2⟩
theorem pm_HA_n {M2 : pm_M} {rh : Nat → Nat → Int32} (h : ∀ x, 40 ≤ x → x < 129 → M2 x = M x) (hH : pm_HA z kA M rh) : pm_HA z kA M2 rh := ⟨(h 40 (by decide) (by decide)).trans hH.1, fun i hi => pm_SA_eq (hH.2 i hi) (fun x h1 h2 => h x (by omega) (by omega))⟩
end PE2
set_option maxRecDepth 100000 in
set_option maxHeartbeats 4000000 in
theorem c_X12_execute_f {l : Launch} {z : Nat} {D : va_G} {kA : Nat → ClassId} {kE : Nat → Nat} {nx : Nat} {M : pm_M} {t : Nat} {tx fs sd sc cc to : Nat → Int32} {ldv : Value} (hto : M 0 = some (pm_to z to ldv)) (htx : M 134 = some (.inl (kA 3, 60, .inl tx))) (hfs : M 136 = some (.inl (kA 0, 11, .inl fs))) (hsdd : M 137 = some (.inl (kA 0, 11, .inl sd))) (hsc : M 133 = some (pm_scr z sc)) (hcc : M 135 = some (pm_co kA kE cc)) (hl4 : sc 4 = nI t) (ht : t ≤ 60) (h0 : (d_X9_parse t tx fs sd sc cc).1 = 0) : pm_C l z D kA kE yX12_execute cX12_execute 3 (some .int) 20 25 78 [.ref (z + 0)] nx M (pm_fp 2 none nx (pm_up (pm_E2 z kA kE M t tx fs sd sc cc) 0 (pm_to z (upd (upd to 10 1) 11 ((d_X9_empty (d_X9_parse t tx fs sd sc cc).2.2.2.1) 6)) ldv))) := by
  refine pm_mk (own := RX12) (nm := "execute") mt_X12_execute rfl rfl rfl rfl fun X B => ?_
  refine pm_loc (L' := [some (.ref (z + 0)), none, none]) rfl ?_
  refine pm_aload_n B dX12_execute_0 rfl ?_
  refine pm_get B dX12_execute_1 fl_X12_54 hto rfl ?_
  refine pm_cV (As := []) (mc2 := 0) (ms2 := 0) B rfl hsc rfl (c_X9_parse htx hfs hsdd hsc hcc hl4 ht) mt_X9_parse sv_X12_271 dX12_execute_4 rfl rfl rfl rfl rfl ?_
  refine pm_stk (st' := [.int ((d_X9_parse t tx fs sd sc cc).1)]) rfl ?_
  refine pm_istore_n B dX12_execute_7 rfl rfl ?_
  refine pm_loc (L' := [some (.ref (z + 0)), some (.int ((d_X9_parse t tx fs sd sc cc).1)), none]) rfl ?_
  refine pm_aload_n B dX12_execute_8 rfl ?_
  refine pm_get B dX12_execute_9 fl_X12_54 hto rfl ?_
  refine pm_cV (As := []) (mc2 := 0) (ms2 := 0) B rfl ((pm_up_n (by decide)).trans pm_up_s) rfl (c_X9_empty ((pm_up_n (by decide)).trans pm_up_s)) mt_X9_empty sv_X12_274 dX12_execute_12 rfl rfl rfl rfl rfl ?_
  refine pm_mem (M' := (pm_E2 z kA kE M t tx fs sd sc cc)) rfl ?_
  refine pm_stk (st' := []) rfl ?_
  refine pm_iload_n B dX12_execute_15 rfl ?_
  refine pm_if_ne (tgt := 46) B dX12_execute_16 (by decide) (fun hq1 => absurd (h0) hq1) (fun hq1 => ?_)
  refine pm_aload_n B dX12_execute_19 rfl ?_
  refine pm_iconst (v := 1) B dX12_execute_20 (by decide) ?_
  refine pm_put B dX12_execute_21 fs_X12_277 ((pm_E2_n (by decide)).trans hto) rfl rfl rfl ?_
  refine pm_mem (M' := pm_up (pm_E2 z kA kE M t tx fs sd sc cc) 0 (.inr (10, [.ref (z + 1), .ref (z + 2), .ref (z + 17), .ref (z + 28), .ref (z + 39), .ref (z + 129), .ref (z + 131), .ref (z + 133), .ref (z + 138), .int (to 9), .int 1, .int (to 11), ldv]))) rfl ?_
  refine pm_aload_n B dX12_execute_24 rfl ?_
  refine pm_aload_n B dX12_execute_25 rfl ?_
  refine pm_get B dX12_execute_26 fl_X12_54 pm_up_s rfl ?_
  refine pm_get B dX12_execute_29 fl_X12_281 ((pm_up_n (by omega)).trans pm_E2_133) rfl ?_
  refine pm_put B dX12_execute_32 fs_X12_284 pm_up_s rfl rfl rfl ?_
  refine pm_mem (M' := pm_up (pm_E2 z kA kE M t tx fs sd sc cc) 0 (.inr (10, [.ref (z + 1), .ref (z + 2), .ref (z + 17), .ref (z + 28), .ref (z + 39), .ref (z + 129), .ref (z + 131), .ref (z + 133), .ref (z + 138), .int (to 9), .int 1, .int ((d_X9_empty (d_X9_parse t tx fs sd sc cc).2.2.2.1) 6), ldv]))) pm_up_up ?_
  exact pm_throwW (text := "the text does not match the grammar") B rfl px_IllegalArgument (by decide) dX12_execute_35 dX12_execute_38 dX12_execute_39 dX12_execute_42 dX12_execute_45 rfl rfl rfl rfl (fun n' hn => ⟨rfl, hn, Or.inr ⟨by decide, rfl⟩⟩)
section PRN
variable {l : Launch} {z : Nat} {D : va_G} {kA : Nat → ClassId} {kE : Nat → Nat} {y : MethodName} {cc : ByteArray} {nL d mc ms nx : Nat} {ret : Option FieldType} {As : List Value} {M M1 : pm_M} {r : Nat → Int32} {q : Int32 × Int32} {i : Int32}
theorem pm_C_rn0 (h : q.1 = 0) (hC : pm_C l z D kA kE y cc nL ret d mc ms As nx M (pm_rn z kA nx M1 r q i)) : pm_C l z D kA kE y cc nL ret d mc ms As nx M (pm_rt (some .null) nx (pm_sw z kA 2 M1 r)) := by
  unfold pm_rn at hC; rw [if_pos h] at hC; exact hC
theorem pm_C_rn1 (h : ¬ q.1 = 0) (h2 : q.1 ≤ 0) (hC : pm_C l z D kA kE y cc nL ret d mc ms As nx M (pm_rn z kA nx M1 r q i)) : pm_C l z D kA kE y cc nL ret d mc ms As nx M (pm_rt (some (.ref (z + (nx + 2)))) (nx + 3) (pm_sw z kA 2 (pm_up (pm_up (pm_up M1 nx (pm_oq q)) (nx + 1) (pm_oq (9, 0))) (nx + 2) (pm_o8 z i (nx + 1))) r)) := by
  unfold pm_rn at hC; rw [if_neg h, if_pos h2] at hC; exact hC
theorem pm_C_rn2 (h : ¬ q.1 = 0) (h2 : ¬ q.1 ≤ 0) (hC : pm_C l z D kA kE y cc nL ret d mc ms As nx M (pm_rn z kA nx M1 r q i)) : pm_C l z D kA kE y cc nL ret d mc ms As nx M (pm_rt (some (.ref (z + (nx + 1)))) (nx + 2) (pm_sw z kA 2 (pm_up (pm_up M1 nx (pm_oq q)) (nx + 1) (pm_o8 z i nx)) r)) := by
  unfold pm_rn at hC; rw [if_neg h, if_neg h2] at hC; exact hC
end PRN
/-- the memory when the State is kept for the script -/
abbrev pm_E3 (z : Nat) (kA : Nat → ClassId) (kE : Nat → Nat) (M : pm_M) (t : Nat) (tx fs sd sc cc r rb : Nat → Int32) : pm_M := (pm_sw z kA 17 (pm_E2 z kA kE M t tx fs sd sc cc) (pm_cpr r rb))
theorem pm_E3_n {z : Nat} {kA : Nat → ClassId} {kE : Nat → Nat} {M : pm_M} {t x : Nat} {tx fs sd sc cc r rb : Nat → Int32} (h : x < 17 ∨ (28 ≤ x ∧ x < 133)) : pm_E3 z kA kE M t tx fs sd sc cc r rb x = M x := (pm_sw_n (by omega)).trans (pm_E2_n (by omega))
theorem pm_E3_p {z : Nat} {kA : Nat → ClassId} {kE : Nat → Nat} {M : pm_M} {t x : Nat} {tx fs sd sc cc r rb : Nat → Int32} (h : 133 ≤ x) : pm_E3 z kA kE M t tx fs sd sc cc r rb x = (pm_E2 z kA kE M t tx fs sd sc cc) x := pm_sw_n (by omega)
theorem pm_E3_S {z : Nat} {kA : Nat → ClassId} {kE : Nat → Nat} {M : pm_M} {t b : Nat} {tx fs sd sc cc r rb r0 : Nat → Int32} (h : b + 11 ≤ 17 ∨ (28 ≤ b ∧ b + 11 ≤ 133)) (hS : pm_SA z kA b M r0) : pm_SA z kA b (pm_E3 z kA kE M t tx fs sd sc cc r rb) r0 := pm_SA_sw (by omega) (pm_E2_S (by omega) hS)
abbrev pm_E5 (z : Nat) (kA : Nat → ClassId) (kE : Nat → Nat) (M : pm_M) (cm t : Nat) (tx fs sd sc cc r rb q rm dr : Nat → Int32) : pm_M := (pm_sw z kA 2 (pm_up (pm_up (pm_up (pm_E3 z kA kE M t tx fs sd sc cc r rb) 14 (.inl (kA 0, 7, .inl (d_X9_run cm r q rm dr (d_X9_parse t tx fs sd sc cc).2.1 (d_X9_parse t tx fs sd sc cc).2.2.1 (d_X9_empty (d_X9_parse t tx fs sd sc cc).2.2.2.1) (d_X9_parse t tx fs sd sc cc).2.2.2.2).2.2.2.1))) 15 (.inl (kA 0, 7, .inl (d_X9_run cm r q rm dr (d_X9_parse t tx fs sd sc cc).2.1 (d_X9_parse t tx fs sd sc cc).2.2.1 (d_X9_empty (d_X9_parse t tx fs sd sc cc).2.2.2.1) (d_X9_parse t tx fs sd sc cc).2.2.2.2).2.2.2.2.1))) 16 (.inl (kA 0, 7, .inl (d_X9_run cm r q rm dr (d_X9_parse t tx fs sd sc cc).2.1 (d_X9_parse t tx fs sd sc cc).2.2.1 (d_X9_empty (d_X9_parse t tx fs sd sc cc).2.2.2.1) (d_X9_parse t tx fs sd sc cc).2.2.2.2).2.2.2.2.2))) (d_X9_run cm r q rm dr (d_X9_parse t tx fs sd sc cc).2.1 (d_X9_parse t tx fs sd sc cc).2.2.1 (d_X9_empty (d_X9_parse t tx fs sd sc cc).2.2.2.1) (d_X9_parse t tx fs sd sc cc).2.2.2.2).2.2.1)
section PE5
variable {z : Nat} {kA : Nat → ClassId} {kE : Nat → Nat} {M : pm_M} {cm t x : Nat} {tx fs sd sc cc r rb q rm dr : Nat → Int32}
theorem pm_E5_n (h : x < 2 ∨ x = 13 ∨ (28 ≤ x ∧ x < 133)) : pm_E5 z kA kE M cm t tx fs sd sc cc r rb q rm dr x = M x := (pm_sw_n (by omega)).trans ((pm_up_n (by omega)).trans ((pm_up_n (by omega)).trans ((pm_up_n (by omega)).trans (pm_E3_n (by omega)))))
theorem pm_E5_p (h : 133 ≤ x) : pm_E5 z kA kE M cm t tx fs sd sc cc r rb q rm dr x = pm_E3 z kA kE M t tx fs sd sc cc r rb x := (pm_sw_n (by omega)).trans ((pm_up_n (by omega)).trans ((pm_up_n (by omega)).trans (pm_up_n (by omega))))
theorem pm_E5_17 : pm_SA z kA 17 (pm_E5 z kA kE M cm t tx fs sd sc cc r rb q rm dr) (pm_cpr r rb) := pm_SA_sw (by decide) (pm_SA_up (by decide) (pm_SA_up (by decide) (pm_SA_up (by decide) pm_swS)))
theorem pm_E5_H {rh : Nat → Nat → Int32} (hH : pm_HA z kA M rh) : pm_HA z kA (pm_E5 z kA kE M cm t tx fs sd sc cc r rb q rm dr) rh := pm_HA_n (fun x h1 h2 => pm_E5_n (by omega)) hH
end PE5
set_option maxRecDepth 100000 in
set_option maxHeartbeats 4000000 in
theorem c_X12_execute_0 {l : Launch} {z : Nat} {D : va_G} {kA : Nat → ClassId} {kE : Nat → Nat} {nx : Nat} {M : pm_M} {t : Nat} {tx fs sd sc cc to : Nat → Int32} {ldv : Value} {cm o k : Nat} {q rm dr r rb : Nat → Int32} {rh : Nat → Nat → Int32} (hS : pm_SA z kA 2 M r) (hSb : pm_SA z kA 17 M rb) (hto : M 0 = some (pm_to z to ldv)) (hO1 : M 1 = some (.inr (5, [.ref (z + 2), .ref (z + 13), .ref (z + 16)]))) (hO13 : M 13 = some (.inr (0, [.ref (z + 14), .ref (z + 15)]))) (hq : M 14 = some (.inl (kA 0, 7, .inl q))) (hrm : M 15 = some (.inl (kA 0, 7, .inl rm))) (hdr : M 16 = some (.inl (kA 0, 7, .inl dr))) (hH : pm_HA z kA M rh) (hho : M 39 = some (pm_ho z o k)) (ho : o < 8) (hk : k ≤ 8) (htx : M 134 = some (.inl (kA 3, 60, .inl tx))) (hfs : M 136 = some (.inl (kA 0, 11, .inl fs))) (hsdd : M 137 = some (.inl (kA 0, 11, .inl sd))) (hsc : M 133 = some (pm_scr z sc)) (hcc : M 135 = some (pm_co kA kE cc)) (hl4 : sc 4 = nI t) (ht : t ≤ 60) (hcm : (d_X9_empty (d_X9_parse t tx fs sd sc cc).2.2.2.1) 5 = nI cm) (hcm11 : cm ≤ 11) (hck : ∀ i, i < cm → pm_n ((d_X9_parse t tx fs sd sc cc).2.2.2.2 i) < 11) (hns : pm_nS r) (hnx : 140 ≤ nx) (h1 : ¬ (d_X9_parse t tx fs sd sc cc).1 = 0) (h0 : (d_X9_run cm r q rm dr (d_X9_parse t tx fs sd sc cc).2.1 (d_X9_parse t tx fs sd sc cc).2.2.1 (d_X9_empty (d_X9_parse t tx fs sd sc cc).2.2.2.1) (d_X9_parse t tx fs sd sc cc).2.2.2.2).1.1 = 0) : pm_C l z D kA kE yX12_execute cX12_execute 3 (some .int) 20 25 78 [.ref (z + 0)] nx M (pm_rt (some (.int ((d_X9_empty (d_X9_parse t tx fs sd sc cc).2.2.2.1) 5))) nx (pm_M1 z kA (pm_E5 z kA kE M cm t tx fs sd sc cc r rb q rm dr) (pm_cpr r rb) rh o k)) := by
  refine pm_mk (own := RX12) (nm := "execute") mt_X12_execute rfl rfl rfl rfl fun X B => ?_
  refine pm_loc (L' := [some (.ref (z + 0)), none, none]) rfl ?_
  refine pm_aload_n B dX12_execute_0 rfl ?_
  refine pm_get B dX12_execute_1 fl_X12_54 hto rfl ?_
  refine pm_cV (As := []) (mc2 := 0) (ms2 := 0) B rfl hsc rfl (c_X9_parse htx hfs hsdd hsc hcc hl4 ht) mt_X9_parse sv_X12_271 dX12_execute_4 rfl rfl rfl rfl rfl ?_
  refine pm_stk (st' := [.int ((d_X9_parse t tx fs sd sc cc).1)]) rfl ?_
  refine pm_istore_n B dX12_execute_7 rfl rfl ?_
  refine pm_loc (L' := [some (.ref (z + 0)), some (.int ((d_X9_parse t tx fs sd sc cc).1)), none]) rfl ?_
  refine pm_aload_n B dX12_execute_8 rfl ?_
  refine pm_get B dX12_execute_9 fl_X12_54 hto rfl ?_
  refine pm_cV (As := []) (mc2 := 0) (ms2 := 0) B rfl ((pm_up_n (by decide)).trans pm_up_s) rfl (c_X9_empty ((pm_up_n (by decide)).trans pm_up_s)) mt_X9_empty sv_X12_274 dX12_execute_12 rfl rfl rfl rfl rfl ?_
  refine pm_mem (M' := (pm_E2 z kA kE M t tx fs sd sc cc)) rfl ?_
  refine pm_stk (st' := []) rfl ?_
  refine pm_iload_n B dX12_execute_15 rfl ?_
  refine pm_if_ne (tgt := 46) B dX12_execute_16 (by decide) (fun hq1 => ?_) (fun hq1 => absurd hq1 (h1))
  refine pm_aload_n B dX12_execute_46 rfl ?_
  refine pm_get B dX12_execute_47 fl_X12_24 ((pm_E2_n (by decide)).trans hto) rfl ?_
  refine pm_aload_n B dX12_execute_50 rfl ?_
  refine pm_get B dX12_execute_51 fl_X12_20 ((pm_E2_n (by decide)).trans hto) rfl ?_
  refine pm_cV (As := [.ref (z + 2)]) (mc2 := 0) (ms2 := 0) B rfl (pm_E2_S (b := 17) (by decide) hSb).1 rfl (c_X10_copyFroms (pm_E2_S (b := 17) (by decide) hSb) (pm_E2_S (b := 2) (by decide) hS) (by decide)) mt_X10_copyFrom sv_X12_289 dX12_execute_54 rfl rfl rfl rfl rfl ?_
  refine pm_stk (st' := []) rfl ?_
  refine pm_aload_n B dX12_execute_57 rfl ?_
  refine pm_get B dX12_execute_58 fl_X12_54 ((pm_E3_n (by decide)).trans hto) rfl ?_
  refine pm_aload_n B dX12_execute_61 rfl ?_
  refine pm_get B dX12_execute_62 fl_X12_10 ((pm_E3_n (by decide)).trans hto) rfl ?_
  refine pm_cV (As := [.ref (z + 1)]) (mc2 := 24) (ms2 := 72) B rfl ((pm_E3_p (by decide)).trans pm_E2_133) rfl (pm_C_rn0 h0 (c_X9_run (cm := cm) (pm_E3_S (by decide) hS) ((pm_E3_n (by decide)).trans hq) ((pm_E3_n (by decide)).trans hrm) ((pm_E3_n (by decide)).trans hdr) ((pm_E3_p (by decide)).trans pm_E2_136) ((pm_E3_p (by decide)).trans pm_E2_137) ((pm_E3_p (by decide)).trans pm_E2_133) ((pm_E3_p (by decide)).trans pm_E2_135) ((pm_E3_n (by decide)).trans hO1) ((pm_E3_n (by decide)).trans hO13) hcm hcm11 hck hns hnx)) mt_X9_run sv_X12_293 dX12_execute_65 rfl rfl rfl rfl rfl ?_
  refine pm_stk (st' := [.null]) rfl ?_
  refine pm_astore_nN B dX12_execute_68 rfl rfl ?_
  refine pm_loc (L' := [some (.ref (z + 0)), some (.int ((d_X9_parse t tx fs sd sc cc).1)), some (.null)]) rfl ?_
  refine pm_aload_nN B dX12_execute_69 rfl ?_
  refine pm_ifnullN (tgt := 100) B dX12_execute_70 (by decide) ?_
  refine pm_aload_n B dX12_execute_100 rfl ?_
  refine pm_get B dX12_execute_101 fl_X12_33 ((pm_E5_n (by decide)).trans hto) rfl ?_
  refine pm_aload_n B dX12_execute_104 rfl ?_
  refine pm_get B dX12_execute_105 fl_X12_24 ((pm_E5_n (by decide)).trans hto) rfl ?_
  refine pm_cV (As := [.ref (z + 17)]) (mc2 := 0) (ms2 := 0) B rfl ((pm_E5_n (by decide)).trans hho) rfl (c_X4_keep (b := 17) pm_E5_17 (by decide) (pm_E5_H hH) ((pm_E5_n (by decide)).trans hho) ho hk) mt_X4_keep sv_X12_306 dX12_execute_108 rfl rfl rfl rfl rfl ?_
  refine pm_stk (st' := []) rfl ?_
  refine pm_aload_n B dX12_execute_111 rfl ?_
  refine pm_get B dX12_execute_112 fl_X12_54 ((pm_M1_n (by decide)).trans ((pm_E5_n (by decide)).trans hto)) rfl ?_
  refine pm_get B dX12_execute_115 fl_X12_309 ((pm_M1_n (by decide)).trans ((pm_E5_p (by decide)).trans ((pm_E3_p (by decide)).trans pm_E2_133))) rfl ?_
  exact pm_ireturn B dX12_execute_118 rfl (by first | rfl | (apply pm_nz; first | assumption | decide | exact pm_in01 _ _ _ | simp)) ⟨rfl, rfl, rfl⟩ rfl rfl
abbrev pm_F1 (z : Nat) (kA : Nat → ClassId) (kE : Nat → Nat) (nx : Nat) (M : pm_M) (cm t : Nat) (tx fs sd sc cc r rb q rm dr : Nat → Int32) : pm_M := (pm_sw z kA 2 (pm_up (pm_up (pm_up (pm_up (pm_up (pm_up (pm_E3 z kA kE M t tx fs sd sc cc r rb) 14 (.inl (kA 0, 7, .inl (d_X9_run cm r q rm dr (d_X9_parse t tx fs sd sc cc).2.1 (d_X9_parse t tx fs sd sc cc).2.2.1 (d_X9_empty (d_X9_parse t tx fs sd sc cc).2.2.2.1) (d_X9_parse t tx fs sd sc cc).2.2.2.2).2.2.2.1))) 15 (.inl (kA 0, 7, .inl (d_X9_run cm r q rm dr (d_X9_parse t tx fs sd sc cc).2.1 (d_X9_parse t tx fs sd sc cc).2.2.1 (d_X9_empty (d_X9_parse t tx fs sd sc cc).2.2.2.1) (d_X9_parse t tx fs sd sc cc).2.2.2.2).2.2.2.2.1))) 16 (.inl (kA 0, 7, .inl (d_X9_run cm r q rm dr (d_X9_parse t tx fs sd sc cc).2.1 (d_X9_parse t tx fs sd sc cc).2.2.1 (d_X9_empty (d_X9_parse t tx fs sd sc cc).2.2.2.1) (d_X9_parse t tx fs sd sc cc).2.2.2.2).2.2.2.2.2))) nx (pm_oq (d_X9_run cm r q rm dr (d_X9_parse t tx fs sd sc cc).2.1 (d_X9_parse t tx fs sd sc cc).2.2.1 (d_X9_empty (d_X9_parse t tx fs sd sc cc).2.2.2.1) (d_X9_parse t tx fs sd sc cc).2.2.2.2).1)) (nx + 1) (pm_oq (9, 0))) (nx + 2) (pm_o8 z (d_X9_run cm r q rm dr (d_X9_parse t tx fs sd sc cc).2.1 (d_X9_parse t tx fs sd sc cc).2.2.1 (d_X9_empty (d_X9_parse t tx fs sd sc cc).2.2.2.1) (d_X9_parse t tx fs sd sc cc).2.2.2.2).2.1 (nx + 1))) (d_X9_run cm r q rm dr (d_X9_parse t tx fs sd sc cc).2.1 (d_X9_parse t tx fs sd sc cc).2.2.1 (d_X9_empty (d_X9_parse t tx fs sd sc cc).2.2.2.1) (d_X9_parse t tx fs sd sc cc).2.2.2.2).2.2.1)
theorem pm_F1_n {z nx : Nat} {kA : Nat → ClassId} {kE : Nat → Nat} {M : pm_M} {cm t x : Nat} {tx fs sd sc cc r rb q rm dr : Nat → Int32} (hnx : 140 ≤ nx) (h : x < 2 ∨ x = 13 ∨ (28 ≤ x ∧ x < 133)) : pm_F1 z kA kE nx M cm t tx fs sd sc cc r rb q rm dr x = M x := (pm_sw_n (by omega)).trans ((pm_up_n (by omega)).trans ((pm_up_n (by omega)).trans ((pm_up_n (by omega)).trans ((pm_up_n (by omega)).trans ((pm_up_n (by omega)).trans ((pm_up_n (by omega)).trans (pm_E3_n (by omega))))))))
theorem pm_F1_p {z nx : Nat} {kA : Nat → ClassId} {kE : Nat → Nat} {M : pm_M} {cm t x : Nat} {tx fs sd sc cc r rb q rm dr : Nat → Int32} (h : 133 ≤ x) (hx : x < nx) : pm_F1 z kA kE nx M cm t tx fs sd sc cc r rb q rm dr x = pm_E3 z kA kE M t tx fs sd sc cc r rb x := (pm_sw_n (by omega)).trans ((pm_up_n (by omega)).trans ((pm_up_n (by omega)).trans ((pm_up_n (by omega)).trans ((pm_up_n (by omega)).trans ((pm_up_n (by omega)).trans (pm_up_n (by omega)))))))
theorem pm_F1_17 {z nx : Nat} {kA : Nat → ClassId} {kE : Nat → Nat} {M : pm_M} {cm t : Nat} {tx fs sd sc cc r rb q rm dr : Nat → Int32} (hnx : 140 ≤ nx) : pm_SA z kA 17 (pm_F1 z kA kE nx M cm t tx fs sd sc cc r rb q rm dr) (pm_cpr r rb) := pm_SA_sw (by decide) (pm_SA_up (by omega) (pm_SA_up (by omega) (pm_SA_up (by omega) (pm_SA_up (by decide) (pm_SA_up (by decide) (pm_SA_up (by decide) pm_swS))))))
set_option maxRecDepth 100000 in
set_option maxHeartbeats 4000000 in
theorem c_X12_execute_1 {l : Launch} {z : Nat} {D : va_G} {kA : Nat → ClassId} {kE : Nat → Nat} {nx : Nat} {M : pm_M} {t : Nat} {tx fs sd sc cc to : Nat → Int32} {ldv : Value} {cm : Nat} {q rm dr r rb : Nat → Int32} (hS : pm_SA z kA 2 M r) (hSb : pm_SA z kA 17 M rb) (hto : M 0 = some (pm_to z to ldv)) (hO1 : M 1 = some (.inr (5, [.ref (z + 2), .ref (z + 13), .ref (z + 16)]))) (hO13 : M 13 = some (.inr (0, [.ref (z + 14), .ref (z + 15)]))) (hq : M 14 = some (.inl (kA 0, 7, .inl q))) (hrm : M 15 = some (.inl (kA 0, 7, .inl rm))) (hdr : M 16 = some (.inl (kA 0, 7, .inl dr))) (htx : M 134 = some (.inl (kA 3, 60, .inl tx))) (hfs : M 136 = some (.inl (kA 0, 11, .inl fs))) (hsdd : M 137 = some (.inl (kA 0, 11, .inl sd))) (hsc : M 133 = some (pm_scr z sc)) (hcc : M 135 = some (pm_co kA kE cc)) (hl4 : sc 4 = nI t) (ht : t ≤ 60) (hcm : (d_X9_empty (d_X9_parse t tx fs sd sc cc).2.2.2.1) 5 = nI cm) (hcm11 : cm ≤ 11) (hck : ∀ i, i < cm → pm_n ((d_X9_parse t tx fs sd sc cc).2.2.2.2 i) < 11) (hns : pm_nS r) (hnx : 140 ≤ nx) (h1 : ¬ (d_X9_parse t tx fs sd sc cc).1 = 0) (hp : ¬ (d_X9_run cm r q rm dr (d_X9_parse t tx fs sd sc cc).2.1 (d_X9_parse t tx fs sd sc cc).2.2.1 (d_X9_empty (d_X9_parse t tx fs sd sc cc).2.2.2.1) (d_X9_parse t tx fs sd sc cc).2.2.2.2).1.1 = 0) (h2 : (d_X9_run cm r q rm dr (d_X9_parse t tx fs sd sc cc).2.1 (d_X9_parse t tx fs sd sc cc).2.2.1 (d_X9_empty (d_X9_parse t tx fs sd sc cc).2.2.2.1) (d_X9_parse t tx fs sd sc cc).2.2.2.2).1.1 ≤ 0) : pm_C l z D kA kE yX12_execute cX12_execute 3 (some .int) 20 25 78 [.ref (z + 0)] nx M (pm_fp 3 none (nx + 3) (pm_up (pm_sw z kA 2 (pm_F1 z kA kE nx M cm t tx fs sd sc cc r rb q rm dr) (pm_cpr (pm_cpr r rb) (d_X9_run cm r q rm dr (d_X9_parse t tx fs sd sc cc).2.1 (d_X9_parse t tx fs sd sc cc).2.2.1 (d_X9_empty (d_X9_parse t tx fs sd sc cc).2.2.2.1) (d_X9_parse t tx fs sd sc cc).2.2.2.2).2.2.1)) 0 (pm_to z to (.ref (z + (nx + 2)))))) := by
  refine pm_mk (own := RX12) (nm := "execute") mt_X12_execute rfl rfl rfl rfl fun X B => ?_
  refine pm_loc (L' := [some (.ref (z + 0)), none, none]) rfl ?_
  refine pm_aload_n B dX12_execute_0 rfl ?_
  refine pm_get B dX12_execute_1 fl_X12_54 hto rfl ?_
  refine pm_cV (As := []) (mc2 := 0) (ms2 := 0) B rfl hsc rfl (c_X9_parse htx hfs hsdd hsc hcc hl4 ht) mt_X9_parse sv_X12_271 dX12_execute_4 rfl rfl rfl rfl rfl ?_
  refine pm_stk (st' := [.int ((d_X9_parse t tx fs sd sc cc).1)]) rfl ?_
  refine pm_istore_n B dX12_execute_7 rfl rfl ?_
  refine pm_loc (L' := [some (.ref (z + 0)), some (.int ((d_X9_parse t tx fs sd sc cc).1)), none]) rfl ?_
  refine pm_aload_n B dX12_execute_8 rfl ?_
  refine pm_get B dX12_execute_9 fl_X12_54 hto rfl ?_
  refine pm_cV (As := []) (mc2 := 0) (ms2 := 0) B rfl ((pm_up_n (by decide)).trans pm_up_s) rfl (c_X9_empty ((pm_up_n (by decide)).trans pm_up_s)) mt_X9_empty sv_X12_274 dX12_execute_12 rfl rfl rfl rfl rfl ?_
  refine pm_mem (M' := (pm_E2 z kA kE M t tx fs sd sc cc)) rfl ?_
  refine pm_stk (st' := []) rfl ?_
  refine pm_iload_n B dX12_execute_15 rfl ?_
  refine pm_if_ne (tgt := 46) B dX12_execute_16 (by decide) (fun hq1 => ?_) (fun hq1 => absurd hq1 (h1))
  refine pm_aload_n B dX12_execute_46 rfl ?_
  refine pm_get B dX12_execute_47 fl_X12_24 ((pm_E2_n (by decide)).trans hto) rfl ?_
  refine pm_aload_n B dX12_execute_50 rfl ?_
  refine pm_get B dX12_execute_51 fl_X12_20 ((pm_E2_n (by decide)).trans hto) rfl ?_
  refine pm_cV (As := [.ref (z + 2)]) (mc2 := 0) (ms2 := 0) B rfl (pm_E2_S (b := 17) (by decide) hSb).1 rfl (c_X10_copyFroms (pm_E2_S (b := 17) (by decide) hSb) (pm_E2_S (b := 2) (by decide) hS) (by decide)) mt_X10_copyFrom sv_X12_289 dX12_execute_54 rfl rfl rfl rfl rfl ?_
  refine pm_stk (st' := []) rfl ?_
  refine pm_aload_n B dX12_execute_57 rfl ?_
  refine pm_get B dX12_execute_58 fl_X12_54 ((pm_E3_n (by decide)).trans hto) rfl ?_
  refine pm_aload_n B dX12_execute_61 rfl ?_
  refine pm_get B dX12_execute_62 fl_X12_10 ((pm_E3_n (by decide)).trans hto) rfl ?_
  refine pm_cV (As := [.ref (z + 1)]) (mc2 := 24) (ms2 := 72) B rfl ((pm_E3_p (by decide)).trans pm_E2_133) rfl (pm_C_rn1 hp h2 (c_X9_run (cm := cm) (pm_E3_S (by decide) hS) ((pm_E3_n (by decide)).trans hq) ((pm_E3_n (by decide)).trans hrm) ((pm_E3_n (by decide)).trans hdr) ((pm_E3_p (by decide)).trans pm_E2_136) ((pm_E3_p (by decide)).trans pm_E2_137) ((pm_E3_p (by decide)).trans pm_E2_133) ((pm_E3_p (by decide)).trans pm_E2_135) ((pm_E3_n (by decide)).trans hO1) ((pm_E3_n (by decide)).trans hO13) hcm hcm11 hck hns hnx)) mt_X9_run sv_X12_293 dX12_execute_65 rfl rfl rfl rfl rfl ?_
  refine pm_stk (st' := [.ref (z + (nx + 2))]) rfl ?_
  refine pm_astore_n B dX12_execute_68 rfl rfl ?_
  refine pm_loc (L' := [some (.ref (z + 0)), some (.int ((d_X9_parse t tx fs sd sc cc).1)), some (.ref (z + (nx + 2)))]) rfl ?_
  refine pm_aload_n B dX12_execute_69 rfl ?_
  refine pm_ifnull B dX12_execute_70 ?_
  refine pm_aload_n B dX12_execute_73 rfl ?_
  refine pm_get B dX12_execute_74 fl_X12_20 ((pm_F1_n hnx (by decide)).trans hto) rfl ?_
  refine pm_aload_n B dX12_execute_77 rfl ?_
  refine pm_get B dX12_execute_78 fl_X12_24 ((pm_F1_n hnx (by decide)).trans hto) rfl ?_
  refine pm_cV (As := [.ref (z + 17)]) (mc2 := 0) (ms2 := 0) B rfl pm_swS.1 rfl (c_X10_copyFroms (b := 2) (b2 := 17) pm_swS (pm_F1_17 hnx) (by decide)) mt_X10_copyFrom sv_X12_289 dX12_execute_81 rfl rfl rfl rfl rfl ?_
  refine pm_stk (st' := []) rfl ?_
  refine pm_aload_n B dX12_execute_84 rfl ?_
  refine pm_aload_n B dX12_execute_85 rfl ?_
  refine pm_put B dX12_execute_86 fs_X12_297 ((pm_sw_n (by decide)).trans ((pm_F1_n hnx (by decide)).trans hto)) rfl rfl rfl ?_
  refine pm_mem (M' := pm_up (pm_sw z kA 2 (pm_F1 z kA kE nx M cm t tx fs sd sc cc r rb q rm dr) (pm_cpr (pm_cpr r rb) (d_X9_run cm r q rm dr (d_X9_parse t tx fs sd sc cc).2.1 (d_X9_parse t tx fs sd sc cc).2.2.1 (d_X9_empty (d_X9_parse t tx fs sd sc cc).2.2.2.1) (d_X9_parse t tx fs sd sc cc).2.2.2.2).2.2.1)) 0 (.inr (10, [.ref (z + 1), .ref (z + 2), .ref (z + 17), .ref (z + 28), .ref (z + 39), .ref (z + 129), .ref (z + 131), .ref (z + 133), .ref (z + 138), .int (to 9), .int (to 10), .int (to 11), .ref (z + (nx + 2))]))) rfl ?_
  exact pm_throwW (text := "a command of the text failed") B rfl px_UnsupportedOperation (by decide) dX12_execute_89 dX12_execute_92 dX12_execute_93 dX12_execute_96 dX12_execute_99 rfl rfl rfl rfl (fun n' hn => ⟨rfl, hn, Or.inr ⟨by decide, rfl⟩⟩)
abbrev pm_F2 (z : Nat) (kA : Nat → ClassId) (kE : Nat → Nat) (nx : Nat) (M : pm_M) (cm t : Nat) (tx fs sd sc cc r rb q rm dr : Nat → Int32) : pm_M := (pm_sw z kA 2 (pm_up (pm_up (pm_up (pm_up (pm_up (pm_E3 z kA kE M t tx fs sd sc cc r rb) 14 (.inl (kA 0, 7, .inl (d_X9_run cm r q rm dr (d_X9_parse t tx fs sd sc cc).2.1 (d_X9_parse t tx fs sd sc cc).2.2.1 (d_X9_empty (d_X9_parse t tx fs sd sc cc).2.2.2.1) (d_X9_parse t tx fs sd sc cc).2.2.2.2).2.2.2.1))) 15 (.inl (kA 0, 7, .inl (d_X9_run cm r q rm dr (d_X9_parse t tx fs sd sc cc).2.1 (d_X9_parse t tx fs sd sc cc).2.2.1 (d_X9_empty (d_X9_parse t tx fs sd sc cc).2.2.2.1) (d_X9_parse t tx fs sd sc cc).2.2.2.2).2.2.2.2.1))) 16 (.inl (kA 0, 7, .inl (d_X9_run cm r q rm dr (d_X9_parse t tx fs sd sc cc).2.1 (d_X9_parse t tx fs sd sc cc).2.2.1 (d_X9_empty (d_X9_parse t tx fs sd sc cc).2.2.2.1) (d_X9_parse t tx fs sd sc cc).2.2.2.2).2.2.2.2.2))) nx (pm_oq (d_X9_run cm r q rm dr (d_X9_parse t tx fs sd sc cc).2.1 (d_X9_parse t tx fs sd sc cc).2.2.1 (d_X9_empty (d_X9_parse t tx fs sd sc cc).2.2.2.1) (d_X9_parse t tx fs sd sc cc).2.2.2.2).1)) (nx + 1) (pm_o8 z (d_X9_run cm r q rm dr (d_X9_parse t tx fs sd sc cc).2.1 (d_X9_parse t tx fs sd sc cc).2.2.1 (d_X9_empty (d_X9_parse t tx fs sd sc cc).2.2.2.1) (d_X9_parse t tx fs sd sc cc).2.2.2.2).2.1 nx)) (d_X9_run cm r q rm dr (d_X9_parse t tx fs sd sc cc).2.1 (d_X9_parse t tx fs sd sc cc).2.2.1 (d_X9_empty (d_X9_parse t tx fs sd sc cc).2.2.2.1) (d_X9_parse t tx fs sd sc cc).2.2.2.2).2.2.1)
theorem pm_F2_n {z nx : Nat} {kA : Nat → ClassId} {kE : Nat → Nat} {M : pm_M} {cm t x : Nat} {tx fs sd sc cc r rb q rm dr : Nat → Int32} (hnx : 140 ≤ nx) (h : x < 2 ∨ x = 13 ∨ (28 ≤ x ∧ x < 133)) : pm_F2 z kA kE nx M cm t tx fs sd sc cc r rb q rm dr x = M x := (pm_sw_n (by omega)).trans ((pm_up_n (by omega)).trans ((pm_up_n (by omega)).trans ((pm_up_n (by omega)).trans ((pm_up_n (by omega)).trans ((pm_up_n (by omega)).trans (pm_E3_n (by omega)))))))
theorem pm_F2_p {z nx : Nat} {kA : Nat → ClassId} {kE : Nat → Nat} {M : pm_M} {cm t x : Nat} {tx fs sd sc cc r rb q rm dr : Nat → Int32} (h : 133 ≤ x) (hx : x < nx) : pm_F2 z kA kE nx M cm t tx fs sd sc cc r rb q rm dr x = pm_E3 z kA kE M t tx fs sd sc cc r rb x := (pm_sw_n (by omega)).trans ((pm_up_n (by omega)).trans ((pm_up_n (by omega)).trans ((pm_up_n (by omega)).trans ((pm_up_n (by omega)).trans (pm_up_n (by omega))))))
theorem pm_F2_17 {z nx : Nat} {kA : Nat → ClassId} {kE : Nat → Nat} {M : pm_M} {cm t : Nat} {tx fs sd sc cc r rb q rm dr : Nat → Int32} (hnx : 140 ≤ nx) : pm_SA z kA 17 (pm_F2 z kA kE nx M cm t tx fs sd sc cc r rb q rm dr) (pm_cpr r rb) := pm_SA_sw (by decide) (pm_SA_up (by omega) (pm_SA_up (by omega) (pm_SA_up (by decide) (pm_SA_up (by decide) (pm_SA_up (by decide) pm_swS)))))
set_option maxRecDepth 100000 in
set_option maxHeartbeats 4000000 in
theorem c_X12_execute_2 {l : Launch} {z : Nat} {D : va_G} {kA : Nat → ClassId} {kE : Nat → Nat} {nx : Nat} {M : pm_M} {t : Nat} {tx fs sd sc cc to : Nat → Int32} {ldv : Value} {cm : Nat} {q rm dr r rb : Nat → Int32} (hS : pm_SA z kA 2 M r) (hSb : pm_SA z kA 17 M rb) (hto : M 0 = some (pm_to z to ldv)) (hO1 : M 1 = some (.inr (5, [.ref (z + 2), .ref (z + 13), .ref (z + 16)]))) (hO13 : M 13 = some (.inr (0, [.ref (z + 14), .ref (z + 15)]))) (hq : M 14 = some (.inl (kA 0, 7, .inl q))) (hrm : M 15 = some (.inl (kA 0, 7, .inl rm))) (hdr : M 16 = some (.inl (kA 0, 7, .inl dr))) (htx : M 134 = some (.inl (kA 3, 60, .inl tx))) (hfs : M 136 = some (.inl (kA 0, 11, .inl fs))) (hsdd : M 137 = some (.inl (kA 0, 11, .inl sd))) (hsc : M 133 = some (pm_scr z sc)) (hcc : M 135 = some (pm_co kA kE cc)) (hl4 : sc 4 = nI t) (ht : t ≤ 60) (hcm : (d_X9_empty (d_X9_parse t tx fs sd sc cc).2.2.2.1) 5 = nI cm) (hcm11 : cm ≤ 11) (hck : ∀ i, i < cm → pm_n ((d_X9_parse t tx fs sd sc cc).2.2.2.2 i) < 11) (hns : pm_nS r) (hnx : 140 ≤ nx) (h1 : ¬ (d_X9_parse t tx fs sd sc cc).1 = 0) (hp : ¬ (d_X9_run cm r q rm dr (d_X9_parse t tx fs sd sc cc).2.1 (d_X9_parse t tx fs sd sc cc).2.2.1 (d_X9_empty (d_X9_parse t tx fs sd sc cc).2.2.2.1) (d_X9_parse t tx fs sd sc cc).2.2.2.2).1.1 = 0) (h2 : ¬ (d_X9_run cm r q rm dr (d_X9_parse t tx fs sd sc cc).2.1 (d_X9_parse t tx fs sd sc cc).2.2.1 (d_X9_empty (d_X9_parse t tx fs sd sc cc).2.2.2.1) (d_X9_parse t tx fs sd sc cc).2.2.2.2).1.1 ≤ 0) : pm_C l z D kA kE yX12_execute cX12_execute 3 (some .int) 20 25 78 [.ref (z + 0)] nx M (pm_fp 3 none (nx + 2) (pm_up (pm_sw z kA 2 (pm_F2 z kA kE nx M cm t tx fs sd sc cc r rb q rm dr) (pm_cpr (pm_cpr r rb) (d_X9_run cm r q rm dr (d_X9_parse t tx fs sd sc cc).2.1 (d_X9_parse t tx fs sd sc cc).2.2.1 (d_X9_empty (d_X9_parse t tx fs sd sc cc).2.2.2.1) (d_X9_parse t tx fs sd sc cc).2.2.2.2).2.2.1)) 0 (pm_to z to (.ref (z + (nx + 1)))))) := by
  refine pm_mk (own := RX12) (nm := "execute") mt_X12_execute rfl rfl rfl rfl fun X B => ?_
  refine pm_loc (L' := [some (.ref (z + 0)), none, none]) rfl ?_
  refine pm_aload_n B dX12_execute_0 rfl ?_
  refine pm_get B dX12_execute_1 fl_X12_54 hto rfl ?_
  refine pm_cV (As := []) (mc2 := 0) (ms2 := 0) B rfl hsc rfl (c_X9_parse htx hfs hsdd hsc hcc hl4 ht) mt_X9_parse sv_X12_271 dX12_execute_4 rfl rfl rfl rfl rfl ?_
  refine pm_stk (st' := [.int ((d_X9_parse t tx fs sd sc cc).1)]) rfl ?_
  refine pm_istore_n B dX12_execute_7 rfl rfl ?_
  refine pm_loc (L' := [some (.ref (z + 0)), some (.int ((d_X9_parse t tx fs sd sc cc).1)), none]) rfl ?_
  refine pm_aload_n B dX12_execute_8 rfl ?_
  refine pm_get B dX12_execute_9 fl_X12_54 hto rfl ?_
  refine pm_cV (As := []) (mc2 := 0) (ms2 := 0) B rfl ((pm_up_n (by decide)).trans pm_up_s) rfl (c_X9_empty ((pm_up_n (by decide)).trans pm_up_s)) mt_X9_empty sv_X12_274 dX12_execute_12 rfl rfl rfl rfl rfl ?_
  refine pm_mem (M' := (pm_E2 z kA kE M t tx fs sd sc cc)) rfl ?_
  refine pm_stk (st' := []) rfl ?_
  refine pm_iload_n B dX12_execute_15 rfl ?_
  refine pm_if_ne (tgt := 46) B dX12_execute_16 (by decide) (fun hq1 => ?_) (fun hq1 => absurd hq1 (h1))
  refine pm_aload_n B dX12_execute_46 rfl ?_
  refine pm_get B dX12_execute_47 fl_X12_24 ((pm_E2_n (by decide)).trans hto) rfl ?_
  refine pm_aload_n B dX12_execute_50 rfl ?_
  refine pm_get B dX12_execute_51 fl_X12_20 ((pm_E2_n (by decide)).trans hto) rfl ?_
  refine pm_cV (As := [.ref (z + 2)]) (mc2 := 0) (ms2 := 0) B rfl (pm_E2_S (b := 17) (by decide) hSb).1 rfl (c_X10_copyFroms (pm_E2_S (b := 17) (by decide) hSb) (pm_E2_S (b := 2) (by decide) hS) (by decide)) mt_X10_copyFrom sv_X12_289 dX12_execute_54 rfl rfl rfl rfl rfl ?_
  refine pm_stk (st' := []) rfl ?_
  refine pm_aload_n B dX12_execute_57 rfl ?_
  refine pm_get B dX12_execute_58 fl_X12_54 ((pm_E3_n (by decide)).trans hto) rfl ?_
  refine pm_aload_n B dX12_execute_61 rfl ?_
  refine pm_get B dX12_execute_62 fl_X12_10 ((pm_E3_n (by decide)).trans hto) rfl ?_
  refine pm_cV (As := [.ref (z + 1)]) (mc2 := 24) (ms2 := 72) B rfl ((pm_E3_p (by decide)).trans pm_E2_133) rfl (pm_C_rn2 hp h2 (c_X9_run (cm := cm) (pm_E3_S (by decide) hS) ((pm_E3_n (by decide)).trans hq) ((pm_E3_n (by decide)).trans hrm) ((pm_E3_n (by decide)).trans hdr) ((pm_E3_p (by decide)).trans pm_E2_136) ((pm_E3_p (by decide)).trans pm_E2_137) ((pm_E3_p (by decide)).trans pm_E2_133) ((pm_E3_p (by decide)).trans pm_E2_135) ((pm_E3_n (by decide)).trans hO1) ((pm_E3_n (by decide)).trans hO13) hcm hcm11 hck hns hnx)) mt_X9_run sv_X12_293 dX12_execute_65 rfl rfl rfl rfl rfl ?_
  refine pm_stk (st' := [.ref (z + (nx + 1))]) rfl ?_
  refine pm_astore_n B dX12_execute_68 rfl rfl ?_
  refine pm_loc (L' := [some (.ref (z + 0)), some (.int ((d_X9_parse t tx fs sd sc cc).1)), some (.ref (z + (nx + 1)))]) rfl ?_
  refine pm_aload_n B dX12_execute_69 rfl ?_
  refine pm_ifnull B dX12_execute_70 ?_
  refine pm_aload_n B dX12_execute_73 rfl ?_
  refine pm_get B dX12_execute_74 fl_X12_20 ((pm_F2_n hnx (by decide)).trans hto) rfl ?_
  refine pm_aload_n B dX12_execute_77 rfl ?_
  refine pm_get B dX12_execute_78 fl_X12_24 ((pm_F2_n hnx (by decide)).trans hto) rfl ?_
  refine pm_cV (As := [.ref (z + 17)]) (mc2 := 0) (ms2 := 0) B rfl pm_swS.1 rfl (c_X10_copyFroms (b := 2) (b2 := 17) pm_swS (pm_F2_17 hnx) (by decide)) mt_X10_copyFrom sv_X12_289 dX12_execute_81 rfl rfl rfl rfl rfl ?_
  refine pm_stk (st' := []) rfl ?_
  refine pm_aload_n B dX12_execute_84 rfl ?_
  refine pm_aload_n B dX12_execute_85 rfl ?_
  refine pm_put B dX12_execute_86 fs_X12_297 ((pm_sw_n (by decide)).trans ((pm_F2_n hnx (by decide)).trans hto)) rfl rfl rfl ?_
  refine pm_mem (M' := pm_up (pm_sw z kA 2 (pm_F2 z kA kE nx M cm t tx fs sd sc cc r rb q rm dr) (pm_cpr (pm_cpr r rb) (d_X9_run cm r q rm dr (d_X9_parse t tx fs sd sc cc).2.1 (d_X9_parse t tx fs sd sc cc).2.2.1 (d_X9_empty (d_X9_parse t tx fs sd sc cc).2.2.2.1) (d_X9_parse t tx fs sd sc cc).2.2.2.2).2.2.1)) 0 (.inr (10, [.ref (z + 1), .ref (z + 2), .ref (z + 17), .ref (z + 28), .ref (z + 39), .ref (z + 129), .ref (z + 131), .ref (z + 133), .ref (z + 138), .int (to 9), .int (to 10), .int (to 11), .ref (z + (nx + 1))]))) rfl ?_
  exact pm_throwW (text := "a command of the text failed") B rfl px_UnsupportedOperation (by decide) dX12_execute_89 dX12_execute_92 dX12_execute_93 dX12_execute_96 dX12_execute_99 rfl rfl rfl rfl (fun n' hn => ⟨rfl, hn, Or.inr ⟨by decide, rfl⟩⟩)
