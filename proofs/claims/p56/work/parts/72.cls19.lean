/-! what is made: the class -/
abbrev cJ5_init_d00df : ByteArray := prog_17_method_2_code
def yJ5_init_d00df : MethodName := ⟨RJ5, "<init>", "(I)V"⟩
theorem dJ5_init_d00df_0 : decode cJ5_init_d00df 0 = .ok (.aload_n 0, 1) := by decide +kernel
theorem dJ5_init_d00df_1 : decode cJ5_init_d00df 1 = .ok (.invokespecial 3, 3) := by decide +kernel
theorem dJ5_init_d00df_4 : decode cJ5_init_d00df 4 = .ok (.getstatic 18, 3) := by decide +kernel
theorem dJ5_init_d00df_7 : decode cJ5_init_d00df 7 = .ok (.ifCond .eq 18, 3) := by decide +kernel
theorem dJ5_init_d00df_10 : decode cJ5_init_d00df 10 = .ok (.aload_n 0, 1) := by decide +kernel
theorem dJ5_init_d00df_11 : decode cJ5_init_d00df 11 = .ok (.iload_n 1, 1) := by decide +kernel
theorem dJ5_init_d00df_12 : decode cJ5_init_d00df 12 = .ok (.newarray .byte, 2) := by decide +kernel
theorem dJ5_init_d00df_14 : decode cJ5_init_d00df 14 = .ok (.putfield 15, 3) := by decide +kernel
theorem dJ5_init_d00df_17 : decode cJ5_init_d00df 17 = .ok (.aload_n 0, 1) := by decide +kernel
theorem dJ5_init_d00df_18 : decode cJ5_init_d00df 18 = .ok (.iconst 0, 1) := by decide +kernel
theorem dJ5_init_d00df_19 : decode cJ5_init_d00df 19 = .ok (.putfield 22, 3) := by decide +kernel
theorem dJ5_init_d00df_22 : decode cJ5_init_d00df 22 = .ok (.goto 16, 3) := by decide +kernel
theorem dJ5_init_d00df_25 : decode cJ5_init_d00df 25 = .ok (.aload_n 0, 1) := by decide +kernel
theorem dJ5_init_d00df_26 : decode cJ5_init_d00df 26 = .ok (.iload_n 1, 1) := by decide +kernel
theorem dJ5_init_d00df_27 : decode cJ5_init_d00df 27 = .ok (.invokestatic 26, 3) := by decide +kernel
theorem dJ5_init_d00df_30 : decode cJ5_init_d00df 30 = .ok (.putfield 15, 3) := by decide +kernel
theorem dJ5_init_d00df_33 : decode cJ5_init_d00df 33 = .ok (.aload_n 0, 1) := by decide +kernel
theorem dJ5_init_d00df_34 : decode cJ5_init_d00df 34 = .ok (.iconst 1, 1) := by decide +kernel
theorem dJ5_init_d00df_35 : decode cJ5_init_d00df 35 = .ok (.putfield 22, 3) := by decide +kernel
theorem dJ5_init_d00df_38 : decode cJ5_init_d00df 38 = .ok (.return_, 1) := by decide +kernel
theorem mt_J5_init_d00df : pm_Mt yJ5_init_d00df cJ5_init_d00df 2 none 1 := ⟨pm_T_in 308 (by decide +kernel) (by decide +kernel), pm_T_in 45 (by decide +kernel) (by decide +kernel), ⟨by decide +kernel, by decide +kernel, by decide +kernel⟩, by decide +kernel, by decide⟩
abbrev cJ4_init_da8c8 : ByteArray := prog_34_method_1_code
def yJ4_init_da8c8 : MethodName := ⟨RJ4, "<init>", "()V"⟩
theorem dJ4_init_da8c8_0 : decode cJ4_init_da8c8 0 = .ok (.aload_n 0, 1) := by decide +kernel
theorem dJ4_init_da8c8_1 : decode cJ4_init_da8c8 1 = .ok (.bipush 16, 2) := by decide +kernel
theorem dJ4_init_da8c8_3 : decode cJ4_init_da8c8 3 = .ok (.invokespecial 1, 3) := by decide +kernel
theorem dJ4_init_da8c8_6 : decode cJ4_init_da8c8 6 = .ok (.return_, 1) := by decide +kernel
theorem mt_J4_init_da8c8 : pm_Mt yJ4_init_da8c8 cJ4_init_da8c8 1 none 0 := ⟨pm_T_in 305 (by decide +kernel) (by decide +kernel), pm_T_in 46 (by decide +kernel) (by decide +kernel), ⟨by decide +kernel, by decide +kernel, by decide +kernel⟩, by decide +kernel, by decide⟩
theorem fs_J5_15 : pm_Fs RJ5 15 12 0 (.array .byte) := ⟨fl_J5_15, rfl, by decide +kernel⟩
theorem fs_J5_22 : pm_Fs RJ5 22 12 1 (.byte) := ⟨fl_J5_22, rfl, by decide +kernel⟩
theorem si_J4_1 : pm_SI RJ4 1 yJ5_init_d00df := ⟨pm_T_in 306 (by decide +kernel) (by decide +kernel), pm_T_in 307 (by decide +kernel) (by decide +kernel), by decide +kernel⟩
theorem si_X12_60 : pm_SI RX12 60 yJ4_init_da8c8 := ⟨pm_T_in 303 (by decide +kernel) (by decide +kernel), pm_T_in 304 (by decide +kernel) (by decide +kernel), by decide +kernel⟩
theorem nw_X12_58 : pm_Nw RX12 58 12 [.null, .int 0, .int 0, .int 0] := ⟨by decide, co_J4, pm_T_in 301 (by decide +kernel) (by decide +kernel), pm_T_in 302 (by decide +kernel) (by decide +kernel), pm_T_in 46 (by decide +kernel) (by decide +kernel), by decide +kernel⟩
set_option maxRecDepth 100000 in
set_option maxHeartbeats 4000000 in
theorem c_J5_init_d00df {l : Launch} {z : Nat} {D : va_G} {kA : Nat → ClassId} {kE : Nat → Nat} {M : pm_M} {a : Nat} (hM : M a = some (.inr (12, [.null, .int 0, .int 0, .int 0]))) : pm_C l z D kA kE yJ5_init_d00df cJ5_init_d00df 2 none 1 1 16 [.ref (z + a), .int 16] (a + 1) M (pm_rx (fun ov n' M' => ov = none ∧ n' = a + 2 ∧ M' (a) = some (.inr (12, [.ref (z + (a + 1)), .int 0, .int 0, .int 0])) ∧ M' (a + 1) = some (.inl (kA 4, 16, .inl (fun _ => 0))) ∧ ∀ x, x < a → M' x = M x)) := by
  refine pm_mk (own := RJ5) (nm := "<init>") mt_J5_init_d00df rfl rfl rfl rfl fun X B => ?_
  refine pm_loc (L' := [some (.ref (z + a)), some (.int 16)]) rfl ?_
  refine pm_aload_n B dJ5_init_d00df_0 rfl ?_
  refine pm_objInit B dJ5_init_d00df_1 (pm_T_in 309 (by decide +kernel) (by decide +kernel)) rfl rfl rfl rfl ?_
  refine pm_gets B (v := .int 1) (fun U H h => h.2.2.2.2.1) (pm_T_in 310 (by decide +kernel) (by decide +kernel)) dJ5_init_d00df_4 ?_
  refine pm_if_eq (tgt := 25) B dJ5_init_d00df_7 (by decide) (fun hq1 => absurd hq1 (by decide)) (fun hq1 => ?_)
  refine pm_aload_n B dJ5_init_d00df_10 rfl ?_
  refine pm_iload_n B dJ5_init_d00df_11 rfl ?_
  refine pm_newb (N := 16) B dJ5_init_d00df_12 (pm_T_in 333 (by decide +kernel) (by decide +kernel)) rfl rfl (by decide) (by decide) ?_
  refine pm_mem (M' := pm_up M (a + 1) (.inl (kA 4, 16, .inl (fun _ => 0)))) rfl ?_
  refine pm_stk (st' := [.ref (z + (a + 1)), .ref (z + a)]) rfl ?_
  refine pm_put B dJ5_init_d00df_14 fs_J5_15 ((pm_up_n (by omega)).trans hM) rfl rfl rfl ?_
  refine pm_mem (M' := pm_up (pm_up M (a + 1) (.inl (kA 4, 16, .inl (fun _ => 0)))) a (.inr (12, [.ref (z + (a + 1)), .int 0, .int 0, .int 0]))) rfl ?_
  refine pm_aload_n B dJ5_init_d00df_17 rfl ?_
  refine pm_iconst (v := 0) B dJ5_init_d00df_18 (by decide) ?_
  refine pm_put B dJ5_init_d00df_19 fs_J5_22 pm_up_s rfl rfl rfl ?_
  refine pm_mem (M' := pm_up (pm_up M (a + 1) (.inl (kA 4, 16, .inl (fun _ => 0)))) a (.inr (12, [.ref (z + (a + 1)), .int 0, .int 0, .int 0]))) pm_up_up ?_
  refine pm_goto (tgt := 38) B dJ5_init_d00df_22 (by decide) ?_
  exact pm_return B dJ5_init_d00df_38 rfl ⟨none, rfl, rfl, rfl, pm_up_s, ((pm_up_n (by omega)).trans pm_up_s), fun x hx => ((pm_up_n (by omega)).trans ((pm_up_n (by omega)).trans rfl))⟩ rfl rfl
set_option maxRecDepth 100000 in
set_option maxHeartbeats 4000000 in
theorem c_J4_init_da8c8 {l : Launch} {z : Nat} {D : va_G} {kA : Nat → ClassId} {kE : Nat → Nat} {M : pm_M} {a : Nat} (hM : M a = some (.inr (12, [.null, .int 0, .int 0, .int 0]))) : pm_C l z D kA kE yJ4_init_da8c8 cJ4_init_da8c8 1 none 2 1 16 [.ref (z + a)] (a + 1) M (pm_rx (fun ov n' M' => ov = none ∧ n' = a + 2 ∧ M' (a) = some (.inr (12, [.ref (z + (a + 1)), .int 0, .int 0, .int 0])) ∧ M' (a + 1) = some (.inl (kA 4, 16, .inl (fun _ => 0))) ∧ ∀ x, x < a → M' x = M x)) := by
  refine pm_mk (own := RJ4) (nm := "<init>") mt_J4_init_da8c8 rfl rfl rfl rfl fun X B => ?_
  refine pm_loc (L' := [some (.ref (z + a))]) rfl ?_
  refine pm_aload_n B dJ4_init_da8c8_0 rfl ?_
  refine pm_bipush (v := 16) B dJ4_init_da8c8_1 (by decide) ?_
  refine pm_cIx (As := [.int 16]) (mc2 := 1) (ms2 := 16) B rfl (c_J5_init_d00df hM) mt_J5_init_d00df si_J4_1 dJ4_init_da8c8_3 rfl rfl rfl rfl rfl (fun ov1 n1 M1 hP1 => ?_)
  obtain ⟨rfl, rfl, r1_0, r1_1, hk1⟩ := hP1
  refine pm_stk (st' := []) rfl ?_
  exact pm_return B dJ4_init_da8c8_6 rfl ⟨none, rfl, rfl, rfl, r1_0, r1_1, fun x hx => ((hk1 x (by omega)).trans rfl)⟩ rfl rfl
set_option maxRecDepth 100000 in
set_option maxHeartbeats 4000000 in
theorem c_X7_init {l : Launch} {z : Nat} {D : va_G} {kA : Nat → ClassId} {kE : Nat → Nat} {M : pm_M} {a : Nat} (hM : M a = some (.inr (5, [.null, .null, .null]))) : pm_C l z D kA kE yX7_init cX7_init 1 none 3 15 93 [.ref (z + a)] (a + 1) M (pm_rx (fun ov n' M' => ov = none ∧ n' = a + 16 ∧ M' (a) = some (.inr (5, [.ref (z + (a + 1)), .ref (z + (a + 12)), .ref (z + (a + 15))])) ∧ M' (a + 12) = some (.inr (0, [.ref (z + (a + 13)), .ref (z + (a + 14))])) ∧ M' (a + 13) = some (.inl (kA 0, 7, .inl (fun _ => 0))) ∧ M' (a + 14) = some (.inl (kA 0, 7, .inl (fun _ => 0))) ∧ M' (a + 15) = some (.inl (kA 0, 7, .inl (fun _ => 0))) ∧ pm_SA z kA (a + 1) M' pm_r0 ∧ ∀ x, x < a → M' x = M x)) := by
  refine pm_mk (own := RX7) (nm := "<init>") mt_X7_init rfl rfl rfl rfl fun X B => ?_
  refine pm_loc (L' := [some (.ref (z + a))]) rfl ?_
  refine pm_aload_n B dX7_init_0 rfl ?_
  refine pm_objInit B dX7_init_1 (pm_T_in 88 (by decide +kernel) (by decide +kernel)) rfl rfl rfl rfl ?_
  refine pm_aload_n B dX7_init_4 rfl ?_
  refine pm_new (n0 := 9) B dX7_init_5 nw_X7_9 rfl (by decide) (by decide) ?_
  refine pm_mem (M' := pm_up M (a + 1) (.inr (8, [.null, .null, .int 0, .int 0, .int 0, .int 0, .int 0, .int 0, .int 0]))) rfl ?_
  refine pm_stk (st' := [.ref (z + (a + 1)), .ref (z + a)]) rfl ?_
  refine pm_dup B dX7_init_8 rfl ?_
  refine pm_cIx (As := []) (mc2 := 10) (ms2 := 61) B rfl (c_X10_init pm_up_s) mt_X10_init si_X7_11 dX7_init_9 rfl rfl rfl rfl rfl (fun ov1 n1 M1 hP1 => ?_)
  obtain ⟨rfl, rfl, S1_0, hk1⟩ := hP1
  refine pm_stk (st' := [.ref (z + (a + 1)), .ref (z + a)]) rfl ?_
  refine pm_putF B dX7_init_12 ff_X7_12 rfl ((hk1 _ (by omega)).trans ((pm_up_n (by omega)).trans hM)) rfl rfl rfl ?_
  refine pm_mem (M' := pm_up M1 a (.inr (5, [.ref (z + (a + 1)), .null, .null]))) rfl ?_
  refine pm_aload_n B dX7_init_15 rfl ?_
  refine pm_new (n0 := 2) B dX7_init_16 nw_X7_18 rfl (by decide) (by decide) ?_
  refine pm_mem (M' := pm_up (pm_up M1 a (.inr (5, [.ref (z + (a + 1)), .null, .null]))) (a + 12) (.inr (0, [.null, .null]))) rfl ?_
  refine pm_stk (st' := [.ref (z + (a + 12)), .ref (z + a)]) rfl ?_
  refine pm_dup B dX7_init_19 rfl ?_
  refine pm_cINx (As := []) (mc2 := 2) (ms2 := 14) B rfl (c_X1_init pm_up_s) mt_X1_init si_X7_20 dX7_init_20 rfl rfl rfl rfl rfl (fun ov2 n2 M2 hP2 => ?_)
  obtain ⟨rfl, rfl, r2_0, r2_1, r2_2, hk2⟩ := hP2
  refine pm_stk (st' := [.ref (z + (a + 12)), .ref (z + a)]) rfl ?_
  refine pm_putF B dX7_init_23 ff_X7_21 rfl ((hk2 _ (by omega)).trans ((pm_up_n (by omega)).trans pm_up_s)) rfl rfl rfl ?_
  refine pm_mem (M' := pm_up M2 a (.inr (5, [.ref (z + (a + 1)), .ref (z + (a + 12)), .null]))) rfl ?_
  refine pm_aload_n B dX7_init_26 rfl ?_
  refine pm_bipush (v := 7) B dX7_init_27 (by decide) ?_
  refine pm_newi (N := 7) B dX7_init_29 (pm_T_in 144 (by decide +kernel) (by decide +kernel)) rfl rfl (by decide) (by decide) ?_
  refine pm_mem (M' := pm_up (pm_up M2 a (.inr (5, [.ref (z + (a + 1)), .ref (z + (a + 12)), .null]))) (a + 15) (.inl (kA 0, 7, .inl (fun _ => 0)))) rfl ?_
  refine pm_stk (st' := [.ref (z + (a + 15)), .ref (z + a)]) rfl ?_
  refine pm_putF B dX7_init_31 ff_X7_25 rfl ((pm_up_n (by omega)).trans pm_up_s) rfl rfl rfl ?_
  refine pm_mem (M' := pm_up (pm_up (pm_up M2 a (.inr (5, [.ref (z + (a + 1)), .ref (z + (a + 12)), .null]))) (a + 15) (.inl (kA 0, 7, .inl (fun _ => 0)))) a (.inr (5, [.ref (z + (a + 1)), .ref (z + (a + 12)), .ref (z + (a + 15))]))) rfl ?_
  refine pm_mem (M' := pm_up (pm_up M2 a (.inr (5, [.ref (z + (a + 1)), .ref (z + (a + 12)), .ref (z + (a + 15))]))) (a + 15) (.inl (kA 0, 7, .inl (fun _ => 0)))) (by rw [pm_up_sw (a := a + 15) (b := a) (by omega), pm_up_up]) ?_
  exact pm_return B dX7_init_34 rfl ⟨none, rfl, rfl, rfl, ((pm_up_n (by omega)).trans pm_up_s), ((pm_up_n (by omega)).trans ((pm_up_n (by omega)).trans r2_0)), ((pm_up_n (by omega)).trans ((pm_up_n (by omega)).trans r2_1)), ((pm_up_n (by omega)).trans ((pm_up_n (by omega)).trans r2_2)), pm_up_s, (pm_SA_up (by omega) (pm_SA_up (by omega) (pm_SA_eq (pm_SA_up (by omega) (pm_SA_up (by omega) S1_0)) (fun x h1 h2 => hk2 x (by omega))))), fun x hx => ((pm_up_n (by omega)).trans ((pm_up_n (by omega)).trans ((hk2 x (by omega)).trans ((pm_up_n (by omega)).trans ((pm_up_n (by omega)).trans ((hk1 x (by omega)).trans ((pm_up_n (by omega)).trans rfl)))))))⟩ rfl rfl
set_option maxRecDepth 100000 in
set_option maxHeartbeats 4000000 in
theorem c_X4_init {l : Launch} {z : Nat} {D : va_G} {kA : Nat → ClassId} {kE : Nat → Nat} {M : pm_M} {a : Nat} (hM : M a = some (.inr (2, [.null, .int 0, .int 0]))) : pm_C l z D kA kE yX4_init cX4_init 2 none 3 89 568 [.ref (z + a)] (a + 1) M (pm_rx (fun ov n' M' => ov = none ∧ n' = a + 90 ∧ M' (a) = some (.inr (2, [.ref (z + (a + 1)), .int 0, .int 0])) ∧ M' (a + 1) = some (.inl (kA 5, 8, .inr (.inr (.inr (.inr (va_up (va_up (va_up (va_up (va_up (va_up (va_up (va_up (fun _ => none) 0 (some (z + (a + 2)))) 1 (some (z + (a + 13)))) 2 (some (z + (a + 24)))) 3 (some (z + (a + 35)))) 4 (some (z + (a + 46)))) 5 (some (z + (a + 57)))) 6 (some (z + (a + 68)))) 7 (some (z + (a + 79))))))))) ∧ pm_SA z kA (a + 2) M' pm_r0 ∧ pm_SA z kA (a + 13) M' pm_r0 ∧ pm_SA z kA (a + 24) M' pm_r0 ∧ pm_SA z kA (a + 35) M' pm_r0 ∧ pm_SA z kA (a + 46) M' pm_r0 ∧ pm_SA z kA (a + 57) M' pm_r0 ∧ pm_SA z kA (a + 68) M' pm_r0 ∧ pm_SA z kA (a + 79) M' pm_r0 ∧ ∀ x, x < a → M' x = M x)) := by
  refine pm_mk (own := RX4) (nm := "<init>") mt_X4_init rfl rfl rfl rfl fun X B => ?_
  refine pm_loc (L' := [some (.ref (z + a)), none]) rfl ?_
  refine pm_aload_n B dX4_init_0 rfl ?_
  refine pm_objInit B dX4_init_1 (pm_T_in 230 (by decide +kernel) (by decide +kernel)) rfl rfl rfl rfl ?_
  refine pm_aload_n B dX4_init_4 rfl ?_
  refine pm_bipush (v := 8) B dX4_init_5 (by decide) ?_
  refine pm_newq (N := 8) (t0 := 5) B dX4_init_7 (pm_T_in 231 (by decide +kernel) (by decide +kernel)) ao_X10 rfl rfl rfl (by decide) (by decide) ?_
  refine pm_mem (M' := pm_up M (a + 1) (.inl (kA 5, 8, .inr (.inr (.inr (.inr (fun _ => none))))))) rfl ?_
  refine pm_stk (st' := [.ref (z + (a + 1)), .ref (z + a)]) rfl ?_
  refine pm_putF B dX4_init_10 ff_X4_11 rfl ((pm_up_n (by omega)).trans hM) rfl rfl rfl ?_
  refine pm_mem (M' := pm_up (pm_up M (a + 1) (.inl (kA 5, 8, .inr (.inr (.inr (.inr (fun _ => none))))))) a (.inr (2, [.ref (z + (a + 1)), .int 0, .int 0]))) rfl ?_
  refine pm_iconst (v := 0) B dX4_init_13 (by decide) ?_
  refine pm_istore_n B dX4_init_14 rfl rfl ?_
  refine pm_loc (L' := [some (.ref (z + a)), some (.int 0)]) rfl ?_
  refine pm_iload_n B dX4_init_15 rfl ?_
  refine pm_aload_n B dX4_init_16 rfl ?_
  refine pm_get B dX4_init_17 fl_X4_11 pm_up_s rfl ?_
  refine pm_alen B dX4_init_20 ((pm_up_n (by omega)).trans pm_up_s) rfl rfl ?_
  refine pm_stk (st' := [.int (nI 8), .int 0]) rfl ?_
  refine pm_icmp_ge (tgt := 43) B dX4_init_21 (by decide) (fun hq1 => absurd hq1 (by decide)) (fun hq1 => ?_)
  refine pm_aload_n B dX4_init_24 rfl ?_
  refine pm_get B dX4_init_25 fl_X4_11 pm_up_s rfl ?_
  refine pm_iload_n B dX4_init_28 rfl ?_
  refine pm_new (n0 := 9) B dX4_init_29 nw_X4_9 rfl (by decide) (by decide) ?_
  refine pm_mem (M' := pm_up (pm_up (pm_up M (a + 1) (.inl (kA 5, 8, .inr (.inr (.inr (.inr (fun _ => none))))))) a (.inr (2, [.ref (z + (a + 1)), .int 0, .int 0]))) (a + 2) (.inr (8, [.null, .null, .int 0, .int 0, .int 0, .int 0, .int 0, .int 0, .int 0]))) rfl ?_
  refine pm_stk (st' := [.ref (z + (a + 2)), .int 0, .ref (z + (a + 1))]) rfl ?_
  refine pm_dup B dX4_init_32 rfl ?_
  refine pm_cIx (As := []) (mc2 := 10) (ms2 := 61) B rfl (c_X10_init pm_up_s) mt_X10_init si_X4_15 dX4_init_33 rfl rfl rfl rfl rfl (fun ov1 n1 M1 hP1 => ?_)
  obtain ⟨rfl, rfl, S1_0, hk1⟩ := hP1
  refine pm_stk (st' := [.ref (z + (a + 2)), .int 0, .ref (z + (a + 1))]) rfl ?_
  refine pm_aast_n (t0 := 5) B dX4_init_36 ((hk1 _ (by omega)).trans ((pm_up_n (by omega)).trans ((pm_up_n (by omega)).trans pm_up_s))) rfl rfl 0 (by decide) (by decide) S1_0.1 ?_
  refine pm_mem (M' := pm_up M1 (a + 1) (.inl (kA 5, 8, .inr (.inr (.inr (.inr (va_up (fun _ => none) 0 (some (z + (a + 2)))))))))) rfl ?_
  refine pm_iinc B dX4_init_37 rfl rfl rfl ?_
  refine pm_loc (L' := [some (.ref (z + a)), some (.int 1)]) (by rw [show (0 : Int32) + Int32.ofInt 1 = 1 from by decide]; rfl) ?_
  refine pm_goto (tgt := 15) B dX4_init_40 (by decide) ?_
  refine pm_iload_n B dX4_init_15 rfl ?_
  refine pm_aload_n B dX4_init_16 rfl ?_
  refine pm_get B dX4_init_17 fl_X4_11 ((pm_up_n (by omega)).trans ((hk1 _ (by omega)).trans ((pm_up_n (by omega)).trans pm_up_s))) rfl ?_
  refine pm_alen B dX4_init_20 pm_up_s rfl rfl ?_
  refine pm_stk (st' := [.int (nI 8), .int 1]) rfl ?_
  refine pm_icmp_ge (tgt := 43) B dX4_init_21 (by decide) (fun hq2 => absurd hq2 (by decide)) (fun hq2 => ?_)
  refine pm_aload_n B dX4_init_24 rfl ?_
  refine pm_get B dX4_init_25 fl_X4_11 ((pm_up_n (by omega)).trans ((hk1 _ (by omega)).trans ((pm_up_n (by omega)).trans pm_up_s))) rfl ?_
  refine pm_iload_n B dX4_init_28 rfl ?_
  refine pm_new (n0 := 9) B dX4_init_29 nw_X4_9 rfl (by decide) (by decide) ?_
  refine pm_mem (M' := pm_up (pm_up M1 (a + 1) (.inl (kA 5, 8, .inr (.inr (.inr (.inr (va_up (fun _ => none) 0 (some (z + (a + 2)))))))))) (a + 13) (.inr (8, [.null, .null, .int 0, .int 0, .int 0, .int 0, .int 0, .int 0, .int 0]))) rfl ?_
  refine pm_stk (st' := [.ref (z + (a + 13)), .int 1, .ref (z + (a + 1))]) rfl ?_
  refine pm_dup B dX4_init_32 rfl ?_
  refine pm_cIx (As := []) (mc2 := 10) (ms2 := 61) B rfl (c_X10_init pm_up_s) mt_X10_init si_X4_15 dX4_init_33 rfl rfl rfl rfl rfl (fun ov2 n2 M2 hP2 => ?_)
  obtain ⟨rfl, rfl, S2_0, hk2⟩ := hP2
  refine pm_stk (st' := [.ref (z + (a + 13)), .int 1, .ref (z + (a + 1))]) rfl ?_
  refine pm_aast_n (t0 := 5) B dX4_init_36 ((hk2 _ (by omega)).trans ((pm_up_n (by omega)).trans pm_up_s)) rfl rfl 1 (by decide) (by decide) S2_0.1 ?_
  refine pm_mem (M' := pm_up M2 (a + 1) (.inl (kA 5, 8, .inr (.inr (.inr (.inr (va_up (va_up (fun _ => none) 0 (some (z + (a + 2)))) 1 (some (z + (a + 13)))))))))) rfl ?_
  refine pm_iinc B dX4_init_37 rfl rfl rfl ?_
  refine pm_loc (L' := [some (.ref (z + a)), some (.int 2)]) (by rw [show (1 : Int32) + Int32.ofInt 1 = 2 from by decide]; rfl) ?_
  refine pm_goto (tgt := 15) B dX4_init_40 (by decide) ?_
  refine pm_iload_n B dX4_init_15 rfl ?_
  refine pm_aload_n B dX4_init_16 rfl ?_
  refine pm_get B dX4_init_17 fl_X4_11 ((pm_up_n (by omega)).trans ((hk2 _ (by omega)).trans ((pm_up_n (by omega)).trans ((pm_up_n (by omega)).trans ((hk1 _ (by omega)).trans ((pm_up_n (by omega)).trans pm_up_s)))))) rfl ?_
  refine pm_alen B dX4_init_20 pm_up_s rfl rfl ?_
  refine pm_stk (st' := [.int (nI 8), .int 2]) rfl ?_
  refine pm_icmp_ge (tgt := 43) B dX4_init_21 (by decide) (fun hq3 => absurd hq3 (by decide)) (fun hq3 => ?_)
  refine pm_aload_n B dX4_init_24 rfl ?_
  refine pm_get B dX4_init_25 fl_X4_11 ((pm_up_n (by omega)).trans ((hk2 _ (by omega)).trans ((pm_up_n (by omega)).trans ((pm_up_n (by omega)).trans ((hk1 _ (by omega)).trans ((pm_up_n (by omega)).trans pm_up_s)))))) rfl ?_
  refine pm_iload_n B dX4_init_28 rfl ?_
  refine pm_new (n0 := 9) B dX4_init_29 nw_X4_9 rfl (by decide) (by decide) ?_
  refine pm_mem (M' := pm_up (pm_up M2 (a + 1) (.inl (kA 5, 8, .inr (.inr (.inr (.inr (va_up (va_up (fun _ => none) 0 (some (z + (a + 2)))) 1 (some (z + (a + 13)))))))))) (a + 24) (.inr (8, [.null, .null, .int 0, .int 0, .int 0, .int 0, .int 0, .int 0, .int 0]))) rfl ?_
  refine pm_stk (st' := [.ref (z + (a + 24)), .int 2, .ref (z + (a + 1))]) rfl ?_
  refine pm_dup B dX4_init_32 rfl ?_
  refine pm_cIx (As := []) (mc2 := 10) (ms2 := 61) B rfl (c_X10_init pm_up_s) mt_X10_init si_X4_15 dX4_init_33 rfl rfl rfl rfl rfl (fun ov3 n3 M3 hP3 => ?_)
  obtain ⟨rfl, rfl, S3_0, hk3⟩ := hP3
  refine pm_stk (st' := [.ref (z + (a + 24)), .int 2, .ref (z + (a + 1))]) rfl ?_
  refine pm_aast_n (t0 := 5) B dX4_init_36 ((hk3 _ (by omega)).trans ((pm_up_n (by omega)).trans pm_up_s)) rfl rfl 2 (by decide) (by decide) S3_0.1 ?_
  refine pm_mem (M' := pm_up M3 (a + 1) (.inl (kA 5, 8, .inr (.inr (.inr (.inr (va_up (va_up (va_up (fun _ => none) 0 (some (z + (a + 2)))) 1 (some (z + (a + 13)))) 2 (some (z + (a + 24)))))))))) rfl ?_
  refine pm_iinc B dX4_init_37 rfl rfl rfl ?_
  refine pm_loc (L' := [some (.ref (z + a)), some (.int 3)]) (by rw [show (2 : Int32) + Int32.ofInt 1 = 3 from by decide]; rfl) ?_
  refine pm_goto (tgt := 15) B dX4_init_40 (by decide) ?_
  refine pm_iload_n B dX4_init_15 rfl ?_
  refine pm_aload_n B dX4_init_16 rfl ?_
  refine pm_get B dX4_init_17 fl_X4_11 ((pm_up_n (by omega)).trans ((hk3 _ (by omega)).trans ((pm_up_n (by omega)).trans ((pm_up_n (by omega)).trans ((hk2 _ (by omega)).trans ((pm_up_n (by omega)).trans ((pm_up_n (by omega)).trans ((hk1 _ (by omega)).trans ((pm_up_n (by omega)).trans pm_up_s))))))))) rfl ?_
  refine pm_alen B dX4_init_20 pm_up_s rfl rfl ?_
  refine pm_stk (st' := [.int (nI 8), .int 3]) rfl ?_
  refine pm_icmp_ge (tgt := 43) B dX4_init_21 (by decide) (fun hq4 => absurd hq4 (by decide)) (fun hq4 => ?_)
  refine pm_aload_n B dX4_init_24 rfl ?_
  refine pm_get B dX4_init_25 fl_X4_11 ((pm_up_n (by omega)).trans ((hk3 _ (by omega)).trans ((pm_up_n (by omega)).trans ((pm_up_n (by omega)).trans ((hk2 _ (by omega)).trans ((pm_up_n (by omega)).trans ((pm_up_n (by omega)).trans ((hk1 _ (by omega)).trans ((pm_up_n (by omega)).trans pm_up_s))))))))) rfl ?_
  refine pm_iload_n B dX4_init_28 rfl ?_
  refine pm_new (n0 := 9) B dX4_init_29 nw_X4_9 rfl (by decide) (by decide) ?_
  refine pm_mem (M' := pm_up (pm_up M3 (a + 1) (.inl (kA 5, 8, .inr (.inr (.inr (.inr (va_up (va_up (va_up (fun _ => none) 0 (some (z + (a + 2)))) 1 (some (z + (a + 13)))) 2 (some (z + (a + 24)))))))))) (a + 35) (.inr (8, [.null, .null, .int 0, .int 0, .int 0, .int 0, .int 0, .int 0, .int 0]))) rfl ?_
  refine pm_stk (st' := [.ref (z + (a + 35)), .int 3, .ref (z + (a + 1))]) rfl ?_
  refine pm_dup B dX4_init_32 rfl ?_
  refine pm_cIx (As := []) (mc2 := 10) (ms2 := 61) B rfl (c_X10_init pm_up_s) mt_X10_init si_X4_15 dX4_init_33 rfl rfl rfl rfl rfl (fun ov4 n4 M4 hP4 => ?_)
  obtain ⟨rfl, rfl, S4_0, hk4⟩ := hP4
  refine pm_stk (st' := [.ref (z + (a + 35)), .int 3, .ref (z + (a + 1))]) rfl ?_
  refine pm_aast_n (t0 := 5) B dX4_init_36 ((hk4 _ (by omega)).trans ((pm_up_n (by omega)).trans pm_up_s)) rfl rfl 3 (by decide) (by decide) S4_0.1 ?_
  refine pm_mem (M' := pm_up M4 (a + 1) (.inl (kA 5, 8, .inr (.inr (.inr (.inr (va_up (va_up (va_up (va_up (fun _ => none) 0 (some (z + (a + 2)))) 1 (some (z + (a + 13)))) 2 (some (z + (a + 24)))) 3 (some (z + (a + 35)))))))))) rfl ?_
  refine pm_iinc B dX4_init_37 rfl rfl rfl ?_
  refine pm_loc (L' := [some (.ref (z + a)), some (.int 4)]) (by rw [show (3 : Int32) + Int32.ofInt 1 = 4 from by decide]; rfl) ?_
  refine pm_goto (tgt := 15) B dX4_init_40 (by decide) ?_
  refine pm_iload_n B dX4_init_15 rfl ?_
  refine pm_aload_n B dX4_init_16 rfl ?_
  refine pm_get B dX4_init_17 fl_X4_11 ((pm_up_n (by omega)).trans ((hk4 _ (by omega)).trans ((pm_up_n (by omega)).trans ((pm_up_n (by omega)).trans ((hk3 _ (by omega)).trans ((pm_up_n (by omega)).trans ((pm_up_n (by omega)).trans ((hk2 _ (by omega)).trans ((pm_up_n (by omega)).trans ((pm_up_n (by omega)).trans ((hk1 _ (by omega)).trans ((pm_up_n (by omega)).trans pm_up_s)))))))))))) rfl ?_
  refine pm_alen B dX4_init_20 pm_up_s rfl rfl ?_
  refine pm_stk (st' := [.int (nI 8), .int 4]) rfl ?_
  refine pm_icmp_ge (tgt := 43) B dX4_init_21 (by decide) (fun hq5 => absurd hq5 (by decide)) (fun hq5 => ?_)
  refine pm_aload_n B dX4_init_24 rfl ?_
  refine pm_get B dX4_init_25 fl_X4_11 ((pm_up_n (by omega)).trans ((hk4 _ (by omega)).trans ((pm_up_n (by omega)).trans ((pm_up_n (by omega)).trans ((hk3 _ (by omega)).trans ((pm_up_n (by omega)).trans ((pm_up_n (by omega)).trans ((hk2 _ (by omega)).trans ((pm_up_n (by omega)).trans ((pm_up_n (by omega)).trans ((hk1 _ (by omega)).trans ((pm_up_n (by omega)).trans pm_up_s)))))))))))) rfl ?_
  refine pm_iload_n B dX4_init_28 rfl ?_
  refine pm_new (n0 := 9) B dX4_init_29 nw_X4_9 rfl (by decide) (by decide) ?_
  refine pm_mem (M' := pm_up (pm_up M4 (a + 1) (.inl (kA 5, 8, .inr (.inr (.inr (.inr (va_up (va_up (va_up (va_up (fun _ => none) 0 (some (z + (a + 2)))) 1 (some (z + (a + 13)))) 2 (some (z + (a + 24)))) 3 (some (z + (a + 35)))))))))) (a + 46) (.inr (8, [.null, .null, .int 0, .int 0, .int 0, .int 0, .int 0, .int 0, .int 0]))) rfl ?_
  refine pm_stk (st' := [.ref (z + (a + 46)), .int 4, .ref (z + (a + 1))]) rfl ?_
  refine pm_dup B dX4_init_32 rfl ?_
  refine pm_cIx (As := []) (mc2 := 10) (ms2 := 61) B rfl (c_X10_init pm_up_s) mt_X10_init si_X4_15 dX4_init_33 rfl rfl rfl rfl rfl (fun ov5 n5 M5 hP5 => ?_)
  obtain ⟨rfl, rfl, S5_0, hk5⟩ := hP5
  refine pm_stk (st' := [.ref (z + (a + 46)), .int 4, .ref (z + (a + 1))]) rfl ?_
  refine pm_aast_n (t0 := 5) B dX4_init_36 ((hk5 _ (by omega)).trans ((pm_up_n (by omega)).trans pm_up_s)) rfl rfl 4 (by decide) (by decide) S5_0.1 ?_
  refine pm_mem (M' := pm_up M5 (a + 1) (.inl (kA 5, 8, .inr (.inr (.inr (.inr (va_up (va_up (va_up (va_up (va_up (fun _ => none) 0 (some (z + (a + 2)))) 1 (some (z + (a + 13)))) 2 (some (z + (a + 24)))) 3 (some (z + (a + 35)))) 4 (some (z + (a + 46)))))))))) rfl ?_
  refine pm_iinc B dX4_init_37 rfl rfl rfl ?_
  refine pm_loc (L' := [some (.ref (z + a)), some (.int 5)]) (by rw [show (4 : Int32) + Int32.ofInt 1 = 5 from by decide]; rfl) ?_
  refine pm_goto (tgt := 15) B dX4_init_40 (by decide) ?_
  refine pm_iload_n B dX4_init_15 rfl ?_
  refine pm_aload_n B dX4_init_16 rfl ?_
  refine pm_get B dX4_init_17 fl_X4_11 ((pm_up_n (by omega)).trans ((hk5 _ (by omega)).trans ((pm_up_n (by omega)).trans ((pm_up_n (by omega)).trans ((hk4 _ (by omega)).trans ((pm_up_n (by omega)).trans ((pm_up_n (by omega)).trans ((hk3 _ (by omega)).trans ((pm_up_n (by omega)).trans ((pm_up_n (by omega)).trans ((hk2 _ (by omega)).trans ((pm_up_n (by omega)).trans ((pm_up_n (by omega)).trans ((hk1 _ (by omega)).trans ((pm_up_n (by omega)).trans pm_up_s))))))))))))))) rfl ?_
  refine pm_alen B dX4_init_20 pm_up_s rfl rfl ?_
  refine pm_stk (st' := [.int (nI 8), .int 5]) rfl ?_
  refine pm_icmp_ge (tgt := 43) B dX4_init_21 (by decide) (fun hq6 => absurd hq6 (by decide)) (fun hq6 => ?_)
  refine pm_aload_n B dX4_init_24 rfl ?_
  refine pm_get B dX4_init_25 fl_X4_11 ((pm_up_n (by omega)).trans ((hk5 _ (by omega)).trans ((pm_up_n (by omega)).trans ((pm_up_n (by omega)).trans ((hk4 _ (by omega)).trans ((pm_up_n (by omega)).trans ((pm_up_n (by omega)).trans ((hk3 _ (by omega)).trans ((pm_up_n (by omega)).trans ((pm_up_n (by omega)).trans ((hk2 _ (by omega)).trans ((pm_up_n (by omega)).trans ((pm_up_n (by omega)).trans ((hk1 _ (by omega)).trans ((pm_up_n (by omega)).trans pm_up_s))))))))))))))) rfl ?_
  refine pm_iload_n B dX4_init_28 rfl ?_
  refine pm_new (n0 := 9) B dX4_init_29 nw_X4_9 rfl (by decide) (by decide) ?_
  refine pm_mem (M' := pm_up (pm_up M5 (a + 1) (.inl (kA 5, 8, .inr (.inr (.inr (.inr (va_up (va_up (va_up (va_up (va_up (fun _ => none) 0 (some (z + (a + 2)))) 1 (some (z + (a + 13)))) 2 (some (z + (a + 24)))) 3 (some (z + (a + 35)))) 4 (some (z + (a + 46)))))))))) (a + 57) (.inr (8, [.null, .null, .int 0, .int 0, .int 0, .int 0, .int 0, .int 0, .int 0]))) rfl ?_
  refine pm_stk (st' := [.ref (z + (a + 57)), .int 5, .ref (z + (a + 1))]) rfl ?_
  refine pm_dup B dX4_init_32 rfl ?_
  refine pm_cIx (As := []) (mc2 := 10) (ms2 := 61) B rfl (c_X10_init pm_up_s) mt_X10_init si_X4_15 dX4_init_33 rfl rfl rfl rfl rfl (fun ov6 n6 M6 hP6 => ?_)
  obtain ⟨rfl, rfl, S6_0, hk6⟩ := hP6
  refine pm_stk (st' := [.ref (z + (a + 57)), .int 5, .ref (z + (a + 1))]) rfl ?_
  refine pm_aast_n (t0 := 5) B dX4_init_36 ((hk6 _ (by omega)).trans ((pm_up_n (by omega)).trans pm_up_s)) rfl rfl 5 (by decide) (by decide) S6_0.1 ?_
  refine pm_mem (M' := pm_up M6 (a + 1) (.inl (kA 5, 8, .inr (.inr (.inr (.inr (va_up (va_up (va_up (va_up (va_up (va_up (fun _ => none) 0 (some (z + (a + 2)))) 1 (some (z + (a + 13)))) 2 (some (z + (a + 24)))) 3 (some (z + (a + 35)))) 4 (some (z + (a + 46)))) 5 (some (z + (a + 57)))))))))) rfl ?_
  refine pm_iinc B dX4_init_37 rfl rfl rfl ?_
  refine pm_loc (L' := [some (.ref (z + a)), some (.int 6)]) (by rw [show (5 : Int32) + Int32.ofInt 1 = 6 from by decide]; rfl) ?_
  refine pm_goto (tgt := 15) B dX4_init_40 (by decide) ?_
  refine pm_iload_n B dX4_init_15 rfl ?_
  refine pm_aload_n B dX4_init_16 rfl ?_
  refine pm_get B dX4_init_17 fl_X4_11 ((pm_up_n (by omega)).trans ((hk6 _ (by omega)).trans ((pm_up_n (by omega)).trans ((pm_up_n (by omega)).trans ((hk5 _ (by omega)).trans ((pm_up_n (by omega)).trans ((pm_up_n (by omega)).trans ((hk4 _ (by omega)).trans ((pm_up_n (by omega)).trans ((pm_up_n (by omega)).trans ((hk3 _ (by omega)).trans ((pm_up_n (by omega)).trans ((pm_up_n (by omega)).trans ((hk2 _ (by omega)).trans ((pm_up_n (by omega)).trans ((pm_up_n (by omega)).trans ((hk1 _ (by omega)).trans ((pm_up_n (by omega)).trans pm_up_s)))))))))))))))))) rfl ?_
  refine pm_alen B dX4_init_20 pm_up_s rfl rfl ?_
  refine pm_stk (st' := [.int (nI 8), .int 6]) rfl ?_
  refine pm_icmp_ge (tgt := 43) B dX4_init_21 (by decide) (fun hq7 => absurd hq7 (by decide)) (fun hq7 => ?_)
  refine pm_aload_n B dX4_init_24 rfl ?_
  refine pm_get B dX4_init_25 fl_X4_11 ((pm_up_n (by omega)).trans ((hk6 _ (by omega)).trans ((pm_up_n (by omega)).trans ((pm_up_n (by omega)).trans ((hk5 _ (by omega)).trans ((pm_up_n (by omega)).trans ((pm_up_n (by omega)).trans ((hk4 _ (by omega)).trans ((pm_up_n (by omega)).trans ((pm_up_n (by omega)).trans ((hk3 _ (by omega)).trans ((pm_up_n (by omega)).trans ((pm_up_n (by omega)).trans ((hk2 _ (by omega)).trans ((pm_up_n (by omega)).trans ((pm_up_n (by omega)).trans ((hk1 _ (by omega)).trans ((pm_up_n (by omega)).trans pm_up_s)))))))))))))))))) rfl ?_
  refine pm_iload_n B dX4_init_28 rfl ?_
  refine pm_new (n0 := 9) B dX4_init_29 nw_X4_9 rfl (by decide) (by decide) ?_
  refine pm_mem (M' := pm_up (pm_up M6 (a + 1) (.inl (kA 5, 8, .inr (.inr (.inr (.inr (va_up (va_up (va_up (va_up (va_up (va_up (fun _ => none) 0 (some (z + (a + 2)))) 1 (some (z + (a + 13)))) 2 (some (z + (a + 24)))) 3 (some (z + (a + 35)))) 4 (some (z + (a + 46)))) 5 (some (z + (a + 57)))))))))) (a + 68) (.inr (8, [.null, .null, .int 0, .int 0, .int 0, .int 0, .int 0, .int 0, .int 0]))) rfl ?_
  refine pm_stk (st' := [.ref (z + (a + 68)), .int 6, .ref (z + (a + 1))]) rfl ?_
  refine pm_dup B dX4_init_32 rfl ?_
  refine pm_cIx (As := []) (mc2 := 10) (ms2 := 61) B rfl (c_X10_init pm_up_s) mt_X10_init si_X4_15 dX4_init_33 rfl rfl rfl rfl rfl (fun ov7 n7 M7 hP7 => ?_)
  obtain ⟨rfl, rfl, S7_0, hk7⟩ := hP7
  refine pm_stk (st' := [.ref (z + (a + 68)), .int 6, .ref (z + (a + 1))]) rfl ?_
  refine pm_aast_n (t0 := 5) B dX4_init_36 ((hk7 _ (by omega)).trans ((pm_up_n (by omega)).trans pm_up_s)) rfl rfl 6 (by decide) (by decide) S7_0.1 ?_
  refine pm_mem (M' := pm_up M7 (a + 1) (.inl (kA 5, 8, .inr (.inr (.inr (.inr (va_up (va_up (va_up (va_up (va_up (va_up (va_up (fun _ => none) 0 (some (z + (a + 2)))) 1 (some (z + (a + 13)))) 2 (some (z + (a + 24)))) 3 (some (z + (a + 35)))) 4 (some (z + (a + 46)))) 5 (some (z + (a + 57)))) 6 (some (z + (a + 68)))))))))) rfl ?_
  refine pm_iinc B dX4_init_37 rfl rfl rfl ?_
  refine pm_loc (L' := [some (.ref (z + a)), some (.int 7)]) (by rw [show (6 : Int32) + Int32.ofInt 1 = 7 from by decide]; rfl) ?_
  refine pm_goto (tgt := 15) B dX4_init_40 (by decide) ?_
  refine pm_iload_n B dX4_init_15 rfl ?_
  refine pm_aload_n B dX4_init_16 rfl ?_
  refine pm_get B dX4_init_17 fl_X4_11 ((pm_up_n (by omega)).trans ((hk7 _ (by omega)).trans ((pm_up_n (by omega)).trans ((pm_up_n (by omega)).trans ((hk6 _ (by omega)).trans ((pm_up_n (by omega)).trans ((pm_up_n (by omega)).trans ((hk5 _ (by omega)).trans ((pm_up_n (by omega)).trans ((pm_up_n (by omega)).trans ((hk4 _ (by omega)).trans ((pm_up_n (by omega)).trans ((pm_up_n (by omega)).trans ((hk3 _ (by omega)).trans ((pm_up_n (by omega)).trans ((pm_up_n (by omega)).trans ((hk2 _ (by omega)).trans ((pm_up_n (by omega)).trans ((pm_up_n (by omega)).trans ((hk1 _ (by omega)).trans ((pm_up_n (by omega)).trans pm_up_s))))))))))))))))))))) rfl ?_
  refine pm_alen B dX4_init_20 pm_up_s rfl rfl ?_
  refine pm_stk (st' := [.int (nI 8), .int 7]) rfl ?_
  refine pm_icmp_ge (tgt := 43) B dX4_init_21 (by decide) (fun hq8 => absurd hq8 (by decide)) (fun hq8 => ?_)
  refine pm_aload_n B dX4_init_24 rfl ?_
  refine pm_get B dX4_init_25 fl_X4_11 ((pm_up_n (by omega)).trans ((hk7 _ (by omega)).trans ((pm_up_n (by omega)).trans ((pm_up_n (by omega)).trans ((hk6 _ (by omega)).trans ((pm_up_n (by omega)).trans ((pm_up_n (by omega)).trans ((hk5 _ (by omega)).trans ((pm_up_n (by omega)).trans ((pm_up_n (by omega)).trans ((hk4 _ (by omega)).trans ((pm_up_n (by omega)).trans ((pm_up_n (by omega)).trans ((hk3 _ (by omega)).trans ((pm_up_n (by omega)).trans ((pm_up_n (by omega)).trans ((hk2 _ (by omega)).trans ((pm_up_n (by omega)).trans ((pm_up_n (by omega)).trans ((hk1 _ (by omega)).trans ((pm_up_n (by omega)).trans pm_up_s))))))))))))))))))))) rfl ?_
  refine pm_iload_n B dX4_init_28 rfl ?_
  refine pm_new (n0 := 9) B dX4_init_29 nw_X4_9 rfl (by decide) (by decide) ?_
  refine pm_mem (M' := pm_up (pm_up M7 (a + 1) (.inl (kA 5, 8, .inr (.inr (.inr (.inr (va_up (va_up (va_up (va_up (va_up (va_up (va_up (fun _ => none) 0 (some (z + (a + 2)))) 1 (some (z + (a + 13)))) 2 (some (z + (a + 24)))) 3 (some (z + (a + 35)))) 4 (some (z + (a + 46)))) 5 (some (z + (a + 57)))) 6 (some (z + (a + 68)))))))))) (a + 79) (.inr (8, [.null, .null, .int 0, .int 0, .int 0, .int 0, .int 0, .int 0, .int 0]))) rfl ?_
  refine pm_stk (st' := [.ref (z + (a + 79)), .int 7, .ref (z + (a + 1))]) rfl ?_
  refine pm_dup B dX4_init_32 rfl ?_
  refine pm_cIx (As := []) (mc2 := 10) (ms2 := 61) B rfl (c_X10_init pm_up_s) mt_X10_init si_X4_15 dX4_init_33 rfl rfl rfl rfl rfl (fun ov8 n8 M8 hP8 => ?_)
  obtain ⟨rfl, rfl, S8_0, hk8⟩ := hP8
  refine pm_stk (st' := [.ref (z + (a + 79)), .int 7, .ref (z + (a + 1))]) rfl ?_
  refine pm_aast_n (t0 := 5) B dX4_init_36 ((hk8 _ (by omega)).trans ((pm_up_n (by omega)).trans pm_up_s)) rfl rfl 7 (by decide) (by decide) S8_0.1 ?_
  refine pm_mem (M' := pm_up M8 (a + 1) (.inl (kA 5, 8, .inr (.inr (.inr (.inr (va_up (va_up (va_up (va_up (va_up (va_up (va_up (va_up (fun _ => none) 0 (some (z + (a + 2)))) 1 (some (z + (a + 13)))) 2 (some (z + (a + 24)))) 3 (some (z + (a + 35)))) 4 (some (z + (a + 46)))) 5 (some (z + (a + 57)))) 6 (some (z + (a + 68)))) 7 (some (z + (a + 79)))))))))) rfl ?_
  refine pm_iinc B dX4_init_37 rfl rfl rfl ?_
  refine pm_loc (L' := [some (.ref (z + a)), some (.int 8)]) (by rw [show (7 : Int32) + Int32.ofInt 1 = 8 from by decide]; rfl) ?_
  refine pm_goto (tgt := 15) B dX4_init_40 (by decide) ?_
  refine pm_iload_n B dX4_init_15 rfl ?_
  refine pm_aload_n B dX4_init_16 rfl ?_
  refine pm_get B dX4_init_17 fl_X4_11 ((pm_up_n (by omega)).trans ((hk8 _ (by omega)).trans ((pm_up_n (by omega)).trans ((pm_up_n (by omega)).trans ((hk7 _ (by omega)).trans ((pm_up_n (by omega)).trans ((pm_up_n (by omega)).trans ((hk6 _ (by omega)).trans ((pm_up_n (by omega)).trans ((pm_up_n (by omega)).trans ((hk5 _ (by omega)).trans ((pm_up_n (by omega)).trans ((pm_up_n (by omega)).trans ((hk4 _ (by omega)).trans ((pm_up_n (by omega)).trans ((pm_up_n (by omega)).trans ((hk3 _ (by omega)).trans ((pm_up_n (by omega)).trans ((pm_up_n (by omega)).trans ((hk2 _ (by omega)).trans ((pm_up_n (by omega)).trans ((pm_up_n (by omega)).trans ((hk1 _ (by omega)).trans ((pm_up_n (by omega)).trans pm_up_s)))))))))))))))))))))))) rfl ?_
  refine pm_alen B dX4_init_20 pm_up_s rfl rfl ?_
  refine pm_stk (st' := [.int (nI 8), .int 8]) rfl ?_
  refine pm_icmp_ge (tgt := 43) B dX4_init_21 (by decide) (fun hq9 => ?_) (fun hq9 => absurd (by decide) hq9)
  exact pm_return B dX4_init_43 rfl ⟨none, rfl, rfl, rfl, ((pm_up_n (by omega)).trans ((hk8 _ (by omega)).trans ((pm_up_n (by omega)).trans ((pm_up_n (by omega)).trans ((hk7 _ (by omega)).trans ((pm_up_n (by omega)).trans ((pm_up_n (by omega)).trans ((hk6 _ (by omega)).trans ((pm_up_n (by omega)).trans ((pm_up_n (by omega)).trans ((hk5 _ (by omega)).trans ((pm_up_n (by omega)).trans ((pm_up_n (by omega)).trans ((hk4 _ (by omega)).trans ((pm_up_n (by omega)).trans ((pm_up_n (by omega)).trans ((hk3 _ (by omega)).trans ((pm_up_n (by omega)).trans ((pm_up_n (by omega)).trans ((hk2 _ (by omega)).trans ((pm_up_n (by omega)).trans ((pm_up_n (by omega)).trans ((hk1 _ (by omega)).trans ((pm_up_n (by omega)).trans pm_up_s)))))))))))))))))))))))), pm_up_s, (pm_SA_up (by omega) (pm_SA_eq (pm_SA_up (by omega) (pm_SA_up (by omega) (pm_SA_eq (pm_SA_up (by omega) (pm_SA_up (by omega) (pm_SA_eq (pm_SA_up (by omega) (pm_SA_up (by omega) (pm_SA_eq (pm_SA_up (by omega) (pm_SA_up (by omega) (pm_SA_eq (pm_SA_up (by omega) (pm_SA_up (by omega) (pm_SA_eq (pm_SA_up (by omega) (pm_SA_up (by omega) (pm_SA_eq (pm_SA_up (by omega) (pm_SA_up (by omega) S1_0)) (fun x h1 h2 => hk2 x (by omega))))) (fun x h1 h2 => hk3 x (by omega))))) (fun x h1 h2 => hk4 x (by omega))))) (fun x h1 h2 => hk5 x (by omega))))) (fun x h1 h2 => hk6 x (by omega))))) (fun x h1 h2 => hk7 x (by omega))))) (fun x h1 h2 => hk8 x (by omega)))), (pm_SA_up (by omega) (pm_SA_eq (pm_SA_up (by omega) (pm_SA_up (by omega) (pm_SA_eq (pm_SA_up (by omega) (pm_SA_up (by omega) (pm_SA_eq (pm_SA_up (by omega) (pm_SA_up (by omega) (pm_SA_eq (pm_SA_up (by omega) (pm_SA_up (by omega) (pm_SA_eq (pm_SA_up (by omega) (pm_SA_up (by omega) (pm_SA_eq (pm_SA_up (by omega) (pm_SA_up (by omega) S2_0)) (fun x h1 h2 => hk3 x (by omega))))) (fun x h1 h2 => hk4 x (by omega))))) (fun x h1 h2 => hk5 x (by omega))))) (fun x h1 h2 => hk6 x (by omega))))) (fun x h1 h2 => hk7 x (by omega))))) (fun x h1 h2 => hk8 x (by omega)))), (pm_SA_up (by omega) (pm_SA_eq (pm_SA_up (by omega) (pm_SA_up (by omega) (pm_SA_eq (pm_SA_up (by omega) (pm_SA_up (by omega) (pm_SA_eq (pm_SA_up (by omega) (pm_SA_up (by omega) (pm_SA_eq (pm_SA_up (by omega) (pm_SA_up (by omega) (pm_SA_eq (pm_SA_up (by omega) (pm_SA_up (by omega) S3_0)) (fun x h1 h2 => hk4 x (by omega))))) (fun x h1 h2 => hk5 x (by omega))))) (fun x h1 h2 => hk6 x (by omega))))) (fun x h1 h2 => hk7 x (by omega))))) (fun x h1 h2 => hk8 x (by omega)))), (pm_SA_up (by omega) (pm_SA_eq (pm_SA_up (by omega) (pm_SA_up (by omega) (pm_SA_eq (pm_SA_up (by omega) (pm_SA_up (by omega) (pm_SA_eq (pm_SA_up (by omega) (pm_SA_up (by omega) (pm_SA_eq (pm_SA_up (by omega) (pm_SA_up (by omega) S4_0)) (fun x h1 h2 => hk5 x (by omega))))) (fun x h1 h2 => hk6 x (by omega))))) (fun x h1 h2 => hk7 x (by omega))))) (fun x h1 h2 => hk8 x (by omega)))), (pm_SA_up (by omega) (pm_SA_eq (pm_SA_up (by omega) (pm_SA_up (by omega) (pm_SA_eq (pm_SA_up (by omega) (pm_SA_up (by omega) (pm_SA_eq (pm_SA_up (by omega) (pm_SA_up (by omega) S5_0)) (fun x h1 h2 => hk6 x (by omega))))) (fun x h1 h2 => hk7 x (by omega))))) (fun x h1 h2 => hk8 x (by omega)))), (pm_SA_up (by omega) (pm_SA_eq (pm_SA_up (by omega) (pm_SA_up (by omega) (pm_SA_eq (pm_SA_up (by omega) (pm_SA_up (by omega) S6_0)) (fun x h1 h2 => hk7 x (by omega))))) (fun x h1 h2 => hk8 x (by omega)))), (pm_SA_up (by omega) (pm_SA_eq (pm_SA_up (by omega) (pm_SA_up (by omega) S7_0)) (fun x h1 h2 => hk8 x (by omega)))), (pm_SA_up (by omega) S8_0), fun x hx => ((pm_up_n (by omega)).trans ((hk8 x (by omega)).trans ((pm_up_n (by omega)).trans ((pm_up_n (by omega)).trans ((hk7 x (by omega)).trans ((pm_up_n (by omega)).trans ((pm_up_n (by omega)).trans ((hk6 x (by omega)).trans ((pm_up_n (by omega)).trans ((pm_up_n (by omega)).trans ((hk5 x (by omega)).trans ((pm_up_n (by omega)).trans ((pm_up_n (by omega)).trans ((hk4 x (by omega)).trans ((pm_up_n (by omega)).trans ((pm_up_n (by omega)).trans ((hk3 x (by omega)).trans ((pm_up_n (by omega)).trans ((pm_up_n (by omega)).trans ((hk2 x (by omega)).trans ((pm_up_n (by omega)).trans ((pm_up_n (by omega)).trans ((hk1 x (by omega)).trans ((pm_up_n (by omega)).trans ((pm_up_n (by omega)).trans ((pm_up_n (by omega)).trans rfl))))))))))))))))))))))))))⟩ rfl rfl
theorem pm_hp_v {z : Nat} : (va_up (va_up (va_up (va_up (va_up (va_up (va_up (va_up (fun _ => none) 0 (some (z + (39 + 2)))) 1 (some (z + (39 + 13)))) 2 (some (z + (39 + 24)))) 3 (some (z + (39 + 35)))) 4 (some (z + (39 + 46)))) 5 (some (z + (39 + 57)))) 6 (some (z + (39 + 68)))) 7 (some (z + (39 + 79))) : Nat → Option Nat) = pm_hp z := by
  funext j
  simp only [va_up, pm_hp]
  (repeat' split) <;> first | (exfalso; omega) | (congr 1; omega) | rfl
theorem pm_cf_n {kE : Nat → Nat} : (fun _ => none : Nat → Option Nat) = pm_cf kE (fun _ => 11) := by
  funext j
  exact (if_neg (show ¬ pm_n (11 : Int32) < 11 by decide +kernel)).symm
/-- the class when it is made -/
def pm_T0 (z : Nat) (kA : Nat → ClassId) (kE : Nat → Nat) (M : pm_M) : Prop :=
  M 0 = some (pm_to z (fun _ => 0) .null) ∧ M 1 = some (.inr (5, [.ref (z + 2), .ref (z + 13), .ref (z + 16)])) ∧ pm_SA z kA 2 M pm_r0 ∧ M 13 = some (.inr (0, [.ref (z + 14), .ref (z + 15)])) ∧ M 14 = some (.inl (kA 0, 7, .inl (fun _ => 0))) ∧ M 15 = some (.inl (kA 0, 7, .inl (fun _ => 0))) ∧ M 16 = some (.inl (kA 0, 7, .inl (fun _ => 0))) ∧
  pm_SA z kA 17 M pm_r0 ∧ pm_SA z kA 28 M pm_r0 ∧ M 39 = some (pm_ho z 0 0) ∧ pm_HA z kA M (fun _ => pm_r0) ∧ M 129 = some (.inr (9, [.ref (z + 130)])) ∧ M 130 = some (.inl (kA 0, 141, .inl (fun _ => 0))) ∧ M 131 = some (.inr (1, [.ref (z + 132), .int 0])) ∧ M 132 = some (.inl (kA 0, 7, .inl (fun _ => 0))) ∧
  M 133 = some (pm_scr z (fun _ => 0)) ∧ M 134 = some (.inl (kA 3, 60, .inl (fun _ => 0))) ∧ M 135 = some (pm_co kA kE (fun _ => 11)) ∧ M 136 = some (.inl (kA 0, 11, .inl (fun _ => 0))) ∧ M 137 = some (.inl (kA 0, 11, .inl (fun _ => 0))) ∧ M 138 = some (.inr (12, [.ref (z + 139), .int 0, .int 0, .int (nI 0)])) ∧ M 139 = some (.inl (kA 4, 16, .inl (fun _ => 0)))
set_option maxRecDepth 100000 in
set_option maxHeartbeats 4000000 in
theorem c_X12_init {l : Launch} {z : Nat} {D : va_G} {kA : Nat → ClassId} {kE : Nat → Nat} {M : pm_M} (hM : M 0 = some (.inr (10, [.null, .null, .null, .null, .null, .null, .null, .null, .null, .int 0, .int 0, .int 0, .null]))) : pm_C l z D kA kE yX12_init cX12_init 1 none 4 139 1078 [.ref (z + 0)] 1 M (pm_rx (fun ov n' M' => ov = none ∧ n' = 140 ∧ pm_T0 z kA kE M')) := by
  refine pm_mk (own := RX12) (nm := "<init>") mt_X12_init rfl rfl rfl rfl fun X B => ?_
  refine pm_loc (L' := [some (.ref (z + 0))]) rfl ?_
  refine pm_aload_n B dX12_init_0 rfl ?_
  refine pm_objInit B dX12_init_1 (pm_T_in 80 (by decide +kernel) (by decide +kernel)) rfl rfl rfl rfl ?_
  refine pm_aload_n B dX12_init_4 rfl ?_
  refine pm_new (n0 := 3) B dX12_init_5 nw_X12_7 rfl (by decide) (by decide) ?_
  refine pm_mem (M' := pm_up M 1 (.inr (5, [.null, .null, .null]))) rfl ?_
  refine pm_stk (st' := [.ref (z + 1), .ref (z + 0)]) rfl ?_
  refine pm_dup B dX12_init_8 rfl ?_
  refine pm_cINx (As := []) (mc2 := 15) (ms2 := 93) B rfl (c_X7_init pm_up_s) mt_X7_init si_X12_9 dX12_init_9 rfl rfl rfl rfl rfl (fun ov1 n1 M1 hP1 => ?_)
  obtain ⟨rfl, rfl, r1_0, r1_12, r1_13, r1_14, r1_15, S1_1, hk1⟩ := hP1
  refine pm_stk (st' := [.ref (z + 1), .ref (z + 0)]) rfl ?_
  refine pm_putF B dX12_init_12 ff_X12_10 rfl ((hk1 _ (by omega)).trans ((pm_up_n (by decide)).trans hM)) rfl rfl rfl ?_
  refine pm_mem (M' := pm_up M1 0 (.inr (10, [.ref (z + 1), .null, .null, .null, .null, .null, .null, .null, .null, .int 0, .int 0, .int 0, .null]))) rfl ?_
  refine pm_aload_n B dX12_init_15 rfl ?_
  refine pm_aload_n B dX12_init_16 rfl ?_
  refine pm_get B dX12_init_17 fl_X12_10 pm_up_s rfl ?_
  refine pm_get B dX12_init_20 fl_X12_16 ((pm_up_n (by decide)).trans r1_0) rfl ?_
  refine pm_putF B dX12_init_23 ff_X12_20 rfl pm_up_s rfl rfl rfl ?_
  refine pm_mem (M' := pm_up M1 0 (.inr (10, [.ref (z + 1), .ref (z + 2), .null, .null, .null, .null, .null, .null, .null, .int 0, .int 0, .int 0, .null]))) pm_up_up ?_
  refine pm_aload_n B dX12_init_26 rfl ?_
  refine pm_new (n0 := 9) B dX12_init_27 nw_X12_21 rfl (by decide) (by decide) ?_
  refine pm_mem (M' := pm_up (pm_up M1 0 (.inr (10, [.ref (z + 1), .ref (z + 2), .null, .null, .null, .null, .null, .null, .null, .int 0, .int 0, .int 0, .null]))) 17 (.inr (8, [.null, .null, .int 0, .int 0, .int 0, .int 0, .int 0, .int 0, .int 0]))) rfl ?_
  refine pm_stk (st' := [.ref (z + 17), .ref (z + 0)]) rfl ?_
  refine pm_dup B dX12_init_30 rfl ?_
  refine pm_cIx (As := []) (mc2 := 10) (ms2 := 61) B rfl (c_X10_init pm_up_s) mt_X10_init si_X12_23 dX12_init_31 rfl rfl rfl rfl rfl (fun ov2 n2 M2 hP2 => ?_)
  obtain ⟨rfl, rfl, S2_0, hk2⟩ := hP2
  refine pm_stk (st' := [.ref (z + 17), .ref (z + 0)]) rfl ?_
  refine pm_putF B dX12_init_34 ff_X12_24 rfl ((hk2 _ (by omega)).trans ((pm_up_n (by decide)).trans pm_up_s)) rfl rfl rfl ?_
  refine pm_mem (M' := pm_up M2 0 (.inr (10, [.ref (z + 1), .ref (z + 2), .ref (z + 17), .null, .null, .null, .null, .null, .null, .int 0, .int 0, .int 0, .null]))) rfl ?_
  refine pm_aload_n B dX12_init_37 rfl ?_
  refine pm_new (n0 := 9) B dX12_init_38 nw_X12_21 rfl (by decide) (by decide) ?_
  refine pm_mem (M' := pm_up (pm_up M2 0 (.inr (10, [.ref (z + 1), .ref (z + 2), .ref (z + 17), .null, .null, .null, .null, .null, .null, .int 0, .int 0, .int 0, .null]))) 28 (.inr (8, [.null, .null, .int 0, .int 0, .int 0, .int 0, .int 0, .int 0, .int 0]))) rfl ?_
  refine pm_stk (st' := [.ref (z + 28), .ref (z + 0)]) rfl ?_
  refine pm_dup B dX12_init_41 rfl ?_
  refine pm_cIx (As := []) (mc2 := 10) (ms2 := 61) B rfl (c_X10_init pm_up_s) mt_X10_init si_X12_23 dX12_init_42 rfl rfl rfl rfl rfl (fun ov3 n3 M3 hP3 => ?_)
  obtain ⟨rfl, rfl, S3_0, hk3⟩ := hP3
  refine pm_stk (st' := [.ref (z + 28), .ref (z + 0)]) rfl ?_
  refine pm_putF B dX12_init_45 ff_X12_27 rfl ((hk3 _ (by omega)).trans ((pm_up_n (by decide)).trans pm_up_s)) rfl rfl rfl ?_
  refine pm_mem (M' := pm_up M3 0 (.inr (10, [.ref (z + 1), .ref (z + 2), .ref (z + 17), .ref (z + 28), .null, .null, .null, .null, .null, .int 0, .int 0, .int 0, .null]))) rfl ?_
  refine pm_aload_n B dX12_init_48 rfl ?_
  refine pm_new (n0 := 3) B dX12_init_49 nw_X12_30 rfl (by decide) (by decide) ?_
  refine pm_mem (M' := pm_up (pm_up M3 0 (.inr (10, [.ref (z + 1), .ref (z + 2), .ref (z + 17), .ref (z + 28), .null, .null, .null, .null, .null, .int 0, .int 0, .int 0, .null]))) 39 (.inr (2, [.null, .int 0, .int 0]))) rfl ?_
  refine pm_stk (st' := [.ref (z + 39), .ref (z + 0)]) rfl ?_
  refine pm_dup B dX12_init_52 rfl ?_
  refine pm_cIx (As := []) (mc2 := 89) (ms2 := 568) B rfl (c_X4_init pm_up_s) mt_X4_init si_X12_32 dX12_init_53 rfl rfl rfl rfl rfl (fun ov4 n4 M4 hP4 => ?_)
  obtain ⟨rfl, rfl, r4_0, r4_1, S4_2, S4_13, S4_24, S4_35, S4_46, S4_57, S4_68, S4_79, hk4⟩ := hP4
  refine pm_stk (st' := [.ref (z + 39), .ref (z + 0)]) rfl ?_
  refine pm_putF B dX12_init_56 ff_X12_33 rfl ((hk4 _ (by omega)).trans ((pm_up_n (by decide)).trans pm_up_s)) rfl rfl rfl ?_
  refine pm_mem (M' := pm_up M4 0 (.inr (10, [.ref (z + 1), .ref (z + 2), .ref (z + 17), .ref (z + 28), .ref (z + 39), .null, .null, .null, .null, .int 0, .int 0, .int 0, .null]))) rfl ?_
  refine pm_aload_n B dX12_init_59 rfl ?_
  refine pm_new (n0 := 1) B dX12_init_60 nw_X12_37 rfl (by decide) (by decide) ?_
  refine pm_mem (M' := pm_up (pm_up M4 0 (.inr (10, [.ref (z + 1), .ref (z + 2), .ref (z + 17), .ref (z + 28), .ref (z + 39), .null, .null, .null, .null, .int 0, .int 0, .int 0, .null]))) 129 (.inr (9, [.null]))) rfl ?_
  refine pm_stk (st' := [.ref (z + 129), .ref (z + 0)]) rfl ?_
  refine pm_dup B dX12_init_63 rfl ?_
  refine pm_cINx (As := []) (mc2 := 1) (ms2 := 141) B rfl (c_X11_init pm_up_s) mt_X11_init si_X12_39 dX12_init_64 rfl rfl rfl rfl rfl (fun ov5 n5 M5 hP5 => ?_)
  obtain ⟨rfl, rfl, r5_0, r5_1, hk5⟩ := hP5
  refine pm_stk (st' := [.ref (z + 129), .ref (z + 0)]) rfl ?_
  refine pm_putF B dX12_init_67 ff_X12_40 rfl ((hk5 _ (by omega)).trans ((pm_up_n (by decide)).trans pm_up_s)) rfl rfl rfl ?_
  refine pm_mem (M' := pm_up M5 0 (.inr (10, [.ref (z + 1), .ref (z + 2), .ref (z + 17), .ref (z + 28), .ref (z + 39), .ref (z + 129), .null, .null, .null, .int 0, .int 0, .int 0, .null]))) rfl ?_
  refine pm_aload_n B dX12_init_70 rfl ?_
  refine pm_new (n0 := 2) B dX12_init_71 nw_X12_44 rfl (by decide) (by decide) ?_
  refine pm_mem (M' := pm_up (pm_up M5 0 (.inr (10, [.ref (z + 1), .ref (z + 2), .ref (z + 17), .ref (z + 28), .ref (z + 39), .ref (z + 129), .null, .null, .null, .int 0, .int 0, .int 0, .null]))) 131 (.inr (1, [.null, .int 0]))) rfl ?_
  refine pm_stk (st' := [.ref (z + 131), .ref (z + 0)]) rfl ?_
  refine pm_dup B dX12_init_74 rfl ?_
  refine pm_cINx (As := []) (mc2 := 1) (ms2 := 7) B rfl (c_X3_init pm_up_s) mt_X3_init si_X12_46 dX12_init_75 rfl rfl rfl rfl rfl (fun ov6 n6 M6 hP6 => ?_)
  obtain ⟨rfl, rfl, r6_0, r6_1, hk6⟩ := hP6
  refine pm_stk (st' := [.ref (z + 131), .ref (z + 0)]) rfl ?_
  refine pm_putF B dX12_init_78 ff_X12_47 rfl ((hk6 _ (by omega)).trans ((pm_up_n (by decide)).trans pm_up_s)) rfl rfl rfl ?_
  refine pm_mem (M' := pm_up M6 0 (.inr (10, [.ref (z + 1), .ref (z + 2), .ref (z + 17), .ref (z + 28), .ref (z + 39), .ref (z + 129), .ref (z + 131), .null, .null, .int 0, .int 0, .int 0, .null]))) rfl ?_
  refine pm_aload_n B dX12_init_81 rfl ?_
  refine pm_new (n0 := 7) B dX12_init_82 nw_X12_51 rfl (by decide) (by decide) ?_
  refine pm_mem (M' := pm_up (pm_up M6 0 (.inr (10, [.ref (z + 1), .ref (z + 2), .ref (z + 17), .ref (z + 28), .ref (z + 39), .ref (z + 129), .ref (z + 131), .null, .null, .int 0, .int 0, .int 0, .null]))) 133 (.inr (7, [.null, .null, .null, .null, .int 0, .int 0, .int 0]))) rfl ?_
  refine pm_stk (st' := [.ref (z + 133), .ref (z + 0)]) rfl ?_
  refine pm_dup B dX12_init_85 rfl ?_
  refine pm_cINx (As := []) (mc2 := 4) (ms2 := 93) B rfl (c_X9_init pm_up_s) mt_X9_init si_X12_53 dX12_init_86 rfl rfl rfl rfl rfl (fun ov7 n7 M7 hP7 => ?_)
  obtain ⟨rfl, rfl, r7_0, r7_1, r7_2, r7_3, r7_4, hk7⟩ := hP7
  refine pm_stk (st' := [.ref (z + 133), .ref (z + 0)]) rfl ?_
  refine pm_putF B dX12_init_89 ff_X12_54 rfl ((hk7 _ (by omega)).trans ((pm_up_n (by decide)).trans pm_up_s)) rfl rfl rfl ?_
  refine pm_mem (M' := pm_up M7 0 (.inr (10, [.ref (z + 1), .ref (z + 2), .ref (z + 17), .ref (z + 28), .ref (z + 39), .ref (z + 129), .ref (z + 131), .ref (z + 133), .null, .int 0, .int 0, .int 0, .null]))) rfl ?_
  refine pm_aload_n B dX12_init_92 rfl ?_
  refine pm_new (n0 := 4) B dX12_init_93 nw_X12_58 rfl (by decide) (by decide) ?_
  refine pm_mem (M' := pm_up (pm_up M7 0 (.inr (10, [.ref (z + 1), .ref (z + 2), .ref (z + 17), .ref (z + 28), .ref (z + 39), .ref (z + 129), .ref (z + 131), .ref (z + 133), .null, .int 0, .int 0, .int 0, .null]))) 138 (.inr (12, [.null, .int 0, .int 0, .int 0]))) rfl ?_
  refine pm_stk (st' := [.ref (z + 138), .ref (z + 0)]) rfl ?_
  refine pm_dup B dX12_init_96 rfl ?_
  refine pm_cIx (As := []) (mc2 := 1) (ms2 := 16) B rfl (c_J4_init_da8c8 pm_up_s) mt_J4_init_da8c8 si_X12_60 dX12_init_97 rfl rfl rfl rfl rfl (fun ov8 n8 M8 hP8 => ?_)
  obtain ⟨rfl, rfl, r8_0, r8_1, hk8⟩ := hP8
  refine pm_stk (st' := [.ref (z + 138), .ref (z + 0)]) rfl ?_
  refine pm_putF B dX12_init_100 ff_X12_61 rfl ((hk8 _ (by omega)).trans ((pm_up_n (by decide)).trans pm_up_s)) rfl rfl rfl ?_
  refine pm_mem (M' := pm_up M8 0 (.inr (10, [.ref (z + 1), .ref (z + 2), .ref (z + 17), .ref (z + 28), .ref (z + 39), .ref (z + 129), .ref (z + 131), .ref (z + 133), .ref (z + 138), .int 0, .int 0, .int 0, .null]))) rfl ?_
  exact pm_return B dX12_init_103 rfl ⟨none, rfl, rfl, rfl, pm_up_s, ((pm_up_n (by decide)).trans ((hk8 _ (by omega)).trans ((pm_up_n (by decide)).trans ((pm_up_n (by decide)).trans ((hk7 _ (by omega)).trans ((pm_up_n (by decide)).trans ((pm_up_n (by decide)).trans ((hk6 _ (by omega)).trans ((pm_up_n (by decide)).trans ((pm_up_n (by decide)).trans ((hk5 _ (by omega)).trans ((pm_up_n (by decide)).trans ((pm_up_n (by decide)).trans ((hk4 _ (by omega)).trans ((pm_up_n (by decide)).trans ((pm_up_n (by decide)).trans ((hk3 _ (by omega)).trans ((pm_up_n (by decide)).trans ((pm_up_n (by decide)).trans ((hk2 _ (by omega)).trans ((pm_up_n (by decide)).trans ((pm_up_n (by decide)).trans r1_0)))))))))))))))))))))), (pm_SA_up (by omega) (pm_SA_eq (pm_SA_up (by omega) (pm_SA_up (by omega) (pm_SA_eq (pm_SA_up (by omega) (pm_SA_up (by omega) (pm_SA_eq (pm_SA_up (by omega) (pm_SA_up (by omega) (pm_SA_eq (pm_SA_up (by omega) (pm_SA_up (by omega) (pm_SA_eq (pm_SA_up (by omega) (pm_SA_up (by omega) (pm_SA_eq (pm_SA_up (by omega) (pm_SA_up (by omega) (pm_SA_eq (pm_SA_up (by omega) (pm_SA_up (by omega) S1_1)) (fun x h1 h2 => hk2 x (by omega))))) (fun x h1 h2 => hk3 x (by omega))))) (fun x h1 h2 => hk4 x (by omega))))) (fun x h1 h2 => hk5 x (by omega))))) (fun x h1 h2 => hk6 x (by omega))))) (fun x h1 h2 => hk7 x (by omega))))) (fun x h1 h2 => hk8 x (by omega)))), ((pm_up_n (by decide)).trans ((hk8 _ (by omega)).trans ((pm_up_n (by decide)).trans ((pm_up_n (by decide)).trans ((hk7 _ (by omega)).trans ((pm_up_n (by decide)).trans ((pm_up_n (by decide)).trans ((hk6 _ (by omega)).trans ((pm_up_n (by decide)).trans ((pm_up_n (by decide)).trans ((hk5 _ (by omega)).trans ((pm_up_n (by decide)).trans ((pm_up_n (by decide)).trans ((hk4 _ (by omega)).trans ((pm_up_n (by decide)).trans ((pm_up_n (by decide)).trans ((hk3 _ (by omega)).trans ((pm_up_n (by decide)).trans ((pm_up_n (by decide)).trans ((hk2 _ (by omega)).trans ((pm_up_n (by decide)).trans ((pm_up_n (by decide)).trans r1_12)))))))))))))))))))))), ((pm_up_n (by decide)).trans ((hk8 _ (by omega)).trans ((pm_up_n (by decide)).trans ((pm_up_n (by decide)).trans ((hk7 _ (by omega)).trans ((pm_up_n (by decide)).trans ((pm_up_n (by decide)).trans ((hk6 _ (by omega)).trans ((pm_up_n (by decide)).trans ((pm_up_n (by decide)).trans ((hk5 _ (by omega)).trans ((pm_up_n (by decide)).trans ((pm_up_n (by decide)).trans ((hk4 _ (by omega)).trans ((pm_up_n (by decide)).trans ((pm_up_n (by decide)).trans ((hk3 _ (by omega)).trans ((pm_up_n (by decide)).trans ((pm_up_n (by decide)).trans ((hk2 _ (by omega)).trans ((pm_up_n (by decide)).trans ((pm_up_n (by decide)).trans r1_13)))))))))))))))))))))), ((pm_up_n (by decide)).trans ((hk8 _ (by omega)).trans ((pm_up_n (by decide)).trans ((pm_up_n (by decide)).trans ((hk7 _ (by omega)).trans ((pm_up_n (by decide)).trans ((pm_up_n (by decide)).trans ((hk6 _ (by omega)).trans ((pm_up_n (by decide)).trans ((pm_up_n (by decide)).trans ((hk5 _ (by omega)).trans ((pm_up_n (by decide)).trans ((pm_up_n (by decide)).trans ((hk4 _ (by omega)).trans ((pm_up_n (by decide)).trans ((pm_up_n (by decide)).trans ((hk3 _ (by omega)).trans ((pm_up_n (by decide)).trans ((pm_up_n (by decide)).trans ((hk2 _ (by omega)).trans ((pm_up_n (by decide)).trans ((pm_up_n (by decide)).trans r1_14)))))))))))))))))))))), ((pm_up_n (by decide)).trans ((hk8 _ (by omega)).trans ((pm_up_n (by decide)).trans ((pm_up_n (by decide)).trans ((hk7 _ (by omega)).trans ((pm_up_n (by decide)).trans ((pm_up_n (by decide)).trans ((hk6 _ (by omega)).trans ((pm_up_n (by decide)).trans ((pm_up_n (by decide)).trans ((hk5 _ (by omega)).trans ((pm_up_n (by decide)).trans ((pm_up_n (by decide)).trans ((hk4 _ (by omega)).trans ((pm_up_n (by decide)).trans ((pm_up_n (by decide)).trans ((hk3 _ (by omega)).trans ((pm_up_n (by decide)).trans ((pm_up_n (by decide)).trans ((hk2 _ (by omega)).trans ((pm_up_n (by decide)).trans ((pm_up_n (by decide)).trans r1_15)))))))))))))))))))))), (pm_SA_up (by omega) (pm_SA_eq (pm_SA_up (by omega) (pm_SA_up (by omega) (pm_SA_eq (pm_SA_up (by omega) (pm_SA_up (by omega) (pm_SA_eq (pm_SA_up (by omega) (pm_SA_up (by omega) (pm_SA_eq (pm_SA_up (by omega) (pm_SA_up (by omega) (pm_SA_eq (pm_SA_up (by omega) (pm_SA_up (by omega) (pm_SA_eq (pm_SA_up (by omega) (pm_SA_up (by omega) S2_0)) (fun x h1 h2 => hk3 x (by omega))))) (fun x h1 h2 => hk4 x (by omega))))) (fun x h1 h2 => hk5 x (by omega))))) (fun x h1 h2 => hk6 x (by omega))))) (fun x h1 h2 => hk7 x (by omega))))) (fun x h1 h2 => hk8 x (by omega)))), (pm_SA_up (by omega) (pm_SA_eq (pm_SA_up (by omega) (pm_SA_up (by omega) (pm_SA_eq (pm_SA_up (by omega) (pm_SA_up (by omega) (pm_SA_eq (pm_SA_up (by omega) (pm_SA_up (by omega) (pm_SA_eq (pm_SA_up (by omega) (pm_SA_up (by omega) (pm_SA_eq (pm_SA_up (by omega) (pm_SA_up (by omega) S3_0)) (fun x h1 h2 => hk4 x (by omega))))) (fun x h1 h2 => hk5 x (by omega))))) (fun x h1 h2 => hk6 x (by omega))))) (fun x h1 h2 => hk7 x (by omega))))) (fun x h1 h2 => hk8 x (by omega)))), ((pm_up_n (by decide)).trans ((hk8 _ (by omega)).trans ((pm_up_n (by decide)).trans ((pm_up_n (by decide)).trans ((hk7 _ (by omega)).trans ((pm_up_n (by decide)).trans ((pm_up_n (by decide)).trans ((hk6 _ (by omega)).trans ((pm_up_n (by decide)).trans ((pm_up_n (by decide)).trans ((hk5 _ (by omega)).trans ((pm_up_n (by decide)).trans ((pm_up_n (by decide)).trans r4_0))))))))))))), ⟨(by rw [← pm_hp_v]; exact ((pm_up_n (by decide)).trans ((hk8 _ (by omega)).trans ((pm_up_n (by decide)).trans ((pm_up_n (by decide)).trans ((hk7 _ (by omega)).trans ((pm_up_n (by decide)).trans ((pm_up_n (by decide)).trans ((hk6 _ (by omega)).trans ((pm_up_n (by decide)).trans ((pm_up_n (by decide)).trans ((hk5 _ (by omega)).trans ((pm_up_n (by decide)).trans ((pm_up_n (by decide)).trans r4_1)))))))))))))), fun i hi => (match i, hi with | 0, _ => (pm_SA_up (by omega) (pm_SA_eq (pm_SA_up (by omega) (pm_SA_up (by omega) (pm_SA_eq (pm_SA_up (by omega) (pm_SA_up (by omega) (pm_SA_eq (pm_SA_up (by omega) (pm_SA_up (by omega) (pm_SA_eq (pm_SA_up (by omega) (pm_SA_up (by omega) S4_2)) (fun x h1 h2 => hk5 x (by omega))))) (fun x h1 h2 => hk6 x (by omega))))) (fun x h1 h2 => hk7 x (by omega))))) (fun x h1 h2 => hk8 x (by omega)))) | 1, _ => (pm_SA_up (by omega) (pm_SA_eq (pm_SA_up (by omega) (pm_SA_up (by omega) (pm_SA_eq (pm_SA_up (by omega) (pm_SA_up (by omega) (pm_SA_eq (pm_SA_up (by omega) (pm_SA_up (by omega) (pm_SA_eq (pm_SA_up (by omega) (pm_SA_up (by omega) S4_13)) (fun x h1 h2 => hk5 x (by omega))))) (fun x h1 h2 => hk6 x (by omega))))) (fun x h1 h2 => hk7 x (by omega))))) (fun x h1 h2 => hk8 x (by omega)))) | 2, _ => (pm_SA_up (by omega) (pm_SA_eq (pm_SA_up (by omega) (pm_SA_up (by omega) (pm_SA_eq (pm_SA_up (by omega) (pm_SA_up (by omega) (pm_SA_eq (pm_SA_up (by omega) (pm_SA_up (by omega) (pm_SA_eq (pm_SA_up (by omega) (pm_SA_up (by omega) S4_24)) (fun x h1 h2 => hk5 x (by omega))))) (fun x h1 h2 => hk6 x (by omega))))) (fun x h1 h2 => hk7 x (by omega))))) (fun x h1 h2 => hk8 x (by omega)))) | 3, _ => (pm_SA_up (by omega) (pm_SA_eq (pm_SA_up (by omega) (pm_SA_up (by omega) (pm_SA_eq (pm_SA_up (by omega) (pm_SA_up (by omega) (pm_SA_eq (pm_SA_up (by omega) (pm_SA_up (by omega) (pm_SA_eq (pm_SA_up (by omega) (pm_SA_up (by omega) S4_35)) (fun x h1 h2 => hk5 x (by omega))))) (fun x h1 h2 => hk6 x (by omega))))) (fun x h1 h2 => hk7 x (by omega))))) (fun x h1 h2 => hk8 x (by omega)))) | 4, _ => (pm_SA_up (by omega) (pm_SA_eq (pm_SA_up (by omega) (pm_SA_up (by omega) (pm_SA_eq (pm_SA_up (by omega) (pm_SA_up (by omega) (pm_SA_eq (pm_SA_up (by omega) (pm_SA_up (by omega) (pm_SA_eq (pm_SA_up (by omega) (pm_SA_up (by omega) S4_46)) (fun x h1 h2 => hk5 x (by omega))))) (fun x h1 h2 => hk6 x (by omega))))) (fun x h1 h2 => hk7 x (by omega))))) (fun x h1 h2 => hk8 x (by omega)))) | 5, _ => (pm_SA_up (by omega) (pm_SA_eq (pm_SA_up (by omega) (pm_SA_up (by omega) (pm_SA_eq (pm_SA_up (by omega) (pm_SA_up (by omega) (pm_SA_eq (pm_SA_up (by omega) (pm_SA_up (by omega) (pm_SA_eq (pm_SA_up (by omega) (pm_SA_up (by omega) S4_57)) (fun x h1 h2 => hk5 x (by omega))))) (fun x h1 h2 => hk6 x (by omega))))) (fun x h1 h2 => hk7 x (by omega))))) (fun x h1 h2 => hk8 x (by omega)))) | 6, _ => (pm_SA_up (by omega) (pm_SA_eq (pm_SA_up (by omega) (pm_SA_up (by omega) (pm_SA_eq (pm_SA_up (by omega) (pm_SA_up (by omega) (pm_SA_eq (pm_SA_up (by omega) (pm_SA_up (by omega) (pm_SA_eq (pm_SA_up (by omega) (pm_SA_up (by omega) S4_68)) (fun x h1 h2 => hk5 x (by omega))))) (fun x h1 h2 => hk6 x (by omega))))) (fun x h1 h2 => hk7 x (by omega))))) (fun x h1 h2 => hk8 x (by omega)))) | 7, _ => (pm_SA_up (by omega) (pm_SA_eq (pm_SA_up (by omega) (pm_SA_up (by omega) (pm_SA_eq (pm_SA_up (by omega) (pm_SA_up (by omega) (pm_SA_eq (pm_SA_up (by omega) (pm_SA_up (by omega) (pm_SA_eq (pm_SA_up (by omega) (pm_SA_up (by omega) S4_79)) (fun x h1 h2 => hk5 x (by omega))))) (fun x h1 h2 => hk6 x (by omega))))) (fun x h1 h2 => hk7 x (by omega))))) (fun x h1 h2 => hk8 x (by omega)))))⟩, ((pm_up_n (by decide)).trans ((hk8 _ (by omega)).trans ((pm_up_n (by decide)).trans ((pm_up_n (by decide)).trans ((hk7 _ (by omega)).trans ((pm_up_n (by decide)).trans ((pm_up_n (by decide)).trans ((hk6 _ (by omega)).trans ((pm_up_n (by decide)).trans ((pm_up_n (by decide)).trans r5_0)))))))))), ((pm_up_n (by decide)).trans ((hk8 _ (by omega)).trans ((pm_up_n (by decide)).trans ((pm_up_n (by decide)).trans ((hk7 _ (by omega)).trans ((pm_up_n (by decide)).trans ((pm_up_n (by decide)).trans ((hk6 _ (by omega)).trans ((pm_up_n (by decide)).trans ((pm_up_n (by decide)).trans r5_1)))))))))), ((pm_up_n (by decide)).trans ((hk8 _ (by omega)).trans ((pm_up_n (by decide)).trans ((pm_up_n (by decide)).trans ((hk7 _ (by omega)).trans ((pm_up_n (by decide)).trans ((pm_up_n (by decide)).trans r6_0))))))), ((pm_up_n (by decide)).trans ((hk8 _ (by omega)).trans ((pm_up_n (by decide)).trans ((pm_up_n (by decide)).trans ((hk7 _ (by omega)).trans ((pm_up_n (by decide)).trans ((pm_up_n (by decide)).trans r6_1))))))), ((pm_up_n (by decide)).trans ((hk8 _ (by omega)).trans ((pm_up_n (by decide)).trans ((pm_up_n (by decide)).trans r7_0)))), ((pm_up_n (by decide)).trans ((hk8 _ (by omega)).trans ((pm_up_n (by decide)).trans ((pm_up_n (by decide)).trans r7_1)))), (by show _ = some (Sum.inl (kA 7, 11, Sum.inr (Sum.inr (Sum.inr (Sum.inr (pm_cf kE (fun _ => 11)))))) : va_E); rw [← pm_cf_n]; exact ((pm_up_n (by decide)).trans ((hk8 _ (by omega)).trans ((pm_up_n (by decide)).trans ((pm_up_n (by decide)).trans r7_2))))), ((pm_up_n (by decide)).trans ((hk8 _ (by omega)).trans ((pm_up_n (by decide)).trans ((pm_up_n (by decide)).trans r7_3)))), ((pm_up_n (by decide)).trans ((hk8 _ (by omega)).trans ((pm_up_n (by decide)).trans ((pm_up_n (by decide)).trans r7_4)))), ((pm_up_n (by decide)).trans r8_0), ((pm_up_n (by decide)).trans r8_1)⟩ rfl rfl
