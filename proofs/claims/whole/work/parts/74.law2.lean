/-! the law's askers: an answer at place 0 of out and 0, or the number of the handler -/
def pm_wr (kA : Nat → ClassId) (w N : Nat) (f : Nat → Int64) (P : pm_Po) (h : List (String × Int32)) : pm_Po := fun o n' M' =>
  (∃ (v : Int32) (M1 : pm_M), P (.inl (some (.int v))) n' M1 ∧ o = .inl (some (.int 0)) ∧ M' = pm_up M1 w (.inl (kA 1, N, .inr (.inl (vp_updL f 0 v.toInt64))))) ∨ ∃ e ∈ h, P (.inr e.1) n' M' ∧ o = .inl (some (.int e.2))
def pm_wrb (kA : Nat → ClassId) (w N : Nat) (f : Nat → Int64) (P : pm_Po) (h : List (String × Int32)) : pm_Po := fun o n' M' =>
  (∃ (v : Int32) (M1 : pm_M), P (.inl (some (.int v))) n' M1 ∧ o = .inl (some (.int 0)) ∧ M' = pm_up M1 w (.inl (kA 1, N, .inr (.inl (vp_updL f 0 (if v = 0 then 0 else 1)))))) ∨ ∃ e ∈ h, P (.inr e.1) n' M' ∧ o = .inl (some (.int e.2))
theorem dL_addMember_0 : decode cL_addMember 0 = .ok (.aload_n 3, 1) := by decide +kernel
theorem dL_addMember_1 : decode cL_addMember 1 = .ok (.iconst 0, 1) := by decide +kernel
theorem dL_addMember_2 : decode cL_addMember 2 = .ok (.aload_n 0, 1) := by decide +kernel
theorem dL_addMember_3 : decode cL_addMember 3 = .ok (.iload_n 1, 1) := by decide +kernel
theorem dL_addMember_4 : decode cL_addMember 4 = .ok (.iload_n 2, 1) := by decide +kernel
theorem dL_addMember_5 : decode cL_addMember 5 = .ok (.invokevirtual 7, 3) := by decide +kernel
theorem dL_addMember_8 : decode cL_addMember 8 = .ok (.i2l, 1) := by decide +kernel
theorem dL_addMember_9 : decode cL_addMember 9 = .ok (.lastore, 1) := by decide +kernel
theorem dL_addMember_10 : decode cL_addMember 10 = .ok (.goto 11, 3) := by decide +kernel
theorem dL_addMember_13 : decode cL_addMember 13 = .ok (.astore 4, 2) := by decide +kernel
theorem dL_addMember_15 : decode cL_addMember 15 = .ok (.iconst 1, 1) := by decide +kernel
theorem dL_addMember_16 : decode cL_addMember 16 = .ok (.ireturn, 1) := by decide +kernel
theorem dL_addMember_17 : decode cL_addMember 17 = .ok (.astore 4, 2) := by decide +kernel
theorem dL_addMember_19 : decode cL_addMember 19 = .ok (.iconst 2, 1) := by decide +kernel
theorem dL_addMember_20 : decode cL_addMember 20 = .ok (.ireturn, 1) := by decide +kernel
theorem dL_addMember_21 : decode cL_addMember 21 = .ok (.iconst 0, 1) := by decide +kernel
theorem dL_addMember_22 : decode cL_addMember 22 = .ok (.ireturn, 1) := by decide +kernel
set_option maxHeartbeats 1000000 in
theorem c_L_addMember {l : Launch} {z : Nat} {D : va_G} {kA : Nat → ClassId} {kE : Nat → Nat} {nx w N d2 mc2 ms2 : Nat} {M : pm_M} {x y : Int32} {fs : List Value} {f : Nat → Int64} {P : pm_Po} (hN : 0 < N) (hN2 : N < 2147483648) (hM : M 0 = some (.inr (10, fs))) (hC : pm_C l z D kA kE yX12_addMember cX12_addMember 3 (some .int) d2 mc2 ms2 [.ref (z + 0), .int x, .int y] nx M P)
    (hP : ∀ v n' M1, P (.inl v) n' M1 → (∃ k : Int32, v = some (.int k)) ∧ M1 w = some (.inl (kA 1, N, .inr (.inl f)))) (hE : ∀ E n' M1, P (.inr E) n' M1 → E = "java/lang/IllegalArgumentException" ∨ E = "java/lang/UnsupportedOperationException") : pm_Cw l z D kA kE yL_addMember cL_addMember 5 (some .int) [(0, 10, 13, 13), (0, 10, 17, 15)] (d2 + 1) mc2 ms2 [.ref (z + 0), .int x, .int y, .ref (z + w)] nx M (pm_wr kA w N f P [("java/lang/IllegalArgumentException", 1), ("java/lang/UnsupportedOperationException", 2)]) := by
  refine pm_mkW (own := RL) (nm := "addMember") mt_L_addMember rfl rfl rfl rfl rfl fun X B => ?_
  refine pm_loc (L' := [some (.ref (z + 0)), some (.int x), some (.int y), some (.ref (z + w)), none]) rfl ?_
  refine pm_aload_n B dL_addMember_0 rfl ?_
  refine pm_iconst (v := 0) B dL_addMember_1 (by decide) ?_
  refine pm_aload_n B dL_addMember_2 rfl ?_
  refine pm_iload_n B dL_addMember_3 rfl ?_
  refine pm_iload_n B dL_addMember_4 rfl ?_
  refine pm_callV (As := [.int x, .int y]) (mc2 := mc2) (ms2 := ms2) (d2 := d2) B rfl hM rfl hC mt_X12_addMember sv_L_7 dL_addMember_5 rfl (Nat.ble_eq_true_of_le (Nat.le_refl _)) rfl (Nat.ble_eq_true_of_le (by omega)) (Nat.ble_eq_true_of_le (by omega)) (fun E n' M' h => ?_) (fun u n' M' h => ?_)
  · rcases hE E n' M' h with rfl | rfl
    · refine pm_catch (tgt := 13) B [] ⟨0, 10, 13, 13⟩ [⟨0, 10, 17, 15⟩] rfl (fun w hw => by cases hw) rfl (by decide) (pm_T_in 851 (by decide +kernel) (by decide +kernel)) (pm_T_in 102 (by decide +kernel) (by decide +kernel)) rfl (fun q => ?_)
      refine pm_astore B dL_addMember_13 rfl rfl ?_
      refine pm_iconst (v := 1) B dL_addMember_15 (by decide) ?_
      exact pm_ireturn B dL_addMember_16 rfl rfl (Or.inr ⟨("java/lang/IllegalArgumentException", 1), by simp, h, rfl⟩) (Nat.ble_eq_true_of_le (by omega)) (Nat.ble_eq_true_of_le (by omega))
    · refine pm_catch (tgt := 17) B [⟨0, 10, 13, 13⟩] ⟨0, 10, 17, 15⟩ [] rfl (fun w hw => by
          simp only [List.mem_cons, List.not_mem_nil, or_false] at hw
          rcases hw with rfl <;> first | exact Or.inr ⟨by decide, "java/lang/IllegalArgumentException", pm_T_in 851 (by decide +kernel) (by decide +kernel), by decide +kernel⟩) rfl (by decide) (pm_T_in 852 (by decide +kernel) (by decide +kernel)) (pm_T_in 103 (by decide +kernel) (by decide +kernel)) rfl (fun q => ?_)
      refine pm_astore B dL_addMember_17 rfl rfl ?_
      refine pm_iconst (v := 2) B dL_addMember_19 (by decide) ?_
      exact pm_ireturn B dL_addMember_20 rfl rfl (Or.inr ⟨("java/lang/UnsupportedOperationException", 2), by simp, h, rfl⟩) (Nat.ble_eq_true_of_le (by omega)) (Nat.ble_eq_true_of_le (by omega))
  · obtain ⟨⟨k, rfl⟩, hw⟩ := hP u n' M' h
    refine pm_i2l B dL_addMember_8 ?_
    refine pm_last_n B dL_addMember_9 hw 0 hN hN2 ?_
    refine pm_goto (tgt := 21) B dL_addMember_10 (by decide) ?_
    refine pm_iconst (v := 0) B dL_addMember_21 (by decide) ?_
    exact pm_ireturn B dL_addMember_22 rfl rfl (Or.inl ⟨k, M', h, rfl, rfl⟩) (Nat.ble_eq_true_of_le (by omega)) (Nat.ble_eq_true_of_le (by omega))
theorem dL_pardon_0 : decode cL_pardon 0 = .ok (.aload_n 2, 1) := by decide +kernel
theorem dL_pardon_1 : decode cL_pardon 1 = .ok (.iconst 0, 1) := by decide +kernel
theorem dL_pardon_2 : decode cL_pardon 2 = .ok (.aload_n 0, 1) := by decide +kernel
theorem dL_pardon_3 : decode cL_pardon 3 = .ok (.iload_n 1, 1) := by decide +kernel
theorem dL_pardon_4 : decode cL_pardon 4 = .ok (.invokevirtual 17, 3) := by decide +kernel
theorem dL_pardon_7 : decode cL_pardon 7 = .ok (.i2l, 1) := by decide +kernel
theorem dL_pardon_8 : decode cL_pardon 8 = .ok (.lastore, 1) := by decide +kernel
theorem dL_pardon_9 : decode cL_pardon 9 = .ok (.goto 9, 3) := by decide +kernel
theorem dL_pardon_12 : decode cL_pardon 12 = .ok (.astore_n 3, 1) := by decide +kernel
theorem dL_pardon_13 : decode cL_pardon 13 = .ok (.iconst 1, 1) := by decide +kernel
theorem dL_pardon_14 : decode cL_pardon 14 = .ok (.ireturn, 1) := by decide +kernel
theorem dL_pardon_15 : decode cL_pardon 15 = .ok (.astore_n 3, 1) := by decide +kernel
theorem dL_pardon_16 : decode cL_pardon 16 = .ok (.iconst 2, 1) := by decide +kernel
theorem dL_pardon_17 : decode cL_pardon 17 = .ok (.ireturn, 1) := by decide +kernel
theorem dL_pardon_18 : decode cL_pardon 18 = .ok (.iconst 0, 1) := by decide +kernel
theorem dL_pardon_19 : decode cL_pardon 19 = .ok (.ireturn, 1) := by decide +kernel
theorem mt_L_pardon : pm_MtW yL_pardon cL_pardon 4 (some .int) [(0, 9, 12, 21), (0, 9, 15, 15)] 3 := ⟨pm_T_in 861 (by decide +kernel) (by decide +kernel), pm_T_in 76 (by decide +kernel) (by decide +kernel), ⟨by decide +kernel, by decide +kernel, by decide +kernel⟩, by decide +kernel, by decide⟩
set_option maxHeartbeats 1000000 in
theorem c_L_pardon {l : Launch} {z : Nat} {D : va_G} {kA : Nat → ClassId} {kE : Nat → Nat} {nx w N d2 mc2 ms2 : Nat} {M : pm_M} {x : Int32} {fs : List Value} {f : Nat → Int64} {P : pm_Po} (hN : 0 < N) (hN2 : N < 2147483648) (hM : M 0 = some (.inr (10, fs))) (hC : pm_C l z D kA kE yX12_pardon cX12_pardon 2 (some .int) d2 mc2 ms2 [.ref (z + 0), .int x] nx M P)
    (hP : ∀ v n' M1, P (.inl v) n' M1 → (∃ k : Int32, v = some (.int k)) ∧ M1 w = some (.inl (kA 1, N, .inr (.inl f)))) (hE : ∀ E n' M1, P (.inr E) n' M1 → E = "java/lang/IndexOutOfBoundsException" ∨ E = "java/lang/UnsupportedOperationException") : pm_Cw l z D kA kE yL_pardon cL_pardon 4 (some .int) [(0, 9, 12, 21), (0, 9, 15, 15)] (d2 + 1) mc2 ms2 [.ref (z + 0), .int x, .ref (z + w)] nx M (pm_wr kA w N f P [("java/lang/IndexOutOfBoundsException", 1), ("java/lang/UnsupportedOperationException", 2)]) := by
  refine pm_mkW (own := RL) (nm := "pardon") mt_L_pardon rfl rfl rfl rfl rfl fun X B => ?_
  refine pm_loc (L' := [some (.ref (z + 0)), some (.int x), some (.ref (z + w)), none]) rfl ?_
  refine pm_aload_n B dL_pardon_0 rfl ?_
  refine pm_iconst (v := 0) B dL_pardon_1 (by decide) ?_
  refine pm_aload_n B dL_pardon_2 rfl ?_
  refine pm_iload_n B dL_pardon_3 rfl ?_
  refine pm_callV (As := [.int x]) (mc2 := mc2) (ms2 := ms2) (d2 := d2) B rfl hM rfl hC mt_X12_pardon sv_L_17 dL_pardon_4 rfl (Nat.ble_eq_true_of_le (Nat.le_refl _)) rfl (Nat.ble_eq_true_of_le (by omega)) (Nat.ble_eq_true_of_le (by omega)) (fun E n' M' h => ?_) (fun u n' M' h => ?_)
  · rcases hE E n' M' h with rfl | rfl
    · refine pm_catch (tgt := 12) B [] ⟨0, 9, 12, 21⟩ [⟨0, 9, 15, 15⟩] rfl (fun w hw => by cases hw) rfl (by decide) (pm_T_in 862 (by decide +kernel) (by decide +kernel)) (pm_T_in 101 (by decide +kernel) (by decide +kernel)) rfl (fun q => ?_)
      refine pm_astore_n B dL_pardon_12 rfl rfl ?_
      refine pm_iconst (v := 1) B dL_pardon_13 (by decide) ?_
      exact pm_ireturn B dL_pardon_14 rfl rfl (Or.inr ⟨("java/lang/IndexOutOfBoundsException", 1), by simp, h, rfl⟩) (Nat.ble_eq_true_of_le (by omega)) (Nat.ble_eq_true_of_le (by omega))
    · refine pm_catch (tgt := 15) B [⟨0, 9, 12, 21⟩] ⟨0, 9, 15, 15⟩ [] rfl (fun w hw => by
          simp only [List.mem_cons, List.not_mem_nil, or_false] at hw
          rcases hw with rfl <;> first | exact Or.inr ⟨by decide, "java/lang/IndexOutOfBoundsException", pm_T_in 862 (by decide +kernel) (by decide +kernel), by decide +kernel⟩) rfl (by decide) (pm_T_in 852 (by decide +kernel) (by decide +kernel)) (pm_T_in 103 (by decide +kernel) (by decide +kernel)) rfl (fun q => ?_)
      refine pm_astore_n B dL_pardon_15 rfl rfl ?_
      refine pm_iconst (v := 2) B dL_pardon_16 (by decide) ?_
      exact pm_ireturn B dL_pardon_17 rfl rfl (Or.inr ⟨("java/lang/UnsupportedOperationException", 2), by simp, h, rfl⟩) (Nat.ble_eq_true_of_le (by omega)) (Nat.ble_eq_true_of_le (by omega))
  · obtain ⟨⟨k, rfl⟩, hw⟩ := hP u n' M' h
    refine pm_i2l B dL_pardon_7 ?_
    refine pm_last_n B dL_pardon_8 hw 0 hN hN2 ?_
    refine pm_goto (tgt := 18) B dL_pardon_9 (by decide) ?_
    refine pm_iconst (v := 0) B dL_pardon_18 (by decide) ?_
    exact pm_ireturn B dL_pardon_19 rfl rfl (Or.inl ⟨k, M', h, rfl, rfl⟩) (Nat.ble_eq_true_of_le (by omega)) (Nat.ble_eq_true_of_le (by omega))
theorem dL_capacity_0 : decode cL_capacity 0 = .ok (.aload_n 2, 1) := by decide +kernel
theorem dL_capacity_1 : decode cL_capacity 1 = .ok (.iconst 0, 1) := by decide +kernel
theorem dL_capacity_2 : decode cL_capacity 2 = .ok (.aload_n 0, 1) := by decide +kernel
theorem dL_capacity_3 : decode cL_capacity 3 = .ok (.iload_n 1, 1) := by decide +kernel
theorem dL_capacity_4 : decode cL_capacity 4 = .ok (.invokevirtual 23, 3) := by decide +kernel
theorem dL_capacity_7 : decode cL_capacity 7 = .ok (.i2l, 1) := by decide +kernel
theorem dL_capacity_8 : decode cL_capacity 8 = .ok (.lastore, 1) := by decide +kernel
theorem dL_capacity_9 : decode cL_capacity 9 = .ok (.goto 6, 3) := by decide +kernel
theorem dL_capacity_12 : decode cL_capacity 12 = .ok (.astore_n 3, 1) := by decide +kernel
theorem dL_capacity_13 : decode cL_capacity 13 = .ok (.iconst 1, 1) := by decide +kernel
theorem dL_capacity_14 : decode cL_capacity 14 = .ok (.ireturn, 1) := by decide +kernel
theorem dL_capacity_15 : decode cL_capacity 15 = .ok (.iconst 0, 1) := by decide +kernel
theorem dL_capacity_16 : decode cL_capacity 16 = .ok (.ireturn, 1) := by decide +kernel
theorem mt_L_capacity : pm_MtW yL_capacity cL_capacity 4 (some .int) [(0, 9, 12, 21)] 3 := ⟨pm_T_in 891 (by decide +kernel) (by decide +kernel), pm_T_in 76 (by decide +kernel) (by decide +kernel), ⟨by decide +kernel, by decide +kernel, by decide +kernel⟩, by decide +kernel, by decide⟩
set_option maxHeartbeats 1000000 in
theorem c_L_capacity {l : Launch} {z : Nat} {D : va_G} {kA : Nat → ClassId} {kE : Nat → Nat} {nx w N d2 mc2 ms2 : Nat} {M : pm_M} {x : Int32} {fs : List Value} {f : Nat → Int64} {P : pm_Po} (hN : 0 < N) (hN2 : N < 2147483648) (hM : M 0 = some (.inr (10, fs))) (hC : pm_C l z D kA kE yX12_capacity cX12_capacity 2 (some .int) d2 mc2 ms2 [.ref (z + 0), .int x] nx M P)
    (hP : ∀ v n' M1, P (.inl v) n' M1 → (∃ k : Int32, v = some (.int k)) ∧ M1 w = some (.inl (kA 1, N, .inr (.inl f)))) (hE : ∀ E n' M1, P (.inr E) n' M1 → E = "java/lang/IndexOutOfBoundsException") : pm_Cw l z D kA kE yL_capacity cL_capacity 4 (some .int) [(0, 9, 12, 21)] (d2 + 1) mc2 ms2 [.ref (z + 0), .int x, .ref (z + w)] nx M (pm_wr kA w N f P [("java/lang/IndexOutOfBoundsException", 1)]) := by
  refine pm_mkW (own := RL) (nm := "capacity") mt_L_capacity rfl rfl rfl rfl rfl fun X B => ?_
  refine pm_loc (L' := [some (.ref (z + 0)), some (.int x), some (.ref (z + w)), none]) rfl ?_
  refine pm_aload_n B dL_capacity_0 rfl ?_
  refine pm_iconst (v := 0) B dL_capacity_1 (by decide) ?_
  refine pm_aload_n B dL_capacity_2 rfl ?_
  refine pm_iload_n B dL_capacity_3 rfl ?_
  refine pm_callV (As := [.int x]) (mc2 := mc2) (ms2 := ms2) (d2 := d2) B rfl hM rfl hC mt_X12_capacity sv_L_23 dL_capacity_4 rfl (Nat.ble_eq_true_of_le (Nat.le_refl _)) rfl (Nat.ble_eq_true_of_le (by omega)) (Nat.ble_eq_true_of_le (by omega)) (fun E n' M' h => ?_) (fun u n' M' h => ?_)
  · obtain rfl := hE E n' M' h
    refine pm_catch (tgt := 12) B [] ⟨0, 9, 12, 21⟩ [] rfl (fun w hw => by cases hw) rfl (by decide) (pm_T_in 862 (by decide +kernel) (by decide +kernel)) (pm_T_in 101 (by decide +kernel) (by decide +kernel)) rfl (fun q => ?_)
    refine pm_astore_n B dL_capacity_12 rfl rfl ?_
    refine pm_iconst (v := 1) B dL_capacity_13 (by decide) ?_
    exact pm_ireturn B dL_capacity_14 rfl rfl (Or.inr ⟨("java/lang/IndexOutOfBoundsException", 1), by simp, h, rfl⟩) (Nat.ble_eq_true_of_le (by omega)) (Nat.ble_eq_true_of_le (by omega))
  · obtain ⟨⟨k, rfl⟩, hw⟩ := hP u n' M' h
    refine pm_i2l B dL_capacity_7 ?_
    refine pm_last_n B dL_capacity_8 hw 0 hN hN2 ?_
    refine pm_goto (tgt := 15) B dL_capacity_9 (by decide) ?_
    refine pm_iconst (v := 0) B dL_capacity_15 (by decide) ?_
    exact pm_ireturn B dL_capacity_16 rfl rfl (Or.inl ⟨k, M', h, rfl, rfl⟩) (Nat.ble_eq_true_of_le (by omega)) (Nat.ble_eq_true_of_le (by omega))
theorem dL_votes_0 : decode cL_votes 0 = .ok (.aload_n 2, 1) := by decide +kernel
theorem dL_votes_1 : decode cL_votes 1 = .ok (.iconst 0, 1) := by decide +kernel
theorem dL_votes_2 : decode cL_votes 2 = .ok (.aload_n 0, 1) := by decide +kernel
theorem dL_votes_3 : decode cL_votes 3 = .ok (.iload_n 1, 1) := by decide +kernel
theorem dL_votes_4 : decode cL_votes 4 = .ok (.invokevirtual 26, 3) := by decide +kernel
theorem dL_votes_7 : decode cL_votes 7 = .ok (.i2l, 1) := by decide +kernel
theorem dL_votes_8 : decode cL_votes 8 = .ok (.lastore, 1) := by decide +kernel
theorem dL_votes_9 : decode cL_votes 9 = .ok (.goto 6, 3) := by decide +kernel
theorem dL_votes_12 : decode cL_votes 12 = .ok (.astore_n 3, 1) := by decide +kernel
theorem dL_votes_13 : decode cL_votes 13 = .ok (.iconst 1, 1) := by decide +kernel
theorem dL_votes_14 : decode cL_votes 14 = .ok (.ireturn, 1) := by decide +kernel
theorem dL_votes_15 : decode cL_votes 15 = .ok (.iconst 0, 1) := by decide +kernel
theorem dL_votes_16 : decode cL_votes 16 = .ok (.ireturn, 1) := by decide +kernel
theorem mt_L_votes : pm_MtW yL_votes cL_votes 4 (some .int) [(0, 9, 12, 21)] 3 := ⟨pm_T_in 903 (by decide +kernel) (by decide +kernel), pm_T_in 76 (by decide +kernel) (by decide +kernel), ⟨by decide +kernel, by decide +kernel, by decide +kernel⟩, by decide +kernel, by decide⟩
set_option maxHeartbeats 1000000 in
theorem c_L_votes {l : Launch} {z : Nat} {D : va_G} {kA : Nat → ClassId} {kE : Nat → Nat} {nx w N d2 mc2 ms2 : Nat} {M : pm_M} {x : Int32} {fs : List Value} {f : Nat → Int64} {P : pm_Po} (hN : 0 < N) (hN2 : N < 2147483648) (hM : M 0 = some (.inr (10, fs))) (hC : pm_C l z D kA kE yX12_votes cX12_votes 2 (some .int) d2 mc2 ms2 [.ref (z + 0), .int x] nx M P)
    (hP : ∀ v n' M1, P (.inl v) n' M1 → (∃ k : Int32, v = some (.int k)) ∧ M1 w = some (.inl (kA 1, N, .inr (.inl f)))) (hE : ∀ E n' M1, P (.inr E) n' M1 → E = "java/lang/IndexOutOfBoundsException") : pm_Cw l z D kA kE yL_votes cL_votes 4 (some .int) [(0, 9, 12, 21)] (d2 + 1) mc2 ms2 [.ref (z + 0), .int x, .ref (z + w)] nx M (pm_wr kA w N f P [("java/lang/IndexOutOfBoundsException", 1)]) := by
  refine pm_mkW (own := RL) (nm := "votes") mt_L_votes rfl rfl rfl rfl rfl fun X B => ?_
  refine pm_loc (L' := [some (.ref (z + 0)), some (.int x), some (.ref (z + w)), none]) rfl ?_
  refine pm_aload_n B dL_votes_0 rfl ?_
  refine pm_iconst (v := 0) B dL_votes_1 (by decide) ?_
  refine pm_aload_n B dL_votes_2 rfl ?_
  refine pm_iload_n B dL_votes_3 rfl ?_
  refine pm_callV (As := [.int x]) (mc2 := mc2) (ms2 := ms2) (d2 := d2) B rfl hM rfl hC mt_X12_votes sv_L_26 dL_votes_4 rfl (Nat.ble_eq_true_of_le (Nat.le_refl _)) rfl (Nat.ble_eq_true_of_le (by omega)) (Nat.ble_eq_true_of_le (by omega)) (fun E n' M' h => ?_) (fun u n' M' h => ?_)
  · obtain rfl := hE E n' M' h
    refine pm_catch (tgt := 12) B [] ⟨0, 9, 12, 21⟩ [] rfl (fun w hw => by cases hw) rfl (by decide) (pm_T_in 862 (by decide +kernel) (by decide +kernel)) (pm_T_in 101 (by decide +kernel) (by decide +kernel)) rfl (fun q => ?_)
    refine pm_astore_n B dL_votes_12 rfl rfl ?_
    refine pm_iconst (v := 1) B dL_votes_13 (by decide) ?_
    exact pm_ireturn B dL_votes_14 rfl rfl (Or.inr ⟨("java/lang/IndexOutOfBoundsException", 1), by simp, h, rfl⟩) (Nat.ble_eq_true_of_le (by omega)) (Nat.ble_eq_true_of_le (by omega))
  · obtain ⟨⟨k, rfl⟩, hw⟩ := hP u n' M' h
    refine pm_i2l B dL_votes_7 ?_
    refine pm_last_n B dL_votes_8 hw 0 hN hN2 ?_
    refine pm_goto (tgt := 15) B dL_votes_9 (by decide) ?_
    refine pm_iconst (v := 0) B dL_votes_15 (by decide) ?_
    exact pm_ireturn B dL_votes_16 rfl rfl (Or.inl ⟨k, M', h, rfl, rfl⟩) (Nat.ble_eq_true_of_le (by omega)) (Nat.ble_eq_true_of_le (by omega))
theorem dL_standing_0 : decode cL_standing 0 = .ok (.aload_n 2, 1) := by decide +kernel
theorem dL_standing_1 : decode cL_standing 1 = .ok (.iconst 0, 1) := by decide +kernel
theorem dL_standing_2 : decode cL_standing 2 = .ok (.aload_n 0, 1) := by decide +kernel
theorem dL_standing_3 : decode cL_standing 3 = .ok (.iload_n 1, 1) := by decide +kernel
theorem dL_standing_4 : decode cL_standing 4 = .ok (.invokevirtual 29, 3) := by decide +kernel
theorem dL_standing_7 : decode cL_standing 7 = .ok (.i2l, 1) := by decide +kernel
theorem dL_standing_8 : decode cL_standing 8 = .ok (.lastore, 1) := by decide +kernel
theorem dL_standing_9 : decode cL_standing 9 = .ok (.goto 6, 3) := by decide +kernel
theorem dL_standing_12 : decode cL_standing 12 = .ok (.astore_n 3, 1) := by decide +kernel
theorem dL_standing_13 : decode cL_standing 13 = .ok (.iconst 1, 1) := by decide +kernel
theorem dL_standing_14 : decode cL_standing 14 = .ok (.ireturn, 1) := by decide +kernel
theorem dL_standing_15 : decode cL_standing 15 = .ok (.iconst 0, 1) := by decide +kernel
theorem dL_standing_16 : decode cL_standing 16 = .ok (.ireturn, 1) := by decide +kernel
theorem mt_L_standing : pm_MtW yL_standing cL_standing 4 (some .int) [(0, 9, 12, 21)] 3 := ⟨pm_T_in 910 (by decide +kernel) (by decide +kernel), pm_T_in 76 (by decide +kernel) (by decide +kernel), ⟨by decide +kernel, by decide +kernel, by decide +kernel⟩, by decide +kernel, by decide⟩
set_option maxHeartbeats 1000000 in
theorem c_L_standing {l : Launch} {z : Nat} {D : va_G} {kA : Nat → ClassId} {kE : Nat → Nat} {nx w N d2 mc2 ms2 : Nat} {M : pm_M} {x : Int32} {fs : List Value} {f : Nat → Int64} {P : pm_Po} (hN : 0 < N) (hN2 : N < 2147483648) (hM : M 0 = some (.inr (10, fs))) (hC : pm_C l z D kA kE yX12_standing cX12_standing 3 (some .char) d2 mc2 ms2 [.ref (z + 0), .int x] nx M P)
    (hP : ∀ v n' M1, P (.inl v) n' M1 → (∃ k : Int32, v = some (.int k)) ∧ M1 w = some (.inl (kA 1, N, .inr (.inl f)))) (hE : ∀ E n' M1, P (.inr E) n' M1 → E = "java/lang/IndexOutOfBoundsException") : pm_Cw l z D kA kE yL_standing cL_standing 4 (some .int) [(0, 9, 12, 21)] (d2 + 1) mc2 ms2 [.ref (z + 0), .int x, .ref (z + w)] nx M (pm_wr kA w N f P [("java/lang/IndexOutOfBoundsException", 1)]) := by
  refine pm_mkW (own := RL) (nm := "standing") mt_L_standing rfl rfl rfl rfl rfl fun X B => ?_
  refine pm_loc (L' := [some (.ref (z + 0)), some (.int x), some (.ref (z + w)), none]) rfl ?_
  refine pm_aload_n B dL_standing_0 rfl ?_
  refine pm_iconst (v := 0) B dL_standing_1 (by decide) ?_
  refine pm_aload_n B dL_standing_2 rfl ?_
  refine pm_iload_n B dL_standing_3 rfl ?_
  refine pm_callV (As := [.int x]) (mc2 := mc2) (ms2 := ms2) (d2 := d2) B rfl hM rfl hC mt_X12_standing sv_L_29 dL_standing_4 rfl (Nat.ble_eq_true_of_le (Nat.le_refl _)) rfl (Nat.ble_eq_true_of_le (by omega)) (Nat.ble_eq_true_of_le (by omega)) (fun E n' M' h => ?_) (fun u n' M' h => ?_)
  · obtain rfl := hE E n' M' h
    refine pm_catch (tgt := 12) B [] ⟨0, 9, 12, 21⟩ [] rfl (fun w hw => by cases hw) rfl (by decide) (pm_T_in 862 (by decide +kernel) (by decide +kernel)) (pm_T_in 101 (by decide +kernel) (by decide +kernel)) rfl (fun q => ?_)
    refine pm_astore_n B dL_standing_12 rfl rfl ?_
    refine pm_iconst (v := 1) B dL_standing_13 (by decide) ?_
    exact pm_ireturn B dL_standing_14 rfl rfl (Or.inr ⟨("java/lang/IndexOutOfBoundsException", 1), by simp, h, rfl⟩) (Nat.ble_eq_true_of_le (by omega)) (Nat.ble_eq_true_of_le (by omega))
  · obtain ⟨⟨k, rfl⟩, hw⟩ := hP u n' M' h
    refine pm_i2l B dL_standing_7 ?_
    refine pm_last_n B dL_standing_8 hw 0 hN hN2 ?_
    refine pm_goto (tgt := 15) B dL_standing_9 (by decide) ?_
    refine pm_iconst (v := 0) B dL_standing_15 (by decide) ?_
    exact pm_ireturn B dL_standing_16 rfl rfl (Or.inl ⟨k, M', h, rfl, rfl⟩) (Nat.ble_eq_true_of_le (by omega)) (Nat.ble_eq_true_of_le (by omega))
theorem dL_warnings_0 : decode cL_warnings 0 = .ok (.aload_n 2, 1) := by decide +kernel
theorem dL_warnings_1 : decode cL_warnings 1 = .ok (.iconst 0, 1) := by decide +kernel
theorem dL_warnings_2 : decode cL_warnings 2 = .ok (.aload_n 0, 1) := by decide +kernel
theorem dL_warnings_3 : decode cL_warnings 3 = .ok (.iload_n 1, 1) := by decide +kernel
theorem dL_warnings_4 : decode cL_warnings 4 = .ok (.invokevirtual 33, 3) := by decide +kernel
theorem dL_warnings_7 : decode cL_warnings 7 = .ok (.i2l, 1) := by decide +kernel
theorem dL_warnings_8 : decode cL_warnings 8 = .ok (.lastore, 1) := by decide +kernel
theorem dL_warnings_9 : decode cL_warnings 9 = .ok (.goto 9, 3) := by decide +kernel
theorem dL_warnings_12 : decode cL_warnings 12 = .ok (.astore_n 3, 1) := by decide +kernel
theorem dL_warnings_13 : decode cL_warnings 13 = .ok (.iconst 1, 1) := by decide +kernel
theorem dL_warnings_14 : decode cL_warnings 14 = .ok (.ireturn, 1) := by decide +kernel
theorem dL_warnings_15 : decode cL_warnings 15 = .ok (.astore_n 3, 1) := by decide +kernel
theorem dL_warnings_16 : decode cL_warnings 16 = .ok (.iconst 2, 1) := by decide +kernel
theorem dL_warnings_17 : decode cL_warnings 17 = .ok (.ireturn, 1) := by decide +kernel
theorem dL_warnings_18 : decode cL_warnings 18 = .ok (.iconst 0, 1) := by decide +kernel
theorem dL_warnings_19 : decode cL_warnings 19 = .ok (.ireturn, 1) := by decide +kernel
theorem mt_L_warnings : pm_MtW yL_warnings cL_warnings 4 (some .int) [(0, 9, 12, 21), (0, 9, 15, 36)] 3 := ⟨pm_T_in 919 (by decide +kernel) (by decide +kernel), pm_T_in 76 (by decide +kernel) (by decide +kernel), ⟨by decide +kernel, by decide +kernel, by decide +kernel⟩, by decide +kernel, by decide⟩
set_option maxHeartbeats 1000000 in
theorem c_L_warnings {l : Launch} {z : Nat} {D : va_G} {kA : Nat → ClassId} {kE : Nat → Nat} {nx w N d2 mc2 ms2 : Nat} {M : pm_M} {x : Int32} {fs : List Value} {f : Nat → Int64} {P : pm_Po} (hN : 0 < N) (hN2 : N < 2147483648) (hM : M 0 = some (.inr (10, fs))) (hC : pm_C l z D kA kE yX12_warnings cX12_warnings 3 (some .int) d2 mc2 ms2 [.ref (z + 0), .int x] nx M P)
    (hP : ∀ v n' M1, P (.inl v) n' M1 → (∃ k : Int32, v = some (.int k)) ∧ M1 w = some (.inl (kA 1, N, .inr (.inl f)))) (hE : ∀ E n' M1, P (.inr E) n' M1 → E = "java/lang/IndexOutOfBoundsException" ∨ E = "java/util/NoSuchElementException") : pm_Cw l z D kA kE yL_warnings cL_warnings 4 (some .int) [(0, 9, 12, 21), (0, 9, 15, 36)] (d2 + 1) mc2 ms2 [.ref (z + 0), .int x, .ref (z + w)] nx M (pm_wr kA w N f P [("java/lang/IndexOutOfBoundsException", 1), ("java/util/NoSuchElementException", 2)]) := by
  refine pm_mkW (own := RL) (nm := "warnings") mt_L_warnings rfl rfl rfl rfl rfl fun X B => ?_
  refine pm_loc (L' := [some (.ref (z + 0)), some (.int x), some (.ref (z + w)), none]) rfl ?_
  refine pm_aload_n B dL_warnings_0 rfl ?_
  refine pm_iconst (v := 0) B dL_warnings_1 (by decide) ?_
  refine pm_aload_n B dL_warnings_2 rfl ?_
  refine pm_iload_n B dL_warnings_3 rfl ?_
  refine pm_callV (As := [.int x]) (mc2 := mc2) (ms2 := ms2) (d2 := d2) B rfl hM rfl hC mt_X12_warnings sv_L_33 dL_warnings_4 rfl (Nat.ble_eq_true_of_le (Nat.le_refl _)) rfl (Nat.ble_eq_true_of_le (by omega)) (Nat.ble_eq_true_of_le (by omega)) (fun E n' M' h => ?_) (fun u n' M' h => ?_)
  · rcases hE E n' M' h with rfl | rfl
    · refine pm_catch (tgt := 12) B [] ⟨0, 9, 12, 21⟩ [⟨0, 9, 15, 36⟩] rfl (fun w hw => by cases hw) rfl (by decide) (pm_T_in 862 (by decide +kernel) (by decide +kernel)) (pm_T_in 101 (by decide +kernel) (by decide +kernel)) rfl (fun q => ?_)
      refine pm_astore_n B dL_warnings_12 rfl rfl ?_
      refine pm_iconst (v := 1) B dL_warnings_13 (by decide) ?_
      exact pm_ireturn B dL_warnings_14 rfl rfl (Or.inr ⟨("java/lang/IndexOutOfBoundsException", 1), by simp, h, rfl⟩) (Nat.ble_eq_true_of_le (by omega)) (Nat.ble_eq_true_of_le (by omega))
    · refine pm_catch (tgt := 15) B [⟨0, 9, 12, 21⟩] ⟨0, 9, 15, 36⟩ [] rfl (fun w hw => by
          simp only [List.mem_cons, List.not_mem_nil, or_false] at hw
          rcases hw with rfl <;> first | exact Or.inr ⟨by decide, "java/lang/IndexOutOfBoundsException", pm_T_in 862 (by decide +kernel) (by decide +kernel), by decide +kernel⟩) rfl (by decide) (pm_T_in 920 (by decide +kernel) (by decide +kernel)) (pm_T_in 107 (by decide +kernel) (by decide +kernel)) rfl (fun q => ?_)
      refine pm_astore_n B dL_warnings_15 rfl rfl ?_
      refine pm_iconst (v := 2) B dL_warnings_16 (by decide) ?_
      exact pm_ireturn B dL_warnings_17 rfl rfl (Or.inr ⟨("java/util/NoSuchElementException", 2), by simp, h, rfl⟩) (Nat.ble_eq_true_of_le (by omega)) (Nat.ble_eq_true_of_le (by omega))
  · obtain ⟨⟨k, rfl⟩, hw⟩ := hP u n' M' h
    refine pm_i2l B dL_warnings_7 ?_
    refine pm_last_n B dL_warnings_8 hw 0 hN hN2 ?_
    refine pm_goto (tgt := 18) B dL_warnings_9 (by decide) ?_
    refine pm_iconst (v := 0) B dL_warnings_18 (by decide) ?_
    exact pm_ireturn B dL_warnings_19 rfl rfl (Or.inl ⟨k, M', h, rfl, rfl⟩) (Nat.ble_eq_true_of_le (by omega)) (Nat.ble_eq_true_of_le (by omega))
theorem dL_barredMonths_0 : decode cL_barredMonths 0 = .ok (.aload_n 2, 1) := by decide +kernel
theorem dL_barredMonths_1 : decode cL_barredMonths 1 = .ok (.iconst 0, 1) := by decide +kernel
theorem dL_barredMonths_2 : decode cL_barredMonths 2 = .ok (.aload_n 0, 1) := by decide +kernel
theorem dL_barredMonths_3 : decode cL_barredMonths 3 = .ok (.iload_n 1, 1) := by decide +kernel
theorem dL_barredMonths_4 : decode cL_barredMonths 4 = .ok (.invokevirtual 38, 3) := by decide +kernel
theorem dL_barredMonths_7 : decode cL_barredMonths 7 = .ok (.i2l, 1) := by decide +kernel
theorem dL_barredMonths_8 : decode cL_barredMonths 8 = .ok (.lastore, 1) := by decide +kernel
theorem dL_barredMonths_9 : decode cL_barredMonths 9 = .ok (.goto 9, 3) := by decide +kernel
theorem dL_barredMonths_12 : decode cL_barredMonths 12 = .ok (.astore_n 3, 1) := by decide +kernel
theorem dL_barredMonths_13 : decode cL_barredMonths 13 = .ok (.iconst 1, 1) := by decide +kernel
theorem dL_barredMonths_14 : decode cL_barredMonths 14 = .ok (.ireturn, 1) := by decide +kernel
theorem dL_barredMonths_15 : decode cL_barredMonths 15 = .ok (.astore_n 3, 1) := by decide +kernel
theorem dL_barredMonths_16 : decode cL_barredMonths 16 = .ok (.iconst 2, 1) := by decide +kernel
theorem dL_barredMonths_17 : decode cL_barredMonths 17 = .ok (.ireturn, 1) := by decide +kernel
theorem dL_barredMonths_18 : decode cL_barredMonths 18 = .ok (.iconst 0, 1) := by decide +kernel
theorem dL_barredMonths_19 : decode cL_barredMonths 19 = .ok (.ireturn, 1) := by decide +kernel
theorem mt_L_barredMonths : pm_MtW yL_barredMonths cL_barredMonths 4 (some .int) [(0, 9, 12, 21), (0, 9, 15, 36)] 3 := ⟨pm_T_in 943 (by decide +kernel) (by decide +kernel), pm_T_in 76 (by decide +kernel) (by decide +kernel), ⟨by decide +kernel, by decide +kernel, by decide +kernel⟩, by decide +kernel, by decide⟩
set_option maxHeartbeats 1000000 in
theorem c_L_barredMonths {l : Launch} {z : Nat} {D : va_G} {kA : Nat → ClassId} {kE : Nat → Nat} {nx w N d2 mc2 ms2 : Nat} {M : pm_M} {x : Int32} {fs : List Value} {f : Nat → Int64} {P : pm_Po} (hN : 0 < N) (hN2 : N < 2147483648) (hM : M 0 = some (.inr (10, fs))) (hC : pm_C l z D kA kE yX12_barredMonths cX12_barredMonths 3 (some .int) d2 mc2 ms2 [.ref (z + 0), .int x] nx M P)
    (hP : ∀ v n' M1, P (.inl v) n' M1 → (∃ k : Int32, v = some (.int k)) ∧ M1 w = some (.inl (kA 1, N, .inr (.inl f)))) (hE : ∀ E n' M1, P (.inr E) n' M1 → E = "java/lang/IndexOutOfBoundsException" ∨ E = "java/util/NoSuchElementException") : pm_Cw l z D kA kE yL_barredMonths cL_barredMonths 4 (some .int) [(0, 9, 12, 21), (0, 9, 15, 36)] (d2 + 1) mc2 ms2 [.ref (z + 0), .int x, .ref (z + w)] nx M (pm_wr kA w N f P [("java/lang/IndexOutOfBoundsException", 1), ("java/util/NoSuchElementException", 2)]) := by
  refine pm_mkW (own := RL) (nm := "barredMonths") mt_L_barredMonths rfl rfl rfl rfl rfl fun X B => ?_
  refine pm_loc (L' := [some (.ref (z + 0)), some (.int x), some (.ref (z + w)), none]) rfl ?_
  refine pm_aload_n B dL_barredMonths_0 rfl ?_
  refine pm_iconst (v := 0) B dL_barredMonths_1 (by decide) ?_
  refine pm_aload_n B dL_barredMonths_2 rfl ?_
  refine pm_iload_n B dL_barredMonths_3 rfl ?_
  refine pm_callV (As := [.int x]) (mc2 := mc2) (ms2 := ms2) (d2 := d2) B rfl hM rfl hC mt_X12_barredMonths sv_L_38 dL_barredMonths_4 rfl (Nat.ble_eq_true_of_le (Nat.le_refl _)) rfl (Nat.ble_eq_true_of_le (by omega)) (Nat.ble_eq_true_of_le (by omega)) (fun E n' M' h => ?_) (fun u n' M' h => ?_)
  · rcases hE E n' M' h with rfl | rfl
    · refine pm_catch (tgt := 12) B [] ⟨0, 9, 12, 21⟩ [⟨0, 9, 15, 36⟩] rfl (fun w hw => by cases hw) rfl (by decide) (pm_T_in 862 (by decide +kernel) (by decide +kernel)) (pm_T_in 101 (by decide +kernel) (by decide +kernel)) rfl (fun q => ?_)
      refine pm_astore_n B dL_barredMonths_12 rfl rfl ?_
      refine pm_iconst (v := 1) B dL_barredMonths_13 (by decide) ?_
      exact pm_ireturn B dL_barredMonths_14 rfl rfl (Or.inr ⟨("java/lang/IndexOutOfBoundsException", 1), by simp, h, rfl⟩) (Nat.ble_eq_true_of_le (by omega)) (Nat.ble_eq_true_of_le (by omega))
    · refine pm_catch (tgt := 15) B [⟨0, 9, 12, 21⟩] ⟨0, 9, 15, 36⟩ [] rfl (fun w hw => by
          simp only [List.mem_cons, List.not_mem_nil, or_false] at hw
          rcases hw with rfl <;> first | exact Or.inr ⟨by decide, "java/lang/IndexOutOfBoundsException", pm_T_in 862 (by decide +kernel) (by decide +kernel), by decide +kernel⟩) rfl (by decide) (pm_T_in 920 (by decide +kernel) (by decide +kernel)) (pm_T_in 107 (by decide +kernel) (by decide +kernel)) rfl (fun q => ?_)
      refine pm_astore_n B dL_barredMonths_15 rfl rfl ?_
      refine pm_iconst (v := 2) B dL_barredMonths_16 (by decide) ?_
      exact pm_ireturn B dL_barredMonths_17 rfl rfl (Or.inr ⟨("java/util/NoSuchElementException", 2), by simp, h, rfl⟩) (Nat.ble_eq_true_of_le (by omega)) (Nat.ble_eq_true_of_le (by omega))
  · obtain ⟨⟨k, rfl⟩, hw⟩ := hP u n' M' h
    refine pm_i2l B dL_barredMonths_7 ?_
    refine pm_last_n B dL_barredMonths_8 hw 0 hN hN2 ?_
    refine pm_goto (tgt := 18) B dL_barredMonths_9 (by decide) ?_
    refine pm_iconst (v := 0) B dL_barredMonths_18 (by decide) ?_
    exact pm_ireturn B dL_barredMonths_19 rfl rfl (Or.inl ⟨k, M', h, rfl, rfl⟩) (Nat.ble_eq_true_of_le (by omega)) (Nat.ble_eq_true_of_le (by omega))
theorem dL_memberByExcess_0 : decode cL_memberByExcess 0 = .ok (.aload_n 2, 1) := by decide +kernel
theorem dL_memberByExcess_1 : decode cL_memberByExcess 1 = .ok (.iconst 0, 1) := by decide +kernel
theorem dL_memberByExcess_2 : decode cL_memberByExcess 2 = .ok (.aload_n 0, 1) := by decide +kernel
theorem dL_memberByExcess_3 : decode cL_memberByExcess 3 = .ok (.iload_n 1, 1) := by decide +kernel
theorem dL_memberByExcess_4 : decode cL_memberByExcess 4 = .ok (.invokevirtual 41, 3) := by decide +kernel
theorem dL_memberByExcess_7 : decode cL_memberByExcess 7 = .ok (.i2l, 1) := by decide +kernel
theorem dL_memberByExcess_8 : decode cL_memberByExcess 8 = .ok (.lastore, 1) := by decide +kernel
theorem dL_memberByExcess_9 : decode cL_memberByExcess 9 = .ok (.goto 6, 3) := by decide +kernel
theorem dL_memberByExcess_12 : decode cL_memberByExcess 12 = .ok (.astore_n 3, 1) := by decide +kernel
theorem dL_memberByExcess_13 : decode cL_memberByExcess 13 = .ok (.iconst 1, 1) := by decide +kernel
theorem dL_memberByExcess_14 : decode cL_memberByExcess 14 = .ok (.ireturn, 1) := by decide +kernel
theorem dL_memberByExcess_15 : decode cL_memberByExcess 15 = .ok (.iconst 0, 1) := by decide +kernel
theorem dL_memberByExcess_16 : decode cL_memberByExcess 16 = .ok (.ireturn, 1) := by decide +kernel
theorem mt_L_memberByExcess : pm_MtW yL_memberByExcess cL_memberByExcess 4 (some .int) [(0, 9, 12, 36)] 3 := ⟨pm_T_in 951 (by decide +kernel) (by decide +kernel), pm_T_in 76 (by decide +kernel) (by decide +kernel), ⟨by decide +kernel, by decide +kernel, by decide +kernel⟩, by decide +kernel, by decide⟩
set_option maxHeartbeats 1000000 in
theorem c_L_memberByExcess {l : Launch} {z : Nat} {D : va_G} {kA : Nat → ClassId} {kE : Nat → Nat} {nx w N d2 mc2 ms2 : Nat} {M : pm_M} {x : Int32} {fs : List Value} {f : Nat → Int64} {P : pm_Po} (hN : 0 < N) (hN2 : N < 2147483648) (hM : M 0 = some (.inr (10, fs))) (hC : pm_C l z D kA kE yX12_memberByExcess cX12_memberByExcess 3 (some .int) d2 mc2 ms2 [.ref (z + 0), .int x] nx M P)
    (hP : ∀ v n' M1, P (.inl v) n' M1 → (∃ k : Int32, v = some (.int k)) ∧ M1 w = some (.inl (kA 1, N, .inr (.inl f)))) (hE : ∀ E n' M1, P (.inr E) n' M1 → E = "java/util/NoSuchElementException") : pm_Cw l z D kA kE yL_memberByExcess cL_memberByExcess 4 (some .int) [(0, 9, 12, 36)] (d2 + 1) mc2 ms2 [.ref (z + 0), .int x, .ref (z + w)] nx M (pm_wr kA w N f P [("java/util/NoSuchElementException", 1)]) := by
  refine pm_mkW (own := RL) (nm := "memberByExcess") mt_L_memberByExcess rfl rfl rfl rfl rfl fun X B => ?_
  refine pm_loc (L' := [some (.ref (z + 0)), some (.int x), some (.ref (z + w)), none]) rfl ?_
  refine pm_aload_n B dL_memberByExcess_0 rfl ?_
  refine pm_iconst (v := 0) B dL_memberByExcess_1 (by decide) ?_
  refine pm_aload_n B dL_memberByExcess_2 rfl ?_
  refine pm_iload_n B dL_memberByExcess_3 rfl ?_
  refine pm_callV (As := [.int x]) (mc2 := mc2) (ms2 := ms2) (d2 := d2) B rfl hM rfl hC mt_X12_memberByExcess sv_L_41 dL_memberByExcess_4 rfl (Nat.ble_eq_true_of_le (Nat.le_refl _)) rfl (Nat.ble_eq_true_of_le (by omega)) (Nat.ble_eq_true_of_le (by omega)) (fun E n' M' h => ?_) (fun u n' M' h => ?_)
  · obtain rfl := hE E n' M' h
    refine pm_catch (tgt := 12) B [] ⟨0, 9, 12, 36⟩ [] rfl (fun w hw => by cases hw) rfl (by decide) (pm_T_in 920 (by decide +kernel) (by decide +kernel)) (pm_T_in 107 (by decide +kernel) (by decide +kernel)) rfl (fun q => ?_)
    refine pm_astore_n B dL_memberByExcess_12 rfl rfl ?_
    refine pm_iconst (v := 1) B dL_memberByExcess_13 (by decide) ?_
    exact pm_ireturn B dL_memberByExcess_14 rfl rfl (Or.inr ⟨("java/util/NoSuchElementException", 1), by simp, h, rfl⟩) (Nat.ble_eq_true_of_le (by omega)) (Nat.ble_eq_true_of_le (by omega))
  · obtain ⟨⟨k, rfl⟩, hw⟩ := hP u n' M' h
    refine pm_i2l B dL_memberByExcess_7 ?_
    refine pm_last_n B dL_memberByExcess_8 hw 0 hN hN2 ?_
    refine pm_goto (tgt := 15) B dL_memberByExcess_9 (by decide) ?_
    refine pm_iconst (v := 0) B dL_memberByExcess_15 (by decide) ?_
    exact pm_ireturn B dL_memberByExcess_16 rfl rfl (Or.inl ⟨k, M', h, rfl, rfl⟩) (Nat.ble_eq_true_of_le (by omega)) (Nat.ble_eq_true_of_le (by omega))
theorem dL_setRule_0 : decode cL_setRule 0 = .ok (.aload_n 2, 1) := by decide +kernel
theorem dL_setRule_1 : decode cL_setRule 1 = .ok (.iconst 0, 1) := by decide +kernel
theorem dL_setRule_2 : decode cL_setRule 2 = .ok (.aload_n 0, 1) := by decide +kernel
theorem dL_setRule_3 : decode cL_setRule 3 = .ok (.iload_n 1, 1) := by decide +kernel
theorem dL_setRule_4 : decode cL_setRule 4 = .ok (.invokevirtual 44, 3) := by decide +kernel
theorem dL_setRule_7 : decode cL_setRule 7 = .ok (.i2l, 1) := by decide +kernel
theorem dL_setRule_8 : decode cL_setRule 8 = .ok (.lastore, 1) := by decide +kernel
theorem dL_setRule_9 : decode cL_setRule 9 = .ok (.goto 9, 3) := by decide +kernel
theorem dL_setRule_12 : decode cL_setRule 12 = .ok (.astore_n 3, 1) := by decide +kernel
theorem dL_setRule_13 : decode cL_setRule 13 = .ok (.iconst 1, 1) := by decide +kernel
theorem dL_setRule_14 : decode cL_setRule 14 = .ok (.ireturn, 1) := by decide +kernel
theorem dL_setRule_15 : decode cL_setRule 15 = .ok (.astore_n 3, 1) := by decide +kernel
theorem dL_setRule_16 : decode cL_setRule 16 = .ok (.iconst 2, 1) := by decide +kernel
theorem dL_setRule_17 : decode cL_setRule 17 = .ok (.ireturn, 1) := by decide +kernel
theorem dL_setRule_18 : decode cL_setRule 18 = .ok (.iconst 0, 1) := by decide +kernel
theorem dL_setRule_19 : decode cL_setRule 19 = .ok (.ireturn, 1) := by decide +kernel
theorem mt_L_setRule : pm_MtW yL_setRule cL_setRule 4 (some .int) [(0, 9, 12, 13), (0, 9, 15, 15)] 3 := ⟨pm_T_in 968 (by decide +kernel) (by decide +kernel), pm_T_in 76 (by decide +kernel) (by decide +kernel), ⟨by decide +kernel, by decide +kernel, by decide +kernel⟩, by decide +kernel, by decide⟩
set_option maxHeartbeats 1000000 in
theorem c_L_setRule {l : Launch} {z : Nat} {D : va_G} {kA : Nat → ClassId} {kE : Nat → Nat} {nx w N d2 mc2 ms2 : Nat} {M : pm_M} {x : Int32} {fs : List Value} {f : Nat → Int64} {P : pm_Po} (hN : 0 < N) (hN2 : N < 2147483648) (hM : M 0 = some (.inr (10, fs))) (hC : pm_C l z D kA kE yX12_setRule cX12_setRule 2 (some .int) d2 mc2 ms2 [.ref (z + 0), .int x] nx M P)
    (hP : ∀ v n' M1, P (.inl v) n' M1 → (∃ k : Int32, v = some (.int k)) ∧ M1 w = some (.inl (kA 1, N, .inr (.inl f)))) (hE : ∀ E n' M1, P (.inr E) n' M1 → E = "java/lang/IllegalArgumentException" ∨ E = "java/lang/UnsupportedOperationException") : pm_Cw l z D kA kE yL_setRule cL_setRule 4 (some .int) [(0, 9, 12, 13), (0, 9, 15, 15)] (d2 + 1) mc2 ms2 [.ref (z + 0), .int x, .ref (z + w)] nx M (pm_wr kA w N f P [("java/lang/IllegalArgumentException", 1), ("java/lang/UnsupportedOperationException", 2)]) := by
  refine pm_mkW (own := RL) (nm := "setRule") mt_L_setRule rfl rfl rfl rfl rfl fun X B => ?_
  refine pm_loc (L' := [some (.ref (z + 0)), some (.int x), some (.ref (z + w)), none]) rfl ?_
  refine pm_aload_n B dL_setRule_0 rfl ?_
  refine pm_iconst (v := 0) B dL_setRule_1 (by decide) ?_
  refine pm_aload_n B dL_setRule_2 rfl ?_
  refine pm_iload_n B dL_setRule_3 rfl ?_
  refine pm_callV (As := [.int x]) (mc2 := mc2) (ms2 := ms2) (d2 := d2) B rfl hM rfl hC mt_X12_setRule sv_L_44 dL_setRule_4 rfl (Nat.ble_eq_true_of_le (Nat.le_refl _)) rfl (Nat.ble_eq_true_of_le (by omega)) (Nat.ble_eq_true_of_le (by omega)) (fun E n' M' h => ?_) (fun u n' M' h => ?_)
  · rcases hE E n' M' h with rfl | rfl
    · refine pm_catch (tgt := 12) B [] ⟨0, 9, 12, 13⟩ [⟨0, 9, 15, 15⟩] rfl (fun w hw => by cases hw) rfl (by decide) (pm_T_in 851 (by decide +kernel) (by decide +kernel)) (pm_T_in 102 (by decide +kernel) (by decide +kernel)) rfl (fun q => ?_)
      refine pm_astore_n B dL_setRule_12 rfl rfl ?_
      refine pm_iconst (v := 1) B dL_setRule_13 (by decide) ?_
      exact pm_ireturn B dL_setRule_14 rfl rfl (Or.inr ⟨("java/lang/IllegalArgumentException", 1), by simp, h, rfl⟩) (Nat.ble_eq_true_of_le (by omega)) (Nat.ble_eq_true_of_le (by omega))
    · refine pm_catch (tgt := 15) B [⟨0, 9, 12, 13⟩] ⟨0, 9, 15, 15⟩ [] rfl (fun w hw => by
          simp only [List.mem_cons, List.not_mem_nil, or_false] at hw
          rcases hw with rfl <;> first | exact Or.inr ⟨by decide, "java/lang/IllegalArgumentException", pm_T_in 851 (by decide +kernel) (by decide +kernel), by decide +kernel⟩) rfl (by decide) (pm_T_in 852 (by decide +kernel) (by decide +kernel)) (pm_T_in 103 (by decide +kernel) (by decide +kernel)) rfl (fun q => ?_)
      refine pm_astore_n B dL_setRule_15 rfl rfl ?_
      refine pm_iconst (v := 2) B dL_setRule_16 (by decide) ?_
      exact pm_ireturn B dL_setRule_17 rfl rfl (Or.inr ⟨("java/lang/UnsupportedOperationException", 2), by simp, h, rfl⟩) (Nat.ble_eq_true_of_le (by omega)) (Nat.ble_eq_true_of_le (by omega))
  · obtain ⟨⟨k, rfl⟩, hw⟩ := hP u n' M' h
    refine pm_i2l B dL_setRule_7 ?_
    refine pm_last_n B dL_setRule_8 hw 0 hN hN2 ?_
    refine pm_goto (tgt := 18) B dL_setRule_9 (by decide) ?_
    refine pm_iconst (v := 0) B dL_setRule_18 (by decide) ?_
    exact pm_ireturn B dL_setRule_19 rfl rfl (Or.inl ⟨k, M', h, rfl, rfl⟩) (Nat.ble_eq_true_of_le (by omega)) (Nat.ble_eq_true_of_le (by omega))
theorem dL_assign_0 : decode cL_assign 0 = .ok (.aload_n 2, 1) := by decide +kernel
theorem dL_assign_1 : decode cL_assign 1 = .ok (.iconst 0, 1) := by decide +kernel
theorem dL_assign_2 : decode cL_assign 2 = .ok (.aload_n 0, 1) := by decide +kernel
theorem dL_assign_3 : decode cL_assign 3 = .ok (.iload_n 1, 1) := by decide +kernel
theorem dL_assign_4 : decode cL_assign 4 = .ok (.invokevirtual 47, 3) := by decide +kernel
theorem dL_assign_7 : decode cL_assign 7 = .ok (.i2l, 1) := by decide +kernel
theorem dL_assign_8 : decode cL_assign 8 = .ok (.lastore, 1) := by decide +kernel
theorem dL_assign_9 : decode cL_assign 9 = .ok (.goto 6, 3) := by decide +kernel
theorem dL_assign_12 : decode cL_assign 12 = .ok (.astore_n 3, 1) := by decide +kernel
theorem dL_assign_13 : decode cL_assign 13 = .ok (.iconst 1, 1) := by decide +kernel
theorem dL_assign_14 : decode cL_assign 14 = .ok (.ireturn, 1) := by decide +kernel
theorem dL_assign_15 : decode cL_assign 15 = .ok (.iconst 0, 1) := by decide +kernel
theorem dL_assign_16 : decode cL_assign 16 = .ok (.ireturn, 1) := by decide +kernel
theorem mt_L_assign : pm_MtW yL_assign cL_assign 4 (some .int) [(0, 9, 12, 13)] 3 := ⟨pm_T_in 977 (by decide +kernel) (by decide +kernel), pm_T_in 76 (by decide +kernel) (by decide +kernel), ⟨by decide +kernel, by decide +kernel, by decide +kernel⟩, by decide +kernel, by decide⟩
set_option maxHeartbeats 1000000 in
theorem c_L_assign {l : Launch} {z : Nat} {D : va_G} {kA : Nat → ClassId} {kE : Nat → Nat} {nx w N d2 mc2 ms2 : Nat} {M : pm_M} {x : Int32} {fs : List Value} {f : Nat → Int64} {P : pm_Po} (hN : 0 < N) (hN2 : N < 2147483648) (hM : M 0 = some (.inr (10, fs))) (hC : pm_C l z D kA kE yX12_assign cX12_assign 2 (some .int) d2 mc2 ms2 [.ref (z + 0), .int x] nx M P)
    (hP : ∀ v n' M1, P (.inl v) n' M1 → (∃ k : Int32, v = some (.int k)) ∧ M1 w = some (.inl (kA 1, N, .inr (.inl f)))) (hE : ∀ E n' M1, P (.inr E) n' M1 → E = "java/lang/IllegalArgumentException") : pm_Cw l z D kA kE yL_assign cL_assign 4 (some .int) [(0, 9, 12, 13)] (d2 + 1) mc2 ms2 [.ref (z + 0), .int x, .ref (z + w)] nx M (pm_wr kA w N f P [("java/lang/IllegalArgumentException", 1)]) := by
  refine pm_mkW (own := RL) (nm := "assign") mt_L_assign rfl rfl rfl rfl rfl fun X B => ?_
  refine pm_loc (L' := [some (.ref (z + 0)), some (.int x), some (.ref (z + w)), none]) rfl ?_
  refine pm_aload_n B dL_assign_0 rfl ?_
  refine pm_iconst (v := 0) B dL_assign_1 (by decide) ?_
  refine pm_aload_n B dL_assign_2 rfl ?_
  refine pm_iload_n B dL_assign_3 rfl ?_
  refine pm_callV (As := [.int x]) (mc2 := mc2) (ms2 := ms2) (d2 := d2) B rfl hM rfl hC mt_X12_assign sv_L_47 dL_assign_4 rfl (Nat.ble_eq_true_of_le (Nat.le_refl _)) rfl (Nat.ble_eq_true_of_le (by omega)) (Nat.ble_eq_true_of_le (by omega)) (fun E n' M' h => ?_) (fun u n' M' h => ?_)
  · obtain rfl := hE E n' M' h
    refine pm_catch (tgt := 12) B [] ⟨0, 9, 12, 13⟩ [] rfl (fun w hw => by cases hw) rfl (by decide) (pm_T_in 851 (by decide +kernel) (by decide +kernel)) (pm_T_in 102 (by decide +kernel) (by decide +kernel)) rfl (fun q => ?_)
    refine pm_astore_n B dL_assign_12 rfl rfl ?_
    refine pm_iconst (v := 1) B dL_assign_13 (by decide) ?_
    exact pm_ireturn B dL_assign_14 rfl rfl (Or.inr ⟨("java/lang/IllegalArgumentException", 1), by simp, h, rfl⟩) (Nat.ble_eq_true_of_le (by omega)) (Nat.ble_eq_true_of_le (by omega))
  · obtain ⟨⟨k, rfl⟩, hw⟩ := hP u n' M' h
    refine pm_i2l B dL_assign_7 ?_
    refine pm_last_n B dL_assign_8 hw 0 hN hN2 ?_
    refine pm_goto (tgt := 15) B dL_assign_9 (by decide) ?_
    refine pm_iconst (v := 0) B dL_assign_15 (by decide) ?_
    exact pm_ireturn B dL_assign_16 rfl rfl (Or.inl ⟨k, M', h, rfl, rfl⟩) (Nat.ble_eq_true_of_le (by omega)) (Nat.ble_eq_true_of_le (by omega))
theorem dL_sell_0 : decode cL_sell 0 = .ok (.aload_n 3, 1) := by decide +kernel
theorem dL_sell_1 : decode cL_sell 1 = .ok (.iconst 0, 1) := by decide +kernel
theorem dL_sell_2 : decode cL_sell 2 = .ok (.aload_n 0, 1) := by decide +kernel
theorem dL_sell_3 : decode cL_sell 3 = .ok (.iload_n 1, 1) := by decide +kernel
theorem dL_sell_4 : decode cL_sell 4 = .ok (.iload_n 2, 1) := by decide +kernel
theorem dL_sell_5 : decode cL_sell 5 = .ok (.invokevirtual 50, 3) := by decide +kernel
theorem dL_sell_8 : decode cL_sell 8 = .ok (.i2l, 1) := by decide +kernel
theorem dL_sell_9 : decode cL_sell 9 = .ok (.lastore, 1) := by decide +kernel
theorem dL_sell_10 : decode cL_sell 10 = .ok (.goto 15, 3) := by decide +kernel
theorem dL_sell_13 : decode cL_sell 13 = .ok (.astore 4, 2) := by decide +kernel
theorem dL_sell_15 : decode cL_sell 15 = .ok (.iconst 1, 1) := by decide +kernel
theorem dL_sell_16 : decode cL_sell 16 = .ok (.ireturn, 1) := by decide +kernel
theorem dL_sell_17 : decode cL_sell 17 = .ok (.astore 4, 2) := by decide +kernel
theorem dL_sell_19 : decode cL_sell 19 = .ok (.iconst 2, 1) := by decide +kernel
theorem dL_sell_20 : decode cL_sell 20 = .ok (.ireturn, 1) := by decide +kernel
theorem dL_sell_21 : decode cL_sell 21 = .ok (.astore 4, 2) := by decide +kernel
theorem dL_sell_23 : decode cL_sell 23 = .ok (.iconst 3, 1) := by decide +kernel
theorem dL_sell_24 : decode cL_sell 24 = .ok (.ireturn, 1) := by decide +kernel
theorem dL_sell_25 : decode cL_sell 25 = .ok (.iconst 0, 1) := by decide +kernel
theorem dL_sell_26 : decode cL_sell 26 = .ok (.ireturn, 1) := by decide +kernel
theorem mt_L_sell : pm_MtW yL_sell cL_sell 5 (some .int) [(0, 10, 13, 21), (0, 10, 17, 13), (0, 10, 21, 15)] 4 := ⟨pm_T_in 986 (by decide +kernel) (by decide +kernel), pm_T_in 76 (by decide +kernel) (by decide +kernel), ⟨by decide +kernel, by decide +kernel, by decide +kernel⟩, by decide +kernel, by decide⟩
set_option maxHeartbeats 1000000 in
theorem c_L_sell {l : Launch} {z : Nat} {D : va_G} {kA : Nat → ClassId} {kE : Nat → Nat} {nx w N d2 mc2 ms2 : Nat} {M : pm_M} {x y : Int32} {fs : List Value} {f : Nat → Int64} {P : pm_Po} (hN : 0 < N) (hN2 : N < 2147483648) (hM : M 0 = some (.inr (10, fs))) (hC : pm_C l z D kA kE yX12_sell cX12_sell 3 (some .int) d2 mc2 ms2 [.ref (z + 0), .int x, .int y] nx M P)
    (hP : ∀ v n' M1, P (.inl v) n' M1 → (∃ k : Int32, v = some (.int k)) ∧ M1 w = some (.inl (kA 1, N, .inr (.inl f)))) (hE : ∀ E n' M1, P (.inr E) n' M1 → E = "java/lang/IndexOutOfBoundsException" ∨ E = "java/lang/IllegalArgumentException" ∨ E = "java/lang/UnsupportedOperationException") : pm_Cw l z D kA kE yL_sell cL_sell 5 (some .int) [(0, 10, 13, 21), (0, 10, 17, 13), (0, 10, 21, 15)] (d2 + 1) mc2 ms2 [.ref (z + 0), .int x, .int y, .ref (z + w)] nx M (pm_wr kA w N f P [("java/lang/IndexOutOfBoundsException", 1), ("java/lang/IllegalArgumentException", 2), ("java/lang/UnsupportedOperationException", 3)]) := by
  refine pm_mkW (own := RL) (nm := "sell") mt_L_sell rfl rfl rfl rfl rfl fun X B => ?_
  refine pm_loc (L' := [some (.ref (z + 0)), some (.int x), some (.int y), some (.ref (z + w)), none]) rfl ?_
  refine pm_aload_n B dL_sell_0 rfl ?_
  refine pm_iconst (v := 0) B dL_sell_1 (by decide) ?_
  refine pm_aload_n B dL_sell_2 rfl ?_
  refine pm_iload_n B dL_sell_3 rfl ?_
  refine pm_iload_n B dL_sell_4 rfl ?_
  refine pm_callV (As := [.int x, .int y]) (mc2 := mc2) (ms2 := ms2) (d2 := d2) B rfl hM rfl hC mt_X12_sell sv_L_50 dL_sell_5 rfl (Nat.ble_eq_true_of_le (Nat.le_refl _)) rfl (Nat.ble_eq_true_of_le (by omega)) (Nat.ble_eq_true_of_le (by omega)) (fun E n' M' h => ?_) (fun u n' M' h => ?_)
  · rcases hE E n' M' h with rfl | rfl | rfl
    · refine pm_catch (tgt := 13) B [] ⟨0, 10, 13, 21⟩ [⟨0, 10, 17, 13⟩, ⟨0, 10, 21, 15⟩] rfl (fun w hw => by cases hw) rfl (by decide) (pm_T_in 862 (by decide +kernel) (by decide +kernel)) (pm_T_in 101 (by decide +kernel) (by decide +kernel)) rfl (fun q => ?_)
      refine pm_astore B dL_sell_13 rfl rfl ?_
      refine pm_iconst (v := 1) B dL_sell_15 (by decide) ?_
      exact pm_ireturn B dL_sell_16 rfl rfl (Or.inr ⟨("java/lang/IndexOutOfBoundsException", 1), by simp, h, rfl⟩) (Nat.ble_eq_true_of_le (by omega)) (Nat.ble_eq_true_of_le (by omega))
    · refine pm_catch (tgt := 17) B [⟨0, 10, 13, 21⟩] ⟨0, 10, 17, 13⟩ [⟨0, 10, 21, 15⟩] rfl (fun w hw => by
          simp only [List.mem_cons, List.not_mem_nil, or_false] at hw
          rcases hw with rfl <;> first | exact Or.inr ⟨by decide, "java/lang/IndexOutOfBoundsException", pm_T_in 862 (by decide +kernel) (by decide +kernel), by decide +kernel⟩) rfl (by decide) (pm_T_in 851 (by decide +kernel) (by decide +kernel)) (pm_T_in 102 (by decide +kernel) (by decide +kernel)) rfl (fun q => ?_)
      refine pm_astore B dL_sell_17 rfl rfl ?_
      refine pm_iconst (v := 2) B dL_sell_19 (by decide) ?_
      exact pm_ireturn B dL_sell_20 rfl rfl (Or.inr ⟨("java/lang/IllegalArgumentException", 2), by simp, h, rfl⟩) (Nat.ble_eq_true_of_le (by omega)) (Nat.ble_eq_true_of_le (by omega))
    · refine pm_catch (tgt := 21) B [⟨0, 10, 13, 21⟩, ⟨0, 10, 17, 13⟩] ⟨0, 10, 21, 15⟩ [] rfl (fun w hw => by
          simp only [List.mem_cons, List.not_mem_nil, or_false] at hw
          rcases hw with rfl | rfl <;> first | exact Or.inr ⟨by decide, "java/lang/IndexOutOfBoundsException", pm_T_in 862 (by decide +kernel) (by decide +kernel), by decide +kernel⟩ | exact Or.inr ⟨by decide, "java/lang/IllegalArgumentException", pm_T_in 851 (by decide +kernel) (by decide +kernel), by decide +kernel⟩) rfl (by decide) (pm_T_in 852 (by decide +kernel) (by decide +kernel)) (pm_T_in 103 (by decide +kernel) (by decide +kernel)) rfl (fun q => ?_)
      refine pm_astore B dL_sell_21 rfl rfl ?_
      refine pm_iconst (v := 3) B dL_sell_23 (by decide) ?_
      exact pm_ireturn B dL_sell_24 rfl rfl (Or.inr ⟨("java/lang/UnsupportedOperationException", 3), by simp, h, rfl⟩) (Nat.ble_eq_true_of_le (by omega)) (Nat.ble_eq_true_of_le (by omega))
  · obtain ⟨⟨k, rfl⟩, hw⟩ := hP u n' M' h
    refine pm_i2l B dL_sell_8 ?_
    refine pm_last_n B dL_sell_9 hw 0 hN hN2 ?_
    refine pm_goto (tgt := 25) B dL_sell_10 (by decide) ?_
    refine pm_iconst (v := 0) B dL_sell_25 (by decide) ?_
    exact pm_ireturn B dL_sell_26 rfl rfl (Or.inl ⟨k, M', h, rfl, rfl⟩) (Nat.ble_eq_true_of_le (by omega)) (Nat.ble_eq_true_of_le (by omega))
theorem dL_quotaBy_0 : decode cL_quotaBy 0 = .ok (.aload 4, 2) := by decide +kernel
theorem dL_quotaBy_2 : decode cL_quotaBy 2 = .ok (.iconst 0, 1) := by decide +kernel
theorem dL_quotaBy_3 : decode cL_quotaBy 3 = .ok (.aload_n 0, 1) := by decide +kernel
theorem dL_quotaBy_4 : decode cL_quotaBy 4 = .ok (.iload_n 1, 1) := by decide +kernel
theorem dL_quotaBy_5 : decode cL_quotaBy 5 = .ok (.iload_n 2, 1) := by decide +kernel
theorem dL_quotaBy_6 : decode cL_quotaBy 6 = .ok (.iload_n 3, 1) := by decide +kernel
theorem dL_quotaBy_7 : decode cL_quotaBy 7 = .ok (.invokevirtual 53, 3) := by decide +kernel
theorem dL_quotaBy_10 : decode cL_quotaBy 10 = .ok (.i2l, 1) := by decide +kernel
theorem dL_quotaBy_11 : decode cL_quotaBy 11 = .ok (.lastore, 1) := by decide +kernel
theorem dL_quotaBy_12 : decode cL_quotaBy 12 = .ok (.goto 11, 3) := by decide +kernel
theorem dL_quotaBy_15 : decode cL_quotaBy 15 = .ok (.astore 5, 2) := by decide +kernel
theorem dL_quotaBy_17 : decode cL_quotaBy 17 = .ok (.iconst 1, 1) := by decide +kernel
theorem dL_quotaBy_18 : decode cL_quotaBy 18 = .ok (.ireturn, 1) := by decide +kernel
theorem dL_quotaBy_19 : decode cL_quotaBy 19 = .ok (.astore 5, 2) := by decide +kernel
theorem dL_quotaBy_21 : decode cL_quotaBy 21 = .ok (.iconst 2, 1) := by decide +kernel
theorem dL_quotaBy_22 : decode cL_quotaBy 22 = .ok (.ireturn, 1) := by decide +kernel
theorem dL_quotaBy_23 : decode cL_quotaBy 23 = .ok (.iconst 0, 1) := by decide +kernel
theorem dL_quotaBy_24 : decode cL_quotaBy 24 = .ok (.ireturn, 1) := by decide +kernel
theorem mt_L_quotaBy : pm_MtW yL_quotaBy cL_quotaBy 6 (some .int) [(0, 12, 15, 21), (0, 12, 19, 13)] 5 := ⟨pm_T_in 995 (by decide +kernel) (by decide +kernel), pm_T_in 76 (by decide +kernel) (by decide +kernel), ⟨by decide +kernel, by decide +kernel, by decide +kernel⟩, by decide +kernel, by decide⟩
set_option maxHeartbeats 1000000 in
theorem c_L_quotaBy {l : Launch} {z : Nat} {D : va_G} {kA : Nat → ClassId} {kE : Nat → Nat} {nx w N d2 mc2 ms2 : Nat} {M : pm_M} {x y v : Int32} {fs : List Value} {f : Nat → Int64} {P : pm_Po} (hN : 0 < N) (hN2 : N < 2147483648) (hM : M 0 = some (.inr (10, fs))) (hC : pm_C l z D kA kE yX12_quotaBy cX12_quotaBy 4 (some .int) d2 mc2 ms2 [.ref (z + 0), .int x, .int y, .int v] nx M P)
    (hP : ∀ v n' M1, P (.inl v) n' M1 → (∃ k : Int32, v = some (.int k)) ∧ M1 w = some (.inl (kA 1, N, .inr (.inl f)))) (hE : ∀ E n' M1, P (.inr E) n' M1 → E = "java/lang/IndexOutOfBoundsException" ∨ E = "java/lang/IllegalArgumentException") : pm_Cw l z D kA kE yL_quotaBy cL_quotaBy 6 (some .int) [(0, 12, 15, 21), (0, 12, 19, 13)] (d2 + 1) mc2 ms2 [.ref (z + 0), .int x, .int y, .int v, .ref (z + w)] nx M (pm_wr kA w N f P [("java/lang/IndexOutOfBoundsException", 1), ("java/lang/IllegalArgumentException", 2)]) := by
  refine pm_mkW (own := RL) (nm := "quotaBy") mt_L_quotaBy rfl rfl rfl rfl rfl fun X B => ?_
  refine pm_loc (L' := [some (.ref (z + 0)), some (.int x), some (.int y), some (.int v), some (.ref (z + w)), none]) rfl ?_
  refine pm_aload B dL_quotaBy_0 rfl ?_
  refine pm_iconst (v := 0) B dL_quotaBy_2 (by decide) ?_
  refine pm_aload_n B dL_quotaBy_3 rfl ?_
  refine pm_iload_n B dL_quotaBy_4 rfl ?_
  refine pm_iload_n B dL_quotaBy_5 rfl ?_
  refine pm_iload_n B dL_quotaBy_6 rfl ?_
  refine pm_callV (As := [.int x, .int y, .int v]) (mc2 := mc2) (ms2 := ms2) (d2 := d2) B rfl hM rfl hC mt_X12_quotaBy sv_L_53 dL_quotaBy_7 rfl (Nat.ble_eq_true_of_le (Nat.le_refl _)) rfl (Nat.ble_eq_true_of_le (by omega)) (Nat.ble_eq_true_of_le (by omega)) (fun E n' M' h => ?_) (fun u n' M' h => ?_)
  · rcases hE E n' M' h with rfl | rfl
    · refine pm_catch (tgt := 15) B [] ⟨0, 12, 15, 21⟩ [⟨0, 12, 19, 13⟩] rfl (fun w hw => by cases hw) rfl (by decide) (pm_T_in 862 (by decide +kernel) (by decide +kernel)) (pm_T_in 101 (by decide +kernel) (by decide +kernel)) rfl (fun q => ?_)
      refine pm_astore B dL_quotaBy_15 rfl rfl ?_
      refine pm_iconst (v := 1) B dL_quotaBy_17 (by decide) ?_
      exact pm_ireturn B dL_quotaBy_18 rfl rfl (Or.inr ⟨("java/lang/IndexOutOfBoundsException", 1), by simp, h, rfl⟩) (Nat.ble_eq_true_of_le (by omega)) (Nat.ble_eq_true_of_le (by omega))
    · refine pm_catch (tgt := 19) B [⟨0, 12, 15, 21⟩] ⟨0, 12, 19, 13⟩ [] rfl (fun w hw => by
          simp only [List.mem_cons, List.not_mem_nil, or_false] at hw
          rcases hw with rfl <;> first | exact Or.inr ⟨by decide, "java/lang/IndexOutOfBoundsException", pm_T_in 862 (by decide +kernel) (by decide +kernel), by decide +kernel⟩) rfl (by decide) (pm_T_in 851 (by decide +kernel) (by decide +kernel)) (pm_T_in 102 (by decide +kernel) (by decide +kernel)) rfl (fun q => ?_)
      refine pm_astore B dL_quotaBy_19 rfl rfl ?_
      refine pm_iconst (v := 2) B dL_quotaBy_21 (by decide) ?_
      exact pm_ireturn B dL_quotaBy_22 rfl rfl (Or.inr ⟨("java/lang/IllegalArgumentException", 2), by simp, h, rfl⟩) (Nat.ble_eq_true_of_le (by omega)) (Nat.ble_eq_true_of_le (by omega))
  · obtain ⟨⟨k, rfl⟩, hw⟩ := hP u n' M' h
    refine pm_i2l B dL_quotaBy_10 ?_
    refine pm_last_n B dL_quotaBy_11 hw 0 hN hN2 ?_
    refine pm_goto (tgt := 23) B dL_quotaBy_12 (by decide) ?_
    refine pm_iconst (v := 0) B dL_quotaBy_23 (by decide) ?_
    exact pm_ireturn B dL_quotaBy_24 rfl rfl (Or.inl ⟨k, M', h, rfl, rfl⟩) (Nat.ble_eq_true_of_le (by omega)) (Nat.ble_eq_true_of_le (by omega))
theorem dL_quota_0 : decode cL_quota 0 = .ok (.aload_n 2, 1) := by decide +kernel
theorem dL_quota_1 : decode cL_quota 1 = .ok (.iconst 0, 1) := by decide +kernel
theorem dL_quota_2 : decode cL_quota 2 = .ok (.aload_n 0, 1) := by decide +kernel
theorem dL_quota_3 : decode cL_quota 3 = .ok (.iload_n 1, 1) := by decide +kernel
theorem dL_quota_4 : decode cL_quota 4 = .ok (.invokevirtual 57, 3) := by decide +kernel
theorem dL_quota_7 : decode cL_quota 7 = .ok (.i2l, 1) := by decide +kernel
theorem dL_quota_8 : decode cL_quota 8 = .ok (.lastore, 1) := by decide +kernel
theorem dL_quota_9 : decode cL_quota 9 = .ok (.goto 6, 3) := by decide +kernel
theorem dL_quota_12 : decode cL_quota 12 = .ok (.astore_n 3, 1) := by decide +kernel
theorem dL_quota_13 : decode cL_quota 13 = .ok (.iconst 1, 1) := by decide +kernel
theorem dL_quota_14 : decode cL_quota 14 = .ok (.ireturn, 1) := by decide +kernel
theorem dL_quota_15 : decode cL_quota 15 = .ok (.iconst 0, 1) := by decide +kernel
theorem dL_quota_16 : decode cL_quota 16 = .ok (.ireturn, 1) := by decide +kernel
theorem mt_L_quota : pm_MtW yL_quota cL_quota 4 (some .int) [(0, 9, 12, 21)] 3 := ⟨pm_T_in 1005 (by decide +kernel) (by decide +kernel), pm_T_in 76 (by decide +kernel) (by decide +kernel), ⟨by decide +kernel, by decide +kernel, by decide +kernel⟩, by decide +kernel, by decide⟩
set_option maxHeartbeats 1000000 in
theorem c_L_quota {l : Launch} {z : Nat} {D : va_G} {kA : Nat → ClassId} {kE : Nat → Nat} {nx w N d2 mc2 ms2 : Nat} {M : pm_M} {x : Int32} {fs : List Value} {f : Nat → Int64} {P : pm_Po} (hN : 0 < N) (hN2 : N < 2147483648) (hM : M 0 = some (.inr (10, fs))) (hC : pm_C l z D kA kE yX12_quota cX12_quota 2 (some .int) d2 mc2 ms2 [.ref (z + 0), .int x] nx M P)
    (hP : ∀ v n' M1, P (.inl v) n' M1 → (∃ k : Int32, v = some (.int k)) ∧ M1 w = some (.inl (kA 1, N, .inr (.inl f)))) (hE : ∀ E n' M1, P (.inr E) n' M1 → E = "java/lang/IndexOutOfBoundsException") : pm_Cw l z D kA kE yL_quota cL_quota 4 (some .int) [(0, 9, 12, 21)] (d2 + 1) mc2 ms2 [.ref (z + 0), .int x, .ref (z + w)] nx M (pm_wr kA w N f P [("java/lang/IndexOutOfBoundsException", 1)]) := by
  refine pm_mkW (own := RL) (nm := "quota") mt_L_quota rfl rfl rfl rfl rfl fun X B => ?_
  refine pm_loc (L' := [some (.ref (z + 0)), some (.int x), some (.ref (z + w)), none]) rfl ?_
  refine pm_aload_n B dL_quota_0 rfl ?_
  refine pm_iconst (v := 0) B dL_quota_1 (by decide) ?_
  refine pm_aload_n B dL_quota_2 rfl ?_
  refine pm_iload_n B dL_quota_3 rfl ?_
  refine pm_callV (As := [.int x]) (mc2 := mc2) (ms2 := ms2) (d2 := d2) B rfl hM rfl hC mt_X12_quota sv_L_57 dL_quota_4 rfl (Nat.ble_eq_true_of_le (Nat.le_refl _)) rfl (Nat.ble_eq_true_of_le (by omega)) (Nat.ble_eq_true_of_le (by omega)) (fun E n' M' h => ?_) (fun u n' M' h => ?_)
  · obtain rfl := hE E n' M' h
    refine pm_catch (tgt := 12) B [] ⟨0, 9, 12, 21⟩ [] rfl (fun w hw => by cases hw) rfl (by decide) (pm_T_in 862 (by decide +kernel) (by decide +kernel)) (pm_T_in 101 (by decide +kernel) (by decide +kernel)) rfl (fun q => ?_)
    refine pm_astore_n B dL_quota_12 rfl rfl ?_
    refine pm_iconst (v := 1) B dL_quota_13 (by decide) ?_
    exact pm_ireturn B dL_quota_14 rfl rfl (Or.inr ⟨("java/lang/IndexOutOfBoundsException", 1), by simp, h, rfl⟩) (Nat.ble_eq_true_of_le (by omega)) (Nat.ble_eq_true_of_le (by omega))
  · obtain ⟨⟨k, rfl⟩, hw⟩ := hP u n' M' h
    refine pm_i2l B dL_quota_7 ?_
    refine pm_last_n B dL_quota_8 hw 0 hN hN2 ?_
    refine pm_goto (tgt := 15) B dL_quota_9 (by decide) ?_
    refine pm_iconst (v := 0) B dL_quota_15 (by decide) ?_
    exact pm_ireturn B dL_quota_16 rfl rfl (Or.inl ⟨k, M', h, rfl, rfl⟩) (Nat.ble_eq_true_of_le (by omega)) (Nat.ble_eq_true_of_le (by omega))
theorem dL_sales_0 : decode cL_sales 0 = .ok (.aload_n 2, 1) := by decide +kernel
theorem dL_sales_1 : decode cL_sales 1 = .ok (.iconst 0, 1) := by decide +kernel
theorem dL_sales_2 : decode cL_sales 2 = .ok (.aload_n 0, 1) := by decide +kernel
theorem dL_sales_3 : decode cL_sales 3 = .ok (.iload_n 1, 1) := by decide +kernel
theorem dL_sales_4 : decode cL_sales 4 = .ok (.invokevirtual 60, 3) := by decide +kernel
theorem dL_sales_7 : decode cL_sales 7 = .ok (.i2l, 1) := by decide +kernel
theorem dL_sales_8 : decode cL_sales 8 = .ok (.lastore, 1) := by decide +kernel
theorem dL_sales_9 : decode cL_sales 9 = .ok (.goto 6, 3) := by decide +kernel
theorem dL_sales_12 : decode cL_sales 12 = .ok (.astore_n 3, 1) := by decide +kernel
theorem dL_sales_13 : decode cL_sales 13 = .ok (.iconst 1, 1) := by decide +kernel
theorem dL_sales_14 : decode cL_sales 14 = .ok (.ireturn, 1) := by decide +kernel
theorem dL_sales_15 : decode cL_sales 15 = .ok (.iconst 0, 1) := by decide +kernel
theorem dL_sales_16 : decode cL_sales 16 = .ok (.ireturn, 1) := by decide +kernel
theorem mt_L_sales : pm_MtW yL_sales cL_sales 4 (some .int) [(0, 9, 12, 21)] 3 := ⟨pm_T_in 1012 (by decide +kernel) (by decide +kernel), pm_T_in 76 (by decide +kernel) (by decide +kernel), ⟨by decide +kernel, by decide +kernel, by decide +kernel⟩, by decide +kernel, by decide⟩
set_option maxHeartbeats 1000000 in
theorem c_L_sales {l : Launch} {z : Nat} {D : va_G} {kA : Nat → ClassId} {kE : Nat → Nat} {nx w N d2 mc2 ms2 : Nat} {M : pm_M} {x : Int32} {fs : List Value} {f : Nat → Int64} {P : pm_Po} (hN : 0 < N) (hN2 : N < 2147483648) (hM : M 0 = some (.inr (10, fs))) (hC : pm_C l z D kA kE yX12_sales cX12_sales 2 (some .int) d2 mc2 ms2 [.ref (z + 0), .int x] nx M P)
    (hP : ∀ v n' M1, P (.inl v) n' M1 → (∃ k : Int32, v = some (.int k)) ∧ M1 w = some (.inl (kA 1, N, .inr (.inl f)))) (hE : ∀ E n' M1, P (.inr E) n' M1 → E = "java/lang/IndexOutOfBoundsException") : pm_Cw l z D kA kE yL_sales cL_sales 4 (some .int) [(0, 9, 12, 21)] (d2 + 1) mc2 ms2 [.ref (z + 0), .int x, .ref (z + w)] nx M (pm_wr kA w N f P [("java/lang/IndexOutOfBoundsException", 1)]) := by
  refine pm_mkW (own := RL) (nm := "sales") mt_L_sales rfl rfl rfl rfl rfl fun X B => ?_
  refine pm_loc (L' := [some (.ref (z + 0)), some (.int x), some (.ref (z + w)), none]) rfl ?_
  refine pm_aload_n B dL_sales_0 rfl ?_
  refine pm_iconst (v := 0) B dL_sales_1 (by decide) ?_
  refine pm_aload_n B dL_sales_2 rfl ?_
  refine pm_iload_n B dL_sales_3 rfl ?_
  refine pm_callV (As := [.int x]) (mc2 := mc2) (ms2 := ms2) (d2 := d2) B rfl hM rfl hC mt_X12_sales sv_L_60 dL_sales_4 rfl (Nat.ble_eq_true_of_le (Nat.le_refl _)) rfl (Nat.ble_eq_true_of_le (by omega)) (Nat.ble_eq_true_of_le (by omega)) (fun E n' M' h => ?_) (fun u n' M' h => ?_)
  · obtain rfl := hE E n' M' h
    refine pm_catch (tgt := 12) B [] ⟨0, 9, 12, 21⟩ [] rfl (fun w hw => by cases hw) rfl (by decide) (pm_T_in 862 (by decide +kernel) (by decide +kernel)) (pm_T_in 101 (by decide +kernel) (by decide +kernel)) rfl (fun q => ?_)
    refine pm_astore_n B dL_sales_12 rfl rfl ?_
    refine pm_iconst (v := 1) B dL_sales_13 (by decide) ?_
    exact pm_ireturn B dL_sales_14 rfl rfl (Or.inr ⟨("java/lang/IndexOutOfBoundsException", 1), by simp, h, rfl⟩) (Nat.ble_eq_true_of_le (by omega)) (Nat.ble_eq_true_of_le (by omega))
  · obtain ⟨⟨k, rfl⟩, hw⟩ := hP u n' M' h
    refine pm_i2l B dL_sales_7 ?_
    refine pm_last_n B dL_sales_8 hw 0 hN hN2 ?_
    refine pm_goto (tgt := 15) B dL_sales_9 (by decide) ?_
    refine pm_iconst (v := 0) B dL_sales_15 (by decide) ?_
    exact pm_ireturn B dL_sales_16 rfl rfl (Or.inl ⟨k, M', h, rfl, rfl⟩) (Nat.ble_eq_true_of_le (by omega)) (Nat.ble_eq_true_of_le (by omega))
theorem dL_excess_0 : decode cL_excess 0 = .ok (.aload_n 2, 1) := by decide +kernel
theorem dL_excess_1 : decode cL_excess 1 = .ok (.iconst 0, 1) := by decide +kernel
theorem dL_excess_2 : decode cL_excess 2 = .ok (.aload_n 0, 1) := by decide +kernel
theorem dL_excess_3 : decode cL_excess 3 = .ok (.iload_n 1, 1) := by decide +kernel
theorem dL_excess_4 : decode cL_excess 4 = .ok (.invokevirtual 63, 3) := by decide +kernel
theorem dL_excess_7 : decode cL_excess 7 = .ok (.i2l, 1) := by decide +kernel
theorem dL_excess_8 : decode cL_excess 8 = .ok (.lastore, 1) := by decide +kernel
theorem dL_excess_9 : decode cL_excess 9 = .ok (.goto 6, 3) := by decide +kernel
theorem dL_excess_12 : decode cL_excess 12 = .ok (.astore_n 3, 1) := by decide +kernel
theorem dL_excess_13 : decode cL_excess 13 = .ok (.iconst 1, 1) := by decide +kernel
theorem dL_excess_14 : decode cL_excess 14 = .ok (.ireturn, 1) := by decide +kernel
theorem dL_excess_15 : decode cL_excess 15 = .ok (.iconst 0, 1) := by decide +kernel
theorem dL_excess_16 : decode cL_excess 16 = .ok (.ireturn, 1) := by decide +kernel
theorem mt_L_excess : pm_MtW yL_excess cL_excess 4 (some .int) [(0, 9, 12, 21)] 3 := ⟨pm_T_in 1019 (by decide +kernel) (by decide +kernel), pm_T_in 76 (by decide +kernel) (by decide +kernel), ⟨by decide +kernel, by decide +kernel, by decide +kernel⟩, by decide +kernel, by decide⟩
set_option maxHeartbeats 1000000 in
theorem c_L_excess {l : Launch} {z : Nat} {D : va_G} {kA : Nat → ClassId} {kE : Nat → Nat} {nx w N d2 mc2 ms2 : Nat} {M : pm_M} {x : Int32} {fs : List Value} {f : Nat → Int64} {P : pm_Po} (hN : 0 < N) (hN2 : N < 2147483648) (hM : M 0 = some (.inr (10, fs))) (hC : pm_C l z D kA kE yX12_excess cX12_excess 2 (some .int) d2 mc2 ms2 [.ref (z + 0), .int x] nx M P)
    (hP : ∀ v n' M1, P (.inl v) n' M1 → (∃ k : Int32, v = some (.int k)) ∧ M1 w = some (.inl (kA 1, N, .inr (.inl f)))) (hE : ∀ E n' M1, P (.inr E) n' M1 → E = "java/lang/IndexOutOfBoundsException") : pm_Cw l z D kA kE yL_excess cL_excess 4 (some .int) [(0, 9, 12, 21)] (d2 + 1) mc2 ms2 [.ref (z + 0), .int x, .ref (z + w)] nx M (pm_wr kA w N f P [("java/lang/IndexOutOfBoundsException", 1)]) := by
  refine pm_mkW (own := RL) (nm := "excess") mt_L_excess rfl rfl rfl rfl rfl fun X B => ?_
  refine pm_loc (L' := [some (.ref (z + 0)), some (.int x), some (.ref (z + w)), none]) rfl ?_
  refine pm_aload_n B dL_excess_0 rfl ?_
  refine pm_iconst (v := 0) B dL_excess_1 (by decide) ?_
  refine pm_aload_n B dL_excess_2 rfl ?_
  refine pm_iload_n B dL_excess_3 rfl ?_
  refine pm_callV (As := [.int x]) (mc2 := mc2) (ms2 := ms2) (d2 := d2) B rfl hM rfl hC mt_X12_excess sv_L_63 dL_excess_4 rfl (Nat.ble_eq_true_of_le (Nat.le_refl _)) rfl (Nat.ble_eq_true_of_le (by omega)) (Nat.ble_eq_true_of_le (by omega)) (fun E n' M' h => ?_) (fun u n' M' h => ?_)
  · obtain rfl := hE E n' M' h
    refine pm_catch (tgt := 12) B [] ⟨0, 9, 12, 21⟩ [] rfl (fun w hw => by cases hw) rfl (by decide) (pm_T_in 862 (by decide +kernel) (by decide +kernel)) (pm_T_in 101 (by decide +kernel) (by decide +kernel)) rfl (fun q => ?_)
    refine pm_astore_n B dL_excess_12 rfl rfl ?_
    refine pm_iconst (v := 1) B dL_excess_13 (by decide) ?_
    exact pm_ireturn B dL_excess_14 rfl rfl (Or.inr ⟨("java/lang/IndexOutOfBoundsException", 1), by simp, h, rfl⟩) (Nat.ble_eq_true_of_le (by omega)) (Nat.ble_eq_true_of_le (by omega))
  · obtain ⟨⟨k, rfl⟩, hw⟩ := hP u n' M' h
    refine pm_i2l B dL_excess_7 ?_
    refine pm_last_n B dL_excess_8 hw 0 hN hN2 ?_
    refine pm_goto (tgt := 15) B dL_excess_9 (by decide) ?_
    refine pm_iconst (v := 0) B dL_excess_15 (by decide) ?_
    exact pm_ireturn B dL_excess_16 rfl rfl (Or.inl ⟨k, M', h, rfl, rfl⟩) (Nat.ble_eq_true_of_le (by omega)) (Nat.ble_eq_true_of_le (by omega))
theorem dL_audit_0 : decode cL_audit 0 = .ok (.aload_n 2, 1) := by decide +kernel
theorem dL_audit_1 : decode cL_audit 1 = .ok (.iconst 0, 1) := by decide +kernel
theorem dL_audit_2 : decode cL_audit 2 = .ok (.aload_n 0, 1) := by decide +kernel
theorem dL_audit_3 : decode cL_audit 3 = .ok (.iload_n 1, 1) := by decide +kernel
theorem dL_audit_4 : decode cL_audit 4 = .ok (.invokevirtual 66, 3) := by decide +kernel
theorem dL_audit_7 : decode cL_audit 7 = .ok (.i2l, 1) := by decide +kernel
theorem dL_audit_8 : decode cL_audit 8 = .ok (.lastore, 1) := by decide +kernel
theorem dL_audit_9 : decode cL_audit 9 = .ok (.goto 9, 3) := by decide +kernel
theorem dL_audit_12 : decode cL_audit 12 = .ok (.astore_n 3, 1) := by decide +kernel
theorem dL_audit_13 : decode cL_audit 13 = .ok (.iconst 1, 1) := by decide +kernel
theorem dL_audit_14 : decode cL_audit 14 = .ok (.ireturn, 1) := by decide +kernel
theorem dL_audit_15 : decode cL_audit 15 = .ok (.astore_n 3, 1) := by decide +kernel
theorem dL_audit_16 : decode cL_audit 16 = .ok (.iconst 2, 1) := by decide +kernel
theorem dL_audit_17 : decode cL_audit 17 = .ok (.ireturn, 1) := by decide +kernel
theorem dL_audit_18 : decode cL_audit 18 = .ok (.iconst 0, 1) := by decide +kernel
theorem dL_audit_19 : decode cL_audit 19 = .ok (.ireturn, 1) := by decide +kernel
theorem mt_L_audit : pm_MtW yL_audit cL_audit 4 (some .int) [(0, 9, 12, 13), (0, 9, 15, 15)] 3 := ⟨pm_T_in 1027 (by decide +kernel) (by decide +kernel), pm_T_in 76 (by decide +kernel) (by decide +kernel), ⟨by decide +kernel, by decide +kernel, by decide +kernel⟩, by decide +kernel, by decide⟩
set_option maxHeartbeats 1000000 in
theorem c_L_audit {l : Launch} {z : Nat} {D : va_G} {kA : Nat → ClassId} {kE : Nat → Nat} {nx w N d2 mc2 ms2 : Nat} {M : pm_M} {x : Int32} {fs : List Value} {f : Nat → Int64} {P : pm_Po} (hN : 0 < N) (hN2 : N < 2147483648) (hM : M 0 = some (.inr (10, fs))) (hC : pm_C l z D kA kE yX12_audit cX12_audit 2 (some .int) d2 mc2 ms2 [.ref (z + 0), .int x] nx M P)
    (hP : ∀ v n' M1, P (.inl v) n' M1 → (∃ k : Int32, v = some (.int k)) ∧ M1 w = some (.inl (kA 1, N, .inr (.inl f)))) (hE : ∀ E n' M1, P (.inr E) n' M1 → E = "java/lang/IllegalArgumentException" ∨ E = "java/lang/UnsupportedOperationException") : pm_Cw l z D kA kE yL_audit cL_audit 4 (some .int) [(0, 9, 12, 13), (0, 9, 15, 15)] (d2 + 1) mc2 ms2 [.ref (z + 0), .int x, .ref (z + w)] nx M (pm_wr kA w N f P [("java/lang/IllegalArgumentException", 1), ("java/lang/UnsupportedOperationException", 2)]) := by
  refine pm_mkW (own := RL) (nm := "audit") mt_L_audit rfl rfl rfl rfl rfl fun X B => ?_
  refine pm_loc (L' := [some (.ref (z + 0)), some (.int x), some (.ref (z + w)), none]) rfl ?_
  refine pm_aload_n B dL_audit_0 rfl ?_
  refine pm_iconst (v := 0) B dL_audit_1 (by decide) ?_
  refine pm_aload_n B dL_audit_2 rfl ?_
  refine pm_iload_n B dL_audit_3 rfl ?_
  refine pm_callV (As := [.int x]) (mc2 := mc2) (ms2 := ms2) (d2 := d2) B rfl hM rfl hC mt_X12_audit sv_L_66 dL_audit_4 rfl (Nat.ble_eq_true_of_le (Nat.le_refl _)) rfl (Nat.ble_eq_true_of_le (by omega)) (Nat.ble_eq_true_of_le (by omega)) (fun E n' M' h => ?_) (fun u n' M' h => ?_)
  · rcases hE E n' M' h with rfl | rfl
    · refine pm_catch (tgt := 12) B [] ⟨0, 9, 12, 13⟩ [⟨0, 9, 15, 15⟩] rfl (fun w hw => by cases hw) rfl (by decide) (pm_T_in 851 (by decide +kernel) (by decide +kernel)) (pm_T_in 102 (by decide +kernel) (by decide +kernel)) rfl (fun q => ?_)
      refine pm_astore_n B dL_audit_12 rfl rfl ?_
      refine pm_iconst (v := 1) B dL_audit_13 (by decide) ?_
      exact pm_ireturn B dL_audit_14 rfl rfl (Or.inr ⟨("java/lang/IllegalArgumentException", 1), by simp, h, rfl⟩) (Nat.ble_eq_true_of_le (by omega)) (Nat.ble_eq_true_of_le (by omega))
    · refine pm_catch (tgt := 15) B [⟨0, 9, 12, 13⟩] ⟨0, 9, 15, 15⟩ [] rfl (fun w hw => by
          simp only [List.mem_cons, List.not_mem_nil, or_false] at hw
          rcases hw with rfl <;> first | exact Or.inr ⟨by decide, "java/lang/IllegalArgumentException", pm_T_in 851 (by decide +kernel) (by decide +kernel), by decide +kernel⟩) rfl (by decide) (pm_T_in 852 (by decide +kernel) (by decide +kernel)) (pm_T_in 103 (by decide +kernel) (by decide +kernel)) rfl (fun q => ?_)
      refine pm_astore_n B dL_audit_15 rfl rfl ?_
      refine pm_iconst (v := 2) B dL_audit_16 (by decide) ?_
      exact pm_ireturn B dL_audit_17 rfl rfl (Or.inr ⟨("java/lang/UnsupportedOperationException", 2), by simp, h, rfl⟩) (Nat.ble_eq_true_of_le (by omega)) (Nat.ble_eq_true_of_le (by omega))
  · obtain ⟨⟨k, rfl⟩, hw⟩ := hP u n' M' h
    refine pm_i2l B dL_audit_7 ?_
    refine pm_last_n B dL_audit_8 hw 0 hN hN2 ?_
    refine pm_goto (tgt := 18) B dL_audit_9 (by decide) ?_
    refine pm_iconst (v := 0) B dL_audit_18 (by decide) ?_
    exact pm_ireturn B dL_audit_19 rfl rfl (Or.inl ⟨k, M', h, rfl, rfl⟩) (Nat.ble_eq_true_of_le (by omega)) (Nat.ble_eq_true_of_le (by omega))
theorem dL_setSeed_0 : decode cL_setSeed 0 = .ok (.aload_n 2, 1) := by decide +kernel
theorem dL_setSeed_1 : decode cL_setSeed 1 = .ok (.iconst 0, 1) := by decide +kernel
theorem dL_setSeed_2 : decode cL_setSeed 2 = .ok (.aload_n 0, 1) := by decide +kernel
theorem dL_setSeed_3 : decode cL_setSeed 3 = .ok (.iload_n 1, 1) := by decide +kernel
theorem dL_setSeed_4 : decode cL_setSeed 4 = .ok (.invokevirtual 69, 3) := by decide +kernel
theorem dL_setSeed_7 : decode cL_setSeed 7 = .ok (.i2l, 1) := by decide +kernel
theorem dL_setSeed_8 : decode cL_setSeed 8 = .ok (.lastore, 1) := by decide +kernel
theorem dL_setSeed_9 : decode cL_setSeed 9 = .ok (.goto 6, 3) := by decide +kernel
theorem dL_setSeed_12 : decode cL_setSeed 12 = .ok (.astore_n 3, 1) := by decide +kernel
theorem dL_setSeed_13 : decode cL_setSeed 13 = .ok (.iconst 1, 1) := by decide +kernel
theorem dL_setSeed_14 : decode cL_setSeed 14 = .ok (.ireturn, 1) := by decide +kernel
theorem dL_setSeed_15 : decode cL_setSeed 15 = .ok (.iconst 0, 1) := by decide +kernel
theorem dL_setSeed_16 : decode cL_setSeed 16 = .ok (.ireturn, 1) := by decide +kernel
theorem mt_L_setSeed : pm_MtW yL_setSeed cL_setSeed 4 (some .int) [(0, 9, 12, 13)] 3 := ⟨pm_T_in 1036 (by decide +kernel) (by decide +kernel), pm_T_in 76 (by decide +kernel) (by decide +kernel), ⟨by decide +kernel, by decide +kernel, by decide +kernel⟩, by decide +kernel, by decide⟩
set_option maxHeartbeats 1000000 in
theorem c_L_setSeed {l : Launch} {z : Nat} {D : va_G} {kA : Nat → ClassId} {kE : Nat → Nat} {nx w N d2 mc2 ms2 : Nat} {M : pm_M} {x : Int32} {fs : List Value} {f : Nat → Int64} {P : pm_Po} (hN : 0 < N) (hN2 : N < 2147483648) (hM : M 0 = some (.inr (10, fs))) (hC : pm_C l z D kA kE yX12_setSeed cX12_setSeed 2 (some .int) d2 mc2 ms2 [.ref (z + 0), .int x] nx M P)
    (hP : ∀ v n' M1, P (.inl v) n' M1 → (∃ k : Int32, v = some (.int k)) ∧ M1 w = some (.inl (kA 1, N, .inr (.inl f)))) (hE : ∀ E n' M1, P (.inr E) n' M1 → E = "java/lang/IllegalArgumentException") : pm_Cw l z D kA kE yL_setSeed cL_setSeed 4 (some .int) [(0, 9, 12, 13)] (d2 + 1) mc2 ms2 [.ref (z + 0), .int x, .ref (z + w)] nx M (pm_wr kA w N f P [("java/lang/IllegalArgumentException", 1)]) := by
  refine pm_mkW (own := RL) (nm := "setSeed") mt_L_setSeed rfl rfl rfl rfl rfl fun X B => ?_
  refine pm_loc (L' := [some (.ref (z + 0)), some (.int x), some (.ref (z + w)), none]) rfl ?_
  refine pm_aload_n B dL_setSeed_0 rfl ?_
  refine pm_iconst (v := 0) B dL_setSeed_1 (by decide) ?_
  refine pm_aload_n B dL_setSeed_2 rfl ?_
  refine pm_iload_n B dL_setSeed_3 rfl ?_
  refine pm_callV (As := [.int x]) (mc2 := mc2) (ms2 := ms2) (d2 := d2) B rfl hM rfl hC mt_X12_setSeed sv_L_69 dL_setSeed_4 rfl (Nat.ble_eq_true_of_le (Nat.le_refl _)) rfl (Nat.ble_eq_true_of_le (by omega)) (Nat.ble_eq_true_of_le (by omega)) (fun E n' M' h => ?_) (fun u n' M' h => ?_)
  · obtain rfl := hE E n' M' h
    refine pm_catch (tgt := 12) B [] ⟨0, 9, 12, 13⟩ [] rfl (fun w hw => by cases hw) rfl (by decide) (pm_T_in 851 (by decide +kernel) (by decide +kernel)) (pm_T_in 102 (by decide +kernel) (by decide +kernel)) rfl (fun q => ?_)
    refine pm_astore_n B dL_setSeed_12 rfl rfl ?_
    refine pm_iconst (v := 1) B dL_setSeed_13 (by decide) ?_
    exact pm_ireturn B dL_setSeed_14 rfl rfl (Or.inr ⟨("java/lang/IllegalArgumentException", 1), by simp, h, rfl⟩) (Nat.ble_eq_true_of_le (by omega)) (Nat.ble_eq_true_of_le (by omega))
  · obtain ⟨⟨k, rfl⟩, hw⟩ := hP u n' M' h
    refine pm_i2l B dL_setSeed_7 ?_
    refine pm_last_n B dL_setSeed_8 hw 0 hN hN2 ?_
    refine pm_goto (tgt := 15) B dL_setSeed_9 (by decide) ?_
    refine pm_iconst (v := 0) B dL_setSeed_15 (by decide) ?_
    exact pm_ireturn B dL_setSeed_16 rfl rfl (Or.inl ⟨k, M', h, rfl, rfl⟩) (Nat.ble_eq_true_of_le (by omega)) (Nat.ble_eq_true_of_le (by omega))
theorem dL_drawnMember_0 : decode cL_drawnMember 0 = .ok (.aload_n 2, 1) := by decide +kernel
theorem dL_drawnMember_1 : decode cL_drawnMember 1 = .ok (.iconst 0, 1) := by decide +kernel
theorem dL_drawnMember_2 : decode cL_drawnMember 2 = .ok (.aload_n 0, 1) := by decide +kernel
theorem dL_drawnMember_3 : decode cL_drawnMember 3 = .ok (.iload_n 1, 1) := by decide +kernel
theorem dL_drawnMember_4 : decode cL_drawnMember 4 = .ok (.invokevirtual 72, 3) := by decide +kernel
theorem dL_drawnMember_7 : decode cL_drawnMember 7 = .ok (.i2l, 1) := by decide +kernel
theorem dL_drawnMember_8 : decode cL_drawnMember 8 = .ok (.lastore, 1) := by decide +kernel
theorem dL_drawnMember_9 : decode cL_drawnMember 9 = .ok (.goto 6, 3) := by decide +kernel
theorem dL_drawnMember_12 : decode cL_drawnMember 12 = .ok (.astore_n 3, 1) := by decide +kernel
theorem dL_drawnMember_13 : decode cL_drawnMember 13 = .ok (.iconst 1, 1) := by decide +kernel
theorem dL_drawnMember_14 : decode cL_drawnMember 14 = .ok (.ireturn, 1) := by decide +kernel
theorem dL_drawnMember_15 : decode cL_drawnMember 15 = .ok (.iconst 0, 1) := by decide +kernel
theorem dL_drawnMember_16 : decode cL_drawnMember 16 = .ok (.ireturn, 1) := by decide +kernel
theorem mt_L_drawnMember : pm_MtW yL_drawnMember cL_drawnMember 4 (some .int) [(0, 9, 12, 36)] 3 := ⟨pm_T_in 1045 (by decide +kernel) (by decide +kernel), pm_T_in 76 (by decide +kernel) (by decide +kernel), ⟨by decide +kernel, by decide +kernel, by decide +kernel⟩, by decide +kernel, by decide⟩
set_option maxHeartbeats 1000000 in
theorem c_L_drawnMember {l : Launch} {z : Nat} {D : va_G} {kA : Nat → ClassId} {kE : Nat → Nat} {nx w N d2 mc2 ms2 : Nat} {M : pm_M} {x : Int32} {fs : List Value} {f : Nat → Int64} {P : pm_Po} (hN : 0 < N) (hN2 : N < 2147483648) (hM : M 0 = some (.inr (10, fs))) (hC : pm_C l z D kA kE yX12_drawnMember cX12_drawnMember 2 (some .int) d2 mc2 ms2 [.ref (z + 0), .int x] nx M P)
    (hP : ∀ v n' M1, P (.inl v) n' M1 → (∃ k : Int32, v = some (.int k)) ∧ M1 w = some (.inl (kA 1, N, .inr (.inl f)))) (hE : ∀ E n' M1, P (.inr E) n' M1 → E = "java/util/NoSuchElementException") : pm_Cw l z D kA kE yL_drawnMember cL_drawnMember 4 (some .int) [(0, 9, 12, 36)] (d2 + 1) mc2 ms2 [.ref (z + 0), .int x, .ref (z + w)] nx M (pm_wr kA w N f P [("java/util/NoSuchElementException", 1)]) := by
  refine pm_mkW (own := RL) (nm := "drawnMember") mt_L_drawnMember rfl rfl rfl rfl rfl fun X B => ?_
  refine pm_loc (L' := [some (.ref (z + 0)), some (.int x), some (.ref (z + w)), none]) rfl ?_
  refine pm_aload_n B dL_drawnMember_0 rfl ?_
  refine pm_iconst (v := 0) B dL_drawnMember_1 (by decide) ?_
  refine pm_aload_n B dL_drawnMember_2 rfl ?_
  refine pm_iload_n B dL_drawnMember_3 rfl ?_
  refine pm_callV (As := [.int x]) (mc2 := mc2) (ms2 := ms2) (d2 := d2) B rfl hM rfl hC mt_X12_drawnMember sv_L_72 dL_drawnMember_4 rfl (Nat.ble_eq_true_of_le (Nat.le_refl _)) rfl (Nat.ble_eq_true_of_le (by omega)) (Nat.ble_eq_true_of_le (by omega)) (fun E n' M' h => ?_) (fun u n' M' h => ?_)
  · obtain rfl := hE E n' M' h
    refine pm_catch (tgt := 12) B [] ⟨0, 9, 12, 36⟩ [] rfl (fun w hw => by cases hw) rfl (by decide) (pm_T_in 920 (by decide +kernel) (by decide +kernel)) (pm_T_in 107 (by decide +kernel) (by decide +kernel)) rfl (fun q => ?_)
    refine pm_astore_n B dL_drawnMember_12 rfl rfl ?_
    refine pm_iconst (v := 1) B dL_drawnMember_13 (by decide) ?_
    exact pm_ireturn B dL_drawnMember_14 rfl rfl (Or.inr ⟨("java/util/NoSuchElementException", 1), by simp, h, rfl⟩) (Nat.ble_eq_true_of_le (by omega)) (Nat.ble_eq_true_of_le (by omega))
  · obtain ⟨⟨k, rfl⟩, hw⟩ := hP u n' M' h
    refine pm_i2l B dL_drawnMember_7 ?_
    refine pm_last_n B dL_drawnMember_8 hw 0 hN hN2 ?_
    refine pm_goto (tgt := 15) B dL_drawnMember_9 (by decide) ?_
    refine pm_iconst (v := 0) B dL_drawnMember_15 (by decide) ?_
    exact pm_ireturn B dL_drawnMember_16 rfl rfl (Or.inl ⟨k, M', h, rfl, rfl⟩) (Nat.ble_eq_true_of_le (by omega)) (Nat.ble_eq_true_of_le (by omega))
theorem dL_link_0 : decode cL_link 0 = .ok (.aload_n 3, 1) := by decide +kernel
theorem dL_link_1 : decode cL_link 1 = .ok (.iconst 0, 1) := by decide +kernel
theorem dL_link_2 : decode cL_link 2 = .ok (.aload_n 0, 1) := by decide +kernel
theorem dL_link_3 : decode cL_link 3 = .ok (.iload_n 1, 1) := by decide +kernel
theorem dL_link_4 : decode cL_link 4 = .ok (.iload_n 2, 1) := by decide +kernel
theorem dL_link_5 : decode cL_link 5 = .ok (.invokevirtual 75, 3) := by decide +kernel
theorem dL_link_8 : decode cL_link 8 = .ok (.i2l, 1) := by decide +kernel
theorem dL_link_9 : decode cL_link 9 = .ok (.lastore, 1) := by decide +kernel
theorem dL_link_10 : decode cL_link 10 = .ok (.goto 15, 3) := by decide +kernel
theorem dL_link_13 : decode cL_link 13 = .ok (.astore 4, 2) := by decide +kernel
theorem dL_link_15 : decode cL_link 15 = .ok (.iconst 1, 1) := by decide +kernel
theorem dL_link_16 : decode cL_link 16 = .ok (.ireturn, 1) := by decide +kernel
theorem dL_link_17 : decode cL_link 17 = .ok (.astore 4, 2) := by decide +kernel
theorem dL_link_19 : decode cL_link 19 = .ok (.iconst 2, 1) := by decide +kernel
theorem dL_link_20 : decode cL_link 20 = .ok (.ireturn, 1) := by decide +kernel
theorem dL_link_21 : decode cL_link 21 = .ok (.astore 4, 2) := by decide +kernel
theorem dL_link_23 : decode cL_link 23 = .ok (.iconst 3, 1) := by decide +kernel
theorem dL_link_24 : decode cL_link 24 = .ok (.ireturn, 1) := by decide +kernel
theorem dL_link_25 : decode cL_link 25 = .ok (.iconst 0, 1) := by decide +kernel
theorem dL_link_26 : decode cL_link 26 = .ok (.ireturn, 1) := by decide +kernel
theorem mt_L_link : pm_MtW yL_link cL_link 5 (some .int) [(0, 10, 13, 21), (0, 10, 17, 13), (0, 10, 21, 15)] 4 := ⟨pm_T_in 1054 (by decide +kernel) (by decide +kernel), pm_T_in 76 (by decide +kernel) (by decide +kernel), ⟨by decide +kernel, by decide +kernel, by decide +kernel⟩, by decide +kernel, by decide⟩
set_option maxHeartbeats 1000000 in
theorem c_L_link {l : Launch} {z : Nat} {D : va_G} {kA : Nat → ClassId} {kE : Nat → Nat} {nx w N d2 mc2 ms2 : Nat} {M : pm_M} {x y : Int32} {fs : List Value} {f : Nat → Int64} {P : pm_Po} (hN : 0 < N) (hN2 : N < 2147483648) (hM : M 0 = some (.inr (10, fs))) (hC : pm_C l z D kA kE yX12_link cX12_link 3 (some .int) d2 mc2 ms2 [.ref (z + 0), .int x, .int y] nx M P)
    (hP : ∀ v n' M1, P (.inl v) n' M1 → (∃ k : Int32, v = some (.int k)) ∧ M1 w = some (.inl (kA 1, N, .inr (.inl f)))) (hE : ∀ E n' M1, P (.inr E) n' M1 → E = "java/lang/IndexOutOfBoundsException" ∨ E = "java/lang/IllegalArgumentException" ∨ E = "java/lang/UnsupportedOperationException") : pm_Cw l z D kA kE yL_link cL_link 5 (some .int) [(0, 10, 13, 21), (0, 10, 17, 13), (0, 10, 21, 15)] (d2 + 1) mc2 ms2 [.ref (z + 0), .int x, .int y, .ref (z + w)] nx M (pm_wr kA w N f P [("java/lang/IndexOutOfBoundsException", 1), ("java/lang/IllegalArgumentException", 2), ("java/lang/UnsupportedOperationException", 3)]) := by
  refine pm_mkW (own := RL) (nm := "link") mt_L_link rfl rfl rfl rfl rfl fun X B => ?_
  refine pm_loc (L' := [some (.ref (z + 0)), some (.int x), some (.int y), some (.ref (z + w)), none]) rfl ?_
  refine pm_aload_n B dL_link_0 rfl ?_
  refine pm_iconst (v := 0) B dL_link_1 (by decide) ?_
  refine pm_aload_n B dL_link_2 rfl ?_
  refine pm_iload_n B dL_link_3 rfl ?_
  refine pm_iload_n B dL_link_4 rfl ?_
  refine pm_callV (As := [.int x, .int y]) (mc2 := mc2) (ms2 := ms2) (d2 := d2) B rfl hM rfl hC mt_X12_link sv_L_75 dL_link_5 rfl (Nat.ble_eq_true_of_le (Nat.le_refl _)) rfl (Nat.ble_eq_true_of_le (by omega)) (Nat.ble_eq_true_of_le (by omega)) (fun E n' M' h => ?_) (fun u n' M' h => ?_)
  · rcases hE E n' M' h with rfl | rfl | rfl
    · refine pm_catch (tgt := 13) B [] ⟨0, 10, 13, 21⟩ [⟨0, 10, 17, 13⟩, ⟨0, 10, 21, 15⟩] rfl (fun w hw => by cases hw) rfl (by decide) (pm_T_in 862 (by decide +kernel) (by decide +kernel)) (pm_T_in 101 (by decide +kernel) (by decide +kernel)) rfl (fun q => ?_)
      refine pm_astore B dL_link_13 rfl rfl ?_
      refine pm_iconst (v := 1) B dL_link_15 (by decide) ?_
      exact pm_ireturn B dL_link_16 rfl rfl (Or.inr ⟨("java/lang/IndexOutOfBoundsException", 1), by simp, h, rfl⟩) (Nat.ble_eq_true_of_le (by omega)) (Nat.ble_eq_true_of_le (by omega))
    · refine pm_catch (tgt := 17) B [⟨0, 10, 13, 21⟩] ⟨0, 10, 17, 13⟩ [⟨0, 10, 21, 15⟩] rfl (fun w hw => by
          simp only [List.mem_cons, List.not_mem_nil, or_false] at hw
          rcases hw with rfl <;> first | exact Or.inr ⟨by decide, "java/lang/IndexOutOfBoundsException", pm_T_in 862 (by decide +kernel) (by decide +kernel), by decide +kernel⟩) rfl (by decide) (pm_T_in 851 (by decide +kernel) (by decide +kernel)) (pm_T_in 102 (by decide +kernel) (by decide +kernel)) rfl (fun q => ?_)
      refine pm_astore B dL_link_17 rfl rfl ?_
      refine pm_iconst (v := 2) B dL_link_19 (by decide) ?_
      exact pm_ireturn B dL_link_20 rfl rfl (Or.inr ⟨("java/lang/IllegalArgumentException", 2), by simp, h, rfl⟩) (Nat.ble_eq_true_of_le (by omega)) (Nat.ble_eq_true_of_le (by omega))
    · refine pm_catch (tgt := 21) B [⟨0, 10, 13, 21⟩, ⟨0, 10, 17, 13⟩] ⟨0, 10, 21, 15⟩ [] rfl (fun w hw => by
          simp only [List.mem_cons, List.not_mem_nil, or_false] at hw
          rcases hw with rfl | rfl <;> first | exact Or.inr ⟨by decide, "java/lang/IndexOutOfBoundsException", pm_T_in 862 (by decide +kernel) (by decide +kernel), by decide +kernel⟩ | exact Or.inr ⟨by decide, "java/lang/IllegalArgumentException", pm_T_in 851 (by decide +kernel) (by decide +kernel), by decide +kernel⟩) rfl (by decide) (pm_T_in 852 (by decide +kernel) (by decide +kernel)) (pm_T_in 103 (by decide +kernel) (by decide +kernel)) rfl (fun q => ?_)
      refine pm_astore B dL_link_21 rfl rfl ?_
      refine pm_iconst (v := 3) B dL_link_23 (by decide) ?_
      exact pm_ireturn B dL_link_24 rfl rfl (Or.inr ⟨("java/lang/UnsupportedOperationException", 3), by simp, h, rfl⟩) (Nat.ble_eq_true_of_le (by omega)) (Nat.ble_eq_true_of_le (by omega))
  · obtain ⟨⟨k, rfl⟩, hw⟩ := hP u n' M' h
    refine pm_i2l B dL_link_8 ?_
    refine pm_last_n B dL_link_9 hw 0 hN hN2 ?_
    refine pm_goto (tgt := 25) B dL_link_10 (by decide) ?_
    refine pm_iconst (v := 0) B dL_link_25 (by decide) ?_
    exact pm_ireturn B dL_link_26 rfl rfl (Or.inl ⟨k, M', h, rfl, rfl⟩) (Nat.ble_eq_true_of_le (by omega)) (Nat.ble_eq_true_of_le (by omega))
theorem dL_unlink_0 : decode cL_unlink 0 = .ok (.aload_n 3, 1) := by decide +kernel
theorem dL_unlink_1 : decode cL_unlink 1 = .ok (.iconst 0, 1) := by decide +kernel
theorem dL_unlink_2 : decode cL_unlink 2 = .ok (.aload_n 0, 1) := by decide +kernel
theorem dL_unlink_3 : decode cL_unlink 3 = .ok (.iload_n 1, 1) := by decide +kernel
theorem dL_unlink_4 : decode cL_unlink 4 = .ok (.iload_n 2, 1) := by decide +kernel
theorem dL_unlink_5 : decode cL_unlink 5 = .ok (.invokevirtual 78, 3) := by decide +kernel
theorem dL_unlink_8 : decode cL_unlink 8 = .ok (.i2l, 1) := by decide +kernel
theorem dL_unlink_9 : decode cL_unlink 9 = .ok (.lastore, 1) := by decide +kernel
theorem dL_unlink_10 : decode cL_unlink 10 = .ok (.goto 15, 3) := by decide +kernel
theorem dL_unlink_13 : decode cL_unlink 13 = .ok (.astore 4, 2) := by decide +kernel
theorem dL_unlink_15 : decode cL_unlink 15 = .ok (.iconst 1, 1) := by decide +kernel
theorem dL_unlink_16 : decode cL_unlink 16 = .ok (.ireturn, 1) := by decide +kernel
theorem dL_unlink_17 : decode cL_unlink 17 = .ok (.astore 4, 2) := by decide +kernel
theorem dL_unlink_19 : decode cL_unlink 19 = .ok (.iconst 2, 1) := by decide +kernel
theorem dL_unlink_20 : decode cL_unlink 20 = .ok (.ireturn, 1) := by decide +kernel
theorem dL_unlink_21 : decode cL_unlink 21 = .ok (.astore 4, 2) := by decide +kernel
theorem dL_unlink_23 : decode cL_unlink 23 = .ok (.iconst 3, 1) := by decide +kernel
theorem dL_unlink_24 : decode cL_unlink 24 = .ok (.ireturn, 1) := by decide +kernel
theorem dL_unlink_25 : decode cL_unlink 25 = .ok (.iconst 0, 1) := by decide +kernel
theorem dL_unlink_26 : decode cL_unlink 26 = .ok (.ireturn, 1) := by decide +kernel
theorem mt_L_unlink : pm_MtW yL_unlink cL_unlink 5 (some .int) [(0, 10, 13, 21), (0, 10, 17, 13), (0, 10, 21, 15)] 4 := ⟨pm_T_in 1063 (by decide +kernel) (by decide +kernel), pm_T_in 76 (by decide +kernel) (by decide +kernel), ⟨by decide +kernel, by decide +kernel, by decide +kernel⟩, by decide +kernel, by decide⟩
set_option maxHeartbeats 1000000 in
theorem c_L_unlink {l : Launch} {z : Nat} {D : va_G} {kA : Nat → ClassId} {kE : Nat → Nat} {nx w N d2 mc2 ms2 : Nat} {M : pm_M} {x y : Int32} {fs : List Value} {f : Nat → Int64} {P : pm_Po} (hN : 0 < N) (hN2 : N < 2147483648) (hM : M 0 = some (.inr (10, fs))) (hC : pm_C l z D kA kE yX12_unlink cX12_unlink 3 (some .int) d2 mc2 ms2 [.ref (z + 0), .int x, .int y] nx M P)
    (hP : ∀ v n' M1, P (.inl v) n' M1 → (∃ k : Int32, v = some (.int k)) ∧ M1 w = some (.inl (kA 1, N, .inr (.inl f)))) (hE : ∀ E n' M1, P (.inr E) n' M1 → E = "java/lang/IndexOutOfBoundsException" ∨ E = "java/lang/IllegalArgumentException" ∨ E = "java/lang/UnsupportedOperationException") : pm_Cw l z D kA kE yL_unlink cL_unlink 5 (some .int) [(0, 10, 13, 21), (0, 10, 17, 13), (0, 10, 21, 15)] (d2 + 1) mc2 ms2 [.ref (z + 0), .int x, .int y, .ref (z + w)] nx M (pm_wr kA w N f P [("java/lang/IndexOutOfBoundsException", 1), ("java/lang/IllegalArgumentException", 2), ("java/lang/UnsupportedOperationException", 3)]) := by
  refine pm_mkW (own := RL) (nm := "unlink") mt_L_unlink rfl rfl rfl rfl rfl fun X B => ?_
  refine pm_loc (L' := [some (.ref (z + 0)), some (.int x), some (.int y), some (.ref (z + w)), none]) rfl ?_
  refine pm_aload_n B dL_unlink_0 rfl ?_
  refine pm_iconst (v := 0) B dL_unlink_1 (by decide) ?_
  refine pm_aload_n B dL_unlink_2 rfl ?_
  refine pm_iload_n B dL_unlink_3 rfl ?_
  refine pm_iload_n B dL_unlink_4 rfl ?_
  refine pm_callV (As := [.int x, .int y]) (mc2 := mc2) (ms2 := ms2) (d2 := d2) B rfl hM rfl hC mt_X12_unlink sv_L_78 dL_unlink_5 rfl (Nat.ble_eq_true_of_le (Nat.le_refl _)) rfl (Nat.ble_eq_true_of_le (by omega)) (Nat.ble_eq_true_of_le (by omega)) (fun E n' M' h => ?_) (fun u n' M' h => ?_)
  · rcases hE E n' M' h with rfl | rfl | rfl
    · refine pm_catch (tgt := 13) B [] ⟨0, 10, 13, 21⟩ [⟨0, 10, 17, 13⟩, ⟨0, 10, 21, 15⟩] rfl (fun w hw => by cases hw) rfl (by decide) (pm_T_in 862 (by decide +kernel) (by decide +kernel)) (pm_T_in 101 (by decide +kernel) (by decide +kernel)) rfl (fun q => ?_)
      refine pm_astore B dL_unlink_13 rfl rfl ?_
      refine pm_iconst (v := 1) B dL_unlink_15 (by decide) ?_
      exact pm_ireturn B dL_unlink_16 rfl rfl (Or.inr ⟨("java/lang/IndexOutOfBoundsException", 1), by simp, h, rfl⟩) (Nat.ble_eq_true_of_le (by omega)) (Nat.ble_eq_true_of_le (by omega))
    · refine pm_catch (tgt := 17) B [⟨0, 10, 13, 21⟩] ⟨0, 10, 17, 13⟩ [⟨0, 10, 21, 15⟩] rfl (fun w hw => by
          simp only [List.mem_cons, List.not_mem_nil, or_false] at hw
          rcases hw with rfl <;> first | exact Or.inr ⟨by decide, "java/lang/IndexOutOfBoundsException", pm_T_in 862 (by decide +kernel) (by decide +kernel), by decide +kernel⟩) rfl (by decide) (pm_T_in 851 (by decide +kernel) (by decide +kernel)) (pm_T_in 102 (by decide +kernel) (by decide +kernel)) rfl (fun q => ?_)
      refine pm_astore B dL_unlink_17 rfl rfl ?_
      refine pm_iconst (v := 2) B dL_unlink_19 (by decide) ?_
      exact pm_ireturn B dL_unlink_20 rfl rfl (Or.inr ⟨("java/lang/IllegalArgumentException", 2), by simp, h, rfl⟩) (Nat.ble_eq_true_of_le (by omega)) (Nat.ble_eq_true_of_le (by omega))
    · refine pm_catch (tgt := 21) B [⟨0, 10, 13, 21⟩, ⟨0, 10, 17, 13⟩] ⟨0, 10, 21, 15⟩ [] rfl (fun w hw => by
          simp only [List.mem_cons, List.not_mem_nil, or_false] at hw
          rcases hw with rfl | rfl <;> first | exact Or.inr ⟨by decide, "java/lang/IndexOutOfBoundsException", pm_T_in 862 (by decide +kernel) (by decide +kernel), by decide +kernel⟩ | exact Or.inr ⟨by decide, "java/lang/IllegalArgumentException", pm_T_in 851 (by decide +kernel) (by decide +kernel), by decide +kernel⟩) rfl (by decide) (pm_T_in 852 (by decide +kernel) (by decide +kernel)) (pm_T_in 103 (by decide +kernel) (by decide +kernel)) rfl (fun q => ?_)
      refine pm_astore B dL_unlink_21 rfl rfl ?_
      refine pm_iconst (v := 3) B dL_unlink_23 (by decide) ?_
      exact pm_ireturn B dL_unlink_24 rfl rfl (Or.inr ⟨("java/lang/UnsupportedOperationException", 3), by simp, h, rfl⟩) (Nat.ble_eq_true_of_le (by omega)) (Nat.ble_eq_true_of_le (by omega))
  · obtain ⟨⟨k, rfl⟩, hw⟩ := hP u n' M' h
    refine pm_i2l B dL_unlink_8 ?_
    refine pm_last_n B dL_unlink_9 hw 0 hN hN2 ?_
    refine pm_goto (tgt := 25) B dL_unlink_10 (by decide) ?_
    refine pm_iconst (v := 0) B dL_unlink_25 (by decide) ?_
    exact pm_ireturn B dL_unlink_26 rfl rfl (Or.inl ⟨k, M', h, rfl, rfl⟩) (Nat.ble_eq_true_of_le (by omega)) (Nat.ble_eq_true_of_le (by omega))
theorem dL_areLinked_0 : decode cL_areLinked 0 = .ok (.aload_n 3, 1) := by decide +kernel
theorem dL_areLinked_1 : decode cL_areLinked 1 = .ok (.iconst 0, 1) := by decide +kernel
theorem dL_areLinked_2 : decode cL_areLinked 2 = .ok (.aload_n 0, 1) := by decide +kernel
theorem dL_areLinked_3 : decode cL_areLinked 3 = .ok (.iload_n 1, 1) := by decide +kernel
theorem dL_areLinked_4 : decode cL_areLinked 4 = .ok (.iload_n 2, 1) := by decide +kernel
theorem dL_areLinked_5 : decode cL_areLinked 5 = .ok (.invokevirtual 81, 3) := by decide +kernel
theorem dL_areLinked_8 : decode cL_areLinked 8 = .ok (.ifCond .eq 7, 3) := by decide +kernel
theorem dL_areLinked_11 : decode cL_areLinked 11 = .ok (.lconst 1, 1) := by decide +kernel
theorem dL_areLinked_12 : decode cL_areLinked 12 = .ok (.goto 4, 3) := by decide +kernel
theorem dL_areLinked_15 : decode cL_areLinked 15 = .ok (.lconst 0, 1) := by decide +kernel
theorem dL_areLinked_16 : decode cL_areLinked 16 = .ok (.lastore, 1) := by decide +kernel
theorem dL_areLinked_17 : decode cL_areLinked 17 = .ok (.goto 7, 3) := by decide +kernel
theorem dL_areLinked_20 : decode cL_areLinked 20 = .ok (.astore 4, 2) := by decide +kernel
theorem dL_areLinked_22 : decode cL_areLinked 22 = .ok (.iconst 1, 1) := by decide +kernel
theorem dL_areLinked_23 : decode cL_areLinked 23 = .ok (.ireturn, 1) := by decide +kernel
theorem dL_areLinked_24 : decode cL_areLinked 24 = .ok (.iconst 0, 1) := by decide +kernel
theorem dL_areLinked_25 : decode cL_areLinked 25 = .ok (.ireturn, 1) := by decide +kernel
theorem mt_L_areLinked : pm_MtW yL_areLinked cL_areLinked 5 (some .int) [(0, 17, 20, 21)] 4 := ⟨pm_T_in 1072 (by decide +kernel) (by decide +kernel), pm_T_in 76 (by decide +kernel) (by decide +kernel), ⟨by decide +kernel, by decide +kernel, by decide +kernel⟩, by decide +kernel, by decide⟩
set_option maxHeartbeats 1000000 in
theorem c_L_areLinked {l : Launch} {z : Nat} {D : va_G} {kA : Nat → ClassId} {kE : Nat → Nat} {nx w N d2 mc2 ms2 : Nat} {M : pm_M} {x y : Int32} {fs : List Value} {f : Nat → Int64} {P : pm_Po} (hN : 0 < N) (hN2 : N < 2147483648) (hM : M 0 = some (.inr (10, fs))) (hC : pm_C l z D kA kE yX12_areLinked cX12_areLinked 3 (some .boolean) d2 mc2 ms2 [.ref (z + 0), .int x, .int y] nx M P)
    (hP : ∀ v n' M1, P (.inl v) n' M1 → (∃ k : Int32, v = some (.int k)) ∧ M1 w = some (.inl (kA 1, N, .inr (.inl f)))) (hE : ∀ E n' M1, P (.inr E) n' M1 → E = "java/lang/IndexOutOfBoundsException") : pm_Cw l z D kA kE yL_areLinked cL_areLinked 5 (some .int) [(0, 17, 20, 21)] (d2 + 1) mc2 ms2 [.ref (z + 0), .int x, .int y, .ref (z + w)] nx M (pm_wrb kA w N f P [("java/lang/IndexOutOfBoundsException", 1)]) := by
  refine pm_mkW (own := RL) (nm := "areLinked") mt_L_areLinked rfl rfl rfl rfl rfl fun X B => ?_
  refine pm_loc (L' := [some (.ref (z + 0)), some (.int x), some (.int y), some (.ref (z + w)), none]) rfl ?_
  refine pm_aload_n B dL_areLinked_0 rfl ?_
  refine pm_iconst (v := 0) B dL_areLinked_1 (by decide) ?_
  refine pm_aload_n B dL_areLinked_2 rfl ?_
  refine pm_iload_n B dL_areLinked_3 rfl ?_
  refine pm_iload_n B dL_areLinked_4 rfl ?_
  refine pm_callV (As := [.int x, .int y]) (mc2 := mc2) (ms2 := ms2) (d2 := d2) B rfl hM rfl hC mt_X12_areLinked sv_L_81 dL_areLinked_5 rfl (Nat.ble_eq_true_of_le (Nat.le_refl _)) rfl (Nat.ble_eq_true_of_le (by omega)) (Nat.ble_eq_true_of_le (by omega)) (fun E n' M' h => ?_) (fun u n' M' h => ?_)
  · obtain rfl := hE E n' M' h
    refine pm_catch (tgt := 20) B [] ⟨0, 17, 20, 21⟩ [] rfl (fun w hw => by cases hw) rfl (by decide) (pm_T_in 862 (by decide +kernel) (by decide +kernel)) (pm_T_in 101 (by decide +kernel) (by decide +kernel)) rfl (fun q => ?_)
    refine pm_astore B dL_areLinked_20 rfl rfl ?_
    refine pm_iconst (v := 1) B dL_areLinked_22 (by decide) ?_
    exact pm_ireturn B dL_areLinked_23 rfl rfl (Or.inr ⟨("java/lang/IndexOutOfBoundsException", 1), by simp, h, rfl⟩) (Nat.ble_eq_true_of_le (by omega)) (Nat.ble_eq_true_of_le (by omega))
  · obtain ⟨⟨k, rfl⟩, hw⟩ := hP u n' M' h
    refine pm_if_eq (tgt := 15) B dL_areLinked_8 (by decide) (fun hk => ?_) (fun hk => ?_)
    · refine pm_lconst (v := 0) B dL_areLinked_15 rfl ?_
      refine pm_last_n B dL_areLinked_16 hw 0 hN hN2 ?_
      refine pm_goto (tgt := 24) B dL_areLinked_17 (by decide) ?_
      refine pm_iconst (v := 0) B dL_areLinked_24 (by decide) ?_
      exact pm_ireturn B dL_areLinked_25 rfl rfl (Or.inl ⟨k, M', h, rfl, by rw [if_pos hk]⟩) (Nat.ble_eq_true_of_le (by omega)) (Nat.ble_eq_true_of_le (by omega))
    · refine pm_lconst (v := 1) B dL_areLinked_11 rfl ?_
      refine pm_goto (tgt := 16) B dL_areLinked_12 (by decide) ?_
      refine pm_last_n B dL_areLinked_16 hw 0 hN hN2 ?_
      refine pm_goto (tgt := 24) B dL_areLinked_17 (by decide) ?_
      refine pm_iconst (v := 0) B dL_areLinked_24 (by decide) ?_
      exact pm_ireturn B dL_areLinked_25 rfl rfl (Or.inl ⟨k, M', h, rfl, by rw [if_neg hk]⟩) (Nat.ble_eq_true_of_le (by omega)) (Nat.ble_eq_true_of_le (by omega))
theorem dL_setThreshold_0 : decode cL_setThreshold 0 = .ok (.aload_n 2, 1) := by decide +kernel
theorem dL_setThreshold_1 : decode cL_setThreshold 1 = .ok (.iconst 0, 1) := by decide +kernel
theorem dL_setThreshold_2 : decode cL_setThreshold 2 = .ok (.aload_n 0, 1) := by decide +kernel
theorem dL_setThreshold_3 : decode cL_setThreshold 3 = .ok (.iload_n 1, 1) := by decide +kernel
theorem dL_setThreshold_4 : decode cL_setThreshold 4 = .ok (.invokevirtual 85, 3) := by decide +kernel
theorem dL_setThreshold_7 : decode cL_setThreshold 7 = .ok (.i2l, 1) := by decide +kernel
theorem dL_setThreshold_8 : decode cL_setThreshold 8 = .ok (.lastore, 1) := by decide +kernel
theorem dL_setThreshold_9 : decode cL_setThreshold 9 = .ok (.goto 9, 3) := by decide +kernel
theorem dL_setThreshold_12 : decode cL_setThreshold 12 = .ok (.astore_n 3, 1) := by decide +kernel
theorem dL_setThreshold_13 : decode cL_setThreshold 13 = .ok (.iconst 1, 1) := by decide +kernel
theorem dL_setThreshold_14 : decode cL_setThreshold 14 = .ok (.ireturn, 1) := by decide +kernel
theorem dL_setThreshold_15 : decode cL_setThreshold 15 = .ok (.astore_n 3, 1) := by decide +kernel
theorem dL_setThreshold_16 : decode cL_setThreshold 16 = .ok (.iconst 2, 1) := by decide +kernel
theorem dL_setThreshold_17 : decode cL_setThreshold 17 = .ok (.ireturn, 1) := by decide +kernel
theorem dL_setThreshold_18 : decode cL_setThreshold 18 = .ok (.iconst 0, 1) := by decide +kernel
theorem dL_setThreshold_19 : decode cL_setThreshold 19 = .ok (.ireturn, 1) := by decide +kernel
theorem mt_L_setThreshold : pm_MtW yL_setThreshold cL_setThreshold 4 (some .int) [(0, 9, 12, 13), (0, 9, 15, 15)] 3 := ⟨pm_T_in 1080 (by decide +kernel) (by decide +kernel), pm_T_in 76 (by decide +kernel) (by decide +kernel), ⟨by decide +kernel, by decide +kernel, by decide +kernel⟩, by decide +kernel, by decide⟩
set_option maxHeartbeats 1000000 in
theorem c_L_setThreshold {l : Launch} {z : Nat} {D : va_G} {kA : Nat → ClassId} {kE : Nat → Nat} {nx w N d2 mc2 ms2 : Nat} {M : pm_M} {x : Int32} {fs : List Value} {f : Nat → Int64} {P : pm_Po} (hN : 0 < N) (hN2 : N < 2147483648) (hM : M 0 = some (.inr (10, fs))) (hC : pm_C l z D kA kE yX12_setThreshold cX12_setThreshold 2 (some .int) d2 mc2 ms2 [.ref (z + 0), .int x] nx M P)
    (hP : ∀ v n' M1, P (.inl v) n' M1 → (∃ k : Int32, v = some (.int k)) ∧ M1 w = some (.inl (kA 1, N, .inr (.inl f)))) (hE : ∀ E n' M1, P (.inr E) n' M1 → E = "java/lang/IllegalArgumentException" ∨ E = "java/lang/UnsupportedOperationException") : pm_Cw l z D kA kE yL_setThreshold cL_setThreshold 4 (some .int) [(0, 9, 12, 13), (0, 9, 15, 15)] (d2 + 1) mc2 ms2 [.ref (z + 0), .int x, .ref (z + w)] nx M (pm_wr kA w N f P [("java/lang/IllegalArgumentException", 1), ("java/lang/UnsupportedOperationException", 2)]) := by
  refine pm_mkW (own := RL) (nm := "setThreshold") mt_L_setThreshold rfl rfl rfl rfl rfl fun X B => ?_
  refine pm_loc (L' := [some (.ref (z + 0)), some (.int x), some (.ref (z + w)), none]) rfl ?_
  refine pm_aload_n B dL_setThreshold_0 rfl ?_
  refine pm_iconst (v := 0) B dL_setThreshold_1 (by decide) ?_
  refine pm_aload_n B dL_setThreshold_2 rfl ?_
  refine pm_iload_n B dL_setThreshold_3 rfl ?_
  refine pm_callV (As := [.int x]) (mc2 := mc2) (ms2 := ms2) (d2 := d2) B rfl hM rfl hC mt_X12_setThreshold sv_L_85 dL_setThreshold_4 rfl (Nat.ble_eq_true_of_le (Nat.le_refl _)) rfl (Nat.ble_eq_true_of_le (by omega)) (Nat.ble_eq_true_of_le (by omega)) (fun E n' M' h => ?_) (fun u n' M' h => ?_)
  · rcases hE E n' M' h with rfl | rfl
    · refine pm_catch (tgt := 12) B [] ⟨0, 9, 12, 13⟩ [⟨0, 9, 15, 15⟩] rfl (fun w hw => by cases hw) rfl (by decide) (pm_T_in 851 (by decide +kernel) (by decide +kernel)) (pm_T_in 102 (by decide +kernel) (by decide +kernel)) rfl (fun q => ?_)
      refine pm_astore_n B dL_setThreshold_12 rfl rfl ?_
      refine pm_iconst (v := 1) B dL_setThreshold_13 (by decide) ?_
      exact pm_ireturn B dL_setThreshold_14 rfl rfl (Or.inr ⟨("java/lang/IllegalArgumentException", 1), by simp, h, rfl⟩) (Nat.ble_eq_true_of_le (by omega)) (Nat.ble_eq_true_of_le (by omega))
    · refine pm_catch (tgt := 15) B [⟨0, 9, 12, 13⟩] ⟨0, 9, 15, 15⟩ [] rfl (fun w hw => by
          simp only [List.mem_cons, List.not_mem_nil, or_false] at hw
          rcases hw with rfl <;> first | exact Or.inr ⟨by decide, "java/lang/IllegalArgumentException", pm_T_in 851 (by decide +kernel) (by decide +kernel), by decide +kernel⟩) rfl (by decide) (pm_T_in 852 (by decide +kernel) (by decide +kernel)) (pm_T_in 103 (by decide +kernel) (by decide +kernel)) rfl (fun q => ?_)
      refine pm_astore_n B dL_setThreshold_15 rfl rfl ?_
      refine pm_iconst (v := 2) B dL_setThreshold_16 (by decide) ?_
      exact pm_ireturn B dL_setThreshold_17 rfl rfl (Or.inr ⟨("java/lang/UnsupportedOperationException", 2), by simp, h, rfl⟩) (Nat.ble_eq_true_of_le (by omega)) (Nat.ble_eq_true_of_le (by omega))
  · obtain ⟨⟨k, rfl⟩, hw⟩ := hP u n' M' h
    refine pm_i2l B dL_setThreshold_7 ?_
    refine pm_last_n B dL_setThreshold_8 hw 0 hN hN2 ?_
    refine pm_goto (tgt := 18) B dL_setThreshold_9 (by decide) ?_
    refine pm_iconst (v := 0) B dL_setThreshold_18 (by decide) ?_
    exact pm_ireturn B dL_setThreshold_19 rfl rfl (Or.inl ⟨k, M', h, rfl, rfl⟩) (Nat.ble_eq_true_of_le (by omega)) (Nat.ble_eq_true_of_le (by omega))
theorem dL_swings_0 : decode cL_swings 0 = .ok (.aload_n 2, 1) := by decide +kernel
theorem dL_swings_1 : decode cL_swings 1 = .ok (.iconst 0, 1) := by decide +kernel
theorem dL_swings_2 : decode cL_swings 2 = .ok (.aload_n 0, 1) := by decide +kernel
theorem dL_swings_3 : decode cL_swings 3 = .ok (.iload_n 1, 1) := by decide +kernel
theorem dL_swings_4 : decode cL_swings 4 = .ok (.invokevirtual 88, 3) := by decide +kernel
theorem dL_swings_7 : decode cL_swings 7 = .ok (.i2l, 1) := by decide +kernel
theorem dL_swings_8 : decode cL_swings 8 = .ok (.lastore, 1) := by decide +kernel
theorem dL_swings_9 : decode cL_swings 9 = .ok (.goto 9, 3) := by decide +kernel
theorem dL_swings_12 : decode cL_swings 12 = .ok (.astore_n 3, 1) := by decide +kernel
theorem dL_swings_13 : decode cL_swings 13 = .ok (.iconst 1, 1) := by decide +kernel
theorem dL_swings_14 : decode cL_swings 14 = .ok (.ireturn, 1) := by decide +kernel
theorem dL_swings_15 : decode cL_swings 15 = .ok (.astore_n 3, 1) := by decide +kernel
theorem dL_swings_16 : decode cL_swings 16 = .ok (.iconst 2, 1) := by decide +kernel
theorem dL_swings_17 : decode cL_swings 17 = .ok (.ireturn, 1) := by decide +kernel
theorem dL_swings_18 : decode cL_swings 18 = .ok (.iconst 0, 1) := by decide +kernel
theorem dL_swings_19 : decode cL_swings 19 = .ok (.ireturn, 1) := by decide +kernel
theorem mt_L_swings : pm_MtW yL_swings cL_swings 4 (some .int) [(0, 9, 12, 21), (0, 9, 15, 36)] 3 := ⟨pm_T_in 1089 (by decide +kernel) (by decide +kernel), pm_T_in 76 (by decide +kernel) (by decide +kernel), ⟨by decide +kernel, by decide +kernel, by decide +kernel⟩, by decide +kernel, by decide⟩
set_option maxHeartbeats 1000000 in
theorem c_L_swings {l : Launch} {z : Nat} {D : va_G} {kA : Nat → ClassId} {kE : Nat → Nat} {nx w N d2 mc2 ms2 : Nat} {M : pm_M} {x : Int32} {fs : List Value} {f : Nat → Int64} {P : pm_Po} (hN : 0 < N) (hN2 : N < 2147483648) (hM : M 0 = some (.inr (10, fs))) (hC : pm_C l z D kA kE yX12_swings cX12_swings 2 (some .int) d2 mc2 ms2 [.ref (z + 0), .int x] nx M P)
    (hP : ∀ v n' M1, P (.inl v) n' M1 → (∃ k : Int32, v = some (.int k)) ∧ M1 w = some (.inl (kA 1, N, .inr (.inl f)))) (hE : ∀ E n' M1, P (.inr E) n' M1 → E = "java/lang/IndexOutOfBoundsException" ∨ E = "java/util/NoSuchElementException") : pm_Cw l z D kA kE yL_swings cL_swings 4 (some .int) [(0, 9, 12, 21), (0, 9, 15, 36)] (d2 + 1) mc2 ms2 [.ref (z + 0), .int x, .ref (z + w)] nx M (pm_wr kA w N f P [("java/lang/IndexOutOfBoundsException", 1), ("java/util/NoSuchElementException", 2)]) := by
  refine pm_mkW (own := RL) (nm := "swings") mt_L_swings rfl rfl rfl rfl rfl fun X B => ?_
  refine pm_loc (L' := [some (.ref (z + 0)), some (.int x), some (.ref (z + w)), none]) rfl ?_
  refine pm_aload_n B dL_swings_0 rfl ?_
  refine pm_iconst (v := 0) B dL_swings_1 (by decide) ?_
  refine pm_aload_n B dL_swings_2 rfl ?_
  refine pm_iload_n B dL_swings_3 rfl ?_
  refine pm_callV (As := [.int x]) (mc2 := mc2) (ms2 := ms2) (d2 := d2) B rfl hM rfl hC mt_X12_swings sv_L_88 dL_swings_4 rfl (Nat.ble_eq_true_of_le (Nat.le_refl _)) rfl (Nat.ble_eq_true_of_le (by omega)) (Nat.ble_eq_true_of_le (by omega)) (fun E n' M' h => ?_) (fun u n' M' h => ?_)
  · rcases hE E n' M' h with rfl | rfl
    · refine pm_catch (tgt := 12) B [] ⟨0, 9, 12, 21⟩ [⟨0, 9, 15, 36⟩] rfl (fun w hw => by cases hw) rfl (by decide) (pm_T_in 862 (by decide +kernel) (by decide +kernel)) (pm_T_in 101 (by decide +kernel) (by decide +kernel)) rfl (fun q => ?_)
      refine pm_astore_n B dL_swings_12 rfl rfl ?_
      refine pm_iconst (v := 1) B dL_swings_13 (by decide) ?_
      exact pm_ireturn B dL_swings_14 rfl rfl (Or.inr ⟨("java/lang/IndexOutOfBoundsException", 1), by simp, h, rfl⟩) (Nat.ble_eq_true_of_le (by omega)) (Nat.ble_eq_true_of_le (by omega))
    · refine pm_catch (tgt := 15) B [⟨0, 9, 12, 21⟩] ⟨0, 9, 15, 36⟩ [] rfl (fun w hw => by
          simp only [List.mem_cons, List.not_mem_nil, or_false] at hw
          rcases hw with rfl <;> first | exact Or.inr ⟨by decide, "java/lang/IndexOutOfBoundsException", pm_T_in 862 (by decide +kernel) (by decide +kernel), by decide +kernel⟩) rfl (by decide) (pm_T_in 920 (by decide +kernel) (by decide +kernel)) (pm_T_in 107 (by decide +kernel) (by decide +kernel)) rfl (fun q => ?_)
      refine pm_astore_n B dL_swings_15 rfl rfl ?_
      refine pm_iconst (v := 2) B dL_swings_16 (by decide) ?_
      exact pm_ireturn B dL_swings_17 rfl rfl (Or.inr ⟨("java/util/NoSuchElementException", 2), by simp, h, rfl⟩) (Nat.ble_eq_true_of_le (by omega)) (Nat.ble_eq_true_of_le (by omega))
  · obtain ⟨⟨k, rfl⟩, hw⟩ := hP u n' M' h
    refine pm_i2l B dL_swings_7 ?_
    refine pm_last_n B dL_swings_8 hw 0 hN hN2 ?_
    refine pm_goto (tgt := 18) B dL_swings_9 (by decide) ?_
    refine pm_iconst (v := 0) B dL_swings_18 (by decide) ?_
    exact pm_ireturn B dL_swings_19 rfl rfl (Or.inl ⟨k, M', h, rfl, rfl⟩) (Nat.ble_eq_true_of_le (by omega)) (Nat.ble_eq_true_of_le (by omega))
theorem dL_swingsByCounts_0 : decode cL_swingsByCounts 0 = .ok (.aload_n 2, 1) := by decide +kernel
theorem dL_swingsByCounts_1 : decode cL_swingsByCounts 1 = .ok (.iconst 0, 1) := by decide +kernel
theorem dL_swingsByCounts_2 : decode cL_swingsByCounts 2 = .ok (.aload_n 0, 1) := by decide +kernel
theorem dL_swingsByCounts_3 : decode cL_swingsByCounts 3 = .ok (.iload_n 1, 1) := by decide +kernel
theorem dL_swingsByCounts_4 : decode cL_swingsByCounts 4 = .ok (.invokevirtual 91, 3) := by decide +kernel
theorem dL_swingsByCounts_7 : decode cL_swingsByCounts 7 = .ok (.i2l, 1) := by decide +kernel
theorem dL_swingsByCounts_8 : decode cL_swingsByCounts 8 = .ok (.lastore, 1) := by decide +kernel
theorem dL_swingsByCounts_9 : decode cL_swingsByCounts 9 = .ok (.goto 9, 3) := by decide +kernel
theorem dL_swingsByCounts_12 : decode cL_swingsByCounts 12 = .ok (.astore_n 3, 1) := by decide +kernel
theorem dL_swingsByCounts_13 : decode cL_swingsByCounts 13 = .ok (.iconst 1, 1) := by decide +kernel
theorem dL_swingsByCounts_14 : decode cL_swingsByCounts 14 = .ok (.ireturn, 1) := by decide +kernel
theorem dL_swingsByCounts_15 : decode cL_swingsByCounts 15 = .ok (.astore_n 3, 1) := by decide +kernel
theorem dL_swingsByCounts_16 : decode cL_swingsByCounts 16 = .ok (.iconst 2, 1) := by decide +kernel
theorem dL_swingsByCounts_17 : decode cL_swingsByCounts 17 = .ok (.ireturn, 1) := by decide +kernel
theorem dL_swingsByCounts_18 : decode cL_swingsByCounts 18 = .ok (.iconst 0, 1) := by decide +kernel
theorem dL_swingsByCounts_19 : decode cL_swingsByCounts 19 = .ok (.ireturn, 1) := by decide +kernel
theorem mt_L_swingsByCounts : pm_MtW yL_swingsByCounts cL_swingsByCounts 4 (some .int) [(0, 9, 12, 21), (0, 9, 15, 36)] 3 := ⟨pm_T_in 1104 (by decide +kernel) (by decide +kernel), pm_T_in 76 (by decide +kernel) (by decide +kernel), ⟨by decide +kernel, by decide +kernel, by decide +kernel⟩, by decide +kernel, by decide⟩
set_option maxHeartbeats 1000000 in
theorem c_L_swingsByCounts {l : Launch} {z : Nat} {D : va_G} {kA : Nat → ClassId} {kE : Nat → Nat} {nx w N d2 mc2 ms2 : Nat} {M : pm_M} {x : Int32} {fs : List Value} {f : Nat → Int64} {P : pm_Po} (hN : 0 < N) (hN2 : N < 2147483648) (hM : M 0 = some (.inr (10, fs))) (hC : pm_C l z D kA kE yX12_swingsByCounts cX12_swingsByCounts 2 (some .int) d2 mc2 ms2 [.ref (z + 0), .int x] nx M P)
    (hP : ∀ v n' M1, P (.inl v) n' M1 → (∃ k : Int32, v = some (.int k)) ∧ M1 w = some (.inl (kA 1, N, .inr (.inl f)))) (hE : ∀ E n' M1, P (.inr E) n' M1 → E = "java/lang/IndexOutOfBoundsException" ∨ E = "java/util/NoSuchElementException") : pm_Cw l z D kA kE yL_swingsByCounts cL_swingsByCounts 4 (some .int) [(0, 9, 12, 21), (0, 9, 15, 36)] (d2 + 1) mc2 ms2 [.ref (z + 0), .int x, .ref (z + w)] nx M (pm_wr kA w N f P [("java/lang/IndexOutOfBoundsException", 1), ("java/util/NoSuchElementException", 2)]) := by
  refine pm_mkW (own := RL) (nm := "swingsByCounts") mt_L_swingsByCounts rfl rfl rfl rfl rfl fun X B => ?_
  refine pm_loc (L' := [some (.ref (z + 0)), some (.int x), some (.ref (z + w)), none]) rfl ?_
  refine pm_aload_n B dL_swingsByCounts_0 rfl ?_
  refine pm_iconst (v := 0) B dL_swingsByCounts_1 (by decide) ?_
  refine pm_aload_n B dL_swingsByCounts_2 rfl ?_
  refine pm_iload_n B dL_swingsByCounts_3 rfl ?_
  refine pm_callV (As := [.int x]) (mc2 := mc2) (ms2 := ms2) (d2 := d2) B rfl hM rfl hC mt_X12_swingsByCounts sv_L_91 dL_swingsByCounts_4 rfl (Nat.ble_eq_true_of_le (Nat.le_refl _)) rfl (Nat.ble_eq_true_of_le (by omega)) (Nat.ble_eq_true_of_le (by omega)) (fun E n' M' h => ?_) (fun u n' M' h => ?_)
  · rcases hE E n' M' h with rfl | rfl
    · refine pm_catch (tgt := 12) B [] ⟨0, 9, 12, 21⟩ [⟨0, 9, 15, 36⟩] rfl (fun w hw => by cases hw) rfl (by decide) (pm_T_in 862 (by decide +kernel) (by decide +kernel)) (pm_T_in 101 (by decide +kernel) (by decide +kernel)) rfl (fun q => ?_)
      refine pm_astore_n B dL_swingsByCounts_12 rfl rfl ?_
      refine pm_iconst (v := 1) B dL_swingsByCounts_13 (by decide) ?_
      exact pm_ireturn B dL_swingsByCounts_14 rfl rfl (Or.inr ⟨("java/lang/IndexOutOfBoundsException", 1), by simp, h, rfl⟩) (Nat.ble_eq_true_of_le (by omega)) (Nat.ble_eq_true_of_le (by omega))
    · refine pm_catch (tgt := 15) B [⟨0, 9, 12, 21⟩] ⟨0, 9, 15, 36⟩ [] rfl (fun w hw => by
          simp only [List.mem_cons, List.not_mem_nil, or_false] at hw
          rcases hw with rfl <;> first | exact Or.inr ⟨by decide, "java/lang/IndexOutOfBoundsException", pm_T_in 862 (by decide +kernel) (by decide +kernel), by decide +kernel⟩) rfl (by decide) (pm_T_in 920 (by decide +kernel) (by decide +kernel)) (pm_T_in 107 (by decide +kernel) (by decide +kernel)) rfl (fun q => ?_)
      refine pm_astore_n B dL_swingsByCounts_15 rfl rfl ?_
      refine pm_iconst (v := 2) B dL_swingsByCounts_16 (by decide) ?_
      exact pm_ireturn B dL_swingsByCounts_17 rfl rfl (Or.inr ⟨("java/util/NoSuchElementException", 2), by simp, h, rfl⟩) (Nat.ble_eq_true_of_le (by omega)) (Nat.ble_eq_true_of_le (by omega))
  · obtain ⟨⟨k, rfl⟩, hw⟩ := hP u n' M' h
    refine pm_i2l B dL_swingsByCounts_7 ?_
    refine pm_last_n B dL_swingsByCounts_8 hw 0 hN hN2 ?_
    refine pm_goto (tgt := 18) B dL_swingsByCounts_9 (by decide) ?_
    refine pm_iconst (v := 0) B dL_swingsByCounts_18 (by decide) ?_
    exact pm_ireturn B dL_swingsByCounts_19 rfl rfl (Or.inl ⟨k, M', h, rfl, rfl⟩) (Nat.ble_eq_true_of_le (by omega)) (Nat.ble_eq_true_of_le (by omega))
theorem dL_share_0 : decode cL_share 0 = .ok (.aload_n 2, 1) := by decide +kernel
theorem dL_share_1 : decode cL_share 1 = .ok (.iconst 0, 1) := by decide +kernel
theorem dL_share_2 : decode cL_share 2 = .ok (.aload_n 0, 1) := by decide +kernel
theorem dL_share_3 : decode cL_share 3 = .ok (.iload_n 1, 1) := by decide +kernel
theorem dL_share_4 : decode cL_share 4 = .ok (.invokevirtual 94, 3) := by decide +kernel
theorem dL_share_7 : decode cL_share 7 = .ok (.i2l, 1) := by decide +kernel
theorem dL_share_8 : decode cL_share 8 = .ok (.lastore, 1) := by decide +kernel
theorem dL_share_9 : decode cL_share 9 = .ok (.goto 6, 3) := by decide +kernel
theorem dL_share_12 : decode cL_share 12 = .ok (.astore_n 3, 1) := by decide +kernel
theorem dL_share_13 : decode cL_share 13 = .ok (.iconst 1, 1) := by decide +kernel
theorem dL_share_14 : decode cL_share 14 = .ok (.ireturn, 1) := by decide +kernel
theorem dL_share_15 : decode cL_share 15 = .ok (.iconst 0, 1) := by decide +kernel
theorem dL_share_16 : decode cL_share 16 = .ok (.ireturn, 1) := by decide +kernel
theorem mt_L_share : pm_MtW yL_share cL_share 4 (some .int) [(0, 9, 12, 21)] 3 := ⟨pm_T_in 1115 (by decide +kernel) (by decide +kernel), pm_T_in 76 (by decide +kernel) (by decide +kernel), ⟨by decide +kernel, by decide +kernel, by decide +kernel⟩, by decide +kernel, by decide⟩
set_option maxHeartbeats 1000000 in
theorem c_L_share {l : Launch} {z : Nat} {D : va_G} {kA : Nat → ClassId} {kE : Nat → Nat} {nx w N d2 mc2 ms2 : Nat} {M : pm_M} {x : Int32} {fs : List Value} {f : Nat → Int64} {P : pm_Po} (hN : 0 < N) (hN2 : N < 2147483648) (hM : M 0 = some (.inr (10, fs))) (hC : pm_C l z D kA kE yX12_share cX12_share 2 (some .int) d2 mc2 ms2 [.ref (z + 0), .int x] nx M P)
    (hP : ∀ v n' M1, P (.inl v) n' M1 → (∃ k : Int32, v = some (.int k)) ∧ M1 w = some (.inl (kA 1, N, .inr (.inl f)))) (hE : ∀ E n' M1, P (.inr E) n' M1 → E = "java/lang/IndexOutOfBoundsException") : pm_Cw l z D kA kE yL_share cL_share 4 (some .int) [(0, 9, 12, 21)] (d2 + 1) mc2 ms2 [.ref (z + 0), .int x, .ref (z + w)] nx M (pm_wr kA w N f P [("java/lang/IndexOutOfBoundsException", 1)]) := by
  refine pm_mkW (own := RL) (nm := "share") mt_L_share rfl rfl rfl rfl rfl fun X B => ?_
  refine pm_loc (L' := [some (.ref (z + 0)), some (.int x), some (.ref (z + w)), none]) rfl ?_
  refine pm_aload_n B dL_share_0 rfl ?_
  refine pm_iconst (v := 0) B dL_share_1 (by decide) ?_
  refine pm_aload_n B dL_share_2 rfl ?_
  refine pm_iload_n B dL_share_3 rfl ?_
  refine pm_callV (As := [.int x]) (mc2 := mc2) (ms2 := ms2) (d2 := d2) B rfl hM rfl hC mt_X12_share sv_L_94 dL_share_4 rfl (Nat.ble_eq_true_of_le (Nat.le_refl _)) rfl (Nat.ble_eq_true_of_le (by omega)) (Nat.ble_eq_true_of_le (by omega)) (fun E n' M' h => ?_) (fun u n' M' h => ?_)
  · obtain rfl := hE E n' M' h
    refine pm_catch (tgt := 12) B [] ⟨0, 9, 12, 21⟩ [] rfl (fun w hw => by cases hw) rfl (by decide) (pm_T_in 862 (by decide +kernel) (by decide +kernel)) (pm_T_in 101 (by decide +kernel) (by decide +kernel)) rfl (fun q => ?_)
    refine pm_astore_n B dL_share_12 rfl rfl ?_
    refine pm_iconst (v := 1) B dL_share_13 (by decide) ?_
    exact pm_ireturn B dL_share_14 rfl rfl (Or.inr ⟨("java/lang/IndexOutOfBoundsException", 1), by simp, h, rfl⟩) (Nat.ble_eq_true_of_le (by omega)) (Nat.ble_eq_true_of_le (by omega))
  · obtain ⟨⟨k, rfl⟩, hw⟩ := hP u n' M' h
    refine pm_i2l B dL_share_7 ?_
    refine pm_last_n B dL_share_8 hw 0 hN hN2 ?_
    refine pm_goto (tgt := 15) B dL_share_9 (by decide) ?_
    refine pm_iconst (v := 0) B dL_share_15 (by decide) ?_
    exact pm_ireturn B dL_share_16 rfl rfl (Or.inl ⟨k, M', h, rfl, rfl⟩) (Nat.ble_eq_true_of_le (by omega)) (Nat.ble_eq_true_of_le (by omega))
theorem dL_shareBySteps_0 : decode cL_shareBySteps 0 = .ok (.aload_n 2, 1) := by decide +kernel
theorem dL_shareBySteps_1 : decode cL_shareBySteps 1 = .ok (.iconst 0, 1) := by decide +kernel
theorem dL_shareBySteps_2 : decode cL_shareBySteps 2 = .ok (.aload_n 0, 1) := by decide +kernel
theorem dL_shareBySteps_3 : decode cL_shareBySteps 3 = .ok (.iload_n 1, 1) := by decide +kernel
theorem dL_shareBySteps_4 : decode cL_shareBySteps 4 = .ok (.invokevirtual 97, 3) := by decide +kernel
theorem dL_shareBySteps_7 : decode cL_shareBySteps 7 = .ok (.i2l, 1) := by decide +kernel
theorem dL_shareBySteps_8 : decode cL_shareBySteps 8 = .ok (.lastore, 1) := by decide +kernel
theorem dL_shareBySteps_9 : decode cL_shareBySteps 9 = .ok (.goto 6, 3) := by decide +kernel
theorem dL_shareBySteps_12 : decode cL_shareBySteps 12 = .ok (.astore_n 3, 1) := by decide +kernel
theorem dL_shareBySteps_13 : decode cL_shareBySteps 13 = .ok (.iconst 1, 1) := by decide +kernel
theorem dL_shareBySteps_14 : decode cL_shareBySteps 14 = .ok (.ireturn, 1) := by decide +kernel
theorem dL_shareBySteps_15 : decode cL_shareBySteps 15 = .ok (.iconst 0, 1) := by decide +kernel
theorem dL_shareBySteps_16 : decode cL_shareBySteps 16 = .ok (.ireturn, 1) := by decide +kernel
theorem mt_L_shareBySteps : pm_MtW yL_shareBySteps cL_shareBySteps 4 (some .int) [(0, 9, 12, 21)] 3 := ⟨pm_T_in 1135 (by decide +kernel) (by decide +kernel), pm_T_in 76 (by decide +kernel) (by decide +kernel), ⟨by decide +kernel, by decide +kernel, by decide +kernel⟩, by decide +kernel, by decide⟩
set_option maxHeartbeats 1000000 in
theorem c_L_shareBySteps {l : Launch} {z : Nat} {D : va_G} {kA : Nat → ClassId} {kE : Nat → Nat} {nx w N d2 mc2 ms2 : Nat} {M : pm_M} {x : Int32} {fs : List Value} {f : Nat → Int64} {P : pm_Po} (hN : 0 < N) (hN2 : N < 2147483648) (hM : M 0 = some (.inr (10, fs))) (hC : pm_C l z D kA kE yX12_shareBySteps cX12_shareBySteps 2 (some .int) d2 mc2 ms2 [.ref (z + 0), .int x] nx M P)
    (hP : ∀ v n' M1, P (.inl v) n' M1 → (∃ k : Int32, v = some (.int k)) ∧ M1 w = some (.inl (kA 1, N, .inr (.inl f)))) (hE : ∀ E n' M1, P (.inr E) n' M1 → E = "java/lang/IndexOutOfBoundsException") : pm_Cw l z D kA kE yL_shareBySteps cL_shareBySteps 4 (some .int) [(0, 9, 12, 21)] (d2 + 1) mc2 ms2 [.ref (z + 0), .int x, .ref (z + w)] nx M (pm_wr kA w N f P [("java/lang/IndexOutOfBoundsException", 1)]) := by
  refine pm_mkW (own := RL) (nm := "shareBySteps") mt_L_shareBySteps rfl rfl rfl rfl rfl fun X B => ?_
  refine pm_loc (L' := [some (.ref (z + 0)), some (.int x), some (.ref (z + w)), none]) rfl ?_
  refine pm_aload_n B dL_shareBySteps_0 rfl ?_
  refine pm_iconst (v := 0) B dL_shareBySteps_1 (by decide) ?_
  refine pm_aload_n B dL_shareBySteps_2 rfl ?_
  refine pm_iload_n B dL_shareBySteps_3 rfl ?_
  refine pm_callV (As := [.int x]) (mc2 := mc2) (ms2 := ms2) (d2 := d2) B rfl hM rfl hC mt_X12_shareBySteps sv_L_97 dL_shareBySteps_4 rfl (Nat.ble_eq_true_of_le (Nat.le_refl _)) rfl (Nat.ble_eq_true_of_le (by omega)) (Nat.ble_eq_true_of_le (by omega)) (fun E n' M' h => ?_) (fun u n' M' h => ?_)
  · obtain rfl := hE E n' M' h
    refine pm_catch (tgt := 12) B [] ⟨0, 9, 12, 21⟩ [] rfl (fun w hw => by cases hw) rfl (by decide) (pm_T_in 862 (by decide +kernel) (by decide +kernel)) (pm_T_in 101 (by decide +kernel) (by decide +kernel)) rfl (fun q => ?_)
    refine pm_astore_n B dL_shareBySteps_12 rfl rfl ?_
    refine pm_iconst (v := 1) B dL_shareBySteps_13 (by decide) ?_
    exact pm_ireturn B dL_shareBySteps_14 rfl rfl (Or.inr ⟨("java/lang/IndexOutOfBoundsException", 1), by simp, h, rfl⟩) (Nat.ble_eq_true_of_le (by omega)) (Nat.ble_eq_true_of_le (by omega))
  · obtain ⟨⟨k, rfl⟩, hw⟩ := hP u n' M' h
    refine pm_i2l B dL_shareBySteps_7 ?_
    refine pm_last_n B dL_shareBySteps_8 hw 0 hN hN2 ?_
    refine pm_goto (tgt := 15) B dL_shareBySteps_9 (by decide) ?_
    refine pm_iconst (v := 0) B dL_shareBySteps_15 (by decide) ?_
    exact pm_ireturn B dL_shareBySteps_16 rfl rfl (Or.inl ⟨k, M', h, rfl, rfl⟩) (Nat.ble_eq_true_of_le (by omega)) (Nat.ble_eq_true_of_le (by omega))
theorem dL_feed_0 : decode cL_feed 0 = .ok (.aload_n 2, 1) := by decide +kernel
theorem dL_feed_1 : decode cL_feed 1 = .ok (.iconst 0, 1) := by decide +kernel
theorem dL_feed_2 : decode cL_feed 2 = .ok (.aload_n 0, 1) := by decide +kernel
theorem dL_feed_3 : decode cL_feed 3 = .ok (.iload_n 1, 1) := by decide +kernel
theorem dL_feed_4 : decode cL_feed 4 = .ok (.invokevirtual 110, 3) := by decide +kernel
theorem dL_feed_7 : decode cL_feed 7 = .ok (.i2l, 1) := by decide +kernel
theorem dL_feed_8 : decode cL_feed 8 = .ok (.lastore, 1) := by decide +kernel
theorem dL_feed_9 : decode cL_feed 9 = .ok (.goto 6, 3) := by decide +kernel
theorem dL_feed_12 : decode cL_feed 12 = .ok (.astore_n 3, 1) := by decide +kernel
theorem dL_feed_13 : decode cL_feed 13 = .ok (.iconst 1, 1) := by decide +kernel
theorem dL_feed_14 : decode cL_feed 14 = .ok (.ireturn, 1) := by decide +kernel
theorem dL_feed_15 : decode cL_feed 15 = .ok (.iconst 0, 1) := by decide +kernel
theorem dL_feed_16 : decode cL_feed 16 = .ok (.ireturn, 1) := by decide +kernel
theorem mt_L_feed : pm_MtW yL_feed cL_feed 4 (some .int) [(0, 9, 12, 114)] 3 := ⟨pm_T_in 1186 (by decide +kernel) (by decide +kernel), pm_T_in 76 (by decide +kernel) (by decide +kernel), ⟨by decide +kernel, by decide +kernel, by decide +kernel⟩, by decide +kernel, by decide⟩
set_option maxHeartbeats 1000000 in
theorem c_L_feed {l : Launch} {z : Nat} {D : va_G} {kA : Nat → ClassId} {kE : Nat → Nat} {nx w N d2 mc2 ms2 : Nat} {M : pm_M} {x : Int32} {fs : List Value} {f : Nat → Int64} {P : pm_Po} (hN : 0 < N) (hN2 : N < 2147483648) (hM : M 0 = some (.inr (10, fs))) (hC : pm_C l z D kA kE yX12_feed cX12_feed 2 (some .int) d2 mc2 ms2 [.ref (z + 0), .int x] nx M P)
    (hP : ∀ v n' M1, P (.inl v) n' M1 → (∃ k : Int32, v = some (.int k)) ∧ M1 w = some (.inl (kA 1, N, .inr (.inl f)))) (hE : ∀ E n' M1, P (.inr E) n' M1 → E = "java/lang/IllegalStateException") : pm_Cw l z D kA kE yL_feed cL_feed 4 (some .int) [(0, 9, 12, 114)] (d2 + 1) mc2 ms2 [.ref (z + 0), .int x, .ref (z + w)] nx M (pm_wr kA w N f P [("java/lang/IllegalStateException", 1)]) := by
  refine pm_mkW (own := RL) (nm := "feed") mt_L_feed rfl rfl rfl rfl rfl fun X B => ?_
  refine pm_loc (L' := [some (.ref (z + 0)), some (.int x), some (.ref (z + w)), none]) rfl ?_
  refine pm_aload_n B dL_feed_0 rfl ?_
  refine pm_iconst (v := 0) B dL_feed_1 (by decide) ?_
  refine pm_aload_n B dL_feed_2 rfl ?_
  refine pm_iload_n B dL_feed_3 rfl ?_
  refine pm_callV (As := [.int x]) (mc2 := mc2) (ms2 := ms2) (d2 := d2) B rfl hM rfl hC mt_X12_feed sv_L_110 dL_feed_4 rfl (Nat.ble_eq_true_of_le (Nat.le_refl _)) rfl (Nat.ble_eq_true_of_le (by omega)) (Nat.ble_eq_true_of_le (by omega)) (fun E n' M' h => ?_) (fun u n' M' h => ?_)
  · obtain rfl := hE E n' M' h
    refine pm_catch (tgt := 12) B [] ⟨0, 9, 12, 114⟩ [] rfl (fun w hw => by cases hw) rfl (by decide) (pm_T_in 1187 (by decide +kernel) (by decide +kernel)) (pm_T_in 109 (by decide +kernel) (by decide +kernel)) rfl (fun q => ?_)
    refine pm_astore_n B dL_feed_12 rfl rfl ?_
    refine pm_iconst (v := 1) B dL_feed_13 (by decide) ?_
    exact pm_ireturn B dL_feed_14 rfl rfl (Or.inr ⟨("java/lang/IllegalStateException", 1), by simp, h, rfl⟩) (Nat.ble_eq_true_of_le (by omega)) (Nat.ble_eq_true_of_le (by omega))
  · obtain ⟨⟨k, rfl⟩, hw⟩ := hP u n' M' h
    refine pm_i2l B dL_feed_7 ?_
    refine pm_last_n B dL_feed_8 hw 0 hN hN2 ?_
    refine pm_goto (tgt := 15) B dL_feed_9 (by decide) ?_
    refine pm_iconst (v := 0) B dL_feed_15 (by decide) ?_
    exact pm_ireturn B dL_feed_16 rfl rfl (Or.inl ⟨k, M', h, rfl, rfl⟩) (Nat.ble_eq_true_of_le (by omega)) (Nat.ble_eq_true_of_le (by omega))
theorem dL_execute_0 : decode cL_execute 0 = .ok (.aload_n 1, 1) := by decide +kernel
theorem dL_execute_1 : decode cL_execute 1 = .ok (.iconst 0, 1) := by decide +kernel
theorem dL_execute_2 : decode cL_execute 2 = .ok (.aload_n 0, 1) := by decide +kernel
theorem dL_execute_3 : decode cL_execute 3 = .ok (.invokevirtual 116, 3) := by decide +kernel
theorem dL_execute_6 : decode cL_execute 6 = .ok (.i2l, 1) := by decide +kernel
theorem dL_execute_7 : decode cL_execute 7 = .ok (.lastore, 1) := by decide +kernel
theorem dL_execute_8 : decode cL_execute 8 = .ok (.goto 9, 3) := by decide +kernel
theorem dL_execute_11 : decode cL_execute 11 = .ok (.astore_n 2, 1) := by decide +kernel
theorem dL_execute_12 : decode cL_execute 12 = .ok (.iconst 1, 1) := by decide +kernel
theorem dL_execute_13 : decode cL_execute 13 = .ok (.ireturn, 1) := by decide +kernel
theorem dL_execute_14 : decode cL_execute 14 = .ok (.astore_n 2, 1) := by decide +kernel
theorem dL_execute_15 : decode cL_execute 15 = .ok (.iconst 2, 1) := by decide +kernel
theorem dL_execute_16 : decode cL_execute 16 = .ok (.ireturn, 1) := by decide +kernel
theorem dL_execute_17 : decode cL_execute 17 = .ok (.iconst 0, 1) := by decide +kernel
theorem dL_execute_18 : decode cL_execute 18 = .ok (.ireturn, 1) := by decide +kernel
theorem mt_L_execute : pm_MtW yL_execute cL_execute 3 (some .int) [(0, 8, 11, 13), (0, 8, 14, 15)] 2 := ⟨pm_T_in 1218 (by decide +kernel) (by decide +kernel), pm_T_in 76 (by decide +kernel) (by decide +kernel), ⟨by decide +kernel, by decide +kernel, by decide +kernel⟩, by decide +kernel, by decide⟩
set_option maxHeartbeats 1000000 in
theorem c_L_execute {l : Launch} {z : Nat} {D : va_G} {kA : Nat → ClassId} {kE : Nat → Nat} {nx w N d2 mc2 ms2 : Nat} {M : pm_M}  {fs : List Value} {f : Nat → Int64} {P : pm_Po} (hN : 0 < N) (hN2 : N < 2147483648) (hM : M 0 = some (.inr (10, fs))) (hC : pm_C l z D kA kE yX12_execute cX12_execute 3 (some .int) d2 mc2 ms2 [.ref (z + 0)] nx M P)
    (hP : ∀ v n' M1, P (.inl v) n' M1 → (∃ k : Int32, v = some (.int k)) ∧ M1 w = some (.inl (kA 1, N, .inr (.inl f)))) (hE : ∀ E n' M1, P (.inr E) n' M1 → E = "java/lang/IllegalArgumentException" ∨ E = "java/lang/UnsupportedOperationException") : pm_Cw l z D kA kE yL_execute cL_execute 3 (some .int) [(0, 8, 11, 13), (0, 8, 14, 15)] (d2 + 1) mc2 ms2 [.ref (z + 0), .ref (z + w)] nx M (pm_wr kA w N f P [("java/lang/IllegalArgumentException", 1), ("java/lang/UnsupportedOperationException", 2)]) := by
  refine pm_mkW (own := RL) (nm := "execute") mt_L_execute rfl rfl rfl rfl rfl fun X B => ?_
  refine pm_loc (L' := [some (.ref (z + 0)), some (.ref (z + w)), none]) rfl ?_
  refine pm_aload_n B dL_execute_0 rfl ?_
  refine pm_iconst (v := 0) B dL_execute_1 (by decide) ?_
  refine pm_aload_n B dL_execute_2 rfl ?_
  refine pm_callV (As := []) (mc2 := mc2) (ms2 := ms2) (d2 := d2) B rfl hM rfl hC mt_X12_execute sv_L_116 dL_execute_3 rfl (Nat.ble_eq_true_of_le (Nat.le_refl _)) rfl (Nat.ble_eq_true_of_le (by omega)) (Nat.ble_eq_true_of_le (by omega)) (fun E n' M' h => ?_) (fun u n' M' h => ?_)
  · rcases hE E n' M' h with rfl | rfl
    · refine pm_catch (tgt := 11) B [] ⟨0, 8, 11, 13⟩ [⟨0, 8, 14, 15⟩] rfl (fun w hw => by cases hw) rfl (by decide) (pm_T_in 851 (by decide +kernel) (by decide +kernel)) (pm_T_in 102 (by decide +kernel) (by decide +kernel)) rfl (fun q => ?_)
      refine pm_astore_n B dL_execute_11 rfl rfl ?_
      refine pm_iconst (v := 1) B dL_execute_12 (by decide) ?_
      exact pm_ireturn B dL_execute_13 rfl rfl (Or.inr ⟨("java/lang/IllegalArgumentException", 1), by simp, h, rfl⟩) (Nat.ble_eq_true_of_le (by omega)) (Nat.ble_eq_true_of_le (by omega))
    · refine pm_catch (tgt := 14) B [⟨0, 8, 11, 13⟩] ⟨0, 8, 14, 15⟩ [] rfl (fun w hw => by
          simp only [List.mem_cons, List.not_mem_nil, or_false] at hw
          rcases hw with rfl <;> first | exact Or.inr ⟨by decide, "java/lang/IllegalArgumentException", pm_T_in 851 (by decide +kernel) (by decide +kernel), by decide +kernel⟩) rfl (by decide) (pm_T_in 852 (by decide +kernel) (by decide +kernel)) (pm_T_in 103 (by decide +kernel) (by decide +kernel)) rfl (fun q => ?_)
      refine pm_astore_n B dL_execute_14 rfl rfl ?_
      refine pm_iconst (v := 2) B dL_execute_15 (by decide) ?_
      exact pm_ireturn B dL_execute_16 rfl rfl (Or.inr ⟨("java/lang/UnsupportedOperationException", 2), by simp, h, rfl⟩) (Nat.ble_eq_true_of_le (by omega)) (Nat.ble_eq_true_of_le (by omega))
  · obtain ⟨⟨k, rfl⟩, hw⟩ := hP u n' M' h
    refine pm_i2l B dL_execute_6 ?_
    refine pm_last_n B dL_execute_7 hw 0 hN hN2 ?_
    refine pm_goto (tgt := 17) B dL_execute_8 (by decide) ?_
    refine pm_iconst (v := 0) B dL_execute_17 (by decide) ?_
    exact pm_ireturn B dL_execute_18 rfl rfl (Or.inl ⟨k, M', h, rfl, rfl⟩) (Nat.ble_eq_true_of_le (by omega)) (Nat.ble_eq_true_of_le (by omega))
theorem dL_faultPosition_0 : decode cL_faultPosition 0 = .ok (.aload_n 1, 1) := by decide +kernel
theorem dL_faultPosition_1 : decode cL_faultPosition 1 = .ok (.iconst 0, 1) := by decide +kernel
theorem dL_faultPosition_2 : decode cL_faultPosition 2 = .ok (.aload_n 0, 1) := by decide +kernel
theorem dL_faultPosition_3 : decode cL_faultPosition 3 = .ok (.invokevirtual 120, 3) := by decide +kernel
theorem dL_faultPosition_6 : decode cL_faultPosition 6 = .ok (.i2l, 1) := by decide +kernel
theorem dL_faultPosition_7 : decode cL_faultPosition 7 = .ok (.lastore, 1) := by decide +kernel
theorem dL_faultPosition_8 : decode cL_faultPosition 8 = .ok (.goto 6, 3) := by decide +kernel
theorem dL_faultPosition_11 : decode cL_faultPosition 11 = .ok (.astore_n 2, 1) := by decide +kernel
theorem dL_faultPosition_12 : decode cL_faultPosition 12 = .ok (.iconst 1, 1) := by decide +kernel
theorem dL_faultPosition_13 : decode cL_faultPosition 13 = .ok (.ireturn, 1) := by decide +kernel
theorem dL_faultPosition_14 : decode cL_faultPosition 14 = .ok (.iconst 0, 1) := by decide +kernel
theorem dL_faultPosition_15 : decode cL_faultPosition 15 = .ok (.ireturn, 1) := by decide +kernel
theorem mt_L_faultPosition : pm_MtW yL_faultPosition cL_faultPosition 3 (some .int) [(0, 8, 11, 36)] 2 := ⟨pm_T_in 1311 (by decide +kernel) (by decide +kernel), pm_T_in 76 (by decide +kernel) (by decide +kernel), ⟨by decide +kernel, by decide +kernel, by decide +kernel⟩, by decide +kernel, by decide⟩
set_option maxHeartbeats 1000000 in
theorem c_L_faultPosition {l : Launch} {z : Nat} {D : va_G} {kA : Nat → ClassId} {kE : Nat → Nat} {nx w N d2 mc2 ms2 : Nat} {M : pm_M}  {fs : List Value} {f : Nat → Int64} {P : pm_Po} (hN : 0 < N) (hN2 : N < 2147483648) (hM : M 0 = some (.inr (10, fs))) (hC : pm_C l z D kA kE yX12_faultPosition cX12_faultPosition 1 (some .int) d2 mc2 ms2 [.ref (z + 0)] nx M P)
    (hP : ∀ v n' M1, P (.inl v) n' M1 → (∃ k : Int32, v = some (.int k)) ∧ M1 w = some (.inl (kA 1, N, .inr (.inl f)))) (hE : ∀ E n' M1, P (.inr E) n' M1 → E = "java/util/NoSuchElementException") : pm_Cw l z D kA kE yL_faultPosition cL_faultPosition 3 (some .int) [(0, 8, 11, 36)] (d2 + 1) mc2 ms2 [.ref (z + 0), .ref (z + w)] nx M (pm_wr kA w N f P [("java/util/NoSuchElementException", 1)]) := by
  refine pm_mkW (own := RL) (nm := "faultPosition") mt_L_faultPosition rfl rfl rfl rfl rfl fun X B => ?_
  refine pm_loc (L' := [some (.ref (z + 0)), some (.ref (z + w)), none]) rfl ?_
  refine pm_aload_n B dL_faultPosition_0 rfl ?_
  refine pm_iconst (v := 0) B dL_faultPosition_1 (by decide) ?_
  refine pm_aload_n B dL_faultPosition_2 rfl ?_
  refine pm_callV (As := []) (mc2 := mc2) (ms2 := ms2) (d2 := d2) B rfl hM rfl hC mt_X12_faultPosition sv_L_120 dL_faultPosition_3 rfl (Nat.ble_eq_true_of_le (Nat.le_refl _)) rfl (Nat.ble_eq_true_of_le (by omega)) (Nat.ble_eq_true_of_le (by omega)) (fun E n' M' h => ?_) (fun u n' M' h => ?_)
  · obtain rfl := hE E n' M' h
    refine pm_catch (tgt := 11) B [] ⟨0, 8, 11, 36⟩ [] rfl (fun w hw => by cases hw) rfl (by decide) (pm_T_in 920 (by decide +kernel) (by decide +kernel)) (pm_T_in 107 (by decide +kernel) (by decide +kernel)) rfl (fun q => ?_)
    refine pm_astore_n B dL_faultPosition_11 rfl rfl ?_
    refine pm_iconst (v := 1) B dL_faultPosition_12 (by decide) ?_
    exact pm_ireturn B dL_faultPosition_13 rfl rfl (Or.inr ⟨("java/util/NoSuchElementException", 1), by simp, h, rfl⟩) (Nat.ble_eq_true_of_le (by omega)) (Nat.ble_eq_true_of_le (by omega))
  · obtain ⟨⟨k, rfl⟩, hw⟩ := hP u n' M' h
    refine pm_i2l B dL_faultPosition_6 ?_
    refine pm_last_n B dL_faultPosition_7 hw 0 hN hN2 ?_
    refine pm_goto (tgt := 14) B dL_faultPosition_8 (by decide) ?_
    refine pm_iconst (v := 0) B dL_faultPosition_14 (by decide) ?_
    exact pm_ireturn B dL_faultPosition_15 rfl rfl (Or.inl ⟨k, M', h, rfl, rfl⟩) (Nat.ble_eq_true_of_le (by omega)) (Nat.ble_eq_true_of_le (by omega))
theorem dL_writeMember_0 : decode cL_writeMember 0 = .ok (.aload_n 2, 1) := by decide +kernel
theorem dL_writeMember_1 : decode cL_writeMember 1 = .ok (.iconst 0, 1) := by decide +kernel
theorem dL_writeMember_2 : decode cL_writeMember 2 = .ok (.aload_n 0, 1) := by decide +kernel
theorem dL_writeMember_3 : decode cL_writeMember 3 = .ok (.iload_n 1, 1) := by decide +kernel
theorem dL_writeMember_4 : decode cL_writeMember 4 = .ok (.invokevirtual 123, 3) := by decide +kernel
theorem dL_writeMember_7 : decode cL_writeMember 7 = .ok (.i2l, 1) := by decide +kernel
theorem dL_writeMember_8 : decode cL_writeMember 8 = .ok (.lastore, 1) := by decide +kernel
theorem dL_writeMember_9 : decode cL_writeMember 9 = .ok (.goto 6, 3) := by decide +kernel
theorem dL_writeMember_12 : decode cL_writeMember 12 = .ok (.astore_n 3, 1) := by decide +kernel
theorem dL_writeMember_13 : decode cL_writeMember 13 = .ok (.iconst 1, 1) := by decide +kernel
theorem dL_writeMember_14 : decode cL_writeMember 14 = .ok (.ireturn, 1) := by decide +kernel
theorem dL_writeMember_15 : decode cL_writeMember 15 = .ok (.iconst 0, 1) := by decide +kernel
theorem dL_writeMember_16 : decode cL_writeMember 16 = .ok (.ireturn, 1) := by decide +kernel
theorem mt_L_writeMember : pm_MtW yL_writeMember cL_writeMember 4 (some .int) [(0, 9, 12, 21)] 3 := ⟨pm_T_in 1319 (by decide +kernel) (by decide +kernel), pm_T_in 76 (by decide +kernel) (by decide +kernel), ⟨by decide +kernel, by decide +kernel, by decide +kernel⟩, by decide +kernel, by decide⟩
set_option maxHeartbeats 1000000 in
theorem c_L_writeMember {l : Launch} {z : Nat} {D : va_G} {kA : Nat → ClassId} {kE : Nat → Nat} {nx w N d2 mc2 ms2 : Nat} {M : pm_M} {x : Int32} {fs : List Value} {f : Nat → Int64} {P : pm_Po} (hN : 0 < N) (hN2 : N < 2147483648) (hM : M 0 = some (.inr (10, fs))) (hC : pm_C l z D kA kE yX12_writeMember cX12_writeMember 4 (some .int) d2 mc2 ms2 [.ref (z + 0), .int x] nx M P)
    (hP : ∀ v n' M1, P (.inl v) n' M1 → (∃ k : Int32, v = some (.int k)) ∧ M1 w = some (.inl (kA 1, N, .inr (.inl f)))) (hE : ∀ E n' M1, P (.inr E) n' M1 → E = "java/lang/IndexOutOfBoundsException") : pm_Cw l z D kA kE yL_writeMember cL_writeMember 4 (some .int) [(0, 9, 12, 21)] (d2 + 1) mc2 ms2 [.ref (z + 0), .int x, .ref (z + w)] nx M (pm_wr kA w N f P [("java/lang/IndexOutOfBoundsException", 1)]) := by
  refine pm_mkW (own := RL) (nm := "writeMember") mt_L_writeMember rfl rfl rfl rfl rfl fun X B => ?_
  refine pm_loc (L' := [some (.ref (z + 0)), some (.int x), some (.ref (z + w)), none]) rfl ?_
  refine pm_aload_n B dL_writeMember_0 rfl ?_
  refine pm_iconst (v := 0) B dL_writeMember_1 (by decide) ?_
  refine pm_aload_n B dL_writeMember_2 rfl ?_
  refine pm_iload_n B dL_writeMember_3 rfl ?_
  refine pm_callV (As := [.int x]) (mc2 := mc2) (ms2 := ms2) (d2 := d2) B rfl hM rfl hC mt_X12_writeMember sv_L_123 dL_writeMember_4 rfl (Nat.ble_eq_true_of_le (Nat.le_refl _)) rfl (Nat.ble_eq_true_of_le (by omega)) (Nat.ble_eq_true_of_le (by omega)) (fun E n' M' h => ?_) (fun u n' M' h => ?_)
  · obtain rfl := hE E n' M' h
    refine pm_catch (tgt := 12) B [] ⟨0, 9, 12, 21⟩ [] rfl (fun w hw => by cases hw) rfl (by decide) (pm_T_in 862 (by decide +kernel) (by decide +kernel)) (pm_T_in 101 (by decide +kernel) (by decide +kernel)) rfl (fun q => ?_)
    refine pm_astore_n B dL_writeMember_12 rfl rfl ?_
    refine pm_iconst (v := 1) B dL_writeMember_13 (by decide) ?_
    exact pm_ireturn B dL_writeMember_14 rfl rfl (Or.inr ⟨("java/lang/IndexOutOfBoundsException", 1), by simp, h, rfl⟩) (Nat.ble_eq_true_of_le (by omega)) (Nat.ble_eq_true_of_le (by omega))
  · obtain ⟨⟨k, rfl⟩, hw⟩ := hP u n' M' h
    refine pm_i2l B dL_writeMember_7 ?_
    refine pm_last_n B dL_writeMember_8 hw 0 hN hN2 ?_
    refine pm_goto (tgt := 15) B dL_writeMember_9 (by decide) ?_
    refine pm_iconst (v := 0) B dL_writeMember_15 (by decide) ?_
    exact pm_ireturn B dL_writeMember_16 rfl rfl (Or.inl ⟨k, M', h, rfl, rfl⟩) (Nat.ble_eq_true_of_le (by omega)) (Nat.ble_eq_true_of_le (by omega))
theorem dL_lineCharacter_0 : decode cL_lineCharacter 0 = .ok (.aload_n 2, 1) := by decide +kernel
theorem dL_lineCharacter_1 : decode cL_lineCharacter 1 = .ok (.iconst 0, 1) := by decide +kernel
theorem dL_lineCharacter_2 : decode cL_lineCharacter 2 = .ok (.aload_n 0, 1) := by decide +kernel
theorem dL_lineCharacter_3 : decode cL_lineCharacter 3 = .ok (.iload_n 1, 1) := by decide +kernel
theorem dL_lineCharacter_4 : decode cL_lineCharacter 4 = .ok (.invokevirtual 126, 3) := by decide +kernel
theorem dL_lineCharacter_7 : decode cL_lineCharacter 7 = .ok (.i2l, 1) := by decide +kernel
theorem dL_lineCharacter_8 : decode cL_lineCharacter 8 = .ok (.lastore, 1) := by decide +kernel
theorem dL_lineCharacter_9 : decode cL_lineCharacter 9 = .ok (.goto 6, 3) := by decide +kernel
theorem dL_lineCharacter_12 : decode cL_lineCharacter 12 = .ok (.astore_n 3, 1) := by decide +kernel
theorem dL_lineCharacter_13 : decode cL_lineCharacter 13 = .ok (.iconst 1, 1) := by decide +kernel
theorem dL_lineCharacter_14 : decode cL_lineCharacter 14 = .ok (.ireturn, 1) := by decide +kernel
theorem dL_lineCharacter_15 : decode cL_lineCharacter 15 = .ok (.iconst 0, 1) := by decide +kernel
theorem dL_lineCharacter_16 : decode cL_lineCharacter 16 = .ok (.ireturn, 1) := by decide +kernel
theorem mt_L_lineCharacter : pm_MtW yL_lineCharacter cL_lineCharacter 4 (some .int) [(0, 9, 12, 21)] 3 := ⟨pm_T_in 1570 (by decide +kernel) (by decide +kernel), pm_T_in 76 (by decide +kernel) (by decide +kernel), ⟨by decide +kernel, by decide +kernel, by decide +kernel⟩, by decide +kernel, by decide⟩
set_option maxHeartbeats 1000000 in
theorem c_L_lineCharacter {l : Launch} {z : Nat} {D : va_G} {kA : Nat → ClassId} {kE : Nat → Nat} {nx w N d2 mc2 ms2 : Nat} {M : pm_M} {x : Int32} {fs : List Value} {f : Nat → Int64} {P : pm_Po} (hN : 0 < N) (hN2 : N < 2147483648) (hM : M 0 = some (.inr (10, fs))) (hC : pm_C l z D kA kE yX12_lineCharacter cX12_lineCharacter 2 (some .char) d2 mc2 ms2 [.ref (z + 0), .int x] nx M P)
    (hP : ∀ v n' M1, P (.inl v) n' M1 → (∃ k : Int32, v = some (.int k)) ∧ M1 w = some (.inl (kA 1, N, .inr (.inl f)))) (hE : ∀ E n' M1, P (.inr E) n' M1 → E = "java/lang/IndexOutOfBoundsException") : pm_Cw l z D kA kE yL_lineCharacter cL_lineCharacter 4 (some .int) [(0, 9, 12, 21)] (d2 + 1) mc2 ms2 [.ref (z + 0), .int x, .ref (z + w)] nx M (pm_wr kA w N f P [("java/lang/IndexOutOfBoundsException", 1)]) := by
  refine pm_mkW (own := RL) (nm := "lineCharacter") mt_L_lineCharacter rfl rfl rfl rfl rfl fun X B => ?_
  refine pm_loc (L' := [some (.ref (z + 0)), some (.int x), some (.ref (z + w)), none]) rfl ?_
  refine pm_aload_n B dL_lineCharacter_0 rfl ?_
  refine pm_iconst (v := 0) B dL_lineCharacter_1 (by decide) ?_
  refine pm_aload_n B dL_lineCharacter_2 rfl ?_
  refine pm_iload_n B dL_lineCharacter_3 rfl ?_
  refine pm_callV (As := [.int x]) (mc2 := mc2) (ms2 := ms2) (d2 := d2) B rfl hM rfl hC mt_X12_lineCharacter sv_L_126 dL_lineCharacter_4 rfl (Nat.ble_eq_true_of_le (Nat.le_refl _)) rfl (Nat.ble_eq_true_of_le (by omega)) (Nat.ble_eq_true_of_le (by omega)) (fun E n' M' h => ?_) (fun u n' M' h => ?_)
  · obtain rfl := hE E n' M' h
    refine pm_catch (tgt := 12) B [] ⟨0, 9, 12, 21⟩ [] rfl (fun w hw => by cases hw) rfl (by decide) (pm_T_in 862 (by decide +kernel) (by decide +kernel)) (pm_T_in 101 (by decide +kernel) (by decide +kernel)) rfl (fun q => ?_)
    refine pm_astore_n B dL_lineCharacter_12 rfl rfl ?_
    refine pm_iconst (v := 1) B dL_lineCharacter_13 (by decide) ?_
    exact pm_ireturn B dL_lineCharacter_14 rfl rfl (Or.inr ⟨("java/lang/IndexOutOfBoundsException", 1), by simp, h, rfl⟩) (Nat.ble_eq_true_of_le (by omega)) (Nat.ble_eq_true_of_le (by omega))
  · obtain ⟨⟨k, rfl⟩, hw⟩ := hP u n' M' h
    refine pm_i2l B dL_lineCharacter_7 ?_
    refine pm_last_n B dL_lineCharacter_8 hw 0 hN hN2 ?_
    refine pm_goto (tgt := 15) B dL_lineCharacter_9 (by decide) ?_
    refine pm_iconst (v := 0) B dL_lineCharacter_15 (by decide) ?_
    exact pm_ireturn B dL_lineCharacter_16 rfl rfl (Or.inl ⟨k, M', h, rfl, rfl⟩) (Nat.ble_eq_true_of_le (by omega)) (Nat.ble_eq_true_of_le (by omega))
theorem dL_denial_0 : decode cL_denial 0 = .ok (.aload_n 1, 1) := by decide +kernel
theorem dL_denial_1 : decode cL_denial 1 = .ok (.iconst 0, 1) := by decide +kernel
theorem dL_denial_2 : decode cL_denial 2 = .ok (.aload_n 0, 1) := by decide +kernel
theorem dL_denial_3 : decode cL_denial 3 = .ok (.invokevirtual 129, 3) := by decide +kernel
theorem dL_denial_6 : decode cL_denial 6 = .ok (.i2l, 1) := by decide +kernel
theorem dL_denial_7 : decode cL_denial 7 = .ok (.lastore, 1) := by decide +kernel
theorem dL_denial_8 : decode cL_denial 8 = .ok (.goto 6, 3) := by decide +kernel
theorem dL_denial_11 : decode cL_denial 11 = .ok (.astore_n 2, 1) := by decide +kernel
theorem dL_denial_12 : decode cL_denial 12 = .ok (.iconst 1, 1) := by decide +kernel
theorem dL_denial_13 : decode cL_denial 13 = .ok (.ireturn, 1) := by decide +kernel
theorem dL_denial_14 : decode cL_denial 14 = .ok (.iconst 0, 1) := by decide +kernel
theorem dL_denial_15 : decode cL_denial 15 = .ok (.ireturn, 1) := by decide +kernel
theorem mt_L_denial : pm_MtW yL_denial cL_denial 3 (some .int) [(0, 8, 11, 36)] 2 := ⟨pm_T_in 1588 (by decide +kernel) (by decide +kernel), pm_T_in 76 (by decide +kernel) (by decide +kernel), ⟨by decide +kernel, by decide +kernel, by decide +kernel⟩, by decide +kernel, by decide⟩
set_option maxHeartbeats 1000000 in
theorem c_L_denial {l : Launch} {z : Nat} {D : va_G} {kA : Nat → ClassId} {kE : Nat → Nat} {nx w N d2 mc2 ms2 : Nat} {M : pm_M}  {fs : List Value} {f : Nat → Int64} {P : pm_Po} (hN : 0 < N) (hN2 : N < 2147483648) (hM : M 0 = some (.inr (10, fs))) (hC : pm_C l z D kA kE yX12_denial cX12_denial 1 (some .int) d2 mc2 ms2 [.ref (z + 0)] nx M P)
    (hP : ∀ v n' M1, P (.inl v) n' M1 → (∃ k : Int32, v = some (.int k)) ∧ M1 w = some (.inl (kA 1, N, .inr (.inl f)))) (hE : ∀ E n' M1, P (.inr E) n' M1 → E = "java/util/NoSuchElementException") : pm_Cw l z D kA kE yL_denial cL_denial 3 (some .int) [(0, 8, 11, 36)] (d2 + 1) mc2 ms2 [.ref (z + 0), .ref (z + w)] nx M (pm_wr kA w N f P [("java/util/NoSuchElementException", 1)]) := by
  refine pm_mkW (own := RL) (nm := "denial") mt_L_denial rfl rfl rfl rfl rfl fun X B => ?_
  refine pm_loc (L' := [some (.ref (z + 0)), some (.ref (z + w)), none]) rfl ?_
  refine pm_aload_n B dL_denial_0 rfl ?_
  refine pm_iconst (v := 0) B dL_denial_1 (by decide) ?_
  refine pm_aload_n B dL_denial_2 rfl ?_
  refine pm_callV (As := []) (mc2 := mc2) (ms2 := ms2) (d2 := d2) B rfl hM rfl hC mt_X12_denial sv_L_129 dL_denial_3 rfl (Nat.ble_eq_true_of_le (Nat.le_refl _)) rfl (Nat.ble_eq_true_of_le (by omega)) (Nat.ble_eq_true_of_le (by omega)) (fun E n' M' h => ?_) (fun u n' M' h => ?_)
  · obtain rfl := hE E n' M' h
    refine pm_catch (tgt := 11) B [] ⟨0, 8, 11, 36⟩ [] rfl (fun w hw => by cases hw) rfl (by decide) (pm_T_in 920 (by decide +kernel) (by decide +kernel)) (pm_T_in 107 (by decide +kernel) (by decide +kernel)) rfl (fun q => ?_)
    refine pm_astore_n B dL_denial_11 rfl rfl ?_
    refine pm_iconst (v := 1) B dL_denial_12 (by decide) ?_
    exact pm_ireturn B dL_denial_13 rfl rfl (Or.inr ⟨("java/util/NoSuchElementException", 1), by simp, h, rfl⟩) (Nat.ble_eq_true_of_le (by omega)) (Nat.ble_eq_true_of_le (by omega))
  · obtain ⟨⟨k, rfl⟩, hw⟩ := hP u n' M' h
    refine pm_i2l B dL_denial_6 ?_
    refine pm_last_n B dL_denial_7 hw 0 hN hN2 ?_
    refine pm_goto (tgt := 14) B dL_denial_8 (by decide) ?_
    refine pm_iconst (v := 0) B dL_denial_14 (by decide) ?_
    exact pm_ireturn B dL_denial_15 rfl rfl (Or.inl ⟨k, M', h, rfl, rfl⟩) (Nat.ble_eq_true_of_le (by omega)) (Nat.ble_eq_true_of_le (by omega))
theorem dL_denialDetail_0 : decode cL_denialDetail 0 = .ok (.aload_n 1, 1) := by decide +kernel
theorem dL_denialDetail_1 : decode cL_denialDetail 1 = .ok (.iconst 0, 1) := by decide +kernel
theorem dL_denialDetail_2 : decode cL_denialDetail 2 = .ok (.aload_n 0, 1) := by decide +kernel
theorem dL_denialDetail_3 : decode cL_denialDetail 3 = .ok (.invokevirtual 132, 3) := by decide +kernel
theorem dL_denialDetail_6 : decode cL_denialDetail 6 = .ok (.i2l, 1) := by decide +kernel
theorem dL_denialDetail_7 : decode cL_denialDetail 7 = .ok (.lastore, 1) := by decide +kernel
theorem dL_denialDetail_8 : decode cL_denialDetail 8 = .ok (.goto 6, 3) := by decide +kernel
theorem dL_denialDetail_11 : decode cL_denialDetail 11 = .ok (.astore_n 2, 1) := by decide +kernel
theorem dL_denialDetail_12 : decode cL_denialDetail 12 = .ok (.iconst 1, 1) := by decide +kernel
theorem dL_denialDetail_13 : decode cL_denialDetail 13 = .ok (.ireturn, 1) := by decide +kernel
theorem dL_denialDetail_14 : decode cL_denialDetail 14 = .ok (.iconst 0, 1) := by decide +kernel
theorem dL_denialDetail_15 : decode cL_denialDetail 15 = .ok (.ireturn, 1) := by decide +kernel
theorem mt_L_denialDetail : pm_MtW yL_denialDetail cL_denialDetail 3 (some .int) [(0, 8, 11, 36)] 2 := ⟨pm_T_in 1596 (by decide +kernel) (by decide +kernel), pm_T_in 76 (by decide +kernel) (by decide +kernel), ⟨by decide +kernel, by decide +kernel, by decide +kernel⟩, by decide +kernel, by decide⟩
set_option maxHeartbeats 1000000 in
theorem c_L_denialDetail {l : Launch} {z : Nat} {D : va_G} {kA : Nat → ClassId} {kE : Nat → Nat} {nx w N d2 mc2 ms2 : Nat} {M : pm_M}  {fs : List Value} {f : Nat → Int64} {P : pm_Po} (hN : 0 < N) (hN2 : N < 2147483648) (hM : M 0 = some (.inr (10, fs))) (hC : pm_C l z D kA kE yX12_denialDetail cX12_denialDetail 1 (some .int) d2 mc2 ms2 [.ref (z + 0)] nx M P)
    (hP : ∀ v n' M1, P (.inl v) n' M1 → (∃ k : Int32, v = some (.int k)) ∧ M1 w = some (.inl (kA 1, N, .inr (.inl f)))) (hE : ∀ E n' M1, P (.inr E) n' M1 → E = "java/util/NoSuchElementException") : pm_Cw l z D kA kE yL_denialDetail cL_denialDetail 3 (some .int) [(0, 8, 11, 36)] (d2 + 1) mc2 ms2 [.ref (z + 0), .ref (z + w)] nx M (pm_wr kA w N f P [("java/util/NoSuchElementException", 1)]) := by
  refine pm_mkW (own := RL) (nm := "denialDetail") mt_L_denialDetail rfl rfl rfl rfl rfl fun X B => ?_
  refine pm_loc (L' := [some (.ref (z + 0)), some (.ref (z + w)), none]) rfl ?_
  refine pm_aload_n B dL_denialDetail_0 rfl ?_
  refine pm_iconst (v := 0) B dL_denialDetail_1 (by decide) ?_
  refine pm_aload_n B dL_denialDetail_2 rfl ?_
  refine pm_callV (As := []) (mc2 := mc2) (ms2 := ms2) (d2 := d2) B rfl hM rfl hC mt_X12_denialDetail sv_L_132 dL_denialDetail_3 rfl (Nat.ble_eq_true_of_le (Nat.le_refl _)) rfl (Nat.ble_eq_true_of_le (by omega)) (Nat.ble_eq_true_of_le (by omega)) (fun E n' M' h => ?_) (fun u n' M' h => ?_)
  · obtain rfl := hE E n' M' h
    refine pm_catch (tgt := 11) B [] ⟨0, 8, 11, 36⟩ [] rfl (fun w hw => by cases hw) rfl (by decide) (pm_T_in 920 (by decide +kernel) (by decide +kernel)) (pm_T_in 107 (by decide +kernel) (by decide +kernel)) rfl (fun q => ?_)
    refine pm_astore_n B dL_denialDetail_11 rfl rfl ?_
    refine pm_iconst (v := 1) B dL_denialDetail_12 (by decide) ?_
    exact pm_ireturn B dL_denialDetail_13 rfl rfl (Or.inr ⟨("java/util/NoSuchElementException", 1), by simp, h, rfl⟩) (Nat.ble_eq_true_of_le (by omega)) (Nat.ble_eq_true_of_le (by omega))
  · obtain ⟨⟨k, rfl⟩, hw⟩ := hP u n' M' h
    refine pm_i2l B dL_denialDetail_6 ?_
    refine pm_last_n B dL_denialDetail_7 hw 0 hN hN2 ?_
    refine pm_goto (tgt := 14) B dL_denialDetail_8 (by decide) ?_
    refine pm_iconst (v := 0) B dL_denialDetail_14 (by decide) ?_
    exact pm_ireturn B dL_denialDetail_15 rfl rfl (Or.inl ⟨k, M', h, rfl, rfl⟩) (Nat.ble_eq_true_of_le (by omega)) (Nat.ble_eq_true_of_le (by omega))
theorem dL_denialCause_0 : decode cL_denialCause 0 = .ok (.aload_n 1, 1) := by decide +kernel
theorem dL_denialCause_1 : decode cL_denialCause 1 = .ok (.iconst 0, 1) := by decide +kernel
theorem dL_denialCause_2 : decode cL_denialCause 2 = .ok (.aload_n 0, 1) := by decide +kernel
theorem dL_denialCause_3 : decode cL_denialCause 3 = .ok (.invokevirtual 135, 3) := by decide +kernel
theorem dL_denialCause_6 : decode cL_denialCause 6 = .ok (.i2l, 1) := by decide +kernel
theorem dL_denialCause_7 : decode cL_denialCause 7 = .ok (.lastore, 1) := by decide +kernel
theorem dL_denialCause_8 : decode cL_denialCause 8 = .ok (.goto 6, 3) := by decide +kernel
theorem dL_denialCause_11 : decode cL_denialCause 11 = .ok (.astore_n 2, 1) := by decide +kernel
theorem dL_denialCause_12 : decode cL_denialCause 12 = .ok (.iconst 1, 1) := by decide +kernel
theorem dL_denialCause_13 : decode cL_denialCause 13 = .ok (.ireturn, 1) := by decide +kernel
theorem dL_denialCause_14 : decode cL_denialCause 14 = .ok (.iconst 0, 1) := by decide +kernel
theorem dL_denialCause_15 : decode cL_denialCause 15 = .ok (.ireturn, 1) := by decide +kernel
theorem mt_L_denialCause : pm_MtW yL_denialCause cL_denialCause 3 (some .int) [(0, 8, 11, 36)] 2 := ⟨pm_T_in 1603 (by decide +kernel) (by decide +kernel), pm_T_in 76 (by decide +kernel) (by decide +kernel), ⟨by decide +kernel, by decide +kernel, by decide +kernel⟩, by decide +kernel, by decide⟩
set_option maxHeartbeats 1000000 in
theorem c_L_denialCause {l : Launch} {z : Nat} {D : va_G} {kA : Nat → ClassId} {kE : Nat → Nat} {nx w N d2 mc2 ms2 : Nat} {M : pm_M}  {fs : List Value} {f : Nat → Int64} {P : pm_Po} (hN : 0 < N) (hN2 : N < 2147483648) (hM : M 0 = some (.inr (10, fs))) (hC : pm_C l z D kA kE yX12_denialCause cX12_denialCause 1 (some .int) d2 mc2 ms2 [.ref (z + 0)] nx M P)
    (hP : ∀ v n' M1, P (.inl v) n' M1 → (∃ k : Int32, v = some (.int k)) ∧ M1 w = some (.inl (kA 1, N, .inr (.inl f)))) (hE : ∀ E n' M1, P (.inr E) n' M1 → E = "java/util/NoSuchElementException") : pm_Cw l z D kA kE yL_denialCause cL_denialCause 3 (some .int) [(0, 8, 11, 36)] (d2 + 1) mc2 ms2 [.ref (z + 0), .ref (z + w)] nx M (pm_wr kA w N f P [("java/util/NoSuchElementException", 1)]) := by
  refine pm_mkW (own := RL) (nm := "denialCause") mt_L_denialCause rfl rfl rfl rfl rfl fun X B => ?_
  refine pm_loc (L' := [some (.ref (z + 0)), some (.ref (z + w)), none]) rfl ?_
  refine pm_aload_n B dL_denialCause_0 rfl ?_
  refine pm_iconst (v := 0) B dL_denialCause_1 (by decide) ?_
  refine pm_aload_n B dL_denialCause_2 rfl ?_
  refine pm_callV (As := []) (mc2 := mc2) (ms2 := ms2) (d2 := d2) B rfl hM rfl hC mt_X12_denialCause sv_L_135 dL_denialCause_3 rfl (Nat.ble_eq_true_of_le (Nat.le_refl _)) rfl (Nat.ble_eq_true_of_le (by omega)) (Nat.ble_eq_true_of_le (by omega)) (fun E n' M' h => ?_) (fun u n' M' h => ?_)
  · obtain rfl := hE E n' M' h
    refine pm_catch (tgt := 11) B [] ⟨0, 8, 11, 36⟩ [] rfl (fun w hw => by cases hw) rfl (by decide) (pm_T_in 920 (by decide +kernel) (by decide +kernel)) (pm_T_in 107 (by decide +kernel) (by decide +kernel)) rfl (fun q => ?_)
    refine pm_astore_n B dL_denialCause_11 rfl rfl ?_
    refine pm_iconst (v := 1) B dL_denialCause_12 (by decide) ?_
    exact pm_ireturn B dL_denialCause_13 rfl rfl (Or.inr ⟨("java/util/NoSuchElementException", 1), by simp, h, rfl⟩) (Nat.ble_eq_true_of_le (by omega)) (Nat.ble_eq_true_of_le (by omega))
  · obtain ⟨⟨k, rfl⟩, hw⟩ := hP u n' M' h
    refine pm_i2l B dL_denialCause_6 ?_
    refine pm_last_n B dL_denialCause_7 hw 0 hN hN2 ?_
    refine pm_goto (tgt := 14) B dL_denialCause_8 (by decide) ?_
    refine pm_iconst (v := 0) B dL_denialCause_14 (by decide) ?_
    exact pm_ireturn B dL_denialCause_15 rfl rfl (Or.inl ⟨k, M', h, rfl, rfl⟩) (Nat.ble_eq_true_of_le (by omega)) (Nat.ble_eq_true_of_le (by omega))
theorem dL_undo_0 : decode cL_undo 0 = .ok (.aload_n 1, 1) := by decide +kernel
theorem dL_undo_1 : decode cL_undo 1 = .ok (.iconst 0, 1) := by decide +kernel
theorem dL_undo_2 : decode cL_undo 2 = .ok (.aload_n 0, 1) := by decide +kernel
theorem dL_undo_3 : decode cL_undo 3 = .ok (.invokevirtual 138, 3) := by decide +kernel
theorem dL_undo_6 : decode cL_undo 6 = .ok (.i2l, 1) := by decide +kernel
theorem dL_undo_7 : decode cL_undo 7 = .ok (.lastore, 1) := by decide +kernel
theorem dL_undo_8 : decode cL_undo 8 = .ok (.goto 6, 3) := by decide +kernel
theorem dL_undo_11 : decode cL_undo 11 = .ok (.astore_n 2, 1) := by decide +kernel
theorem dL_undo_12 : decode cL_undo 12 = .ok (.iconst 1, 1) := by decide +kernel
theorem dL_undo_13 : decode cL_undo 13 = .ok (.ireturn, 1) := by decide +kernel
theorem dL_undo_14 : decode cL_undo 14 = .ok (.iconst 0, 1) := by decide +kernel
theorem dL_undo_15 : decode cL_undo 15 = .ok (.ireturn, 1) := by decide +kernel
theorem mt_L_undo : pm_MtW yL_undo cL_undo 3 (some .int) [(0, 8, 11, 114)] 2 := ⟨pm_T_in 1611 (by decide +kernel) (by decide +kernel), pm_T_in 76 (by decide +kernel) (by decide +kernel), ⟨by decide +kernel, by decide +kernel, by decide +kernel⟩, by decide +kernel, by decide⟩
set_option maxHeartbeats 1000000 in
theorem c_L_undo {l : Launch} {z : Nat} {D : va_G} {kA : Nat → ClassId} {kE : Nat → Nat} {nx w N d2 mc2 ms2 : Nat} {M : pm_M}  {fs : List Value} {f : Nat → Int64} {P : pm_Po} (hN : 0 < N) (hN2 : N < 2147483648) (hM : M 0 = some (.inr (10, fs))) (hC : pm_C l z D kA kE yX12_undo cX12_undo 1 (some .int) d2 mc2 ms2 [.ref (z + 0)] nx M P)
    (hP : ∀ v n' M1, P (.inl v) n' M1 → (∃ k : Int32, v = some (.int k)) ∧ M1 w = some (.inl (kA 1, N, .inr (.inl f)))) (hE : ∀ E n' M1, P (.inr E) n' M1 → E = "java/lang/IllegalStateException") : pm_Cw l z D kA kE yL_undo cL_undo 3 (some .int) [(0, 8, 11, 114)] (d2 + 1) mc2 ms2 [.ref (z + 0), .ref (z + w)] nx M (pm_wr kA w N f P [("java/lang/IllegalStateException", 1)]) := by
  refine pm_mkW (own := RL) (nm := "undo") mt_L_undo rfl rfl rfl rfl rfl fun X B => ?_
  refine pm_loc (L' := [some (.ref (z + 0)), some (.ref (z + w)), none]) rfl ?_
  refine pm_aload_n B dL_undo_0 rfl ?_
  refine pm_iconst (v := 0) B dL_undo_1 (by decide) ?_
  refine pm_aload_n B dL_undo_2 rfl ?_
  refine pm_callV (As := []) (mc2 := mc2) (ms2 := ms2) (d2 := d2) B rfl hM rfl hC mt_X12_undo sv_L_138 dL_undo_3 rfl (Nat.ble_eq_true_of_le (Nat.le_refl _)) rfl (Nat.ble_eq_true_of_le (by omega)) (Nat.ble_eq_true_of_le (by omega)) (fun E n' M' h => ?_) (fun u n' M' h => ?_)
  · obtain rfl := hE E n' M' h
    refine pm_catch (tgt := 11) B [] ⟨0, 8, 11, 114⟩ [] rfl (fun w hw => by cases hw) rfl (by decide) (pm_T_in 1187 (by decide +kernel) (by decide +kernel)) (pm_T_in 109 (by decide +kernel) (by decide +kernel)) rfl (fun q => ?_)
    refine pm_astore_n B dL_undo_11 rfl rfl ?_
    refine pm_iconst (v := 1) B dL_undo_12 (by decide) ?_
    exact pm_ireturn B dL_undo_13 rfl rfl (Or.inr ⟨("java/lang/IllegalStateException", 1), by simp, h, rfl⟩) (Nat.ble_eq_true_of_le (by omega)) (Nat.ble_eq_true_of_le (by omega))
  · obtain ⟨⟨k, rfl⟩, hw⟩ := hP u n' M' h
    refine pm_i2l B dL_undo_6 ?_
    refine pm_last_n B dL_undo_7 hw 0 hN hN2 ?_
    refine pm_goto (tgt := 14) B dL_undo_8 (by decide) ?_
    refine pm_iconst (v := 0) B dL_undo_14 (by decide) ?_
    exact pm_ireturn B dL_undo_15 rfl rfl (Or.inl ⟨k, M', h, rfl, rfl⟩) (Nat.ble_eq_true_of_le (by omega)) (Nat.ble_eq_true_of_le (by omega))
theorem dL_restoreSnapshot_0 : decode cL_restoreSnapshot 0 = .ok (.aload_n 1, 1) := by decide +kernel
theorem dL_restoreSnapshot_1 : decode cL_restoreSnapshot 1 = .ok (.iconst 0, 1) := by decide +kernel
theorem dL_restoreSnapshot_2 : decode cL_restoreSnapshot 2 = .ok (.aload_n 0, 1) := by decide +kernel
theorem dL_restoreSnapshot_3 : decode cL_restoreSnapshot 3 = .ok (.invokevirtual 141, 3) := by decide +kernel
theorem dL_restoreSnapshot_6 : decode cL_restoreSnapshot 6 = .ok (.i2l, 1) := by decide +kernel
theorem dL_restoreSnapshot_7 : decode cL_restoreSnapshot 7 = .ok (.lastore, 1) := by decide +kernel
theorem dL_restoreSnapshot_8 : decode cL_restoreSnapshot 8 = .ok (.goto 6, 3) := by decide +kernel
theorem dL_restoreSnapshot_11 : decode cL_restoreSnapshot 11 = .ok (.astore_n 2, 1) := by decide +kernel
theorem dL_restoreSnapshot_12 : decode cL_restoreSnapshot 12 = .ok (.iconst 1, 1) := by decide +kernel
theorem dL_restoreSnapshot_13 : decode cL_restoreSnapshot 13 = .ok (.ireturn, 1) := by decide +kernel
theorem dL_restoreSnapshot_14 : decode cL_restoreSnapshot 14 = .ok (.iconst 0, 1) := by decide +kernel
theorem dL_restoreSnapshot_15 : decode cL_restoreSnapshot 15 = .ok (.ireturn, 1) := by decide +kernel
theorem mt_L_restoreSnapshot : pm_MtW yL_restoreSnapshot cL_restoreSnapshot 3 (some .int) [(0, 8, 11, 114)] 2 := ⟨pm_T_in 1623 (by decide +kernel) (by decide +kernel), pm_T_in 76 (by decide +kernel) (by decide +kernel), ⟨by decide +kernel, by decide +kernel, by decide +kernel⟩, by decide +kernel, by decide⟩
set_option maxHeartbeats 1000000 in
theorem c_L_restoreSnapshot {l : Launch} {z : Nat} {D : va_G} {kA : Nat → ClassId} {kE : Nat → Nat} {nx w N d2 mc2 ms2 : Nat} {M : pm_M}  {fs : List Value} {f : Nat → Int64} {P : pm_Po} (hN : 0 < N) (hN2 : N < 2147483648) (hM : M 0 = some (.inr (10, fs))) (hC : pm_C l z D kA kE yX12_restoreSnapshot cX12_restoreSnapshot 1 (some .int) d2 mc2 ms2 [.ref (z + 0)] nx M P)
    (hP : ∀ v n' M1, P (.inl v) n' M1 → (∃ k : Int32, v = some (.int k)) ∧ M1 w = some (.inl (kA 1, N, .inr (.inl f)))) (hE : ∀ E n' M1, P (.inr E) n' M1 → E = "java/lang/IllegalStateException") : pm_Cw l z D kA kE yL_restoreSnapshot cL_restoreSnapshot 3 (some .int) [(0, 8, 11, 114)] (d2 + 1) mc2 ms2 [.ref (z + 0), .ref (z + w)] nx M (pm_wr kA w N f P [("java/lang/IllegalStateException", 1)]) := by
  refine pm_mkW (own := RL) (nm := "restoreSnapshot") mt_L_restoreSnapshot rfl rfl rfl rfl rfl fun X B => ?_
  refine pm_loc (L' := [some (.ref (z + 0)), some (.ref (z + w)), none]) rfl ?_
  refine pm_aload_n B dL_restoreSnapshot_0 rfl ?_
  refine pm_iconst (v := 0) B dL_restoreSnapshot_1 (by decide) ?_
  refine pm_aload_n B dL_restoreSnapshot_2 rfl ?_
  refine pm_callV (As := []) (mc2 := mc2) (ms2 := ms2) (d2 := d2) B rfl hM rfl hC mt_X12_restoreSnapshot sv_L_141 dL_restoreSnapshot_3 rfl (Nat.ble_eq_true_of_le (Nat.le_refl _)) rfl (Nat.ble_eq_true_of_le (by omega)) (Nat.ble_eq_true_of_le (by omega)) (fun E n' M' h => ?_) (fun u n' M' h => ?_)
  · obtain rfl := hE E n' M' h
    refine pm_catch (tgt := 11) B [] ⟨0, 8, 11, 114⟩ [] rfl (fun w hw => by cases hw) rfl (by decide) (pm_T_in 1187 (by decide +kernel) (by decide +kernel)) (pm_T_in 109 (by decide +kernel) (by decide +kernel)) rfl (fun q => ?_)
    refine pm_astore_n B dL_restoreSnapshot_11 rfl rfl ?_
    refine pm_iconst (v := 1) B dL_restoreSnapshot_12 (by decide) ?_
    exact pm_ireturn B dL_restoreSnapshot_13 rfl rfl (Or.inr ⟨("java/lang/IllegalStateException", 1), by simp, h, rfl⟩) (Nat.ble_eq_true_of_le (by omega)) (Nat.ble_eq_true_of_le (by omega))
  · obtain ⟨⟨k, rfl⟩, hw⟩ := hP u n' M' h
    refine pm_i2l B dL_restoreSnapshot_6 ?_
    refine pm_last_n B dL_restoreSnapshot_7 hw 0 hN hN2 ?_
    refine pm_goto (tgt := 14) B dL_restoreSnapshot_8 (by decide) ?_
    refine pm_iconst (v := 0) B dL_restoreSnapshot_14 (by decide) ?_
    exact pm_ireturn B dL_restoreSnapshot_15 rfl rfl (Or.inl ⟨k, M', h, rfl, rfl⟩) (Nat.ble_eq_true_of_le (by omega)) (Nat.ble_eq_true_of_le (by omega))
def pm_wrd (kA : Nat → ClassId) (w N : Nat) (f : Nat → UInt64) (P : pm_Po) (h : List (String × Int32)) : pm_Po := fun o n' M' =>
  (∃ (v : UInt64) (M1 : pm_M), P (.inl (some (.double v))) n' M1 ∧ o = .inl (some (.int 0)) ∧ M' = pm_up M1 w (.inl (kA 2, N, .inr (.inr (.inr (.inl (vf_upd f 0 v))))))) ∨ ∃ e ∈ h, P (.inr e.1) n' M' ∧ o = .inl (some (.int e.2))
def pm_wrf (kA : Nat → ClassId) (w N : Nat) (f : Nat → UInt64) (P : pm_Po) (h : List (String × Int32)) : pm_Po := fun o n' M' =>
  (∃ (v : UInt32) (M1 : pm_M), P (.inl (some (.float v))) n' M1 ∧ o = .inl (some (.int 0)) ∧ M' = pm_up M1 w (.inl (kA 2, N, .inr (.inr (.inr (.inl (vf_upd f 0 (FP.f2d v)))))))) ∨ ∃ e ∈ h, P (.inr e.1) n' M' ∧ o = .inl (some (.int e.2))
theorem dL_meanSales_0 : decode cL_meanSales 0 = .ok (.aload_n 1, 1) := by decide +kernel
theorem dL_meanSales_1 : decode cL_meanSales 1 = .ok (.iconst 0, 1) := by decide +kernel
theorem dL_meanSales_2 : decode cL_meanSales 2 = .ok (.aload_n 0, 1) := by decide +kernel
theorem dL_meanSales_3 : decode cL_meanSales 3 = .ok (.invokevirtual 100, 3) := by decide +kernel
theorem dL_meanSales_6 : decode cL_meanSales 6 = .ok (.dastore, 1) := by decide +kernel
theorem dL_meanSales_7 : decode cL_meanSales 7 = .ok (.goto 6, 3) := by decide +kernel
theorem dL_meanSales_10 : decode cL_meanSales 10 = .ok (.astore_n 2, 1) := by decide +kernel
theorem dL_meanSales_11 : decode cL_meanSales 11 = .ok (.iconst 1, 1) := by decide +kernel
theorem dL_meanSales_12 : decode cL_meanSales 12 = .ok (.ireturn, 1) := by decide +kernel
theorem dL_meanSales_13 : decode cL_meanSales 13 = .ok (.iconst 0, 1) := by decide +kernel
theorem dL_meanSales_14 : decode cL_meanSales 14 = .ok (.ireturn, 1) := by decide +kernel
theorem mt_L_meanSales : pm_MtW yL_meanSales cL_meanSales 3 (some .int) [(0, 7, 10, 104)] 2 := ⟨pm_T_in 1154 (by decide +kernel) (by decide +kernel), pm_T_in 76 (by decide +kernel) (by decide +kernel), ⟨by decide +kernel, by decide +kernel, by decide +kernel⟩, by decide +kernel, by decide⟩
theorem c_L_meanSales {l : Launch} {z : Nat} {D : va_G} {kA : Nat → ClassId} {kE : Nat → Nat} {nx : Nat} {M : pm_M} {w N d2 mc2 ms2 : Nat} {fs : List Value} {f : Nat → UInt64} {P : pm_Po} (hN : 0 < N) (hN2 : N < 2147483648) (hM : M 0 = some (.inr (10, fs))) (hC : pm_C l z D kA kE yX12_meanSales cX12_meanSales 3 (some .double) d2 mc2 ms2 [.ref (z + 0)] nx M P)
    (hP : ∀ v n' M1, P (.inl v) n' M1 → (∃ k, v = some (.double k)) ∧ M1 w = some (.inl (kA 2, N, .inr (.inr (.inr (.inl f)))))) (hE : ∀ E n' M1, P (.inr E) n' M1 → E = "java/lang/ArithmeticException") : pm_Cw l z D kA kE yL_meanSales cL_meanSales 3 (some .int) [(0, 7, 10, 104)] (d2 + 1) mc2 ms2 [.ref (z + 0), .ref (z + w)] nx M (pm_wrd kA w N f P [("java/lang/ArithmeticException", 1)]) := by
  refine pm_mkW (own := RL) (nm := "meanSales") mt_L_meanSales rfl rfl rfl rfl rfl fun X B => ?_
  refine pm_loc (L' := [some (.ref (z + 0)), some (.ref (z + w)), none]) rfl ?_
  refine pm_aload_n B dL_meanSales_0 rfl ?_
  refine pm_iconst (v := 0) B dL_meanSales_1 (by decide) ?_
  refine pm_aload_n B dL_meanSales_2 rfl ?_
  refine pm_callV (As := []) (mc2 := mc2) (ms2 := ms2) (d2 := d2) B rfl hM rfl hC mt_X12_meanSales sv_L_100 dL_meanSales_3 rfl (Nat.ble_eq_true_of_le (Nat.le_refl _)) rfl (Nat.ble_eq_true_of_le (by omega)) (Nat.ble_eq_true_of_le (by omega)) (fun E n' M' h => ?_) (fun u n' M' h => ?_)
  · obtain rfl := hE E n' M' h
    refine pm_catch (tgt := 10) B [] ⟨0, 7, 10, 104⟩ [] rfl (fun w hw => by cases hw) rfl (by decide) (pm_T_in 1155 (by decide +kernel) (by decide +kernel)) (pm_T_in 108 (by decide +kernel) (by decide +kernel)) rfl (fun q => ?_)
    refine pm_astore_n B dL_meanSales_10 rfl rfl ?_
    refine pm_iconst (v := 1) B dL_meanSales_11 (by decide) ?_
    exact pm_ireturn B dL_meanSales_12 rfl rfl (Or.inr ⟨("java/lang/ArithmeticException", 1), by simp, h, rfl⟩) (Nat.ble_eq_true_of_le (by omega)) (Nat.ble_eq_true_of_le (by omega))
  · obtain ⟨⟨k, rfl⟩, hw⟩ := hP u n' M' h
    refine pm_dast_n B dL_meanSales_6 hw 0 hN hN2 ?_
    refine pm_goto (tgt := 13) B dL_meanSales_7 (by decide) ?_
    refine pm_iconst (v := 0) B dL_meanSales_13 (by decide) ?_
    exact pm_ireturn B dL_meanSales_14 rfl rfl (Or.inl ⟨k, M', h, rfl, rfl⟩) (Nat.ble_eq_true_of_le (by omega)) (Nat.ble_eq_true_of_le (by omega))
theorem dL_finedShare_0 : decode cL_finedShare 0 = .ok (.aload_n 1, 1) := by decide +kernel
theorem dL_finedShare_1 : decode cL_finedShare 1 = .ok (.iconst 0, 1) := by decide +kernel
theorem dL_finedShare_2 : decode cL_finedShare 2 = .ok (.aload_n 0, 1) := by decide +kernel
theorem dL_finedShare_3 : decode cL_finedShare 3 = .ok (.invokevirtual 106, 3) := by decide +kernel
theorem dL_finedShare_6 : decode cL_finedShare 6 = .ok (.f2d, 1) := by decide +kernel
theorem dL_finedShare_7 : decode cL_finedShare 7 = .ok (.dastore, 1) := by decide +kernel
theorem dL_finedShare_8 : decode cL_finedShare 8 = .ok (.goto 6, 3) := by decide +kernel
theorem dL_finedShare_11 : decode cL_finedShare 11 = .ok (.astore_n 2, 1) := by decide +kernel
theorem dL_finedShare_12 : decode cL_finedShare 12 = .ok (.iconst 1, 1) := by decide +kernel
theorem dL_finedShare_13 : decode cL_finedShare 13 = .ok (.ireturn, 1) := by decide +kernel
theorem dL_finedShare_14 : decode cL_finedShare 14 = .ok (.iconst 0, 1) := by decide +kernel
theorem dL_finedShare_15 : decode cL_finedShare 15 = .ok (.ireturn, 1) := by decide +kernel
theorem mt_L_finedShare : pm_MtW yL_finedShare cL_finedShare 3 (some .int) [(0, 8, 11, 104)] 2 := ⟨pm_T_in 1178 (by decide +kernel) (by decide +kernel), pm_T_in 76 (by decide +kernel) (by decide +kernel), ⟨by decide +kernel, by decide +kernel, by decide +kernel⟩, by decide +kernel, by decide⟩
theorem c_L_finedShare {l : Launch} {z : Nat} {D : va_G} {kA : Nat → ClassId} {kE : Nat → Nat} {nx : Nat} {M : pm_M} {w N d2 mc2 ms2 : Nat} {fs : List Value} {f : Nat → UInt64} {P : pm_Po} (hN : 0 < N) (hN2 : N < 2147483648) (hM : M 0 = some (.inr (10, fs))) (hC : pm_C l z D kA kE yX12_finedShare cX12_finedShare 2 (some .float) d2 mc2 ms2 [.ref (z + 0)] nx M P)
    (hP : ∀ v n' M1, P (.inl v) n' M1 → (∃ k, v = some (.float k) ∧ vf_n64 (FP.f2d k)) ∧ M1 w = some (.inl (kA 2, N, .inr (.inr (.inr (.inl f)))))) (hE : ∀ E n' M1, P (.inr E) n' M1 → E = "java/lang/ArithmeticException") : pm_Cw l z D kA kE yL_finedShare cL_finedShare 3 (some .int) [(0, 8, 11, 104)] (d2 + 1) mc2 ms2 [.ref (z + 0), .ref (z + w)] nx M (pm_wrf kA w N f P [("java/lang/ArithmeticException", 1)]) := by
  refine pm_mkW (own := RL) (nm := "finedShare") mt_L_finedShare rfl rfl rfl rfl rfl fun X B => ?_
  refine pm_loc (L' := [some (.ref (z + 0)), some (.ref (z + w)), none]) rfl ?_
  refine pm_aload_n B dL_finedShare_0 rfl ?_
  refine pm_iconst (v := 0) B dL_finedShare_1 (by decide) ?_
  refine pm_aload_n B dL_finedShare_2 rfl ?_
  refine pm_callV (As := []) (mc2 := mc2) (ms2 := ms2) (d2 := d2) B rfl hM rfl hC mt_X12_finedShare sv_L_106 dL_finedShare_3 rfl (Nat.ble_eq_true_of_le (Nat.le_refl _)) rfl (Nat.ble_eq_true_of_le (by omega)) (Nat.ble_eq_true_of_le (by omega)) (fun E n' M' h => ?_) (fun u n' M' h => ?_)
  · obtain rfl := hE E n' M' h
    refine pm_catch (tgt := 11) B [] ⟨0, 8, 11, 104⟩ [] rfl (fun w hw => by cases hw) rfl (by decide) (pm_T_in 1155 (by decide +kernel) (by decide +kernel)) (pm_T_in 108 (by decide +kernel) (by decide +kernel)) rfl (fun q => ?_)
    refine pm_astore_n B dL_finedShare_11 rfl rfl ?_
    refine pm_iconst (v := 1) B dL_finedShare_12 (by decide) ?_
    exact pm_ireturn B dL_finedShare_13 rfl rfl (Or.inr ⟨("java/lang/ArithmeticException", 1), by simp, h, rfl⟩) (Nat.ble_eq_true_of_le (by omega)) (Nat.ble_eq_true_of_le (by omega))
  · obtain ⟨⟨k, rfl, hnn⟩, hw⟩ := hP u n' M' h
    refine pm_f2d B dL_finedShare_6 hnn ?_
    refine pm_dast_n B dL_finedShare_7 hw 0 hN hN2 ?_
    refine pm_goto (tgt := 14) B dL_finedShare_8 (by decide) ?_
    refine pm_iconst (v := 0) B dL_finedShare_14 (by decide) ?_
    exact pm_ireturn B dL_finedShare_15 rfl rfl (Or.inl ⟨k, M', h, rfl, rfl⟩) (Nat.ble_eq_true_of_le (by omega)) (Nat.ble_eq_true_of_le (by omega))
