/-! the law's askers: an answer, or the number of the handler -/
def pw_wr (P : pm_Po) (h : List (String × Int32)) : pm_Po := fun o n' M' => ∃ v : Int32, o = .inl (some (.int v)) ∧ (P (.inl (some (.int v))) n' M' ∨ ∃ e ∈ h, P (.inr e.1) n' M' ∧ v = e.2)
theorem dL_addMember_0 : decode cL_addMember 0 = .ok (.aload_n 0, 1) := by decide +kernel
theorem dL_addMember_1 : decode cL_addMember 1 = .ok (.iload_n 1, 1) := by decide +kernel
theorem dL_addMember_2 : decode cL_addMember 2 = .ok (.iload_n 2, 1) := by decide +kernel
theorem dL_addMember_3 : decode cL_addMember 3 = .ok (.invokevirtual 8, 3) := by decide +kernel
theorem dL_addMember_6 : decode cL_addMember 6 = .ok (.ireturn, 1) := by decide +kernel
theorem dL_addMember_7 : decode cL_addMember 7 = .ok (.astore_n 3, 1) := by decide +kernel
theorem dL_addMember_8 : decode cL_addMember 8 = .ok (.iconst (-1), 1) := by decide +kernel
theorem dL_addMember_9 : decode cL_addMember 9 = .ok (.ireturn, 1) := by decide +kernel
theorem dL_addMember_10 : decode cL_addMember 10 = .ok (.astore_n 3, 1) := by decide +kernel
theorem dL_addMember_11 : decode cL_addMember 11 = .ok (.bipush (-2), 2) := by decide +kernel
theorem dL_addMember_13 : decode cL_addMember 13 = .ok (.ireturn, 1) := by decide +kernel
theorem mt_L_addMember : pm_MtW yL_addMember cL_addMember 4 (some .int) [(0, 6, 7, 14), (0, 6, 10, 16)] 3 := ⟨pm_T_in 379 (by decide +kernel) (by decide +kernel), pm_T_in 34 (by decide +kernel) (by decide +kernel), ⟨by decide +kernel, by decide +kernel, by decide +kernel⟩, by decide +kernel, by decide⟩
set_option maxHeartbeats 1000000 in
theorem c_L_addMember {l : Launch} {z : Nat} {D : va_G} {kA : Nat → ClassId} {kE : Nat → Nat} {nx d2 mc2 ms2 : Nat} {M : pm_M} {x y : Int32} {fs : List Value} {P : pm_Po} (hM : M 0 = some (.inr (10, fs))) (hC : pm_C l z D kA kE yX12_addMember cX12_addMember 3 (some .int) d2 mc2 ms2 [.ref (z + 0), .int x, .int y] nx M P)
    (hP : ∀ v n' M1, P (.inl v) n' M1 → ∃ k : Int32, v = some (.int k)) (hE : ∀ E n' M1, P (.inr E) n' M1 → E = "java/lang/IllegalArgumentException" ∨ E = "java/lang/UnsupportedOperationException") : pm_Cw l z D kA kE yL_addMember cL_addMember 4 (some .int) [(0, 6, 7, 14), (0, 6, 10, 16)] (d2 + 1) mc2 ms2 [.ref (z + 0), .int x, .int y] nx M (pw_wr P [("java/lang/IllegalArgumentException", (-1)), ("java/lang/UnsupportedOperationException", (-2))]) := by
  refine pm_mkW (own := RL) (nm := "addMember") mt_L_addMember rfl rfl rfl rfl rfl fun X B => ?_
  refine pm_loc (L' := [some (.ref (z + 0)), some (.int x), some (.int y), none]) rfl ?_
  refine pm_aload_n B dL_addMember_0 rfl ?_
  refine pm_iload_n B dL_addMember_1 rfl ?_
  refine pm_iload_n B dL_addMember_2 rfl ?_
  refine pm_callV (As := [.int x, .int y]) (mc2 := mc2) (ms2 := ms2) (d2 := d2) B rfl hM rfl hC mt_X12_addMember sv_L_8 dL_addMember_3 rfl (Nat.ble_eq_true_of_le (Nat.le_refl _)) rfl (Nat.ble_eq_true_of_le (by omega)) (Nat.ble_eq_true_of_le (by omega)) (fun E n' M' h => ?_) (fun u n' M' h => ?_)
  · rcases hE E n' M' h with rfl | rfl
    · refine pm_catch (tgt := 7) B [] ⟨0, 6, 7, 14⟩ [⟨0, 6, 10, 16⟩] rfl (fun w hw => by cases hw) rfl (by decide) (pm_T_in 380 (by decide +kernel) (by decide +kernel)) (pm_T_in 59 (by decide +kernel) (by decide +kernel)) rfl (fun q => ?_)
      refine pm_astore_n B dL_addMember_7 rfl rfl ?_
      refine pm_iconst (v := (-1)) B dL_addMember_8 (by decide) ?_
      exact pm_ireturn B dL_addMember_9 rfl rfl ⟨(-1), rfl, Or.inr ⟨("java/lang/IllegalArgumentException", (-1)), by simp, h, rfl⟩⟩ (Nat.ble_eq_true_of_le (by omega)) (Nat.ble_eq_true_of_le (by omega))
    · refine pm_catch (tgt := 10) B [⟨0, 6, 7, 14⟩] ⟨0, 6, 10, 16⟩ [] rfl (fun w hw => by
          simp only [List.mem_cons, List.not_mem_nil, or_false] at hw
          rcases hw with rfl <;> first | exact Or.inr ⟨by decide, "java/lang/IllegalArgumentException", pm_T_in 380 (by decide +kernel) (by decide +kernel), by decide +kernel⟩) rfl (by decide) (pm_T_in 381 (by decide +kernel) (by decide +kernel)) (pm_T_in 60 (by decide +kernel) (by decide +kernel)) rfl (fun q => ?_)
      refine pm_astore_n B dL_addMember_10 rfl rfl ?_
      refine pm_bipush (v := (-2)) B dL_addMember_11 (by decide) ?_
      exact pm_ireturn B dL_addMember_13 rfl rfl ⟨(-2), rfl, Or.inr ⟨("java/lang/UnsupportedOperationException", (-2)), by simp, h, rfl⟩⟩ (Nat.ble_eq_true_of_le (by omega)) (Nat.ble_eq_true_of_le (by omega))
  · obtain ⟨k, rfl⟩ := hP u n' M' h
    exact pm_ireturn B dL_addMember_6 rfl rfl ⟨k, rfl, Or.inl h⟩ (Nat.ble_eq_true_of_le (by omega)) (Nat.ble_eq_true_of_le (by omega))
theorem dL_pardon_0 : decode cL_pardon 0 = .ok (.aload_n 0, 1) := by decide +kernel
theorem dL_pardon_1 : decode cL_pardon 1 = .ok (.iload_n 1, 1) := by decide +kernel
theorem dL_pardon_2 : decode cL_pardon 2 = .ok (.invokevirtual 18, 3) := by decide +kernel
theorem dL_pardon_5 : decode cL_pardon 5 = .ok (.ireturn, 1) := by decide +kernel
theorem dL_pardon_6 : decode cL_pardon 6 = .ok (.astore_n 2, 1) := by decide +kernel
theorem dL_pardon_7 : decode cL_pardon 7 = .ok (.iconst (-1), 1) := by decide +kernel
theorem dL_pardon_8 : decode cL_pardon 8 = .ok (.ireturn, 1) := by decide +kernel
theorem dL_pardon_9 : decode cL_pardon 9 = .ok (.astore_n 2, 1) := by decide +kernel
theorem dL_pardon_10 : decode cL_pardon 10 = .ok (.bipush (-2), 2) := by decide +kernel
theorem dL_pardon_12 : decode cL_pardon 12 = .ok (.ireturn, 1) := by decide +kernel
theorem mt_L_pardon : pm_MtW yL_pardon cL_pardon 3 (some .int) [(0, 5, 6, 22), (0, 5, 9, 16)] 2 := ⟨pm_T_in 801 (by decide +kernel) (by decide +kernel), pm_T_in 34 (by decide +kernel) (by decide +kernel), ⟨by decide +kernel, by decide +kernel, by decide +kernel⟩, by decide +kernel, by decide⟩
set_option maxHeartbeats 1000000 in
theorem c_L_pardon {l : Launch} {z : Nat} {D : va_G} {kA : Nat → ClassId} {kE : Nat → Nat} {nx d2 mc2 ms2 : Nat} {M : pm_M} {x : Int32} {fs : List Value} {P : pm_Po} (hM : M 0 = some (.inr (10, fs))) (hC : pm_C l z D kA kE yX12_pardon cX12_pardon 2 (some .int) d2 mc2 ms2 [.ref (z + 0), .int x] nx M P)
    (hP : ∀ v n' M1, P (.inl v) n' M1 → ∃ k : Int32, v = some (.int k)) (hE : ∀ E n' M1, P (.inr E) n' M1 → E = "java/lang/IndexOutOfBoundsException" ∨ E = "java/lang/UnsupportedOperationException") : pm_Cw l z D kA kE yL_pardon cL_pardon 3 (some .int) [(0, 5, 6, 22), (0, 5, 9, 16)] (d2 + 1) mc2 ms2 [.ref (z + 0), .int x] nx M (pw_wr P [("java/lang/IndexOutOfBoundsException", (-1)), ("java/lang/UnsupportedOperationException", (-2))]) := by
  refine pm_mkW (own := RL) (nm := "pardon") mt_L_pardon rfl rfl rfl rfl rfl fun X B => ?_
  refine pm_loc (L' := [some (.ref (z + 0)), some (.int x), none]) rfl ?_
  refine pm_aload_n B dL_pardon_0 rfl ?_
  refine pm_iload_n B dL_pardon_1 rfl ?_
  refine pm_callV (As := [.int x]) (mc2 := mc2) (ms2 := ms2) (d2 := d2) B rfl hM rfl hC mt_X12_pardon sv_L_18 dL_pardon_2 rfl (Nat.ble_eq_true_of_le (Nat.le_refl _)) rfl (Nat.ble_eq_true_of_le (by omega)) (Nat.ble_eq_true_of_le (by omega)) (fun E n' M' h => ?_) (fun u n' M' h => ?_)
  · rcases hE E n' M' h with rfl | rfl
    · refine pm_catch (tgt := 6) B [] ⟨0, 5, 6, 22⟩ [⟨0, 5, 9, 16⟩] rfl (fun w hw => by cases hw) rfl (by decide) (pm_T_in 721 (by decide +kernel) (by decide +kernel)) (pm_T_in 58 (by decide +kernel) (by decide +kernel)) rfl (fun q => ?_)
      refine pm_astore_n B dL_pardon_6 rfl rfl ?_
      refine pm_iconst (v := (-1)) B dL_pardon_7 (by decide) ?_
      exact pm_ireturn B dL_pardon_8 rfl rfl ⟨(-1), rfl, Or.inr ⟨("java/lang/IndexOutOfBoundsException", (-1)), by simp, h, rfl⟩⟩ (Nat.ble_eq_true_of_le (by omega)) (Nat.ble_eq_true_of_le (by omega))
    · refine pm_catch (tgt := 9) B [⟨0, 5, 6, 22⟩] ⟨0, 5, 9, 16⟩ [] rfl (fun w hw => by
          simp only [List.mem_cons, List.not_mem_nil, or_false] at hw
          rcases hw with rfl <;> first | exact Or.inr ⟨by decide, "java/lang/IndexOutOfBoundsException", pm_T_in 721 (by decide +kernel) (by decide +kernel), by decide +kernel⟩) rfl (by decide) (pm_T_in 381 (by decide +kernel) (by decide +kernel)) (pm_T_in 60 (by decide +kernel) (by decide +kernel)) rfl (fun q => ?_)
      refine pm_astore_n B dL_pardon_9 rfl rfl ?_
      refine pm_bipush (v := (-2)) B dL_pardon_10 (by decide) ?_
      exact pm_ireturn B dL_pardon_12 rfl rfl ⟨(-2), rfl, Or.inr ⟨("java/lang/UnsupportedOperationException", (-2)), by simp, h, rfl⟩⟩ (Nat.ble_eq_true_of_le (by omega)) (Nat.ble_eq_true_of_le (by omega))
  · obtain ⟨k, rfl⟩ := hP u n' M' h
    exact pm_ireturn B dL_pardon_5 rfl rfl ⟨k, rfl, Or.inl h⟩ (Nat.ble_eq_true_of_le (by omega)) (Nat.ble_eq_true_of_le (by omega))
theorem dL_capacity_0 : decode cL_capacity 0 = .ok (.aload_n 0, 1) := by decide +kernel
theorem dL_capacity_1 : decode cL_capacity 1 = .ok (.iload_n 1, 1) := by decide +kernel
theorem dL_capacity_2 : decode cL_capacity 2 = .ok (.invokevirtual 24, 3) := by decide +kernel
theorem dL_capacity_5 : decode cL_capacity 5 = .ok (.ireturn, 1) := by decide +kernel
theorem dL_capacity_6 : decode cL_capacity 6 = .ok (.astore_n 2, 1) := by decide +kernel
theorem dL_capacity_7 : decode cL_capacity 7 = .ok (.bipush (-11), 2) := by decide +kernel
theorem dL_capacity_9 : decode cL_capacity 9 = .ok (.ireturn, 1) := by decide +kernel
theorem mt_L_capacity : pm_MtW yL_capacity cL_capacity 3 (some .int) [(0, 5, 6, 22)] 2 := ⟨pm_T_in 912 (by decide +kernel) (by decide +kernel), pm_T_in 34 (by decide +kernel) (by decide +kernel), ⟨by decide +kernel, by decide +kernel, by decide +kernel⟩, by decide +kernel, by decide⟩
set_option maxHeartbeats 1000000 in
theorem c_L_capacity {l : Launch} {z : Nat} {D : va_G} {kA : Nat → ClassId} {kE : Nat → Nat} {nx d2 mc2 ms2 : Nat} {M : pm_M} {x : Int32} {fs : List Value} {P : pm_Po} (hM : M 0 = some (.inr (10, fs))) (hC : pm_C l z D kA kE yX12_capacity cX12_capacity 2 (some .int) d2 mc2 ms2 [.ref (z + 0), .int x] nx M P)
    (hP : ∀ v n' M1, P (.inl v) n' M1 → ∃ k : Int32, v = some (.int k)) (hE : ∀ E n' M1, P (.inr E) n' M1 → E = "java/lang/IndexOutOfBoundsException") : pm_Cw l z D kA kE yL_capacity cL_capacity 3 (some .int) [(0, 5, 6, 22)] (d2 + 1) mc2 ms2 [.ref (z + 0), .int x] nx M (pw_wr P [("java/lang/IndexOutOfBoundsException", (-11))]) := by
  refine pm_mkW (own := RL) (nm := "capacity") mt_L_capacity rfl rfl rfl rfl rfl fun X B => ?_
  refine pm_loc (L' := [some (.ref (z + 0)), some (.int x), none]) rfl ?_
  refine pm_aload_n B dL_capacity_0 rfl ?_
  refine pm_iload_n B dL_capacity_1 rfl ?_
  refine pm_callV (As := [.int x]) (mc2 := mc2) (ms2 := ms2) (d2 := d2) B rfl hM rfl hC mt_X12_capacity sv_L_24 dL_capacity_2 rfl (Nat.ble_eq_true_of_le (Nat.le_refl _)) rfl (Nat.ble_eq_true_of_le (by omega)) (Nat.ble_eq_true_of_le (by omega)) (fun E n' M' h => ?_) (fun u n' M' h => ?_)
  · obtain rfl := hE E n' M' h
    refine pm_catch (tgt := 6) B [] ⟨0, 5, 6, 22⟩ [] rfl (fun w hw => by cases hw) rfl (by decide) (pm_T_in 721 (by decide +kernel) (by decide +kernel)) (pm_T_in 58 (by decide +kernel) (by decide +kernel)) rfl (fun q => ?_)
    refine pm_astore_n B dL_capacity_6 rfl rfl ?_
    refine pm_bipush (v := (-11)) B dL_capacity_7 (by decide) ?_
    exact pm_ireturn B dL_capacity_9 rfl rfl ⟨(-11), rfl, Or.inr ⟨("java/lang/IndexOutOfBoundsException", (-11)), by simp, h, rfl⟩⟩ (Nat.ble_eq_true_of_le (by omega)) (Nat.ble_eq_true_of_le (by omega))
  · obtain ⟨k, rfl⟩ := hP u n' M' h
    exact pm_ireturn B dL_capacity_5 rfl rfl ⟨k, rfl, Or.inl h⟩ (Nat.ble_eq_true_of_le (by omega)) (Nat.ble_eq_true_of_le (by omega))
theorem dL_votes_0 : decode cL_votes 0 = .ok (.aload_n 0, 1) := by decide +kernel
theorem dL_votes_1 : decode cL_votes 1 = .ok (.iload_n 1, 1) := by decide +kernel
theorem dL_votes_2 : decode cL_votes 2 = .ok (.invokevirtual 27, 3) := by decide +kernel
theorem dL_votes_5 : decode cL_votes 5 = .ok (.ireturn, 1) := by decide +kernel
theorem dL_votes_6 : decode cL_votes 6 = .ok (.astore_n 2, 1) := by decide +kernel
theorem dL_votes_7 : decode cL_votes 7 = .ok (.bipush (-11), 2) := by decide +kernel
theorem dL_votes_9 : decode cL_votes 9 = .ok (.ireturn, 1) := by decide +kernel
theorem mt_L_votes : pm_MtW yL_votes cL_votes 3 (some .int) [(0, 5, 6, 22)] 2 := ⟨pm_T_in 960 (by decide +kernel) (by decide +kernel), pm_T_in 34 (by decide +kernel) (by decide +kernel), ⟨by decide +kernel, by decide +kernel, by decide +kernel⟩, by decide +kernel, by decide⟩
set_option maxHeartbeats 1000000 in
theorem c_L_votes {l : Launch} {z : Nat} {D : va_G} {kA : Nat → ClassId} {kE : Nat → Nat} {nx d2 mc2 ms2 : Nat} {M : pm_M} {x : Int32} {fs : List Value} {P : pm_Po} (hM : M 0 = some (.inr (10, fs))) (hC : pm_C l z D kA kE yX12_votes cX12_votes 2 (some .int) d2 mc2 ms2 [.ref (z + 0), .int x] nx M P)
    (hP : ∀ v n' M1, P (.inl v) n' M1 → ∃ k : Int32, v = some (.int k)) (hE : ∀ E n' M1, P (.inr E) n' M1 → E = "java/lang/IndexOutOfBoundsException") : pm_Cw l z D kA kE yL_votes cL_votes 3 (some .int) [(0, 5, 6, 22)] (d2 + 1) mc2 ms2 [.ref (z + 0), .int x] nx M (pw_wr P [("java/lang/IndexOutOfBoundsException", (-11))]) := by
  refine pm_mkW (own := RL) (nm := "votes") mt_L_votes rfl rfl rfl rfl rfl fun X B => ?_
  refine pm_loc (L' := [some (.ref (z + 0)), some (.int x), none]) rfl ?_
  refine pm_aload_n B dL_votes_0 rfl ?_
  refine pm_iload_n B dL_votes_1 rfl ?_
  refine pm_callV (As := [.int x]) (mc2 := mc2) (ms2 := ms2) (d2 := d2) B rfl hM rfl hC mt_X12_votes sv_L_27 dL_votes_2 rfl (Nat.ble_eq_true_of_le (Nat.le_refl _)) rfl (Nat.ble_eq_true_of_le (by omega)) (Nat.ble_eq_true_of_le (by omega)) (fun E n' M' h => ?_) (fun u n' M' h => ?_)
  · obtain rfl := hE E n' M' h
    refine pm_catch (tgt := 6) B [] ⟨0, 5, 6, 22⟩ [] rfl (fun w hw => by cases hw) rfl (by decide) (pm_T_in 721 (by decide +kernel) (by decide +kernel)) (pm_T_in 58 (by decide +kernel) (by decide +kernel)) rfl (fun q => ?_)
    refine pm_astore_n B dL_votes_6 rfl rfl ?_
    refine pm_bipush (v := (-11)) B dL_votes_7 (by decide) ?_
    exact pm_ireturn B dL_votes_9 rfl rfl ⟨(-11), rfl, Or.inr ⟨("java/lang/IndexOutOfBoundsException", (-11)), by simp, h, rfl⟩⟩ (Nat.ble_eq_true_of_le (by omega)) (Nat.ble_eq_true_of_le (by omega))
  · obtain ⟨k, rfl⟩ := hP u n' M' h
    exact pm_ireturn B dL_votes_5 rfl rfl ⟨k, rfl, Or.inl h⟩ (Nat.ble_eq_true_of_le (by omega)) (Nat.ble_eq_true_of_le (by omega))
theorem dL_standing_0 : decode cL_standing 0 = .ok (.aload_n 0, 1) := by decide +kernel
theorem dL_standing_1 : decode cL_standing 1 = .ok (.iload_n 1, 1) := by decide +kernel
theorem dL_standing_2 : decode cL_standing 2 = .ok (.invokevirtual 30, 3) := by decide +kernel
theorem dL_standing_5 : decode cL_standing 5 = .ok (.ireturn, 1) := by decide +kernel
theorem dL_standing_6 : decode cL_standing 6 = .ok (.astore_n 2, 1) := by decide +kernel
theorem dL_standing_7 : decode cL_standing 7 = .ok (.bipush (-11), 2) := by decide +kernel
theorem dL_standing_9 : decode cL_standing 9 = .ok (.ireturn, 1) := by decide +kernel
theorem mt_L_standing : pm_MtW yL_standing cL_standing 3 (some .int) [(0, 5, 6, 22)] 2 := ⟨pm_T_in 817 (by decide +kernel) (by decide +kernel), pm_T_in 34 (by decide +kernel) (by decide +kernel), ⟨by decide +kernel, by decide +kernel, by decide +kernel⟩, by decide +kernel, by decide⟩
set_option maxHeartbeats 1000000 in
theorem c_L_standing {l : Launch} {z : Nat} {D : va_G} {kA : Nat → ClassId} {kE : Nat → Nat} {nx d2 mc2 ms2 : Nat} {M : pm_M} {x : Int32} {fs : List Value} {P : pm_Po} (hM : M 0 = some (.inr (10, fs))) (hC : pm_C l z D kA kE yX12_standing cX12_standing 3 (some .char) d2 mc2 ms2 [.ref (z + 0), .int x] nx M P)
    (hP : ∀ v n' M1, P (.inl v) n' M1 → ∃ k : Int32, v = some (.int k)) (hE : ∀ E n' M1, P (.inr E) n' M1 → E = "java/lang/IndexOutOfBoundsException") : pm_Cw l z D kA kE yL_standing cL_standing 3 (some .int) [(0, 5, 6, 22)] (d2 + 1) mc2 ms2 [.ref (z + 0), .int x] nx M (pw_wr P [("java/lang/IndexOutOfBoundsException", (-11))]) := by
  refine pm_mkW (own := RL) (nm := "standing") mt_L_standing rfl rfl rfl rfl rfl fun X B => ?_
  refine pm_loc (L' := [some (.ref (z + 0)), some (.int x), none]) rfl ?_
  refine pm_aload_n B dL_standing_0 rfl ?_
  refine pm_iload_n B dL_standing_1 rfl ?_
  refine pm_callV (As := [.int x]) (mc2 := mc2) (ms2 := ms2) (d2 := d2) B rfl hM rfl hC mt_X12_standing sv_L_30 dL_standing_2 rfl (Nat.ble_eq_true_of_le (Nat.le_refl _)) rfl (Nat.ble_eq_true_of_le (by omega)) (Nat.ble_eq_true_of_le (by omega)) (fun E n' M' h => ?_) (fun u n' M' h => ?_)
  · obtain rfl := hE E n' M' h
    refine pm_catch (tgt := 6) B [] ⟨0, 5, 6, 22⟩ [] rfl (fun w hw => by cases hw) rfl (by decide) (pm_T_in 721 (by decide +kernel) (by decide +kernel)) (pm_T_in 58 (by decide +kernel) (by decide +kernel)) rfl (fun q => ?_)
    refine pm_astore_n B dL_standing_6 rfl rfl ?_
    refine pm_bipush (v := (-11)) B dL_standing_7 (by decide) ?_
    exact pm_ireturn B dL_standing_9 rfl rfl ⟨(-11), rfl, Or.inr ⟨("java/lang/IndexOutOfBoundsException", (-11)), by simp, h, rfl⟩⟩ (Nat.ble_eq_true_of_le (by omega)) (Nat.ble_eq_true_of_le (by omega))
  · obtain ⟨k, rfl⟩ := hP u n' M' h
    exact pm_ireturn B dL_standing_5 rfl rfl ⟨k, rfl, Or.inl h⟩ (Nat.ble_eq_true_of_le (by omega)) (Nat.ble_eq_true_of_le (by omega))
theorem dL_warnings_0 : decode cL_warnings 0 = .ok (.aload_n 0, 1) := by decide +kernel
theorem dL_warnings_1 : decode cL_warnings 1 = .ok (.iload_n 1, 1) := by decide +kernel
theorem dL_warnings_2 : decode cL_warnings 2 = .ok (.invokevirtual 34, 3) := by decide +kernel
theorem dL_warnings_5 : decode cL_warnings 5 = .ok (.ireturn, 1) := by decide +kernel
theorem dL_warnings_6 : decode cL_warnings 6 = .ok (.astore_n 2, 1) := by decide +kernel
theorem dL_warnings_7 : decode cL_warnings 7 = .ok (.bipush (-11), 2) := by decide +kernel
theorem dL_warnings_9 : decode cL_warnings 9 = .ok (.ireturn, 1) := by decide +kernel
theorem dL_warnings_10 : decode cL_warnings 10 = .ok (.astore_n 2, 1) := by decide +kernel
theorem dL_warnings_11 : decode cL_warnings 11 = .ok (.bipush (-13), 2) := by decide +kernel
theorem dL_warnings_13 : decode cL_warnings 13 = .ok (.ireturn, 1) := by decide +kernel
theorem mt_L_warnings : pm_MtW yL_warnings cL_warnings 3 (some .int) [(0, 5, 6, 22), (0, 5, 10, 37)] 2 := ⟨pm_T_in 831 (by decide +kernel) (by decide +kernel), pm_T_in 34 (by decide +kernel) (by decide +kernel), ⟨by decide +kernel, by decide +kernel, by decide +kernel⟩, by decide +kernel, by decide⟩
set_option maxHeartbeats 1000000 in
theorem c_L_warnings {l : Launch} {z : Nat} {D : va_G} {kA : Nat → ClassId} {kE : Nat → Nat} {nx d2 mc2 ms2 : Nat} {M : pm_M} {x : Int32} {fs : List Value} {P : pm_Po} (hM : M 0 = some (.inr (10, fs))) (hC : pm_C l z D kA kE yX12_warnings cX12_warnings 3 (some .int) d2 mc2 ms2 [.ref (z + 0), .int x] nx M P)
    (hP : ∀ v n' M1, P (.inl v) n' M1 → ∃ k : Int32, v = some (.int k)) (hE : ∀ E n' M1, P (.inr E) n' M1 → E = "java/lang/IndexOutOfBoundsException" ∨ E = "java/util/NoSuchElementException") : pm_Cw l z D kA kE yL_warnings cL_warnings 3 (some .int) [(0, 5, 6, 22), (0, 5, 10, 37)] (d2 + 1) mc2 ms2 [.ref (z + 0), .int x] nx M (pw_wr P [("java/lang/IndexOutOfBoundsException", (-11)), ("java/util/NoSuchElementException", (-13))]) := by
  refine pm_mkW (own := RL) (nm := "warnings") mt_L_warnings rfl rfl rfl rfl rfl fun X B => ?_
  refine pm_loc (L' := [some (.ref (z + 0)), some (.int x), none]) rfl ?_
  refine pm_aload_n B dL_warnings_0 rfl ?_
  refine pm_iload_n B dL_warnings_1 rfl ?_
  refine pm_callV (As := [.int x]) (mc2 := mc2) (ms2 := ms2) (d2 := d2) B rfl hM rfl hC mt_X12_warnings sv_L_34 dL_warnings_2 rfl (Nat.ble_eq_true_of_le (Nat.le_refl _)) rfl (Nat.ble_eq_true_of_le (by omega)) (Nat.ble_eq_true_of_le (by omega)) (fun E n' M' h => ?_) (fun u n' M' h => ?_)
  · rcases hE E n' M' h with rfl | rfl
    · refine pm_catch (tgt := 6) B [] ⟨0, 5, 6, 22⟩ [⟨0, 5, 10, 37⟩] rfl (fun w hw => by cases hw) rfl (by decide) (pm_T_in 721 (by decide +kernel) (by decide +kernel)) (pm_T_in 58 (by decide +kernel) (by decide +kernel)) rfl (fun q => ?_)
      refine pm_astore_n B dL_warnings_6 rfl rfl ?_
      refine pm_bipush (v := (-11)) B dL_warnings_7 (by decide) ?_
      exact pm_ireturn B dL_warnings_9 rfl rfl ⟨(-11), rfl, Or.inr ⟨("java/lang/IndexOutOfBoundsException", (-11)), by simp, h, rfl⟩⟩ (Nat.ble_eq_true_of_le (by omega)) (Nat.ble_eq_true_of_le (by omega))
    · refine pm_catch (tgt := 10) B [⟨0, 5, 6, 22⟩] ⟨0, 5, 10, 37⟩ [] rfl (fun w hw => by
          simp only [List.mem_cons, List.not_mem_nil, or_false] at hw
          rcases hw with rfl <;> first | exact Or.inr ⟨by decide, "java/lang/IndexOutOfBoundsException", pm_T_in 721 (by decide +kernel) (by decide +kernel), by decide +kernel⟩) rfl (by decide) (pm_T_in 832 (by decide +kernel) (by decide +kernel)) (pm_T_in 64 (by decide +kernel) (by decide +kernel)) rfl (fun q => ?_)
      refine pm_astore_n B dL_warnings_10 rfl rfl ?_
      refine pm_bipush (v := (-13)) B dL_warnings_11 (by decide) ?_
      exact pm_ireturn B dL_warnings_13 rfl rfl ⟨(-13), rfl, Or.inr ⟨("java/util/NoSuchElementException", (-13)), by simp, h, rfl⟩⟩ (Nat.ble_eq_true_of_le (by omega)) (Nat.ble_eq_true_of_le (by omega))
  · obtain ⟨k, rfl⟩ := hP u n' M' h
    exact pm_ireturn B dL_warnings_5 rfl rfl ⟨k, rfl, Or.inl h⟩ (Nat.ble_eq_true_of_le (by omega)) (Nat.ble_eq_true_of_le (by omega))
theorem dL_barred_0 : decode cL_barred 0 = .ok (.aload_n 0, 1) := by decide +kernel
theorem dL_barred_1 : decode cL_barred 1 = .ok (.iload_n 1, 1) := by decide +kernel
theorem dL_barred_2 : decode cL_barred 2 = .ok (.invokevirtual 39, 3) := by decide +kernel
theorem dL_barred_5 : decode cL_barred 5 = .ok (.ireturn, 1) := by decide +kernel
theorem dL_barred_6 : decode cL_barred 6 = .ok (.astore_n 2, 1) := by decide +kernel
theorem dL_barred_7 : decode cL_barred 7 = .ok (.bipush (-11), 2) := by decide +kernel
theorem dL_barred_9 : decode cL_barred 9 = .ok (.ireturn, 1) := by decide +kernel
theorem dL_barred_10 : decode cL_barred 10 = .ok (.astore_n 2, 1) := by decide +kernel
theorem dL_barred_11 : decode cL_barred 11 = .ok (.bipush (-13), 2) := by decide +kernel
theorem dL_barred_13 : decode cL_barred 13 = .ok (.ireturn, 1) := by decide +kernel
theorem mt_L_barred : pm_MtW yL_barred cL_barred 3 (some .int) [(0, 5, 6, 22), (0, 5, 10, 37)] 2 := ⟨pm_T_in 855 (by decide +kernel) (by decide +kernel), pm_T_in 34 (by decide +kernel) (by decide +kernel), ⟨by decide +kernel, by decide +kernel, by decide +kernel⟩, by decide +kernel, by decide⟩
set_option maxHeartbeats 1000000 in
theorem c_L_barred {l : Launch} {z : Nat} {D : va_G} {kA : Nat → ClassId} {kE : Nat → Nat} {nx d2 mc2 ms2 : Nat} {M : pm_M} {x : Int32} {fs : List Value} {P : pm_Po} (hM : M 0 = some (.inr (10, fs))) (hC : pm_C l z D kA kE yX12_barredMonths cX12_barredMonths 3 (some .int) d2 mc2 ms2 [.ref (z + 0), .int x] nx M P)
    (hP : ∀ v n' M1, P (.inl v) n' M1 → ∃ k : Int32, v = some (.int k)) (hE : ∀ E n' M1, P (.inr E) n' M1 → E = "java/lang/IndexOutOfBoundsException" ∨ E = "java/util/NoSuchElementException") : pm_Cw l z D kA kE yL_barred cL_barred 3 (some .int) [(0, 5, 6, 22), (0, 5, 10, 37)] (d2 + 1) mc2 ms2 [.ref (z + 0), .int x] nx M (pw_wr P [("java/lang/IndexOutOfBoundsException", (-11)), ("java/util/NoSuchElementException", (-13))]) := by
  refine pm_mkW (own := RL) (nm := "barred") mt_L_barred rfl rfl rfl rfl rfl fun X B => ?_
  refine pm_loc (L' := [some (.ref (z + 0)), some (.int x), none]) rfl ?_
  refine pm_aload_n B dL_barred_0 rfl ?_
  refine pm_iload_n B dL_barred_1 rfl ?_
  refine pm_callV (As := [.int x]) (mc2 := mc2) (ms2 := ms2) (d2 := d2) B rfl hM rfl hC mt_X12_barredMonths sv_L_39 dL_barred_2 rfl (Nat.ble_eq_true_of_le (Nat.le_refl _)) rfl (Nat.ble_eq_true_of_le (by omega)) (Nat.ble_eq_true_of_le (by omega)) (fun E n' M' h => ?_) (fun u n' M' h => ?_)
  · rcases hE E n' M' h with rfl | rfl
    · refine pm_catch (tgt := 6) B [] ⟨0, 5, 6, 22⟩ [⟨0, 5, 10, 37⟩] rfl (fun w hw => by cases hw) rfl (by decide) (pm_T_in 721 (by decide +kernel) (by decide +kernel)) (pm_T_in 58 (by decide +kernel) (by decide +kernel)) rfl (fun q => ?_)
      refine pm_astore_n B dL_barred_6 rfl rfl ?_
      refine pm_bipush (v := (-11)) B dL_barred_7 (by decide) ?_
      exact pm_ireturn B dL_barred_9 rfl rfl ⟨(-11), rfl, Or.inr ⟨("java/lang/IndexOutOfBoundsException", (-11)), by simp, h, rfl⟩⟩ (Nat.ble_eq_true_of_le (by omega)) (Nat.ble_eq_true_of_le (by omega))
    · refine pm_catch (tgt := 10) B [⟨0, 5, 6, 22⟩] ⟨0, 5, 10, 37⟩ [] rfl (fun w hw => by
          simp only [List.mem_cons, List.not_mem_nil, or_false] at hw
          rcases hw with rfl <;> first | exact Or.inr ⟨by decide, "java/lang/IndexOutOfBoundsException", pm_T_in 721 (by decide +kernel) (by decide +kernel), by decide +kernel⟩) rfl (by decide) (pm_T_in 832 (by decide +kernel) (by decide +kernel)) (pm_T_in 64 (by decide +kernel) (by decide +kernel)) rfl (fun q => ?_)
      refine pm_astore_n B dL_barred_10 rfl rfl ?_
      refine pm_bipush (v := (-13)) B dL_barred_11 (by decide) ?_
      exact pm_ireturn B dL_barred_13 rfl rfl ⟨(-13), rfl, Or.inr ⟨("java/util/NoSuchElementException", (-13)), by simp, h, rfl⟩⟩ (Nat.ble_eq_true_of_le (by omega)) (Nat.ble_eq_true_of_le (by omega))
  · obtain ⟨k, rfl⟩ := hP u n' M' h
    exact pm_ireturn B dL_barred_5 rfl rfl ⟨k, rfl, Or.inl h⟩ (Nat.ble_eq_true_of_le (by omega)) (Nat.ble_eq_true_of_le (by omega))
theorem dL_byExcess_0 : decode cL_byExcess 0 = .ok (.aload_n 0, 1) := by decide +kernel
theorem dL_byExcess_1 : decode cL_byExcess 1 = .ok (.iload_n 1, 1) := by decide +kernel
theorem dL_byExcess_2 : decode cL_byExcess 2 = .ok (.invokevirtual 42, 3) := by decide +kernel
theorem dL_byExcess_5 : decode cL_byExcess 5 = .ok (.ireturn, 1) := by decide +kernel
theorem dL_byExcess_6 : decode cL_byExcess 6 = .ok (.astore_n 2, 1) := by decide +kernel
theorem dL_byExcess_7 : decode cL_byExcess 7 = .ok (.bipush (-13), 2) := by decide +kernel
theorem dL_byExcess_9 : decode cL_byExcess 9 = .ok (.ireturn, 1) := by decide +kernel
theorem mt_L_byExcess : pm_MtW yL_byExcess cL_byExcess 3 (some .int) [(0, 5, 6, 37)] 2 := ⟨pm_T_in 878 (by decide +kernel) (by decide +kernel), pm_T_in 34 (by decide +kernel) (by decide +kernel), ⟨by decide +kernel, by decide +kernel, by decide +kernel⟩, by decide +kernel, by decide⟩
set_option maxHeartbeats 1000000 in
theorem c_L_byExcess {l : Launch} {z : Nat} {D : va_G} {kA : Nat → ClassId} {kE : Nat → Nat} {nx d2 mc2 ms2 : Nat} {M : pm_M} {x : Int32} {fs : List Value} {P : pm_Po} (hM : M 0 = some (.inr (10, fs))) (hC : pm_C l z D kA kE yX12_memberByExcess cX12_memberByExcess 3 (some .int) d2 mc2 ms2 [.ref (z + 0), .int x] nx M P)
    (hP : ∀ v n' M1, P (.inl v) n' M1 → ∃ k : Int32, v = some (.int k)) (hE : ∀ E n' M1, P (.inr E) n' M1 → E = "java/util/NoSuchElementException") : pm_Cw l z D kA kE yL_byExcess cL_byExcess 3 (some .int) [(0, 5, 6, 37)] (d2 + 1) mc2 ms2 [.ref (z + 0), .int x] nx M (pw_wr P [("java/util/NoSuchElementException", (-13))]) := by
  refine pm_mkW (own := RL) (nm := "byExcess") mt_L_byExcess rfl rfl rfl rfl rfl fun X B => ?_
  refine pm_loc (L' := [some (.ref (z + 0)), some (.int x), none]) rfl ?_
  refine pm_aload_n B dL_byExcess_0 rfl ?_
  refine pm_iload_n B dL_byExcess_1 rfl ?_
  refine pm_callV (As := [.int x]) (mc2 := mc2) (ms2 := ms2) (d2 := d2) B rfl hM rfl hC mt_X12_memberByExcess sv_L_42 dL_byExcess_2 rfl (Nat.ble_eq_true_of_le (Nat.le_refl _)) rfl (Nat.ble_eq_true_of_le (by omega)) (Nat.ble_eq_true_of_le (by omega)) (fun E n' M' h => ?_) (fun u n' M' h => ?_)
  · obtain rfl := hE E n' M' h
    refine pm_catch (tgt := 6) B [] ⟨0, 5, 6, 37⟩ [] rfl (fun w hw => by cases hw) rfl (by decide) (pm_T_in 832 (by decide +kernel) (by decide +kernel)) (pm_T_in 64 (by decide +kernel) (by decide +kernel)) rfl (fun q => ?_)
    refine pm_astore_n B dL_byExcess_6 rfl rfl ?_
    refine pm_bipush (v := (-13)) B dL_byExcess_7 (by decide) ?_
    exact pm_ireturn B dL_byExcess_9 rfl rfl ⟨(-13), rfl, Or.inr ⟨("java/util/NoSuchElementException", (-13)), by simp, h, rfl⟩⟩ (Nat.ble_eq_true_of_le (by omega)) (Nat.ble_eq_true_of_le (by omega))
  · obtain ⟨k, rfl⟩ := hP u n' M' h
    exact pm_ireturn B dL_byExcess_5 rfl rfl ⟨k, rfl, Or.inl h⟩ (Nat.ble_eq_true_of_le (by omega)) (Nat.ble_eq_true_of_le (by omega))
theorem dL_setRule_0 : decode cL_setRule 0 = .ok (.aload_n 0, 1) := by decide +kernel
theorem dL_setRule_1 : decode cL_setRule 1 = .ok (.iload_n 1, 1) := by decide +kernel
theorem dL_setRule_2 : decode cL_setRule 2 = .ok (.invokevirtual 45, 3) := by decide +kernel
theorem dL_setRule_5 : decode cL_setRule 5 = .ok (.ireturn, 1) := by decide +kernel
theorem dL_setRule_6 : decode cL_setRule 6 = .ok (.astore_n 2, 1) := by decide +kernel
theorem dL_setRule_7 : decode cL_setRule 7 = .ok (.iconst (-1), 1) := by decide +kernel
theorem dL_setRule_8 : decode cL_setRule 8 = .ok (.ireturn, 1) := by decide +kernel
theorem dL_setRule_9 : decode cL_setRule 9 = .ok (.astore_n 2, 1) := by decide +kernel
theorem dL_setRule_10 : decode cL_setRule 10 = .ok (.bipush (-2), 2) := by decide +kernel
theorem dL_setRule_12 : decode cL_setRule 12 = .ok (.ireturn, 1) := by decide +kernel
theorem mt_L_setRule : pm_MtW yL_setRule cL_setRule 3 (some .int) [(0, 5, 6, 14), (0, 5, 9, 16)] 2 := ⟨pm_T_in 774 (by decide +kernel) (by decide +kernel), pm_T_in 34 (by decide +kernel) (by decide +kernel), ⟨by decide +kernel, by decide +kernel, by decide +kernel⟩, by decide +kernel, by decide⟩
set_option maxHeartbeats 1000000 in
theorem c_L_setRule {l : Launch} {z : Nat} {D : va_G} {kA : Nat → ClassId} {kE : Nat → Nat} {nx d2 mc2 ms2 : Nat} {M : pm_M} {x : Int32} {fs : List Value} {P : pm_Po} (hM : M 0 = some (.inr (10, fs))) (hC : pm_C l z D kA kE yX12_setRule cX12_setRule 2 (some .int) d2 mc2 ms2 [.ref (z + 0), .int x] nx M P)
    (hP : ∀ v n' M1, P (.inl v) n' M1 → ∃ k : Int32, v = some (.int k)) (hE : ∀ E n' M1, P (.inr E) n' M1 → E = "java/lang/IllegalArgumentException" ∨ E = "java/lang/UnsupportedOperationException") : pm_Cw l z D kA kE yL_setRule cL_setRule 3 (some .int) [(0, 5, 6, 14), (0, 5, 9, 16)] (d2 + 1) mc2 ms2 [.ref (z + 0), .int x] nx M (pw_wr P [("java/lang/IllegalArgumentException", (-1)), ("java/lang/UnsupportedOperationException", (-2))]) := by
  refine pm_mkW (own := RL) (nm := "setRule") mt_L_setRule rfl rfl rfl rfl rfl fun X B => ?_
  refine pm_loc (L' := [some (.ref (z + 0)), some (.int x), none]) rfl ?_
  refine pm_aload_n B dL_setRule_0 rfl ?_
  refine pm_iload_n B dL_setRule_1 rfl ?_
  refine pm_callV (As := [.int x]) (mc2 := mc2) (ms2 := ms2) (d2 := d2) B rfl hM rfl hC mt_X12_setRule sv_L_45 dL_setRule_2 rfl (Nat.ble_eq_true_of_le (Nat.le_refl _)) rfl (Nat.ble_eq_true_of_le (by omega)) (Nat.ble_eq_true_of_le (by omega)) (fun E n' M' h => ?_) (fun u n' M' h => ?_)
  · rcases hE E n' M' h with rfl | rfl
    · refine pm_catch (tgt := 6) B [] ⟨0, 5, 6, 14⟩ [⟨0, 5, 9, 16⟩] rfl (fun w hw => by cases hw) rfl (by decide) (pm_T_in 380 (by decide +kernel) (by decide +kernel)) (pm_T_in 59 (by decide +kernel) (by decide +kernel)) rfl (fun q => ?_)
      refine pm_astore_n B dL_setRule_6 rfl rfl ?_
      refine pm_iconst (v := (-1)) B dL_setRule_7 (by decide) ?_
      exact pm_ireturn B dL_setRule_8 rfl rfl ⟨(-1), rfl, Or.inr ⟨("java/lang/IllegalArgumentException", (-1)), by simp, h, rfl⟩⟩ (Nat.ble_eq_true_of_le (by omega)) (Nat.ble_eq_true_of_le (by omega))
    · refine pm_catch (tgt := 9) B [⟨0, 5, 6, 14⟩] ⟨0, 5, 9, 16⟩ [] rfl (fun w hw => by
          simp only [List.mem_cons, List.not_mem_nil, or_false] at hw
          rcases hw with rfl <;> first | exact Or.inr ⟨by decide, "java/lang/IllegalArgumentException", pm_T_in 380 (by decide +kernel) (by decide +kernel), by decide +kernel⟩) rfl (by decide) (pm_T_in 381 (by decide +kernel) (by decide +kernel)) (pm_T_in 60 (by decide +kernel) (by decide +kernel)) rfl (fun q => ?_)
      refine pm_astore_n B dL_setRule_9 rfl rfl ?_
      refine pm_bipush (v := (-2)) B dL_setRule_10 (by decide) ?_
      exact pm_ireturn B dL_setRule_12 rfl rfl ⟨(-2), rfl, Or.inr ⟨("java/lang/UnsupportedOperationException", (-2)), by simp, h, rfl⟩⟩ (Nat.ble_eq_true_of_le (by omega)) (Nat.ble_eq_true_of_le (by omega))
  · obtain ⟨k, rfl⟩ := hP u n' M' h
    exact pm_ireturn B dL_setRule_5 rfl rfl ⟨k, rfl, Or.inl h⟩ (Nat.ble_eq_true_of_le (by omega)) (Nat.ble_eq_true_of_le (by omega))
theorem dL_assign_0 : decode cL_assign 0 = .ok (.aload_n 0, 1) := by decide +kernel
theorem dL_assign_1 : decode cL_assign 1 = .ok (.iload_n 1, 1) := by decide +kernel
theorem dL_assign_2 : decode cL_assign 2 = .ok (.invokevirtual 48, 3) := by decide +kernel
theorem dL_assign_5 : decode cL_assign 5 = .ok (.ireturn, 1) := by decide +kernel
theorem dL_assign_6 : decode cL_assign 6 = .ok (.astore_n 2, 1) := by decide +kernel
theorem dL_assign_7 : decode cL_assign 7 = .ok (.iconst (-1), 1) := by decide +kernel
theorem dL_assign_8 : decode cL_assign 8 = .ok (.ireturn, 1) := by decide +kernel
theorem mt_L_assign : pm_MtW yL_assign cL_assign 3 (some .int) [(0, 5, 6, 14)] 2 := ⟨pm_T_in 750 (by decide +kernel) (by decide +kernel), pm_T_in 34 (by decide +kernel) (by decide +kernel), ⟨by decide +kernel, by decide +kernel, by decide +kernel⟩, by decide +kernel, by decide⟩
set_option maxHeartbeats 1000000 in
theorem c_L_assign {l : Launch} {z : Nat} {D : va_G} {kA : Nat → ClassId} {kE : Nat → Nat} {nx d2 mc2 ms2 : Nat} {M : pm_M} {x : Int32} {fs : List Value} {P : pm_Po} (hM : M 0 = some (.inr (10, fs))) (hC : pm_C l z D kA kE yX12_assign cX12_assign 2 (some .int) d2 mc2 ms2 [.ref (z + 0), .int x] nx M P)
    (hP : ∀ v n' M1, P (.inl v) n' M1 → ∃ k : Int32, v = some (.int k)) (hE : ∀ E n' M1, P (.inr E) n' M1 → E = "java/lang/IllegalArgumentException") : pm_Cw l z D kA kE yL_assign cL_assign 3 (some .int) [(0, 5, 6, 14)] (d2 + 1) mc2 ms2 [.ref (z + 0), .int x] nx M (pw_wr P [("java/lang/IllegalArgumentException", (-1))]) := by
  refine pm_mkW (own := RL) (nm := "assign") mt_L_assign rfl rfl rfl rfl rfl fun X B => ?_
  refine pm_loc (L' := [some (.ref (z + 0)), some (.int x), none]) rfl ?_
  refine pm_aload_n B dL_assign_0 rfl ?_
  refine pm_iload_n B dL_assign_1 rfl ?_
  refine pm_callV (As := [.int x]) (mc2 := mc2) (ms2 := ms2) (d2 := d2) B rfl hM rfl hC mt_X12_assign sv_L_48 dL_assign_2 rfl (Nat.ble_eq_true_of_le (Nat.le_refl _)) rfl (Nat.ble_eq_true_of_le (by omega)) (Nat.ble_eq_true_of_le (by omega)) (fun E n' M' h => ?_) (fun u n' M' h => ?_)
  · obtain rfl := hE E n' M' h
    refine pm_catch (tgt := 6) B [] ⟨0, 5, 6, 14⟩ [] rfl (fun w hw => by cases hw) rfl (by decide) (pm_T_in 380 (by decide +kernel) (by decide +kernel)) (pm_T_in 59 (by decide +kernel) (by decide +kernel)) rfl (fun q => ?_)
    refine pm_astore_n B dL_assign_6 rfl rfl ?_
    refine pm_iconst (v := (-1)) B dL_assign_7 (by decide) ?_
    exact pm_ireturn B dL_assign_8 rfl rfl ⟨(-1), rfl, Or.inr ⟨("java/lang/IllegalArgumentException", (-1)), by simp, h, rfl⟩⟩ (Nat.ble_eq_true_of_le (by omega)) (Nat.ble_eq_true_of_le (by omega))
  · obtain ⟨k, rfl⟩ := hP u n' M' h
    exact pm_ireturn B dL_assign_5 rfl rfl ⟨k, rfl, Or.inl h⟩ (Nat.ble_eq_true_of_le (by omega)) (Nat.ble_eq_true_of_le (by omega))
theorem dL_sell_0 : decode cL_sell 0 = .ok (.aload_n 0, 1) := by decide +kernel
theorem dL_sell_1 : decode cL_sell 1 = .ok (.iload_n 1, 1) := by decide +kernel
theorem dL_sell_2 : decode cL_sell 2 = .ok (.iload_n 2, 1) := by decide +kernel
theorem dL_sell_3 : decode cL_sell 3 = .ok (.invokevirtual 51, 3) := by decide +kernel
theorem dL_sell_6 : decode cL_sell 6 = .ok (.ireturn, 1) := by decide +kernel
theorem dL_sell_7 : decode cL_sell 7 = .ok (.astore_n 3, 1) := by decide +kernel
theorem dL_sell_8 : decode cL_sell 8 = .ok (.iconst (-1), 1) := by decide +kernel
theorem dL_sell_9 : decode cL_sell 9 = .ok (.ireturn, 1) := by decide +kernel
theorem dL_sell_10 : decode cL_sell 10 = .ok (.astore_n 3, 1) := by decide +kernel
theorem dL_sell_11 : decode cL_sell 11 = .ok (.bipush (-2), 2) := by decide +kernel
theorem dL_sell_13 : decode cL_sell 13 = .ok (.ireturn, 1) := by decide +kernel
theorem dL_sell_14 : decode cL_sell 14 = .ok (.astore_n 3, 1) := by decide +kernel
theorem dL_sell_15 : decode cL_sell 15 = .ok (.bipush (-3), 2) := by decide +kernel
theorem dL_sell_17 : decode cL_sell 17 = .ok (.ireturn, 1) := by decide +kernel
theorem mt_L_sell : pm_MtW yL_sell cL_sell 4 (some .int) [(0, 6, 7, 22), (0, 6, 10, 14), (0, 6, 14, 16)] 3 := ⟨pm_T_in 720 (by decide +kernel) (by decide +kernel), pm_T_in 34 (by decide +kernel) (by decide +kernel), ⟨by decide +kernel, by decide +kernel, by decide +kernel⟩, by decide +kernel, by decide⟩
set_option maxHeartbeats 1000000 in
theorem c_L_sell {l : Launch} {z : Nat} {D : va_G} {kA : Nat → ClassId} {kE : Nat → Nat} {nx d2 mc2 ms2 : Nat} {M : pm_M} {x y : Int32} {fs : List Value} {P : pm_Po} (hM : M 0 = some (.inr (10, fs))) (hC : pm_C l z D kA kE yX12_sell cX12_sell 3 (some .int) d2 mc2 ms2 [.ref (z + 0), .int x, .int y] nx M P)
    (hP : ∀ v n' M1, P (.inl v) n' M1 → ∃ k : Int32, v = some (.int k)) (hE : ∀ E n' M1, P (.inr E) n' M1 → E = "java/lang/IndexOutOfBoundsException" ∨ E = "java/lang/IllegalArgumentException" ∨ E = "java/lang/UnsupportedOperationException") : pm_Cw l z D kA kE yL_sell cL_sell 4 (some .int) [(0, 6, 7, 22), (0, 6, 10, 14), (0, 6, 14, 16)] (d2 + 1) mc2 ms2 [.ref (z + 0), .int x, .int y] nx M (pw_wr P [("java/lang/IndexOutOfBoundsException", (-1)), ("java/lang/IllegalArgumentException", (-2)), ("java/lang/UnsupportedOperationException", (-3))]) := by
  refine pm_mkW (own := RL) (nm := "sell") mt_L_sell rfl rfl rfl rfl rfl fun X B => ?_
  refine pm_loc (L' := [some (.ref (z + 0)), some (.int x), some (.int y), none]) rfl ?_
  refine pm_aload_n B dL_sell_0 rfl ?_
  refine pm_iload_n B dL_sell_1 rfl ?_
  refine pm_iload_n B dL_sell_2 rfl ?_
  refine pm_callV (As := [.int x, .int y]) (mc2 := mc2) (ms2 := ms2) (d2 := d2) B rfl hM rfl hC mt_X12_sell sv_L_51 dL_sell_3 rfl (Nat.ble_eq_true_of_le (Nat.le_refl _)) rfl (Nat.ble_eq_true_of_le (by omega)) (Nat.ble_eq_true_of_le (by omega)) (fun E n' M' h => ?_) (fun u n' M' h => ?_)
  · rcases hE E n' M' h with rfl | rfl | rfl
    · refine pm_catch (tgt := 7) B [] ⟨0, 6, 7, 22⟩ [⟨0, 6, 10, 14⟩, ⟨0, 6, 14, 16⟩] rfl (fun w hw => by cases hw) rfl (by decide) (pm_T_in 721 (by decide +kernel) (by decide +kernel)) (pm_T_in 58 (by decide +kernel) (by decide +kernel)) rfl (fun q => ?_)
      refine pm_astore_n B dL_sell_7 rfl rfl ?_
      refine pm_iconst (v := (-1)) B dL_sell_8 (by decide) ?_
      exact pm_ireturn B dL_sell_9 rfl rfl ⟨(-1), rfl, Or.inr ⟨("java/lang/IndexOutOfBoundsException", (-1)), by simp, h, rfl⟩⟩ (Nat.ble_eq_true_of_le (by omega)) (Nat.ble_eq_true_of_le (by omega))
    · refine pm_catch (tgt := 10) B [⟨0, 6, 7, 22⟩] ⟨0, 6, 10, 14⟩ [⟨0, 6, 14, 16⟩] rfl (fun w hw => by
          simp only [List.mem_cons, List.not_mem_nil, or_false] at hw
          rcases hw with rfl <;> first | exact Or.inr ⟨by decide, "java/lang/IndexOutOfBoundsException", pm_T_in 721 (by decide +kernel) (by decide +kernel), by decide +kernel⟩) rfl (by decide) (pm_T_in 380 (by decide +kernel) (by decide +kernel)) (pm_T_in 59 (by decide +kernel) (by decide +kernel)) rfl (fun q => ?_)
      refine pm_astore_n B dL_sell_10 rfl rfl ?_
      refine pm_bipush (v := (-2)) B dL_sell_11 (by decide) ?_
      exact pm_ireturn B dL_sell_13 rfl rfl ⟨(-2), rfl, Or.inr ⟨("java/lang/IllegalArgumentException", (-2)), by simp, h, rfl⟩⟩ (Nat.ble_eq_true_of_le (by omega)) (Nat.ble_eq_true_of_le (by omega))
    · refine pm_catch (tgt := 14) B [⟨0, 6, 7, 22⟩, ⟨0, 6, 10, 14⟩] ⟨0, 6, 14, 16⟩ [] rfl (fun w hw => by
          simp only [List.mem_cons, List.not_mem_nil, or_false] at hw
          rcases hw with rfl | rfl <;> first | exact Or.inr ⟨by decide, "java/lang/IndexOutOfBoundsException", pm_T_in 721 (by decide +kernel) (by decide +kernel), by decide +kernel⟩ | exact Or.inr ⟨by decide, "java/lang/IllegalArgumentException", pm_T_in 380 (by decide +kernel) (by decide +kernel), by decide +kernel⟩) rfl (by decide) (pm_T_in 381 (by decide +kernel) (by decide +kernel)) (pm_T_in 60 (by decide +kernel) (by decide +kernel)) rfl (fun q => ?_)
      refine pm_astore_n B dL_sell_14 rfl rfl ?_
      refine pm_bipush (v := (-3)) B dL_sell_15 (by decide) ?_
      exact pm_ireturn B dL_sell_17 rfl rfl ⟨(-3), rfl, Or.inr ⟨("java/lang/UnsupportedOperationException", (-3)), by simp, h, rfl⟩⟩ (Nat.ble_eq_true_of_le (by omega)) (Nat.ble_eq_true_of_le (by omega))
  · obtain ⟨k, rfl⟩ := hP u n' M' h
    exact pm_ireturn B dL_sell_6 rfl rfl ⟨k, rfl, Or.inl h⟩ (Nat.ble_eq_true_of_le (by omega)) (Nat.ble_eq_true_of_le (by omega))
theorem dL_quotaBy_0 : decode cL_quotaBy 0 = .ok (.aload_n 0, 1) := by decide +kernel
theorem dL_quotaBy_1 : decode cL_quotaBy 1 = .ok (.iload_n 1, 1) := by decide +kernel
theorem dL_quotaBy_2 : decode cL_quotaBy 2 = .ok (.iload_n 2, 1) := by decide +kernel
theorem dL_quotaBy_3 : decode cL_quotaBy 3 = .ok (.iload_n 3, 1) := by decide +kernel
theorem dL_quotaBy_4 : decode cL_quotaBy 4 = .ok (.invokevirtual 54, 3) := by decide +kernel
theorem dL_quotaBy_7 : decode cL_quotaBy 7 = .ok (.ireturn, 1) := by decide +kernel
theorem dL_quotaBy_8 : decode cL_quotaBy 8 = .ok (.astore 4, 2) := by decide +kernel
theorem dL_quotaBy_10 : decode cL_quotaBy 10 = .ok (.bipush (-11), 2) := by decide +kernel
theorem dL_quotaBy_12 : decode cL_quotaBy 12 = .ok (.ireturn, 1) := by decide +kernel
theorem dL_quotaBy_13 : decode cL_quotaBy 13 = .ok (.astore 4, 2) := by decide +kernel
theorem dL_quotaBy_15 : decode cL_quotaBy 15 = .ok (.bipush (-12), 2) := by decide +kernel
theorem dL_quotaBy_17 : decode cL_quotaBy 17 = .ok (.ireturn, 1) := by decide +kernel
theorem mt_L_quotaBy : pm_MtW yL_quotaBy cL_quotaBy 5 (some .int) [(0, 7, 8, 22), (0, 7, 13, 14)] 4 := ⟨pm_T_in 973 (by decide +kernel) (by decide +kernel), pm_T_in 34 (by decide +kernel) (by decide +kernel), ⟨by decide +kernel, by decide +kernel, by decide +kernel⟩, by decide +kernel, by decide⟩
set_option maxHeartbeats 1000000 in
theorem c_L_quotaBy {l : Launch} {z : Nat} {D : va_G} {kA : Nat → ClassId} {kE : Nat → Nat} {nx d2 mc2 ms2 : Nat} {M : pm_M} {x y v : Int32} {fs : List Value} {P : pm_Po} (hM : M 0 = some (.inr (10, fs))) (hC : pm_C l z D kA kE yX12_quotaBy cX12_quotaBy 4 (some .int) d2 mc2 ms2 [.ref (z + 0), .int x, .int y, .int v] nx M P)
    (hP : ∀ v n' M1, P (.inl v) n' M1 → ∃ k : Int32, v = some (.int k)) (hE : ∀ E n' M1, P (.inr E) n' M1 → E = "java/lang/IndexOutOfBoundsException" ∨ E = "java/lang/IllegalArgumentException") : pm_Cw l z D kA kE yL_quotaBy cL_quotaBy 5 (some .int) [(0, 7, 8, 22), (0, 7, 13, 14)] (d2 + 1) mc2 ms2 [.ref (z + 0), .int x, .int y, .int v] nx M (pw_wr P [("java/lang/IndexOutOfBoundsException", (-11)), ("java/lang/IllegalArgumentException", (-12))]) := by
  refine pm_mkW (own := RL) (nm := "quotaBy") mt_L_quotaBy rfl rfl rfl rfl rfl fun X B => ?_
  refine pm_loc (L' := [some (.ref (z + 0)), some (.int x), some (.int y), some (.int v), none]) rfl ?_
  refine pm_aload_n B dL_quotaBy_0 rfl ?_
  refine pm_iload_n B dL_quotaBy_1 rfl ?_
  refine pm_iload_n B dL_quotaBy_2 rfl ?_
  refine pm_iload_n B dL_quotaBy_3 rfl ?_
  refine pm_callV (As := [.int x, .int y, .int v]) (mc2 := mc2) (ms2 := ms2) (d2 := d2) B rfl hM rfl hC mt_X12_quotaBy sv_L_54 dL_quotaBy_4 rfl (Nat.ble_eq_true_of_le (Nat.le_refl _)) rfl (Nat.ble_eq_true_of_le (by omega)) (Nat.ble_eq_true_of_le (by omega)) (fun E n' M' h => ?_) (fun u n' M' h => ?_)
  · rcases hE E n' M' h with rfl | rfl
    · refine pm_catch (tgt := 8) B [] ⟨0, 7, 8, 22⟩ [⟨0, 7, 13, 14⟩] rfl (fun w hw => by cases hw) rfl (by decide) (pm_T_in 721 (by decide +kernel) (by decide +kernel)) (pm_T_in 58 (by decide +kernel) (by decide +kernel)) rfl (fun q => ?_)
      refine pm_astore B dL_quotaBy_8 rfl rfl ?_
      refine pm_bipush (v := (-11)) B dL_quotaBy_10 (by decide) ?_
      exact pm_ireturn B dL_quotaBy_12 rfl rfl ⟨(-11), rfl, Or.inr ⟨("java/lang/IndexOutOfBoundsException", (-11)), by simp, h, rfl⟩⟩ (Nat.ble_eq_true_of_le (by omega)) (Nat.ble_eq_true_of_le (by omega))
    · refine pm_catch (tgt := 13) B [⟨0, 7, 8, 22⟩] ⟨0, 7, 13, 14⟩ [] rfl (fun w hw => by
          simp only [List.mem_cons, List.not_mem_nil, or_false] at hw
          rcases hw with rfl <;> first | exact Or.inr ⟨by decide, "java/lang/IndexOutOfBoundsException", pm_T_in 721 (by decide +kernel) (by decide +kernel), by decide +kernel⟩) rfl (by decide) (pm_T_in 380 (by decide +kernel) (by decide +kernel)) (pm_T_in 59 (by decide +kernel) (by decide +kernel)) rfl (fun q => ?_)
      refine pm_astore B dL_quotaBy_13 rfl rfl ?_
      refine pm_bipush (v := (-12)) B dL_quotaBy_15 (by decide) ?_
      exact pm_ireturn B dL_quotaBy_17 rfl rfl ⟨(-12), rfl, Or.inr ⟨("java/lang/IllegalArgumentException", (-12)), by simp, h, rfl⟩⟩ (Nat.ble_eq_true_of_le (by omega)) (Nat.ble_eq_true_of_le (by omega))
  · obtain ⟨k, rfl⟩ := hP u n' M' h
    exact pm_ireturn B dL_quotaBy_7 rfl rfl ⟨k, rfl, Or.inl h⟩ (Nat.ble_eq_true_of_le (by omega)) (Nat.ble_eq_true_of_le (by omega))
theorem dL_quota_0 : decode cL_quota 0 = .ok (.aload_n 0, 1) := by decide +kernel
theorem dL_quota_1 : decode cL_quota 1 = .ok (.iload_n 1, 1) := by decide +kernel
theorem dL_quota_2 : decode cL_quota 2 = .ok (.invokevirtual 58, 3) := by decide +kernel
theorem dL_quota_5 : decode cL_quota 5 = .ok (.ireturn, 1) := by decide +kernel
theorem dL_quota_6 : decode cL_quota 6 = .ok (.astore_n 2, 1) := by decide +kernel
theorem dL_quota_7 : decode cL_quota 7 = .ok (.bipush (-11), 2) := by decide +kernel
theorem dL_quota_9 : decode cL_quota 9 = .ok (.ireturn, 1) := by decide +kernel
theorem mt_L_quota : pm_MtW yL_quota cL_quota 3 (some .int) [(0, 5, 6, 22)] 2 := ⟨pm_T_in 870 (by decide +kernel) (by decide +kernel), pm_T_in 34 (by decide +kernel) (by decide +kernel), ⟨by decide +kernel, by decide +kernel, by decide +kernel⟩, by decide +kernel, by decide⟩
set_option maxHeartbeats 1000000 in
theorem c_L_quota {l : Launch} {z : Nat} {D : va_G} {kA : Nat → ClassId} {kE : Nat → Nat} {nx d2 mc2 ms2 : Nat} {M : pm_M} {x : Int32} {fs : List Value} {P : pm_Po} (hM : M 0 = some (.inr (10, fs))) (hC : pm_C l z D kA kE yX12_quota cX12_quota 2 (some .int) d2 mc2 ms2 [.ref (z + 0), .int x] nx M P)
    (hP : ∀ v n' M1, P (.inl v) n' M1 → ∃ k : Int32, v = some (.int k)) (hE : ∀ E n' M1, P (.inr E) n' M1 → E = "java/lang/IndexOutOfBoundsException") : pm_Cw l z D kA kE yL_quota cL_quota 3 (some .int) [(0, 5, 6, 22)] (d2 + 1) mc2 ms2 [.ref (z + 0), .int x] nx M (pw_wr P [("java/lang/IndexOutOfBoundsException", (-11))]) := by
  refine pm_mkW (own := RL) (nm := "quota") mt_L_quota rfl rfl rfl rfl rfl fun X B => ?_
  refine pm_loc (L' := [some (.ref (z + 0)), some (.int x), none]) rfl ?_
  refine pm_aload_n B dL_quota_0 rfl ?_
  refine pm_iload_n B dL_quota_1 rfl ?_
  refine pm_callV (As := [.int x]) (mc2 := mc2) (ms2 := ms2) (d2 := d2) B rfl hM rfl hC mt_X12_quota sv_L_58 dL_quota_2 rfl (Nat.ble_eq_true_of_le (Nat.le_refl _)) rfl (Nat.ble_eq_true_of_le (by omega)) (Nat.ble_eq_true_of_le (by omega)) (fun E n' M' h => ?_) (fun u n' M' h => ?_)
  · obtain rfl := hE E n' M' h
    refine pm_catch (tgt := 6) B [] ⟨0, 5, 6, 22⟩ [] rfl (fun w hw => by cases hw) rfl (by decide) (pm_T_in 721 (by decide +kernel) (by decide +kernel)) (pm_T_in 58 (by decide +kernel) (by decide +kernel)) rfl (fun q => ?_)
    refine pm_astore_n B dL_quota_6 rfl rfl ?_
    refine pm_bipush (v := (-11)) B dL_quota_7 (by decide) ?_
    exact pm_ireturn B dL_quota_9 rfl rfl ⟨(-11), rfl, Or.inr ⟨("java/lang/IndexOutOfBoundsException", (-11)), by simp, h, rfl⟩⟩ (Nat.ble_eq_true_of_le (by omega)) (Nat.ble_eq_true_of_le (by omega))
  · obtain ⟨k, rfl⟩ := hP u n' M' h
    exact pm_ireturn B dL_quota_5 rfl rfl ⟨k, rfl, Or.inl h⟩ (Nat.ble_eq_true_of_le (by omega)) (Nat.ble_eq_true_of_le (by omega))
theorem dL_sales_0 : decode cL_sales 0 = .ok (.aload_n 0, 1) := by decide +kernel
theorem dL_sales_1 : decode cL_sales 1 = .ok (.iload_n 1, 1) := by decide +kernel
theorem dL_sales_2 : decode cL_sales 2 = .ok (.invokevirtual 61, 3) := by decide +kernel
theorem dL_sales_5 : decode cL_sales 5 = .ok (.ireturn, 1) := by decide +kernel
theorem dL_sales_6 : decode cL_sales 6 = .ok (.astore_n 2, 1) := by decide +kernel
theorem dL_sales_7 : decode cL_sales 7 = .ok (.bipush (-11), 2) := by decide +kernel
theorem dL_sales_9 : decode cL_sales 9 = .ok (.ireturn, 1) := by decide +kernel
theorem mt_L_sales : pm_MtW yL_sales cL_sales 3 (some .int) [(0, 5, 6, 22)] 2 := ⟨pm_T_in 863 (by decide +kernel) (by decide +kernel), pm_T_in 34 (by decide +kernel) (by decide +kernel), ⟨by decide +kernel, by decide +kernel, by decide +kernel⟩, by decide +kernel, by decide⟩
set_option maxHeartbeats 1000000 in
theorem c_L_sales {l : Launch} {z : Nat} {D : va_G} {kA : Nat → ClassId} {kE : Nat → Nat} {nx d2 mc2 ms2 : Nat} {M : pm_M} {x : Int32} {fs : List Value} {P : pm_Po} (hM : M 0 = some (.inr (10, fs))) (hC : pm_C l z D kA kE yX12_sales cX12_sales 2 (some .int) d2 mc2 ms2 [.ref (z + 0), .int x] nx M P)
    (hP : ∀ v n' M1, P (.inl v) n' M1 → ∃ k : Int32, v = some (.int k)) (hE : ∀ E n' M1, P (.inr E) n' M1 → E = "java/lang/IndexOutOfBoundsException") : pm_Cw l z D kA kE yL_sales cL_sales 3 (some .int) [(0, 5, 6, 22)] (d2 + 1) mc2 ms2 [.ref (z + 0), .int x] nx M (pw_wr P [("java/lang/IndexOutOfBoundsException", (-11))]) := by
  refine pm_mkW (own := RL) (nm := "sales") mt_L_sales rfl rfl rfl rfl rfl fun X B => ?_
  refine pm_loc (L' := [some (.ref (z + 0)), some (.int x), none]) rfl ?_
  refine pm_aload_n B dL_sales_0 rfl ?_
  refine pm_iload_n B dL_sales_1 rfl ?_
  refine pm_callV (As := [.int x]) (mc2 := mc2) (ms2 := ms2) (d2 := d2) B rfl hM rfl hC mt_X12_sales sv_L_61 dL_sales_2 rfl (Nat.ble_eq_true_of_le (Nat.le_refl _)) rfl (Nat.ble_eq_true_of_le (by omega)) (Nat.ble_eq_true_of_le (by omega)) (fun E n' M' h => ?_) (fun u n' M' h => ?_)
  · obtain rfl := hE E n' M' h
    refine pm_catch (tgt := 6) B [] ⟨0, 5, 6, 22⟩ [] rfl (fun w hw => by cases hw) rfl (by decide) (pm_T_in 721 (by decide +kernel) (by decide +kernel)) (pm_T_in 58 (by decide +kernel) (by decide +kernel)) rfl (fun q => ?_)
    refine pm_astore_n B dL_sales_6 rfl rfl ?_
    refine pm_bipush (v := (-11)) B dL_sales_7 (by decide) ?_
    exact pm_ireturn B dL_sales_9 rfl rfl ⟨(-11), rfl, Or.inr ⟨("java/lang/IndexOutOfBoundsException", (-11)), by simp, h, rfl⟩⟩ (Nat.ble_eq_true_of_le (by omega)) (Nat.ble_eq_true_of_le (by omega))
  · obtain ⟨k, rfl⟩ := hP u n' M' h
    exact pm_ireturn B dL_sales_5 rfl rfl ⟨k, rfl, Or.inl h⟩ (Nat.ble_eq_true_of_le (by omega)) (Nat.ble_eq_true_of_le (by omega))
theorem dL_excess_0 : decode cL_excess 0 = .ok (.aload_n 0, 1) := by decide +kernel
theorem dL_excess_1 : decode cL_excess 1 = .ok (.iload_n 1, 1) := by decide +kernel
theorem dL_excess_2 : decode cL_excess 2 = .ok (.invokevirtual 64, 3) := by decide +kernel
theorem dL_excess_5 : decode cL_excess 5 = .ok (.ireturn, 1) := by decide +kernel
theorem dL_excess_6 : decode cL_excess 6 = .ok (.astore_n 2, 1) := by decide +kernel
theorem dL_excess_7 : decode cL_excess 7 = .ok (.bipush (-11), 2) := by decide +kernel
theorem dL_excess_9 : decode cL_excess 9 = .ok (.ireturn, 1) := by decide +kernel
theorem mt_L_excess : pm_MtW yL_excess cL_excess 3 (some .int) [(0, 5, 6, 22)] 2 := ⟨pm_T_in 909 (by decide +kernel) (by decide +kernel), pm_T_in 34 (by decide +kernel) (by decide +kernel), ⟨by decide +kernel, by decide +kernel, by decide +kernel⟩, by decide +kernel, by decide⟩
set_option maxHeartbeats 1000000 in
theorem c_L_excess {l : Launch} {z : Nat} {D : va_G} {kA : Nat → ClassId} {kE : Nat → Nat} {nx d2 mc2 ms2 : Nat} {M : pm_M} {x : Int32} {fs : List Value} {P : pm_Po} (hM : M 0 = some (.inr (10, fs))) (hC : pm_C l z D kA kE yX12_excess cX12_excess 2 (some .int) d2 mc2 ms2 [.ref (z + 0), .int x] nx M P)
    (hP : ∀ v n' M1, P (.inl v) n' M1 → ∃ k : Int32, v = some (.int k)) (hE : ∀ E n' M1, P (.inr E) n' M1 → E = "java/lang/IndexOutOfBoundsException") : pm_Cw l z D kA kE yL_excess cL_excess 3 (some .int) [(0, 5, 6, 22)] (d2 + 1) mc2 ms2 [.ref (z + 0), .int x] nx M (pw_wr P [("java/lang/IndexOutOfBoundsException", (-11))]) := by
  refine pm_mkW (own := RL) (nm := "excess") mt_L_excess rfl rfl rfl rfl rfl fun X B => ?_
  refine pm_loc (L' := [some (.ref (z + 0)), some (.int x), none]) rfl ?_
  refine pm_aload_n B dL_excess_0 rfl ?_
  refine pm_iload_n B dL_excess_1 rfl ?_
  refine pm_callV (As := [.int x]) (mc2 := mc2) (ms2 := ms2) (d2 := d2) B rfl hM rfl hC mt_X12_excess sv_L_64 dL_excess_2 rfl (Nat.ble_eq_true_of_le (Nat.le_refl _)) rfl (Nat.ble_eq_true_of_le (by omega)) (Nat.ble_eq_true_of_le (by omega)) (fun E n' M' h => ?_) (fun u n' M' h => ?_)
  · obtain rfl := hE E n' M' h
    refine pm_catch (tgt := 6) B [] ⟨0, 5, 6, 22⟩ [] rfl (fun w hw => by cases hw) rfl (by decide) (pm_T_in 721 (by decide +kernel) (by decide +kernel)) (pm_T_in 58 (by decide +kernel) (by decide +kernel)) rfl (fun q => ?_)
    refine pm_astore_n B dL_excess_6 rfl rfl ?_
    refine pm_bipush (v := (-11)) B dL_excess_7 (by decide) ?_
    exact pm_ireturn B dL_excess_9 rfl rfl ⟨(-11), rfl, Or.inr ⟨("java/lang/IndexOutOfBoundsException", (-11)), by simp, h, rfl⟩⟩ (Nat.ble_eq_true_of_le (by omega)) (Nat.ble_eq_true_of_le (by omega))
  · obtain ⟨k, rfl⟩ := hP u n' M' h
    exact pm_ireturn B dL_excess_5 rfl rfl ⟨k, rfl, Or.inl h⟩ (Nat.ble_eq_true_of_le (by omega)) (Nat.ble_eq_true_of_le (by omega))
theorem dL_audit_0 : decode cL_audit 0 = .ok (.aload_n 0, 1) := by decide +kernel
theorem dL_audit_1 : decode cL_audit 1 = .ok (.iload_n 1, 1) := by decide +kernel
theorem dL_audit_2 : decode cL_audit 2 = .ok (.invokevirtual 67, 3) := by decide +kernel
theorem dL_audit_5 : decode cL_audit 5 = .ok (.ireturn, 1) := by decide +kernel
theorem dL_audit_6 : decode cL_audit 6 = .ok (.astore_n 2, 1) := by decide +kernel
theorem dL_audit_7 : decode cL_audit 7 = .ok (.iconst (-1), 1) := by decide +kernel
theorem dL_audit_8 : decode cL_audit 8 = .ok (.ireturn, 1) := by decide +kernel
theorem dL_audit_9 : decode cL_audit 9 = .ok (.astore_n 2, 1) := by decide +kernel
theorem dL_audit_10 : decode cL_audit 10 = .ok (.bipush (-2), 2) := by decide +kernel
theorem dL_audit_12 : decode cL_audit 12 = .ok (.ireturn, 1) := by decide +kernel
theorem mt_L_audit : pm_MtW yL_audit cL_audit 3 (some .int) [(0, 5, 6, 14), (0, 5, 9, 16)] 2 := ⟨pm_T_in 759 (by decide +kernel) (by decide +kernel), pm_T_in 34 (by decide +kernel) (by decide +kernel), ⟨by decide +kernel, by decide +kernel, by decide +kernel⟩, by decide +kernel, by decide⟩
set_option maxHeartbeats 1000000 in
theorem c_L_audit {l : Launch} {z : Nat} {D : va_G} {kA : Nat → ClassId} {kE : Nat → Nat} {nx d2 mc2 ms2 : Nat} {M : pm_M} {x : Int32} {fs : List Value} {P : pm_Po} (hM : M 0 = some (.inr (10, fs))) (hC : pm_C l z D kA kE yX12_audit cX12_audit 2 (some .int) d2 mc2 ms2 [.ref (z + 0), .int x] nx M P)
    (hP : ∀ v n' M1, P (.inl v) n' M1 → ∃ k : Int32, v = some (.int k)) (hE : ∀ E n' M1, P (.inr E) n' M1 → E = "java/lang/IllegalArgumentException" ∨ E = "java/lang/UnsupportedOperationException") : pm_Cw l z D kA kE yL_audit cL_audit 3 (some .int) [(0, 5, 6, 14), (0, 5, 9, 16)] (d2 + 1) mc2 ms2 [.ref (z + 0), .int x] nx M (pw_wr P [("java/lang/IllegalArgumentException", (-1)), ("java/lang/UnsupportedOperationException", (-2))]) := by
  refine pm_mkW (own := RL) (nm := "audit") mt_L_audit rfl rfl rfl rfl rfl fun X B => ?_
  refine pm_loc (L' := [some (.ref (z + 0)), some (.int x), none]) rfl ?_
  refine pm_aload_n B dL_audit_0 rfl ?_
  refine pm_iload_n B dL_audit_1 rfl ?_
  refine pm_callV (As := [.int x]) (mc2 := mc2) (ms2 := ms2) (d2 := d2) B rfl hM rfl hC mt_X12_audit sv_L_67 dL_audit_2 rfl (Nat.ble_eq_true_of_le (Nat.le_refl _)) rfl (Nat.ble_eq_true_of_le (by omega)) (Nat.ble_eq_true_of_le (by omega)) (fun E n' M' h => ?_) (fun u n' M' h => ?_)
  · rcases hE E n' M' h with rfl | rfl
    · refine pm_catch (tgt := 6) B [] ⟨0, 5, 6, 14⟩ [⟨0, 5, 9, 16⟩] rfl (fun w hw => by cases hw) rfl (by decide) (pm_T_in 380 (by decide +kernel) (by decide +kernel)) (pm_T_in 59 (by decide +kernel) (by decide +kernel)) rfl (fun q => ?_)
      refine pm_astore_n B dL_audit_6 rfl rfl ?_
      refine pm_iconst (v := (-1)) B dL_audit_7 (by decide) ?_
      exact pm_ireturn B dL_audit_8 rfl rfl ⟨(-1), rfl, Or.inr ⟨("java/lang/IllegalArgumentException", (-1)), by simp, h, rfl⟩⟩ (Nat.ble_eq_true_of_le (by omega)) (Nat.ble_eq_true_of_le (by omega))
    · refine pm_catch (tgt := 9) B [⟨0, 5, 6, 14⟩] ⟨0, 5, 9, 16⟩ [] rfl (fun w hw => by
          simp only [List.mem_cons, List.not_mem_nil, or_false] at hw
          rcases hw with rfl <;> first | exact Or.inr ⟨by decide, "java/lang/IllegalArgumentException", pm_T_in 380 (by decide +kernel) (by decide +kernel), by decide +kernel⟩) rfl (by decide) (pm_T_in 381 (by decide +kernel) (by decide +kernel)) (pm_T_in 60 (by decide +kernel) (by decide +kernel)) rfl (fun q => ?_)
      refine pm_astore_n B dL_audit_9 rfl rfl ?_
      refine pm_bipush (v := (-2)) B dL_audit_10 (by decide) ?_
      exact pm_ireturn B dL_audit_12 rfl rfl ⟨(-2), rfl, Or.inr ⟨("java/lang/UnsupportedOperationException", (-2)), by simp, h, rfl⟩⟩ (Nat.ble_eq_true_of_le (by omega)) (Nat.ble_eq_true_of_le (by omega))
  · obtain ⟨k, rfl⟩ := hP u n' M' h
    exact pm_ireturn B dL_audit_5 rfl rfl ⟨k, rfl, Or.inl h⟩ (Nat.ble_eq_true_of_le (by omega)) (Nat.ble_eq_true_of_le (by omega))
theorem dL_setSeed_0 : decode cL_setSeed 0 = .ok (.aload_n 0, 1) := by decide +kernel
theorem dL_setSeed_1 : decode cL_setSeed 1 = .ok (.iload_n 1, 1) := by decide +kernel
theorem dL_setSeed_2 : decode cL_setSeed 2 = .ok (.invokevirtual 70, 3) := by decide +kernel
theorem dL_setSeed_5 : decode cL_setSeed 5 = .ok (.ireturn, 1) := by decide +kernel
theorem dL_setSeed_6 : decode cL_setSeed 6 = .ok (.astore_n 2, 1) := by decide +kernel
theorem dL_setSeed_7 : decode cL_setSeed 7 = .ok (.iconst (-1), 1) := by decide +kernel
theorem dL_setSeed_8 : decode cL_setSeed 8 = .ok (.ireturn, 1) := by decide +kernel
theorem mt_L_setSeed : pm_MtW yL_setSeed cL_setSeed 3 (some .int) [(0, 5, 6, 14)] 2 := ⟨pm_T_in 711 (by decide +kernel) (by decide +kernel), pm_T_in 34 (by decide +kernel) (by decide +kernel), ⟨by decide +kernel, by decide +kernel, by decide +kernel⟩, by decide +kernel, by decide⟩
set_option maxHeartbeats 1000000 in
theorem c_L_setSeed {l : Launch} {z : Nat} {D : va_G} {kA : Nat → ClassId} {kE : Nat → Nat} {nx d2 mc2 ms2 : Nat} {M : pm_M} {x : Int32} {fs : List Value} {P : pm_Po} (hM : M 0 = some (.inr (10, fs))) (hC : pm_C l z D kA kE yX12_setSeed cX12_setSeed 2 (some .int) d2 mc2 ms2 [.ref (z + 0), .int x] nx M P)
    (hP : ∀ v n' M1, P (.inl v) n' M1 → ∃ k : Int32, v = some (.int k)) (hE : ∀ E n' M1, P (.inr E) n' M1 → E = "java/lang/IllegalArgumentException") : pm_Cw l z D kA kE yL_setSeed cL_setSeed 3 (some .int) [(0, 5, 6, 14)] (d2 + 1) mc2 ms2 [.ref (z + 0), .int x] nx M (pw_wr P [("java/lang/IllegalArgumentException", (-1))]) := by
  refine pm_mkW (own := RL) (nm := "setSeed") mt_L_setSeed rfl rfl rfl rfl rfl fun X B => ?_
  refine pm_loc (L' := [some (.ref (z + 0)), some (.int x), none]) rfl ?_
  refine pm_aload_n B dL_setSeed_0 rfl ?_
  refine pm_iload_n B dL_setSeed_1 rfl ?_
  refine pm_callV (As := [.int x]) (mc2 := mc2) (ms2 := ms2) (d2 := d2) B rfl hM rfl hC mt_X12_setSeed sv_L_70 dL_setSeed_2 rfl (Nat.ble_eq_true_of_le (Nat.le_refl _)) rfl (Nat.ble_eq_true_of_le (by omega)) (Nat.ble_eq_true_of_le (by omega)) (fun E n' M' h => ?_) (fun u n' M' h => ?_)
  · obtain rfl := hE E n' M' h
    refine pm_catch (tgt := 6) B [] ⟨0, 5, 6, 14⟩ [] rfl (fun w hw => by cases hw) rfl (by decide) (pm_T_in 380 (by decide +kernel) (by decide +kernel)) (pm_T_in 59 (by decide +kernel) (by decide +kernel)) rfl (fun q => ?_)
    refine pm_astore_n B dL_setSeed_6 rfl rfl ?_
    refine pm_iconst (v := (-1)) B dL_setSeed_7 (by decide) ?_
    exact pm_ireturn B dL_setSeed_8 rfl rfl ⟨(-1), rfl, Or.inr ⟨("java/lang/IllegalArgumentException", (-1)), by simp, h, rfl⟩⟩ (Nat.ble_eq_true_of_le (by omega)) (Nat.ble_eq_true_of_le (by omega))
  · obtain ⟨k, rfl⟩ := hP u n' M' h
    exact pm_ireturn B dL_setSeed_5 rfl rfl ⟨k, rfl, Or.inl h⟩ (Nat.ble_eq_true_of_le (by omega)) (Nat.ble_eq_true_of_le (by omega))
theorem dL_drawnAt_0 : decode cL_drawnAt 0 = .ok (.aload_n 0, 1) := by decide +kernel
theorem dL_drawnAt_1 : decode cL_drawnAt 1 = .ok (.iload_n 1, 1) := by decide +kernel
theorem dL_drawnAt_2 : decode cL_drawnAt 2 = .ok (.invokevirtual 73, 3) := by decide +kernel
theorem dL_drawnAt_5 : decode cL_drawnAt 5 = .ok (.ireturn, 1) := by decide +kernel
theorem dL_drawnAt_6 : decode cL_drawnAt 6 = .ok (.astore_n 2, 1) := by decide +kernel
theorem dL_drawnAt_7 : decode cL_drawnAt 7 = .ok (.bipush (-13), 2) := by decide +kernel
theorem dL_drawnAt_9 : decode cL_drawnAt 9 = .ok (.ireturn, 1) := by decide +kernel
theorem mt_L_drawnAt : pm_MtW yL_drawnAt cL_drawnAt 3 (some .int) [(0, 5, 6, 37)] 2 := ⟨pm_T_in 900 (by decide +kernel) (by decide +kernel), pm_T_in 34 (by decide +kernel) (by decide +kernel), ⟨by decide +kernel, by decide +kernel, by decide +kernel⟩, by decide +kernel, by decide⟩
set_option maxHeartbeats 1000000 in
theorem c_L_drawnAt {l : Launch} {z : Nat} {D : va_G} {kA : Nat → ClassId} {kE : Nat → Nat} {nx d2 mc2 ms2 : Nat} {M : pm_M} {x : Int32} {fs : List Value} {P : pm_Po} (hM : M 0 = some (.inr (10, fs))) (hC : pm_C l z D kA kE yX12_drawnMember cX12_drawnMember 2 (some .int) d2 mc2 ms2 [.ref (z + 0), .int x] nx M P)
    (hP : ∀ v n' M1, P (.inl v) n' M1 → ∃ k : Int32, v = some (.int k)) (hE : ∀ E n' M1, P (.inr E) n' M1 → E = "java/util/NoSuchElementException") : pm_Cw l z D kA kE yL_drawnAt cL_drawnAt 3 (some .int) [(0, 5, 6, 37)] (d2 + 1) mc2 ms2 [.ref (z + 0), .int x] nx M (pw_wr P [("java/util/NoSuchElementException", (-13))]) := by
  refine pm_mkW (own := RL) (nm := "drawnAt") mt_L_drawnAt rfl rfl rfl rfl rfl fun X B => ?_
  refine pm_loc (L' := [some (.ref (z + 0)), some (.int x), none]) rfl ?_
  refine pm_aload_n B dL_drawnAt_0 rfl ?_
  refine pm_iload_n B dL_drawnAt_1 rfl ?_
  refine pm_callV (As := [.int x]) (mc2 := mc2) (ms2 := ms2) (d2 := d2) B rfl hM rfl hC mt_X12_drawnMember sv_L_73 dL_drawnAt_2 rfl (Nat.ble_eq_true_of_le (Nat.le_refl _)) rfl (Nat.ble_eq_true_of_le (by omega)) (Nat.ble_eq_true_of_le (by omega)) (fun E n' M' h => ?_) (fun u n' M' h => ?_)
  · obtain rfl := hE E n' M' h
    refine pm_catch (tgt := 6) B [] ⟨0, 5, 6, 37⟩ [] rfl (fun w hw => by cases hw) rfl (by decide) (pm_T_in 832 (by decide +kernel) (by decide +kernel)) (pm_T_in 64 (by decide +kernel) (by decide +kernel)) rfl (fun q => ?_)
    refine pm_astore_n B dL_drawnAt_6 rfl rfl ?_
    refine pm_bipush (v := (-13)) B dL_drawnAt_7 (by decide) ?_
    exact pm_ireturn B dL_drawnAt_9 rfl rfl ⟨(-13), rfl, Or.inr ⟨("java/util/NoSuchElementException", (-13)), by simp, h, rfl⟩⟩ (Nat.ble_eq_true_of_le (by omega)) (Nat.ble_eq_true_of_le (by omega))
  · obtain ⟨k, rfl⟩ := hP u n' M' h
    exact pm_ireturn B dL_drawnAt_5 rfl rfl ⟨k, rfl, Or.inl h⟩ (Nat.ble_eq_true_of_le (by omega)) (Nat.ble_eq_true_of_le (by omega))
theorem dL_link_0 : decode cL_link 0 = .ok (.aload_n 0, 1) := by decide +kernel
theorem dL_link_1 : decode cL_link 1 = .ok (.iload_n 1, 1) := by decide +kernel
theorem dL_link_2 : decode cL_link 2 = .ok (.iload_n 2, 1) := by decide +kernel
theorem dL_link_3 : decode cL_link 3 = .ok (.invokevirtual 76, 3) := by decide +kernel
theorem dL_link_6 : decode cL_link 6 = .ok (.ireturn, 1) := by decide +kernel
theorem dL_link_7 : decode cL_link 7 = .ok (.astore_n 3, 1) := by decide +kernel
theorem dL_link_8 : decode cL_link 8 = .ok (.iconst (-1), 1) := by decide +kernel
theorem dL_link_9 : decode cL_link 9 = .ok (.ireturn, 1) := by decide +kernel
theorem dL_link_10 : decode cL_link 10 = .ok (.astore_n 3, 1) := by decide +kernel
theorem dL_link_11 : decode cL_link 11 = .ok (.bipush (-2), 2) := by decide +kernel
theorem dL_link_13 : decode cL_link 13 = .ok (.ireturn, 1) := by decide +kernel
theorem dL_link_14 : decode cL_link 14 = .ok (.astore_n 3, 1) := by decide +kernel
theorem dL_link_15 : decode cL_link 15 = .ok (.bipush (-3), 2) := by decide +kernel
theorem dL_link_17 : decode cL_link 17 = .ok (.ireturn, 1) := by decide +kernel
theorem mt_L_link : pm_MtW yL_link cL_link 4 (some .int) [(0, 6, 7, 22), (0, 6, 10, 14), (0, 6, 14, 16)] 3 := ⟨pm_T_in 783 (by decide +kernel) (by decide +kernel), pm_T_in 34 (by decide +kernel) (by decide +kernel), ⟨by decide +kernel, by decide +kernel, by decide +kernel⟩, by decide +kernel, by decide⟩
set_option maxHeartbeats 1000000 in
theorem c_L_link {l : Launch} {z : Nat} {D : va_G} {kA : Nat → ClassId} {kE : Nat → Nat} {nx d2 mc2 ms2 : Nat} {M : pm_M} {x y : Int32} {fs : List Value} {P : pm_Po} (hM : M 0 = some (.inr (10, fs))) (hC : pm_C l z D kA kE yX12_link cX12_link 3 (some .int) d2 mc2 ms2 [.ref (z + 0), .int x, .int y] nx M P)
    (hP : ∀ v n' M1, P (.inl v) n' M1 → ∃ k : Int32, v = some (.int k)) (hE : ∀ E n' M1, P (.inr E) n' M1 → E = "java/lang/IndexOutOfBoundsException" ∨ E = "java/lang/IllegalArgumentException" ∨ E = "java/lang/UnsupportedOperationException") : pm_Cw l z D kA kE yL_link cL_link 4 (some .int) [(0, 6, 7, 22), (0, 6, 10, 14), (0, 6, 14, 16)] (d2 + 1) mc2 ms2 [.ref (z + 0), .int x, .int y] nx M (pw_wr P [("java/lang/IndexOutOfBoundsException", (-1)), ("java/lang/IllegalArgumentException", (-2)), ("java/lang/UnsupportedOperationException", (-3))]) := by
  refine pm_mkW (own := RL) (nm := "link") mt_L_link rfl rfl rfl rfl rfl fun X B => ?_
  refine pm_loc (L' := [some (.ref (z + 0)), some (.int x), some (.int y), none]) rfl ?_
  refine pm_aload_n B dL_link_0 rfl ?_
  refine pm_iload_n B dL_link_1 rfl ?_
  refine pm_iload_n B dL_link_2 rfl ?_
  refine pm_callV (As := [.int x, .int y]) (mc2 := mc2) (ms2 := ms2) (d2 := d2) B rfl hM rfl hC mt_X12_link sv_L_76 dL_link_3 rfl (Nat.ble_eq_true_of_le (Nat.le_refl _)) rfl (Nat.ble_eq_true_of_le (by omega)) (Nat.ble_eq_true_of_le (by omega)) (fun E n' M' h => ?_) (fun u n' M' h => ?_)
  · rcases hE E n' M' h with rfl | rfl | rfl
    · refine pm_catch (tgt := 7) B [] ⟨0, 6, 7, 22⟩ [⟨0, 6, 10, 14⟩, ⟨0, 6, 14, 16⟩] rfl (fun w hw => by cases hw) rfl (by decide) (pm_T_in 721 (by decide +kernel) (by decide +kernel)) (pm_T_in 58 (by decide +kernel) (by decide +kernel)) rfl (fun q => ?_)
      refine pm_astore_n B dL_link_7 rfl rfl ?_
      refine pm_iconst (v := (-1)) B dL_link_8 (by decide) ?_
      exact pm_ireturn B dL_link_9 rfl rfl ⟨(-1), rfl, Or.inr ⟨("java/lang/IndexOutOfBoundsException", (-1)), by simp, h, rfl⟩⟩ (Nat.ble_eq_true_of_le (by omega)) (Nat.ble_eq_true_of_le (by omega))
    · refine pm_catch (tgt := 10) B [⟨0, 6, 7, 22⟩] ⟨0, 6, 10, 14⟩ [⟨0, 6, 14, 16⟩] rfl (fun w hw => by
          simp only [List.mem_cons, List.not_mem_nil, or_false] at hw
          rcases hw with rfl <;> first | exact Or.inr ⟨by decide, "java/lang/IndexOutOfBoundsException", pm_T_in 721 (by decide +kernel) (by decide +kernel), by decide +kernel⟩) rfl (by decide) (pm_T_in 380 (by decide +kernel) (by decide +kernel)) (pm_T_in 59 (by decide +kernel) (by decide +kernel)) rfl (fun q => ?_)
      refine pm_astore_n B dL_link_10 rfl rfl ?_
      refine pm_bipush (v := (-2)) B dL_link_11 (by decide) ?_
      exact pm_ireturn B dL_link_13 rfl rfl ⟨(-2), rfl, Or.inr ⟨("java/lang/IllegalArgumentException", (-2)), by simp, h, rfl⟩⟩ (Nat.ble_eq_true_of_le (by omega)) (Nat.ble_eq_true_of_le (by omega))
    · refine pm_catch (tgt := 14) B [⟨0, 6, 7, 22⟩, ⟨0, 6, 10, 14⟩] ⟨0, 6, 14, 16⟩ [] rfl (fun w hw => by
          simp only [List.mem_cons, List.not_mem_nil, or_false] at hw
          rcases hw with rfl | rfl <;> first | exact Or.inr ⟨by decide, "java/lang/IndexOutOfBoundsException", pm_T_in 721 (by decide +kernel) (by decide +kernel), by decide +kernel⟩ | exact Or.inr ⟨by decide, "java/lang/IllegalArgumentException", pm_T_in 380 (by decide +kernel) (by decide +kernel), by decide +kernel⟩) rfl (by decide) (pm_T_in 381 (by decide +kernel) (by decide +kernel)) (pm_T_in 60 (by decide +kernel) (by decide +kernel)) rfl (fun q => ?_)
      refine pm_astore_n B dL_link_14 rfl rfl ?_
      refine pm_bipush (v := (-3)) B dL_link_15 (by decide) ?_
      exact pm_ireturn B dL_link_17 rfl rfl ⟨(-3), rfl, Or.inr ⟨("java/lang/UnsupportedOperationException", (-3)), by simp, h, rfl⟩⟩ (Nat.ble_eq_true_of_le (by omega)) (Nat.ble_eq_true_of_le (by omega))
  · obtain ⟨k, rfl⟩ := hP u n' M' h
    exact pm_ireturn B dL_link_6 rfl rfl ⟨k, rfl, Or.inl h⟩ (Nat.ble_eq_true_of_le (by omega)) (Nat.ble_eq_true_of_le (by omega))
theorem dL_unlink_0 : decode cL_unlink 0 = .ok (.aload_n 0, 1) := by decide +kernel
theorem dL_unlink_1 : decode cL_unlink 1 = .ok (.iload_n 1, 1) := by decide +kernel
theorem dL_unlink_2 : decode cL_unlink 2 = .ok (.iload_n 2, 1) := by decide +kernel
theorem dL_unlink_3 : decode cL_unlink 3 = .ok (.invokevirtual 79, 3) := by decide +kernel
theorem dL_unlink_6 : decode cL_unlink 6 = .ok (.ireturn, 1) := by decide +kernel
theorem dL_unlink_7 : decode cL_unlink 7 = .ok (.astore_n 3, 1) := by decide +kernel
theorem dL_unlink_8 : decode cL_unlink 8 = .ok (.iconst (-1), 1) := by decide +kernel
theorem dL_unlink_9 : decode cL_unlink 9 = .ok (.ireturn, 1) := by decide +kernel
theorem dL_unlink_10 : decode cL_unlink 10 = .ok (.astore_n 3, 1) := by decide +kernel
theorem dL_unlink_11 : decode cL_unlink 11 = .ok (.bipush (-2), 2) := by decide +kernel
theorem dL_unlink_13 : decode cL_unlink 13 = .ok (.ireturn, 1) := by decide +kernel
theorem dL_unlink_14 : decode cL_unlink 14 = .ok (.astore_n 3, 1) := by decide +kernel
theorem dL_unlink_15 : decode cL_unlink 15 = .ok (.bipush (-3), 2) := by decide +kernel
theorem dL_unlink_17 : decode cL_unlink 17 = .ok (.ireturn, 1) := by decide +kernel
theorem mt_L_unlink : pm_MtW yL_unlink cL_unlink 4 (some .int) [(0, 6, 7, 22), (0, 6, 10, 14), (0, 6, 14, 16)] 3 := ⟨pm_T_in 1529 (by decide +kernel) (by decide +kernel), pm_T_in 34 (by decide +kernel) (by decide +kernel), ⟨by decide +kernel, by decide +kernel, by decide +kernel⟩, by decide +kernel, by decide⟩
set_option maxHeartbeats 1000000 in
theorem c_L_unlink {l : Launch} {z : Nat} {D : va_G} {kA : Nat → ClassId} {kE : Nat → Nat} {nx d2 mc2 ms2 : Nat} {M : pm_M} {x y : Int32} {fs : List Value} {P : pm_Po} (hM : M 0 = some (.inr (10, fs))) (hC : pm_C l z D kA kE yX12_unlink cX12_unlink 3 (some .int) d2 mc2 ms2 [.ref (z + 0), .int x, .int y] nx M P)
    (hP : ∀ v n' M1, P (.inl v) n' M1 → ∃ k : Int32, v = some (.int k)) (hE : ∀ E n' M1, P (.inr E) n' M1 → E = "java/lang/IndexOutOfBoundsException" ∨ E = "java/lang/IllegalArgumentException" ∨ E = "java/lang/UnsupportedOperationException") : pm_Cw l z D kA kE yL_unlink cL_unlink 4 (some .int) [(0, 6, 7, 22), (0, 6, 10, 14), (0, 6, 14, 16)] (d2 + 1) mc2 ms2 [.ref (z + 0), .int x, .int y] nx M (pw_wr P [("java/lang/IndexOutOfBoundsException", (-1)), ("java/lang/IllegalArgumentException", (-2)), ("java/lang/UnsupportedOperationException", (-3))]) := by
  refine pm_mkW (own := RL) (nm := "unlink") mt_L_unlink rfl rfl rfl rfl rfl fun X B => ?_
  refine pm_loc (L' := [some (.ref (z + 0)), some (.int x), some (.int y), none]) rfl ?_
  refine pm_aload_n B dL_unlink_0 rfl ?_
  refine pm_iload_n B dL_unlink_1 rfl ?_
  refine pm_iload_n B dL_unlink_2 rfl ?_
  refine pm_callV (As := [.int x, .int y]) (mc2 := mc2) (ms2 := ms2) (d2 := d2) B rfl hM rfl hC mt_X12_unlink sv_L_79 dL_unlink_3 rfl (Nat.ble_eq_true_of_le (Nat.le_refl _)) rfl (Nat.ble_eq_true_of_le (by omega)) (Nat.ble_eq_true_of_le (by omega)) (fun E n' M' h => ?_) (fun u n' M' h => ?_)
  · rcases hE E n' M' h with rfl | rfl | rfl
    · refine pm_catch (tgt := 7) B [] ⟨0, 6, 7, 22⟩ [⟨0, 6, 10, 14⟩, ⟨0, 6, 14, 16⟩] rfl (fun w hw => by cases hw) rfl (by decide) (pm_T_in 721 (by decide +kernel) (by decide +kernel)) (pm_T_in 58 (by decide +kernel) (by decide +kernel)) rfl (fun q => ?_)
      refine pm_astore_n B dL_unlink_7 rfl rfl ?_
      refine pm_iconst (v := (-1)) B dL_unlink_8 (by decide) ?_
      exact pm_ireturn B dL_unlink_9 rfl rfl ⟨(-1), rfl, Or.inr ⟨("java/lang/IndexOutOfBoundsException", (-1)), by simp, h, rfl⟩⟩ (Nat.ble_eq_true_of_le (by omega)) (Nat.ble_eq_true_of_le (by omega))
    · refine pm_catch (tgt := 10) B [⟨0, 6, 7, 22⟩] ⟨0, 6, 10, 14⟩ [⟨0, 6, 14, 16⟩] rfl (fun w hw => by
          simp only [List.mem_cons, List.not_mem_nil, or_false] at hw
          rcases hw with rfl <;> first | exact Or.inr ⟨by decide, "java/lang/IndexOutOfBoundsException", pm_T_in 721 (by decide +kernel) (by decide +kernel), by decide +kernel⟩) rfl (by decide) (pm_T_in 380 (by decide +kernel) (by decide +kernel)) (pm_T_in 59 (by decide +kernel) (by decide +kernel)) rfl (fun q => ?_)
      refine pm_astore_n B dL_unlink_10 rfl rfl ?_
      refine pm_bipush (v := (-2)) B dL_unlink_11 (by decide) ?_
      exact pm_ireturn B dL_unlink_13 rfl rfl ⟨(-2), rfl, Or.inr ⟨("java/lang/IllegalArgumentException", (-2)), by simp, h, rfl⟩⟩ (Nat.ble_eq_true_of_le (by omega)) (Nat.ble_eq_true_of_le (by omega))
    · refine pm_catch (tgt := 14) B [⟨0, 6, 7, 22⟩, ⟨0, 6, 10, 14⟩] ⟨0, 6, 14, 16⟩ [] rfl (fun w hw => by
          simp only [List.mem_cons, List.not_mem_nil, or_false] at hw
          rcases hw with rfl | rfl <;> first | exact Or.inr ⟨by decide, "java/lang/IndexOutOfBoundsException", pm_T_in 721 (by decide +kernel) (by decide +kernel), by decide +kernel⟩ | exact Or.inr ⟨by decide, "java/lang/IllegalArgumentException", pm_T_in 380 (by decide +kernel) (by decide +kernel), by decide +kernel⟩) rfl (by decide) (pm_T_in 381 (by decide +kernel) (by decide +kernel)) (pm_T_in 60 (by decide +kernel) (by decide +kernel)) rfl (fun q => ?_)
      refine pm_astore_n B dL_unlink_14 rfl rfl ?_
      refine pm_bipush (v := (-3)) B dL_unlink_15 (by decide) ?_
      exact pm_ireturn B dL_unlink_17 rfl rfl ⟨(-3), rfl, Or.inr ⟨("java/lang/UnsupportedOperationException", (-3)), by simp, h, rfl⟩⟩ (Nat.ble_eq_true_of_le (by omega)) (Nat.ble_eq_true_of_le (by omega))
  · obtain ⟨k, rfl⟩ := hP u n' M' h
    exact pm_ireturn B dL_unlink_6 rfl rfl ⟨k, rfl, Or.inl h⟩ (Nat.ble_eq_true_of_le (by omega)) (Nat.ble_eq_true_of_le (by omega))
theorem dL_areLinked_0 : decode cL_areLinked 0 = .ok (.aload_n 0, 1) := by decide +kernel
theorem dL_areLinked_1 : decode cL_areLinked 1 = .ok (.iload_n 1, 1) := by decide +kernel
theorem dL_areLinked_2 : decode cL_areLinked 2 = .ok (.iload_n 2, 1) := by decide +kernel
theorem dL_areLinked_3 : decode cL_areLinked 3 = .ok (.invokevirtual 82, 3) := by decide +kernel
theorem dL_areLinked_6 : decode cL_areLinked 6 = .ok (.ifCond .eq 7, 3) := by decide +kernel
theorem dL_areLinked_9 : decode cL_areLinked 9 = .ok (.iconst 1, 1) := by decide +kernel
theorem dL_areLinked_10 : decode cL_areLinked 10 = .ok (.goto 4, 3) := by decide +kernel
theorem dL_areLinked_13 : decode cL_areLinked 13 = .ok (.iconst 0, 1) := by decide +kernel
theorem dL_areLinked_14 : decode cL_areLinked 14 = .ok (.ireturn, 1) := by decide +kernel
theorem dL_areLinked_15 : decode cL_areLinked 15 = .ok (.astore_n 3, 1) := by decide +kernel
theorem dL_areLinked_16 : decode cL_areLinked 16 = .ok (.bipush (-11), 2) := by decide +kernel
theorem dL_areLinked_18 : decode cL_areLinked 18 = .ok (.ireturn, 1) := by decide +kernel
theorem mt_L_areLinked : pm_MtW yL_areLinked cL_areLinked 4 (some .int) [(0, 14, 15, 22)] 3 := ⟨pm_T_in 992 (by decide +kernel) (by decide +kernel), pm_T_in 34 (by decide +kernel) (by decide +kernel), ⟨by decide +kernel, by decide +kernel, by decide +kernel⟩, by decide +kernel, by decide⟩
set_option maxHeartbeats 1000000 in
theorem c_L_areLinked {l : Launch} {z : Nat} {D : va_G} {kA : Nat → ClassId} {kE : Nat → Nat} {nx d2 mc2 ms2 : Nat} {M : pm_M} {x y : Int32} {fs : List Value} {P : pm_Po} (hM : M 0 = some (.inr (10, fs))) (hC : pm_C l z D kA kE yX12_areLinked cX12_areLinked 3 (some .boolean) d2 mc2 ms2 [.ref (z + 0), .int x, .int y] nx M P)
    (hP : ∀ v n' M1, P (.inl v) n' M1 → ∃ k : Int32, v = some (.int k) ∧ (k = 0 ∨ k = 1)) (hE : ∀ E n' M1, P (.inr E) n' M1 → E = "java/lang/IndexOutOfBoundsException") : pm_Cw l z D kA kE yL_areLinked cL_areLinked 4 (some .int) [(0, 14, 15, 22)] (d2 + 1) mc2 ms2 [.ref (z + 0), .int x, .int y] nx M (pw_wr P [("java/lang/IndexOutOfBoundsException", (-11))]) := by
  refine pm_mkW (own := RL) (nm := "areLinked") mt_L_areLinked rfl rfl rfl rfl rfl fun X B => ?_
  refine pm_loc (L' := [some (.ref (z + 0)), some (.int x), some (.int y), none]) rfl ?_
  refine pm_aload_n B dL_areLinked_0 rfl ?_
  refine pm_iload_n B dL_areLinked_1 rfl ?_
  refine pm_iload_n B dL_areLinked_2 rfl ?_
  refine pm_callV (As := [.int x, .int y]) (mc2 := mc2) (ms2 := ms2) (d2 := d2) B rfl hM rfl hC mt_X12_areLinked sv_L_82 dL_areLinked_3 rfl (Nat.ble_eq_true_of_le (Nat.le_refl _)) rfl (Nat.ble_eq_true_of_le (by omega)) (Nat.ble_eq_true_of_le (by omega)) (fun E n' M' h => ?_) (fun u n' M' h => ?_)
  · obtain rfl := hE E n' M' h
    refine pm_catch (tgt := 15) B [] ⟨0, 14, 15, 22⟩ [] rfl (fun w hw => by cases hw) rfl (by decide) (pm_T_in 721 (by decide +kernel) (by decide +kernel)) (pm_T_in 58 (by decide +kernel) (by decide +kernel)) rfl (fun q => ?_)
    refine pm_astore_n B dL_areLinked_15 rfl rfl ?_
    refine pm_bipush (v := (-11)) B dL_areLinked_16 (by decide) ?_
    exact pm_ireturn B dL_areLinked_18 rfl rfl ⟨(-11), rfl, Or.inr ⟨("java/lang/IndexOutOfBoundsException", (-11)), by simp, h, rfl⟩⟩ (Nat.ble_eq_true_of_le (by omega)) (Nat.ble_eq_true_of_le (by omega))
  · obtain ⟨k, rfl, hk01⟩ := hP u n' M' h
    refine pm_if_eq (tgt := 13) B dL_areLinked_6 (by decide) (fun hk => ?_) (fun hk => ?_)
    · subst hk
      refine pm_iconst (v := 0) B dL_areLinked_13 (by decide) ?_
      exact pm_ireturn B dL_areLinked_14 rfl rfl ⟨0, rfl, Or.inl h⟩ (Nat.ble_eq_true_of_le (by omega)) (Nat.ble_eq_true_of_le (by omega))
    · have hk1 : k = 1 := hk01.resolve_left hk
      subst hk1
      refine pm_iconst (v := 1) B dL_areLinked_9 (by decide) ?_
      refine pm_goto (tgt := 14) B dL_areLinked_10 (by decide) ?_
      exact pm_ireturn B dL_areLinked_14 rfl rfl ⟨1, rfl, Or.inl h⟩ (Nat.ble_eq_true_of_le (by omega)) (Nat.ble_eq_true_of_le (by omega))
theorem dL_setThreshold_0 : decode cL_setThreshold 0 = .ok (.aload_n 0, 1) := by decide +kernel
theorem dL_setThreshold_1 : decode cL_setThreshold 1 = .ok (.iload_n 1, 1) := by decide +kernel
theorem dL_setThreshold_2 : decode cL_setThreshold 2 = .ok (.invokevirtual 86, 3) := by decide +kernel
theorem dL_setThreshold_5 : decode cL_setThreshold 5 = .ok (.ireturn, 1) := by decide +kernel
theorem dL_setThreshold_6 : decode cL_setThreshold 6 = .ok (.astore_n 2, 1) := by decide +kernel
theorem dL_setThreshold_7 : decode cL_setThreshold 7 = .ok (.iconst (-1), 1) := by decide +kernel
theorem dL_setThreshold_8 : decode cL_setThreshold 8 = .ok (.ireturn, 1) := by decide +kernel
theorem dL_setThreshold_9 : decode cL_setThreshold 9 = .ok (.astore_n 2, 1) := by decide +kernel
theorem dL_setThreshold_10 : decode cL_setThreshold 10 = .ok (.bipush (-2), 2) := by decide +kernel
theorem dL_setThreshold_12 : decode cL_setThreshold 12 = .ok (.ireturn, 1) := by decide +kernel
theorem mt_L_setThreshold : pm_MtW yL_setThreshold cL_setThreshold 3 (some .int) [(0, 5, 6, 14), (0, 5, 9, 16)] 2 := ⟨pm_T_in 792 (by decide +kernel) (by decide +kernel), pm_T_in 34 (by decide +kernel) (by decide +kernel), ⟨by decide +kernel, by decide +kernel, by decide +kernel⟩, by decide +kernel, by decide⟩
set_option maxHeartbeats 1000000 in
theorem c_L_setThreshold {l : Launch} {z : Nat} {D : va_G} {kA : Nat → ClassId} {kE : Nat → Nat} {nx d2 mc2 ms2 : Nat} {M : pm_M} {x : Int32} {fs : List Value} {P : pm_Po} (hM : M 0 = some (.inr (10, fs))) (hC : pm_C l z D kA kE yX12_setThreshold cX12_setThreshold 2 (some .int) d2 mc2 ms2 [.ref (z + 0), .int x] nx M P)
    (hP : ∀ v n' M1, P (.inl v) n' M1 → ∃ k : Int32, v = some (.int k)) (hE : ∀ E n' M1, P (.inr E) n' M1 → E = "java/lang/IllegalArgumentException" ∨ E = "java/lang/UnsupportedOperationException") : pm_Cw l z D kA kE yL_setThreshold cL_setThreshold 3 (some .int) [(0, 5, 6, 14), (0, 5, 9, 16)] (d2 + 1) mc2 ms2 [.ref (z + 0), .int x] nx M (pw_wr P [("java/lang/IllegalArgumentException", (-1)), ("java/lang/UnsupportedOperationException", (-2))]) := by
  refine pm_mkW (own := RL) (nm := "setThreshold") mt_L_setThreshold rfl rfl rfl rfl rfl fun X B => ?_
  refine pm_loc (L' := [some (.ref (z + 0)), some (.int x), none]) rfl ?_
  refine pm_aload_n B dL_setThreshold_0 rfl ?_
  refine pm_iload_n B dL_setThreshold_1 rfl ?_
  refine pm_callV (As := [.int x]) (mc2 := mc2) (ms2 := ms2) (d2 := d2) B rfl hM rfl hC mt_X12_setThreshold sv_L_86 dL_setThreshold_2 rfl (Nat.ble_eq_true_of_le (Nat.le_refl _)) rfl (Nat.ble_eq_true_of_le (by omega)) (Nat.ble_eq_true_of_le (by omega)) (fun E n' M' h => ?_) (fun u n' M' h => ?_)
  · rcases hE E n' M' h with rfl | rfl
    · refine pm_catch (tgt := 6) B [] ⟨0, 5, 6, 14⟩ [⟨0, 5, 9, 16⟩] rfl (fun w hw => by cases hw) rfl (by decide) (pm_T_in 380 (by decide +kernel) (by decide +kernel)) (pm_T_in 59 (by decide +kernel) (by decide +kernel)) rfl (fun q => ?_)
      refine pm_astore_n B dL_setThreshold_6 rfl rfl ?_
      refine pm_iconst (v := (-1)) B dL_setThreshold_7 (by decide) ?_
      exact pm_ireturn B dL_setThreshold_8 rfl rfl ⟨(-1), rfl, Or.inr ⟨("java/lang/IllegalArgumentException", (-1)), by simp, h, rfl⟩⟩ (Nat.ble_eq_true_of_le (by omega)) (Nat.ble_eq_true_of_le (by omega))
    · refine pm_catch (tgt := 9) B [⟨0, 5, 6, 14⟩] ⟨0, 5, 9, 16⟩ [] rfl (fun w hw => by
          simp only [List.mem_cons, List.not_mem_nil, or_false] at hw
          rcases hw with rfl <;> first | exact Or.inr ⟨by decide, "java/lang/IllegalArgumentException", pm_T_in 380 (by decide +kernel) (by decide +kernel), by decide +kernel⟩) rfl (by decide) (pm_T_in 381 (by decide +kernel) (by decide +kernel)) (pm_T_in 60 (by decide +kernel) (by decide +kernel)) rfl (fun q => ?_)
      refine pm_astore_n B dL_setThreshold_9 rfl rfl ?_
      refine pm_bipush (v := (-2)) B dL_setThreshold_10 (by decide) ?_
      exact pm_ireturn B dL_setThreshold_12 rfl rfl ⟨(-2), rfl, Or.inr ⟨("java/lang/UnsupportedOperationException", (-2)), by simp, h, rfl⟩⟩ (Nat.ble_eq_true_of_le (by omega)) (Nat.ble_eq_true_of_le (by omega))
  · obtain ⟨k, rfl⟩ := hP u n' M' h
    exact pm_ireturn B dL_setThreshold_5 rfl rfl ⟨k, rfl, Or.inl h⟩ (Nat.ble_eq_true_of_le (by omega)) (Nat.ble_eq_true_of_le (by omega))
theorem dL_swings_0 : decode cL_swings 0 = .ok (.aload_n 0, 1) := by decide +kernel
theorem dL_swings_1 : decode cL_swings 1 = .ok (.iload_n 1, 1) := by decide +kernel
theorem dL_swings_2 : decode cL_swings 2 = .ok (.invokevirtual 89, 3) := by decide +kernel
theorem dL_swings_5 : decode cL_swings 5 = .ok (.ireturn, 1) := by decide +kernel
theorem dL_swings_6 : decode cL_swings 6 = .ok (.astore_n 2, 1) := by decide +kernel
theorem dL_swings_7 : decode cL_swings 7 = .ok (.bipush (-11), 2) := by decide +kernel
theorem dL_swings_9 : decode cL_swings 9 = .ok (.ireturn, 1) := by decide +kernel
theorem dL_swings_10 : decode cL_swings 10 = .ok (.astore_n 2, 1) := by decide +kernel
theorem dL_swings_11 : decode cL_swings 11 = .ok (.bipush (-13), 2) := by decide +kernel
theorem dL_swings_13 : decode cL_swings 13 = .ok (.ireturn, 1) := by decide +kernel
theorem mt_L_swings : pm_MtW yL_swings cL_swings 3 (some .int) [(0, 5, 6, 22), (0, 5, 10, 37)] 2 := ⟨pm_T_in 1070 (by decide +kernel) (by decide +kernel), pm_T_in 34 (by decide +kernel) (by decide +kernel), ⟨by decide +kernel, by decide +kernel, by decide +kernel⟩, by decide +kernel, by decide⟩
set_option maxHeartbeats 1000000 in
theorem c_L_swings {l : Launch} {z : Nat} {D : va_G} {kA : Nat → ClassId} {kE : Nat → Nat} {nx d2 mc2 ms2 : Nat} {M : pm_M} {x : Int32} {fs : List Value} {P : pm_Po} (hM : M 0 = some (.inr (10, fs))) (hC : pm_C l z D kA kE yX12_swings cX12_swings 2 (some .int) d2 mc2 ms2 [.ref (z + 0), .int x] nx M P)
    (hP : ∀ v n' M1, P (.inl v) n' M1 → ∃ k : Int32, v = some (.int k)) (hE : ∀ E n' M1, P (.inr E) n' M1 → E = "java/lang/IndexOutOfBoundsException" ∨ E = "java/util/NoSuchElementException") : pm_Cw l z D kA kE yL_swings cL_swings 3 (some .int) [(0, 5, 6, 22), (0, 5, 10, 37)] (d2 + 1) mc2 ms2 [.ref (z + 0), .int x] nx M (pw_wr P [("java/lang/IndexOutOfBoundsException", (-11)), ("java/util/NoSuchElementException", (-13))]) := by
  refine pm_mkW (own := RL) (nm := "swings") mt_L_swings rfl rfl rfl rfl rfl fun X B => ?_
  refine pm_loc (L' := [some (.ref (z + 0)), some (.int x), none]) rfl ?_
  refine pm_aload_n B dL_swings_0 rfl ?_
  refine pm_iload_n B dL_swings_1 rfl ?_
  refine pm_callV (As := [.int x]) (mc2 := mc2) (ms2 := ms2) (d2 := d2) B rfl hM rfl hC mt_X12_swings sv_L_89 dL_swings_2 rfl (Nat.ble_eq_true_of_le (Nat.le_refl _)) rfl (Nat.ble_eq_true_of_le (by omega)) (Nat.ble_eq_true_of_le (by omega)) (fun E n' M' h => ?_) (fun u n' M' h => ?_)
  · rcases hE E n' M' h with rfl | rfl
    · refine pm_catch (tgt := 6) B [] ⟨0, 5, 6, 22⟩ [⟨0, 5, 10, 37⟩] rfl (fun w hw => by cases hw) rfl (by decide) (pm_T_in 721 (by decide +kernel) (by decide +kernel)) (pm_T_in 58 (by decide +kernel) (by decide +kernel)) rfl (fun q => ?_)
      refine pm_astore_n B dL_swings_6 rfl rfl ?_
      refine pm_bipush (v := (-11)) B dL_swings_7 (by decide) ?_
      exact pm_ireturn B dL_swings_9 rfl rfl ⟨(-11), rfl, Or.inr ⟨("java/lang/IndexOutOfBoundsException", (-11)), by simp, h, rfl⟩⟩ (Nat.ble_eq_true_of_le (by omega)) (Nat.ble_eq_true_of_le (by omega))
    · refine pm_catch (tgt := 10) B [⟨0, 5, 6, 22⟩] ⟨0, 5, 10, 37⟩ [] rfl (fun w hw => by
          simp only [List.mem_cons, List.not_mem_nil, or_false] at hw
          rcases hw with rfl <;> first | exact Or.inr ⟨by decide, "java/lang/IndexOutOfBoundsException", pm_T_in 721 (by decide +kernel) (by decide +kernel), by decide +kernel⟩) rfl (by decide) (pm_T_in 832 (by decide +kernel) (by decide +kernel)) (pm_T_in 64 (by decide +kernel) (by decide +kernel)) rfl (fun q => ?_)
      refine pm_astore_n B dL_swings_10 rfl rfl ?_
      refine pm_bipush (v := (-13)) B dL_swings_11 (by decide) ?_
      exact pm_ireturn B dL_swings_13 rfl rfl ⟨(-13), rfl, Or.inr ⟨("java/util/NoSuchElementException", (-13)), by simp, h, rfl⟩⟩ (Nat.ble_eq_true_of_le (by omega)) (Nat.ble_eq_true_of_le (by omega))
  · obtain ⟨k, rfl⟩ := hP u n' M' h
    exact pm_ireturn B dL_swings_5 rfl rfl ⟨k, rfl, Or.inl h⟩ (Nat.ble_eq_true_of_le (by omega)) (Nat.ble_eq_true_of_le (by omega))
theorem dL_byCounts_0 : decode cL_byCounts 0 = .ok (.aload_n 0, 1) := by decide +kernel
theorem dL_byCounts_1 : decode cL_byCounts 1 = .ok (.iload_n 1, 1) := by decide +kernel
theorem dL_byCounts_2 : decode cL_byCounts 2 = .ok (.invokevirtual 92, 3) := by decide +kernel
theorem dL_byCounts_5 : decode cL_byCounts 5 = .ok (.ireturn, 1) := by decide +kernel
theorem dL_byCounts_6 : decode cL_byCounts 6 = .ok (.astore_n 2, 1) := by decide +kernel
theorem dL_byCounts_7 : decode cL_byCounts 7 = .ok (.bipush (-11), 2) := by decide +kernel
theorem dL_byCounts_9 : decode cL_byCounts 9 = .ok (.ireturn, 1) := by decide +kernel
theorem dL_byCounts_10 : decode cL_byCounts 10 = .ok (.astore_n 2, 1) := by decide +kernel
theorem dL_byCounts_11 : decode cL_byCounts 11 = .ok (.bipush (-13), 2) := by decide +kernel
theorem dL_byCounts_13 : decode cL_byCounts 13 = .ok (.ireturn, 1) := by decide +kernel
theorem mt_L_byCounts : pm_MtW yL_byCounts cL_byCounts 3 (some .int) [(0, 5, 6, 22), (0, 5, 10, 37)] 2 := ⟨pm_T_in 1093 (by decide +kernel) (by decide +kernel), pm_T_in 34 (by decide +kernel) (by decide +kernel), ⟨by decide +kernel, by decide +kernel, by decide +kernel⟩, by decide +kernel, by decide⟩
set_option maxHeartbeats 1000000 in
theorem c_L_byCounts {l : Launch} {z : Nat} {D : va_G} {kA : Nat → ClassId} {kE : Nat → Nat} {nx d2 mc2 ms2 : Nat} {M : pm_M} {x : Int32} {fs : List Value} {P : pm_Po} (hM : M 0 = some (.inr (10, fs))) (hC : pm_C l z D kA kE yX12_swingsByCounts cX12_swingsByCounts 2 (some .int) d2 mc2 ms2 [.ref (z + 0), .int x] nx M P)
    (hP : ∀ v n' M1, P (.inl v) n' M1 → ∃ k : Int32, v = some (.int k)) (hE : ∀ E n' M1, P (.inr E) n' M1 → E = "java/lang/IndexOutOfBoundsException" ∨ E = "java/util/NoSuchElementException") : pm_Cw l z D kA kE yL_byCounts cL_byCounts 3 (some .int) [(0, 5, 6, 22), (0, 5, 10, 37)] (d2 + 1) mc2 ms2 [.ref (z + 0), .int x] nx M (pw_wr P [("java/lang/IndexOutOfBoundsException", (-11)), ("java/util/NoSuchElementException", (-13))]) := by
  refine pm_mkW (own := RL) (nm := "byCounts") mt_L_byCounts rfl rfl rfl rfl rfl fun X B => ?_
  refine pm_loc (L' := [some (.ref (z + 0)), some (.int x), none]) rfl ?_
  refine pm_aload_n B dL_byCounts_0 rfl ?_
  refine pm_iload_n B dL_byCounts_1 rfl ?_
  refine pm_callV (As := [.int x]) (mc2 := mc2) (ms2 := ms2) (d2 := d2) B rfl hM rfl hC mt_X12_swingsByCounts sv_L_92 dL_byCounts_2 rfl (Nat.ble_eq_true_of_le (Nat.le_refl _)) rfl (Nat.ble_eq_true_of_le (by omega)) (Nat.ble_eq_true_of_le (by omega)) (fun E n' M' h => ?_) (fun u n' M' h => ?_)
  · rcases hE E n' M' h with rfl | rfl
    · refine pm_catch (tgt := 6) B [] ⟨0, 5, 6, 22⟩ [⟨0, 5, 10, 37⟩] rfl (fun w hw => by cases hw) rfl (by decide) (pm_T_in 721 (by decide +kernel) (by decide +kernel)) (pm_T_in 58 (by decide +kernel) (by decide +kernel)) rfl (fun q => ?_)
      refine pm_astore_n B dL_byCounts_6 rfl rfl ?_
      refine pm_bipush (v := (-11)) B dL_byCounts_7 (by decide) ?_
      exact pm_ireturn B dL_byCounts_9 rfl rfl ⟨(-11), rfl, Or.inr ⟨("java/lang/IndexOutOfBoundsException", (-11)), by simp, h, rfl⟩⟩ (Nat.ble_eq_true_of_le (by omega)) (Nat.ble_eq_true_of_le (by omega))
    · refine pm_catch (tgt := 10) B [⟨0, 5, 6, 22⟩] ⟨0, 5, 10, 37⟩ [] rfl (fun w hw => by
          simp only [List.mem_cons, List.not_mem_nil, or_false] at hw
          rcases hw with rfl <;> first | exact Or.inr ⟨by decide, "java/lang/IndexOutOfBoundsException", pm_T_in 721 (by decide +kernel) (by decide +kernel), by decide +kernel⟩) rfl (by decide) (pm_T_in 832 (by decide +kernel) (by decide +kernel)) (pm_T_in 64 (by decide +kernel) (by decide +kernel)) rfl (fun q => ?_)
      refine pm_astore_n B dL_byCounts_10 rfl rfl ?_
      refine pm_bipush (v := (-13)) B dL_byCounts_11 (by decide) ?_
      exact pm_ireturn B dL_byCounts_13 rfl rfl ⟨(-13), rfl, Or.inr ⟨("java/util/NoSuchElementException", (-13)), by simp, h, rfl⟩⟩ (Nat.ble_eq_true_of_le (by omega)) (Nat.ble_eq_true_of_le (by omega))
  · obtain ⟨k, rfl⟩ := hP u n' M' h
    exact pm_ireturn B dL_byCounts_5 rfl rfl ⟨k, rfl, Or.inl h⟩ (Nat.ble_eq_true_of_le (by omega)) (Nat.ble_eq_true_of_le (by omega))
theorem dL_share_0 : decode cL_share 0 = .ok (.aload_n 0, 1) := by decide +kernel
theorem dL_share_1 : decode cL_share 1 = .ok (.iload_n 1, 1) := by decide +kernel
theorem dL_share_2 : decode cL_share 2 = .ok (.invokevirtual 95, 3) := by decide +kernel
theorem dL_share_5 : decode cL_share 5 = .ok (.ireturn, 1) := by decide +kernel
theorem dL_share_6 : decode cL_share 6 = .ok (.astore_n 2, 1) := by decide +kernel
theorem dL_share_7 : decode cL_share 7 = .ok (.bipush (-11), 2) := by decide +kernel
theorem dL_share_9 : decode cL_share 9 = .ok (.ireturn, 1) := by decide +kernel
theorem mt_L_share : pm_MtW yL_share cL_share 3 (some .int) [(0, 5, 6, 22)] 2 := ⟨pm_T_in 1141 (by decide +kernel) (by decide +kernel), pm_T_in 34 (by decide +kernel) (by decide +kernel), ⟨by decide +kernel, by decide +kernel, by decide +kernel⟩, by decide +kernel, by decide⟩
set_option maxHeartbeats 1000000 in
theorem c_L_share {l : Launch} {z : Nat} {D : va_G} {kA : Nat → ClassId} {kE : Nat → Nat} {nx d2 mc2 ms2 : Nat} {M : pm_M} {x : Int32} {fs : List Value} {P : pm_Po} (hM : M 0 = some (.inr (10, fs))) (hC : pm_C l z D kA kE yX12_share cX12_share 2 (some .int) d2 mc2 ms2 [.ref (z + 0), .int x] nx M P)
    (hP : ∀ v n' M1, P (.inl v) n' M1 → ∃ k : Int32, v = some (.int k)) (hE : ∀ E n' M1, P (.inr E) n' M1 → E = "java/lang/IndexOutOfBoundsException") : pm_Cw l z D kA kE yL_share cL_share 3 (some .int) [(0, 5, 6, 22)] (d2 + 1) mc2 ms2 [.ref (z + 0), .int x] nx M (pw_wr P [("java/lang/IndexOutOfBoundsException", (-11))]) := by
  refine pm_mkW (own := RL) (nm := "share") mt_L_share rfl rfl rfl rfl rfl fun X B => ?_
  refine pm_loc (L' := [some (.ref (z + 0)), some (.int x), none]) rfl ?_
  refine pm_aload_n B dL_share_0 rfl ?_
  refine pm_iload_n B dL_share_1 rfl ?_
  refine pm_callV (As := [.int x]) (mc2 := mc2) (ms2 := ms2) (d2 := d2) B rfl hM rfl hC mt_X12_share sv_L_95 dL_share_2 rfl (Nat.ble_eq_true_of_le (Nat.le_refl _)) rfl (Nat.ble_eq_true_of_le (by omega)) (Nat.ble_eq_true_of_le (by omega)) (fun E n' M' h => ?_) (fun u n' M' h => ?_)
  · obtain rfl := hE E n' M' h
    refine pm_catch (tgt := 6) B [] ⟨0, 5, 6, 22⟩ [] rfl (fun w hw => by cases hw) rfl (by decide) (pm_T_in 721 (by decide +kernel) (by decide +kernel)) (pm_T_in 58 (by decide +kernel) (by decide +kernel)) rfl (fun q => ?_)
    refine pm_astore_n B dL_share_6 rfl rfl ?_
    refine pm_bipush (v := (-11)) B dL_share_7 (by decide) ?_
    exact pm_ireturn B dL_share_9 rfl rfl ⟨(-11), rfl, Or.inr ⟨("java/lang/IndexOutOfBoundsException", (-11)), by simp, h, rfl⟩⟩ (Nat.ble_eq_true_of_le (by omega)) (Nat.ble_eq_true_of_le (by omega))
  · obtain ⟨k, rfl⟩ := hP u n' M' h
    exact pm_ireturn B dL_share_5 rfl rfl ⟨k, rfl, Or.inl h⟩ (Nat.ble_eq_true_of_le (by omega)) (Nat.ble_eq_true_of_le (by omega))
theorem dL_bySteps_0 : decode cL_bySteps 0 = .ok (.aload_n 0, 1) := by decide +kernel
theorem dL_bySteps_1 : decode cL_bySteps 1 = .ok (.iload_n 1, 1) := by decide +kernel
theorem dL_bySteps_2 : decode cL_bySteps 2 = .ok (.invokevirtual 98, 3) := by decide +kernel
theorem dL_bySteps_5 : decode cL_bySteps 5 = .ok (.ireturn, 1) := by decide +kernel
theorem dL_bySteps_6 : decode cL_bySteps 6 = .ok (.astore_n 2, 1) := by decide +kernel
theorem dL_bySteps_7 : decode cL_bySteps 7 = .ok (.bipush (-11), 2) := by decide +kernel
theorem dL_bySteps_9 : decode cL_bySteps 9 = .ok (.ireturn, 1) := by decide +kernel
theorem mt_L_bySteps : pm_MtW yL_bySteps cL_bySteps 3 (some .int) [(0, 5, 6, 22)] 2 := ⟨pm_T_in 1161 (by decide +kernel) (by decide +kernel), pm_T_in 34 (by decide +kernel) (by decide +kernel), ⟨by decide +kernel, by decide +kernel, by decide +kernel⟩, by decide +kernel, by decide⟩
set_option maxHeartbeats 1000000 in
theorem c_L_bySteps {l : Launch} {z : Nat} {D : va_G} {kA : Nat → ClassId} {kE : Nat → Nat} {nx d2 mc2 ms2 : Nat} {M : pm_M} {x : Int32} {fs : List Value} {P : pm_Po} (hM : M 0 = some (.inr (10, fs))) (hC : pm_C l z D kA kE yX12_shareBySteps cX12_shareBySteps 2 (some .int) d2 mc2 ms2 [.ref (z + 0), .int x] nx M P)
    (hP : ∀ v n' M1, P (.inl v) n' M1 → ∃ k : Int32, v = some (.int k)) (hE : ∀ E n' M1, P (.inr E) n' M1 → E = "java/lang/IndexOutOfBoundsException") : pm_Cw l z D kA kE yL_bySteps cL_bySteps 3 (some .int) [(0, 5, 6, 22)] (d2 + 1) mc2 ms2 [.ref (z + 0), .int x] nx M (pw_wr P [("java/lang/IndexOutOfBoundsException", (-11))]) := by
  refine pm_mkW (own := RL) (nm := "bySteps") mt_L_bySteps rfl rfl rfl rfl rfl fun X B => ?_
  refine pm_loc (L' := [some (.ref (z + 0)), some (.int x), none]) rfl ?_
  refine pm_aload_n B dL_bySteps_0 rfl ?_
  refine pm_iload_n B dL_bySteps_1 rfl ?_
  refine pm_callV (As := [.int x]) (mc2 := mc2) (ms2 := ms2) (d2 := d2) B rfl hM rfl hC mt_X12_shareBySteps sv_L_98 dL_bySteps_2 rfl (Nat.ble_eq_true_of_le (Nat.le_refl _)) rfl (Nat.ble_eq_true_of_le (by omega)) (Nat.ble_eq_true_of_le (by omega)) (fun E n' M' h => ?_) (fun u n' M' h => ?_)
  · obtain rfl := hE E n' M' h
    refine pm_catch (tgt := 6) B [] ⟨0, 5, 6, 22⟩ [] rfl (fun w hw => by cases hw) rfl (by decide) (pm_T_in 721 (by decide +kernel) (by decide +kernel)) (pm_T_in 58 (by decide +kernel) (by decide +kernel)) rfl (fun q => ?_)
    refine pm_astore_n B dL_bySteps_6 rfl rfl ?_
    refine pm_bipush (v := (-11)) B dL_bySteps_7 (by decide) ?_
    exact pm_ireturn B dL_bySteps_9 rfl rfl ⟨(-11), rfl, Or.inr ⟨("java/lang/IndexOutOfBoundsException", (-11)), by simp, h, rfl⟩⟩ (Nat.ble_eq_true_of_le (by omega)) (Nat.ble_eq_true_of_le (by omega))
  · obtain ⟨k, rfl⟩ := hP u n' M' h
    exact pm_ireturn B dL_bySteps_5 rfl rfl ⟨k, rfl, Or.inl h⟩ (Nat.ble_eq_true_of_le (by omega)) (Nat.ble_eq_true_of_le (by omega))
theorem dL_feed_0 : decode cL_feed 0 = .ok (.aload_n 0, 1) := by decide +kernel
theorem dL_feed_1 : decode cL_feed 1 = .ok (.iload_n 1, 1) := by decide +kernel
theorem dL_feed_2 : decode cL_feed 2 = .ok (.invokevirtual 101, 3) := by decide +kernel
theorem dL_feed_5 : decode cL_feed 5 = .ok (.ireturn, 1) := by decide +kernel
theorem dL_feed_6 : decode cL_feed 6 = .ok (.astore_n 2, 1) := by decide +kernel
theorem dL_feed_7 : decode cL_feed 7 = .ok (.bipush (-14), 2) := by decide +kernel
theorem dL_feed_9 : decode cL_feed 9 = .ok (.ireturn, 1) := by decide +kernel
theorem mt_L_feed : pm_MtW yL_feed cL_feed 3 (some .int) [(0, 5, 6, 105)] 2 := ⟨pm_T_in 1544 (by decide +kernel) (by decide +kernel), pm_T_in 34 (by decide +kernel) (by decide +kernel), ⟨by decide +kernel, by decide +kernel, by decide +kernel⟩, by decide +kernel, by decide⟩
set_option maxHeartbeats 1000000 in
theorem c_L_feed {l : Launch} {z : Nat} {D : va_G} {kA : Nat → ClassId} {kE : Nat → Nat} {nx d2 mc2 ms2 : Nat} {M : pm_M} {x : Int32} {fs : List Value} {P : pm_Po} (hM : M 0 = some (.inr (10, fs))) (hC : pm_C l z D kA kE yX12_feed cX12_feed 2 (some .int) d2 mc2 ms2 [.ref (z + 0), .int x] nx M P)
    (hP : ∀ v n' M1, P (.inl v) n' M1 → ∃ k : Int32, v = some (.int k)) (hE : ∀ E n' M1, P (.inr E) n' M1 → E = "java/lang/IllegalStateException") : pm_Cw l z D kA kE yL_feed cL_feed 3 (some .int) [(0, 5, 6, 105)] (d2 + 1) mc2 ms2 [.ref (z + 0), .int x] nx M (pw_wr P [("java/lang/IllegalStateException", (-14))]) := by
  refine pm_mkW (own := RL) (nm := "feed") mt_L_feed rfl rfl rfl rfl rfl fun X B => ?_
  refine pm_loc (L' := [some (.ref (z + 0)), some (.int x), none]) rfl ?_
  refine pm_aload_n B dL_feed_0 rfl ?_
  refine pm_iload_n B dL_feed_1 rfl ?_
  refine pm_callV (As := [.int x]) (mc2 := mc2) (ms2 := ms2) (d2 := d2) B rfl hM rfl hC mt_X12_feed sv_L_101 dL_feed_2 rfl (Nat.ble_eq_true_of_le (Nat.le_refl _)) rfl (Nat.ble_eq_true_of_le (by omega)) (Nat.ble_eq_true_of_le (by omega)) (fun E n' M' h => ?_) (fun u n' M' h => ?_)
  · obtain rfl := hE E n' M' h
    refine pm_catch (tgt := 6) B [] ⟨0, 5, 6, 105⟩ [] rfl (fun w hw => by cases hw) rfl (by decide) (pm_T_in 1040 (by decide +kernel) (by decide +kernel)) (pm_T_in 66 (by decide +kernel) (by decide +kernel)) rfl (fun q => ?_)
    refine pm_astore_n B dL_feed_6 rfl rfl ?_
    refine pm_bipush (v := (-14)) B dL_feed_7 (by decide) ?_
    exact pm_ireturn B dL_feed_9 rfl rfl ⟨(-14), rfl, Or.inr ⟨("java/lang/IllegalStateException", (-14)), by simp, h, rfl⟩⟩ (Nat.ble_eq_true_of_le (by omega)) (Nat.ble_eq_true_of_le (by omega))
  · obtain ⟨k, rfl⟩ := hP u n' M' h
    exact pm_ireturn B dL_feed_5 rfl rfl ⟨k, rfl, Or.inl h⟩ (Nat.ble_eq_true_of_le (by omega)) (Nat.ble_eq_true_of_le (by omega))
theorem dL_executes_0 : decode cL_executes 0 = .ok (.aload_n 0, 1) := by decide +kernel
theorem dL_executes_1 : decode cL_executes 1 = .ok (.invokevirtual 107, 3) := by decide +kernel
theorem dL_executes_4 : decode cL_executes 4 = .ok (.ireturn, 1) := by decide +kernel
theorem dL_executes_5 : decode cL_executes 5 = .ok (.astore_n 1, 1) := by decide +kernel
theorem dL_executes_6 : decode cL_executes 6 = .ok (.iconst (-1), 1) := by decide +kernel
theorem dL_executes_7 : decode cL_executes 7 = .ok (.ireturn, 1) := by decide +kernel
theorem dL_executes_8 : decode cL_executes 8 = .ok (.astore_n 1, 1) := by decide +kernel
theorem dL_executes_9 : decode cL_executes 9 = .ok (.bipush (-2), 2) := by decide +kernel
theorem dL_executes_11 : decode cL_executes 11 = .ok (.ireturn, 1) := by decide +kernel
theorem mt_L_executes : pm_MtW yL_executes cL_executes 2 (some .int) [(0, 4, 5, 14), (0, 4, 8, 16)] 1 := ⟨pm_T_in 1560 (by decide +kernel) (by decide +kernel), pm_T_in 34 (by decide +kernel) (by decide +kernel), ⟨by decide +kernel, by decide +kernel, by decide +kernel⟩, by decide +kernel, by decide⟩
set_option maxHeartbeats 1000000 in
theorem c_L_executes {l : Launch} {z : Nat} {D : va_G} {kA : Nat → ClassId} {kE : Nat → Nat} {nx d2 mc2 ms2 : Nat} {M : pm_M}  {fs : List Value} {P : pm_Po} (hM : M 0 = some (.inr (10, fs))) (hC : pm_C l z D kA kE yX12_execute cX12_execute 3 (some .int) d2 mc2 ms2 [.ref (z + 0)] nx M P)
    (hP : ∀ v n' M1, P (.inl v) n' M1 → ∃ k : Int32, v = some (.int k)) (hE : ∀ E n' M1, P (.inr E) n' M1 → E = "java/lang/IllegalArgumentException" ∨ E = "java/lang/UnsupportedOperationException") : pm_Cw l z D kA kE yL_executes cL_executes 2 (some .int) [(0, 4, 5, 14), (0, 4, 8, 16)] (d2 + 1) mc2 ms2 [.ref (z + 0)] nx M (pw_wr P [("java/lang/IllegalArgumentException", (-1)), ("java/lang/UnsupportedOperationException", (-2))]) := by
  refine pm_mkW (own := RL) (nm := "executes") mt_L_executes rfl rfl rfl rfl rfl fun X B => ?_
  refine pm_loc (L' := [some (.ref (z + 0)), none]) rfl ?_
  refine pm_aload_n B dL_executes_0 rfl ?_
  refine pm_callV (As := []) (mc2 := mc2) (ms2 := ms2) (d2 := d2) B rfl hM rfl hC mt_X12_execute sv_L_107 dL_executes_1 rfl (Nat.ble_eq_true_of_le (Nat.le_refl _)) rfl (Nat.ble_eq_true_of_le (by omega)) (Nat.ble_eq_true_of_le (by omega)) (fun E n' M' h => ?_) (fun u n' M' h => ?_)
  · rcases hE E n' M' h with rfl | rfl
    · refine pm_catch (tgt := 5) B [] ⟨0, 4, 5, 14⟩ [⟨0, 4, 8, 16⟩] rfl (fun w hw => by cases hw) rfl (by decide) (pm_T_in 380 (by decide +kernel) (by decide +kernel)) (pm_T_in 59 (by decide +kernel) (by decide +kernel)) rfl (fun q => ?_)
      refine pm_astore_n B dL_executes_5 rfl rfl ?_
      refine pm_iconst (v := (-1)) B dL_executes_6 (by decide) ?_
      exact pm_ireturn B dL_executes_7 rfl rfl ⟨(-1), rfl, Or.inr ⟨("java/lang/IllegalArgumentException", (-1)), by simp, h, rfl⟩⟩ (Nat.ble_eq_true_of_le (by omega)) (Nat.ble_eq_true_of_le (by omega))
    · refine pm_catch (tgt := 8) B [⟨0, 4, 5, 14⟩] ⟨0, 4, 8, 16⟩ [] rfl (fun w hw => by
          simp only [List.mem_cons, List.not_mem_nil, or_false] at hw
          rcases hw with rfl <;> first | exact Or.inr ⟨by decide, "java/lang/IllegalArgumentException", pm_T_in 380 (by decide +kernel) (by decide +kernel), by decide +kernel⟩) rfl (by decide) (pm_T_in 381 (by decide +kernel) (by decide +kernel)) (pm_T_in 60 (by decide +kernel) (by decide +kernel)) rfl (fun q => ?_)
      refine pm_astore_n B dL_executes_8 rfl rfl ?_
      refine pm_bipush (v := (-2)) B dL_executes_9 (by decide) ?_
      exact pm_ireturn B dL_executes_11 rfl rfl ⟨(-2), rfl, Or.inr ⟨("java/lang/UnsupportedOperationException", (-2)), by simp, h, rfl⟩⟩ (Nat.ble_eq_true_of_le (by omega)) (Nat.ble_eq_true_of_le (by omega))
  · obtain ⟨k, rfl⟩ := hP u n' M' h
    exact pm_ireturn B dL_executes_4 rfl rfl ⟨k, rfl, Or.inl h⟩ (Nat.ble_eq_true_of_le (by omega)) (Nat.ble_eq_true_of_le (by omega))
theorem dL_writeMember_0 : decode cL_writeMember 0 = .ok (.aload_n 0, 1) := by decide +kernel
theorem dL_writeMember_1 : decode cL_writeMember 1 = .ok (.iload_n 1, 1) := by decide +kernel
theorem dL_writeMember_2 : decode cL_writeMember 2 = .ok (.invokevirtual 114, 3) := by decide +kernel
theorem dL_writeMember_5 : decode cL_writeMember 5 = .ok (.ireturn, 1) := by decide +kernel
theorem dL_writeMember_6 : decode cL_writeMember 6 = .ok (.astore_n 2, 1) := by decide +kernel
theorem dL_writeMember_7 : decode cL_writeMember 7 = .ok (.bipush (-11), 2) := by decide +kernel
theorem dL_writeMember_9 : decode cL_writeMember 9 = .ok (.ireturn, 1) := by decide +kernel
theorem mt_L_writeMember : pm_MtW yL_writeMember cL_writeMember 3 (some .int) [(0, 5, 6, 22)] 2 := ⟨pm_T_in 1392 (by decide +kernel) (by decide +kernel), pm_T_in 34 (by decide +kernel) (by decide +kernel), ⟨by decide +kernel, by decide +kernel, by decide +kernel⟩, by decide +kernel, by decide⟩
set_option maxHeartbeats 1000000 in
theorem c_L_writeMember {l : Launch} {z : Nat} {D : va_G} {kA : Nat → ClassId} {kE : Nat → Nat} {nx d2 mc2 ms2 : Nat} {M : pm_M} {x : Int32} {fs : List Value} {P : pm_Po} (hM : M 0 = some (.inr (10, fs))) (hC : pm_C l z D kA kE yX12_writeMember cX12_writeMember 4 (some .int) d2 mc2 ms2 [.ref (z + 0), .int x] nx M P)
    (hP : ∀ v n' M1, P (.inl v) n' M1 → ∃ k : Int32, v = some (.int k)) (hE : ∀ E n' M1, P (.inr E) n' M1 → E = "java/lang/IndexOutOfBoundsException") : pm_Cw l z D kA kE yL_writeMember cL_writeMember 3 (some .int) [(0, 5, 6, 22)] (d2 + 1) mc2 ms2 [.ref (z + 0), .int x] nx M (pw_wr P [("java/lang/IndexOutOfBoundsException", (-11))]) := by
  refine pm_mkW (own := RL) (nm := "writeMember") mt_L_writeMember rfl rfl rfl rfl rfl fun X B => ?_
  refine pm_loc (L' := [some (.ref (z + 0)), some (.int x), none]) rfl ?_
  refine pm_aload_n B dL_writeMember_0 rfl ?_
  refine pm_iload_n B dL_writeMember_1 rfl ?_
  refine pm_callV (As := [.int x]) (mc2 := mc2) (ms2 := ms2) (d2 := d2) B rfl hM rfl hC mt_X12_writeMember sv_L_114 dL_writeMember_2 rfl (Nat.ble_eq_true_of_le (Nat.le_refl _)) rfl (Nat.ble_eq_true_of_le (by omega)) (Nat.ble_eq_true_of_le (by omega)) (fun E n' M' h => ?_) (fun u n' M' h => ?_)
  · obtain rfl := hE E n' M' h
    refine pm_catch (tgt := 6) B [] ⟨0, 5, 6, 22⟩ [] rfl (fun w hw => by cases hw) rfl (by decide) (pm_T_in 721 (by decide +kernel) (by decide +kernel)) (pm_T_in 58 (by decide +kernel) (by decide +kernel)) rfl (fun q => ?_)
    refine pm_astore_n B dL_writeMember_6 rfl rfl ?_
    refine pm_bipush (v := (-11)) B dL_writeMember_7 (by decide) ?_
    exact pm_ireturn B dL_writeMember_9 rfl rfl ⟨(-11), rfl, Or.inr ⟨("java/lang/IndexOutOfBoundsException", (-11)), by simp, h, rfl⟩⟩ (Nat.ble_eq_true_of_le (by omega)) (Nat.ble_eq_true_of_le (by omega))
  · obtain ⟨k, rfl⟩ := hP u n' M' h
    exact pm_ireturn B dL_writeMember_5 rfl rfl ⟨k, rfl, Or.inl h⟩ (Nat.ble_eq_true_of_le (by omega)) (Nat.ble_eq_true_of_le (by omega))
theorem dL_lineAt_0 : decode cL_lineAt 0 = .ok (.aload_n 0, 1) := by decide +kernel
theorem dL_lineAt_1 : decode cL_lineAt 1 = .ok (.iload_n 1, 1) := by decide +kernel
theorem dL_lineAt_2 : decode cL_lineAt 2 = .ok (.invokevirtual 117, 3) := by decide +kernel
theorem dL_lineAt_5 : decode cL_lineAt 5 = .ok (.ireturn, 1) := by decide +kernel
theorem dL_lineAt_6 : decode cL_lineAt 6 = .ok (.astore_n 2, 1) := by decide +kernel
theorem dL_lineAt_7 : decode cL_lineAt 7 = .ok (.bipush (-11), 2) := by decide +kernel
theorem dL_lineAt_9 : decode cL_lineAt 9 = .ok (.ireturn, 1) := by decide +kernel
theorem mt_L_lineAt : pm_MtW yL_lineAt cL_lineAt 3 (some .int) [(0, 5, 6, 22)] 2 := ⟨pm_T_in 1479 (by decide +kernel) (by decide +kernel), pm_T_in 34 (by decide +kernel) (by decide +kernel), ⟨by decide +kernel, by decide +kernel, by decide +kernel⟩, by decide +kernel, by decide⟩
set_option maxHeartbeats 1000000 in
theorem c_L_lineAt {l : Launch} {z : Nat} {D : va_G} {kA : Nat → ClassId} {kE : Nat → Nat} {nx d2 mc2 ms2 : Nat} {M : pm_M} {x : Int32} {fs : List Value} {P : pm_Po} (hM : M 0 = some (.inr (10, fs))) (hC : pm_C l z D kA kE yX12_lineCharacter cX12_lineCharacter 2 (some .char) d2 mc2 ms2 [.ref (z + 0), .int x] nx M P)
    (hP : ∀ v n' M1, P (.inl v) n' M1 → ∃ k : Int32, v = some (.int k)) (hE : ∀ E n' M1, P (.inr E) n' M1 → E = "java/lang/IndexOutOfBoundsException") : pm_Cw l z D kA kE yL_lineAt cL_lineAt 3 (some .int) [(0, 5, 6, 22)] (d2 + 1) mc2 ms2 [.ref (z + 0), .int x] nx M (pw_wr P [("java/lang/IndexOutOfBoundsException", (-11))]) := by
  refine pm_mkW (own := RL) (nm := "lineAt") mt_L_lineAt rfl rfl rfl rfl rfl fun X B => ?_
  refine pm_loc (L' := [some (.ref (z + 0)), some (.int x), none]) rfl ?_
  refine pm_aload_n B dL_lineAt_0 rfl ?_
  refine pm_iload_n B dL_lineAt_1 rfl ?_
  refine pm_callV (As := [.int x]) (mc2 := mc2) (ms2 := ms2) (d2 := d2) B rfl hM rfl hC mt_X12_lineCharacter sv_L_117 dL_lineAt_2 rfl (Nat.ble_eq_true_of_le (Nat.le_refl _)) rfl (Nat.ble_eq_true_of_le (by omega)) (Nat.ble_eq_true_of_le (by omega)) (fun E n' M' h => ?_) (fun u n' M' h => ?_)
  · obtain rfl := hE E n' M' h
    refine pm_catch (tgt := 6) B [] ⟨0, 5, 6, 22⟩ [] rfl (fun w hw => by cases hw) rfl (by decide) (pm_T_in 721 (by decide +kernel) (by decide +kernel)) (pm_T_in 58 (by decide +kernel) (by decide +kernel)) rfl (fun q => ?_)
    refine pm_astore_n B dL_lineAt_6 rfl rfl ?_
    refine pm_bipush (v := (-11)) B dL_lineAt_7 (by decide) ?_
    exact pm_ireturn B dL_lineAt_9 rfl rfl ⟨(-11), rfl, Or.inr ⟨("java/lang/IndexOutOfBoundsException", (-11)), by simp, h, rfl⟩⟩ (Nat.ble_eq_true_of_le (by omega)) (Nat.ble_eq_true_of_le (by omega))
  · obtain ⟨k, rfl⟩ := hP u n' M' h
    exact pm_ireturn B dL_lineAt_5 rfl rfl ⟨k, rfl, Or.inl h⟩ (Nat.ble_eq_true_of_le (by omega)) (Nat.ble_eq_true_of_le (by omega))
theorem dL_undo_0 : decode cL_undo 0 = .ok (.aload_n 0, 1) := by decide +kernel
theorem dL_undo_1 : decode cL_undo 1 = .ok (.invokevirtual 129, 3) := by decide +kernel
theorem dL_undo_4 : decode cL_undo 4 = .ok (.ireturn, 1) := by decide +kernel
theorem dL_undo_5 : decode cL_undo 5 = .ok (.astore_n 1, 1) := by decide +kernel
theorem dL_undo_6 : decode cL_undo 6 = .ok (.iconst (-1), 1) := by decide +kernel
theorem dL_undo_7 : decode cL_undo 7 = .ok (.ireturn, 1) := by decide +kernel
theorem mt_L_undo : pm_MtW yL_undo cL_undo 2 (some .int) [(0, 4, 5, 105)] 1 := ⟨pm_T_in 1039 (by decide +kernel) (by decide +kernel), pm_T_in 34 (by decide +kernel) (by decide +kernel), ⟨by decide +kernel, by decide +kernel, by decide +kernel⟩, by decide +kernel, by decide⟩
set_option maxHeartbeats 1000000 in
theorem c_L_undo {l : Launch} {z : Nat} {D : va_G} {kA : Nat → ClassId} {kE : Nat → Nat} {nx d2 mc2 ms2 : Nat} {M : pm_M}  {fs : List Value} {P : pm_Po} (hM : M 0 = some (.inr (10, fs))) (hC : pm_C l z D kA kE yX12_undo cX12_undo 1 (some .int) d2 mc2 ms2 [.ref (z + 0)] nx M P)
    (hP : ∀ v n' M1, P (.inl v) n' M1 → ∃ k : Int32, v = some (.int k)) (hE : ∀ E n' M1, P (.inr E) n' M1 → E = "java/lang/IllegalStateException") : pm_Cw l z D kA kE yL_undo cL_undo 2 (some .int) [(0, 4, 5, 105)] (d2 + 1) mc2 ms2 [.ref (z + 0)] nx M (pw_wr P [("java/lang/IllegalStateException", (-1))]) := by
  refine pm_mkW (own := RL) (nm := "undo") mt_L_undo rfl rfl rfl rfl rfl fun X B => ?_
  refine pm_loc (L' := [some (.ref (z + 0)), none]) rfl ?_
  refine pm_aload_n B dL_undo_0 rfl ?_
  refine pm_callV (As := []) (mc2 := mc2) (ms2 := ms2) (d2 := d2) B rfl hM rfl hC mt_X12_undo sv_L_129 dL_undo_1 rfl (Nat.ble_eq_true_of_le (Nat.le_refl _)) rfl (Nat.ble_eq_true_of_le (by omega)) (Nat.ble_eq_true_of_le (by omega)) (fun E n' M' h => ?_) (fun u n' M' h => ?_)
  · obtain rfl := hE E n' M' h
    refine pm_catch (tgt := 5) B [] ⟨0, 4, 5, 105⟩ [] rfl (fun w hw => by cases hw) rfl (by decide) (pm_T_in 1040 (by decide +kernel) (by decide +kernel)) (pm_T_in 66 (by decide +kernel) (by decide +kernel)) rfl (fun q => ?_)
    refine pm_astore_n B dL_undo_5 rfl rfl ?_
    refine pm_iconst (v := (-1)) B dL_undo_6 (by decide) ?_
    exact pm_ireturn B dL_undo_7 rfl rfl ⟨(-1), rfl, Or.inr ⟨("java/lang/IllegalStateException", (-1)), by simp, h, rfl⟩⟩ (Nat.ble_eq_true_of_le (by omega)) (Nat.ble_eq_true_of_le (by omega))
  · obtain ⟨k, rfl⟩ := hP u n' M' h
    exact pm_ireturn B dL_undo_4 rfl rfl ⟨k, rfl, Or.inl h⟩ (Nat.ble_eq_true_of_le (by omega)) (Nat.ble_eq_true_of_le (by omega))
theorem ss_L_140 : pm_SS RL 140 yL_feed := ⟨pm_T_in 1542 (by decide +kernel) (by decide +kernel), pm_T_in 1543 (by decide +kernel) (by decide +kernel)⟩
theorem ss_L_145 : pm_SS RL 145 yL_executes := ⟨pm_T_in 1558 (by decide +kernel) (by decide +kernel), pm_T_in 1559 (by decide +kernel) (by decide +kernel)⟩
theorem ss_L_154 : pm_SS RL 154 yL_addMember := ⟨pm_T_in 377 (by decide +kernel) (by decide +kernel), pm_T_in 378 (by decide +kernel) (by decide +kernel)⟩
theorem ss_L_157 : pm_SS RL 157 yL_setSeed := ⟨pm_T_in 709 (by decide +kernel) (by decide +kernel), pm_T_in 710 (by decide +kernel) (by decide +kernel)⟩
theorem ss_L_160 : pm_SS RL 160 yL_sell := ⟨pm_T_in 718 (by decide +kernel) (by decide +kernel), pm_T_in 719 (by decide +kernel) (by decide +kernel)⟩
theorem ss_L_162 : pm_SS RL 162 yL_assign := ⟨pm_T_in 748 (by decide +kernel) (by decide +kernel), pm_T_in 749 (by decide +kernel) (by decide +kernel)⟩
theorem ss_L_164 : pm_SS RL 164 yL_audit := ⟨pm_T_in 757 (by decide +kernel) (by decide +kernel), pm_T_in 758 (by decide +kernel) (by decide +kernel)⟩
theorem ss_L_169 : pm_SS RL 169 yL_setRule := ⟨pm_T_in 772 (by decide +kernel) (by decide +kernel), pm_T_in 773 (by decide +kernel) (by decide +kernel)⟩
theorem ss_L_171 : pm_SS RL 171 yL_link := ⟨pm_T_in 781 (by decide +kernel) (by decide +kernel), pm_T_in 782 (by decide +kernel) (by decide +kernel)⟩
theorem ss_L_173 : pm_SS RL 173 yL_setThreshold := ⟨pm_T_in 790 (by decide +kernel) (by decide +kernel), pm_T_in 791 (by decide +kernel) (by decide +kernel)⟩
theorem ss_L_175 : pm_SS RL 175 yL_pardon := ⟨pm_T_in 799 (by decide +kernel) (by decide +kernel), pm_T_in 800 (by decide +kernel) (by decide +kernel)⟩
theorem ss_L_210 : pm_SS RL 210 yL_standing := ⟨pm_T_in 815 (by decide +kernel) (by decide +kernel), pm_T_in 816 (by decide +kernel) (by decide +kernel)⟩
theorem ss_L_212 : pm_SS RL 212 yL_warnings := ⟨pm_T_in 829 (by decide +kernel) (by decide +kernel), pm_T_in 830 (by decide +kernel) (by decide +kernel)⟩
theorem ss_L_214 : pm_SS RL 214 yL_barred := ⟨pm_T_in 853 (by decide +kernel) (by decide +kernel), pm_T_in 854 (by decide +kernel) (by decide +kernel)⟩
theorem ss_L_217 : pm_SS RL 217 yL_sales := ⟨pm_T_in 861 (by decide +kernel) (by decide +kernel), pm_T_in 862 (by decide +kernel) (by decide +kernel)⟩
theorem ss_L_219 : pm_SS RL 219 yL_quota := ⟨pm_T_in 868 (by decide +kernel) (by decide +kernel), pm_T_in 869 (by decide +kernel) (by decide +kernel)⟩
theorem ss_L_226 : pm_SS RL 226 yL_byExcess := ⟨pm_T_in 876 (by decide +kernel) (by decide +kernel), pm_T_in 877 (by decide +kernel) (by decide +kernel)⟩
theorem ss_L_229 : pm_SS RL 229 yL_drawnAt := ⟨pm_T_in 898 (by decide +kernel) (by decide +kernel), pm_T_in 899 (by decide +kernel) (by decide +kernel)⟩
theorem ss_L_232 : pm_SS RL 232 yL_excess := ⟨pm_T_in 907 (by decide +kernel) (by decide +kernel), pm_T_in 908 (by decide +kernel) (by decide +kernel)⟩
theorem ss_L_234 : pm_SS RL 234 yL_capacity := ⟨pm_T_in 910 (by decide +kernel) (by decide +kernel), pm_T_in 911 (by decide +kernel) (by decide +kernel)⟩
theorem ss_L_255 : pm_SS RL 255 yL_votes := ⟨pm_T_in 958 (by decide +kernel) (by decide +kernel), pm_T_in 959 (by decide +kernel) (by decide +kernel)⟩
theorem ss_L_261 : pm_SS RL 261 yL_quotaBy := ⟨pm_T_in 971 (by decide +kernel) (by decide +kernel), pm_T_in 972 (by decide +kernel) (by decide +kernel)⟩
theorem ss_L_268 : pm_SS RL 268 yL_areLinked := ⟨pm_T_in 990 (by decide +kernel) (by decide +kernel), pm_T_in 991 (by decide +kernel) (by decide +kernel)⟩
theorem ss_L_296 : pm_SS RL 296 yL_swings := ⟨pm_T_in 1068 (by decide +kernel) (by decide +kernel), pm_T_in 1069 (by decide +kernel) (by decide +kernel)⟩
theorem ss_L_298 : pm_SS RL 298 yL_byCounts := ⟨pm_T_in 1091 (by decide +kernel) (by decide +kernel), pm_T_in 1092 (by decide +kernel) (by decide +kernel)⟩
theorem ss_L_310 : pm_SS RL 310 yL_undo := ⟨pm_T_in 1037 (by decide +kernel) (by decide +kernel), pm_T_in 1038 (by decide +kernel) (by decide +kernel)⟩
theorem ss_L_312 : pm_SS RL 312 yL_share := ⟨pm_T_in 1139 (by decide +kernel) (by decide +kernel), pm_T_in 1140 (by decide +kernel) (by decide +kernel)⟩
theorem ss_L_314 : pm_SS RL 314 yL_bySteps := ⟨pm_T_in 1159 (by decide +kernel) (by decide +kernel), pm_T_in 1160 (by decide +kernel) (by decide +kernel)⟩
theorem ss_L_317 : pm_SS RL 317 yL_lineAt := ⟨pm_T_in 1477 (by decide +kernel) (by decide +kernel), pm_T_in 1478 (by decide +kernel) (by decide +kernel)⟩
theorem ss_L_344 : pm_SS RL 344 yL_writeMember := ⟨pm_T_in 1390 (by decide +kernel) (by decide +kernel), pm_T_in 1391 (by decide +kernel) (by decide +kernel)⟩
theorem ss_L_371 : pm_SS RL 371 yL_unlink := ⟨pm_T_in 1527 (by decide +kernel) (by decide +kernel), pm_T_in 1528 (by decide +kernel) (by decide +kernel)⟩
