/-! the law -/
theorem dL_law_0 : decode code 0 = .ok (.aload_n 0, 1) := by decide +kernel
theorem dL_law_1 : decode code 1 = .ok (.invokestatic 183, 3) := by decide +kernel
theorem dL_law_4 : decode code 4 = .ok (.astore_n 1, 1) := by decide +kernel
theorem dL_law_5 : decode code 5 = .ok (.aload_n 1, 1) := by decide +kernel
theorem dL_law_6 : decode code 6 = .ok (.ifnull 58, 3) := by decide +kernel
theorem dL_law_9 : decode code 9 = .ok (.aload_n 1, 1) := by decide +kernel
theorem dL_law_10 : decode code 10 = .ok (.invokestatic 187, 3) := by decide +kernel
theorem dL_law_13 : decode code 13 = .ok (.ifCond .eq 51, 3) := by decide +kernel
theorem dL_law_16 : decode code 16 = .ok (.aload_n 0, 1) := by decide +kernel
theorem dL_law_17 : decode code 17 = .ok (.aload_n 1, 1) := by decide +kernel
theorem dL_law_18 : decode code 18 = .ok (.invokestatic 191, 3) := by decide +kernel
theorem dL_law_21 : decode code 21 = .ok (.ifCond .eq 43, 3) := by decide +kernel
theorem dL_law_24 : decode code 24 = .ok (.aload_n 1, 1) := by decide +kernel
theorem dL_law_25 : decode code 25 = .ok (.invokestatic 195, 3) := by decide +kernel
theorem dL_law_28 : decode code 28 = .ok (.ifCond .eq 36, 3) := by decide +kernel
theorem dL_law_31 : decode code 31 = .ok (.aload_n 1, 1) := by decide +kernel
theorem dL_law_32 : decode code 32 = .ok (.invokestatic 198, 3) := by decide +kernel
theorem dL_law_35 : decode code 35 = .ok (.ifCond .eq 29, 3) := by decide +kernel
theorem dL_law_38 : decode code 38 = .ok (.aload_n 1, 1) := by decide +kernel
theorem dL_law_39 : decode code 39 = .ok (.invokestatic 201, 3) := by decide +kernel
theorem dL_law_42 : decode code 42 = .ok (.ifCond .eq 22, 3) := by decide +kernel
theorem dL_law_45 : decode code 45 = .ok (.aload_n 1, 1) := by decide +kernel
theorem dL_law_46 : decode code 46 = .ok (.invokestatic 204, 3) := by decide +kernel
theorem dL_law_49 : decode code 49 = .ok (.ifCond .eq 15, 3) := by decide +kernel
theorem dL_law_52 : decode code 52 = .ok (.aload_n 0, 1) := by decide +kernel
theorem dL_law_53 : decode code 53 = .ok (.aload_n 1, 1) := by decide +kernel
theorem dL_law_54 : decode code 54 = .ok (.invokestatic 207, 3) := by decide +kernel
theorem dL_law_57 : decode code 57 = .ok (.ifCond .eq 7, 3) := by decide +kernel
theorem dL_law_60 : decode code 60 = .ok (.iconst 1, 1) := by decide +kernel
theorem dL_law_61 : decode code 61 = .ok (.goto 4, 3) := by decide +kernel
theorem dL_law_64 : decode code 64 = .ok (.iconst 0, 1) := by decide +kernel
theorem dL_law_65 : decode code 65 = .ok (.ireturn, 1) := by decide +kernel
theorem pl_und {l : Launch} {z : Nat} {D : va_G} {kA : Nat → ClassId} {kE : Nat → Nat} {B : Nat} {r : Nat → Int32} {hs : List (Nat → Int32)} {ln : List Nat} : ∀ nx M, (pw_W z kA kE (B, r, hs, (0, ln)) []) nx M → pm_C l z D kA kE yL_undone cL_undone 8 (some .boolean) 50 6901 41409 [.ref (kE 70), .ref (z + 0)] nx M (pw_P (some (.int 1)) (fun _ _ => True)) := fun nx M hW => pm_Cpost (c_L_undone nx M hW) fun o n' M' hp => ⟨hp, trivial⟩
theorem pl_law {l : Launch} {z : Nat} {D : va_G} {kA : Nat → ClassId} {kE : Nat → Nat} {rt : Option FieldType} {nm : String} {tb : List ExceptionTableEntry} {X : pm_X} {Q : State → Prop} (B9 : pm_B l z D kA kE RL code 2 rt nm tb 2048 691342 7013663 X) (fin : ∀ (cu su nx : Nat) (M : pm_M), cu ≤ 691342 → su ≤ 7013663 → pm_G l z D X cu su Q nx M 65 [none, none] [.int 1]) : pw_J l z D X 691342 7013663 Q (fun nx M => nx = 0 ∧ M = fun _ => none) 691342 7013663 0 [some (.ref (kE 70)), none] [] := by
  refine pw_l (fun _ _ _ _ k => pm_aload_n B9 dL_law_0 rfl k) ?_
  refine pw_cSx (va := fun _ => some (.ref (z + 0))) (Wa := fun n nx M => 0 < n ∧ n ≤ 7 ∧ pw_D z kA kE 19404 n (0, []) [] nx M) (As := [.ref (kE 70)]) (c2 := (691342 - (300) + 0)) (s2 := (7013663 - (1600) + 0)) B9 c_L_drawn mt_L_drawn ss_L_183 dL_law_1 rfl rfl rfl (by omega) (by omega) (fun n => ?_)
  refine pw_l (fun _ _ _ _ k => pm_stk (st' := [.ref (z + 0)]) rfl k) ?_
  refine pw_and fun h0 => pw_and fun h7 => pw_dJ h7 fun r hs hr0 hI => ?_
  refine pw_l (fun _ _ _ _ k => pm_astore_n B9 dL_law_4 rfl rfl k) ?_
  refine pw_l (fun _ _ _ _ k => pm_loc (L' := [some (.ref (kE 70)), some (.ref (z + 0))]) rfl k) ?_
  refine pw_l (fun _ _ _ _ k => pm_aload_n B9 dL_law_5 rfl k) ?_
  refine pw_l (fun _ _ _ _ k => pm_ifnull B9 dL_law_6 k) ?_
  refine pw_l (fun _ _ _ _ k => pm_aload_n B9 dL_law_9 rfl k) ?_
  refine pw_cS (As := [.ref (z + 0)]) (c2 := (691342 - (616) + 0)) (s2 := (7013663 - (3496) + 0)) B9 (c_L_members hI h0) mt_L_members ss_L_187 dL_law_10 rfl rfl rfl (by omega) (by omega) ?_
  refine pw_l (fun _ _ _ _ k => pm_stk (st' := [.int 1]) rfl k) ?_
  refine pw_l (fun _ _ _ _ k => pm_if_eq (tgt := 64) B9 dL_law_13 (by decide) (fun h => absurd h ((by decide))) (fun _ => k)) ?_
  refine pw_l (fun _ _ _ _ k => pm_aload_n B9 dL_law_16 rfl k) ?_
  refine pw_l (fun _ _ _ _ k => pm_aload_n B9 dL_law_17 rfl k) ?_
  refine pw_cS (As := [.ref (kE 70), .ref (z + 0)]) (c2 := (691342 - (100258) + 0)) (s2 := (7013663 - (601358) + 0)) B9 (c_L_quotas hI h0) mt_L_quotas ss_L_191 dL_law_18 rfl rfl rfl (by omega) (by omega) ?_
  refine pw_l (fun _ _ _ _ k => pm_stk (st' := [.int 1]) rfl k) ?_
  refine pw_l (fun _ _ _ _ k => pm_if_eq (tgt := 64) B9 dL_law_21 (by decide) (fun h => absurd h ((by decide))) (fun _ => k)) ?_
  refine pw_l (fun _ _ _ _ k => pm_aload_n B9 dL_law_24 rfl k) ?_
  refine pw_cS (As := [.ref (z + 0)]) (c2 := (691342 - (133294) + 0)) (s2 := (7013663 - (799574) + 0)) B9 (c_L_watchers hI h0) mt_L_watchers ss_L_195 dL_law_25 rfl rfl rfl (by omega) (by omega) ?_
  refine pw_l (fun _ _ _ _ k => pm_stk (st' := [.int 1]) rfl k) ?_
  refine pw_l (fun _ _ _ _ k => pm_if_eq (tgt := 64) B9 dL_law_28 (by decide) (fun h => absurd h ((by decide))) (fun _ => k)) ?_
  refine pw_l (fun _ _ _ _ k => pm_aload_n B9 dL_law_31 rfl k) ?_
  refine pw_cS (As := [.ref (z + 0)]) (c2 := (691342 - (177027) + 0)) (s2 := (7013663 - (1061961) + 0)) B9 (c_L_coalitions hI) mt_L_coalitions ss_L_198 dL_law_32 rfl rfl rfl (by omega) (by omega) ?_
  refine pw_l (fun _ _ _ _ k => pm_stk (st' := [.int 1]) rfl k) ?_
  refine pw_ex fun hs2 => ?_
  have hI2 : pm_I (19404 + 693) n r := pm_I_le (by omega) hI
  refine pw_l (fun _ _ _ _ k => pm_if_eq (tgt := 64) B9 dL_law_35 (by decide) (fun h => absurd h ((by decide))) (fun _ => k)) ?_
  refine pw_l (fun _ _ _ _ k => pm_aload_n B9 dL_law_38 rfl k) ?_
  refine pw_cS (As := [.ref (z + 0)]) (c2 := (691342 - (195657) + 0)) (s2 := (7013663 - (1173741) + 0)) B9 (c_L_fines hI2 h0) mt_L_fines ss_L_201 dL_law_39 rfl rfl rfl (by omega) (by omega) ?_
  refine pw_l (fun _ _ _ _ k => pm_stk (st' := [.int 1]) rfl k) ?_
  refine pw_l (fun _ _ _ _ k => pm_if_eq (tgt := 64) B9 dL_law_42 (by decide) (fun h => absurd h ((by decide))) (fun _ => k)) ?_
  refine pw_l (fun _ _ _ _ k => pm_aload_n B9 dL_law_45 rfl k) ?_
  refine pw_cSx (As := [.ref (z + 0)]) (c2 := (691342 - (196157) + 0)) (s2 := (7013663 - (1178701) + 0)) B9 (c_L_lines hI2) mt_L_lines ss_L_204 dL_law_46 rfl rfl rfl (by omega) (by omega) (fun ln2 => ?_)
  refine pw_l (fun _ _ _ _ k => pm_stk (st' := [.int 1]) rfl k) ?_
  refine pw_l (fun _ _ _ _ k => pm_if_eq (tgt := 64) B9 dL_law_49 (by decide) (fun h => absurd h ((by decide))) (fun _ => k)) ?_
  refine pw_l (fun _ _ _ _ k => pm_aload_n B9 dL_law_52 rfl k) ?_
  refine pw_l (fun _ _ _ _ k => pm_aload_n B9 dL_law_53 rfl k) ?_
  refine pw_cS (As := [.ref (kE 70), .ref (z + 0)]) (c2 := (691342 - (203058) + 0)) (s2 := (7013663 - (1220110) + 0)) B9 (pl_und) mt_L_undone ss_L_207 dL_law_54 rfl rfl rfl (by omega) (by omega) ?_
  refine pw_l (fun _ _ _ _ k => pm_stk (st' := [.int 1]) rfl k) ?_
  refine pw_l (fun _ _ _ _ k => pm_if_eq (tgt := 64) B9 dL_law_57 (by decide) (fun h => absurd h ((by decide))) (fun _ => k)) ?_
  refine pw_l (fun _ _ _ _ k => pm_iconst (v := 1) B9 dL_law_60 (by decide) k) ?_
  refine pw_l (fun _ _ _ _ k => pm_goto (tgt := 65) B9 dL_law_61 (by decide) k) ?_
  refine pw_l (fun _ _ _ _ k => pm_wk (L' := [none, none]) trivial k) ?_
  exact fun cu su nx M h1 h2 _ => fin cu su nx M (by omega) (by omega)
