/-! a change's two ways; thresholdOf -/
theorem pw_cgJ {l : Launch} {z : Nat} {D : va_G} {X : pm_X} {mc ms : Nat} {Q : State → Prop} {c1 s1 pc : Nat} {L : List (Option Value)} {st : List Value} {kA : Nat → ClassId} {kE : Nat → Nat} {B n : Nat} {r : Nat → Int32} {hs : List (Nat → Int32)} {u : Nat × List Nat} {ar : List (Nat × va_E)} {c : Nat} {x y v : Int32} {h : List (String × Int32)}
    (k1 : (d_X7_ref c x y n r).1 = 0 → ∀ r', pw_ok c n v r r' → pw_J l z D X mc ms Q (pw_W z kA kE (B + 693, r', (r :: hs).take 8, u) ar) c1 s1 pc L st)
    (k2 : ¬ (d_X7_ref c x y n r).1 = 0 → ∀ e ∈ h, e.1 = pw_xc (d_X7_ref c x y n r).1 → v = e.2 → pw_J l z D X mc ms Q (pw_W z kA kE (B, r, hs, u) ar) c1 s1 pc L st) : pw_J l z D X mc ms Q (pw_cg z kA kE B n r hs u ar c x y h v) c1 s1 pc L st := by
  intro cu su nx M h1 h2 hW
  rcases hW with ⟨h0, r', h3, h4⟩ | ⟨h0, ⟨e, he, h5, h6⟩, h4⟩
  · exact k1 h0 r' h3 cu su nx M h1 h2 h4
  · exact k2 h0 e he h5 h6 cu su nx M h1 h2 h4
theorem pw_th {n : Nat} {r : Nat → Int32} (h : ¬ (d_X7_ref 9 99 0 n r).1 = 0) : r 3 = 99 ∧ (d_X7_ref 9 99 0 n r).1 = 7 := by
  by_cases e : (99 : Int32) = r 3
  · have key : d_X7_refusalOfValue 99 1 99 (r 3) = (7, r 3) := by
      unfold d_X7_refusalOfValue
      rw [if_neg (show ¬ pm_in 99 1 99 = 0 by decide), if_pos e]
    refine ⟨e.symm, ?_⟩
    simp only [d_X7_ref, d_X7_refusal9, key]
    rfl
  · exfalso
    have key : d_X7_refusalOfValue 99 1 99 (r 3) = (0, 0) := by
      unfold d_X7_refusalOfValue
      rw [if_neg (show ¬ pm_in 99 1 99 = 0 by decide), if_neg e]
    apply h
    simp only [d_X7_ref, d_X7_refusal9, key]
    rfl

theorem dL_thresholdOf_0 : decode cL_thresholdOf 0 = .ok (.aload_n 0, 1) := by decide +kernel
theorem dL_thresholdOf_1 : decode cL_thresholdOf 1 = .ok (.bipush 99, 2) := by decide +kernel
theorem dL_thresholdOf_3 : decode cL_thresholdOf 3 = .ok (.invokestatic 173, 3) := by decide +kernel
theorem dL_thresholdOf_6 : decode cL_thresholdOf 6 = .ok (.istore_n 1, 1) := by decide +kernel
theorem dL_thresholdOf_7 : decode cL_thresholdOf 7 = .ok (.iload_n 1, 1) := by decide +kernel
theorem dL_thresholdOf_8 : decode cL_thresholdOf 8 = .ok (.bipush (-2), 2) := by decide +kernel
theorem dL_thresholdOf_10 : decode cL_thresholdOf 10 = .ok (.if_icmp .ne 6, 3) := by decide +kernel
theorem dL_thresholdOf_13 : decode cL_thresholdOf 13 = .ok (.bipush 99, 2) := by decide +kernel
theorem dL_thresholdOf_15 : decode cL_thresholdOf 15 = .ok (.ireturn, 1) := by decide +kernel
theorem dL_thresholdOf_16 : decode cL_thresholdOf 16 = .ok (.aload_n 0, 1) := by decide +kernel
theorem dL_thresholdOf_17 : decode cL_thresholdOf 17 = .ok (.invokestatic 310, 3) := by decide +kernel
theorem dL_thresholdOf_20 : decode cL_thresholdOf 20 = .ok (.ifCond .ge 7, 3) := by decide +kernel
theorem dL_thresholdOf_23 : decode cL_thresholdOf 23 = .ok (.iconst (-1), 1) := by decide +kernel
theorem dL_thresholdOf_24 : decode cL_thresholdOf 24 = .ok (.goto 4, 3) := by decide +kernel
theorem dL_thresholdOf_27 : decode cL_thresholdOf 27 = .ok (.iload_n 1, 1) := by decide +kernel
theorem dL_thresholdOf_28 : decode cL_thresholdOf 28 = .ok (.ireturn, 1) := by decide +kernel
theorem mt_L_thresholdOf : pm_Mt yL_thresholdOf cL_thresholdOf 2 (some .int) 1 := ⟨pm_T_in 1036 (by decide +kernel) (by decide +kernel), pm_T_in 34 (by decide +kernel) (by decide +kernel), ⟨by decide +kernel, by decide +kernel, by decide +kernel⟩, by decide +kernel, by decide⟩
theorem c_L_thresholdOf {l : Launch} {z : Nat} {D : va_G} {kA : Nat → ClassId} {kE : Nat → Nat} {B n : Nat} {r : Nat → Int32} {hs : List (Nat → Int32)} {u : Nat × List Nat} {ar : List (Nat × va_E)} (hI : pm_I B n r) : ∀ nx M, (pw_W z kA kE (B, r, hs, u) ar) nx M → pm_C l z D kA kE yL_thresholdOf cL_thresholdOf 2 (some .int) 40 6 24 [.ref (z + 0)] nx M (pw_P (some (.int (r 3))) (fun nx M => ∃ hs', pw_W z kA kE (B + 693, r, hs', u) ar nx M)) := by
  refine pw_mk (own := RL) (nm := "thresholdOf") mt_L_thresholdOf rfl rfl rfl rfl fun X B9 => ?_
  refine pw_l (fun _ _ _ _ k => pm_loc (L' := [some (.ref (z + 0)), none]) rfl k) ?_
  refine pw_l (fun _ _ _ _ k => pm_aload_n B9 dL_thresholdOf_0 rfl k) ?_
  refine pw_l (fun _ _ _ _ k => pm_bipush (v := 99) B9 dL_thresholdOf_1 (by decide) k) ?_
  refine pw_cSWx (As := [.ref (z + 0), .int 99]) (c2 := (6 - (3) + 0)) (s2 := (24 - (12) + 0)) B9 (b_L_setThreshold hI) mt_L_setThreshold ss_L_173 dL_thresholdOf_3 rfl rfl rfl (by omega) (by omega) (fun v9 => ?_)
  refine pw_l (fun _ _ _ _ k => pm_stk (st' := [.int v9]) rfl k) ?_
  refine pw_cgJ (fun h0 r2 hk => ?_) (fun h0 e9 he9 hx9 hv9 => ?_)
  · refine pw_eq (W' := (pw_W z kA kE (B + 693, r2, r :: hs.take 7, u) ar)) rfl rfl rfl ?_
    have ev : v9 = r 3 := hk.2.2.2 rfl
    refine pw_l (fun _ _ _ _ k => pm_istore_n B9 dL_thresholdOf_6 rfl rfl k) ?_
    refine pw_l (fun _ _ _ _ k => pm_loc (L' := [some (.ref (z + 0)), some (.int v9)]) rfl k) ?_
    refine pw_l (fun _ _ _ _ k => pm_iload_n B9 dL_thresholdOf_7 rfl k) ?_
    refine pw_l (fun _ _ _ _ k => pm_bipush (v := (-2)) B9 dL_thresholdOf_8 (by decide) k) ?_
    refine pw_l (fun _ _ _ _ k => pm_icmp_ne (tgt := 16) B9 dL_thresholdOf_10 (by decide) (fun _ => k) (fun h => absurd h (fun e => hk.1 (by rw [e]; decide)))) ?_
    refine pw_l (fun _ _ _ _ k => pm_aload_n B9 dL_thresholdOf_16 rfl k) ?_
    refine pw_cSW (As := [.ref (z + 0)]) (c2 := (6 - (6) + 0)) (s2 := (24 - (24) + 0)) B9 (b_L_undo (n := n)) mt_L_undo ss_L_310 dL_thresholdOf_17 rfl rfl rfl (by omega) (by omega) ?_
    refine pw_l (fun _ _ _ _ k => pm_stk (st' := [.int (nI (hs.take 7).length)]) rfl k) ?_
    refine pw_l (fun _ _ _ _ k => pm_if_ge (tgt := 27) B9 dL_thresholdOf_20 (by decide) (fun _ => k) (fun h => absurd (show nI 0 ≤ nI (hs.take 7).length from (nI_leI (by omega) (by rw [List.length_take]; omega)).mpr (Nat.zero_le _)) h)) ?_
    refine pw_l (fun _ _ _ _ k => pm_iload_n B9 dL_thresholdOf_27 rfl k) ?_
    exact fun cu su nx M h1 h2 hW => pm_ireturn B9 dL_thresholdOf_28 rfl (rfl) ⟨by rw [ev], _, hW⟩ (Nat.ble_eq_true_of_le (by omega)) (Nat.ble_eq_true_of_le (by omega))
  · obtain ⟨ht, hd⟩ := pw_th h0
    rw [hd] at hx9
    have ev : v9 = -2 := by
      rw [hv9]
      simp only [List.mem_cons, List.not_mem_nil, or_false] at he9
      rcases he9 with rfl | rfl
      · exact absurd hx9 (by decide)
      · rfl
    refine pw_l (fun _ _ _ _ k => pm_istore_n B9 dL_thresholdOf_6 rfl rfl k) ?_
    refine pw_l (fun _ _ _ _ k => pm_loc (L' := [some (.ref (z + 0)), some (.int v9)]) rfl k) ?_
    refine pw_l (fun _ _ _ _ k => pm_iload_n B9 dL_thresholdOf_7 rfl k) ?_
    refine pw_l (fun _ _ _ _ k => pm_bipush (v := (-2)) B9 dL_thresholdOf_8 (by decide) k) ?_
    refine pw_l (fun _ _ _ _ k => pm_icmp_ne (tgt := 16) B9 dL_thresholdOf_10 (by decide) (fun h => absurd (ev) h) (fun _ => k)) ?_
    refine pw_l (fun _ _ _ _ k => pm_bipush (v := 99) B9 dL_thresholdOf_13 (by decide) k) ?_
    exact fun cu su nx M h1 h2 hW => pm_ireturn B9 dL_thresholdOf_15 rfl (rfl) ⟨by rw [ht], hs, pw_WB (by omega) hW⟩ (Nat.ble_eq_true_of_le (by omega)) (Nat.ble_eq_true_of_le (by omega))
