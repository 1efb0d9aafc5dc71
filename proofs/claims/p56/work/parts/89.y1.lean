theorem pw_lbw {l : Launch} {z : Nat} {D : va_G} {X : pm_X} {mc ms : Nat} {Q : State → Prop} {W : Nat → pm_M → Prop} {c s pc pc2 : Nat} {L L2 : List (Option Value)} {st st2 : List Value} (h : ∀ (cu su nx : Nat) (M : pm_M), cu ≤ mc → su ≤ ms → W nx M → pm_G l z D X cu su Q nx M pc2 L2 st2 → pm_G l z D X cu su Q nx M pc L st) (k : pw_J l z D X mc ms Q W c s pc2 L2 st2) : pw_J l z D X mc ms Q W c s pc L st :=
  fun cu su nx M h1 h2 hW => h cu su nx M (by omega) (by omega) hW (k cu su nx M h1 h2 hW)
theorem sv_L_132 : pm_SV RL 132 yJ0_length_8abf5 := ⟨pm_T_in 1476 (by decide +kernel) (by decide +kernel), pm_T_in 1281 (by decide +kernel) (by decide +kernel), pm_T_in 1282 (by decide +kernel) (by decide +kernel)⟩
theorem sv_L_137 : pm_SV RL 137 yJ0_charAt_5068e := ⟨pm_T_in 1495 (by decide +kernel) (by decide +kernel), pm_T_in 1496 (by decide +kernel) (by decide +kernel), pm_T_in 1497 (by decide +kernel) (by decide +kernel)⟩
theorem dL_execute_0 : decode cL_execute 0 = .ok (.iconst 0, 1) := by decide +kernel
theorem dL_execute_1 : decode cL_execute 1 = .ok (.istore_n 2, 1) := by decide +kernel
theorem dL_execute_2 : decode cL_execute 2 = .ok (.iload_n 2, 1) := by decide +kernel
theorem dL_execute_3 : decode cL_execute 3 = .ok (.aload_n 1, 1) := by decide +kernel
theorem dL_execute_4 : decode cL_execute 4 = .ok (.invokevirtual 132, 3) := by decide +kernel
theorem dL_execute_7 : decode cL_execute 7 = .ok (.if_icmp .ge 27, 3) := by decide +kernel
theorem dL_execute_10 : decode cL_execute 10 = .ok (.aload_n 0, 1) := by decide +kernel
theorem dL_execute_11 : decode cL_execute 11 = .ok (.aload_n 1, 1) := by decide +kernel
theorem dL_execute_12 : decode cL_execute 12 = .ok (.iload_n 2, 1) := by decide +kernel
theorem dL_execute_13 : decode cL_execute 13 = .ok (.invokevirtual 137, 3) := by decide +kernel
theorem dL_execute_16 : decode cL_execute 16 = .ok (.invokestatic 140, 3) := by decide +kernel
theorem dL_execute_19 : decode cL_execute 19 = .ok (.iload_n 2, 1) := by decide +kernel
theorem dL_execute_20 : decode cL_execute 20 = .ok (.iconst 1, 1) := by decide +kernel
theorem dL_execute_21 : decode cL_execute 21 = .ok (.iadd, 1) := by decide +kernel
theorem dL_execute_22 : decode cL_execute 22 = .ok (.if_icmp .eq 6, 3) := by decide +kernel
theorem dL_execute_25 : decode cL_execute 25 = .ok (.bipush (-9), 2) := by decide +kernel
theorem dL_execute_27 : decode cL_execute 27 = .ok (.ireturn, 1) := by decide +kernel
theorem dL_execute_28 : decode cL_execute 28 = .ok (.iinc 2 1, 3) := by decide +kernel
theorem dL_execute_31 : decode cL_execute 31 = .ok (.goto (-29), 3) := by decide +kernel
theorem dL_execute_34 : decode cL_execute 34 = .ok (.aload_n 0, 1) := by decide +kernel
theorem dL_execute_35 : decode cL_execute 35 = .ok (.invokestatic 145, 3) := by decide +kernel
theorem dL_execute_38 : decode cL_execute 38 = .ok (.ireturn, 1) := by decide +kernel
theorem mt_L_execute : pm_Mt yL_execute cL_execute 3 (some .int) 2 := ⟨pm_T_in 1541 (by decide +kernel) (by decide +kernel), pm_T_in 34 (by decide +kernel) (by decide +kernel), ⟨by decide +kernel, by decide +kernel, by decide +kernel⟩, by decide +kernel, by decide⟩
set_option maxHeartbeats 4000000 in
theorem c_L_execute {l : Launch} {z : Nat} {D : va_G} {kA : Nat → ClassId} {kE : Nat → Nat} {B n : Nat} {r : Nat → Int32} {hs : List (Nat → Int32)} {ln : List Nat} {ar : List (Nat × va_E)} {s v N : Nat} {hx hy : Int32} {f : Nat → Int32} (hI : pm_I B n r) (hN : N ≤ 60) (hf : ∀ i, i < N → ∃ q, q < 128 ∧ f i = nI q) : ∀ nx M, (pw_W z kA kE (B, r, hs, (0, ln)) ((s, .inr (11, [.ref (z + v), .int 0, .int hx, .int hy])) :: (v, .inl (kA 4, N, .inl f)) :: ar)) nx M → pm_C l z D kA kE yL_execute cL_execute 3 (some .int) 40 145 798 [.ref (z + 0), .ref (z + s)] nx M (fun o n' M' => ∃ w, o = .inl (some (.int w)) ∧ pw_eg z kA kE B r hs (N, ln) ((s, .inr (11, [.ref (z + v), .int 0, .int hx, .int hy])) :: (v, .inl (kA 4, N, .inl f)) :: ar) w n' M') := by
  refine pw_mk (own := RL) (nm := "execute") mt_L_execute rfl rfl rfl rfl fun X B9 => ?_
  refine pw_l (fun _ _ _ _ k => pm_loc (L' := [some (.ref (z + 0)), some (.ref (z + s)), none]) rfl k) ?_
  have out : ∀ k i, i + k = N → pw_J l z D X 145 798 (pm_Q z D (fun o n' M' => ∃ w, o = .inl (some (.int w)) ∧ pw_eg z kA kE B r hs (N, ln) ((s, .inr (11, [.ref (z + v), .int 0, .int hx, .int hy])) :: (v, .inl (kA 4, N, .inl f)) :: ar) w n' M') 145 798 X) (pw_W z kA kE (B, r, hs, (i, ln)) ((s, .inr (11, [.ref (z + v), .int 0, .int hx, .int hy])) :: (v, .inl (kA 4, N, .inl f)) :: ar)) (2 * k + 25 - (0) + 0) (12 * k + 78 - (0) + 0) 2 [some (.ref (z + 0)), some (.ref (z + s)), some (.int (nI i))] [] := by
    intro k
    induction k with
    | zero =>
      intro i hik
      obtain rfl : i = N := by omega
      refine pw_l (fun _ _ _ _ k => pm_iload_n B9 dL_execute_2 rfl k) ?_
      refine pw_l (fun _ _ _ _ k => pm_aload_n B9 dL_execute_3 rfl k) ?_
      refine pw_lbw (fun _ _ _ _ hc hs hW k => pm_cV (As := []) (mc2 := 0) (ms2 := 0) B9 rfl (pw_at hW 0 rfl) rfl (c_J0_length_8abf5_h (pw_at hW 0 rfl) (pw_at hW 1 rfl) (by omega)) mt_J0_length_8abf5 sv_L_132 dL_execute_4 rfl rfl rfl (Nat.ble_eq_true_of_le hc) (Nat.ble_eq_true_of_le hs) k) ?_
      refine pw_l (fun _ _ _ _ k => pm_stk (st' := [.int (nI i), .int (nI i)]) rfl k) ?_
      refine pw_l (fun _ _ _ _ k => pm_icmp_ge (tgt := 34) B9 dL_execute_7 (by decide) (fun _ => k) (fun h => absurd ((Int32.le_refl _)) h)) ?_
      refine pw_l (fun _ _ _ _ k => pm_aload_n B9 dL_execute_34 rfl k) ?_
      refine pw_cSWx (As := [.ref (z + 0)]) (c2 := (2 * 0 + 25 - (25) + 0)) (s2 := (12 * 0 + 78 - (78) + 0)) B9 (b_L_executes hI) mt_L_executes ss_L_145 dL_execute_35 rfl rfl rfl (by omega) (by omega) (fun w => ?_)
      refine pw_l (fun _ _ _ _ k => pm_stk (st' := [.int w]) rfl k) ?_
      exact fun cu su nx M h1 h2 hW => pm_ireturn B9 dL_execute_38 rfl (rfl) ⟨_, rfl, hW⟩ (Nat.ble_eq_true_of_le (by omega)) (Nat.ble_eq_true_of_le (by omega))
    | succ k ih =>
      intro i hik
      have hiN : i < N := by omega
      obtain ⟨q, hq2, hq⟩ := hf i hiN
      refine pw_l (fun _ _ _ _ k => pm_iload_n B9 dL_execute_2 rfl k) ?_
      refine pw_l (fun _ _ _ _ k => pm_aload_n B9 dL_execute_3 rfl k) ?_
      refine pw_lbw (fun _ _ _ _ hc hs hW k => pm_cV (As := []) (mc2 := 0) (ms2 := 0) B9 rfl (pw_at hW 0 rfl) rfl (c_J0_length_8abf5_h (pw_at hW 0 rfl) (pw_at hW 1 rfl) (by omega)) mt_J0_length_8abf5 sv_L_132 dL_execute_4 rfl rfl rfl (Nat.ble_eq_true_of_le hc) (Nat.ble_eq_true_of_le hs) k) ?_
      refine pw_l (fun _ _ _ _ k => pm_stk (st' := [.int (nI N), .int (nI i)]) rfl k) ?_
      refine pw_l (fun _ _ _ _ k => pm_icmp_ge (tgt := 34) B9 dL_execute_7 (by decide) (fun h => absurd h ((fun e => absurd ((nI_leI (a := N) (b := i) (by omega) (by omega)).mp e) (by omega)))) (fun _ => k)) ?_
      refine pw_l (fun _ _ _ _ k => pm_aload_n B9 dL_execute_10 rfl k) ?_
      refine pw_l (fun _ _ _ _ k => pm_aload_n B9 dL_execute_11 rfl k) ?_
      refine pw_l (fun _ _ _ _ k => pm_iload_n B9 dL_execute_12 rfl k) ?_
      refine pw_lbw (fun _ _ _ _ hc hs hW k => pm_cV (As := [.int (nI i)]) (mc2 := 0) (ms2 := 0) B9 rfl (pw_at hW 0 rfl) rfl (c_J0_charAt_5068e_h (pw_at hW 0 rfl) (pw_at hW 1 rfl) hiN (by omega) hq (by omega)) mt_J0_charAt_5068e sv_L_137 dL_execute_13 rfl rfl rfl (Nat.ble_eq_true_of_le hc) (Nat.ble_eq_true_of_le hs) k) ?_
      refine pw_l (fun _ _ _ _ k => pm_stk (st' := [.int (nI q), .ref (z + 0)]) rfl k) ?_
      refine pw_cSW (As := [.ref (z + 0), .int (nI q)]) (c2 := (2 * (k + 1) + 25 - (2) + 0)) (s2 := (12 * (k + 1) + 78 - (12) + 0)) B9 (b_L_feed (t := i) (by omega)) mt_L_feed ss_L_140 dL_execute_16 rfl rfl rfl (by omega) (by omega) ?_
      refine pw_l (fun _ _ _ _ k => pm_stk (st' := [.int (nI (i + 1))]) rfl k) ?_
      refine pw_l (fun _ _ _ _ k => pm_iload_n B9 dL_execute_19 rfl k) ?_
      refine pw_l (fun _ _ _ _ k => pm_iconst (v := 1) B9 dL_execute_20 (by decide) k) ?_
      refine pw_l (fun _ _ _ _ k => pm_iadd B9 dL_execute_21 k) ?_
      refine pw_l (fun _ _ _ _ k => pm_icmp_eq (tgt := 28) B9 dL_execute_22 (by decide) (fun _ => k) (fun h => absurd ((by rw [nI_1])) h)) ?_
      refine pw_l (fun _ _ _ _ k => pm_iinc B9 dL_execute_28 rfl rfl rfl k) ?_
      refine pw_l (fun _ _ _ _ k => pm_loc (L' := [some (.ref (z + 0)), some (.ref (z + s)), some (.int (nI (i + 1)))]) (by rw [show ((nI i) : Int32) + Int32.ofInt 1 = (nI (i + 1)) from nI_1 _]; rfl) k) ?_
      refine pw_l (fun _ _ _ _ k => pm_goto (tgt := 2) B9 dL_execute_31 (by decide) k) ?_
      exact pw_cr (by omega) (by omega) (ih (i + 1) (by omega))
  refine pw_l (fun _ _ _ _ k => pm_iconst (v := 0) B9 dL_execute_0 (by decide) k) ?_
  refine pw_l (fun _ _ _ _ k => pm_istore_n B9 dL_execute_1 rfl rfl k) ?_
  refine pw_l (fun _ _ _ _ k => pm_loc (L' := [some (.ref (z + 0)), some (.ref (z + s)), some (.int 0)]) rfl k) ?_
  refine pw_l (fun _ _ _ _ k => pm_loc (L' := [some (.ref (z + 0)), some (.ref (z + s)), some (.int (nI 0))]) rfl k) ?_
  exact pw_cr (by omega) (by omega) (out N 0 (by omega))
