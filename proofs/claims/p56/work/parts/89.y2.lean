theorem dL_spells_0 : decode cL_spells 0 = .ok (.iload_n 1, 1) := by decide +kernel
theorem dL_spells_1 : decode cL_spells 1 = .ok (.aload_n 2, 1) := by decide +kernel
theorem dL_spells_2 : decode cL_spells 2 = .ok (.invokevirtual 132, 3) := by decide +kernel
theorem dL_spells_5 : decode cL_spells 5 = .ok (.if_icmp .ne 7, 3) := by decide +kernel
theorem dL_spells_8 : decode cL_spells 8 = .ok (.iconst 1, 1) := by decide +kernel
theorem dL_spells_9 : decode cL_spells 9 = .ok (.goto 4, 3) := by decide +kernel
theorem dL_spells_12 : decode cL_spells 12 = .ok (.iconst 0, 1) := by decide +kernel
theorem dL_spells_13 : decode cL_spells 13 = .ok (.istore_n 3, 1) := by decide +kernel
theorem dL_spells_14 : decode cL_spells 14 = .ok (.iconst 0, 1) := by decide +kernel
theorem dL_spells_15 : decode cL_spells 15 = .ok (.istore 4, 2) := by decide +kernel
theorem dL_spells_17 : decode cL_spells 17 = .ok (.iload 4, 2) := by decide +kernel
theorem dL_spells_19 : decode cL_spells 19 = .ok (.aload_n 2, 1) := by decide +kernel
theorem dL_spells_20 : decode cL_spells 20 = .ok (.invokevirtual 132, 3) := by decide +kernel
theorem dL_spells_23 : decode cL_spells 23 = .ok (.if_icmp .ge 34, 3) := by decide +kernel
theorem dL_spells_26 : decode cL_spells 26 = .ok (.iload_n 3, 1) := by decide +kernel
theorem dL_spells_27 : decode cL_spells 27 = .ok (.ifCond .eq 30, 3) := by decide +kernel
theorem dL_spells_30 : decode cL_spells 30 = .ok (.aload_n 0, 1) := by decide +kernel
theorem dL_spells_31 : decode cL_spells 31 = .ok (.iload 4, 2) := by decide +kernel
theorem dL_spells_33 : decode cL_spells 33 = .ok (.invokestatic 317, 3) := by decide +kernel
theorem dL_spells_36 : decode cL_spells 36 = .ok (.aload_n 2, 1) := by decide +kernel
theorem dL_spells_37 : decode cL_spells 37 = .ok (.iload 4, 2) := by decide +kernel
theorem dL_spells_39 : decode cL_spells 39 = .ok (.invokevirtual 137, 3) := by decide +kernel
theorem dL_spells_42 : decode cL_spells 42 = .ok (.if_icmp .ne 7, 3) := by decide +kernel
theorem dL_spells_45 : decode cL_spells 45 = .ok (.iconst 1, 1) := by decide +kernel
theorem dL_spells_46 : decode cL_spells 46 = .ok (.goto 4, 3) := by decide +kernel
theorem dL_spells_49 : decode cL_spells 49 = .ok (.iconst 0, 1) := by decide +kernel
theorem dL_spells_50 : decode cL_spells 50 = .ok (.istore_n 3, 1) := by decide +kernel
theorem dL_spells_51 : decode cL_spells 51 = .ok (.iinc 4 1, 3) := by decide +kernel
theorem dL_spells_54 : decode cL_spells 54 = .ok (.goto (-37), 3) := by decide +kernel
theorem dL_spells_57 : decode cL_spells 57 = .ok (.iload_n 3, 1) := by decide +kernel
theorem dL_spells_58 : decode cL_spells 58 = .ok (.ifCond .eq 17, 3) := by decide +kernel
theorem dL_spells_61 : decode cL_spells 61 = .ok (.aload_n 0, 1) := by decide +kernel
theorem dL_spells_62 : decode cL_spells 62 = .ok (.iload_n 1, 1) := by decide +kernel
theorem dL_spells_63 : decode cL_spells 63 = .ok (.invokestatic 317, 3) := by decide +kernel
theorem dL_spells_66 : decode cL_spells 66 = .ok (.bipush (-11), 2) := by decide +kernel
theorem dL_spells_68 : decode cL_spells 68 = .ok (.if_icmp .ne 7, 3) := by decide +kernel
theorem dL_spells_71 : decode cL_spells 71 = .ok (.iconst 1, 1) := by decide +kernel
theorem dL_spells_72 : decode cL_spells 72 = .ok (.goto 4, 3) := by decide +kernel
theorem dL_spells_75 : decode cL_spells 75 = .ok (.iconst 0, 1) := by decide +kernel
theorem dL_spells_76 : decode cL_spells 76 = .ok (.ireturn, 1) := by decide +kernel
theorem mt_L_spells : pm_Mt yL_spells cL_spells 5 (some .boolean) 3 := ⟨pm_T_in 1475 (by decide +kernel) (by decide +kernel), pm_T_in 34 (by decide +kernel) (by decide +kernel), ⟨by decide +kernel, by decide +kernel, by decide +kernel⟩, by decide +kernel, by decide⟩
set_option maxHeartbeats 4000000 in
theorem c_L_spells {l : Launch} {z : Nat} {D : va_G} {kA : Nat → ClassId} {kE : Nat → Nat} {B t : Nat} {r : Nat → Int32} {hs : List (Nat → Int32)} {ln : List Nat} {ar : List (Nat × va_E)} {s v : Nat} {hx hy : Int32} {f : Nat → Int32} (hN : ln.length ≤ 16) (hf : ∀ i, i < ln.length → f i = nI (ln.getD i 0) ∧ ln.getD i 0 < 128) : ∀ nx M, (pw_W z kA kE (B, r, hs, (t, ln)) ((s, .inr (11, [.ref (z + v), .int 0, .int hx, .int hy])) :: (v, .inl (kA 4, ln.length, .inl f)) :: ar)) nx M → pm_C l z D kA kE yL_spells cL_spells 5 (some .boolean) 40 17 102 [.ref (z + 0), .int (nI ln.length), .ref (z + s)] nx M (pw_P (some (.int 1)) (pw_W z kA kE (B, r, hs, (t, ln)) ((s, .inr (11, [.ref (z + v), .int 0, .int hx, .int hy])) :: (v, .inl (kA 4, ln.length, .inl f)) :: ar))) := by
  refine pw_mk (own := RL) (nm := "spells") mt_L_spells rfl rfl rfl rfl fun X B9 => ?_
  refine pw_l (fun _ _ _ _ k => pm_loc (L' := [some (.ref (z + 0)), some (.int (nI ln.length)), some (.ref (z + s)), none, none]) rfl k) ?_
  have out : ∀ k i, i + k = ln.length → pw_J l z D X 17 102 (pm_Q z D (pw_P (some (.int 1)) (pw_W z kA kE (B, r, hs, (t, ln)) ((s, .inr (11, [.ref (z + v), .int 0, .int hx, .int hy])) :: (v, .inl (kA 4, ln.length, .inl f)) :: ar))) 17 102 X) (pw_W z kA kE (B, r, hs, (t, ln)) ((s, .inr (11, [.ref (z + v), .int 0, .int hx, .int hy])) :: (v, .inl (kA 4, ln.length, .inl f)) :: ar)) (k + 1 - (0) + 0) (6 * k + 6 - (0) + 0) 17 [some (.ref (z + 0)), some (.int (nI ln.length)), some (.ref (z + s)), some (.int 1), some (.int (nI i))] [] := by
    intro k
    induction k with
    | zero =>
      intro i hik
      refine pw_l (fun _ _ _ _ k => pm_iload B9 dL_spells_17 rfl k) ?_
      refine pw_l (fun _ _ _ _ k => pm_aload_n B9 dL_spells_19 rfl k) ?_
      refine pw_lbw (fun _ _ _ _ hc hs hW k => pm_cV (As := []) (mc2 := 0) (ms2 := 0) B9 rfl (pw_at hW 0 rfl) rfl (c_J0_length_8abf5_h (pw_at hW 0 rfl) (pw_at hW 1 rfl) (by omega)) mt_J0_length_8abf5 sv_L_132 dL_spells_20 rfl rfl rfl (Nat.ble_eq_true_of_le hc) (Nat.ble_eq_true_of_le hs) k) ?_
      refine pw_l (fun _ _ _ _ k => pm_stk (st' := [.int (nI ln.length), .int (nI i)]) rfl k) ?_
      refine pw_l (fun _ _ _ _ k => pm_icmp_ge (tgt := 57) B9 dL_spells_23 (by decide) (fun _ => k) (fun h => absurd ((by rw [show i = ln.length by omega]; exact Int32.le_refl _)) h)) ?_
      refine pw_l (fun _ _ _ _ k => pm_iload_n B9 dL_spells_57 rfl k) ?_
      refine pw_l (fun _ _ _ _ k => pm_if_eq (tgt := 75) B9 dL_spells_58 (by decide) (fun h => absurd h (by decide)) (fun _ => k)) ?_
      refine pw_l (fun _ _ _ _ k => pm_aload_n B9 dL_spells_61 rfl k) ?_
      refine pw_l (fun _ _ _ _ k => pm_iload_n B9 dL_spells_62 rfl k) ?_
      refine pw_cSW (As := [.ref (z + 0), .int (nI ln.length)]) (c2 := (0 + 1 - (1) + 0)) (s2 := (6 * 0 + 6 - (6) + 0)) B9 (b_L_lineAt_n (n := 0) rfl) mt_L_lineAt ss_L_317 dL_spells_63 rfl rfl rfl (by omega) (by omega) ?_
      refine pw_l (fun _ _ _ _ k => pm_stk (st' := [.int (-11)]) rfl k) ?_
      refine pw_l (fun _ _ _ _ k => pm_bipush (v := (-11)) B9 dL_spells_66 (by decide) k) ?_
      refine pw_l (fun _ _ _ _ k => pm_icmp_ne (tgt := 75) B9 dL_spells_68 (by decide) (fun h => absurd (rfl) h) (fun _ => k)) ?_
      refine pw_l (fun _ _ _ _ k => pm_iconst (v := 1) B9 dL_spells_71 (by decide) k) ?_
      refine pw_l (fun _ _ _ _ k => pm_goto (tgt := 76) B9 dL_spells_72 (by decide) k) ?_
      exact fun cu su nx M h1 h2 hW => pm_ireturn B9 dL_spells_76 rfl (rfl) ⟨rfl, hW⟩ (Nat.ble_eq_true_of_le (by omega)) (Nat.ble_eq_true_of_le (by omega))
    | succ k ih =>
      intro i hik
      have hiN : i < ln.length := by omega
      refine pw_l (fun _ _ _ _ k => pm_iload B9 dL_spells_17 rfl k) ?_
      refine pw_l (fun _ _ _ _ k => pm_aload_n B9 dL_spells_19 rfl k) ?_
      refine pw_lbw (fun _ _ _ _ hc hs hW k => pm_cV (As := []) (mc2 := 0) (ms2 := 0) B9 rfl (pw_at hW 0 rfl) rfl (c_J0_length_8abf5_h (pw_at hW 0 rfl) (pw_at hW 1 rfl) (by omega)) mt_J0_length_8abf5 sv_L_132 dL_spells_20 rfl rfl rfl (Nat.ble_eq_true_of_le hc) (Nat.ble_eq_true_of_le hs) k) ?_
      refine pw_l (fun _ _ _ _ k => pm_stk (st' := [.int (nI ln.length), .int (nI i)]) rfl k) ?_
      refine pw_l (fun _ _ _ _ k => pm_icmp_ge (tgt := 57) B9 dL_spells_23 (by decide) (fun h => absurd h ((fun e => absurd ((nI_leI (a := ln.length) (b := i) (by omega) (by omega)).mp e) (by omega)))) (fun _ => k)) ?_
      refine pw_l (fun _ _ _ _ k => pm_iload_n B9 dL_spells_26 rfl k) ?_
      refine pw_l (fun _ _ _ _ k => pm_if_eq (tgt := 57) B9 dL_spells_27 (by decide) (fun h => absurd h (by decide)) (fun _ => k)) ?_
      refine pw_l (fun _ _ _ _ k => pm_aload_n B9 dL_spells_30 rfl k) ?_
      refine pw_l (fun _ _ _ _ k => pm_iload B9 dL_spells_31 rfl k) ?_
      refine pw_cSW (As := [.ref (z + 0), .int (nI i)]) (c2 := (k + 1 + 1 - (1) + 0)) (s2 := (6 * (k + 1) + 6 - (6) + 0)) B9 (b_L_lineAt (n := 0) (j := i) hiN) mt_L_lineAt ss_L_317 dL_spells_33 rfl rfl rfl (by omega) (by omega) ?_
      refine pw_l (fun _ _ _ _ k => pm_stk (st' := [.int (nI (ln.getD i 0))]) rfl k) ?_
      refine pw_l (fun _ _ _ _ k => pm_aload_n B9 dL_spells_36 rfl k) ?_
      refine pw_l (fun _ _ _ _ k => pm_iload B9 dL_spells_37 rfl k) ?_
      refine pw_lbw (fun _ _ _ _ hc hs hW k => pm_cV (As := [.int (nI i)]) (mc2 := 0) (ms2 := 0) B9 rfl (pw_at hW 0 rfl) rfl (c_J0_charAt_5068e_h (pw_at hW 0 rfl) (pw_at hW 1 rfl) hiN (by omega) (hf i hiN).1 (by have := (hf i hiN).2; omega)) mt_J0_charAt_5068e sv_L_137 dL_spells_39 rfl rfl rfl (Nat.ble_eq_true_of_le hc) (Nat.ble_eq_true_of_le hs) k) ?_
      refine pw_l (fun _ _ _ _ k => pm_stk (st' := [.int (nI (ln.getD i 0)), .int (nI (ln.getD i 0))]) rfl k) ?_
      refine pw_l (fun _ _ _ _ k => pm_icmp_ne (tgt := 49) B9 dL_spells_42 (by decide) (fun h => absurd (rfl) h) (fun _ => k)) ?_
      refine pw_l (fun _ _ _ _ k => pm_iconst (v := 1) B9 dL_spells_45 (by decide) k) ?_
      refine pw_l (fun _ _ _ _ k => pm_goto (tgt := 50) B9 dL_spells_46 (by decide) k) ?_
      refine pw_l (fun _ _ _ _ k => pm_istore_n B9 dL_spells_50 rfl rfl k) ?_
      refine pw_l (fun _ _ _ _ k => pm_loc (L' := [some (.ref (z + 0)), some (.int (nI ln.length)), some (.ref (z + s)), some (.int 1), some (.int (nI i))]) rfl k) ?_
      refine pw_l (fun _ _ _ _ k => pm_iinc B9 dL_spells_51 rfl rfl rfl k) ?_
      refine pw_l (fun _ _ _ _ k => pm_loc (L' := [some (.ref (z + 0)), some (.int (nI ln.length)), some (.ref (z + s)), some (.int 1), some (.int (nI (i + 1)))]) (by rw [show ((nI i) : Int32) + Int32.ofInt 1 = (nI (i + 1)) from nI_1 _]; rfl) k) ?_
      refine pw_l (fun _ _ _ _ k => pm_goto (tgt := 17) B9 dL_spells_54 (by decide) k) ?_
      exact pw_cr (by omega) (by omega) (ih (i + 1) (by omega))
  refine pw_l (fun _ _ _ _ k => pm_iload_n B9 dL_spells_0 rfl k) ?_
  refine pw_l (fun _ _ _ _ k => pm_aload_n B9 dL_spells_1 rfl k) ?_
  refine pw_lbw (fun _ _ _ _ hc hs hW k => pm_cV (As := []) (mc2 := 0) (ms2 := 0) B9 rfl (pw_at hW 0 rfl) rfl (c_J0_length_8abf5_h (pw_at hW 0 rfl) (pw_at hW 1 rfl) (by omega)) mt_J0_length_8abf5 sv_L_132 dL_spells_2 rfl rfl rfl (Nat.ble_eq_true_of_le hc) (Nat.ble_eq_true_of_le hs) k) ?_
  refine pw_l (fun _ _ _ _ k => pm_stk (st' := [.int (nI ln.length), .int (nI ln.length)]) rfl k) ?_
  refine pw_l (fun _ _ _ _ k => pm_icmp_ne (tgt := 12) B9 dL_spells_5 (by decide) (fun h => absurd (rfl) h) (fun _ => k)) ?_
  refine pw_l (fun _ _ _ _ k => pm_iconst (v := 1) B9 dL_spells_8 (by decide) k) ?_
  refine pw_l (fun _ _ _ _ k => pm_goto (tgt := 13) B9 dL_spells_9 (by decide) k) ?_
  refine pw_l (fun _ _ _ _ k => pm_istore_n B9 dL_spells_13 rfl rfl k) ?_
  refine pw_l (fun _ _ _ _ k => pm_loc (L' := [some (.ref (z + 0)), some (.int (nI ln.length)), some (.ref (z + s)), some (.int 1), none]) rfl k) ?_
  refine pw_l (fun _ _ _ _ k => pm_iconst (v := 0) B9 dL_spells_14 (by decide) k) ?_
  refine pw_l (fun _ _ _ _ k => pm_istore B9 dL_spells_15 rfl rfl k) ?_
  refine pw_l (fun _ _ _ _ k => pm_loc (L' := [some (.ref (z + 0)), some (.int (nI ln.length)), some (.ref (z + s)), some (.int 1), some (.int 0)]) rfl k) ?_
  refine pw_l (fun _ _ _ _ k => pm_loc (L' := [some (.ref (z + 0)), some (.int (nI ln.length)), some (.ref (z + s)), some (.int 1), some (.int (nI 0))]) rfl k) ?_
  exact pw_cr (by omega) (by omega) (out ln.length 0 (by omega))
