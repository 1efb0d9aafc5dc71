theorem dL_lines_0 : decode cL_lines 0 = .ok (.iconst 0, 1) := by decide +kernel
theorem dL_lines_1 : decode cL_lines 1 = .ok (.istore_n 1, 1) := by decide +kernel
theorem dL_lines_2 : decode cL_lines 2 = .ok (.iload_n 1, 1) := by decide +kernel
theorem dL_lines_3 : decode cL_lines 3 = .ok (.aload_n 0, 1) := by decide +kernel
theorem dL_lines_4 : decode cL_lines 4 = .ok (.invokevirtual 177, 3) := by decide +kernel
theorem dL_lines_7 : decode cL_lines 7 = .ok (.if_icmp .ge 171, 3) := by decide +kernel
theorem dL_lines_10 : decode cL_lines 10 = .ok (.new 320, 3) := by decide +kernel
theorem dL_lines_13 : decode cL_lines 13 = .ok (.dup, 1) := by decide +kernel
theorem dL_lines_14 : decode cL_lines 14 = .ok (.invokespecial 322, 3) := by decide +kernel
theorem dL_lines_17 : decode cL_lines 17 = .ok (.iload_n 1, 1) := by decide +kernel
theorem dL_lines_18 : decode cL_lines 18 = .ok (.invokevirtual 323, 3) := by decide +kernel
theorem dL_lines_21 : decode cL_lines 21 = .ok (.ldc_w 327, 3) := by decide +kernel
theorem dL_lines_24 : decode cL_lines 24 = .ok (.invokevirtual 329, 3) := by decide +kernel
theorem dL_lines_27 : decode cL_lines 27 = .ok (.aload_n 0, 1) := by decide +kernel
theorem dL_lines_28 : decode cL_lines 28 = .ok (.iload_n 1, 1) := by decide +kernel
theorem dL_lines_29 : decode cL_lines 29 = .ok (.invokevirtual 61, 3) := by decide +kernel
theorem dL_lines_32 : decode cL_lines 32 = .ok (.invokevirtual 323, 3) := by decide +kernel
theorem dL_lines_35 : decode cL_lines 35 = .ok (.ldc_w 332, 3) := by decide +kernel
theorem dL_lines_38 : decode cL_lines 38 = .ok (.invokevirtual 329, 3) := by decide +kernel
theorem dL_lines_41 : decode cL_lines 41 = .ok (.aload_n 0, 1) := by decide +kernel
theorem dL_lines_42 : decode cL_lines 42 = .ok (.iload_n 1, 1) := by decide +kernel
theorem dL_lines_43 : decode cL_lines 43 = .ok (.invokevirtual 58, 3) := by decide +kernel
theorem dL_lines_46 : decode cL_lines 46 = .ok (.invokevirtual 323, 3) := by decide +kernel
theorem dL_lines_49 : decode cL_lines 49 = .ok (.ldc_w 332, 3) := by decide +kernel
theorem dL_lines_52 : decode cL_lines 52 = .ok (.invokevirtual 329, 3) := by decide +kernel
theorem dL_lines_55 : decode cL_lines 55 = .ok (.aload_n 0, 1) := by decide +kernel
theorem dL_lines_56 : decode cL_lines 56 = .ok (.iload_n 1, 1) := by decide +kernel
theorem dL_lines_57 : decode cL_lines 57 = .ok (.invokevirtual 24, 3) := by decide +kernel
theorem dL_lines_60 : decode cL_lines 60 = .ok (.invokevirtual 323, 3) := by decide +kernel
theorem dL_lines_63 : decode cL_lines 63 = .ok (.ldc_w 334, 3) := by decide +kernel
theorem dL_lines_66 : decode cL_lines 66 = .ok (.invokevirtual 329, 3) := by decide +kernel
theorem dL_lines_69 : decode cL_lines 69 = .ok (.aload_n 0, 1) := by decide +kernel
theorem dL_lines_70 : decode cL_lines 70 = .ok (.iload_n 1, 1) := by decide +kernel
theorem dL_lines_71 : decode cL_lines 71 = .ok (.invokevirtual 27, 3) := by decide +kernel
theorem dL_lines_74 : decode cL_lines 74 = .ok (.invokevirtual 323, 3) := by decide +kernel
theorem dL_lines_77 : decode cL_lines 77 = .ok (.invokevirtual 336, 3) := by decide +kernel
theorem dL_lines_80 : decode cL_lines 80 = .ok (.astore_n 2, 1) := by decide +kernel
theorem dL_lines_81 : decode cL_lines 81 = .ok (.iconst 0, 1) := by decide +kernel
theorem dL_lines_82 : decode cL_lines 82 = .ok (.istore_n 3, 1) := by decide +kernel
theorem dL_lines_83 : decode cL_lines 83 = .ok (.iload_n 3, 1) := by decide +kernel
theorem dL_lines_84 : decode cL_lines 84 = .ok (.aload_n 0, 1) := by decide +kernel
theorem dL_lines_85 : decode cL_lines 85 = .ok (.iload_n 1, 1) := by decide +kernel
theorem dL_lines_86 : decode cL_lines 86 = .ok (.invokestatic 212, 3) := by decide +kernel
theorem dL_lines_89 : decode cL_lines 89 = .ok (.if_icmp .ge 30, 3) := by decide +kernel
theorem dL_lines_92 : decode cL_lines 92 = .ok (.new 320, 3) := by decide +kernel
theorem dL_lines_95 : decode cL_lines 95 = .ok (.dup, 1) := by decide +kernel
theorem dL_lines_96 : decode cL_lines 96 = .ok (.invokespecial 322, 3) := by decide +kernel
theorem dL_lines_99 : decode cL_lines 99 = .ok (.aload_n 2, 1) := by decide +kernel
theorem dL_lines_100 : decode cL_lines 100 = .ok (.invokevirtual 329, 3) := by decide +kernel
theorem dL_lines_103 : decode cL_lines 103 = .ok (.ldc_w 340, 3) := by decide +kernel
theorem dL_lines_106 : decode cL_lines 106 = .ok (.invokevirtual 329, 3) := by decide +kernel
theorem dL_lines_109 : decode cL_lines 109 = .ok (.invokevirtual 336, 3) := by decide +kernel
theorem dL_lines_112 : decode cL_lines 112 = .ok (.astore_n 2, 1) := by decide +kernel
theorem dL_lines_113 : decode cL_lines 113 = .ok (.iinc 3 1, 3) := by decide +kernel
theorem dL_lines_116 : decode cL_lines 116 = .ok (.goto (-33), 3) := by decide +kernel
theorem dL_lines_119 : decode cL_lines 119 = .ok (.iconst 0, 1) := by decide +kernel
theorem dL_lines_120 : decode cL_lines 120 = .ok (.istore_n 3, 1) := by decide +kernel
theorem dL_lines_121 : decode cL_lines 121 = .ok (.iload_n 3, 1) := by decide +kernel
theorem dL_lines_122 : decode cL_lines 122 = .ok (.aload_n 0, 1) := by decide +kernel
theorem dL_lines_123 : decode cL_lines 123 = .ok (.iload_n 1, 1) := by decide +kernel
theorem dL_lines_124 : decode cL_lines 124 = .ok (.invokestatic 214, 3) := by decide +kernel
theorem dL_lines_127 : decode cL_lines 127 = .ok (.if_icmp .ge 30, 3) := by decide +kernel
theorem dL_lines_130 : decode cL_lines 130 = .ok (.new 320, 3) := by decide +kernel
theorem dL_lines_133 : decode cL_lines 133 = .ok (.dup, 1) := by decide +kernel
theorem dL_lines_134 : decode cL_lines 134 = .ok (.invokespecial 322, 3) := by decide +kernel
theorem dL_lines_137 : decode cL_lines 137 = .ok (.aload_n 2, 1) := by decide +kernel
theorem dL_lines_138 : decode cL_lines 138 = .ok (.invokevirtual 329, 3) := by decide +kernel
theorem dL_lines_141 : decode cL_lines 141 = .ok (.ldc_w 342, 3) := by decide +kernel
theorem dL_lines_144 : decode cL_lines 144 = .ok (.invokevirtual 329, 3) := by decide +kernel
theorem dL_lines_147 : decode cL_lines 147 = .ok (.invokevirtual 336, 3) := by decide +kernel
theorem dL_lines_150 : decode cL_lines 150 = .ok (.astore_n 2, 1) := by decide +kernel
theorem dL_lines_151 : decode cL_lines 151 = .ok (.iinc 3 1, 3) := by decide +kernel
theorem dL_lines_154 : decode cL_lines 154 = .ok (.goto (-33), 3) := by decide +kernel
theorem dL_lines_157 : decode cL_lines 157 = .ok (.aload_n 0, 1) := by decide +kernel
theorem dL_lines_158 : decode cL_lines 158 = .ok (.aload_n 0, 1) := by decide +kernel
theorem dL_lines_159 : decode cL_lines 159 = .ok (.iload_n 1, 1) := by decide +kernel
theorem dL_lines_160 : decode cL_lines 160 = .ok (.invokestatic 344, 3) := by decide +kernel
theorem dL_lines_163 : decode cL_lines 163 = .ok (.aload_n 2, 1) := by decide +kernel
theorem dL_lines_164 : decode cL_lines 164 = .ok (.invokestatic 346, 3) := by decide +kernel
theorem dL_lines_167 : decode cL_lines 167 = .ok (.ifCond .ne 5, 3) := by decide +kernel
theorem dL_lines_170 : decode cL_lines 170 = .ok (.iconst 0, 1) := by decide +kernel
theorem dL_lines_171 : decode cL_lines 171 = .ok (.ireturn, 1) := by decide +kernel
theorem dL_lines_172 : decode cL_lines 172 = .ok (.iinc 1 1, 3) := by decide +kernel
theorem dL_lines_175 : decode cL_lines 175 = .ok (.goto (-173), 3) := by decide +kernel
theorem dL_lines_178 : decode cL_lines 178 = .ok (.aload_n 0, 1) := by decide +kernel
theorem dL_lines_179 : decode cL_lines 179 = .ok (.aload_n 0, 1) := by decide +kernel
theorem dL_lines_180 : decode cL_lines 180 = .ok (.invokevirtual 177, 3) := by decide +kernel
theorem dL_lines_183 : decode cL_lines 183 = .ok (.invokestatic 344, 3) := by decide +kernel
theorem dL_lines_186 : decode cL_lines 186 = .ok (.bipush (-11), 2) := by decide +kernel
theorem dL_lines_188 : decode cL_lines 188 = .ok (.if_icmp .ne 17, 3) := by decide +kernel
theorem dL_lines_191 : decode cL_lines 191 = .ok (.aload_n 0, 1) := by decide +kernel
theorem dL_lines_192 : decode cL_lines 192 = .ok (.iconst (-1), 1) := by decide +kernel
theorem dL_lines_193 : decode cL_lines 193 = .ok (.invokestatic 344, 3) := by decide +kernel
theorem dL_lines_196 : decode cL_lines 196 = .ok (.bipush (-11), 2) := by decide +kernel
theorem dL_lines_198 : decode cL_lines 198 = .ok (.if_icmp .ne 7, 3) := by decide +kernel
theorem dL_lines_201 : decode cL_lines 201 = .ok (.iconst 1, 1) := by decide +kernel
theorem dL_lines_202 : decode cL_lines 202 = .ok (.goto 4, 3) := by decide +kernel
theorem dL_lines_205 : decode cL_lines 205 = .ok (.iconst 0, 1) := by decide +kernel
theorem dL_lines_206 : decode cL_lines 206 = .ok (.ireturn, 1) := by decide +kernel
theorem mt_L_lines : pm_Mt yL_lines cL_lines 4 (some .boolean) 1 := ⟨pm_T_in 1180 (by decide +kernel) (by decide +kernel), pm_T_in 34 (by decide +kernel) (by decide +kernel), ⟨by decide +kernel, by decide +kernel, by decide +kernel⟩, by decide +kernel, by decide⟩
theorem pw_Rp_g {T : List Nat} {g : Nat → Int32} (h : pw_Rp (g, T.length) T) : ∀ i, i < T.length → g i = nI (T.getD i 0) ∧ T.getD i 0 < 128 := fun i hi => ⟨h.2.1 i hi, h.2.2 _ (by rw [List.getD_eq_getElem?_getD, List.getElem?_eq_getElem hi]; exact List.getElem_mem hi)⟩
set_option maxRecDepth 100000 in
set_option maxHeartbeats 8000000 in
theorem c_L_lines {l : Launch} {z : Nat} {D : va_G} {kA : Nat → ClassId} {kE : Nat → Nat} {B n : Nat} {r : Nat → Int32} {hs : List (Nat → Int32)} {ln : List Nat} (hI : pm_I B n r) : ∀ nx M, (pw_W z kA kE (B, r, hs, (0, ln)) []) nx M → pm_C l z D kA kE yL_lines cL_lines 4 (some .boolean) 50 500 4960 [.ref (z + 0)] nx M (fun o n' M' => ∃ ln', o = .inl (some (.int 1)) ∧ pw_W z kA kE (B, r, hs, (0, ln')) [] n' M') := by
  refine pw_mk (own := RL) (nm := "lines") mt_L_lines rfl rfl rfl rfl fun X B9 => ?_
  refine pw_l (fun _ _ _ _ k => pm_loc (L' := [some (.ref (z + 0)), none, none, none]) rfl k) ?_
  have h7 : n ≤ 7 := hI.1.2.1
  have out : ∀ k j ln, j + k = n → pw_J l z D X 500 4960 (pm_Q z D (fun o n' M' => ∃ ln', o = .inl (some (.int 1)) ∧ pw_W z kA kE (B, r, hs, (0, ln')) [] n' M') 500 4960 X) (pw_W z kA kE (B, r, hs, (0, ln)) []) (70 * k + 10 - (0) + 0) (700 * k + 60 - (0) + 0) 2 [some (.ref (z + 0)), some (.int (nI j)), none, none] [] := by
    intro k
    induction k with
    | zero =>
      intro j ln hjk
      refine pw_l (fun _ _ _ _ k => pm_iload_n B9 dL_lines_2 rfl k) ?_
      refine pw_l (fun _ _ _ _ k => pm_aload_n B9 dL_lines_3 rfl k) ?_
      refine pw_cV (As := []) (c2 := (70 * 0 + 10 - (2) + 0)) (s2 := (700 * 0 + 60 - (12) + 0)) B9 (fun _ _ hW => pw_0 hW) rfl (a_X12_memberCount hI) mt_X12_memberCount sv_L_177 dL_lines_4 rfl rfl rfl (by omega) (by omega) ?_
      refine pw_l (fun _ _ _ _ k => pm_stk (st' := [.int (nI n), .int (nI j)]) rfl k) ?_
      refine pw_l (fun _ _ _ _ k => pm_icmp_ge (tgt := 178) B9 dL_lines_7 (by decide) (fun _ => k) (fun h => absurd ((by rw [show j = n by omega]; exact Int32.le_refl _)) h)) ?_
      refine pw_l (fun _ _ _ _ k => pm_aload_n B9 dL_lines_178 rfl k) ?_
      refine pw_l (fun _ _ _ _ k => pm_aload_n B9 dL_lines_179 rfl k) ?_
      refine pw_cV (As := []) (c2 := (70 * 0 + 10 - (4) + 0)) (s2 := (700 * 0 + 60 - (24) + 0)) B9 (fun _ _ hW => pw_0 hW) rfl (a_X12_memberCount hI) mt_X12_memberCount sv_L_177 dL_lines_180 rfl rfl rfl (by omega) (by omega) ?_
      refine pw_l (fun _ _ _ _ k => pm_stk (st' := [.int (nI n), .ref (z + 0)]) rfl k) ?_
      refine pw_cSW (As := [.ref (z + 0), .int (nI n)]) (c2 := (70 * 0 + 10 - (5) + 0)) (s2 := (700 * 0 + 60 - (30) + 0)) B9 (b_L_writeMember_n hI) mt_L_writeMember ss_L_344 dL_lines_183 rfl rfl rfl (by omega) (by omega) ?_
      refine pw_l (fun _ _ _ _ k => pm_stk (st' := [.int (-11)]) rfl k) ?_
      refine pw_l (fun _ _ _ _ k => pm_bipush (v := (-11)) B9 dL_lines_186 (by decide) k) ?_
      refine pw_l (fun _ _ _ _ k => pm_icmp_ne (tgt := 205) B9 dL_lines_188 (by decide) (fun h => absurd (rfl) h) (fun _ => k)) ?_
      refine pw_l (fun _ _ _ _ k => pm_aload_n B9 dL_lines_191 rfl k) ?_
      refine pw_l (fun _ _ _ _ k => pm_iconst (v := (-1)) B9 dL_lines_192 (by decide) k) ?_
      refine pw_cSW (As := [.ref (z + 0), .int (-1)]) (c2 := (70 * 0 + 10 - (6) + 0)) (s2 := (700 * 0 + 60 - (36) + 0)) B9 (b_L_writeMember_z hI) mt_L_writeMember ss_L_344 dL_lines_193 rfl rfl rfl (by omega) (by omega) ?_
      refine pw_l (fun _ _ _ _ k => pm_stk (st' := [.int (-11)]) rfl k) ?_
      refine pw_l (fun _ _ _ _ k => pm_bipush (v := (-11)) B9 dL_lines_196 (by decide) k) ?_
      refine pw_l (fun _ _ _ _ k => pm_icmp_ne (tgt := 205) B9 dL_lines_198 (by decide) (fun h => absurd (rfl) h) (fun _ => k)) ?_
      refine pw_l (fun _ _ _ _ k => pm_iconst (v := 1) B9 dL_lines_201 (by decide) k) ?_
      refine pw_l (fun _ _ _ _ k => pm_goto (tgt := 206) B9 dL_lines_202 (by decide) k) ?_
      exact fun cu su nx M h1 h2 hW => pm_ireturn B9 dL_lines_206 rfl (rfl) ⟨_, rfl, hW⟩ (Nat.ble_eq_true_of_le (by omega)) (Nat.ble_eq_true_of_le (by omega))
    | succ k ih =>
      intro j ln hjk
      have hj : j < n := by omega
      obtain ⟨⟨w0, w0a, w0b⟩, ⟨w1, w1a, w1b⟩, ⟨w2, w2a⟩, ⟨w3, w3a⟩, -⟩ := hI.2.1 j hj
      obtain ⟨-, hn1, hn2, hn3⟩ := pw_lnN hI hj (fun _ => 0)
      have g9 := (pw_dgl (q := j)).1 (by omega)
      have g3 := (pw_dgl (q := pm_n (r (7 + 6 * j + 3)))).2.1 (by omega)
      have g2 := (pw_dgl (q := pm_n (r (7 + 6 * j + 2)))).2.2
      have g0 := (pw_dgl (q := pm_n (r (7 + 6 * j + 0)))).2.1 (by omega)
      have g1 := (pw_dgl (q := pm_n (r (7 + 6 * j + 1)))).2.1 (by omega)
      refine pw_l (fun _ _ _ _ k => pm_iload_n B9 dL_lines_2 rfl k) ?_
      refine pw_l (fun _ _ _ _ k => pm_aload_n B9 dL_lines_3 rfl k) ?_
      refine pw_cV (As := []) (c2 := (70 * (k + 1) + 10 - (2) + 0)) (s2 := (700 * (k + 1) + 60 - (12) + 0)) B9 (fun _ _ hW => pw_0 hW) rfl (a_X12_memberCount hI) mt_X12_memberCount sv_L_177 dL_lines_4 rfl rfl rfl (by omega) (by omega) ?_
      refine pw_l (fun _ _ _ _ k => pm_stk (st' := [.int (nI n), .int (nI j)]) rfl k) ?_
      refine pw_l (fun _ _ _ _ k => pm_icmp_ge (tgt := 178) B9 dL_lines_7 (by decide) (fun h => absurd h ((fun e => absurd ((nI_leI (a := n) (b := j) (by omega) (by omega)).mp e) (by omega)))) (fun _ => k)) ?_
      refine pw_nsb (c2 := (70 * (k + 1) + 10 - (4) + 0)) (s2 := (700 * (k + 1) + 60 - (32) + 0)) B9 dL_lines_10 dL_lines_13 dL_lines_14 rfl rfl (by omega) (by omega) (fun a5 b5 _ _ _ => ?_)
      refine pw_wk (W' := (pw_tb z kA kE (B, r, hs, (0, ln)) 16 ([]) a5 [])) (fun _ _ h => pw_tb0 h) ?_
      refine pw_l (fun _ _ _ _ k => pm_iload_n B9 dL_lines_17 rfl k) ?_
      refine pw_cU (As := [.int (nI j)]) (c2 := (70 * (k + 1) + 10 - (4) + 0)) (s2 := (700 * (k + 1) + 60 - (32) + 0)) B9 rfl rfl (fun _ _ hW => pw_tb_a hW) (t_appI (q := j) (by omega) (by simp only [List.length_append, List.length_cons, List.length_nil]; omega)) mt_J4_append_bf812 sv_L_323 dL_lines_18 rfl rfl rfl (by omega) (by omega) (fun _ => ?_)
      refine pw_l (fun _ _ _ _ k => pm_stk (st' := [.ref (z + a5)]) rfl k) ?_
      refine pw_l (fun _ _ _ _ k => pm_ldcwS (a := kE (40 + 0)) B9 (fun U H h => (h.2.1.1 0 (by decide)).1) dL_lines_21 k) ?_
      refine pw_cU (As := [.ref (kE (40 + 0))]) (c2 := (70 * (k + 1) + 10 - (4) + 0)) (s2 := (700 * (k + 1) + 60 - (32) + 0)) B9 rfl rfl (fun _ _ hW => pw_tb_a hW) (t_appT (bs := [58]) (s := kE (40 + 0)) (v := kE (140 + 0)) (fun U H h => (h.2.1.1 0 (by decide)).2) (by decide) (by decide) (by simp only [List.length_append, List.length_cons, List.length_nil]; omega)) mt_J4_append_15ec4 sv_L_329 dL_lines_24 rfl rfl rfl (by omega) (by omega) (fun _ => ?_)
      refine pw_l (fun _ _ _ _ k => pm_stk (st' := [.ref (z + a5)]) rfl k) ?_
      refine pw_l (fun _ _ _ _ k => pm_aload_n B9 dL_lines_27 rfl k) ?_
      refine pw_l (fun _ _ _ _ k => pm_iload_n B9 dL_lines_28 rfl k) ?_
      refine pw_cV (As := [.int (nI j)]) (c2 := (70 * (k + 1) + 10 - (6) + 0)) (s2 := (700 * (k + 1) + 60 - (44) + 0)) B9 (fun _ _ hW => pw_tb_0 hW) rfl (t_ltb (fun _ => (a_X12_sales hI (i := j) (by omega)))) mt_X12_sales sv_L_61 dL_lines_29 rfl rfl rfl (by omega) (by omega) ?_
      refine pw_l (fun _ _ _ _ k => pm_stk (st' := [.int (r (7 + 6 * j + 3)), .ref (z + a5)]) rfl k) ?_
      refine pw_l (fun _ _ _ _ k => pm_stk (st' := [.int (nI (pm_n (r (7 + 6 * j + 3)))), .ref (z + a5)]) (congrArg (fun yy : Int32 => ([.int yy, .ref (z + a5)] : List Value)) (show (r (7 + 6 * j + 3)) = (nI (pm_n (r (7 + 6 * j + 3)))) from w3)) k) ?_
      refine pw_cU (As := [.int (nI (pm_n (r (7 + 6 * j + 3))))]) (c2 := (70 * (k + 1) + 10 - (6) + 0)) (s2 := (700 * (k + 1) + 60 - (44) + 0)) B9 rfl rfl (fun _ _ hW => pw_tb_a hW) (t_appI (q := (pm_n (r (7 + 6 * j + 3)))) (by omega) (by simp only [List.length_append, List.length_cons, List.length_nil]; omega)) mt_J4_append_bf812 sv_L_323 dL_lines_32 rfl rfl rfl (by omega) (by omega) (fun _ => ?_)
      refine pw_l (fun _ _ _ _ k => pm_stk (st' := [.ref (z + a5)]) rfl k) ?_
      refine pw_l (fun _ _ _ _ k => pm_ldcwS (a := kE (40 + 1)) B9 (fun U H h => (h.2.1.1 1 (by decide)).1) dL_lines_35 k) ?_
      refine pw_cU (As := [.ref (kE (40 + 1))]) (c2 := (70 * (k + 1) + 10 - (6) + 0)) (s2 := (700 * (k + 1) + 60 - (44) + 0)) B9 rfl rfl (fun _ _ hW => pw_tb_a hW) (t_appT (bs := [47]) (s := kE (40 + 1)) (v := kE (140 + 1)) (fun U H h => (h.2.1.1 1 (by decide)).2) (by decide) (by decide) (by simp only [List.length_append, List.length_cons, List.length_nil]; omega)) mt_J4_append_15ec4 sv_L_329 dL_lines_38 rfl rfl rfl (by omega) (by omega) (fun _ => ?_)
      refine pw_l (fun _ _ _ _ k => pm_stk (st' := [.ref (z + a5)]) rfl k) ?_
      refine pw_l (fun _ _ _ _ k => pm_aload_n B9 dL_lines_41 rfl k) ?_
      refine pw_l (fun _ _ _ _ k => pm_iload_n B9 dL_lines_42 rfl k) ?_
      refine pw_cV (As := [.int (nI j)]) (c2 := (70 * (k + 1) + 10 - (8) + 0)) (s2 := (700 * (k + 1) + 60 - (56) + 0)) B9 (fun _ _ hW => pw_tb_0 hW) rfl (t_ltb (fun _ => (a_X12_quota hI (i := j) (by omega)))) mt_X12_quota sv_L_58 dL_lines_43 rfl rfl rfl (by omega) (by omega) ?_
      refine pw_l (fun _ _ _ _ k => pm_stk (st' := [.int (r (7 + 6 * j + 2)), .ref (z + a5)]) rfl k) ?_
      refine pw_l (fun _ _ _ _ k => pm_stk (st' := [.int (nI (pm_n (r (7 + 6 * j + 2)))), .ref (z + a5)]) (congrArg (fun yy : Int32 => ([.int yy, .ref (z + a5)] : List Value)) (show (r (7 + 6 * j + 2)) = (nI (pm_n (r (7 + 6 * j + 2)))) from w2)) k) ?_
      refine pw_cU (As := [.int (nI (pm_n (r (7 + 6 * j + 2))))]) (c2 := (70 * (k + 1) + 10 - (8) + 0)) (s2 := (700 * (k + 1) + 60 - (56) + 0)) B9 rfl rfl (fun _ _ hW => pw_tb_a hW) (t_appI (q := (pm_n (r (7 + 6 * j + 2)))) (by omega) (by simp only [List.length_append, List.length_cons, List.length_nil]; omega)) mt_J4_append_bf812 sv_L_323 dL_lines_46 rfl rfl rfl (by omega) (by omega) (fun _ => ?_)
      refine pw_l (fun _ _ _ _ k => pm_stk (st' := [.ref (z + a5)]) rfl k) ?_
      refine pw_l (fun _ _ _ _ k => pm_ldcwS (a := kE (40 + 1)) B9 (fun U H h => (h.2.1.1 1 (by decide)).1) dL_lines_49 k) ?_
      refine pw_cU (As := [.ref (kE (40 + 1))]) (c2 := (70 * (k + 1) + 10 - (8) + 0)) (s2 := (700 * (k + 1) + 60 - (56) + 0)) B9 rfl rfl (fun _ _ hW => pw_tb_a hW) (t_appT (bs := [47]) (s := kE (40 + 1)) (v := kE (140 + 1)) (fun U H h => (h.2.1.1 1 (by decide)).2) (by decide) (by decide) (by simp only [List.length_append, List.length_cons, List.length_nil]; omega)) mt_J4_append_15ec4 sv_L_329 dL_lines_52 rfl rfl rfl (by omega) (by omega) (fun _ => ?_)
      refine pw_l (fun _ _ _ _ k => pm_stk (st' := [.ref (z + a5)]) rfl k) ?_
      refine pw_l (fun _ _ _ _ k => pm_aload_n B9 dL_lines_55 rfl k) ?_
      refine pw_l (fun _ _ _ _ k => pm_iload_n B9 dL_lines_56 rfl k) ?_
      refine pw_cV (As := [.int (nI j)]) (c2 := (70 * (k + 1) + 10 - (10) + 0)) (s2 := (700 * (k + 1) + 60 - (68) + 0)) B9 (fun _ _ hW => pw_tb_0 hW) rfl (t_ltb (fun _ => (a_X12_capacity hI (i := j) (by omega)))) mt_X12_capacity sv_L_24 dL_lines_57 rfl rfl rfl (by omega) (by omega) ?_
      refine pw_l (fun _ _ _ _ k => pm_stk (st' := [.int (r (7 + 6 * j + 0)), .ref (z + a5)]) rfl k) ?_
      refine pw_l (fun _ _ _ _ k => pm_stk (st' := [.int (nI (pm_n (r (7 + 6 * j + 0)))), .ref (z + a5)]) (congrArg (fun yy : Int32 => ([.int yy, .ref (z + a5)] : List Value)) (show (r (7 + 6 * j + 0)) = (nI (pm_n (r (7 + 6 * j + 0)))) from w0)) k) ?_
      refine pw_cU (As := [.int (nI (pm_n (r (7 + 6 * j + 0))))]) (c2 := (70 * (k + 1) + 10 - (10) + 0)) (s2 := (700 * (k + 1) + 60 - (68) + 0)) B9 rfl rfl (fun _ _ hW => pw_tb_a hW) (t_appI (q := (pm_n (r (7 + 6 * j + 0)))) (by omega) (by simp only [List.length_append, List.length_cons, List.length_nil]; omega)) mt_J4_append_bf812 sv_L_323 dL_lines_60 rfl rfl rfl (by omega) (by omega) (fun _ => ?_)
      refine pw_l (fun _ _ _ _ k => pm_stk (st' := [.ref (z + a5)]) rfl k) ?_
      refine pw_l (fun _ _ _ _ k => pm_ldcwS (a := kE (40 + 2)) B9 (fun U H h => (h.2.1.1 2 (by decide)).1) dL_lines_63 k) ?_
      refine pw_cU (As := [.ref (kE (40 + 2))]) (c2 := (70 * (k + 1) + 10 - (10) + 0)) (s2 := (700 * (k + 1) + 60 - (68) + 0)) B9 rfl rfl (fun _ _ hW => pw_tb_a hW) (t_appT (bs := [118]) (s := kE (40 + 2)) (v := kE (140 + 2)) (fun U H h => (h.2.1.1 2 (by decide)).2) (by decide) (by decide) (by simp only [List.length_append, List.length_cons, List.length_nil]; omega)) mt_J4_append_15ec4 sv_L_329 dL_lines_66 rfl rfl rfl (by omega) (by omega) (fun _ => ?_)
      refine pw_l (fun _ _ _ _ k => pm_stk (st' := [.ref (z + a5)]) rfl k) ?_
      refine pw_l (fun _ _ _ _ k => pm_aload_n B9 dL_lines_69 rfl k) ?_
      refine pw_l (fun _ _ _ _ k => pm_iload_n B9 dL_lines_70 rfl k) ?_
      refine pw_cV (As := [.int (nI j)]) (c2 := (70 * (k + 1) + 10 - (12) + 0)) (s2 := (700 * (k + 1) + 60 - (80) + 0)) B9 (fun _ _ hW => pw_tb_0 hW) rfl (t_ltb (fun _ => (a_X12_votes hI (i := j) (by omega)))) mt_X12_votes sv_L_27 dL_lines_71 rfl rfl rfl (by omega) (by omega) ?_
      refine pw_l (fun _ _ _ _ k => pm_stk (st' := [.int (r (7 + 6 * j + 1)), .ref (z + a5)]) rfl k) ?_
      refine pw_l (fun _ _ _ _ k => pm_stk (st' := [.int (nI (pm_n (r (7 + 6 * j + 1)))), .ref (z + a5)]) (congrArg (fun yy : Int32 => ([.int yy, .ref (z + a5)] : List Value)) (show (r (7 + 6 * j + 1)) = (nI (pm_n (r (7 + 6 * j + 1)))) from w1)) k) ?_
      refine pw_cU (As := [.int (nI (pm_n (r (7 + 6 * j + 1))))]) (c2 := (70 * (k + 1) + 10 - (12) + 0)) (s2 := (700 * (k + 1) + 60 - (80) + 0)) B9 rfl rfl (fun _ _ hW => pw_tb_a hW) (t_appI (q := (pm_n (r (7 + 6 * j + 1)))) (by omega) (by simp only [List.length_append, List.length_cons, List.length_nil]; omega)) mt_J4_append_bf812 sv_L_323 dL_lines_74 rfl rfl rfl (by omega) (by omega) (fun _ => ?_)
      refine pw_l (fun _ _ _ _ k => pm_stk (st' := [.ref (z + a5)]) rfl k) ?_
      refine pw_cU (As := []) (c2 := (70 * (k + 1) + 10 - (14) + 0)) (s2 := (700 * (k + 1) + 60 - (124) + 0)) B9 rfl rfl (fun _ _ hW => pw_tb_a hW) t_str mt_J4_toString_0e30d sv_L_336 dL_lines_77 rfl rfl rfl (by omega) (by omega) (fun x6 => ?_)
      refine pw_l (fun _ _ _ _ k => pm_stk (st' := [.ref (z + x6)]) rfl k) ?_
      have m2 : ∀ q i x, i + q = pm_n (r (7 + 6 * j + 5)) → pw_J l z D X 500 4960 (pm_Q z D (fun o n' M' => ∃ ln', o = .inl (some (.int 1)) ∧ pw_W z kA kE (B, r, hs, (0, ln')) [] n' M') 500 4960 X) (pw_ts z kA kE (B, r, hs, (0, ln)) ((pw_lh r j ++ List.replicate (pm_n (r (7 + 6 * j + 4))) 33) ++ List.replicate (i) 120) x []) (6 * q + 22 + (70 * k + 10) - (0) + 0) (76 * q + 130 + (700 * k + 60) - (0) + 0) 121 [some (.ref (z + 0)), some (.int (nI j)), some (.ref (z + x)), some (.int (nI i))] [] := by
        intro q
        induction q with
        | zero =>
          intro i x hiq
          refine pw_l (fun _ _ _ _ k => pm_iload_n B9 dL_lines_121 rfl k) ?_
          refine pw_l (fun _ _ _ _ k => pm_aload_n B9 dL_lines_122 rfl k) ?_
          refine pw_l (fun _ _ _ _ k => pm_iload_n B9 dL_lines_123 rfl k) ?_
          refine pw_cSW (As := [.ref (z + 0), .int (nI j)]) (c2 := (6 * 0 + 22 + (70 * k + 10) - (2) + 0)) (s2 := (76 * 0 + 130 + (700 * k + 60) - (12) + 0)) B9 (t_ltsW (fun _ => (pv_as (pv_L_barred_in (i := j) (by omega) hI.1.2.1) (b_L_barred hI)))) mt_L_barred ss_L_214 dL_lines_124 rfl rfl rfl (by omega) (by omega) ?_
          refine pw_l (fun _ _ _ _ k => pm_stk (st' := [.int (pw_ba r j), .int (nI i)]) rfl k) ?_
          refine pw_l (fun _ _ _ _ k => pm_icmp_ge (tgt := 157) B9 dL_lines_127 (by decide) (fun _ => k) (fun h => absurd (((pw_waC hI hj (by omega)).2.mpr (by omega))) h)) ?_
          refine pw_l (fun _ _ _ _ k => pm_aload_n B9 dL_lines_157 rfl k) ?_
          refine pw_l (fun _ _ _ _ k => pm_aload_n B9 dL_lines_158 rfl k) ?_
          refine pw_l (fun _ _ _ _ k => pm_iload_n B9 dL_lines_159 rfl k) ?_
          refine pw_l (fun _ _ _ _ k => pm_wk (L' := [some (.ref (z + 0)), some (.int (nI j)), some (.ref (z + x)), none]) ⟨rfl, ⟨rfl, ⟨rfl, trivial⟩⟩⟩ k) ?_
          have hi9 : i = pm_n (r (7 + 6 * j + 5)) := by omega
          subst hi9
          refine pw_wk (W' := (pw_ts z kA kE (B, r, hs, (0, ln)) (pw_ln r j) x [])) (fun _ _ h => h) ?_
          refine pw_cSW (As := [.ref (z + 0), .int (nI j)]) (c2 := (6 * 0 + 22 + (70 * k + 10) - (3) + 0)) (s2 := (76 * 0 + 130 + (700 * k + 60) - (18) + 0)) B9 (t_ltsW (fun _ => (b_L_writeMember hI hj))) mt_L_writeMember ss_L_344 dL_lines_160 rfl rfl rfl (by omega) (by omega) ?_
          refine pw_l (fun _ _ _ _ k => pm_stk (st' := [.int (nI (pw_ln r j).length), .ref (z + 0)]) rfl k) ?_
          refine pw_ex fun v => pw_ex fun gg => pw_and fun hgg => ?_
          refine pw_l (fun _ _ _ _ k => pm_aload_n B9 dL_lines_163 rfl k) ?_
          refine pw_cS (As := [.ref (z + 0), .int (nI (pw_ln r j).length), .ref (z + x)]) (c2 := (6 * 0 + 22 + (70 * k + 10) - (20) + 0)) (s2 := (76 * 0 + 130 + (700 * k + 60) - (120) + 0)) B9 (c_L_spells (by omega) (pw_Rp_g hgg)) mt_L_spells ss_L_346 dL_lines_164 rfl rfl rfl (by omega) (by omega) ?_
          refine pw_l (fun _ _ _ _ k => pm_stk (st' := [.int 1]) rfl k) ?_
          refine pw_l (fun _ _ _ _ k => pm_if_ne (tgt := 172) B9 dL_lines_167 (by decide) (fun _ => k) (fun h => absurd h ((by decide)))) ?_
          refine pw_l (fun _ _ _ _ k => pm_iinc B9 dL_lines_172 rfl rfl rfl k) ?_
          refine pw_l (fun _ _ _ _ k => pm_loc (L' := [some (.ref (z + 0)), some (.int (nI (j + 1))), some (.ref (z + x)), none]) (by rw [show ((nI j) : Int32) + Int32.ofInt 1 = (nI (j + 1)) from nI_1 _]; rfl) k) ?_
          refine pw_l (fun _ _ _ _ k => pm_goto (tgt := 2) B9 dL_lines_175 (by decide) k) ?_
          refine pw_l (fun _ _ _ _ k => pm_wk (L' := [some (.ref (z + 0)), some (.int (nI (j + 1))), none, none]) ⟨rfl, ⟨rfl, trivial⟩⟩ k) ?_
          exact pw_cr (by omega) (by omega) (pw_wk (fun _ _ h => pw_drop h (.cons _ (.cons _ (List.Sublist.refl _)))) (ih (j + 1) (pw_ln r j) (by omega)))
        | succ q ihq =>
          intro i x hiq
          refine pw_l (fun _ _ _ _ k => pm_iload_n B9 dL_lines_121 rfl k) ?_
          refine pw_l (fun _ _ _ _ k => pm_aload_n B9 dL_lines_122 rfl k) ?_
          refine pw_l (fun _ _ _ _ k => pm_iload_n B9 dL_lines_123 rfl k) ?_
          refine pw_cSW (As := [.ref (z + 0), .int (nI j)]) (c2 := (6 * (q + 1) + 22 + (70 * k + 10) - (2) + 0)) (s2 := (76 * (q + 1) + 130 + (700 * k + 60) - (12) + 0)) B9 (t_ltsW (fun _ => (pv_as (pv_L_barred_in (i := j) (by omega) hI.1.2.1) (b_L_barred hI)))) mt_L_barred ss_L_214 dL_lines_124 rfl rfl rfl (by omega) (by omega) ?_
          refine pw_l (fun _ _ _ _ k => pm_stk (st' := [.int (pw_ba r j), .int (nI i)]) rfl k) ?_
          refine pw_l (fun _ _ _ _ k => pm_icmp_ge (tgt := 157) B9 dL_lines_127 (by decide) (fun h => absurd h ((fun e => absurd ((pw_waC hI hj (by omega)).2.mp e) (by omega)))) (fun _ => k)) ?_
          refine pw_ex fun v => pw_ex fun gg => pw_and fun hgg => ?_
          refine pw_nsb (c2 := (6 * (q + 1) + 22 + (70 * k + 10) - (4) + 0)) (s2 := (76 * (q + 1) + 130 + (700 * k + 60) - (32) + 0)) B9 dL_lines_130 dL_lines_133 dL_lines_134 rfl rfl (by omega) (by omega) (fun a10 b10 _ _ _ => ?_)
          refine pw_wk (W' := (pw_tb z kA kE (B, r, hs, (0, ln)) 16 ([]) a10 ((x, .inr (11, [.ref (z + v), .int 0, .int 0, .int 0])) :: (v, .inl (kA 4, ((pw_lh r j ++ List.replicate (pm_n (r (7 + 6 * j + 4))) 33) ++ List.replicate (i) 120).length, .inl gg)) :: []))) (fun _ _ h => pw_tb0 h) ?_
          refine pw_l (fun _ _ _ _ k => pm_aload_n B9 dL_lines_137 rfl k) ?_
          have hlt : ((pw_lh r j ++ List.replicate (pm_n (r (7 + 6 * j + 4))) 33) ++ List.replicate (i) 120).length ≤ 15 := by simp only [List.length_append, List.length_replicate]; omega
          refine pw_cU (As := [.ref (z + x)]) (c2 := (6 * (q + 1) + 22 + (70 * k + 10) - (4) + 0)) (s2 := (76 * (q + 1) + 130 + (700 * k + 60) - (32) + 0)) B9 rfl rfl (fun _ _ hW => pw_tb_a hW) (t_appM hgg (by simp only [List.length_nil]; omega)) mt_J4_append_15ec4 sv_L_329 dL_lines_138 rfl rfl rfl (by omega) (by omega) (fun _ => ?_)
          refine pw_l (fun _ _ _ _ k => pm_stk (st' := [.ref (z + a10)]) rfl k) ?_
          refine pw_l (fun _ _ _ _ k => pm_ldcwS (a := kE (40 + 4)) B9 (fun U H h => (h.2.1.1 4 (by decide)).1) dL_lines_141 k) ?_
          refine pw_cU (As := [.ref (kE (40 + 4))]) (c2 := (6 * (q + 1) + 22 + (70 * k + 10) - (4) + 0)) (s2 := (76 * (q + 1) + 130 + (700 * k + 60) - (32) + 0)) B9 rfl rfl (fun _ _ hW => pw_tb_a hW) (t_appT (bs := [120]) (s := kE (40 + 4)) (v := kE (140 + 4)) (fun U H h => (h.2.1.1 4 (by decide)).2) (by decide) (by decide) (by rw [List.nil_append]; show _ + 1 ≤ 16; omega)) mt_J4_append_15ec4 sv_L_329 dL_lines_144 rfl rfl rfl (by omega) (by omega) (fun _ => ?_)
          refine pw_l (fun _ _ _ _ k => pm_stk (st' := [.ref (z + a10)]) rfl k) ?_
          refine pw_cU (As := []) (c2 := (6 * (q + 1) + 22 + (70 * k + 10) - (6) + 0)) (s2 := (76 * (q + 1) + 130 + (700 * k + 60) - (76) + 0)) B9 rfl rfl (fun _ _ hW => pw_tb_a hW) t_str mt_J4_toString_0e30d sv_L_336 dL_lines_147 rfl rfl rfl (by omega) (by omega) (fun x11 => ?_)
          refine pw_l (fun _ _ _ _ k => pm_stk (st' := [.ref (z + x11)]) rfl k) ?_
          refine pw_l (fun _ _ _ _ k => pm_astore_n B9 dL_lines_150 rfl rfl k) ?_
          refine pw_l (fun _ _ _ _ k => pm_loc (L' := [some (.ref (z + 0)), some (.int (nI j)), some (.ref (z + x11)), some (.int (nI i))]) rfl k) ?_
          refine pw_l (fun _ _ _ _ k => pm_iinc B9 dL_lines_151 rfl rfl rfl k) ?_
          refine pw_l (fun _ _ _ _ k => pm_loc (L' := [some (.ref (z + 0)), some (.int (nI j)), some (.ref (z + x11)), some (.int (nI (i + 1)))]) (by rw [show ((nI i) : Int32) + Int32.ofInt 1 = (nI (i + 1)) from nI_1 _]; rfl) k) ?_
          refine pw_l (fun _ _ _ _ k => pm_goto (tgt := 121) B9 dL_lines_154 (by decide) k) ?_
          refine pw_wk (W' := (pw_ts z kA kE (B, r, hs, (0, ln)) ((pw_lh r j ++ List.replicate (pm_n (r (7 + 6 * j + 4))) 33) ++ List.replicate (i + 1) 120) x11 [])) (fun _ _ h => by
              have h9 := pw_tsdrop (ar2 := []) (.cons _ (.cons _ (List.Sublist.refl _))) h
              rw [List.nil_append] at h9
              rw [List.replicate_succ', ← List.append_assoc]
              exact h9) ?_
          exact pw_cr (by omega) (by omega) (ihq (i + 1) x11 (by omega))
      have m1 : ∀ q i x, i + q = pm_n (r (7 + 6 * j + 4)) → pw_J l z D X 500 4960 (pm_Q z D (fun o n' M' => ∃ ln', o = .inl (some (.int 1)) ∧ pw_W z kA kE (B, r, hs, (0, ln')) [] n' M') 500 4960 X) (pw_ts z kA kE (B, r, hs, (0, ln)) (pw_lh r j ++ List.replicate (i) 33) x []) (6 * q + 36 + (70 * k + 10) - (0) + 0) (76 * q + 294 + (700 * k + 60) - (0) + 0) 83 [some (.ref (z + 0)), some (.int (nI j)), some (.ref (z + x)), some (.int (nI i))] [] := by
        intro q
        induction q with
        | zero =>
          intro i x hiq
          refine pw_l (fun _ _ _ _ k => pm_iload_n B9 dL_lines_83 rfl k) ?_
          refine pw_l (fun _ _ _ _ k => pm_aload_n B9 dL_lines_84 rfl k) ?_
          refine pw_l (fun _ _ _ _ k => pm_iload_n B9 dL_lines_85 rfl k) ?_
          refine pw_cSW (As := [.ref (z + 0), .int (nI j)]) (c2 := (6 * 0 + 36 + (70 * k + 10) - (2) + 0)) (s2 := (76 * 0 + 294 + (700 * k + 60) - (12) + 0)) B9 (t_ltsW (fun _ => (pv_as (pv_L_warnings_in (i := j) (by omega) hI.1.2.1) (b_L_warnings hI)))) mt_L_warnings ss_L_212 dL_lines_86 rfl rfl rfl (by omega) (by omega) ?_
          refine pw_l (fun _ _ _ _ k => pm_stk (st' := [.int (pw_wa r j), .int (nI i)]) rfl k) ?_
          refine pw_l (fun _ _ _ _ k => pm_icmp_ge (tgt := 119) B9 dL_lines_89 (by decide) (fun _ => k) (fun h => absurd (((pw_waC hI hj (by omega)).1.mpr (by omega))) h)) ?_
          refine pw_l (fun _ _ _ _ k => pm_iconst (v := 0) B9 dL_lines_119 (by decide) k) ?_
          refine pw_l (fun _ _ _ _ k => pm_istore_n B9 dL_lines_120 rfl rfl k) ?_
          refine pw_l (fun _ _ _ _ k => pm_loc (L' := [some (.ref (z + 0)), some (.int (nI j)), some (.ref (z + x)), some (.int 0)]) rfl k) ?_
          refine pw_l (fun _ _ _ _ k => pm_loc (L' := [some (.ref (z + 0)), some (.int (nI j)), some (.ref (z + x)), some (.int (nI 0))]) rfl k) ?_
          have hi9 : i = pm_n (r (7 + 6 * j + 4)) := by omega
          subst hi9
          exact pw_cr (by omega) (by omega) (pw_wk (W' := (pw_ts z kA kE (B, r, hs, (0, ln)) ((pw_lh r j ++ List.replicate (pm_n (r (7 + 6 * j + 4))) 33) ++ List.replicate (0) 120) x [])) (fun _ _ h => by rw [List.replicate_zero, List.append_nil]; exact h) (m2 (pm_n (r (7 + 6 * j + 5))) 0 x (by omega)))
        | succ q ihq =>
          intro i x hiq
          refine pw_l (fun _ _ _ _ k => pm_iload_n B9 dL_lines_83 rfl k) ?_
          refine pw_l (fun _ _ _ _ k => pm_aload_n B9 dL_lines_84 rfl k) ?_
          refine pw_l (fun _ _ _ _ k => pm_iload_n B9 dL_lines_85 rfl k) ?_
          refine pw_cSW (As := [.ref (z + 0), .int (nI j)]) (c2 := (6 * (q + 1) + 36 + (70 * k + 10) - (2) + 0)) (s2 := (76 * (q + 1) + 294 + (700 * k + 60) - (12) + 0)) B9 (t_ltsW (fun _ => (pv_as (pv_L_warnings_in (i := j) (by omega) hI.1.2.1) (b_L_warnings hI)))) mt_L_warnings ss_L_212 dL_lines_86 rfl rfl rfl (by omega) (by omega) ?_
          refine pw_l (fun _ _ _ _ k => pm_stk (st' := [.int (pw_wa r j), .int (nI i)]) rfl k) ?_
          refine pw_l (fun _ _ _ _ k => pm_icmp_ge (tgt := 119) B9 dL_lines_89 (by decide) (fun h => absurd h ((fun e => absurd ((pw_waC hI hj (by omega)).1.mp e) (by omega)))) (fun _ => k)) ?_
          refine pw_ex fun v => pw_ex fun gg => pw_and fun hgg => ?_
          refine pw_nsb (c2 := (6 * (q + 1) + 36 + (70 * k + 10) - (4) + 0)) (s2 := (76 * (q + 1) + 294 + (700 * k + 60) - (32) + 0)) B9 dL_lines_92 dL_lines_95 dL_lines_96 rfl rfl (by omega) (by omega) (fun a14 b14 _ _ _ => ?_)
          refine pw_wk (W' := (pw_tb z kA kE (B, r, hs, (0, ln)) 16 ([]) a14 ((x, .inr (11, [.ref (z + v), .int 0, .int 0, .int 0])) :: (v, .inl (kA 4, (pw_lh r j ++ List.replicate (i) 33).length, .inl gg)) :: []))) (fun _ _ h => pw_tb0 h) ?_
          refine pw_l (fun _ _ _ _ k => pm_aload_n B9 dL_lines_99 rfl k) ?_
          have hlt : (pw_lh r j ++ List.replicate (i) 33).length ≤ 15 := by simp only [List.length_append, List.length_replicate]; omega
          refine pw_cU (As := [.ref (z + x)]) (c2 := (6 * (q + 1) + 36 + (70 * k + 10) - (4) + 0)) (s2 := (76 * (q + 1) + 294 + (700 * k + 60) - (32) + 0)) B9 rfl rfl (fun _ _ hW => pw_tb_a hW) (t_appM hgg (by simp only [List.length_nil]; omega)) mt_J4_append_15ec4 sv_L_329 dL_lines_100 rfl rfl rfl (by omega) (by omega) (fun _ => ?_)
          refine pw_l (fun _ _ _ _ k => pm_stk (st' := [.ref (z + a14)]) rfl k) ?_
          refine pw_l (fun _ _ _ _ k => pm_ldcwS (a := kE (40 + 3)) B9 (fun U H h => (h.2.1.1 3 (by decide)).1) dL_lines_103 k) ?_
          refine pw_cU (As := [.ref (kE (40 + 3))]) (c2 := (6 * (q + 1) + 36 + (70 * k + 10) - (4) + 0)) (s2 := (76 * (q + 1) + 294 + (700 * k + 60) - (32) + 0)) B9 rfl rfl (fun _ _ hW => pw_tb_a hW) (t_appT (bs := [33]) (s := kE (40 + 3)) (v := kE (140 + 3)) (fun U H h => (h.2.1.1 3 (by decide)).2) (by decide) (by decide) (by rw [List.nil_append]; show _ + 1 ≤ 16; omega)) mt_J4_append_15ec4 sv_L_329 dL_lines_106 rfl rfl rfl (by omega) (by omega) (fun _ => ?_)
          refine pw_l (fun _ _ _ _ k => pm_stk (st' := [.ref (z + a14)]) rfl k) ?_
          refine pw_cU (As := []) (c2 := (6 * (q + 1) + 36 + (70 * k + 10) - (6) + 0)) (s2 := (76 * (q + 1) + 294 + (700 * k + 60) - (76) + 0)) B9 rfl rfl (fun _ _ hW => pw_tb_a hW) t_str mt_J4_toString_0e30d sv_L_336 dL_lines_109 rfl rfl rfl (by omega) (by omega) (fun x15 => ?_)
          refine pw_l (fun _ _ _ _ k => pm_stk (st' := [.ref (z + x15)]) rfl k) ?_
          refine pw_l (fun _ _ _ _ k => pm_astore_n B9 dL_lines_112 rfl rfl k) ?_
          refine pw_l (fun _ _ _ _ k => pm_loc (L' := [some (.ref (z + 0)), some (.int (nI j)), some (.ref (z + x15)), some (.int (nI i))]) rfl k) ?_
          refine pw_l (fun _ _ _ _ k => pm_iinc B9 dL_lines_113 rfl rfl rfl k) ?_
          refine pw_l (fun _ _ _ _ k => pm_loc (L' := [some (.ref (z + 0)), some (.int (nI j)), some (.ref (z + x15)), some (.int (nI (i + 1)))]) (by rw [show ((nI i) : Int32) + Int32.ofInt 1 = (nI (i + 1)) from nI_1 _]; rfl) k) ?_
          refine pw_l (fun _ _ _ _ k => pm_goto (tgt := 83) B9 dL_lines_116 (by decide) k) ?_
          refine pw_wk (W' := (pw_ts z kA kE (B, r, hs, (0, ln)) (pw_lh r j ++ List.replicate (i + 1) 33) x15 [])) (fun _ _ h => by
              have h9 := pw_tsdrop (ar2 := []) (.cons _ (.cons _ (List.Sublist.refl _))) h
              rw [List.nil_append] at h9
              rw [List.replicate_succ', ← List.append_assoc]
              exact h9) ?_
          exact pw_cr (by omega) (by omega) (ihq (i + 1) x15 (by omega))
      refine pw_l (fun _ _ _ _ k => pm_astore_n B9 dL_lines_80 rfl rfl k) ?_
      refine pw_l (fun _ _ _ _ k => pm_loc (L' := [some (.ref (z + 0)), some (.int (nI j)), some (.ref (z + x6)), none]) rfl k) ?_
      refine pw_l (fun _ _ _ _ k => pm_iconst (v := 0) B9 dL_lines_81 (by decide) k) ?_
      refine pw_l (fun _ _ _ _ k => pm_istore_n B9 dL_lines_82 rfl rfl k) ?_
      refine pw_l (fun _ _ _ _ k => pm_loc (L' := [some (.ref (z + 0)), some (.int (nI j)), some (.ref (z + x6)), some (.int 0)]) rfl k) ?_
      refine pw_l (fun _ _ _ _ k => pm_loc (L' := [some (.ref (z + 0)), some (.int (nI j)), some (.ref (z + x6)), some (.int (nI 0))]) rfl k) ?_
      exact pw_cr (by omega) (by omega) (pw_wk (W' := (pw_ts z kA kE (B, r, hs, (0, ln)) (pw_lh r j ++ List.replicate (0) 33) x6 [])) (fun _ _ h => by rw [List.replicate_zero, List.append_nil]; exact h) (m1 (pm_n (r (7 + 6 * j + 4))) 0 x6 (by omega)))
  refine pw_l (fun _ _ _ _ k => pm_iconst (v := 0) B9 dL_lines_0 (by decide) k) ?_
  refine pw_l (fun _ _ _ _ k => pm_istore_n B9 dL_lines_1 rfl rfl k) ?_
  refine pw_l (fun _ _ _ _ k => pm_loc (L' := [some (.ref (z + 0)), some (.int 0), none, none]) rfl k) ?_
  refine pw_l (fun _ _ _ _ k => pm_loc (L' := [some (.ref (z + 0)), some (.int (nI 0)), none, none]) rfl k) ?_
  exact pw_cr (by omega) (by omega) (out n 0 ln (by omega))
