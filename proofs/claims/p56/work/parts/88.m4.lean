theorem dL_byRemainders_0 : decode cL_byRemainders 0 = .ok (.aload_n 0, 1) := by decide +kernel
theorem dL_byRemainders_1 : decode cL_byRemainders 1 = .ok (.invokevirtual 177, 3) := by decide +kernel
theorem dL_byRemainders_4 : decode cL_byRemainders 4 = .ok (.istore_n 2, 1) := by decide +kernel
theorem dL_byRemainders_5 : decode cL_byRemainders 5 = .ok (.bipush 7, 2) := by decide +kernel
theorem dL_byRemainders_7 : decode cL_byRemainders 7 = .ok (.newarray .int, 2) := by decide +kernel
theorem dL_byRemainders_9 : decode cL_byRemainders 9 = .ok (.astore_n 3, 1) := by decide +kernel
theorem dL_byRemainders_10 : decode cL_byRemainders 10 = .ok (.iconst 0, 1) := by decide +kernel
theorem dL_byRemainders_11 : decode cL_byRemainders 11 = .ok (.istore 4, 2) := by decide +kernel
theorem dL_byRemainders_13 : decode cL_byRemainders 13 = .ok (.iconst 0, 1) := by decide +kernel
theorem dL_byRemainders_14 : decode cL_byRemainders 14 = .ok (.istore 5, 2) := by decide +kernel
theorem dL_byRemainders_16 : decode cL_byRemainders 16 = .ok (.iload 5, 2) := by decide +kernel
theorem dL_byRemainders_18 : decode cL_byRemainders 18 = .ok (.iload_n 2, 1) := by decide +kernel
theorem dL_byRemainders_19 : decode cL_byRemainders 19 = .ok (.if_icmp .ge 35, 3) := by decide +kernel
theorem dL_byRemainders_22 : decode cL_byRemainders 22 = .ok (.iload 4, 2) := by decide +kernel
theorem dL_byRemainders_24 : decode cL_byRemainders 24 = .ok (.aload_n 0, 1) := by decide +kernel
theorem dL_byRemainders_25 : decode cL_byRemainders 25 = .ok (.iload 5, 2) := by decide +kernel
theorem dL_byRemainders_27 : decode cL_byRemainders 27 = .ok (.invokevirtual 30, 3) := by decide +kernel
theorem dL_byRemainders_30 : decode cL_byRemainders 30 = .ok (.bipush 98, 2) := by decide +kernel
theorem dL_byRemainders_32 : decode cL_byRemainders 32 = .ok (.if_icmp .ne 7, 3) := by decide +kernel
theorem dL_byRemainders_35 : decode cL_byRemainders 35 = .ok (.iconst 0, 1) := by decide +kernel
theorem dL_byRemainders_36 : decode cL_byRemainders 36 = .ok (.goto 9, 3) := by decide +kernel
theorem dL_byRemainders_39 : decode cL_byRemainders 39 = .ok (.aload_n 0, 1) := by decide +kernel
theorem dL_byRemainders_40 : decode cL_byRemainders 40 = .ok (.iload 5, 2) := by decide +kernel
theorem dL_byRemainders_42 : decode cL_byRemainders 42 = .ok (.invokevirtual 24, 3) := by decide +kernel
theorem dL_byRemainders_45 : decode cL_byRemainders 45 = .ok (.iadd, 1) := by decide +kernel
theorem dL_byRemainders_46 : decode cL_byRemainders 46 = .ok (.istore 4, 2) := by decide +kernel
theorem dL_byRemainders_48 : decode cL_byRemainders 48 = .ok (.iinc 5 1, 3) := by decide +kernel
theorem dL_byRemainders_51 : decode cL_byRemainders 51 = .ok (.goto (-35), 3) := by decide +kernel
theorem dL_byRemainders_54 : decode cL_byRemainders 54 = .ok (.iload 4, 2) := by decide +kernel
theorem dL_byRemainders_56 : decode cL_byRemainders 56 = .ok (.ifCond .ne 7, 3) := by decide +kernel
theorem dL_byRemainders_59 : decode cL_byRemainders 59 = .ok (.iconst 0, 1) := by decide +kernel
theorem dL_byRemainders_60 : decode cL_byRemainders 60 = .ok (.goto 4, 3) := by decide +kernel
theorem dL_byRemainders_63 : decode cL_byRemainders 63 = .ok (.iload_n 1, 1) := by decide +kernel
theorem dL_byRemainders_64 : decode cL_byRemainders 64 = .ok (.istore 5, 2) := by decide +kernel
theorem dL_byRemainders_66 : decode cL_byRemainders 66 = .ok (.iconst 0, 1) := by decide +kernel
theorem dL_byRemainders_67 : decode cL_byRemainders 67 = .ok (.istore 6, 2) := by decide +kernel
theorem dL_byRemainders_69 : decode cL_byRemainders 69 = .ok (.iload 6, 2) := by decide +kernel
theorem dL_byRemainders_71 : decode cL_byRemainders 71 = .ok (.iload_n 2, 1) := by decide +kernel
theorem dL_byRemainders_72 : decode cL_byRemainders 72 = .ok (.if_icmp .ge 53, 3) := by decide +kernel
theorem dL_byRemainders_75 : decode cL_byRemainders 75 = .ok (.iload 4, 2) := by decide +kernel
theorem dL_byRemainders_77 : decode cL_byRemainders 77 = .ok (.ifCond .le 48, 3) := by decide +kernel
theorem dL_byRemainders_80 : decode cL_byRemainders 80 = .ok (.aload_n 3, 1) := by decide +kernel
theorem dL_byRemainders_81 : decode cL_byRemainders 81 = .ok (.iload 6, 2) := by decide +kernel
theorem dL_byRemainders_83 : decode cL_byRemainders 83 = .ok (.aload_n 0, 1) := by decide +kernel
theorem dL_byRemainders_84 : decode cL_byRemainders 84 = .ok (.iload 6, 2) := by decide +kernel
theorem dL_byRemainders_86 : decode cL_byRemainders 86 = .ok (.invokevirtual 30, 3) := by decide +kernel
theorem dL_byRemainders_89 : decode cL_byRemainders 89 = .ok (.bipush 98, 2) := by decide +kernel
theorem dL_byRemainders_91 : decode cL_byRemainders 91 = .ok (.if_icmp .ne 7, 3) := by decide +kernel
theorem dL_byRemainders_94 : decode cL_byRemainders 94 = .ok (.iconst 0, 1) := by decide +kernel
theorem dL_byRemainders_95 : decode cL_byRemainders 95 = .ok (.goto 14, 3) := by decide +kernel
theorem dL_byRemainders_98 : decode cL_byRemainders 98 = .ok (.iload_n 1, 1) := by decide +kernel
theorem dL_byRemainders_99 : decode cL_byRemainders 99 = .ok (.aload_n 0, 1) := by decide +kernel
theorem dL_byRemainders_100 : decode cL_byRemainders 100 = .ok (.iload 6, 2) := by decide +kernel
theorem dL_byRemainders_102 : decode cL_byRemainders 102 = .ok (.invokevirtual 24, 3) := by decide +kernel
theorem dL_byRemainders_105 : decode cL_byRemainders 105 = .ok (.imul, 1) := by decide +kernel
theorem dL_byRemainders_106 : decode cL_byRemainders 106 = .ok (.iload 4, 2) := by decide +kernel
theorem dL_byRemainders_108 : decode cL_byRemainders 108 = .ok (.idiv, 1) := by decide +kernel
theorem dL_byRemainders_109 : decode cL_byRemainders 109 = .ok (.iastore, 1) := by decide +kernel
theorem dL_byRemainders_110 : decode cL_byRemainders 110 = .ok (.iload 5, 2) := by decide +kernel
theorem dL_byRemainders_112 : decode cL_byRemainders 112 = .ok (.aload_n 3, 1) := by decide +kernel
theorem dL_byRemainders_113 : decode cL_byRemainders 113 = .ok (.iload 6, 2) := by decide +kernel
theorem dL_byRemainders_115 : decode cL_byRemainders 115 = .ok (.iaload, 1) := by decide +kernel
theorem dL_byRemainders_116 : decode cL_byRemainders 116 = .ok (.isub, 1) := by decide +kernel
theorem dL_byRemainders_117 : decode cL_byRemainders 117 = .ok (.istore 5, 2) := by decide +kernel
theorem dL_byRemainders_119 : decode cL_byRemainders 119 = .ok (.iinc 6 1, 3) := by decide +kernel
theorem dL_byRemainders_122 : decode cL_byRemainders 122 = .ok (.goto (-53), 3) := by decide +kernel
theorem dL_byRemainders_125 : decode cL_byRemainders 125 = .ok (.iload 4, 2) := by decide +kernel
theorem dL_byRemainders_127 : decode cL_byRemainders 127 = .ok (.iconst 1, 1) := by decide +kernel
theorem dL_byRemainders_128 : decode cL_byRemainders 128 = .ok (.isub, 1) := by decide +kernel
theorem dL_byRemainders_129 : decode cL_byRemainders 129 = .ok (.istore 6, 2) := by decide +kernel
theorem dL_byRemainders_131 : decode cL_byRemainders 131 = .ok (.iload 6, 2) := by decide +kernel
theorem dL_byRemainders_133 : decode cL_byRemainders 133 = .ok (.ifCond .le 72, 3) := by decide +kernel
theorem dL_byRemainders_136 : decode cL_byRemainders 136 = .ok (.iload 5, 2) := by decide +kernel
theorem dL_byRemainders_138 : decode cL_byRemainders 138 = .ok (.ifCond .le 67, 3) := by decide +kernel
theorem dL_byRemainders_141 : decode cL_byRemainders 141 = .ok (.iconst 0, 1) := by decide +kernel
theorem dL_byRemainders_142 : decode cL_byRemainders 142 = .ok (.istore 7, 2) := by decide +kernel
theorem dL_byRemainders_144 : decode cL_byRemainders 144 = .ok (.iload 7, 2) := by decide +kernel
theorem dL_byRemainders_146 : decode cL_byRemainders 146 = .ok (.iload_n 2, 1) := by decide +kernel
theorem dL_byRemainders_147 : decode cL_byRemainders 147 = .ok (.if_icmp .ge 52, 3) := by decide +kernel
theorem dL_byRemainders_150 : decode cL_byRemainders 150 = .ok (.iload 5, 2) := by decide +kernel
theorem dL_byRemainders_152 : decode cL_byRemainders 152 = .ok (.ifCond .le 47, 3) := by decide +kernel
theorem dL_byRemainders_155 : decode cL_byRemainders 155 = .ok (.aload_n 0, 1) := by decide +kernel
theorem dL_byRemainders_156 : decode cL_byRemainders 156 = .ok (.iload 7, 2) := by decide +kernel
theorem dL_byRemainders_158 : decode cL_byRemainders 158 = .ok (.invokevirtual 30, 3) := by decide +kernel
theorem dL_byRemainders_161 : decode cL_byRemainders 161 = .ok (.bipush 98, 2) := by decide +kernel
theorem dL_byRemainders_163 : decode cL_byRemainders 163 = .ok (.if_icmp .eq 30, 3) := by decide +kernel
theorem dL_byRemainders_166 : decode cL_byRemainders 166 = .ok (.iload_n 1, 1) := by decide +kernel
theorem dL_byRemainders_167 : decode cL_byRemainders 167 = .ok (.aload_n 0, 1) := by decide +kernel
theorem dL_byRemainders_168 : decode cL_byRemainders 168 = .ok (.iload 7, 2) := by decide +kernel
theorem dL_byRemainders_170 : decode cL_byRemainders 170 = .ok (.invokevirtual 24, 3) := by decide +kernel
theorem dL_byRemainders_173 : decode cL_byRemainders 173 = .ok (.imul, 1) := by decide +kernel
theorem dL_byRemainders_174 : decode cL_byRemainders 174 = .ok (.iload 4, 2) := by decide +kernel
theorem dL_byRemainders_176 : decode cL_byRemainders 176 = .ok (.irem, 1) := by decide +kernel
theorem dL_byRemainders_177 : decode cL_byRemainders 177 = .ok (.iload 6, 2) := by decide +kernel
theorem dL_byRemainders_179 : decode cL_byRemainders 179 = .ok (.if_icmp .ne 14, 3) := by decide +kernel
theorem dL_byRemainders_182 : decode cL_byRemainders 182 = .ok (.aload_n 3, 1) := by decide +kernel
theorem dL_byRemainders_183 : decode cL_byRemainders 183 = .ok (.iload 7, 2) := by decide +kernel
theorem dL_byRemainders_185 : decode cL_byRemainders 185 = .ok (.dup2, 1) := by decide +kernel
theorem dL_byRemainders_186 : decode cL_byRemainders 186 = .ok (.iaload, 1) := by decide +kernel
theorem dL_byRemainders_187 : decode cL_byRemainders 187 = .ok (.iconst 1, 1) := by decide +kernel
theorem dL_byRemainders_188 : decode cL_byRemainders 188 = .ok (.iadd, 1) := by decide +kernel
theorem dL_byRemainders_189 : decode cL_byRemainders 189 = .ok (.iastore, 1) := by decide +kernel
theorem dL_byRemainders_190 : decode cL_byRemainders 190 = .ok (.iinc 5 (-1), 3) := by decide +kernel
theorem dL_byRemainders_193 : decode cL_byRemainders 193 = .ok (.iinc 7 1, 3) := by decide +kernel
theorem dL_byRemainders_196 : decode cL_byRemainders 196 = .ok (.goto (-52), 3) := by decide +kernel
theorem dL_byRemainders_199 : decode cL_byRemainders 199 = .ok (.iinc 6 (-1), 3) := by decide +kernel
theorem dL_byRemainders_202 : decode cL_byRemainders 202 = .ok (.goto (-71), 3) := by decide +kernel
theorem dL_byRemainders_205 : decode cL_byRemainders 205 = .ok (.aload_n 3, 1) := by decide +kernel
theorem dL_byRemainders_206 : decode cL_byRemainders 206 = .ok (.areturn, 1) := by decide +kernel
theorem mt_L_byRemainders : pm_Mt yL_byRemainders cL_byRemainders 8 (some (.array .int)) 2 := ⟨pm_T_in 970 (by decide +kernel) (by decide +kernel), pm_T_in 34 (by decide +kernel) (by decide +kernel), ⟨by decide +kernel, by decide +kernel, by decide +kernel⟩, by decide +kernel, by decide⟩
def w_L_byRemainders_2 (r : (Nat → Int32)) (T : Nat) (C : Nat) (x0 : Int32) (x1 : (Nat → Int32)) : Nat → (Int32 × (Nat → Int32))
  | 0 => (x0, x1)
  | j2 + 1 => (((w_L_byRemainders_2 r T C x0 x1 j2).1 - ((upd (w_L_byRemainders_2 r T C x0 x1 j2).2 j2 ((if (pw_st r j2) = 98 then 0 else (((nI T) * (r (7 + 6 * j2 + 0))) / (nI C))) : Int32)) j2)), (upd (w_L_byRemainders_2 r T C x0 x1 j2).2 j2 ((if (pw_st r j2) = 98 then 0 else (((nI T) * (r (7 + 6 * j2 + 0))) / (nI C))) : Int32)))
def w_L_byRemainders_1 (r : (Nat → Int32)) (x0 : Int32) : Nat → Int32
  | 0 => x0
  | j1 + 1 => ((w_L_byRemainders_1 r x0 j1) + ((if (pw_st r j1) = 98 then 0 else (r (7 + 6 * j1 + 0))) : Int32))
theorem pw_sfM {F : Nat → Nat} {k j : Nat} : ∀ d, pm_sf F k j ≤ pm_sf F (k + d) j := by
  intro d
  induction d with
  | zero => exact Nat.le_refl _
  | succ d ih =>
    rw [show k + (d + 1) = (k + d) + 1 by omega, pm_sf_top]
    omega
theorem pw_brS {B n : Nat} {r : Nat → Int32} (hI : pm_I B n r) : ∃ C, pm_sf (pm_cF r) n 0 = C ∧ C ≤ 693 ∧ w_L_byRemainders_1 r 0 n = nI C := by
  have h7 := hI.1.2.1
  have hb := pm_sf_b (F := pm_cF r) (b := 99) n 0 fun i _ hi => pm_cF_le hI.2.1 (by omega)
  refine ⟨_, rfl, by omega, ?_⟩
  have key : ∀ j, j ≤ n → w_L_byRemainders_1 r 0 j = nI (pm_sf (pm_cF r) j 0) := by
    intro j
    induction j with
    | zero => intro _; rfl
    | succ j ih =>
      intro hj
      show w_L_byRemainders_1 r 0 j + ((if (pw_st r j) = 98 then 0 else (r (7 + 6 * j + 0))) : Int32) = _
      rw [ih (by omega), pm_sf_top, Nat.zero_add]
      by_cases hb : r (7 + 6 * j + 5) = 0
      · rw [if_neg (fun e => pw_st98.mp e hb), show pm_cF r j = pm_n (r (7 + 6 * j + 0)) from if_pos hb, ← nI_add, ← (hI.2.1 j (by omega)).1.1]
      · rw [if_pos (pw_st98.mpr hb), show pm_cF r j = 0 from if_neg hb, Int32.add_zero, Nat.add_zero]
  exact key n (Nat.le_refl n)
theorem pw_brL {B n T C : Nat} {r : Nat → Int32} (hI : pm_I B n r) (hT : T ≤ 300) (hC : 0 < C) (hC2 : C ≤ 693) (hCe : pm_sf (pm_cF r) n 0 = C) : (w_L_byRemainders_2 r T C (nI T) (fun _ => 0) n).1 = nI (T - pm_sf (pm_fl T C r) n 0) ∧ ∀ i, i < n → (w_L_byRemainders_2 r T C (nI T) (fun _ => 0) n).2 i = nI (pm_fl T C r i) := by
  have h7 := hI.1.2.1
  obtain ⟨s1, s2⟩ := pw_s1 (T := T) hC hCe
  have key : ∀ j, j ≤ n → (w_L_byRemainders_2 r T C (nI T) (fun _ => 0) j).1 = nI (T - pm_sf (pm_fl T C r) j 0) ∧ ∀ i, i < j → (w_L_byRemainders_2 r T C (nI T) (fun _ => 0) j).2 i = nI (pm_fl T C r i) := by
    intro j
    induction j with
    | zero => intro _; exact ⟨rfl, fun i hi => absurd hi (Nat.not_lt_zero _)⟩
    | succ j ih =>
      intro hj
      obtain ⟨e1, e2⟩ := ih (by omega)
      have hv : ((if (pw_st r j) = 98 then 0 else (((nI T) * (r (7 + 6 * j + 0))) / (nI C))) : Int32) = nI (pm_fl T C r j) := by
        by_cases hb : r (7 + 6 * j + 5) = 0
        · rw [if_neg (fun e => pw_st98.mp e hb)]
          exact (pm_apN hI.2.1 hT hC hC2 (by omega) hb).1
        · rw [if_pos (pw_st98.mpr hb)]
          unfold pm_fl
          rw [show pm_cF r j = 0 from if_neg hb, Nat.mul_zero, Nat.zero_div]
          rfl
      have hm := pw_sfM (F := pm_fl T C r) (k := j + 1) (j := 0) (n - (j + 1))
      rw [show j + 1 + (n - (j + 1)) = n by omega, pm_sf_top, Nat.zero_add] at hm
      refine ⟨?_, fun i hi => ?_⟩
      · show (w_L_byRemainders_2 r T C (nI T) (fun _ => 0) j).1 - (upd (w_L_byRemainders_2 r T C (nI T) (fun _ => 0) j).2 j _) j = _
        rw [pk_us, hv, e1, pm_sf_top, Nat.zero_add, pq_sub (by omega)]
        congr 1
        omega
      · show (upd (w_L_byRemainders_2 r T C (nI T) (fun _ => 0) j).2 j _) i = _
        by_cases hij : i = j
        · subst hij; rw [pk_us, hv]
        · rw [pk_un hij]; exact e2 i (by omega)
  exact key n (Nat.le_refl n)
set_option maxRecDepth 100000 in
set_option maxHeartbeats 8000000 in
theorem c_L_byRemainders {l : Launch} {z : Nat} {D : va_G} {kA : Nat → ClassId} {kE : Nat → Nat} {B n : Nat} {r : Nat → Int32} {hs : List (Nat → Int32)} {u : Nat × List Nat} {ar : List (Nat × va_E)} {T : Nat} (hI : pm_I B n r) (h0 : 0 < n) (hT : T ≤ 300) : ∀ nx M, (pw_W z kA kE (B, r, hs, u) ar) nx M → pm_C l z D kA kE yL_byRemainders cL_byRemainders 8 (some (.array .int)) 60 19443 116659 [.ref (z + 0), .int (nI T)] nx M (fun o n' M' => ∃ p : Nat × (Nat → Int32), o = .inl (some (.ref (z + p.1))) ∧ (∀ i, i < n → p.2 i = pw_qb n r (nI T) 0 i) ∧ pw_W z kA kE (B, r, hs, u) ((p.1, .inl (kA 0, 7, .inl p.2)) :: ar) n' M') := by
  refine pw_mk (own := RL) (nm := "byRemainders") mt_L_byRemainders rfl rfl rfl rfl fun X B9 => ?_
  have h7 : n ≤ 7 := hI.1.2.1
  obtain ⟨C, hCe, hCle, hCw⟩ := pw_brS hI
  refine pw_l (fun _ _ _ _ k => pm_loc (L' := [some (.ref (z + 0)), some (.int (nI T)), none, none, none, none, none, none]) rfl k) ?_
  refine pw_l (fun _ _ _ _ k => pm_aload_n B9 dL_byRemainders_0 rfl k) ?_
  refine pw_cV (As := []) (c2 := (19443 - (2) + 0)) (s2 := (116659 - (12) + 0)) B9 (fun _ _ hW => pw_0 hW) rfl (a_X12_memberCount hI) mt_X12_memberCount sv_L_177 dL_byRemainders_1 rfl rfl rfl (by omega) (by omega) ?_
  refine pw_l (fun _ _ _ _ k => pm_stk (st' := [.int (nI n)]) rfl k) ?_
  refine pw_l (fun _ _ _ _ k => pm_istore_n B9 dL_byRemainders_4 rfl rfl k) ?_
  refine pw_l (fun _ _ _ _ k => pm_loc (L' := [some (.ref (z + 0)), some (.int (nI T)), some (.int (nI n)), none, none, none, none, none]) rfl k) ?_
  refine pw_l (fun _ _ _ _ k => pm_bipush (v := 7) B9 dL_byRemainders_5 (by decide) k) ?_
  refine pw_newi (c2 := (19443 - (3) + 0)) (s2 := (116659 - (19) + 0)) (N := 7) B9 dL_byRemainders_7 rfl rfl (by omega) (by omega) (fun w1 hw1 => ?_)
  refine pw_l (fun _ _ _ _ k => pm_astore_n B9 dL_byRemainders_9 rfl rfl k) ?_
  refine pw_l (fun _ _ _ _ k => pm_loc (L' := [some (.ref (z + 0)), some (.int (nI T)), some (.int (nI n)), some (.ref (z + w1)), none, none, none, none]) rfl k) ?_
  refine pw_l (fun _ _ _ _ k => pm_iconst (v := 0) B9 dL_byRemainders_10 (by decide) k) ?_
  refine pw_l (fun _ _ _ _ k => pm_istore B9 dL_byRemainders_11 rfl rfl k) ?_
  refine pw_l (fun _ _ _ _ k => pm_loc (L' := [some (.ref (z + 0)), some (.int (nI T)), some (.int (nI n)), some (.ref (z + w1)), some (.int 0), none, none, none]) rfl k) ?_
  refine pw_l (fun _ _ _ _ k => pm_iconst (v := 0) B9 dL_byRemainders_13 (by decide) k) ?_
  refine pw_l (fun _ _ _ _ k => pm_istore B9 dL_byRemainders_14 rfl rfl k) ?_
  refine pw_l (fun _ _ _ _ k => pm_loc (L' := [some (.ref (z + 0)), some (.int (nI T)), some (.int (nI n)), some (.ref (z + w1)), some (.int 0), some (.int 0), none, none]) rfl k) ?_
  refine pw_l (fun _ _ _ _ k => pm_loc (L' := [some (.ref (z + 0)), some (.int (nI T)), some (.int (nI n)), some (.ref (z + w1)), some (.int 0), some (.int (nI 0)), none, none]) (congrArg (fun yy : Int32 => ([some (.ref (z + 0)), some (.int (nI T)), some (.int (nI n)), some (.ref (z + w1)), some (.int 0), some (.int yy), none, none] : List (Option Value))) rfl) k) ?_
  have hx1 : pw_J l z D X 19443 116659 (pm_Q z D (fun o n' M' => ∃ p : Nat × (Nat → Int32), o = .inl (some (.ref (z + p.1))) ∧ (∀ i, i < n → p.2 i = pw_qb n r (nI T) 0 i) ∧ pw_W z kA kE (B, r, hs, u) ((p.1, .inl (kA 0, 7, .inl p.2)) :: ar) n' M') 19443 116659 X) (pw_W z kA kE (B, r, hs, u) ((w1, .inl (kA 0, 7, .inl (fun _ => 0))) :: ar)) (19443 - (3 + 8 * 4) + 0) (116659 - (19 + 8 * 24) + 0) 54 [some (.ref (z + 0)), some (.int (nI T)), some (.int (nI n)), some (.ref (z + w1)), some (.int (w_L_byRemainders_1 r 0 n)), none, none, none] [] := by
    refine pw_l (fun _ _ _ _ k => pm_loc (L' := [some (.ref (z + 0)), some (.int (nI T)), some (.int (nI n)), some (.ref (z + w1)), some (.int (nI C)), none, none, none]) (congrArg (fun yy : Int32 => ([some (.ref (z + 0)), some (.int (nI T)), some (.int (nI n)), some (.ref (z + w1)), some (.int yy), none, none, none] : List (Option Value))) hCw) k) ?_
    by_cases hC0 : C = 0
    · refine pw_l (fun _ _ _ _ k => pm_loc (L' := [some (.ref (z + 0)), some (.int (nI T)), some (.int (nI n)), some (.ref (z + w1)), some (.int 0), none, none, none]) (congrArg (fun yy : Int32 => ([some (.ref (z + 0)), some (.int (nI T)), some (.int (nI n)), some (.ref (z + w1)), some (.int yy), none, none, none] : List (Option Value))) (by rw [hC0]; rfl)) k) ?_
      refine pw_l (fun _ _ _ _ k => pm_iload B9 dL_byRemainders_54 rfl k) ?_
      refine pw_l (fun _ _ _ _ k => pm_if_ne (tgt := 63) B9 dL_byRemainders_56 (by decide) (fun h => absurd (rfl) h) (fun _ => k)) ?_
      refine pw_l (fun _ _ _ _ k => pm_iconst (v := 0) B9 dL_byRemainders_59 (by decide) k) ?_
      refine pw_l (fun _ _ _ _ k => pm_goto (tgt := 64) B9 dL_byRemainders_60 (by decide) k) ?_
      refine pw_l (fun _ _ _ _ k => pm_istore B9 dL_byRemainders_64 rfl rfl k) ?_
      refine pw_l (fun _ _ _ _ k => pm_loc (L' := [some (.ref (z + 0)), some (.int (nI T)), some (.int (nI n)), some (.ref (z + w1)), some (.int 0), some (.int 0), none, none]) rfl k) ?_
      refine pw_l (fun _ _ _ _ k => pm_iconst (v := 0) B9 dL_byRemainders_66 (by decide) k) ?_
      refine pw_l (fun _ _ _ _ k => pm_istore B9 dL_byRemainders_67 rfl rfl k) ?_
      refine pw_l (fun _ _ _ _ k => pm_loc (L' := [some (.ref (z + 0)), some (.int (nI T)), some (.int (nI n)), some (.ref (z + w1)), some (.int 0), some (.int 0), some (.int 0), none]) rfl k) ?_
      refine pw_l (fun _ _ _ _ k => pm_iload B9 dL_byRemainders_69 rfl k) ?_
      refine pw_l (fun _ _ _ _ k => pm_iload_n B9 dL_byRemainders_71 rfl k) ?_
      refine pw_l (fun _ _ _ _ k => pm_icmp_ge (tgt := 125) B9 dL_byRemainders_72 (by decide) (fun h => absurd h ((fun e => absurd ((nI_leI (a := n) (b := 0) (by omega) (by omega)).mp e) (by omega)))) (fun _ => k)) ?_
      refine pw_l (fun _ _ _ _ k => pm_iload B9 dL_byRemainders_75 rfl k) ?_
      refine pw_l (fun _ _ _ _ k => pm_if_le (tgt := 125) B9 dL_byRemainders_77 (by decide) (fun _ => k) (fun h => absurd (by decide) h)) ?_
      refine pw_l (fun _ _ _ _ k => pm_iload B9 dL_byRemainders_125 rfl k) ?_
      refine pw_l (fun _ _ _ _ k => pm_iconst (v := 1) B9 dL_byRemainders_127 (by decide) k) ?_
      refine pw_l (fun _ _ _ _ k => pm_isub B9 dL_byRemainders_128 k) ?_
      refine pw_l (fun _ _ _ _ k => pm_istore B9 dL_byRemainders_129 rfl rfl k) ?_
      refine pw_l (fun _ _ _ _ k => pm_loc (L' := [some (.ref (z + 0)), some (.int (nI T)), some (.int (nI n)), some (.ref (z + w1)), some (.int 0), some (.int 0), some (.int (0 - 1)), none]) rfl k) ?_
      refine pw_l (fun _ _ _ _ k => pm_iload B9 dL_byRemainders_131 rfl k) ?_
      refine pw_l (fun _ _ _ _ k => pm_if_le (tgt := 205) B9 dL_byRemainders_133 (by decide) (fun _ => k) (fun h => absurd (by decide) h)) ?_
      refine pw_l (fun _ _ _ _ k => pm_aload_n B9 dL_byRemainders_205 rfl k) ?_
      exact fun cu su nx M h1 h2 hW => pm_areturn B9 dL_byRemainders_206 rfl (by first | exact Or.inl ⟨_, rfl⟩ | exact Or.inr ⟨_, rfl⟩) (by first | exact Or.inl rfl | exact Or.inr ⟨_, rfl⟩) ⟨(w1, _), rfl, fun i hi => (pw_qb0 hI.2.1 (hCe.trans hC0) hi h7).symm, hW⟩ (Nat.ble_eq_true_of_le (by omega)) (Nat.ble_eq_true_of_le (by omega))
    · have hCp : 0 < C := by omega
      have hCn : ¬ nI C = 0 := nI_ne0 hCp (by omega)
      refine pw_l (fun _ _ _ _ k => pm_iload B9 dL_byRemainders_54 rfl k) ?_
      refine pw_l (fun _ _ _ _ k => pm_if_ne (tgt := 63) B9 dL_byRemainders_56 (by decide) (fun _ => k) (fun h => absurd h (hCn))) ?_
      refine pw_l (fun _ _ _ _ k => pm_iload_n B9 dL_byRemainders_63 rfl k) ?_
      refine pw_l (fun _ _ _ _ k => pm_istore B9 dL_byRemainders_64 rfl rfl k) ?_
      refine pw_l (fun _ _ _ _ k => pm_loc (L' := [some (.ref (z + 0)), some (.int (nI T)), some (.int (nI n)), some (.ref (z + w1)), some (.int (nI C)), some (.int (nI T)), none, none]) rfl k) ?_
      refine pw_l (fun _ _ _ _ k => pm_iconst (v := 0) B9 dL_byRemainders_66 (by decide) k) ?_
      refine pw_l (fun _ _ _ _ k => pm_istore B9 dL_byRemainders_67 rfl rfl k) ?_
      refine pw_l (fun _ _ _ _ k => pm_loc (L' := [some (.ref (z + 0)), some (.int (nI T)), some (.int (nI n)), some (.ref (z + w1)), some (.int (nI C)), some (.int (nI T)), some (.int 0), none]) rfl k) ?_
      refine pw_l (fun _ _ _ _ k => pm_loc (L' := [some (.ref (z + 0)), some (.int (nI T)), some (.int (nI n)), some (.ref (z + w1)), some (.int (nI C)), some (.int (nI T)), some (.int (nI 0)), none]) (congrArg (fun yy : Int32 => ([some (.ref (z + 0)), some (.int (nI T)), some (.int (nI n)), some (.ref (z + w1)), some (.int (nI C)), some (.int (nI T)), some (.int yy), none] : List (Option Value))) rfl) k) ?_
      have hx2 : pw_J l z D X 19443 116659 (pm_Q z D (fun o n' M' => ∃ p : Nat × (Nat → Int32), o = .inl (some (.ref (z + p.1))) ∧ (∀ i, i < n → p.2 i = pw_qb n r (nI T) 0 i) ∧ pw_W z kA kE (B, r, hs, u) ((p.1, .inl (kA 0, 7, .inl p.2)) :: ar) n' M') 19443 116659 X) (pw_W z kA kE (B, r, hs, u) ((w1, .inl (kA 0, 7, .inl ((w_L_byRemainders_2 r T C (nI T) (fun _ => 0) n).2))) :: ar)) (19443 - (3 + 8 * 4 + 8 * 4) + 0) (116659 - (19 + 8 * 24 + 8 * 24) + 0) 125 [some (.ref (z + 0)), some (.int (nI T)), some (.int (nI n)), some (.ref (z + w1)), some (.int (nI C)), some (.int (w_L_byRemainders_2 r T C (nI T) (fun _ => 0) n).1), none, none] [] := by
        obtain ⟨e5, eq⟩ := pw_brL hI hT hCp hCle hCe
        obtain ⟨Lz, hLz⟩ : ∃ Lz, Lz = T - pm_sf (pm_fl T C r) n 0 := ⟨_, rfl⟩
        rw [← hLz] at e5
        refine pw_l (fun _ _ _ _ k => pm_loc (L' := [some (.ref (z + 0)), some (.int (nI T)), some (.int (nI n)), some (.ref (z + w1)), some (.int (nI C)), some (.int (nI (Lz - 0))), none, none]) (congrArg (fun yy : Int32 => ([some (.ref (z + 0)), some (.int (nI T)), some (.int (nI n)), some (.ref (z + w1)), some (.int (nI C)), some (.int yy), none, none] : List (Option Value))) (by rw [Nat.sub_zero]; exact e5)) k) ?_
        have hq0 : pw_iv T C n r Lz (C - 1) 0 0 0 ((w_L_byRemainders_2 r T C (nI T) (fun _ => 0) n).2) := pw_iv_0 hCp h7 eq
        generalize ((w_L_byRemainders_2 r T C (nI T) (fun _ => 0) n).2) = q0 at hq0 ⊢
        refine pw_l (fun _ _ _ _ k => pm_iload B9 dL_byRemainders_125 rfl k) ?_
        refine pw_l (fun _ _ _ _ k => pm_iconst (v := 1) B9 dL_byRemainders_127 (by decide) k) ?_
        refine pw_l (fun _ _ _ _ k => pm_isub B9 dL_byRemainders_128 k) ?_
        refine pw_l (fun _ _ _ _ k => pm_istore B9 dL_byRemainders_129 rfl rfl k) ?_
        refine pw_l (fun _ _ _ _ k => pm_loc (L' := [some (.ref (z + 0)), some (.int (nI T)), some (.int (nI n)), some (.ref (z + w1)), some (.int (nI C)), some (.int (nI (Lz - 0))), some (.int ((nI C) - 1)), none]) rfl k) ?_
        refine pw_l (fun _ _ _ _ k => pm_loc (L' := [some (.ref (z + 0)), some (.int (nI T)), some (.int (nI n)), some (.ref (z + w1)), some (.int (nI C)), some (.int (nI (Lz - 0))), some (.int (nI (C - 1))), none]) (congrArg (fun yy : Int32 => ([some (.ref (z + 0)), some (.int (nI T)), some (.int (nI n)), some (.ref (z + w1)), some (.int (nI C)), some (.int (nI (Lz - 0))), some (.int yy), none] : List (Option Value))) (pq_sub (b := 1) (by omega))) k) ?_
        have out3 : ∀ m p D9 q, m < C → pw_iv T C n r Lz m 0 D9 p q → pw_J l z D X 19443 116659 (pm_Q z D (fun o n' M' => ∃ p : Nat × (Nat → Int32), o = .inl (some (.ref (z + p.1))) ∧ (∀ i, i < n → p.2 i = pw_qb n r (nI T) 0 i) ∧ pw_W z kA kE (B, r, hs, u) ((p.1, .inl (kA 0, 7, .inl p.2)) :: ar) n' M') 19443 116659 X) (pw_W z kA kE (B, r, hs, u) ((w1, .inl (kA 0, 7, .inl q)) :: ar)) (m * 28) (m * 168) 131 [some (.ref (z + 0)), some (.int (nI T)), some (.int (nI n)), some (.ref (z + w1)), some (.int (nI C)), some (.int (nI (Lz - p))), some (.int (nI m)), none] [] := by
          intro m
          induction m with
          | zero =>
            intro p D9 q hmC hv
            refine pw_l (fun _ _ _ _ k => pm_iload B9 dL_byRemainders_131 rfl k) ?_
            refine pw_l (fun _ _ _ _ k => pm_if_le (tgt := 205) B9 dL_byRemainders_133 (by decide) (fun _ => k) (fun h => absurd (by decide) h)) ?_
            refine pw_l (fun _ _ _ _ k => pm_aload_n B9 dL_byRemainders_205 rfl k) ?_
            exact fun cu su nx M h1 h2 hW => pm_areturn B9 dL_byRemainders_206 rfl (by first | exact Or.inl ⟨_, rfl⟩ | exact Or.inr ⟨_, rfl⟩) (by first | exact Or.inl rfl | exact Or.inr ⟨_, rfl⟩) ⟨(w1, _), rfl, pw_iv_e hI.2.1 h7 hT hCp hCle hCe hLz hv (pw_iv_z hCp hCe hLz hv), hW⟩ (Nat.ble_eq_true_of_le (by omega)) (Nat.ble_eq_true_of_le (by omega))
          | succ m ih3 =>
            intro p D9 q hmC hv
            refine pw_l (fun _ _ _ _ k => pm_iload B9 dL_byRemainders_131 rfl k) ?_
            refine pw_l (fun _ _ _ _ k => pm_if_le (tgt := 205) B9 dL_byRemainders_133 (by decide) (fun h => absurd h ((fun e => absurd ((nI_leI (a := m + 1) (b := 0) (by omega) (by omega)).mp e) (by omega)))) (fun _ => k)) ?_
            refine pw_l (fun _ _ _ _ k => pm_iload B9 dL_byRemainders_136 rfl k) ?_
            refine pw_l2 (fun _ _ _ _ k1 k2 => pm_if_le (tgt := 205) B9 dL_byRemainders_138 (by decide) k1 k2) (fun hq9 => ?_) (fun hq9 => ?_)
            · have hp0 : p = Lz := by
                have h9 := (nI_leI (a := Lz - p) (b := 0) (by omega) (by omega)).mp hq9
                have h8 := hv.2.1
                omega
              refine pw_l (fun _ _ _ _ k => pm_aload_n B9 dL_byRemainders_205 rfl k) ?_
              exact fun cu su nx M h1 h2 hW => pm_areturn B9 dL_byRemainders_206 rfl (by first | exact Or.inl ⟨_, rfl⟩ | exact Or.inr ⟨_, rfl⟩) (by first | exact Or.inl rfl | exact Or.inr ⟨_, rfl⟩) ⟨(w1, _), rfl, pw_iv_e hI.2.1 h7 hT hCp hCle hCe hLz hv hp0, hW⟩ (Nat.ble_eq_true_of_le (by omega)) (Nat.ble_eq_true_of_le (by omega))
            · refine pw_l (fun _ _ _ _ k => pm_iconst (v := 0) B9 dL_byRemainders_141 (by decide) k) ?_
              refine pw_l (fun _ _ _ _ k => pm_istore B9 dL_byRemainders_142 rfl rfl k) ?_
              refine pw_l (fun _ _ _ _ k => pm_loc (L' := [some (.ref (z + 0)), some (.int (nI T)), some (.int (nI n)), some (.ref (z + w1)), some (.int (nI C)), some (.int (nI (Lz - p))), some (.int (nI (m + 1))), some (.int 0)]) rfl k) ?_
              have out4 : ∀ k j p D9 q, j + k = n → pw_iv T C n r Lz (m + 1) j D9 p q → pw_J l z D X 19443 116659 (pm_Q z D (fun o n' M' => ∃ p : Nat × (Nat → Int32), o = .inl (some (.ref (z + p.1))) ∧ (∀ i, i < n → p.2 i = pw_qb n r (nI T) 0 i) ∧ pw_W z kA kE (B, r, hs, u) ((p.1, .inl (kA 0, 7, .inl p.2)) :: ar) n' M') 19443 116659 X) (pw_W z kA kE (B, r, hs, u) ((w1, .inl (kA 0, 7, .inl q)) :: ar)) (k * 4 + m * 28) (k * 24 + m * 168) 144 [some (.ref (z + 0)), some (.int (nI T)), some (.int (nI n)), some (.ref (z + w1)), some (.int (nI C)), some (.int (nI (Lz - p))), some (.int (nI (m + 1))), some (.int (nI j))] [] := by
                intro k
                induction k with
                | zero =>
                  intro j p D9 q hjk hv
                  refine pw_l (fun _ _ _ _ k => pm_iload B9 dL_byRemainders_144 rfl k) ?_
                  refine pw_l (fun _ _ _ _ k => pm_iload_n B9 dL_byRemainders_146 rfl k) ?_
                  refine pw_l (fun _ _ _ _ k => pm_icmp_ge (tgt := 199) B9 dL_byRemainders_147 (by decide) (fun _ => k) (fun h => absurd ((by rw [show j = n by omega]; exact Int32.le_refl _)) h)) ?_
                  refine pw_l (fun _ _ _ _ k => pm_iinc B9 dL_byRemainders_199 rfl rfl rfl k) ?_
                  refine pw_l (fun _ _ _ _ k => pm_loc (L' := [some (.ref (z + 0)), some (.int (nI T)), some (.int (nI n)), some (.ref (z + w1)), some (.int (nI C)), some (.int (nI (Lz - p))), some (.int ((nI (m + 1)) + Int32.ofInt (-1))), some (.int (nI j))]) rfl k) ?_
                  refine pw_l (fun _ _ _ _ k => pm_loc (L' := [some (.ref (z + 0)), some (.int (nI T)), some (.int (nI n)), some (.ref (z + w1)), some (.int (nI C)), some (.int (nI (Lz - p))), some (.int (nI m)), some (.int (nI j))]) (congrArg (fun yy : Int32 => ([some (.ref (z + 0)), some (.int (nI T)), some (.int (nI n)), some (.ref (z + w1)), some (.int (nI C)), some (.int (nI (Lz - p))), some (.int yy), some (.int (nI j))] : List (Option Value))) (by show nI (m + 1) + -1 = nI m; rw [← nI_1]; exact (by rw [Int32.add_assoc, show (1 : Int32) + -1 = 0 from rfl, Int32.add_zero]))) k) ?_
                  refine pw_l (fun _ _ _ _ k => pm_goto (tgt := 131) B9 dL_byRemainders_202 (by decide) k) ?_
                  refine pw_l (fun _ _ _ _ k => pm_wk (L' := [some (.ref (z + 0)), some (.int (nI T)), some (.int (nI n)), some (.ref (z + w1)), some (.int (nI C)), some (.int (nI (Lz - p))), some (.int (nI m)), none]) ⟨rfl, ⟨rfl, ⟨rfl, ⟨rfl, ⟨rfl, ⟨rfl, ⟨rfl, trivial⟩⟩⟩⟩⟩⟩⟩ k) ?_
                  exact pw_cr (by omega) (by omega) (ih3 _ _ _ (by omega) (pw_iv_m (by rw [show j = n by omega] at hv; exact hv)))
                | succ k ih4 =>
                  intro j p D9 q hjk hv
                  have hjn : j < n := by omega
                  refine pw_l (fun _ _ _ _ k => pm_iload B9 dL_byRemainders_144 rfl k) ?_
                  refine pw_l (fun _ _ _ _ k => pm_iload_n B9 dL_byRemainders_146 rfl k) ?_
                  refine pw_l (fun _ _ _ _ k => pm_icmp_ge (tgt := 199) B9 dL_byRemainders_147 (by decide) (fun h => absurd h ((fun e => absurd ((nI_leI (a := n) (b := j) (by omega) (by omega)).mp e) (by omega)))) (fun _ => k)) ?_
                  refine pw_l (fun _ _ _ _ k => pm_iload B9 dL_byRemainders_150 rfl k) ?_
                  refine pw_l2 (fun _ _ _ _ k1 k2 => pm_if_le (tgt := 199) B9 dL_byRemainders_152 (by decide) k1 k2) (fun hq12 => ?_) (fun hq12 => ?_)
                  · have hp0 : p = Lz := by
                      have h9 := (nI_leI (a := Lz - p) (b := 0) (by omega) (by omega)).mp hq12
                      have h8 := hv.2.1
                      omega
                    refine pw_l (fun _ _ _ _ k => pm_iinc B9 dL_byRemainders_199 rfl rfl rfl k) ?_
                    refine pw_l (fun _ _ _ _ k => pm_loc (L' := [some (.ref (z + 0)), some (.int (nI T)), some (.int (nI n)), some (.ref (z + w1)), some (.int (nI C)), some (.int (nI (Lz - p))), some (.int ((nI (m + 1)) + Int32.ofInt (-1))), some (.int (nI j))]) rfl k) ?_
                    refine pw_l (fun _ _ _ _ k => pm_loc (L' := [some (.ref (z + 0)), some (.int (nI T)), some (.int (nI n)), some (.ref (z + w1)), some (.int (nI C)), some (.int (nI (Lz - p))), some (.int (nI m)), some (.int (nI j))]) (congrArg (fun yy : Int32 => ([some (.ref (z + 0)), some (.int (nI T)), some (.int (nI n)), some (.ref (z + w1)), some (.int (nI C)), some (.int (nI (Lz - p))), some (.int yy), some (.int (nI j))] : List (Option Value))) (by show nI (m + 1) + -1 = nI m; rw [← nI_1]; exact (by rw [Int32.add_assoc, show (1 : Int32) + -1 = 0 from rfl, Int32.add_zero]))) k) ?_
                    refine pw_l (fun _ _ _ _ k => pm_goto (tgt := 131) B9 dL_byRemainders_202 (by decide) k) ?_
                    refine pw_l (fun _ _ _ _ k => pm_wk (L' := [some (.ref (z + 0)), some (.int (nI T)), some (.int (nI n)), some (.ref (z + w1)), some (.int (nI C)), some (.int (nI (Lz - p))), some (.int (nI m)), none]) ⟨rfl, ⟨rfl, ⟨rfl, ⟨rfl, ⟨rfl, ⟨rfl, ⟨rfl, trivial⟩⟩⟩⟩⟩⟩⟩ k) ?_
                    exact pw_cr (by omega) (by omega) (ih3 _ _ _ (by omega) (pw_iv_f hv hp0))
                  · have hp1 : p < Lz := Nat.lt_of_not_le fun h9 => hq12 (by rw [show Lz - p = 0 by omega]; decide)
                    refine pw_l (fun _ _ _ _ k => pm_aload_n B9 dL_byRemainders_155 rfl k) ?_
                    refine pw_l (fun _ _ _ _ k => pm_iload B9 dL_byRemainders_156 rfl k) ?_
                    refine pw_cV (As := [.int (nI j)]) (c2 := (((k + 1) * 4 + m * 28) - (2) + 0)) (s2 := (((k + 1) * 24 + m * 168) - (12) + 0)) B9 (fun _ _ hW => pw_0 hW) rfl (a_X12_standing hI (i := j) (by omega)) mt_X12_standing sv_L_30 dL_byRemainders_158 rfl rfl rfl (by omega) (by omega) ?_
                    refine pw_l (fun _ _ _ _ k => pm_stk (st' := [.int (pw_st r j)]) rfl k) ?_
                    refine pw_l (fun _ _ _ _ k => pm_bipush (v := 98) B9 dL_byRemainders_161 (by decide) k) ?_
                    refine pw_l2 (fun _ _ _ _ k1 k2 => pm_icmp_eq (tgt := 193) B9 dL_byRemainders_163 (by decide) k1 k2) (fun hq13 => ?_) (fun hq13 => ?_)
                    · have hb := pw_st98.mp hq13
                      refine pw_l (fun _ _ _ _ k => pm_iinc B9 dL_byRemainders_193 rfl rfl rfl k) ?_
                      refine pw_l (fun _ _ _ _ k => pm_loc (L' := [some (.ref (z + 0)), some (.int (nI T)), some (.int (nI n)), some (.ref (z + w1)), some (.int (nI C)), some (.int (nI (Lz - p))), some (.int (nI (m + 1))), some (.int (nI (j + 1)))]) (by rw [show ((nI j) : Int32) + Int32.ofInt 1 = (nI (j + 1)) from nI_1 _]; rfl) k) ?_
                      refine pw_l (fun _ _ _ _ k => pm_goto (tgt := 144) B9 dL_byRemainders_196 (by decide) k) ?_
                      exact pw_cr (by omega) (by omega) (ih4 (j + 1) _ _ _ (by omega) (pw_iv_s hv (fun e => absurd e hb)))
                    · have hb : r (7 + 6 * j + 5) = 0 := Classical.not_not.mp (mt pw_st98.mpr hq13)
                      have hrq := (pm_apN hI.2.1 hT hCp hCle hjn hb).2
                      refine pw_l (fun _ _ _ _ k => pm_iload_n B9 dL_byRemainders_166 rfl k) ?_
                      refine pw_l (fun _ _ _ _ k => pm_aload_n B9 dL_byRemainders_167 rfl k) ?_
                      refine pw_l (fun _ _ _ _ k => pm_iload B9 dL_byRemainders_168 rfl k) ?_
                      refine pw_cV (As := [.int (nI j)]) (c2 := (((k + 1) * 4 + m * 28) - (4) + 0)) (s2 := (((k + 1) * 24 + m * 168) - (24) + 0)) B9 (fun _ _ hW => pw_0 hW) rfl (a_X12_capacity hI (i := j) (by omega)) mt_X12_capacity sv_L_24 dL_byRemainders_170 rfl rfl rfl (by omega) (by omega) ?_
                      refine pw_l (fun _ _ _ _ k => pm_stk (st' := [.int (r (7 + 6 * j + 0)), .int (nI T)]) rfl k) ?_
                      refine pw_l (fun _ _ _ _ k => pm_imul B9 dL_byRemainders_173 k) ?_
                      refine pw_l (fun _ _ _ _ k => pm_iload B9 dL_byRemainders_174 rfl k) ?_
                      refine pw_l (fun _ _ _ _ k => pm_irem B9 dL_byRemainders_176 (by first | decide | assumption) k) ?_
                      refine pw_l (fun _ _ _ _ k => pm_iload B9 dL_byRemainders_177 rfl k) ?_
                      refine pw_l (fun _ _ _ _ k => pm_stk (st' := [.int (nI (m + 1)), .int (nI (pm_rq T C r j))]) (congrArg (fun yy : Int32 => ([.int (nI (m + 1)), .int yy] : List Value)) (show (((nI T) * (r (7 + 6 * j + 0))) - ((nI T) * (r (7 + 6 * j + 0))) / (nI C) * (nI C)) = (nI (pm_rq T C r j)) from hrq)) k) ?_
                      refine pw_l2 (fun _ _ _ _ k1 k2 => pm_icmp_ne (tgt := 193) B9 dL_byRemainders_179 (by decide) k1 k2) (fun hq14 => ?_) (fun hq14 => ?_)
                      · refine pw_l (fun _ _ _ _ k => pm_iinc B9 dL_byRemainders_193 rfl rfl rfl k) ?_
                        refine pw_l (fun _ _ _ _ k => pm_loc (L' := [some (.ref (z + 0)), some (.int (nI T)), some (.int (nI n)), some (.ref (z + w1)), some (.int (nI C)), some (.int (nI (Lz - p))), some (.int (nI (m + 1))), some (.int (nI (j + 1)))]) (by rw [show ((nI j) : Int32) + Int32.ofInt 1 = (nI (j + 1)) from nI_1 _]; rfl) k) ?_
                        refine pw_l (fun _ _ _ _ k => pm_goto (tgt := 144) B9 dL_byRemainders_196 (by decide) k) ?_
                        exact pw_cr (by omega) (by omega) (ih4 (j + 1) _ _ _ (by omega) (pw_iv_s hv (fun _ e => hq14 (by rw [e]))))
                      · have hmq : pm_rq T C r j = m + 1 := by
                          have h1 : pm_rq T C r j < C := Nat.mod_lt _ hCp
                          exact (nI_eq (by omega) (by omega)).mp hq14
                        refine pw_l (fun _ _ _ _ k => pm_aload_n B9 dL_byRemainders_182 rfl k) ?_
                        refine pw_l (fun _ _ _ _ k => pm_iload B9 dL_byRemainders_183 rfl k) ?_
                        refine pw_l (fun _ _ _ _ k => pm_dup2 B9 dL_byRemainders_185 rfl rfl k) ?_
                        refine pw_lw (fun _ _ _ _ hW k => pm_iald_n B9 dL_byRemainders_186 (pw_at hW 0 rfl) j (by first | assumption | omega) (by decide) k) ?_
                        refine pw_l (fun _ _ _ _ k => pm_iconst (v := 1) B9 dL_byRemainders_187 (by decide) k) ?_
                        refine pw_l (fun _ _ _ _ k => pm_iadd B9 dL_byRemainders_188 k) ?_
                        refine pw_up (W' := (pw_W z kA kE (B, r, hs, u) ((w1, .inl (kA 0, 7, .inl (upd q j ((q j) + 1)))) :: ar))) (fun _ _ _ _ hW k => pm_iast_n B9 dL_byRemainders_189 (pw_at hW 0 rfl) j (by first | assumption | omega) (by decide) (k _ (pw_set0 hW))) ?_
                        refine pw_l (fun _ _ _ _ k => pm_iinc B9 dL_byRemainders_190 rfl rfl rfl k) ?_
                        refine pw_l (fun _ _ _ _ k => pm_loc (L' := [some (.ref (z + 0)), some (.int (nI T)), some (.int (nI n)), some (.ref (z + w1)), some (.int (nI C)), some (.int ((nI (Lz - p)) + Int32.ofInt (-1))), some (.int (nI (m + 1))), some (.int (nI j))]) rfl k) ?_
                        refine pw_l (fun _ _ _ _ k => pm_loc (L' := [some (.ref (z + 0)), some (.int (nI T)), some (.int (nI n)), some (.ref (z + w1)), some (.int (nI C)), some (.int (nI (Lz - (p + 1)))), some (.int (nI (m + 1))), some (.int (nI j))]) (congrArg (fun yy : Int32 => ([some (.ref (z + 0)), some (.int (nI T)), some (.int (nI n)), some (.ref (z + w1)), some (.int (nI C)), some (.int yy), some (.int (nI (m + 1))), some (.int (nI j))] : List (Option Value))) (show nI (Lz - p) + -1 = nI (Lz - (p + 1)) from by rw [show Lz - p = (Lz - (p + 1)) + 1 by omega, ← nI_1, Int32.add_assoc, show (1 : Int32) + -1 = 0 from rfl, Int32.add_zero])) k) ?_
                        refine pw_l (fun _ _ _ _ k => pm_iinc B9 dL_byRemainders_193 rfl rfl rfl k) ?_
                        refine pw_l (fun _ _ _ _ k => pm_loc (L' := [some (.ref (z + 0)), some (.int (nI T)), some (.int (nI n)), some (.ref (z + w1)), some (.int (nI C)), some (.int (nI (Lz - (p + 1)))), some (.int (nI (m + 1))), some (.int (nI (j + 1)))]) (by rw [show ((nI j) : Int32) + Int32.ofInt 1 = (nI (j + 1)) from nI_1 _]; rfl) k) ?_
                        refine pw_l (fun _ _ _ _ k => pm_goto (tgt := 144) B9 dL_byRemainders_196 (by decide) k) ?_
                        exact pw_cr (by omega) (by omega) (ih4 (j + 1) _ _ _ (by omega) (pw_iv_g hv hp1 hjn h7 hb hmq))
              exact pw_cr (by omega) (by omega) (out4 n 0 p D9 q (by omega) hv)
        exact pw_cr (by omega) (by omega) (out3 (C - 1) 0 0 q0 (by omega) hq0)
      have loop2 : ∀ k2 j2 : Nat, j2 + k2 = n → ∀ (a5_2 : Int32), a5_2 = (w_L_byRemainders_2 r T C (nI T) (fun _ => 0) j2).1 → ∀ (q0_2 : (Nat → Int32)), q0_2 = (w_L_byRemainders_2 r T C (nI T) (fun _ => 0) j2).2 → pw_J l z D X 19443 116659 (pm_Q z D (fun o n' M' => ∃ p : Nat × (Nat → Int32), o = .inl (some (.ref (z + p.1))) ∧ (∀ i, i < n → p.2 i = pw_qb n r (nI T) 0 i) ∧ pw_W z kA kE (B, r, hs, u) ((p.1, .inl (kA 0, 7, .inl p.2)) :: ar) n' M') 19443 116659 X) (pw_W z kA kE (B, r, hs, u) ((w1, .inl (kA 0, 7, .inl q0_2)) :: ar)) (k2 * 4 + (4 + (19443 - (3 + 8 * 4 + 8 * 4) + 0))) (k2 * 24 + (24 + (116659 - (19 + 8 * 24 + 8 * 24) + 0))) 69 [some (.ref (z + 0)), some (.int (nI T)), some (.int (nI n)), some (.ref (z + w1)), some (.int (nI C)), some (.int a5_2), some (.int (nI j2)), none] [] := by
        intro k2
        induction k2 with
        | zero =>
          intro j2 hj2 a5_2 ea5_2 q0_2 eq0_2
          have hjn2 : j2 = n := by omega
          refine pw_cr (c2 := (4 - (0) + (19443 - (3 + 8 * 4 + 8 * 4) + 0))) (s2 := (24 - (0) + (116659 - (19 + 8 * 24 + 8 * 24) + 0))) (by omega) (by omega) ?_
          refine pw_l (fun _ _ _ _ k => pm_iload B9 dL_byRemainders_69 rfl k) ?_
          refine pw_l (fun _ _ _ _ k => pm_iload_n B9 dL_byRemainders_71 rfl k) ?_
          refine pw_l (fun _ _ _ _ k => pm_icmp_ge (tgt := 125) B9 dL_byRemainders_72 (by decide) (fun _ => k) (fun h => absurd ((by rw [show (nI n) = nI n from rfl, show (nI j2) = nI j2 from rfl]; exact (nI_leI (by omega) (by omega)).mpr (by omega))) h)) ?_
          refine pw_l (fun _ _ _ _ k => pm_wk (L' := [some (.ref (z + 0)), some (.int (nI T)), some (.int (nI n)), some (.ref (z + w1)), some (.int (nI C)), some (.int a5_2), none, none]) ⟨rfl, ⟨rfl, ⟨rfl, ⟨rfl, ⟨rfl, ⟨rfl, trivial⟩⟩⟩⟩⟩⟩ k) ?_
          exact pw_cr (by omega) (by omega) (pw_eq (by first | with_reducible rfl | simp only [ea5_2, eq0_2, hjn2]) (by first | with_reducible rfl | simp only [ea5_2, eq0_2, hjn2]) rfl hx2)
        | succ k2 ih2 =>
          intro j2 hj2 a5_2 ea5_2 q0_2 eq0_2
          have hjn2 : j2 < n := by omega
          refine pw_cr (c2 := (4 - (0) + (k2 * 4 + (4 + (19443 - (3 + 8 * 4 + 8 * 4) + 0))))) (s2 := (24 - (0) + (k2 * 24 + (24 + (116659 - (19 + 8 * 24 + 8 * 24) + 0))))) (by rw [Nat.succ_mul]; omega) (by rw [Nat.succ_mul]; omega) ?_
          refine pw_l (fun _ _ _ _ k => pm_iload B9 dL_byRemainders_69 rfl k) ?_
          refine pw_l (fun _ _ _ _ k => pm_iload_n B9 dL_byRemainders_71 rfl k) ?_
          refine pw_l (fun _ _ _ _ k => pm_icmp_ge (tgt := 125) B9 dL_byRemainders_72 (by decide) (fun h => absurd h ((by rw [show (nI n) = nI n from rfl, show (nI j2) = nI j2 from rfl]; exact fun e => absurd ((nI_leI (by omega) (by omega)).mp e) (by omega)))) (fun _ => k)) ?_
          refine pw_l (fun _ _ _ _ k => pm_iload B9 dL_byRemainders_75 rfl k) ?_
          refine pw_l (fun _ _ _ _ k => pm_if_le (tgt := 125) B9 dL_byRemainders_77 (by decide) (fun h => absurd h ((fun e => absurd ((nI_leI (a := C) (b := 0) (by omega) (by omega)).mp e) (by omega)))) (fun _ => k)) ?_
          refine pw_l (fun _ _ _ _ k => pm_aload_n B9 dL_byRemainders_80 rfl k) ?_
          refine pw_l (fun _ _ _ _ k => pm_iload B9 dL_byRemainders_81 rfl k) ?_
          refine pw_l (fun _ _ _ _ k => pm_aload_n B9 dL_byRemainders_83 rfl k) ?_
          refine pw_l (fun _ _ _ _ k => pm_iload B9 dL_byRemainders_84 rfl k) ?_
          refine pw_cV (As := [.int (nI j2)]) (c2 := (4 - (2) + (k2 * 4 + (4 + (19443 - (3 + 8 * 4 + 8 * 4) + 0))))) (s2 := (24 - (12) + (k2 * 24 + (24 + (116659 - (19 + 8 * 24 + 8 * 24) + 0))))) B9 (fun _ _ hW => pw_0 hW) rfl (a_X12_standing hI (i := j2) (by omega)) mt_X12_standing sv_L_30 dL_byRemainders_86 rfl rfl rfl (by omega) (by omega) ?_
          refine pw_l (fun _ _ _ _ k => pm_stk (st' := [.int (pw_st r j2), .int (nI j2), .ref (z + w1)]) rfl k) ?_
          refine pw_l (fun _ _ _ _ k => pm_bipush (v := 98) B9 dL_byRemainders_89 (by decide) k) ?_
          suffices hj18 : pw_J l z D X 19443 116659 (pm_Q z D (fun o n' M' => ∃ p : Nat × (Nat → Int32), o = .inl (some (.ref (z + p.1))) ∧ (∀ i, i < n → p.2 i = pw_qb n r (nI T) 0 i) ∧ pw_W z kA kE (B, r, hs, u) ((p.1, .inl (kA 0, 7, .inl p.2)) :: ar) n' M') 19443 116659 X) (pw_W z kA kE (B, r, hs, u) ((w1, .inl (kA 0, 7, .inl q0_2)) :: ar)) (4 - (4) + (k2 * 4 + (4 + (19443 - (3 + 8 * 4 + 8 * 4) + 0)))) (24 - (24) + (k2 * 24 + (24 + (116659 - (19 + 8 * 24 + 8 * 24) + 0)))) 109 [some (.ref (z + 0)), some (.int (nI T)), some (.int (nI n)), some (.ref (z + w1)), some (.int (nI C)), some (.int a5_2), some (.int (nI j2)), none] [.int ((if (pw_st r j2) = 98 then 0 else (((nI T) * (r (7 + 6 * j2 + 0))) / (nI C))) : Int32), .int (nI j2), .ref (z + w1)] by
            refine pw_l2 (fun _ _ _ _ k1 k2 => pm_icmp_ne (tgt := 98) B9 dL_byRemainders_91 (by decide) k1 k2) (fun hq19 => ?_) (fun hq19 => ?_)
            · refine pw_l (fun _ _ _ _ k => pm_iload_n B9 dL_byRemainders_98 rfl k) ?_
              refine pw_l (fun _ _ _ _ k => pm_aload_n B9 dL_byRemainders_99 rfl k) ?_
              refine pw_l (fun _ _ _ _ k => pm_iload B9 dL_byRemainders_100 rfl k) ?_
              refine pw_cV (As := [.int (nI j2)]) (c2 := (4 - (4) + (k2 * 4 + (4 + (19443 - (3 + 8 * 4 + 8 * 4) + 0))))) (s2 := (24 - (24) + (k2 * 24 + (24 + (116659 - (19 + 8 * 24 + 8 * 24) + 0))))) B9 (fun _ _ hW => pw_0 hW) rfl (a_X12_capacity hI (i := j2) (by omega)) mt_X12_capacity sv_L_24 dL_byRemainders_102 rfl rfl rfl (by omega) (by omega) ?_
              refine pw_l (fun _ _ _ _ k => pm_stk (st' := [.int (r (7 + 6 * j2 + 0)), .int (nI T), .int (nI j2), .ref (z + w1)]) rfl k) ?_
              refine pw_l (fun _ _ _ _ k => pm_imul B9 dL_byRemainders_105 k) ?_
              refine pw_l (fun _ _ _ _ k => pm_iload B9 dL_byRemainders_106 rfl k) ?_
              refine pw_l (fun _ _ _ _ k => pm_idiv B9 dL_byRemainders_108 (by first | decide | assumption) k) ?_
              exact pw_cr (by omega) (by omega) (pw_eq (by first | with_reducible rfl | ((try rw [if_neg hq19]); done) | simp only [if_neg hq19]) (by first | with_reducible rfl | ((try rw [if_neg hq19]); done) | simp only [if_neg hq19]) (by first | with_reducible rfl | ((try rw [if_neg hq19]); done) | simp only [if_neg hq19]) hj18)
            · refine pw_l (fun _ _ _ _ k => pm_iconst (v := 0) B9 dL_byRemainders_94 (by decide) k) ?_
              refine pw_l (fun _ _ _ _ k => pm_goto (tgt := 109) B9 dL_byRemainders_95 (by decide) k) ?_
              exact pw_cr (by omega) (by omega) (pw_eq (by first | with_reducible rfl | ((try rw [if_pos hq19]); done) | simp only [if_pos hq19]) (by first | with_reducible rfl | ((try rw [if_pos hq19]); done) | simp only [if_pos hq19]) (by first | with_reducible rfl | ((try rw [if_pos hq19]); done) | simp only [if_pos hq19]) hj18)
          refine pw_up (W' := (pw_W z kA kE (B, r, hs, u) ((w1, .inl (kA 0, 7, .inl (upd q0_2 j2 ((if (pw_st r j2) = 98 then 0 else (((nI T) * (r (7 + 6 * j2 + 0))) / (nI C))) : Int32)))) :: ar))) (fun _ _ _ _ hW k => pm_iast_n B9 dL_byRemainders_109 (pw_at hW 0 rfl) j2 (by first | assumption | omega) (by decide) (k _ (pw_set0 hW))) ?_
          refine pw_l (fun _ _ _ _ k => pm_iload B9 dL_byRemainders_110 rfl k) ?_
          refine pw_l (fun _ _ _ _ k => pm_aload_n B9 dL_byRemainders_112 rfl k) ?_
          refine pw_l (fun _ _ _ _ k => pm_iload B9 dL_byRemainders_113 rfl k) ?_
          refine pw_lw (fun _ _ _ _ hW k => pm_iald_n B9 dL_byRemainders_115 (pw_at hW 0 rfl) j2 (by first | assumption | omega) (by decide) k) ?_
          refine pw_l (fun _ _ _ _ k => pm_isub B9 dL_byRemainders_116 k) ?_
          refine pw_l (fun _ _ _ _ k => pm_istore B9 dL_byRemainders_117 rfl rfl k) ?_
          refine pw_l (fun _ _ _ _ k => pm_loc (L' := [some (.ref (z + 0)), some (.int (nI T)), some (.int (nI n)), some (.ref (z + w1)), some (.int (nI C)), some (.int (a5_2 - ((upd q0_2 j2 ((if (pw_st r j2) = 98 then 0 else (((nI T) * (r (7 + 6 * j2 + 0))) / (nI C))) : Int32)) j2))), some (.int (nI j2)), none]) rfl k) ?_
          refine pw_l (fun _ _ _ _ k => pm_iinc B9 dL_byRemainders_119 rfl rfl rfl k) ?_
          refine pw_l (fun _ _ _ _ k => pm_loc (L' := [some (.ref (z + 0)), some (.int (nI T)), some (.int (nI n)), some (.ref (z + w1)), some (.int (nI C)), some (.int (a5_2 - ((upd q0_2 j2 ((if (pw_st r j2) = 98 then 0 else (((nI T) * (r (7 + 6 * j2 + 0))) / (nI C))) : Int32)) j2))), some (.int (nI (j2 + 1))), none]) (by rw [show ((nI j2) : Int32) + Int32.ofInt 1 = (nI (j2 + 1)) from nI_1 _]; rfl) k) ?_
          refine pw_l (fun _ _ _ _ k => pm_goto (tgt := 69) B9 dL_byRemainders_122 (by decide) k) ?_
          exact pw_cr (by omega) (by omega) (ih2 (j2 + 1) (by omega) _ (by subst ea5_2; subst eq0_2; first | rfl) _ (by subst ea5_2; subst eq0_2; first | rfl))
      exact pw_cr (by omega) (by omega) (loop2 n 0 (by omega) _ rfl _ rfl)
  have loop1 : ∀ k1 j1 : Nat, j1 + k1 = n → ∀ (a4_1 : Int32), a4_1 = (w_L_byRemainders_1 r 0 j1) → pw_J l z D X 19443 116659 (pm_Q z D (fun o n' M' => ∃ p : Nat × (Nat → Int32), o = .inl (some (.ref (z + p.1))) ∧ (∀ i, i < n → p.2 i = pw_qb n r (nI T) 0 i) ∧ pw_W z kA kE (B, r, hs, u) ((p.1, .inl (kA 0, 7, .inl p.2)) :: ar) n' M') 19443 116659 X) (pw_W z kA kE (B, r, hs, u) ((w1, .inl (kA 0, 7, .inl (fun _ => 0))) :: ar)) (k1 * 4 + (4 + (19443 - (3 + 8 * 4) + 0))) (k1 * 24 + (24 + (116659 - (19 + 8 * 24) + 0))) 16 [some (.ref (z + 0)), some (.int (nI T)), some (.int (nI n)), some (.ref (z + w1)), some (.int a4_1), some (.int (nI j1)), none, none] [] := by
    intro k1
    induction k1 with
    | zero =>
      intro j1 hj1 a4_1 ea4_1
      have hjn1 : j1 = n := by omega
      refine pw_cr (c2 := (4 - (0) + (19443 - (3 + 8 * 4) + 0))) (s2 := (24 - (0) + (116659 - (19 + 8 * 24) + 0))) (by omega) (by omega) ?_
      refine pw_l (fun _ _ _ _ k => pm_iload B9 dL_byRemainders_16 rfl k) ?_
      refine pw_l (fun _ _ _ _ k => pm_iload_n B9 dL_byRemainders_18 rfl k) ?_
      refine pw_l (fun _ _ _ _ k => pm_icmp_ge (tgt := 54) B9 dL_byRemainders_19 (by decide) (fun _ => k) (fun h => absurd ((by rw [show (nI n) = nI n from rfl, show (nI j1) = nI j1 from rfl]; exact (nI_leI (by omega) (by omega)).mpr (by omega))) h)) ?_
      refine pw_l (fun _ _ _ _ k => pm_wk (L' := [some (.ref (z + 0)), some (.int (nI T)), some (.int (nI n)), some (.ref (z + w1)), some (.int a4_1), none, none, none]) ⟨rfl, ⟨rfl, ⟨rfl, ⟨rfl, ⟨rfl, trivial⟩⟩⟩⟩⟩ k) ?_
      exact pw_cr (by omega) (by omega) (pw_eq (by first | with_reducible rfl | simp only [ea4_1, hjn1]) (by first | with_reducible rfl | simp only [ea4_1, hjn1]) rfl hx1)
    | succ k1 ih1 =>
      intro j1 hj1 a4_1 ea4_1
      have hjn1 : j1 < n := by omega
      refine pw_cr (c2 := (4 - (0) + (k1 * 4 + (4 + (19443 - (3 + 8 * 4) + 0))))) (s2 := (24 - (0) + (k1 * 24 + (24 + (116659 - (19 + 8 * 24) + 0))))) (by rw [Nat.succ_mul]; omega) (by rw [Nat.succ_mul]; omega) ?_
      refine pw_l (fun _ _ _ _ k => pm_iload B9 dL_byRemainders_16 rfl k) ?_
      refine pw_l (fun _ _ _ _ k => pm_iload_n B9 dL_byRemainders_18 rfl k) ?_
      refine pw_l (fun _ _ _ _ k => pm_icmp_ge (tgt := 54) B9 dL_byRemainders_19 (by decide) (fun h => absurd h ((by rw [show (nI n) = nI n from rfl, show (nI j1) = nI j1 from rfl]; exact fun e => absurd ((nI_leI (by omega) (by omega)).mp e) (by omega)))) (fun _ => k)) ?_
      refine pw_l (fun _ _ _ _ k => pm_iload B9 dL_byRemainders_22 rfl k) ?_
      refine pw_l (fun _ _ _ _ k => pm_aload_n B9 dL_byRemainders_24 rfl k) ?_
      refine pw_l (fun _ _ _ _ k => pm_iload B9 dL_byRemainders_25 rfl k) ?_
      refine pw_cV (As := [.int (nI j1)]) (c2 := (4 - (2) + (k1 * 4 + (4 + (19443 - (3 + 8 * 4) + 0))))) (s2 := (24 - (12) + (k1 * 24 + (24 + (116659 - (19 + 8 * 24) + 0))))) B9 (fun _ _ hW => pw_0 hW) rfl (a_X12_standing hI (i := j1) (by omega)) mt_X12_standing sv_L_30 dL_byRemainders_27 rfl rfl rfl (by omega) (by omega) ?_
      refine pw_l (fun _ _ _ _ k => pm_stk (st' := [.int (pw_st r j1), .int a4_1]) rfl k) ?_
      refine pw_l (fun _ _ _ _ k => pm_bipush (v := 98) B9 dL_byRemainders_30 (by decide) k) ?_
      suffices hj22 : pw_J l z D X 19443 116659 (pm_Q z D (fun o n' M' => ∃ p : Nat × (Nat → Int32), o = .inl (some (.ref (z + p.1))) ∧ (∀ i, i < n → p.2 i = pw_qb n r (nI T) 0 i) ∧ pw_W z kA kE (B, r, hs, u) ((p.1, .inl (kA 0, 7, .inl p.2)) :: ar) n' M') 19443 116659 X) (pw_W z kA kE (B, r, hs, u) ((w1, .inl (kA 0, 7, .inl (fun _ => 0))) :: ar)) (4 - (4) + (k1 * 4 + (4 + (19443 - (3 + 8 * 4) + 0)))) (24 - (24) + (k1 * 24 + (24 + (116659 - (19 + 8 * 24) + 0)))) 45 [some (.ref (z + 0)), some (.int (nI T)), some (.int (nI n)), some (.ref (z + w1)), none, some (.int (nI j1)), none, none] [.int ((if (pw_st r j1) = 98 then 0 else (r (7 + 6 * j1 + 0))) : Int32), .int a4_1] by
        refine pw_l2 (fun _ _ _ _ k1 k2 => pm_icmp_ne (tgt := 39) B9 dL_byRemainders_32 (by decide) k1 k2) (fun hq23 => ?_) (fun hq23 => ?_)
        · refine pw_l (fun _ _ _ _ k => pm_aload_n B9 dL_byRemainders_39 rfl k) ?_
          refine pw_l (fun _ _ _ _ k => pm_iload B9 dL_byRemainders_40 rfl k) ?_
          refine pw_cV (As := [.int (nI j1)]) (c2 := (4 - (4) + (k1 * 4 + (4 + (19443 - (3 + 8 * 4) + 0))))) (s2 := (24 - (24) + (k1 * 24 + (24 + (116659 - (19 + 8 * 24) + 0))))) B9 (fun _ _ hW => pw_0 hW) rfl (a_X12_capacity hI (i := j1) (by omega)) mt_X12_capacity sv_L_24 dL_byRemainders_42 rfl rfl rfl (by omega) (by omega) ?_
          refine pw_l (fun _ _ _ _ k => pm_stk (st' := [.int (r (7 + 6 * j1 + 0)), .int a4_1]) rfl k) ?_
          refine pw_l (fun _ _ _ _ k => pm_wk (L' := [some (.ref (z + 0)), some (.int (nI T)), some (.int (nI n)), some (.ref (z + w1)), none, some (.int (nI j1)), none, none]) ⟨rfl, ⟨rfl, ⟨rfl, ⟨rfl, ⟨rfl, trivial⟩⟩⟩⟩⟩ k) ?_
          exact pw_cr (by omega) (by omega) (pw_eq (by first | with_reducible rfl | ((try rw [if_neg hq23]); done) | simp only [if_neg hq23]) (by first | with_reducible rfl | ((try rw [if_neg hq23]); done) | simp only [if_neg hq23]) (by first | with_reducible rfl | ((try rw [if_neg hq23]); done) | simp only [if_neg hq23]) hj22)
        · refine pw_l (fun _ _ _ _ k => pm_iconst (v := 0) B9 dL_byRemainders_35 (by decide) k) ?_
          refine pw_l (fun _ _ _ _ k => pm_goto (tgt := 45) B9 dL_byRemainders_36 (by decide) k) ?_
          refine pw_l (fun _ _ _ _ k => pm_wk (L' := [some (.ref (z + 0)), some (.int (nI T)), some (.int (nI n)), some (.ref (z + w1)), none, some (.int (nI j1)), none, none]) ⟨rfl, ⟨rfl, ⟨rfl, ⟨rfl, ⟨rfl, trivial⟩⟩⟩⟩⟩ k) ?_
          exact pw_cr (by omega) (by omega) (pw_eq (by first | with_reducible rfl | ((try rw [if_pos hq23]); done) | simp only [if_pos hq23]) (by first | with_reducible rfl | ((try rw [if_pos hq23]); done) | simp only [if_pos hq23]) (by first | with_reducible rfl | ((try rw [if_pos hq23]); done) | simp only [if_pos hq23]) hj22)
      refine pw_l (fun _ _ _ _ k => pm_iadd B9 dL_byRemainders_45 k) ?_
      refine pw_l (fun _ _ _ _ k => pm_istore B9 dL_byRemainders_46 rfl rfl k) ?_
      refine pw_l (fun _ _ _ _ k => pm_loc (L' := [some (.ref (z + 0)), some (.int (nI T)), some (.int (nI n)), some (.ref (z + w1)), some (.int (a4_1 + ((if (pw_st r j1) = 98 then 0 else (r (7 + 6 * j1 + 0))) : Int32))), some (.int (nI j1)), none, none]) rfl k) ?_
      refine pw_l (fun _ _ _ _ k => pm_iinc B9 dL_byRemainders_48 rfl rfl rfl k) ?_
      refine pw_l (fun _ _ _ _ k => pm_loc (L' := [some (.ref (z + 0)), some (.int (nI T)), some (.int (nI n)), some (.ref (z + w1)), some (.int (a4_1 + ((if (pw_st r j1) = 98 then 0 else (r (7 + 6 * j1 + 0))) : Int32))), some (.int (nI (j1 + 1))), none, none]) (by rw [show ((nI j1) : Int32) + Int32.ofInt 1 = (nI (j1 + 1)) from nI_1 _]; rfl) k) ?_
      refine pw_l (fun _ _ _ _ k => pm_goto (tgt := 16) B9 dL_byRemainders_51 (by decide) k) ?_
      exact pw_cr (by omega) (by omega) (ih1 (j1 + 1) (by omega) _ (by subst ea4_1; first | rfl))
  exact pw_cr (by omega) (by omega) (loop1 n 0 (by omega) _ rfl)
