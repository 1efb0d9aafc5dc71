def w_L_areByQuotients_2 (r : (Nat → Int32)) (q : (Nat → Int32)) (j1 : Nat) (x0 : Int32) : Nat → Int32
  | 0 => x0
  | j2 + 1 => ((if (w_L_areByQuotients_2 r q j1 x0 j2) = 0 then 0 else (if (nI j2) = (nI j1) then 1 else (if ((if (pw_st r j1) = 98 then 1 else 0) : Int32) = 0 then (if (pw_st r j2) = 98 then 1 else (if (q j1) = 0 then 1 else (if ((if 0 < (((r (7 + 6 * j1 + 0)) * ((q j2) + 1)) - ((r (7 + 6 * j2 + 0)) * (q j1))) then 1 else (if (((r (7 + 6 * j1 + 0)) * ((q j2) + 1)) - ((r (7 + 6 * j2 + 0)) * (q j1))) = 0 then (if (nI j2) ≤ (nI j1) then 0 else 1) else 0)) : Int32) = 0 then 0 else 1))) else 1))) : Int32)
def w_L_areByQuotients_1 (n : Nat) (r : (Nat → Int32)) (q : (Nat → Int32)) (x0 : Int32) (x1 : Int32) : Nat → (Int32 × Int32)
  | 0 => (x0, x1)
  | j1 + 1 => (((w_L_areByQuotients_1 n r q x0 x1 j1).1 + (q j1)), (w_L_areByQuotients_2 r q j1 ((if (w_L_areByQuotients_1 n r q x0 x1 j1).2 = 0 then 0 else (if ((if (pw_st r j1) = 98 then 1 else 0) : Int32) = 0 then 1 else (if (q j1) = 0 then 1 else 0))) : Int32) n))
def v_L_areByQuotients (n : Nat) (r : Nat → Int32) (x : Int32) (q : Nat → Int32) : Int32 := ((if (w_L_areByQuotients_1 n r q 0 1 n).2 = 0 then 0 else (if (w_L_areByQuotients_1 n r q 0 1 n).1 = ((if (w_L_activeSet_1 r 0 n) = 0 then 0 else x) : Int32) then 1 else 0)) : Int32)
/-! the law: areq -/
theorem dL_areByQuotients_0 : decode cL_areByQuotients 0 = .ok (.aload_n 0, 1) := by decide +kernel
theorem dL_areByQuotients_1 : decode cL_areByQuotients 1 = .ok (.invokevirtual 177, 3) := by decide +kernel
theorem dL_areByQuotients_4 : decode cL_areByQuotients 4 = .ok (.istore_n 3, 1) := by decide +kernel
theorem dL_areByQuotients_5 : decode cL_areByQuotients 5 = .ok (.iconst 0, 1) := by decide +kernel
theorem dL_areByQuotients_6 : decode cL_areByQuotients 6 = .ok (.istore 4, 2) := by decide +kernel
theorem dL_areByQuotients_8 : decode cL_areByQuotients 8 = .ok (.iconst 1, 1) := by decide +kernel
theorem dL_areByQuotients_9 : decode cL_areByQuotients 9 = .ok (.istore 5, 2) := by decide +kernel
theorem dL_areByQuotients_11 : decode cL_areByQuotients 11 = .ok (.iconst 0, 1) := by decide +kernel
theorem dL_areByQuotients_12 : decode cL_areByQuotients 12 = .ok (.istore 6, 2) := by decide +kernel
theorem dL_areByQuotients_14 : decode cL_areByQuotients 14 = .ok (.iload 6, 2) := by decide +kernel
theorem dL_areByQuotients_16 : decode cL_areByQuotients 16 = .ok (.iload_n 3, 1) := by decide +kernel
theorem dL_areByQuotients_17 : decode cL_areByQuotients 17 = .ok (.if_icmp .ge 173, 3) := by decide +kernel
theorem dL_areByQuotients_20 : decode cL_areByQuotients 20 = .ok (.aload_n 0, 1) := by decide +kernel
theorem dL_areByQuotients_21 : decode cL_areByQuotients 21 = .ok (.iload 6, 2) := by decide +kernel
theorem dL_areByQuotients_23 : decode cL_areByQuotients 23 = .ok (.invokevirtual 30, 3) := by decide +kernel
theorem dL_areByQuotients_26 : decode cL_areByQuotients 26 = .ok (.bipush 98, 2) := by decide +kernel
theorem dL_areByQuotients_28 : decode cL_areByQuotients 28 = .ok (.if_icmp .ne 7, 3) := by decide +kernel
theorem dL_areByQuotients_31 : decode cL_areByQuotients 31 = .ok (.iconst 1, 1) := by decide +kernel
theorem dL_areByQuotients_32 : decode cL_areByQuotients 32 = .ok (.goto 4, 3) := by decide +kernel
theorem dL_areByQuotients_35 : decode cL_areByQuotients 35 = .ok (.iconst 0, 1) := by decide +kernel
theorem dL_areByQuotients_36 : decode cL_areByQuotients 36 = .ok (.istore 7, 2) := by decide +kernel
theorem dL_areByQuotients_38 : decode cL_areByQuotients 38 = .ok (.iload 4, 2) := by decide +kernel
theorem dL_areByQuotients_40 : decode cL_areByQuotients 40 = .ok (.aload_n 2, 1) := by decide +kernel
theorem dL_areByQuotients_41 : decode cL_areByQuotients 41 = .ok (.iload 6, 2) := by decide +kernel
theorem dL_areByQuotients_43 : decode cL_areByQuotients 43 = .ok (.iaload, 1) := by decide +kernel
theorem dL_areByQuotients_44 : decode cL_areByQuotients 44 = .ok (.iadd, 1) := by decide +kernel
theorem dL_areByQuotients_45 : decode cL_areByQuotients 45 = .ok (.istore 4, 2) := by decide +kernel
theorem dL_areByQuotients_47 : decode cL_areByQuotients 47 = .ok (.iload 5, 2) := by decide +kernel
theorem dL_areByQuotients_49 : decode cL_areByQuotients 49 = .ok (.ifCond .eq 19, 3) := by decide +kernel
theorem dL_areByQuotients_52 : decode cL_areByQuotients 52 = .ok (.iload 7, 2) := by decide +kernel
theorem dL_areByQuotients_54 : decode cL_areByQuotients 54 = .ok (.ifCond .eq 10, 3) := by decide +kernel
theorem dL_areByQuotients_57 : decode cL_areByQuotients 57 = .ok (.aload_n 2, 1) := by decide +kernel
theorem dL_areByQuotients_58 : decode cL_areByQuotients 58 = .ok (.iload 6, 2) := by decide +kernel
theorem dL_areByQuotients_60 : decode cL_areByQuotients 60 = .ok (.iaload, 1) := by decide +kernel
theorem dL_areByQuotients_61 : decode cL_areByQuotients 61 = .ok (.ifCond .ne 7, 3) := by decide +kernel
theorem dL_areByQuotients_64 : decode cL_areByQuotients 64 = .ok (.iconst 1, 1) := by decide +kernel
theorem dL_areByQuotients_65 : decode cL_areByQuotients 65 = .ok (.goto 4, 3) := by decide +kernel
theorem dL_areByQuotients_68 : decode cL_areByQuotients 68 = .ok (.iconst 0, 1) := by decide +kernel
theorem dL_areByQuotients_69 : decode cL_areByQuotients 69 = .ok (.istore 5, 2) := by decide +kernel
theorem dL_areByQuotients_71 : decode cL_areByQuotients 71 = .ok (.iconst 0, 1) := by decide +kernel
theorem dL_areByQuotients_72 : decode cL_areByQuotients 72 = .ok (.istore 8, 2) := by decide +kernel
theorem dL_areByQuotients_74 : decode cL_areByQuotients 74 = .ok (.iload 8, 2) := by decide +kernel
theorem dL_areByQuotients_76 : decode cL_areByQuotients 76 = .ok (.iload_n 3, 1) := by decide +kernel
theorem dL_areByQuotients_77 : decode cL_areByQuotients 77 = .ok (.if_icmp .ge 107, 3) := by decide +kernel
theorem dL_areByQuotients_80 : decode cL_areByQuotients 80 = .ok (.aload_n 0, 1) := by decide +kernel
theorem dL_areByQuotients_81 : decode cL_areByQuotients 81 = .ok (.iload 6, 2) := by decide +kernel
theorem dL_areByQuotients_83 : decode cL_areByQuotients 83 = .ok (.invokevirtual 24, 3) := by decide +kernel
theorem dL_areByQuotients_86 : decode cL_areByQuotients 86 = .ok (.aload_n 2, 1) := by decide +kernel
theorem dL_areByQuotients_87 : decode cL_areByQuotients 87 = .ok (.iload 8, 2) := by decide +kernel
theorem dL_areByQuotients_89 : decode cL_areByQuotients 89 = .ok (.iaload, 1) := by decide +kernel
theorem dL_areByQuotients_90 : decode cL_areByQuotients 90 = .ok (.iconst 1, 1) := by decide +kernel
theorem dL_areByQuotients_91 : decode cL_areByQuotients 91 = .ok (.iadd, 1) := by decide +kernel
theorem dL_areByQuotients_92 : decode cL_areByQuotients 92 = .ok (.imul, 1) := by decide +kernel
theorem dL_areByQuotients_93 : decode cL_areByQuotients 93 = .ok (.aload_n 0, 1) := by decide +kernel
theorem dL_areByQuotients_94 : decode cL_areByQuotients 94 = .ok (.iload 8, 2) := by decide +kernel
theorem dL_areByQuotients_96 : decode cL_areByQuotients 96 = .ok (.invokevirtual 24, 3) := by decide +kernel
theorem dL_areByQuotients_99 : decode cL_areByQuotients 99 = .ok (.aload_n 2, 1) := by decide +kernel
theorem dL_areByQuotients_100 : decode cL_areByQuotients 100 = .ok (.iload 6, 2) := by decide +kernel
theorem dL_areByQuotients_102 : decode cL_areByQuotients 102 = .ok (.iaload, 1) := by decide +kernel
theorem dL_areByQuotients_103 : decode cL_areByQuotients 103 = .ok (.imul, 1) := by decide +kernel
theorem dL_areByQuotients_104 : decode cL_areByQuotients 104 = .ok (.isub, 1) := by decide +kernel
theorem dL_areByQuotients_105 : decode cL_areByQuotients 105 = .ok (.istore 9, 2) := by decide +kernel
theorem dL_areByQuotients_107 : decode cL_areByQuotients 107 = .ok (.iload 9, 2) := by decide +kernel
theorem dL_areByQuotients_109 : decode cL_areByQuotients 109 = .ok (.ifCond .gt 15, 3) := by decide +kernel
theorem dL_areByQuotients_112 : decode cL_areByQuotients 112 = .ok (.iload 9, 2) := by decide +kernel
theorem dL_areByQuotients_114 : decode cL_areByQuotients 114 = .ok (.ifCond .ne 14, 3) := by decide +kernel
theorem dL_areByQuotients_117 : decode cL_areByQuotients 117 = .ok (.iload 6, 2) := by decide +kernel
theorem dL_areByQuotients_119 : decode cL_areByQuotients 119 = .ok (.iload 8, 2) := by decide +kernel
theorem dL_areByQuotients_121 : decode cL_areByQuotients 121 = .ok (.if_icmp .ge 7, 3) := by decide +kernel
theorem dL_areByQuotients_124 : decode cL_areByQuotients 124 = .ok (.iconst 1, 1) := by decide +kernel
theorem dL_areByQuotients_125 : decode cL_areByQuotients 125 = .ok (.goto 4, 3) := by decide +kernel
theorem dL_areByQuotients_128 : decode cL_areByQuotients 128 = .ok (.iconst 0, 1) := by decide +kernel
theorem dL_areByQuotients_129 : decode cL_areByQuotients 129 = .ok (.istore 10, 2) := by decide +kernel
theorem dL_areByQuotients_131 : decode cL_areByQuotients 131 = .ok (.iload 5, 2) := by decide +kernel
theorem dL_areByQuotients_133 : decode cL_areByQuotients 133 = .ok (.ifCond .eq 42, 3) := by decide +kernel
theorem dL_areByQuotients_136 : decode cL_areByQuotients 136 = .ok (.iload 8, 2) := by decide +kernel
theorem dL_areByQuotients_138 : decode cL_areByQuotients 138 = .ok (.iload 6, 2) := by decide +kernel
theorem dL_areByQuotients_140 : decode cL_areByQuotients 140 = .ok (.if_icmp .eq 31, 3) := by decide +kernel
theorem dL_areByQuotients_143 : decode cL_areByQuotients 143 = .ok (.iload 7, 2) := by decide +kernel
theorem dL_areByQuotients_145 : decode cL_areByQuotients 145 = .ok (.ifCond .ne 26, 3) := by decide +kernel
theorem dL_areByQuotients_148 : decode cL_areByQuotients 148 = .ok (.aload_n 0, 1) := by decide +kernel
theorem dL_areByQuotients_149 : decode cL_areByQuotients 149 = .ok (.iload 8, 2) := by decide +kernel
theorem dL_areByQuotients_151 : decode cL_areByQuotients 151 = .ok (.invokevirtual 30, 3) := by decide +kernel
theorem dL_areByQuotients_154 : decode cL_areByQuotients 154 = .ok (.bipush 98, 2) := by decide +kernel
theorem dL_areByQuotients_156 : decode cL_areByQuotients 156 = .ok (.if_icmp .eq 15, 3) := by decide +kernel
theorem dL_areByQuotients_159 : decode cL_areByQuotients 159 = .ok (.aload_n 2, 1) := by decide +kernel
theorem dL_areByQuotients_160 : decode cL_areByQuotients 160 = .ok (.iload 6, 2) := by decide +kernel
theorem dL_areByQuotients_162 : decode cL_areByQuotients 162 = .ok (.iaload, 1) := by decide +kernel
theorem dL_areByQuotients_163 : decode cL_areByQuotients 163 = .ok (.ifCond .eq 8, 3) := by decide +kernel
theorem dL_areByQuotients_166 : decode cL_areByQuotients 166 = .ok (.iload 10, 2) := by decide +kernel
theorem dL_areByQuotients_168 : decode cL_areByQuotients 168 = .ok (.ifCond .eq 7, 3) := by decide +kernel
theorem dL_areByQuotients_171 : decode cL_areByQuotients 171 = .ok (.iconst 1, 1) := by decide +kernel
theorem dL_areByQuotients_172 : decode cL_areByQuotients 172 = .ok (.goto 4, 3) := by decide +kernel
theorem dL_areByQuotients_175 : decode cL_areByQuotients 175 = .ok (.iconst 0, 1) := by decide +kernel
theorem dL_areByQuotients_176 : decode cL_areByQuotients 176 = .ok (.istore 5, 2) := by decide +kernel
theorem dL_areByQuotients_178 : decode cL_areByQuotients 178 = .ok (.iinc 8 1, 3) := by decide +kernel
theorem dL_areByQuotients_181 : decode cL_areByQuotients 181 = .ok (.goto (-107), 3) := by decide +kernel
theorem dL_areByQuotients_184 : decode cL_areByQuotients 184 = .ok (.iinc 6 1, 3) := by decide +kernel
theorem dL_areByQuotients_187 : decode cL_areByQuotients 187 = .ok (.goto (-173), 3) := by decide +kernel
theorem dL_areByQuotients_190 : decode cL_areByQuotients 190 = .ok (.iload 5, 2) := by decide +kernel
theorem dL_areByQuotients_192 : decode cL_areByQuotients 192 = .ok (.ifCond .eq 24, 3) := by decide +kernel
theorem dL_areByQuotients_195 : decode cL_areByQuotients 195 = .ok (.iload 4, 2) := by decide +kernel
theorem dL_areByQuotients_197 : decode cL_areByQuotients 197 = .ok (.aload_n 0, 1) := by decide +kernel
theorem dL_areByQuotients_198 : decode cL_areByQuotients 198 = .ok (.invokestatic 180, 3) := by decide +kernel
theorem dL_areByQuotients_201 : decode cL_areByQuotients 201 = .ok (.ifCond .ne 7, 3) := by decide +kernel
theorem dL_areByQuotients_204 : decode cL_areByQuotients 204 = .ok (.iconst 0, 1) := by decide +kernel
theorem dL_areByQuotients_205 : decode cL_areByQuotients 205 = .ok (.goto 4, 3) := by decide +kernel
theorem dL_areByQuotients_208 : decode cL_areByQuotients 208 = .ok (.iload_n 1, 1) := by decide +kernel
theorem dL_areByQuotients_209 : decode cL_areByQuotients 209 = .ok (.if_icmp .ne 7, 3) := by decide +kernel
theorem dL_areByQuotients_212 : decode cL_areByQuotients 212 = .ok (.iconst 1, 1) := by decide +kernel
theorem dL_areByQuotients_213 : decode cL_areByQuotients 213 = .ok (.goto 4, 3) := by decide +kernel
theorem dL_areByQuotients_216 : decode cL_areByQuotients 216 = .ok (.iconst 0, 1) := by decide +kernel
theorem dL_areByQuotients_217 : decode cL_areByQuotients 217 = .ok (.ireturn, 1) := by decide +kernel
theorem mt_L_areByQuotients : pm_Mt yL_areByQuotients cL_areByQuotients 11 (some .boolean) 3 := ⟨pm_T_in 983 (by decide +kernel) (by decide +kernel), pm_T_in 34 (by decide +kernel) (by decide +kernel), ⟨by decide +kernel, by decide +kernel, by decide +kernel⟩, by decide +kernel, by decide⟩
set_option maxRecDepth 100000 in
set_option maxHeartbeats 8000000 in
theorem c_L_areByQuotients {l : Launch} {z : Nat} {D : va_G} {kA : Nat → ClassId} {kE : Nat → Nat} {B n : Nat} {r : Nat → Int32} {hs : List (Nat → Int32)} {u : Nat × List Nat} {ar : List (Nat × va_E)} {a : Nat} {q : Nat → Int32} {x : Int32} (hI : pm_I B n r) : ∀ nx M, (pw_W z kA kE (B, r, hs, u) ((a, .inl (kA 0, 7, .inl q)) :: ar)) nx M → pm_C l z D kA kE yL_areByQuotients cL_areByQuotients 11 (some .boolean) 60 434 2604 [.ref (z + 0), .int x, .ref (z + a)] nx M (pw_P (some (.int (v_L_areByQuotients n r x q))) (pw_W z kA kE (B, r, hs, u) ((a, .inl (kA 0, 7, .inl q)) :: ar))) := by
  refine pw_mk (own := RL) (nm := "areByQuotients") mt_L_areByQuotients rfl rfl rfl rfl fun X B9 => ?_
  have h7 : n ≤ 7 := hI.1.2.1
  have h128 : 2 ^ n ≤ 128 := pm_p7 h7
  refine pw_l (fun _ _ _ _ k => pm_loc (L' := [some (.ref (z + 0)), some (.int x), some (.ref (z + a)), none, none, none, none, none, none, none, none]) rfl k) ?_
  refine pw_l (fun _ _ _ _ k => pm_aload_n B9 dL_areByQuotients_0 rfl k) ?_
  refine pw_cV (As := []) (c2 := (434 - (2) + 0)) (s2 := (2604 - (12) + 0)) B9 (fun _ _ hW => pw_0 hW) rfl (a_X12_memberCount hI) mt_X12_memberCount sv_L_177 dL_areByQuotients_1 rfl rfl rfl (by omega) (by omega) ?_
  refine pw_l (fun _ _ _ _ k => pm_stk (st' := [.int (nI n)]) rfl k) ?_
  refine pw_l (fun _ _ _ _ k => pm_istore_n B9 dL_areByQuotients_4 rfl rfl k) ?_
  refine pw_l (fun _ _ _ _ k => pm_loc (L' := [some (.ref (z + 0)), some (.int x), some (.ref (z + a)), some (.int (nI n)), none, none, none, none, none, none, none]) rfl k) ?_
  refine pw_l (fun _ _ _ _ k => pm_iconst (v := 0) B9 dL_areByQuotients_5 (by decide) k) ?_
  refine pw_l (fun _ _ _ _ k => pm_istore B9 dL_areByQuotients_6 rfl rfl k) ?_
  refine pw_l (fun _ _ _ _ k => pm_loc (L' := [some (.ref (z + 0)), some (.int x), some (.ref (z + a)), some (.int (nI n)), some (.int 0), none, none, none, none, none, none]) rfl k) ?_
  refine pw_l (fun _ _ _ _ k => pm_iconst (v := 1) B9 dL_areByQuotients_8 (by decide) k) ?_
  refine pw_l (fun _ _ _ _ k => pm_istore B9 dL_areByQuotients_9 rfl rfl k) ?_
  refine pw_l (fun _ _ _ _ k => pm_loc (L' := [some (.ref (z + 0)), some (.int x), some (.ref (z + a)), some (.int (nI n)), some (.int 0), some (.int 1), none, none, none, none, none]) rfl k) ?_
  refine pw_l (fun _ _ _ _ k => pm_iconst (v := 0) B9 dL_areByQuotients_11 (by decide) k) ?_
  refine pw_l (fun _ _ _ _ k => pm_istore B9 dL_areByQuotients_12 rfl rfl k) ?_
  refine pw_l (fun _ _ _ _ k => pm_loc (L' := [some (.ref (z + 0)), some (.int x), some (.ref (z + a)), some (.int (nI n)), some (.int 0), some (.int 1), some (.int 0), none, none, none, none]) rfl k) ?_
  refine pw_l (fun _ _ _ _ k => pm_loc (L' := [some (.ref (z + 0)), some (.int x), some (.ref (z + a)), some (.int (nI n)), some (.int 0), some (.int 1), some (.int (nI 0)), none, none, none, none]) (congrArg (fun yy : Int32 => ([some (.ref (z + 0)), some (.int x), some (.ref (z + a)), some (.int (nI n)), some (.int 0), some (.int 1), some (.int yy), none, none, none, none] : List (Option Value))) rfl) k) ?_
  have hx1 : pw_J l z D X 434 2604 (pm_Q z D (pw_P (some (.int (v_L_areByQuotients n r x q))) (pw_W z kA kE (B, r, hs, u) ((a, .inl (kA 0, 7, .inl q)) :: ar))) 434 2604 X) (pw_W z kA kE (B, r, hs, u) ((a, .inl (kA 0, 7, .inl q)) :: ar)) (434 - (2 + 8 * 50) + 0) (2604 - (12 + 8 * 300) + 0) 190 [some (.ref (z + 0)), some (.int x), none, none, some (.int (w_L_areByQuotients_1 n r q 0 1 n).1), some (.int (w_L_areByQuotients_1 n r q 0 1 n).2), none, none, none, none, none] [] := by
    refine pw_l (fun _ _ _ _ k => pm_iload B9 dL_areByQuotients_190 rfl k) ?_
    suffices hj1 : pw_J l z D X 434 2604 (pm_Q z D (pw_P (some (.int (v_L_areByQuotients n r x q))) (pw_W z kA kE (B, r, hs, u) ((a, .inl (kA 0, 7, .inl q)) :: ar))) 434 2604 X) (pw_W z kA kE (B, r, hs, u) ((a, .inl (kA 0, 7, .inl q)) :: ar)) (434 - (34 + 8 * 50) + 0) (2604 - (204 + 8 * 300) + 0) 217 [none, none, none, none, none, none, none, none, none, none, none] [.int ((if (w_L_areByQuotients_1 n r q 0 1 n).2 = 0 then 0 else (if (w_L_areByQuotients_1 n r q 0 1 n).1 = ((if (w_L_activeSet_1 r 0 n) = 0 then 0 else x) : Int32) then 1 else 0)) : Int32)] by
      refine pw_l2 (fun _ _ _ _ k1 k2 => pm_if_eq (tgt := 216) B9 dL_areByQuotients_192 (by decide) k1 k2) (fun hq2 => ?_) (fun hq2 => ?_)
      · refine pw_l (fun _ _ _ _ k => pm_iconst (v := 0) B9 dL_areByQuotients_216 (by decide) k) ?_
        refine pw_l (fun _ _ _ _ k => pm_wk (L' := [none, none, none, none, none, none, none, none, none, none, none]) trivial k) ?_
        exact pw_cr (by omega) (by omega) (pw_eq (by first | with_reducible rfl | simp only [if_pos hq2]) (by first | with_reducible rfl | simp only [if_pos hq2]) (by first | with_reducible rfl | simp only [if_pos hq2]) hj1)
      · refine pw_l (fun _ _ _ _ k => pm_iload B9 dL_areByQuotients_195 rfl k) ?_
        refine pw_l (fun _ _ _ _ k => pm_aload_n B9 dL_areByQuotients_197 rfl k) ?_
        refine pw_cS (As := [.ref (z + 0)]) (c2 := (434 - (34 + 8 * 50) + 0)) (s2 := (2604 - (204 + 8 * 300) + 0)) B9 (c_L_activeSet hI) mt_L_activeSet ss_L_180 dL_areByQuotients_198 rfl rfl rfl (by omega) (by omega) ?_
        refine pw_l (fun _ _ _ _ k => pm_stk (st' := [.int (w_L_activeSet_1 r 0 n), .int (w_L_areByQuotients_1 n r q 0 1 n).1]) rfl k) ?_
        suffices hj3 : pw_J l z D X 434 2604 (pm_Q z D (pw_P (some (.int (v_L_areByQuotients n r x q))) (pw_W z kA kE (B, r, hs, u) ((a, .inl (kA 0, 7, .inl q)) :: ar))) 434 2604 X) (pw_W z kA kE (B, r, hs, u) ((a, .inl (kA 0, 7, .inl q)) :: ar)) (434 - (34 + 8 * 50) + 0) (2604 - (204 + 8 * 300) + 0) 209 [none, none, none, none, none, none, none, none, none, none, none] [.int ((if (w_L_activeSet_1 r 0 n) = 0 then 0 else x) : Int32), .int (w_L_areByQuotients_1 n r q 0 1 n).1] by
          refine pw_l2 (fun _ _ _ _ k1 k2 => pm_if_ne (tgt := 208) B9 dL_areByQuotients_201 (by decide) k1 k2) (fun hq4 => ?_) (fun hq4 => ?_)
          · refine pw_l (fun _ _ _ _ k => pm_iload_n B9 dL_areByQuotients_208 rfl k) ?_
            refine pw_l (fun _ _ _ _ k => pm_wk (L' := [none, none, none, none, none, none, none, none, none, none, none]) trivial k) ?_
            exact pw_cr (by omega) (by omega) (pw_eq (by first | with_reducible rfl | simp only [if_neg hq4]) (by first | with_reducible rfl | simp only [if_neg hq4]) (by first | with_reducible rfl | simp only [if_neg hq4]) hj3)
          · refine pw_l (fun _ _ _ _ k => pm_iconst (v := 0) B9 dL_areByQuotients_204 (by decide) k) ?_
            refine pw_l (fun _ _ _ _ k => pm_goto (tgt := 209) B9 dL_areByQuotients_205 (by decide) k) ?_
            refine pw_l (fun _ _ _ _ k => pm_wk (L' := [none, none, none, none, none, none, none, none, none, none, none]) trivial k) ?_
            exact pw_cr (by omega) (by omega) (pw_eq (by first | with_reducible rfl | simp only [if_pos hq4]) (by first | with_reducible rfl | simp only [if_pos hq4]) (by first | with_reducible rfl | simp only [if_pos hq4]) hj3)
        refine pw_l2 (fun _ _ _ _ k1 k2 => pm_icmp_ne (tgt := 216) B9 dL_areByQuotients_209 (by decide) k1 k2) (fun hq5 => ?_) (fun hq5 => ?_)
        · refine pw_l (fun _ _ _ _ k => pm_iconst (v := 0) B9 dL_areByQuotients_216 (by decide) k) ?_
          exact pw_cr (by omega) (by omega) (pw_eq (by first | with_reducible rfl | simp only [if_neg hq2, if_neg hq5]) (by first | with_reducible rfl | simp only [if_neg hq2, if_neg hq5]) (by first | with_reducible rfl | simp only [if_neg hq2, if_neg hq5]) hj1)
        · refine pw_l (fun _ _ _ _ k => pm_iconst (v := 1) B9 dL_areByQuotients_212 (by decide) k) ?_
          refine pw_l (fun _ _ _ _ k => pm_goto (tgt := 217) B9 dL_areByQuotients_213 (by decide) k) ?_
          exact pw_cr (by omega) (by omega) (pw_eq (by first | with_reducible rfl | simp only [if_neg hq2, if_pos hq5]) (by first | with_reducible rfl | simp only [if_neg hq2, if_pos hq5]) (by first | with_reducible rfl | simp only [if_neg hq2, if_pos hq5]) hj1)
    exact fun cu su nx M h1 h2 hW => pm_ireturn B9 dL_areByQuotients_217 rfl (pm_nz (by (repeat' split) <;> first | exact Or.inl rfl | exact Or.inr rfl)) ⟨rfl, hW⟩ (Nat.ble_eq_true_of_le (by omega)) (Nat.ble_eq_true_of_le (by omega))
  have loop1 : ∀ k1 j1 : Nat, j1 + k1 = n → ∀ (a4_1 : Int32), a4_1 = (w_L_areByQuotients_1 n r q 0 1 j1).1 → ∀ (a5_1 : Int32), a5_1 = (w_L_areByQuotients_1 n r q 0 1 j1).2 → pw_J l z D X 434 2604 (pm_Q z D (pw_P (some (.int (v_L_areByQuotients n r x q))) (pw_W z kA kE (B, r, hs, u) ((a, .inl (kA 0, 7, .inl q)) :: ar))) 434 2604 X) (pw_W z kA kE (B, r, hs, u) ((a, .inl (kA 0, 7, .inl q)) :: ar)) (k1 * 50 + (50 + (434 - (2 + 8 * 50) + 0))) (k1 * 300 + (300 + (2604 - (12 + 8 * 300) + 0))) 14 [some (.ref (z + 0)), some (.int x), some (.ref (z + a)), some (.int (nI n)), some (.int a4_1), some (.int a5_1), some (.int (nI j1)), none, none, none, none] [] := by
    intro k1
    induction k1 with
    | zero =>
      intro j1 hj1 a4_1 ea4_1 a5_1 ea5_1
      have hjn1 : j1 = n := by omega
      refine pw_cr (c2 := (50 - (0) + (434 - (2 + 8 * 50) + 0))) (s2 := (300 - (0) + (2604 - (12 + 8 * 300) + 0))) (by omega) (by omega) ?_
      refine pw_l (fun _ _ _ _ k => pm_iload B9 dL_areByQuotients_14 rfl k) ?_
      refine pw_l (fun _ _ _ _ k => pm_iload_n B9 dL_areByQuotients_16 rfl k) ?_
      refine pw_l (fun _ _ _ _ k => pm_icmp_ge (tgt := 190) B9 dL_areByQuotients_17 (by decide) (fun _ => k) (fun h => absurd ((by rw [show (nI n) = nI n from rfl, show (nI j1) = nI j1 from rfl]; exact (nI_leI (by omega) (by omega)).mpr (by omega))) h)) ?_
      refine pw_l (fun _ _ _ _ k => pm_wk (L' := [some (.ref (z + 0)), some (.int x), none, none, some (.int a4_1), some (.int a5_1), none, none, none, none, none]) ⟨rfl, ⟨rfl, ⟨rfl, ⟨rfl, trivial⟩⟩⟩⟩ k) ?_
      exact pw_cr (by omega) (by omega) (pw_eq (by first | with_reducible rfl | simp only [ea4_1, ea5_1, hjn1]) (by first | with_reducible rfl | simp only [ea4_1, ea5_1, hjn1]) rfl hx1)
    | succ k1 ih1 =>
      intro j1 hj1 a4_1 ea4_1 a5_1 ea5_1
      have hjn1 : j1 < n := by omega
      refine pw_cr (c2 := (50 - (0) + (k1 * 50 + (50 + (434 - (2 + 8 * 50) + 0))))) (s2 := (300 - (0) + (k1 * 300 + (300 + (2604 - (12 + 8 * 300) + 0))))) (by rw [Nat.succ_mul]; omega) (by rw [Nat.succ_mul]; omega) ?_
      refine pw_l (fun _ _ _ _ k => pm_iload B9 dL_areByQuotients_14 rfl k) ?_
      refine pw_l (fun _ _ _ _ k => pm_iload_n B9 dL_areByQuotients_16 rfl k) ?_
      refine pw_l (fun _ _ _ _ k => pm_icmp_ge (tgt := 190) B9 dL_areByQuotients_17 (by decide) (fun h => absurd h ((by rw [show (nI n) = nI n from rfl, show (nI j1) = nI j1 from rfl]; exact fun e => absurd ((nI_leI (by omega) (by omega)).mp e) (by omega)))) (fun _ => k)) ?_
      refine pw_l (fun _ _ _ _ k => pm_aload_n B9 dL_areByQuotients_20 rfl k) ?_
      refine pw_l (fun _ _ _ _ k => pm_iload B9 dL_areByQuotients_21 rfl k) ?_
      refine pw_cV (As := [.int (nI j1)]) (c2 := (50 - (2) + (k1 * 50 + (50 + (434 - (2 + 8 * 50) + 0))))) (s2 := (300 - (12) + (k1 * 300 + (300 + (2604 - (12 + 8 * 300) + 0))))) B9 (fun _ _ hW => pw_0 hW) rfl (a_X12_standing hI (i := j1) (by omega)) mt_X12_standing sv_L_30 dL_areByQuotients_23 rfl rfl rfl (by omega) (by omega) ?_
      refine pw_l (fun _ _ _ _ k => pm_stk (st' := [.int (pw_st r j1)]) rfl k) ?_
      refine pw_l (fun _ _ _ _ k => pm_bipush (v := 98) B9 dL_areByQuotients_26 (by decide) k) ?_
      suffices hj8 : pw_J l z D X 434 2604 (pm_Q z D (pw_P (some (.int (v_L_areByQuotients n r x q))) (pw_W z kA kE (B, r, hs, u) ((a, .inl (kA 0, 7, .inl q)) :: ar))) 434 2604 X) (pw_W z kA kE (B, r, hs, u) ((a, .inl (kA 0, 7, .inl q)) :: ar)) (50 - (2) + (k1 * 50 + (50 + (434 - (2 + 8 * 50) + 0)))) (300 - (12) + (k1 * 300 + (300 + (2604 - (12 + 8 * 300) + 0)))) 36 [some (.ref (z + 0)), some (.int x), some (.ref (z + a)), some (.int (nI n)), some (.int a4_1), some (.int a5_1), some (.int (nI j1)), none, none, none, none] [.int ((if (pw_st r j1) = 98 then 1 else 0) : Int32)] by
        refine pw_l2 (fun _ _ _ _ k1 k2 => pm_icmp_ne (tgt := 35) B9 dL_areByQuotients_28 (by decide) k1 k2) (fun hq9 => ?_) (fun hq9 => ?_)
        · refine pw_l (fun _ _ _ _ k => pm_iconst (v := 0) B9 dL_areByQuotients_35 (by decide) k) ?_
          exact pw_cr (by omega) (by omega) (pw_eq (by first | with_reducible rfl | simp only [if_neg hq9]) (by first | with_reducible rfl | simp only [if_neg hq9]) (by first | with_reducible rfl | simp only [if_neg hq9]) hj8)
        · refine pw_l (fun _ _ _ _ k => pm_iconst (v := 1) B9 dL_areByQuotients_31 (by decide) k) ?_
          refine pw_l (fun _ _ _ _ k => pm_goto (tgt := 36) B9 dL_areByQuotients_32 (by decide) k) ?_
          exact pw_cr (by omega) (by omega) (pw_eq (by first | with_reducible rfl | simp only [if_pos hq9]) (by first | with_reducible rfl | simp only [if_pos hq9]) (by first | with_reducible rfl | simp only [if_pos hq9]) hj8)
      refine pw_l (fun _ _ _ _ k => pm_istore B9 dL_areByQuotients_36 rfl rfl k) ?_
      refine pw_l (fun _ _ _ _ k => pm_loc (L' := [some (.ref (z + 0)), some (.int x), some (.ref (z + a)), some (.int (nI n)), some (.int a4_1), some (.int a5_1), some (.int (nI j1)), some (.int ((if (pw_st r j1) = 98 then 1 else 0) : Int32)), none, none, none]) rfl k) ?_
      refine pw_l (fun _ _ _ _ k => pm_iload B9 dL_areByQuotients_38 rfl k) ?_
      refine pw_l (fun _ _ _ _ k => pm_aload_n B9 dL_areByQuotients_40 rfl k) ?_
      refine pw_l (fun _ _ _ _ k => pm_iload B9 dL_areByQuotients_41 rfl k) ?_
      refine pw_lw (fun _ _ _ _ hW k => pm_iald_n B9 dL_areByQuotients_43 (pw_at hW 0 rfl) j1 (by first | assumption | omega) (by decide) k) ?_
      refine pw_l (fun _ _ _ _ k => pm_iadd B9 dL_areByQuotients_44 k) ?_
      refine pw_l (fun _ _ _ _ k => pm_istore B9 dL_areByQuotients_45 rfl rfl k) ?_
      refine pw_l (fun _ _ _ _ k => pm_loc (L' := [some (.ref (z + 0)), some (.int x), some (.ref (z + a)), some (.int (nI n)), some (.int (a4_1 + (q j1))), some (.int a5_1), some (.int (nI j1)), some (.int ((if (pw_st r j1) = 98 then 1 else 0) : Int32)), none, none, none]) rfl k) ?_
      refine pw_l (fun _ _ _ _ k => pm_iload B9 dL_areByQuotients_47 rfl k) ?_
      suffices hj10 : pw_J l z D X 434 2604 (pm_Q z D (pw_P (some (.int (v_L_areByQuotients n r x q))) (pw_W z kA kE (B, r, hs, u) ((a, .inl (kA 0, 7, .inl q)) :: ar))) 434 2604 X) (pw_W z kA kE (B, r, hs, u) ((a, .inl (kA 0, 7, .inl q)) :: ar)) (50 - (2) + (k1 * 50 + (50 + (434 - (2 + 8 * 50) + 0)))) (300 - (12) + (k1 * 300 + (300 + (2604 - (12 + 8 * 300) + 0)))) 69 [some (.ref (z + 0)), some (.int x), some (.ref (z + a)), some (.int (nI n)), some (.int (a4_1 + (q j1))), none, some (.int (nI j1)), some (.int ((if (pw_st r j1) = 98 then 1 else 0) : Int32)), none, none, none] [.int ((if a5_1 = 0 then 0 else (if ((if (pw_st r j1) = 98 then 1 else 0) : Int32) = 0 then 1 else (if (q j1) = 0 then 1 else 0))) : Int32)] by
        refine pw_l2 (fun _ _ _ _ k1 k2 => pm_if_eq (tgt := 68) B9 dL_areByQuotients_49 (by decide) k1 k2) (fun hq11 => ?_) (fun hq11 => ?_)
        · refine pw_l (fun _ _ _ _ k => pm_iconst (v := 0) B9 dL_areByQuotients_68 (by decide) k) ?_
          refine pw_l (fun _ _ _ _ k => pm_wk (L' := [some (.ref (z + 0)), some (.int x), some (.ref (z + a)), some (.int (nI n)), some (.int (a4_1 + (q j1))), none, some (.int (nI j1)), some (.int ((if (pw_st r j1) = 98 then 1 else 0) : Int32)), none, none, none]) ⟨rfl, ⟨rfl, ⟨rfl, ⟨rfl, ⟨rfl, ⟨rfl, ⟨rfl, trivial⟩⟩⟩⟩⟩⟩⟩ k) ?_
          exact pw_cr (by omega) (by omega) (pw_eq (by first | with_reducible rfl | simp only [if_pos hq11]) (by first | with_reducible rfl | simp only [if_pos hq11]) (by first | with_reducible rfl | simp only [if_pos hq11]) hj10)
        · refine pw_l (fun _ _ _ _ k => pm_iload B9 dL_areByQuotients_52 rfl k) ?_
          refine pw_l2 (fun _ _ _ _ k1 k2 => pm_if_eq (tgt := 64) B9 dL_areByQuotients_54 (by decide) k1 k2) (fun hq12 => ?_) (fun hq12 => ?_)
          · refine pw_l (fun _ _ _ _ k => pm_iconst (v := 1) B9 dL_areByQuotients_64 (by decide) k) ?_
            refine pw_l (fun _ _ _ _ k => pm_goto (tgt := 69) B9 dL_areByQuotients_65 (by decide) k) ?_
            refine pw_l (fun _ _ _ _ k => pm_wk (L' := [some (.ref (z + 0)), some (.int x), some (.ref (z + a)), some (.int (nI n)), some (.int (a4_1 + (q j1))), none, some (.int (nI j1)), some (.int ((if (pw_st r j1) = 98 then 1 else 0) : Int32)), none, none, none]) ⟨rfl, ⟨rfl, ⟨rfl, ⟨rfl, ⟨rfl, ⟨rfl, ⟨rfl, trivial⟩⟩⟩⟩⟩⟩⟩ k) ?_
            exact pw_cr (by omega) (by omega) (pw_eq (by first | with_reducible rfl | simp only [if_neg hq11, if_pos hq12]) (by first | with_reducible rfl | simp only [if_neg hq11, if_pos hq12]) (by first | with_reducible rfl | simp only [if_neg hq11, if_pos hq12]) hj10)
          · refine pw_l (fun _ _ _ _ k => pm_aload_n B9 dL_areByQuotients_57 rfl k) ?_
            refine pw_l (fun _ _ _ _ k => pm_iload B9 dL_areByQuotients_58 rfl k) ?_
            refine pw_lw (fun _ _ _ _ hW k => pm_iald_n B9 dL_areByQuotients_60 (pw_at hW 0 rfl) j1 (by first | assumption | omega) (by decide) k) ?_
            refine pw_l2 (fun _ _ _ _ k1 k2 => pm_if_ne (tgt := 68) B9 dL_areByQuotients_61 (by decide) k1 k2) (fun hq13 => ?_) (fun hq13 => ?_)
            · refine pw_l (fun _ _ _ _ k => pm_iconst (v := 0) B9 dL_areByQuotients_68 (by decide) k) ?_
              refine pw_l (fun _ _ _ _ k => pm_wk (L' := [some (.ref (z + 0)), some (.int x), some (.ref (z + a)), some (.int (nI n)), some (.int (a4_1 + (q j1))), none, some (.int (nI j1)), some (.int ((if (pw_st r j1) = 98 then 1 else 0) : Int32)), none, none, none]) ⟨rfl, ⟨rfl, ⟨rfl, ⟨rfl, ⟨rfl, ⟨rfl, ⟨rfl, trivial⟩⟩⟩⟩⟩⟩⟩ k) ?_
              exact pw_cr (by omega) (by omega) (pw_eq (by first | with_reducible rfl | simp only [if_neg hq11, if_neg hq12, if_neg hq13]) (by first | with_reducible rfl | simp only [if_neg hq11, if_neg hq12, if_neg hq13]) (by first | with_reducible rfl | simp only [if_neg hq11, if_neg hq12, if_neg hq13]) hj10)
            · refine pw_l (fun _ _ _ _ k => pm_iconst (v := 1) B9 dL_areByQuotients_64 (by decide) k) ?_
              refine pw_l (fun _ _ _ _ k => pm_goto (tgt := 69) B9 dL_areByQuotients_65 (by decide) k) ?_
              refine pw_l (fun _ _ _ _ k => pm_wk (L' := [some (.ref (z + 0)), some (.int x), some (.ref (z + a)), some (.int (nI n)), some (.int (a4_1 + (q j1))), none, some (.int (nI j1)), some (.int ((if (pw_st r j1) = 98 then 1 else 0) : Int32)), none, none, none]) ⟨rfl, ⟨rfl, ⟨rfl, ⟨rfl, ⟨rfl, ⟨rfl, ⟨rfl, trivial⟩⟩⟩⟩⟩⟩⟩ k) ?_
              exact pw_cr (by omega) (by omega) (pw_eq (by first | with_reducible rfl | simp only [if_neg hq11, if_neg hq12, if_pos hq13]) (by first | with_reducible rfl | simp only [if_neg hq11, if_neg hq12, if_pos hq13]) (by first | with_reducible rfl | simp only [if_neg hq11, if_neg hq12, if_pos hq13]) hj10)
      refine pw_l (fun _ _ _ _ k => pm_istore B9 dL_areByQuotients_69 rfl rfl k) ?_
      refine pw_l (fun _ _ _ _ k => pm_loc (L' := [some (.ref (z + 0)), some (.int x), some (.ref (z + a)), some (.int (nI n)), some (.int (a4_1 + (q j1))), some (.int ((if a5_1 = 0 then 0 else (if ((if (pw_st r j1) = 98 then 1 else 0) : Int32) = 0 then 1 else (if (q j1) = 0 then 1 else 0))) : Int32)), some (.int (nI j1)), some (.int ((if (pw_st r j1) = 98 then 1 else 0) : Int32)), none, none, none]) rfl k) ?_
      refine pw_l (fun _ _ _ _ k => pm_iconst (v := 0) B9 dL_areByQuotients_71 (by decide) k) ?_
      refine pw_l (fun _ _ _ _ k => pm_istore B9 dL_areByQuotients_72 rfl rfl k) ?_
      refine pw_l (fun _ _ _ _ k => pm_loc (L' := [some (.ref (z + 0)), some (.int x), some (.ref (z + a)), some (.int (nI n)), some (.int (a4_1 + (q j1))), some (.int ((if a5_1 = 0 then 0 else (if ((if (pw_st r j1) = 98 then 1 else 0) : Int32) = 0 then 1 else (if (q j1) = 0 then 1 else 0))) : Int32)), some (.int (nI j1)), some (.int ((if (pw_st r j1) = 98 then 1 else 0) : Int32)), some (.int 0), none, none]) rfl k) ?_
      refine pw_l (fun _ _ _ _ k => pm_loc (L' := [some (.ref (z + 0)), some (.int x), some (.ref (z + a)), some (.int (nI n)), some (.int (a4_1 + (q j1))), some (.int ((if a5_1 = 0 then 0 else (if ((if (pw_st r j1) = 98 then 1 else 0) : Int32) = 0 then 1 else (if (q j1) = 0 then 1 else 0))) : Int32)), some (.int (nI j1)), some (.int ((if (pw_st r j1) = 98 then 1 else 0) : Int32)), some (.int (nI 0)), none, none]) (congrArg (fun yy : Int32 => ([some (.ref (z + 0)), some (.int x), some (.ref (z + a)), some (.int (nI n)), some (.int (a4_1 + (q j1))), some (.int ((if a5_1 = 0 then 0 else (if ((if (pw_st r j1) = 98 then 1 else 0) : Int32) = 0 then 1 else (if (q j1) = 0 then 1 else 0))) : Int32)), some (.int (nI j1)), some (.int ((if (pw_st r j1) = 98 then 1 else 0) : Int32)), some (.int yy), none, none] : List (Option Value))) rfl) k) ?_
      have hx2 : pw_J l z D X 434 2604 (pm_Q z D (pw_P (some (.int (v_L_areByQuotients n r x q))) (pw_W z kA kE (B, r, hs, u) ((a, .inl (kA 0, 7, .inl q)) :: ar))) 434 2604 X) (pw_W z kA kE (B, r, hs, u) ((a, .inl (kA 0, 7, .inl q)) :: ar)) (50 - (2 + 8 * 6) + (k1 * 50 + (50 + (434 - (2 + 8 * 50) + 0)))) (300 - (12 + 8 * 36) + (k1 * 300 + (300 + (2604 - (12 + 8 * 300) + 0)))) 184 [some (.ref (z + 0)), some (.int x), some (.ref (z + a)), some (.int (nI n)), some (.int (a4_1 + (q j1))), some (.int (w_L_areByQuotients_2 r q j1 ((if a5_1 = 0 then 0 else (if ((if (pw_st r j1) = 98 then 1 else 0) : Int32) = 0 then 1 else (if (q j1) = 0 then 1 else 0))) : Int32) n)), some (.int (nI j1)), none, none, none, none] [] := by
        refine pw_l (fun _ _ _ _ k => pm_iinc B9 dL_areByQuotients_184 rfl rfl rfl k) ?_
        refine pw_l (fun _ _ _ _ k => pm_loc (L' := [some (.ref (z + 0)), some (.int x), some (.ref (z + a)), some (.int (nI n)), some (.int (a4_1 + (q j1))), some (.int (w_L_areByQuotients_2 r q j1 ((if a5_1 = 0 then 0 else (if ((if (pw_st r j1) = 98 then 1 else 0) : Int32) = 0 then 1 else (if (q j1) = 0 then 1 else 0))) : Int32) n)), some (.int (nI (j1 + 1))), none, none, none, none]) (by rw [show ((nI j1) : Int32) + Int32.ofInt 1 = (nI (j1 + 1)) from nI_1 _]; rfl) k) ?_
        refine pw_l (fun _ _ _ _ k => pm_goto (tgt := 14) B9 dL_areByQuotients_187 (by decide) k) ?_
        exact pw_cr (by omega) (by omega) (ih1 (j1 + 1) (by omega) _ (by subst ea4_1; subst ea5_1; first | rfl) _ (by subst ea4_1; subst ea5_1; first | rfl))
      have loop2 : ∀ k2 j2 : Nat, j2 + k2 = n → ∀ (a5_2 : Int32), a5_2 = (w_L_areByQuotients_2 r q j1 ((if a5_1 = 0 then 0 else (if ((if (pw_st r j1) = 98 then 1 else 0) : Int32) = 0 then 1 else (if (q j1) = 0 then 1 else 0))) : Int32) j2) → pw_J l z D X 434 2604 (pm_Q z D (pw_P (some (.int (v_L_areByQuotients n r x q))) (pw_W z kA kE (B, r, hs, u) ((a, .inl (kA 0, 7, .inl q)) :: ar))) 434 2604 X) (pw_W z kA kE (B, r, hs, u) ((a, .inl (kA 0, 7, .inl q)) :: ar)) (k2 * 6 + (6 + (50 - (2 + 8 * 6) + (k1 * 50 + (50 + (434 - (2 + 8 * 50) + 0)))))) (k2 * 36 + (36 + (300 - (12 + 8 * 36) + (k1 * 300 + (300 + (2604 - (12 + 8 * 300) + 0)))))) 74 [some (.ref (z + 0)), some (.int x), some (.ref (z + a)), some (.int (nI n)), some (.int (a4_1 + (q j1))), some (.int a5_2), some (.int (nI j1)), some (.int ((if (pw_st r j1) = 98 then 1 else 0) : Int32)), some (.int (nI j2)), none, none] [] := by
        intro k2
        induction k2 with
        | zero =>
          intro j2 hj2 a5_2 ea5_2
          have hjn2 : j2 = n := by omega
          refine pw_cr (c2 := (6 - (0) + (50 - (2 + 8 * 6) + (k1 * 50 + (50 + (434 - (2 + 8 * 50) + 0)))))) (s2 := (36 - (0) + (300 - (12 + 8 * 36) + (k1 * 300 + (300 + (2604 - (12 + 8 * 300) + 0)))))) (by omega) (by omega) ?_
          refine pw_l (fun _ _ _ _ k => pm_iload B9 dL_areByQuotients_74 rfl k) ?_
          refine pw_l (fun _ _ _ _ k => pm_iload_n B9 dL_areByQuotients_76 rfl k) ?_
          refine pw_l (fun _ _ _ _ k => pm_icmp_ge (tgt := 184) B9 dL_areByQuotients_77 (by decide) (fun _ => k) (fun h => absurd ((by rw [show (nI n) = nI n from rfl, show (nI j2) = nI j2 from rfl]; exact (nI_leI (by omega) (by omega)).mpr (by omega))) h)) ?_
          refine pw_l (fun _ _ _ _ k => pm_wk (L' := [some (.ref (z + 0)), some (.int x), some (.ref (z + a)), some (.int (nI n)), some (.int (a4_1 + (q j1))), some (.int a5_2), some (.int (nI j1)), none, none, none, none]) ⟨rfl, ⟨rfl, ⟨rfl, ⟨rfl, ⟨rfl, ⟨rfl, ⟨rfl, trivial⟩⟩⟩⟩⟩⟩⟩ k) ?_
          exact pw_cr (by omega) (by omega) (pw_eq (by first | with_reducible rfl | simp only [ea5_2, hjn2]) (by first | with_reducible rfl | simp only [ea5_2, hjn2]) rfl hx2)
        | succ k2 ih2 =>
          intro j2 hj2 a5_2 ea5_2
          have hjn2 : j2 < n := by omega
          refine pw_cr (c2 := (6 - (0) + (k2 * 6 + (6 + (50 - (2 + 8 * 6) + (k1 * 50 + (50 + (434 - (2 + 8 * 50) + 0)))))))) (s2 := (36 - (0) + (k2 * 36 + (36 + (300 - (12 + 8 * 36) + (k1 * 300 + (300 + (2604 - (12 + 8 * 300) + 0)))))))) (by rw [Nat.succ_mul]; omega) (by rw [Nat.succ_mul]; omega) ?_
          refine pw_l (fun _ _ _ _ k => pm_iload B9 dL_areByQuotients_74 rfl k) ?_
          refine pw_l (fun _ _ _ _ k => pm_iload_n B9 dL_areByQuotients_76 rfl k) ?_
          refine pw_l (fun _ _ _ _ k => pm_icmp_ge (tgt := 184) B9 dL_areByQuotients_77 (by decide) (fun h => absurd h ((by rw [show (nI n) = nI n from rfl, show (nI j2) = nI j2 from rfl]; exact fun e => absurd ((nI_leI (by omega) (by omega)).mp e) (by omega)))) (fun _ => k)) ?_
          refine pw_l (fun _ _ _ _ k => pm_aload_n B9 dL_areByQuotients_80 rfl k) ?_
          refine pw_l (fun _ _ _ _ k => pm_iload B9 dL_areByQuotients_81 rfl k) ?_
          refine pw_cV (As := [.int (nI j1)]) (c2 := (6 - (2) + (k2 * 6 + (6 + (50 - (2 + 8 * 6) + (k1 * 50 + (50 + (434 - (2 + 8 * 50) + 0)))))))) (s2 := (36 - (12) + (k2 * 36 + (36 + (300 - (12 + 8 * 36) + (k1 * 300 + (300 + (2604 - (12 + 8 * 300) + 0)))))))) B9 (fun _ _ hW => pw_0 hW) rfl (a_X12_capacity hI (i := j1) (by omega)) mt_X12_capacity sv_L_24 dL_areByQuotients_83 rfl rfl rfl (by omega) (by omega) ?_
          refine pw_l (fun _ _ _ _ k => pm_stk (st' := [.int (r (7 + 6 * j1 + 0))]) rfl k) ?_
          refine pw_l (fun _ _ _ _ k => pm_aload_n B9 dL_areByQuotients_86 rfl k) ?_
          refine pw_l (fun _ _ _ _ k => pm_iload B9 dL_areByQuotients_87 rfl k) ?_
          refine pw_lw (fun _ _ _ _ hW k => pm_iald_n B9 dL_areByQuotients_89 (pw_at hW 0 rfl) j2 (by first | assumption | omega) (by decide) k) ?_
          refine pw_l (fun _ _ _ _ k => pm_iconst (v := 1) B9 dL_areByQuotients_90 (by decide) k) ?_
          refine pw_l (fun _ _ _ _ k => pm_iadd B9 dL_areByQuotients_91 k) ?_
          refine pw_l (fun _ _ _ _ k => pm_imul B9 dL_areByQuotients_92 k) ?_
          refine pw_l (fun _ _ _ _ k => pm_aload_n B9 dL_areByQuotients_93 rfl k) ?_
          refine pw_l (fun _ _ _ _ k => pm_iload B9 dL_areByQuotients_94 rfl k) ?_
          refine pw_cV (As := [.int (nI j2)]) (c2 := (6 - (4) + (k2 * 6 + (6 + (50 - (2 + 8 * 6) + (k1 * 50 + (50 + (434 - (2 + 8 * 50) + 0)))))))) (s2 := (36 - (24) + (k2 * 36 + (36 + (300 - (12 + 8 * 36) + (k1 * 300 + (300 + (2604 - (12 + 8 * 300) + 0)))))))) B9 (fun _ _ hW => pw_0 hW) rfl (a_X12_capacity hI (i := j2) (by omega)) mt_X12_capacity sv_L_24 dL_areByQuotients_96 rfl rfl rfl (by omega) (by omega) ?_
          refine pw_l (fun _ _ _ _ k => pm_stk (st' := [.int (r (7 + 6 * j2 + 0)), .int ((r (7 + 6 * j1 + 0)) * ((q j2) + 1))]) rfl k) ?_
          refine pw_l (fun _ _ _ _ k => pm_aload_n B9 dL_areByQuotients_99 rfl k) ?_
          refine pw_l (fun _ _ _ _ k => pm_iload B9 dL_areByQuotients_100 rfl k) ?_
          refine pw_lw (fun _ _ _ _ hW k => pm_iald_n B9 dL_areByQuotients_102 (pw_at hW 0 rfl) j1 (by first | assumption | omega) (by decide) k) ?_
          refine pw_l (fun _ _ _ _ k => pm_imul B9 dL_areByQuotients_103 k) ?_
          refine pw_l (fun _ _ _ _ k => pm_isub B9 dL_areByQuotients_104 k) ?_
          refine pw_l (fun _ _ _ _ k => pm_istore B9 dL_areByQuotients_105 rfl rfl k) ?_
          refine pw_l (fun _ _ _ _ k => pm_loc (L' := [some (.ref (z + 0)), some (.int x), some (.ref (z + a)), some (.int (nI n)), some (.int (a4_1 + (q j1))), some (.int a5_2), some (.int (nI j1)), some (.int ((if (pw_st r j1) = 98 then 1 else 0) : Int32)), some (.int (nI j2)), some (.int (((r (7 + 6 * j1 + 0)) * ((q j2) + 1)) - ((r (7 + 6 * j2 + 0)) * (q j1)))), none]) rfl k) ?_
          refine pw_l (fun _ _ _ _ k => pm_iload B9 dL_areByQuotients_107 rfl k) ?_
          suffices hj16 : pw_J l z D X 434 2604 (pm_Q z D (pw_P (some (.int (v_L_areByQuotients n r x q))) (pw_W z kA kE (B, r, hs, u) ((a, .inl (kA 0, 7, .inl q)) :: ar))) 434 2604 X) (pw_W z kA kE (B, r, hs, u) ((a, .inl (kA 0, 7, .inl q)) :: ar)) (6 - (4) + (k2 * 6 + (6 + (50 - (2 + 8 * 6) + (k1 * 50 + (50 + (434 - (2 + 8 * 50) + 0))))))) (36 - (24) + (k2 * 36 + (36 + (300 - (12 + 8 * 36) + (k1 * 300 + (300 + (2604 - (12 + 8 * 300) + 0))))))) 129 [some (.ref (z + 0)), some (.int x), some (.ref (z + a)), some (.int (nI n)), some (.int (a4_1 + (q j1))), some (.int a5_2), some (.int (nI j1)), some (.int ((if (pw_st r j1) = 98 then 1 else 0) : Int32)), some (.int (nI j2)), none, none] [.int ((if 0 < (((r (7 + 6 * j1 + 0)) * ((q j2) + 1)) - ((r (7 + 6 * j2 + 0)) * (q j1))) then 1 else (if (((r (7 + 6 * j1 + 0)) * ((q j2) + 1)) - ((r (7 + 6 * j2 + 0)) * (q j1))) = 0 then (if (nI j2) ≤ (nI j1) then 0 else 1) else 0)) : Int32)] by
            refine pw_l2 (fun _ _ _ _ k1 k2 => pm_if_gt (tgt := 124) B9 dL_areByQuotients_109 (by decide) k1 k2) (fun hq17 => ?_) (fun hq17 => ?_)
            · refine pw_l (fun _ _ _ _ k => pm_iconst (v := 1) B9 dL_areByQuotients_124 (by decide) k) ?_
              refine pw_l (fun _ _ _ _ k => pm_goto (tgt := 129) B9 dL_areByQuotients_125 (by decide) k) ?_
              refine pw_l (fun _ _ _ _ k => pm_wk (L' := [some (.ref (z + 0)), some (.int x), some (.ref (z + a)), some (.int (nI n)), some (.int (a4_1 + (q j1))), some (.int a5_2), some (.int (nI j1)), some (.int ((if (pw_st r j1) = 98 then 1 else 0) : Int32)), some (.int (nI j2)), none, none]) ⟨rfl, ⟨rfl, ⟨rfl, ⟨rfl, ⟨rfl, ⟨rfl, ⟨rfl, ⟨rfl, ⟨rfl, trivial⟩⟩⟩⟩⟩⟩⟩⟩⟩ k) ?_
              exact pw_cr (by omega) (by omega) (pw_eq (by first | with_reducible rfl | simp only [if_pos hq17]) (by first | with_reducible rfl | simp only [if_pos hq17]) (by first | with_reducible rfl | simp only [if_pos hq17]) hj16)
            · refine pw_l (fun _ _ _ _ k => pm_iload B9 dL_areByQuotients_112 rfl k) ?_
              refine pw_l2 (fun _ _ _ _ k1 k2 => pm_if_ne (tgt := 128) B9 dL_areByQuotients_114 (by decide) k1 k2) (fun hq18 => ?_) (fun hq18 => ?_)
              · refine pw_l (fun _ _ _ _ k => pm_iconst (v := 0) B9 dL_areByQuotients_128 (by decide) k) ?_
                refine pw_l (fun _ _ _ _ k => pm_wk (L' := [some (.ref (z + 0)), some (.int x), some (.ref (z + a)), some (.int (nI n)), some (.int (a4_1 + (q j1))), some (.int a5_2), some (.int (nI j1)), some (.int ((if (pw_st r j1) = 98 then 1 else 0) : Int32)), some (.int (nI j2)), none, none]) ⟨rfl, ⟨rfl, ⟨rfl, ⟨rfl, ⟨rfl, ⟨rfl, ⟨rfl, ⟨rfl, ⟨rfl, trivial⟩⟩⟩⟩⟩⟩⟩⟩⟩ k) ?_
                exact pw_cr (by omega) (by omega) (pw_eq (by first | with_reducible rfl | simp only [if_neg hq17, if_neg hq18]) (by first | with_reducible rfl | simp only [if_neg hq17, if_neg hq18]) (by first | with_reducible rfl | simp only [if_neg hq17, if_neg hq18]) hj16)
              · refine pw_l (fun _ _ _ _ k => pm_iload B9 dL_areByQuotients_117 rfl k) ?_
                refine pw_l (fun _ _ _ _ k => pm_iload B9 dL_areByQuotients_119 rfl k) ?_
                refine pw_l2 (fun _ _ _ _ k1 k2 => pm_icmp_ge (tgt := 128) B9 dL_areByQuotients_121 (by decide) k1 k2) (fun hq19 => ?_) (fun hq19 => ?_)
                · refine pw_l (fun _ _ _ _ k => pm_iconst (v := 0) B9 dL_areByQuotients_128 (by decide) k) ?_
                  refine pw_l (fun _ _ _ _ k => pm_wk (L' := [some (.ref (z + 0)), some (.int x), some (.ref (z + a)), some (.int (nI n)), some (.int (a4_1 + (q j1))), some (.int a5_2), some (.int (nI j1)), some (.int ((if (pw_st r j1) = 98 then 1 else 0) : Int32)), some (.int (nI j2)), none, none]) ⟨rfl, ⟨rfl, ⟨rfl, ⟨rfl, ⟨rfl, ⟨rfl, ⟨rfl, ⟨rfl, ⟨rfl, trivial⟩⟩⟩⟩⟩⟩⟩⟩⟩ k) ?_
                  exact pw_cr (by omega) (by omega) (pw_eq (by first | with_reducible rfl | simp only [if_neg hq17, if_pos hq18, if_pos hq19]) (by first | with_reducible rfl | simp only [if_neg hq17, if_pos hq18, if_pos hq19]) (by first | with_reducible rfl | simp only [if_neg hq17, if_pos hq18, if_pos hq19]) hj16)
                · refine pw_l (fun _ _ _ _ k => pm_iconst (v := 1) B9 dL_areByQuotients_124 (by decide) k) ?_
                  refine pw_l (fun _ _ _ _ k => pm_goto (tgt := 129) B9 dL_areByQuotients_125 (by decide) k) ?_
                  refine pw_l (fun _ _ _ _ k => pm_wk (L' := [some (.ref (z + 0)), some (.int x), some (.ref (z + a)), some (.int (nI n)), some (.int (a4_1 + (q j1))), some (.int a5_2), some (.int (nI j1)), some (.int ((if (pw_st r j1) = 98 then 1 else 0) : Int32)), some (.int (nI j2)), none, none]) ⟨rfl, ⟨rfl, ⟨rfl, ⟨rfl, ⟨rfl, ⟨rfl, ⟨rfl, ⟨rfl, ⟨rfl, trivial⟩⟩⟩⟩⟩⟩⟩⟩⟩ k) ?_
                  exact pw_cr (by omega) (by omega) (pw_eq (by first | with_reducible rfl | simp only [if_neg hq17, if_pos hq18, if_neg hq19]) (by first | with_reducible rfl | simp only [if_neg hq17, if_pos hq18, if_neg hq19]) (by first | with_reducible rfl | simp only [if_neg hq17, if_pos hq18, if_neg hq19]) hj16)
          refine pw_l (fun _ _ _ _ k => pm_istore B9 dL_areByQuotients_129 rfl rfl k) ?_
          refine pw_l (fun _ _ _ _ k => pm_loc (L' := [some (.ref (z + 0)), some (.int x), some (.ref (z + a)), some (.int (nI n)), some (.int (a4_1 + (q j1))), some (.int a5_2), some (.int (nI j1)), some (.int ((if (pw_st r j1) = 98 then 1 else 0) : Int32)), some (.int (nI j2)), none, some (.int ((if 0 < (((r (7 + 6 * j1 + 0)) * ((q j2) + 1)) - ((r (7 + 6 * j2 + 0)) * (q j1))) then 1 else (if (((r (7 + 6 * j1 + 0)) * ((q j2) + 1)) - ((r (7 + 6 * j2 + 0)) * (q j1))) = 0 then (if (nI j2) ≤ (nI j1) then 0 else 1) else 0)) : Int32))]) rfl k) ?_
          refine pw_l (fun _ _ _ _ k => pm_iload B9 dL_areByQuotients_131 rfl k) ?_
          suffices hj20 : pw_J l z D X 434 2604 (pm_Q z D (pw_P (some (.int (v_L_areByQuotients n r x q))) (pw_W z kA kE (B, r, hs, u) ((a, .inl (kA 0, 7, .inl q)) :: ar))) 434 2604 X) (pw_W z kA kE (B, r, hs, u) ((a, .inl (kA 0, 7, .inl q)) :: ar)) (6 - (6) + (k2 * 6 + (6 + (50 - (2 + 8 * 6) + (k1 * 50 + (50 + (434 - (2 + 8 * 50) + 0))))))) (36 - (36) + (k2 * 36 + (36 + (300 - (12 + 8 * 36) + (k1 * 300 + (300 + (2604 - (12 + 8 * 300) + 0))))))) 176 [some (.ref (z + 0)), some (.int x), some (.ref (z + a)), some (.int (nI n)), some (.int (a4_1 + (q j1))), none, some (.int (nI j1)), some (.int ((if (pw_st r j1) = 98 then 1 else 0) : Int32)), some (.int (nI j2)), none, none] [.int ((if a5_2 = 0 then 0 else (if (nI j2) = (nI j1) then 1 else (if ((if (pw_st r j1) = 98 then 1 else 0) : Int32) = 0 then (if (pw_st r j2) = 98 then 1 else (if (q j1) = 0 then 1 else (if ((if 0 < (((r (7 + 6 * j1 + 0)) * ((q j2) + 1)) - ((r (7 + 6 * j2 + 0)) * (q j1))) then 1 else (if (((r (7 + 6 * j1 + 0)) * ((q j2) + 1)) - ((r (7 + 6 * j2 + 0)) * (q j1))) = 0 then (if (nI j2) ≤ (nI j1) then 0 else 1) else 0)) : Int32) = 0 then 0 else 1))) else 1))) : Int32)] by
            refine pw_l2 (fun _ _ _ _ k1 k2 => pm_if_eq (tgt := 175) B9 dL_areByQuotients_133 (by decide) k1 k2) (fun hq21 => ?_) (fun hq21 => ?_)
            · refine pw_l (fun _ _ _ _ k => pm_iconst (v := 0) B9 dL_areByQuotients_175 (by decide) k) ?_
              refine pw_l (fun _ _ _ _ k => pm_wk (L' := [some (.ref (z + 0)), some (.int x), some (.ref (z + a)), some (.int (nI n)), some (.int (a4_1 + (q j1))), none, some (.int (nI j1)), some (.int ((if (pw_st r j1) = 98 then 1 else 0) : Int32)), some (.int (nI j2)), none, none]) ⟨rfl, ⟨rfl, ⟨rfl, ⟨rfl, ⟨rfl, ⟨rfl, ⟨rfl, ⟨rfl, trivial⟩⟩⟩⟩⟩⟩⟩⟩ k) ?_
              exact pw_cr (by omega) (by omega) (pw_eq (by first | with_reducible rfl | simp only [if_pos hq21]) (by first | with_reducible rfl | simp only [if_pos hq21]) (by first | with_reducible rfl | simp only [if_pos hq21]) hj20)
            · refine pw_l (fun _ _ _ _ k => pm_iload B9 dL_areByQuotients_136 rfl k) ?_
              refine pw_l (fun _ _ _ _ k => pm_iload B9 dL_areByQuotients_138 rfl k) ?_
              refine pw_l2 (fun _ _ _ _ k1 k2 => pm_icmp_eq (tgt := 171) B9 dL_areByQuotients_140 (by decide) k1 k2) (fun hq22 => ?_) (fun hq22 => ?_)
              · refine pw_l (fun _ _ _ _ k => pm_iconst (v := 1) B9 dL_areByQuotients_171 (by decide) k) ?_
                refine pw_l (fun _ _ _ _ k => pm_goto (tgt := 176) B9 dL_areByQuotients_172 (by decide) k) ?_
                refine pw_l (fun _ _ _ _ k => pm_wk (L' := [some (.ref (z + 0)), some (.int x), some (.ref (z + a)), some (.int (nI n)), some (.int (a4_1 + (q j1))), none, some (.int (nI j1)), some (.int ((if (pw_st r j1) = 98 then 1 else 0) : Int32)), some (.int (nI j2)), none, none]) ⟨rfl, ⟨rfl, ⟨rfl, ⟨rfl, ⟨rfl, ⟨rfl, ⟨rfl, ⟨rfl, trivial⟩⟩⟩⟩⟩⟩⟩⟩ k) ?_
                exact pw_cr (by omega) (by omega) (pw_eq (by first | with_reducible rfl | simp only [if_neg hq21, if_pos hq22]) (by first | with_reducible rfl | simp only [if_neg hq21, if_pos hq22]) (by first | with_reducible rfl | simp only [if_neg hq21, if_pos hq22]) hj20)
              · refine pw_l (fun _ _ _ _ k => pm_iload B9 dL_areByQuotients_143 rfl k) ?_
                refine pw_l2 (fun _ _ _ _ k1 k2 => pm_if_ne (tgt := 171) B9 dL_areByQuotients_145 (by decide) k1 k2) (fun hq23 => ?_) (fun hq23 => ?_)
                · refine pw_l (fun _ _ _ _ k => pm_iconst (v := 1) B9 dL_areByQuotients_171 (by decide) k) ?_
                  refine pw_l (fun _ _ _ _ k => pm_goto (tgt := 176) B9 dL_areByQuotients_172 (by decide) k) ?_
                  refine pw_l (fun _ _ _ _ k => pm_wk (L' := [some (.ref (z + 0)), some (.int x), some (.ref (z + a)), some (.int (nI n)), some (.int (a4_1 + (q j1))), none, some (.int (nI j1)), some (.int ((if (pw_st r j1) = 98 then 1 else 0) : Int32)), some (.int (nI j2)), none, none]) ⟨rfl, ⟨rfl, ⟨rfl, ⟨rfl, ⟨rfl, ⟨rfl, ⟨rfl, ⟨rfl, trivial⟩⟩⟩⟩⟩⟩⟩⟩ k) ?_
                  exact pw_cr (by omega) (by omega) (pw_eq (by first | with_reducible rfl | simp only [if_neg hq21, if_neg hq22, if_neg hq23]) (by first | with_reducible rfl | simp only [if_neg hq21, if_neg hq22, if_neg hq23]) (by first | with_reducible rfl | simp only [if_neg hq21, if_neg hq22, if_neg hq23]) hj20)
                · refine pw_l (fun _ _ _ _ k => pm_aload_n B9 dL_areByQuotients_148 rfl k) ?_
                  refine pw_l (fun _ _ _ _ k => pm_iload B9 dL_areByQuotients_149 rfl k) ?_
                  refine pw_cV (As := [.int (nI j2)]) (c2 := (6 - (6) + (k2 * 6 + (6 + (50 - (2 + 8 * 6) + (k1 * 50 + (50 + (434 - (2 + 8 * 50) + 0)))))))) (s2 := (36 - (36) + (k2 * 36 + (36 + (300 - (12 + 8 * 36) + (k1 * 300 + (300 + (2604 - (12 + 8 * 300) + 0)))))))) B9 (fun _ _ hW => pw_0 hW) rfl (a_X12_standing hI (i := j2) (by omega)) mt_X12_standing sv_L_30 dL_areByQuotients_151 rfl rfl rfl (by omega) (by omega) ?_
                  refine pw_l (fun _ _ _ _ k => pm_stk (st' := [.int (pw_st r j2)]) rfl k) ?_
                  refine pw_l (fun _ _ _ _ k => pm_bipush (v := 98) B9 dL_areByQuotients_154 (by decide) k) ?_
                  refine pw_l2 (fun _ _ _ _ k1 k2 => pm_icmp_eq (tgt := 171) B9 dL_areByQuotients_156 (by decide) k1 k2) (fun hq24 => ?_) (fun hq24 => ?_)
                  · refine pw_l (fun _ _ _ _ k => pm_iconst (v := 1) B9 dL_areByQuotients_171 (by decide) k) ?_
                    refine pw_l (fun _ _ _ _ k => pm_goto (tgt := 176) B9 dL_areByQuotients_172 (by decide) k) ?_
                    refine pw_l (fun _ _ _ _ k => pm_wk (L' := [some (.ref (z + 0)), some (.int x), some (.ref (z + a)), some (.int (nI n)), some (.int (a4_1 + (q j1))), none, some (.int (nI j1)), some (.int ((if (pw_st r j1) = 98 then 1 else 0) : Int32)), some (.int (nI j2)), none, none]) ⟨rfl, ⟨rfl, ⟨rfl, ⟨rfl, ⟨rfl, ⟨rfl, ⟨rfl, ⟨rfl, trivial⟩⟩⟩⟩⟩⟩⟩⟩ k) ?_
                    exact pw_cr (by omega) (by omega) (pw_eq (by first | with_reducible rfl | simp only [if_neg hq21, if_neg hq22, if_pos hq23, if_pos hq24]) (by first | with_reducible rfl | simp only [if_neg hq21, if_neg hq22, if_pos hq23, if_pos hq24]) (by first | with_reducible rfl | simp only [if_neg hq21, if_neg hq22, if_pos hq23, if_pos hq24]) hj20)
                  · refine pw_l (fun _ _ _ _ k => pm_aload_n B9 dL_areByQuotients_159 rfl k) ?_
                    refine pw_l (fun _ _ _ _ k => pm_iload B9 dL_areByQuotients_160 rfl k) ?_
                    refine pw_lw (fun _ _ _ _ hW k => pm_iald_n B9 dL_areByQuotients_162 (pw_at hW 0 rfl) j1 (by first | assumption | omega) (by decide) k) ?_
                    refine pw_l2 (fun _ _ _ _ k1 k2 => pm_if_eq (tgt := 171) B9 dL_areByQuotients_163 (by decide) k1 k2) (fun hq25 => ?_) (fun hq25 => ?_)
                    · refine pw_l (fun _ _ _ _ k => pm_iconst (v := 1) B9 dL_areByQuotients_171 (by decide) k) ?_
                      refine pw_l (fun _ _ _ _ k => pm_goto (tgt := 176) B9 dL_areByQuotients_172 (by decide) k) ?_
                      refine pw_l (fun _ _ _ _ k => pm_wk (L' := [some (.ref (z + 0)), some (.int x), some (.ref (z + a)), some (.int (nI n)), some (.int (a4_1 + (q j1))), none, some (.int (nI j1)), some (.int ((if (pw_st r j1) = 98 then 1 else 0) : Int32)), some (.int (nI j2)), none, none]) ⟨rfl, ⟨rfl, ⟨rfl, ⟨rfl, ⟨rfl, ⟨rfl, ⟨rfl, ⟨rfl, trivial⟩⟩⟩⟩⟩⟩⟩⟩ k) ?_
                      exact pw_cr (by omega) (by omega) (pw_eq (by first | with_reducible rfl | simp only [if_neg hq21, if_neg hq22, if_pos hq23, if_neg hq24, if_pos hq25]) (by first | with_reducible rfl | simp only [if_neg hq21, if_neg hq22, if_pos hq23, if_neg hq24, if_pos hq25]) (by first | with_reducible rfl | simp only [if_neg hq21, if_neg hq22, if_pos hq23, if_neg hq24, if_pos hq25]) hj20)
                    · refine pw_l (fun _ _ _ _ k => pm_iload B9 dL_areByQuotients_166 rfl k) ?_
                      refine pw_l2 (fun _ _ _ _ k1 k2 => pm_if_eq (tgt := 175) B9 dL_areByQuotients_168 (by decide) k1 k2) (fun hq26 => ?_) (fun hq26 => ?_)
                      · refine pw_l (fun _ _ _ _ k => pm_iconst (v := 0) B9 dL_areByQuotients_175 (by decide) k) ?_
                        refine pw_l (fun _ _ _ _ k => pm_wk (L' := [some (.ref (z + 0)), some (.int x), some (.ref (z + a)), some (.int (nI n)), some (.int (a4_1 + (q j1))), none, some (.int (nI j1)), some (.int ((if (pw_st r j1) = 98 then 1 else 0) : Int32)), some (.int (nI j2)), none, none]) ⟨rfl, ⟨rfl, ⟨rfl, ⟨rfl, ⟨rfl, ⟨rfl, ⟨rfl, ⟨rfl, trivial⟩⟩⟩⟩⟩⟩⟩⟩ k) ?_
                        exact pw_cr (by omega) (by omega) (pw_eq (by first | with_reducible rfl | simp only [if_neg hq21, if_neg hq22, if_pos hq23, if_neg hq24, if_neg hq25, if_pos hq26]) (by first | with_reducible rfl | simp only [if_neg hq21, if_neg hq22, if_pos hq23, if_neg hq24, if_neg hq25, if_pos hq26]) (by first | with_reducible rfl | simp only [if_neg hq21, if_neg hq22, if_pos hq23, if_neg hq24, if_neg hq25, if_pos hq26]) hj20)
                      · refine pw_l (fun _ _ _ _ k => pm_iconst (v := 1) B9 dL_areByQuotients_171 (by decide) k) ?_
                        refine pw_l (fun _ _ _ _ k => pm_goto (tgt := 176) B9 dL_areByQuotients_172 (by decide) k) ?_
                        refine pw_l (fun _ _ _ _ k => pm_wk (L' := [some (.ref (z + 0)), some (.int x), some (.ref (z + a)), some (.int (nI n)), some (.int (a4_1 + (q j1))), none, some (.int (nI j1)), some (.int ((if (pw_st r j1) = 98 then 1 else 0) : Int32)), some (.int (nI j2)), none, none]) ⟨rfl, ⟨rfl, ⟨rfl, ⟨rfl, ⟨rfl, ⟨rfl, ⟨rfl, ⟨rfl, trivial⟩⟩⟩⟩⟩⟩⟩⟩ k) ?_
                        exact pw_cr (by omega) (by omega) (pw_eq (by first | with_reducible rfl | simp only [if_neg hq21, if_neg hq22, if_pos hq23, if_neg hq24, if_neg hq25, if_neg hq26]) (by first | with_reducible rfl | simp only [if_neg hq21, if_neg hq22, if_pos hq23, if_neg hq24, if_neg hq25, if_neg hq26]) (by first | with_reducible rfl | simp only [if_neg hq21, if_neg hq22, if_pos hq23, if_neg hq24, if_neg hq25, if_neg hq26]) hj20)
          refine pw_l (fun _ _ _ _ k => pm_istore B9 dL_areByQuotients_176 rfl rfl k) ?_
          refine pw_l (fun _ _ _ _ k => pm_loc (L' := [some (.ref (z + 0)), some (.int x), some (.ref (z + a)), some (.int (nI n)), some (.int (a4_1 + (q j1))), some (.int ((if a5_2 = 0 then 0 else (if (nI j2) = (nI j1) then 1 else (if ((if (pw_st r j1) = 98 then 1 else 0) : Int32) = 0 then (if (pw_st r j2) = 98 then 1 else (if (q j1) = 0 then 1 else (if ((if 0 < (((r (7 + 6 * j1 + 0)) * ((q j2) + 1)) - ((r (7 + 6 * j2 + 0)) * (q j1))) then 1 else (if (((r (7 + 6 * j1 + 0)) * ((q j2) + 1)) - ((r (7 + 6 * j2 + 0)) * (q j1))) = 0 then (if (nI j2) ≤ (nI j1) then 0 else 1) else 0)) : Int32) = 0 then 0 else 1))) else 1))) : Int32)), some (.int (nI j1)), some (.int ((if (pw_st r j1) = 98 then 1 else 0) : Int32)), some (.int (nI j2)), none, none]) rfl k) ?_
          refine pw_l (fun _ _ _ _ k => pm_iinc B9 dL_areByQuotients_178 rfl rfl rfl k) ?_
          refine pw_l (fun _ _ _ _ k => pm_loc (L' := [some (.ref (z + 0)), some (.int x), some (.ref (z + a)), some (.int (nI n)), some (.int (a4_1 + (q j1))), some (.int ((if a5_2 = 0 then 0 else (if (nI j2) = (nI j1) then 1 else (if ((if (pw_st r j1) = 98 then 1 else 0) : Int32) = 0 then (if (pw_st r j2) = 98 then 1 else (if (q j1) = 0 then 1 else (if ((if 0 < (((r (7 + 6 * j1 + 0)) * ((q j2) + 1)) - ((r (7 + 6 * j2 + 0)) * (q j1))) then 1 else (if (((r (7 + 6 * j1 + 0)) * ((q j2) + 1)) - ((r (7 + 6 * j2 + 0)) * (q j1))) = 0 then (if (nI j2) ≤ (nI j1) then 0 else 1) else 0)) : Int32) = 0 then 0 else 1))) else 1))) : Int32)), some (.int (nI j1)), some (.int ((if (pw_st r j1) = 98 then 1 else 0) : Int32)), some (.int (nI (j2 + 1))), none, none]) (by rw [show ((nI j2) : Int32) + Int32.ofInt 1 = (nI (j2 + 1)) from nI_1 _]; rfl) k) ?_
          refine pw_l (fun _ _ _ _ k => pm_goto (tgt := 74) B9 dL_areByQuotients_181 (by decide) k) ?_
          exact pw_cr (by omega) (by omega) (ih2 (j2 + 1) (by omega) _ (by subst ea5_2; first | rfl))
      exact pw_cr (by omega) (by omega) (loop2 n 0 (by omega) _ rfl)
  exact pw_cr (by omega) (by omega) (loop1 n 0 (by omega) _ rfl _ rfl)
