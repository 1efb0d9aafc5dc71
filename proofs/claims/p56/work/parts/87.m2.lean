/-! the law: sum -/
theorem dL_sum_0 : decode cL_sum 0 = .ok (.ldc2_w 350, 3) := by decide +kernel
theorem dL_sum_3 : decode cL_sum 3 = .ok (.aload_n 0, 1) := by decide +kernel
theorem dL_sum_4 : decode cL_sum 4 = .ok (.invokevirtual 352, 3) := by decide +kernel
theorem dL_sum_7 : decode cL_sum 7 = .ok (.i2l, 1) := by decide +kernel
theorem dL_sum_8 : decode cL_sum 8 = .ok (.ladd, 1) := by decide +kernel
theorem dL_sum_9 : decode cL_sum 9 = .ok (.lstore_n 1, 1) := by decide +kernel
theorem dL_sum_10 : decode cL_sum 10 = .ok (.ldc2_w 355, 3) := by decide +kernel
theorem dL_sum_13 : decode cL_sum 13 = .ok (.lload_n 1, 1) := by decide +kernel
theorem dL_sum_14 : decode cL_sum 14 = .ok (.lmul, 1) := by decide +kernel
theorem dL_sum_15 : decode cL_sum 15 = .ok (.sipush 1000, 3) := by decide +kernel
theorem dL_sum_18 : decode cL_sum 18 = .ok (.aload_n 0, 1) := by decide +kernel
theorem dL_sum_19 : decode cL_sum 19 = .ok (.invokevirtual 236, 3) := by decide +kernel
theorem dL_sum_22 : decode cL_sum 22 = .ok (.imul, 1) := by decide +kernel
theorem dL_sum_23 : decode cL_sum 23 = .ok (.i2l, 1) := by decide +kernel
theorem dL_sum_24 : decode cL_sum 24 = .ok (.ladd, 1) := by decide +kernel
theorem dL_sum_25 : decode cL_sum 25 = .ok (.aload_n 0, 1) := by decide +kernel
theorem dL_sum_26 : decode cL_sum 26 = .ok (.invokevirtual 242, 3) := by decide +kernel
theorem dL_sum_29 : decode cL_sum 29 = .ok (.i2l, 1) := by decide +kernel
theorem dL_sum_30 : decode cL_sum 30 = .ok (.ladd, 1) := by decide +kernel
theorem dL_sum_31 : decode cL_sum 31 = .ok (.lstore_n 1, 1) := by decide +kernel
theorem dL_sum_32 : decode cL_sum 32 = .ok (.ldc2_w 355, 3) := by decide +kernel
theorem dL_sum_35 : decode cL_sum 35 = .ok (.lload_n 1, 1) := by decide +kernel
theorem dL_sum_36 : decode cL_sum 36 = .ok (.lmul, 1) := by decide +kernel
theorem dL_sum_37 : decode cL_sum 37 = .ok (.bipush 100, 2) := by decide +kernel
theorem dL_sum_39 : decode cL_sum 39 = .ok (.aload_n 0, 1) := by decide +kernel
theorem dL_sum_40 : decode cL_sum 40 = .ok (.invokevirtual 278, 3) := by decide +kernel
theorem dL_sum_43 : decode cL_sum 43 = .ok (.imul, 1) := by decide +kernel
theorem dL_sum_44 : decode cL_sum 44 = .ok (.i2l, 1) := by decide +kernel
theorem dL_sum_45 : decode cL_sum 45 = .ok (.ladd, 1) := by decide +kernel
theorem dL_sum_46 : decode cL_sum 46 = .ok (.aload_n 0, 1) := by decide +kernel
theorem dL_sum_47 : decode cL_sum 47 = .ok (.invokevirtual 301, 3) := by decide +kernel
theorem dL_sum_50 : decode cL_sum 50 = .ok (.i2l, 1) := by decide +kernel
theorem dL_sum_51 : decode cL_sum 51 = .ok (.ladd, 1) := by decide +kernel
theorem dL_sum_52 : decode cL_sum 52 = .ok (.lstore_n 1, 1) := by decide +kernel
theorem dL_sum_53 : decode cL_sum 53 = .ok (.iconst 0, 1) := by decide +kernel
theorem dL_sum_54 : decode cL_sum 54 = .ok (.istore_n 3, 1) := by decide +kernel
theorem dL_sum_55 : decode cL_sum 55 = .ok (.iload_n 3, 1) := by decide +kernel
theorem dL_sum_56 : decode cL_sum 56 = .ok (.aload_n 0, 1) := by decide +kernel
theorem dL_sum_57 : decode cL_sum 57 = .ok (.invokevirtual 177, 3) := by decide +kernel
theorem dL_sum_60 : decode cL_sum 60 = .ok (.if_icmp .ge 133, 3) := by decide +kernel
theorem dL_sum_63 : decode cL_sum 63 = .ok (.ldc2_w 357, 3) := by decide +kernel
theorem dL_sum_66 : decode cL_sum 66 = .ok (.lload_n 1, 1) := by decide +kernel
theorem dL_sum_67 : decode cL_sum 67 = .ok (.lmul, 1) := by decide +kernel
theorem dL_sum_68 : decode cL_sum 68 = .ok (.bipush 100, 2) := by decide +kernel
theorem dL_sum_70 : decode cL_sum 70 = .ok (.aload_n 0, 1) := by decide +kernel
theorem dL_sum_71 : decode cL_sum 71 = .ok (.iload_n 3, 1) := by decide +kernel
theorem dL_sum_72 : decode cL_sum 72 = .ok (.invokevirtual 24, 3) := by decide +kernel
theorem dL_sum_75 : decode cL_sum 75 = .ok (.imul, 1) := by decide +kernel
theorem dL_sum_76 : decode cL_sum 76 = .ok (.i2l, 1) := by decide +kernel
theorem dL_sum_77 : decode cL_sum 77 = .ok (.ladd, 1) := by decide +kernel
theorem dL_sum_78 : decode cL_sum 78 = .ok (.aload_n 0, 1) := by decide +kernel
theorem dL_sum_79 : decode cL_sum 79 = .ok (.iload_n 3, 1) := by decide +kernel
theorem dL_sum_80 : decode cL_sum 80 = .ok (.invokevirtual 27, 3) := by decide +kernel
theorem dL_sum_83 : decode cL_sum 83 = .ok (.i2l, 1) := by decide +kernel
theorem dL_sum_84 : decode cL_sum 84 = .ok (.ladd, 1) := by decide +kernel
theorem dL_sum_85 : decode cL_sum 85 = .ok (.lstore_n 1, 1) := by decide +kernel
theorem dL_sum_86 : decode cL_sum 86 = .ok (.ldc2_w 359, 3) := by decide +kernel
theorem dL_sum_89 : decode cL_sum 89 = .ok (.lload_n 1, 1) := by decide +kernel
theorem dL_sum_90 : decode cL_sum 90 = .ok (.lmul, 1) := by decide +kernel
theorem dL_sum_91 : decode cL_sum 91 = .ok (.sipush 400, 3) := by decide +kernel
theorem dL_sum_94 : decode cL_sum 94 = .ok (.aload_n 0, 1) := by decide +kernel
theorem dL_sum_95 : decode cL_sum 95 = .ok (.iload_n 3, 1) := by decide +kernel
theorem dL_sum_96 : decode cL_sum 96 = .ok (.invokevirtual 58, 3) := by decide +kernel
theorem dL_sum_99 : decode cL_sum 99 = .ok (.imul, 1) := by decide +kernel
theorem dL_sum_100 : decode cL_sum 100 = .ok (.i2l, 1) := by decide +kernel
theorem dL_sum_101 : decode cL_sum 101 = .ok (.ladd, 1) := by decide +kernel
theorem dL_sum_102 : decode cL_sum 102 = .ok (.aload_n 0, 1) := by decide +kernel
theorem dL_sum_103 : decode cL_sum 103 = .ok (.iload_n 3, 1) := by decide +kernel
theorem dL_sum_104 : decode cL_sum 104 = .ok (.invokevirtual 61, 3) := by decide +kernel
theorem dL_sum_107 : decode cL_sum 107 = .ok (.i2l, 1) := by decide +kernel
theorem dL_sum_108 : decode cL_sum 108 = .ok (.ladd, 1) := by decide +kernel
theorem dL_sum_109 : decode cL_sum 109 = .ok (.lstore_n 1, 1) := by decide +kernel
theorem dL_sum_110 : decode cL_sum 110 = .ok (.ldc2_w 361, 3) := by decide +kernel
theorem dL_sum_113 : decode cL_sum 113 = .ok (.lload_n 1, 1) := by decide +kernel
theorem dL_sum_114 : decode cL_sum 114 = .ok (.lmul, 1) := by decide +kernel
theorem dL_sum_115 : decode cL_sum 115 = .ok (.bipush 20, 2) := by decide +kernel
theorem dL_sum_117 : decode cL_sum 117 = .ok (.aload_n 0, 1) := by decide +kernel
theorem dL_sum_118 : decode cL_sum 118 = .ok (.iload_n 3, 1) := by decide +kernel
theorem dL_sum_119 : decode cL_sum 119 = .ok (.invokestatic 212, 3) := by decide +kernel
theorem dL_sum_122 : decode cL_sum 122 = .ok (.imul, 1) := by decide +kernel
theorem dL_sum_123 : decode cL_sum 123 = .ok (.i2l, 1) := by decide +kernel
theorem dL_sum_124 : decode cL_sum 124 = .ok (.ladd, 1) := by decide +kernel
theorem dL_sum_125 : decode cL_sum 125 = .ok (.aload_n 0, 1) := by decide +kernel
theorem dL_sum_126 : decode cL_sum 126 = .ok (.iload_n 3, 1) := by decide +kernel
theorem dL_sum_127 : decode cL_sum 127 = .ok (.invokestatic 214, 3) := by decide +kernel
theorem dL_sum_130 : decode cL_sum 130 = .ok (.i2l, 1) := by decide +kernel
theorem dL_sum_131 : decode cL_sum 131 = .ok (.ladd, 1) := by decide +kernel
theorem dL_sum_132 : decode cL_sum 132 = .ok (.lstore_n 1, 1) := by decide +kernel
theorem dL_sum_133 : decode cL_sum 133 = .ok (.ldc2_w 363, 3) := by decide +kernel
theorem dL_sum_136 : decode cL_sum 136 = .ok (.lload_n 1, 1) := by decide +kernel
theorem dL_sum_137 : decode cL_sum 137 = .ok (.lmul, 1) := by decide +kernel
theorem dL_sum_138 : decode cL_sum 138 = .ok (.bipush 10, 2) := by decide +kernel
theorem dL_sum_140 : decode cL_sum 140 = .ok (.aload_n 0, 1) := by decide +kernel
theorem dL_sum_141 : decode cL_sum 141 = .ok (.iload_n 3, 1) := by decide +kernel
theorem dL_sum_142 : decode cL_sum 142 = .ok (.invokestatic 229, 3) := by decide +kernel
theorem dL_sum_145 : decode cL_sum 145 = .ok (.imul, 1) := by decide +kernel
theorem dL_sum_146 : decode cL_sum 146 = .ok (.i2l, 1) := by decide +kernel
theorem dL_sum_147 : decode cL_sum 147 = .ok (.ladd, 1) := by decide +kernel
theorem dL_sum_148 : decode cL_sum 148 = .ok (.lstore_n 1, 1) := by decide +kernel
theorem dL_sum_149 : decode cL_sum 149 = .ok (.iconst 0, 1) := by decide +kernel
theorem dL_sum_150 : decode cL_sum 150 = .ok (.istore 4, 2) := by decide +kernel
theorem dL_sum_152 : decode cL_sum 152 = .ok (.iload 4, 2) := by decide +kernel
theorem dL_sum_154 : decode cL_sum 154 = .ok (.iload_n 3, 1) := by decide +kernel
theorem dL_sum_155 : decode cL_sum 155 = .ok (.if_icmp .ge 32, 3) := by decide +kernel
theorem dL_sum_158 : decode cL_sum 158 = .ok (.ldc2_w 365, 3) := by decide +kernel
theorem dL_sum_161 : decode cL_sum 161 = .ok (.lload_n 1, 1) := by decide +kernel
theorem dL_sum_162 : decode cL_sum 162 = .ok (.lmul, 1) := by decide +kernel
theorem dL_sum_163 : decode cL_sum 163 = .ok (.aload_n 0, 1) := by decide +kernel
theorem dL_sum_164 : decode cL_sum 164 = .ok (.iload_n 3, 1) := by decide +kernel
theorem dL_sum_165 : decode cL_sum 165 = .ok (.iload 4, 2) := by decide +kernel
theorem dL_sum_167 : decode cL_sum 167 = .ok (.invokevirtual 82, 3) := by decide +kernel
theorem dL_sum_170 : decode cL_sum 170 = .ok (.ifCond .eq 7, 3) := by decide +kernel
theorem dL_sum_173 : decode cL_sum 173 = .ok (.iconst 1, 1) := by decide +kernel
theorem dL_sum_174 : decode cL_sum 174 = .ok (.goto 4, 3) := by decide +kernel
theorem dL_sum_177 : decode cL_sum 177 = .ok (.iconst 0, 1) := by decide +kernel
theorem dL_sum_178 : decode cL_sum 178 = .ok (.i2l, 1) := by decide +kernel
theorem dL_sum_179 : decode cL_sum 179 = .ok (.ladd, 1) := by decide +kernel
theorem dL_sum_180 : decode cL_sum 180 = .ok (.lstore_n 1, 1) := by decide +kernel
theorem dL_sum_181 : decode cL_sum 181 = .ok (.iinc 4 1, 3) := by decide +kernel
theorem dL_sum_184 : decode cL_sum 184 = .ok (.goto (-32), 3) := by decide +kernel
theorem dL_sum_187 : decode cL_sum 187 = .ok (.iinc 3 1, 3) := by decide +kernel
theorem dL_sum_190 : decode cL_sum 190 = .ok (.goto (-135), 3) := by decide +kernel
theorem dL_sum_193 : decode cL_sum 193 = .ok (.lload_n 1, 1) := by decide +kernel
theorem dL_sum_194 : decode cL_sum 194 = .ok (.lreturn, 1) := by decide +kernel
theorem mt_L_sum : pm_Mt yL_sum cL_sum 5 (some .long) 1 := ⟨pm_T_in 1515 (by decide +kernel) (by decide +kernel), pm_T_in 34 (by decide +kernel) (by decide +kernel), ⟨by decide +kernel, by decide +kernel, by decide +kernel⟩, by decide +kernel, by decide⟩
def w_L_sum_2 (r : (Nat → Int32)) (j1 : Nat) (x0 : Int64) : Nat → Int64
  | 0 => x0
  | j2 + 1 => ((3 * (w_L_sum_2 r j1 x0 j2)) + (((if (pw_lk r j1 j2) = 0 then 0 else 1) : Int32).toInt64))
def w_L_sum_1 (n : Nat) (r : (Nat → Int32)) (x0 : Int64) : Nat → Int64
  | 0 => x0
  | j1 + 1 => (w_L_sum_2 r j1 ((47 * (((43 * (((41 * (((37 * (w_L_sum_1 n r x0 j1)) + ((100 * (r (7 + 6 * j1 + 0))).toInt64)) + ((r (7 + 6 * j1 + 1)).toInt64))) + ((400 * (r (7 + 6 * j1 + 2))).toInt64)) + ((r (7 + 6 * j1 + 3)).toInt64))) + ((20 * (pw_wa r j1)).toInt64)) + ((pw_ba r j1).toInt64))) + ((10 * (pw_dr n r j1)).toInt64)) j1)
def v_L_sum (n : Nat) (r : Nat → Int32) : Int64 := (w_L_sum_1 n r (((31 * (((31 * (7 + ((r 4).toInt64))) + ((1000 * (r 5 + r 6)).toInt64)) + ((r 6).toInt64))) + ((100 * (pw_lc r)).toInt64)) + ((d_X11_winners n r).toInt64)) n)
set_option maxRecDepth 100000 in
set_option maxHeartbeats 8000000 in
theorem c_L_sum {l : Launch} {z : Nat} {D : va_G} {kA : Nat → ClassId} {kE : Nat → Nat} {B n : Nat} {r : Nat → Int32} {hs : List (Nat → Int32)} {u : Nat × List Nat} {ar : List (Nat × va_E)}  (hI : pm_I B n r) : ∀ nx M, (pw_W z kA kE (B, r, hs, u) ar) nx M → pm_C l z D kA kE yL_sum cL_sum 5 (some .long) 40 266 1596 [.ref (z + 0)] nx M (pw_P (some (.long (v_L_sum n r))) (pw_W z kA kE (B, r, hs, u) ar)) := by
  refine pw_mk (own := RL) (nm := "sum") mt_L_sum rfl rfl rfl rfl fun X B9 => ?_
  have h7 : n ≤ 7 := hI.1.2.1
  refine pw_l (fun _ _ _ _ k => pm_loc (L' := [some (.ref (z + 0)), none, none, none, none]) rfl k) ?_
  refine pw_l (fun _ _ _ _ k => pm_ldc2 (v := 7) B9 dL_sum_0 (pm_T_in 1516 (by decide +kernel) (by decide +kernel)) k) ?_
  refine pw_l (fun _ _ _ _ k => pm_aload_n B9 dL_sum_3 rfl k) ?_
  refine pw_cV (As := []) (c2 := (266 - (2) + 0)) (s2 := (1596 - (12) + 0)) B9 (fun _ _ hW => pw_0 hW) rfl (a_X12_month hI) mt_X12_month sv_L_352 dL_sum_4 rfl rfl rfl (by omega) (by omega) ?_
  refine pw_l (fun _ _ _ _ k => pm_stk (st' := [.int (r 4), .long 7]) rfl k) ?_
  refine pw_l (fun _ _ _ _ k => pm_i2l B9 dL_sum_7 k) ?_
  refine pw_l (fun _ _ _ _ k => pm_ladd B9 dL_sum_8 k) ?_
  refine pw_l (fun _ _ _ _ k => pm_lstore_n B9 dL_sum_9 rfl rfl rfl k) ?_
  refine pw_l (fun _ _ _ _ k => pm_loc (L' := [some (.ref (z + 0)), some (.long (7 + ((r 4).toInt64))), none, none, none]) rfl k) ?_
  refine pw_l (fun _ _ _ _ k => pm_ldc2 (v := 31) B9 dL_sum_10 (pm_T_in 1521 (by decide +kernel) (by decide +kernel)) k) ?_
  refine pw_l (fun _ _ _ _ k => pm_lload_n B9 dL_sum_13 rfl k) ?_
  refine pw_l (fun _ _ _ _ k => pm_lmul B9 dL_sum_14 k) ?_
  refine pw_l (fun _ _ _ _ k => pm_sipush (v := 1000) B9 dL_sum_15 (by decide) k) ?_
  refine pw_l (fun _ _ _ _ k => pm_aload_n B9 dL_sum_18 rfl k) ?_
  refine pw_cV (As := []) (c2 := (266 - (4) + 0)) (s2 := (1596 - (24) + 0)) B9 (fun _ _ hW => pw_0 hW) rfl (a_X12_soldTotal hI) mt_X12_soldTotal sv_L_236 dL_sum_19 rfl rfl rfl (by omega) (by omega) ?_
  refine pw_l (fun _ _ _ _ k => pm_stk (st' := [.int (r 5 + r 6), .int 1000, .long (31 * (7 + ((r 4).toInt64)))]) rfl k) ?_
  refine pw_l (fun _ _ _ _ k => pm_imul B9 dL_sum_22 k) ?_
  refine pw_l (fun _ _ _ _ k => pm_i2l B9 dL_sum_23 k) ?_
  refine pw_l (fun _ _ _ _ k => pm_ladd B9 dL_sum_24 k) ?_
  refine pw_l (fun _ _ _ _ k => pm_aload_n B9 dL_sum_25 rfl k) ?_
  refine pw_cV (As := []) (c2 := (266 - (6) + 0)) (s2 := (1596 - (36) + 0)) B9 (fun _ _ hW => pw_0 hW) rfl (a_X12_finedTotal hI) mt_X12_finedTotal sv_L_242 dL_sum_26 rfl rfl rfl (by omega) (by omega) ?_
  refine pw_l (fun _ _ _ _ k => pm_stk (st' := [.int (r 6), .long ((31 * (7 + ((r 4).toInt64))) + ((1000 * (r 5 + r 6)).toInt64))]) rfl k) ?_
  refine pw_l (fun _ _ _ _ k => pm_i2l B9 dL_sum_29 k) ?_
  refine pw_l (fun _ _ _ _ k => pm_ladd B9 dL_sum_30 k) ?_
  refine pw_l (fun _ _ _ _ k => pm_lstore_n B9 dL_sum_31 rfl rfl rfl k) ?_
  refine pw_l (fun _ _ _ _ k => pm_loc (L' := [some (.ref (z + 0)), some (.long (((31 * (7 + ((r 4).toInt64))) + ((1000 * (r 5 + r 6)).toInt64)) + ((r 6).toInt64))), none, none, none]) rfl k) ?_
  refine pw_l (fun _ _ _ _ k => pm_ldc2 (v := 31) B9 dL_sum_32 (pm_T_in 1521 (by decide +kernel) (by decide +kernel)) k) ?_
  refine pw_l (fun _ _ _ _ k => pm_lload_n B9 dL_sum_35 rfl k) ?_
  refine pw_l (fun _ _ _ _ k => pm_lmul B9 dL_sum_36 k) ?_
  refine pw_l (fun _ _ _ _ k => pm_bipush (v := 100) B9 dL_sum_37 (by decide) k) ?_
  refine pw_l (fun _ _ _ _ k => pm_aload_n B9 dL_sum_39 rfl k) ?_
  refine pw_cV (As := []) (c2 := (266 - (8) + 0)) (s2 := (1596 - (48) + 0)) B9 (fun _ _ hW => pw_0 hW) rfl (a_X12_linkCount hI) mt_X12_linkCount sv_L_278 dL_sum_40 rfl rfl rfl (by omega) (by omega) ?_
  refine pw_l (fun _ _ _ _ k => pm_stk (st' := [.int (pw_lc r), .int 100, .long (31 * (((31 * (7 + ((r 4).toInt64))) + ((1000 * (r 5 + r 6)).toInt64)) + ((r 6).toInt64)))]) rfl k) ?_
  refine pw_l (fun _ _ _ _ k => pm_imul B9 dL_sum_43 k) ?_
  refine pw_l (fun _ _ _ _ k => pm_i2l B9 dL_sum_44 k) ?_
  refine pw_l (fun _ _ _ _ k => pm_ladd B9 dL_sum_45 k) ?_
  refine pw_l (fun _ _ _ _ k => pm_aload_n B9 dL_sum_46 rfl k) ?_
  refine pw_cV (As := []) (c2 := (266 - (10) + 0)) (s2 := (1596 - (60) + 0)) B9 (fun _ _ hW => pw_0 hW) rfl (a_X12_winningCoalitions hI) mt_X12_winningCoalitions sv_L_301 dL_sum_47 rfl rfl rfl (by omega) (by omega) ?_
  refine pw_l (fun _ _ _ _ k => pm_stk (st' := [.int (d_X11_winners n r), .long ((31 * (((31 * (7 + ((r 4).toInt64))) + ((1000 * (r 5 + r 6)).toInt64)) + ((r 6).toInt64))) + ((100 * (pw_lc r)).toInt64))]) rfl k) ?_
  refine pw_l (fun _ _ _ _ k => pm_i2l B9 dL_sum_50 k) ?_
  refine pw_l (fun _ _ _ _ k => pm_ladd B9 dL_sum_51 k) ?_
  refine pw_l (fun _ _ _ _ k => pm_lstore_n B9 dL_sum_52 rfl rfl rfl k) ?_
  refine pw_l (fun _ _ _ _ k => pm_loc (L' := [some (.ref (z + 0)), some (.long (((31 * (((31 * (7 + ((r 4).toInt64))) + ((1000 * (r 5 + r 6)).toInt64)) + ((r 6).toInt64))) + ((100 * (pw_lc r)).toInt64)) + ((d_X11_winners n r).toInt64))), none, none, none]) rfl k) ?_
  refine pw_l (fun _ _ _ _ k => pm_iconst (v := 0) B9 dL_sum_53 (by decide) k) ?_
  refine pw_l (fun _ _ _ _ k => pm_istore_n2 B9 dL_sum_54 rfl rfl k) ?_
  refine pw_l (fun _ _ _ _ k => pm_loc (L' := [some (.ref (z + 0)), some (.long (((31 * (((31 * (7 + ((r 4).toInt64))) + ((1000 * (r 5 + r 6)).toInt64)) + ((r 6).toInt64))) + ((100 * (pw_lc r)).toInt64)) + ((d_X11_winners n r).toInt64))), none, some (.int 0), none]) rfl k) ?_
  refine pw_l (fun _ _ _ _ k => pm_loc (L' := [some (.ref (z + 0)), some (.long (((31 * (((31 * (7 + ((r 4).toInt64))) + ((1000 * (r 5 + r 6)).toInt64)) + ((r 6).toInt64))) + ((100 * (pw_lc r)).toInt64)) + ((d_X11_winners n r).toInt64))), none, some (.int (nI 0)), none]) (congrArg (fun yy : Int32 => ([some (.ref (z + 0)), some (.long (((31 * (((31 * (7 + ((r 4).toInt64))) + ((1000 * (r 5 + r 6)).toInt64)) + ((r 6).toInt64))) + ((100 * (pw_lc r)).toInt64)) + ((d_X11_winners n r).toInt64))), none, some (.int yy), none] : List (Option Value))) rfl) k) ?_
  have hx1 : pw_J l z D X 266 1596 (pm_Q z D (pw_P (some (.long (v_L_sum n r))) (pw_W z kA kE (B, r, hs, u) ar)) 266 1596 X) (pw_W z kA kE (B, r, hs, u) ar) (266 - (10 + 8 * 32) + 0) (1596 - (60 + 8 * 192) + 0) 193 [none, some (.long (w_L_sum_1 n r (((31 * (((31 * (7 + ((r 4).toInt64))) + ((1000 * (r 5 + r 6)).toInt64)) + ((r 6).toInt64))) + ((100 * (pw_lc r)).toInt64)) + ((d_X11_winners n r).toInt64)) n)), none, none, none] [] := by
    refine pw_l (fun _ _ _ _ k => pm_lload_n B9 dL_sum_193 rfl k) ?_
    exact fun cu su nx M h1 h2 hW => pm_lreturn B9 dL_sum_194 rfl ⟨rfl, hW⟩ (Nat.ble_eq_true_of_le (by omega)) (Nat.ble_eq_true_of_le (by omega))
  have loop1 : ∀ k1 j1 : Nat, j1 + k1 = n → ∀ (a1_1 : Int64), a1_1 = (w_L_sum_1 n r (((31 * (((31 * (7 + ((r 4).toInt64))) + ((1000 * (r 5 + r 6)).toInt64)) + ((r 6).toInt64))) + ((100 * (pw_lc r)).toInt64)) + ((d_X11_winners n r).toInt64)) j1) → pw_J l z D X 266 1596 (pm_Q z D (pw_P (some (.long (v_L_sum n r))) (pw_W z kA kE (B, r, hs, u) ar)) 266 1596 X) (pw_W z kA kE (B, r, hs, u) ar) (k1 * 32 + (32 + (266 - (10 + 8 * 32) + 0))) (k1 * 192 + (192 + (1596 - (60 + 8 * 192) + 0))) 55 [some (.ref (z + 0)), some (.long a1_1), none, some (.int (nI j1)), none] [] := by
    intro k1
    induction k1 with
    | zero =>
      intro j1 hj1 a1_1 ea1_1
      have hjn1 : j1 = n := by omega
      refine pw_cr (c2 := (32 - (0) + (266 - (10 + 8 * 32) + 0))) (s2 := (192 - (0) + (1596 - (60 + 8 * 192) + 0))) (by omega) (by omega) ?_
      refine pw_l (fun _ _ _ _ k => pm_iload_n B9 dL_sum_55 rfl k) ?_
      refine pw_l (fun _ _ _ _ k => pm_aload_n B9 dL_sum_56 rfl k) ?_
      refine pw_cV (As := []) (c2 := (32 - (2) + (266 - (10 + 8 * 32) + 0))) (s2 := (192 - (12) + (1596 - (60 + 8 * 192) + 0))) B9 (fun _ _ hW => pw_0 hW) rfl (a_X12_memberCount hI) mt_X12_memberCount sv_L_177 dL_sum_57 rfl rfl rfl (by omega) (by omega) ?_
      refine pw_l (fun _ _ _ _ k => pm_stk (st' := [.int (nI n), .int (nI j1)]) rfl k) ?_
      refine pw_l (fun _ _ _ _ k => pm_icmp_ge (tgt := 193) B9 dL_sum_60 (by decide) (fun _ => k) (fun h => absurd ((by rw [show (nI n) = nI n from rfl, show (nI j1) = nI j1 from rfl]; exact (nI_leI (by omega) (by omega)).mpr (by omega))) h)) ?_
      refine pw_l (fun _ _ _ _ k => pm_wk (L' := [none, some (.long a1_1), none, none, none]) ⟨rfl, trivial⟩ k) ?_
      exact pw_cr (by omega) (by omega) (pw_eq (by first | with_reducible rfl | simp only [ea1_1, hjn1]) (by first | with_reducible rfl | simp only [ea1_1, hjn1]) rfl hx1)
    | succ k1 ih1 =>
      intro j1 hj1 a1_1 ea1_1
      have hjn1 : j1 < n := by omega
      refine pw_cr (c2 := (32 - (0) + (k1 * 32 + (32 + (266 - (10 + 8 * 32) + 0))))) (s2 := (192 - (0) + (k1 * 192 + (192 + (1596 - (60 + 8 * 192) + 0))))) (by rw [Nat.succ_mul]; omega) (by rw [Nat.succ_mul]; omega) ?_
      refine pw_l (fun _ _ _ _ k => pm_iload_n B9 dL_sum_55 rfl k) ?_
      refine pw_l (fun _ _ _ _ k => pm_aload_n B9 dL_sum_56 rfl k) ?_
      refine pw_cV (As := []) (c2 := (32 - (2) + (k1 * 32 + (32 + (266 - (10 + 8 * 32) + 0))))) (s2 := (192 - (12) + (k1 * 192 + (192 + (1596 - (60 + 8 * 192) + 0))))) B9 (fun _ _ hW => pw_0 hW) rfl (a_X12_memberCount hI) mt_X12_memberCount sv_L_177 dL_sum_57 rfl rfl rfl (by omega) (by omega) ?_
      refine pw_l (fun _ _ _ _ k => pm_stk (st' := [.int (nI n), .int (nI j1)]) rfl k) ?_
      refine pw_l (fun _ _ _ _ k => pm_icmp_ge (tgt := 193) B9 dL_sum_60 (by decide) (fun h => absurd h ((by rw [show (nI n) = nI n from rfl, show (nI j1) = nI j1 from rfl]; exact fun e => absurd ((nI_leI (by omega) (by omega)).mp e) (by omega)))) (fun _ => k)) ?_
      refine pw_l (fun _ _ _ _ k => pm_ldc2 (v := 37) B9 dL_sum_63 (pm_T_in 1522 (by decide +kernel) (by decide +kernel)) k) ?_
      refine pw_l (fun _ _ _ _ k => pm_lload_n B9 dL_sum_66 rfl k) ?_
      refine pw_l (fun _ _ _ _ k => pm_lmul B9 dL_sum_67 k) ?_
      refine pw_l (fun _ _ _ _ k => pm_bipush (v := 100) B9 dL_sum_68 (by decide) k) ?_
      refine pw_l (fun _ _ _ _ k => pm_aload_n B9 dL_sum_70 rfl k) ?_
      refine pw_l (fun _ _ _ _ k => pm_iload_n B9 dL_sum_71 rfl k) ?_
      refine pw_cV (As := [.int (nI j1)]) (c2 := (32 - (4) + (k1 * 32 + (32 + (266 - (10 + 8 * 32) + 0))))) (s2 := (192 - (24) + (k1 * 192 + (192 + (1596 - (60 + 8 * 192) + 0))))) B9 (fun _ _ hW => pw_0 hW) rfl (a_X12_capacity hI (i := j1) (by omega)) mt_X12_capacity sv_L_24 dL_sum_72 rfl rfl rfl (by omega) (by omega) ?_
      refine pw_l (fun _ _ _ _ k => pm_stk (st' := [.int (r (7 + 6 * j1 + 0)), .int 100, .long (37 * a1_1)]) rfl k) ?_
      refine pw_l (fun _ _ _ _ k => pm_imul B9 dL_sum_75 k) ?_
      refine pw_l (fun _ _ _ _ k => pm_i2l B9 dL_sum_76 k) ?_
      refine pw_l (fun _ _ _ _ k => pm_ladd B9 dL_sum_77 k) ?_
      refine pw_l (fun _ _ _ _ k => pm_aload_n B9 dL_sum_78 rfl k) ?_
      refine pw_l (fun _ _ _ _ k => pm_iload_n B9 dL_sum_79 rfl k) ?_
      refine pw_cV (As := [.int (nI j1)]) (c2 := (32 - (6) + (k1 * 32 + (32 + (266 - (10 + 8 * 32) + 0))))) (s2 := (192 - (36) + (k1 * 192 + (192 + (1596 - (60 + 8 * 192) + 0))))) B9 (fun _ _ hW => pw_0 hW) rfl (a_X12_votes hI (i := j1) (by omega)) mt_X12_votes sv_L_27 dL_sum_80 rfl rfl rfl (by omega) (by omega) ?_
      refine pw_l (fun _ _ _ _ k => pm_stk (st' := [.int (r (7 + 6 * j1 + 1)), .long ((37 * a1_1) + ((100 * (r (7 + 6 * j1 + 0))).toInt64))]) rfl k) ?_
      refine pw_l (fun _ _ _ _ k => pm_i2l B9 dL_sum_83 k) ?_
      refine pw_l (fun _ _ _ _ k => pm_ladd B9 dL_sum_84 k) ?_
      refine pw_l (fun _ _ _ _ k => pm_lstore_n B9 dL_sum_85 rfl rfl rfl k) ?_
      refine pw_l (fun _ _ _ _ k => pm_loc (L' := [some (.ref (z + 0)), some (.long (((37 * a1_1) + ((100 * (r (7 + 6 * j1 + 0))).toInt64)) + ((r (7 + 6 * j1 + 1)).toInt64))), none, some (.int (nI j1)), none]) rfl k) ?_
      refine pw_l (fun _ _ _ _ k => pm_ldc2 (v := 41) B9 dL_sum_86 (pm_T_in 1523 (by decide +kernel) (by decide +kernel)) k) ?_
      refine pw_l (fun _ _ _ _ k => pm_lload_n B9 dL_sum_89 rfl k) ?_
      refine pw_l (fun _ _ _ _ k => pm_lmul B9 dL_sum_90 k) ?_
      refine pw_l (fun _ _ _ _ k => pm_sipush (v := 400) B9 dL_sum_91 (by decide) k) ?_
      refine pw_l (fun _ _ _ _ k => pm_aload_n B9 dL_sum_94 rfl k) ?_
      refine pw_l (fun _ _ _ _ k => pm_iload_n B9 dL_sum_95 rfl k) ?_
      refine pw_cV (As := [.int (nI j1)]) (c2 := (32 - (8) + (k1 * 32 + (32 + (266 - (10 + 8 * 32) + 0))))) (s2 := (192 - (48) + (k1 * 192 + (192 + (1596 - (60 + 8 * 192) + 0))))) B9 (fun _ _ hW => pw_0 hW) rfl (a_X12_quota hI (i := j1) (by omega)) mt_X12_quota sv_L_58 dL_sum_96 rfl rfl rfl (by omega) (by omega) ?_
      refine pw_l (fun _ _ _ _ k => pm_stk (st' := [.int (r (7 + 6 * j1 + 2)), .int 400, .long (41 * (((37 * a1_1) + ((100 * (r (7 + 6 * j1 + 0))).toInt64)) + ((r (7 + 6 * j1 + 1)).toInt64)))]) rfl k) ?_
      refine pw_l (fun _ _ _ _ k => pm_imul B9 dL_sum_99 k) ?_
      refine pw_l (fun _ _ _ _ k => pm_i2l B9 dL_sum_100 k) ?_
      refine pw_l (fun _ _ _ _ k => pm_ladd B9 dL_sum_101 k) ?_
      refine pw_l (fun _ _ _ _ k => pm_aload_n B9 dL_sum_102 rfl k) ?_
      refine pw_l (fun _ _ _ _ k => pm_iload_n B9 dL_sum_103 rfl k) ?_
      refine pw_cV (As := [.int (nI j1)]) (c2 := (32 - (10) + (k1 * 32 + (32 + (266 - (10 + 8 * 32) + 0))))) (s2 := (192 - (60) + (k1 * 192 + (192 + (1596 - (60 + 8 * 192) + 0))))) B9 (fun _ _ hW => pw_0 hW) rfl (a_X12_sales hI (i := j1) (by omega)) mt_X12_sales sv_L_61 dL_sum_104 rfl rfl rfl (by omega) (by omega) ?_
      refine pw_l (fun _ _ _ _ k => pm_stk (st' := [.int (r (7 + 6 * j1 + 3)), .long ((41 * (((37 * a1_1) + ((100 * (r (7 + 6 * j1 + 0))).toInt64)) + ((r (7 + 6 * j1 + 1)).toInt64))) + ((400 * (r (7 + 6 * j1 + 2))).toInt64))]) rfl k) ?_
      refine pw_l (fun _ _ _ _ k => pm_i2l B9 dL_sum_107 k) ?_
      refine pw_l (fun _ _ _ _ k => pm_ladd B9 dL_sum_108 k) ?_
      refine pw_l (fun _ _ _ _ k => pm_lstore_n B9 dL_sum_109 rfl rfl rfl k) ?_
      refine pw_l (fun _ _ _ _ k => pm_loc (L' := [some (.ref (z + 0)), some (.long (((41 * (((37 * a1_1) + ((100 * (r (7 + 6 * j1 + 0))).toInt64)) + ((r (7 + 6 * j1 + 1)).toInt64))) + ((400 * (r (7 + 6 * j1 + 2))).toInt64)) + ((r (7 + 6 * j1 + 3)).toInt64))), none, some (.int (nI j1)), none]) rfl k) ?_
      refine pw_l (fun _ _ _ _ k => pm_ldc2 (v := 43) B9 dL_sum_110 (pm_T_in 1524 (by decide +kernel) (by decide +kernel)) k) ?_
      refine pw_l (fun _ _ _ _ k => pm_lload_n B9 dL_sum_113 rfl k) ?_
      refine pw_l (fun _ _ _ _ k => pm_lmul B9 dL_sum_114 k) ?_
      refine pw_l (fun _ _ _ _ k => pm_bipush (v := 20) B9 dL_sum_115 (by decide) k) ?_
      refine pw_l (fun _ _ _ _ k => pm_aload_n B9 dL_sum_117 rfl k) ?_
      refine pw_l (fun _ _ _ _ k => pm_iload_n B9 dL_sum_118 rfl k) ?_
      refine pw_cSW (As := [.ref (z + 0), .int (nI j1)]) (c2 := (32 - (12) + (k1 * 32 + (32 + (266 - (10 + 8 * 32) + 0))))) (s2 := (192 - (72) + (k1 * 192 + (192 + (1596 - (60 + 8 * 192) + 0))))) B9 (pv_as (pv_L_warnings_in (i := j1) (by omega) hI.1.2.1) (b_L_warnings hI)) mt_L_warnings ss_L_212 dL_sum_119 rfl rfl rfl (by omega) (by omega) ?_
      refine pw_l (fun _ _ _ _ k => pm_stk (st' := [.int (pw_wa r j1), .int 20, .long (43 * (((41 * (((37 * a1_1) + ((100 * (r (7 + 6 * j1 + 0))).toInt64)) + ((r (7 + 6 * j1 + 1)).toInt64))) + ((400 * (r (7 + 6 * j1 + 2))).toInt64)) + ((r (7 + 6 * j1 + 3)).toInt64)))]) rfl k) ?_
      refine pw_l (fun _ _ _ _ k => pm_imul B9 dL_sum_122 k) ?_
      refine pw_l (fun _ _ _ _ k => pm_i2l B9 dL_sum_123 k) ?_
      refine pw_l (fun _ _ _ _ k => pm_ladd B9 dL_sum_124 k) ?_
      refine pw_l (fun _ _ _ _ k => pm_aload_n B9 dL_sum_125 rfl k) ?_
      refine pw_l (fun _ _ _ _ k => pm_iload_n B9 dL_sum_126 rfl k) ?_
      refine pw_cSW (As := [.ref (z + 0), .int (nI j1)]) (c2 := (32 - (14) + (k1 * 32 + (32 + (266 - (10 + 8 * 32) + 0))))) (s2 := (192 - (84) + (k1 * 192 + (192 + (1596 - (60 + 8 * 192) + 0))))) B9 (pv_as (pv_L_barred_in (i := j1) (by omega) hI.1.2.1) (b_L_barred hI)) mt_L_barred ss_L_214 dL_sum_127 rfl rfl rfl (by omega) (by omega) ?_
      refine pw_l (fun _ _ _ _ k => pm_stk (st' := [.int (pw_ba r j1), .long ((43 * (((41 * (((37 * a1_1) + ((100 * (r (7 + 6 * j1 + 0))).toInt64)) + ((r (7 + 6 * j1 + 1)).toInt64))) + ((400 * (r (7 + 6 * j1 + 2))).toInt64)) + ((r (7 + 6 * j1 + 3)).toInt64))) + ((20 * (pw_wa r j1)).toInt64))]) rfl k) ?_
      refine pw_l (fun _ _ _ _ k => pm_i2l B9 dL_sum_130 k) ?_
      refine pw_l (fun _ _ _ _ k => pm_ladd B9 dL_sum_131 k) ?_
      refine pw_l (fun _ _ _ _ k => pm_lstore_n B9 dL_sum_132 rfl rfl rfl k) ?_
      refine pw_l (fun _ _ _ _ k => pm_loc (L' := [some (.ref (z + 0)), some (.long (((43 * (((41 * (((37 * a1_1) + ((100 * (r (7 + 6 * j1 + 0))).toInt64)) + ((r (7 + 6 * j1 + 1)).toInt64))) + ((400 * (r (7 + 6 * j1 + 2))).toInt64)) + ((r (7 + 6 * j1 + 3)).toInt64))) + ((20 * (pw_wa r j1)).toInt64)) + ((pw_ba r j1).toInt64))), none, some (.int (nI j1)), none]) rfl k) ?_
      refine pw_l (fun _ _ _ _ k => pm_ldc2 (v := 47) B9 dL_sum_133 (pm_T_in 1525 (by decide +kernel) (by decide +kernel)) k) ?_
      refine pw_l (fun _ _ _ _ k => pm_lload_n B9 dL_sum_136 rfl k) ?_
      refine pw_l (fun _ _ _ _ k => pm_lmul B9 dL_sum_137 k) ?_
      refine pw_l (fun _ _ _ _ k => pm_bipush (v := 10) B9 dL_sum_138 (by decide) k) ?_
      refine pw_l (fun _ _ _ _ k => pm_aload_n B9 dL_sum_140 rfl k) ?_
      refine pw_l (fun _ _ _ _ k => pm_iload_n B9 dL_sum_141 rfl k) ?_
      refine pw_cSW (As := [.ref (z + 0), .int (nI j1)]) (c2 := (32 - (16) + (k1 * 32 + (32 + (266 - (10 + 8 * 32) + 0))))) (s2 := (192 - (96) + (k1 * 192 + (192 + (1596 - (60 + 8 * 192) + 0))))) B9 (pv_as (pv_L_drawnAt_in (i := j1) (by omega) hI.1.2.1) (b_L_drawnAt hI)) mt_L_drawnAt ss_L_229 dL_sum_142 rfl rfl rfl (by omega) (by omega) ?_
      refine pw_l (fun _ _ _ _ k => pm_stk (st' := [.int (pw_dr n r j1), .int 10, .long (47 * (((43 * (((41 * (((37 * a1_1) + ((100 * (r (7 + 6 * j1 + 0))).toInt64)) + ((r (7 + 6 * j1 + 1)).toInt64))) + ((400 * (r (7 + 6 * j1 + 2))).toInt64)) + ((r (7 + 6 * j1 + 3)).toInt64))) + ((20 * (pw_wa r j1)).toInt64)) + ((pw_ba r j1).toInt64)))]) rfl k) ?_
      refine pw_l (fun _ _ _ _ k => pm_imul B9 dL_sum_145 k) ?_
      refine pw_l (fun _ _ _ _ k => pm_i2l B9 dL_sum_146 k) ?_
      refine pw_l (fun _ _ _ _ k => pm_ladd B9 dL_sum_147 k) ?_
      refine pw_l (fun _ _ _ _ k => pm_lstore_n B9 dL_sum_148 rfl rfl rfl k) ?_
      refine pw_l (fun _ _ _ _ k => pm_loc (L' := [some (.ref (z + 0)), some (.long ((47 * (((43 * (((41 * (((37 * a1_1) + ((100 * (r (7 + 6 * j1 + 0))).toInt64)) + ((r (7 + 6 * j1 + 1)).toInt64))) + ((400 * (r (7 + 6 * j1 + 2))).toInt64)) + ((r (7 + 6 * j1 + 3)).toInt64))) + ((20 * (pw_wa r j1)).toInt64)) + ((pw_ba r j1).toInt64))) + ((10 * (pw_dr n r j1)).toInt64))), none, some (.int (nI j1)), none]) rfl k) ?_
      refine pw_l (fun _ _ _ _ k => pm_iconst (v := 0) B9 dL_sum_149 (by decide) k) ?_
      refine pw_l (fun _ _ _ _ k => pm_istore2 B9 dL_sum_150 rfl rfl k) ?_
      refine pw_l (fun _ _ _ _ k => pm_loc (L' := [some (.ref (z + 0)), some (.long ((47 * (((43 * (((41 * (((37 * a1_1) + ((100 * (r (7 + 6 * j1 + 0))).toInt64)) + ((r (7 + 6 * j1 + 1)).toInt64))) + ((400 * (r (7 + 6 * j1 + 2))).toInt64)) + ((r (7 + 6 * j1 + 3)).toInt64))) + ((20 * (pw_wa r j1)).toInt64)) + ((pw_ba r j1).toInt64))) + ((10 * (pw_dr n r j1)).toInt64))), none, some (.int (nI j1)), some (.int 0)]) rfl k) ?_
      refine pw_l (fun _ _ _ _ k => pm_loc (L' := [some (.ref (z + 0)), some (.long ((47 * (((43 * (((41 * (((37 * a1_1) + ((100 * (r (7 + 6 * j1 + 0))).toInt64)) + ((r (7 + 6 * j1 + 1)).toInt64))) + ((400 * (r (7 + 6 * j1 + 2))).toInt64)) + ((r (7 + 6 * j1 + 3)).toInt64))) + ((20 * (pw_wa r j1)).toInt64)) + ((pw_ba r j1).toInt64))) + ((10 * (pw_dr n r j1)).toInt64))), none, some (.int (nI j1)), some (.int (nI 0))]) (congrArg (fun yy : Int32 => ([some (.ref (z + 0)), some (.long ((47 * (((43 * (((41 * (((37 * a1_1) + ((100 * (r (7 + 6 * j1 + 0))).toInt64)) + ((r (7 + 6 * j1 + 1)).toInt64))) + ((400 * (r (7 + 6 * j1 + 2))).toInt64)) + ((r (7 + 6 * j1 + 3)).toInt64))) + ((20 * (pw_wa r j1)).toInt64)) + ((pw_ba r j1).toInt64))) + ((10 * (pw_dr n r j1)).toInt64))), none, some (.int (nI j1)), some (.int yy)] : List (Option Value))) rfl) k) ?_
      have hx2 : pw_J l z D X 266 1596 (pm_Q z D (pw_P (some (.long (v_L_sum n r))) (pw_W z kA kE (B, r, hs, u) ar)) 266 1596 X) (pw_W z kA kE (B, r, hs, u) ar) (32 - (16 + 8 * 2) + (k1 * 32 + (32 + (266 - (10 + 8 * 32) + 0)))) (192 - (96 + 8 * 12) + (k1 * 192 + (192 + (1596 - (60 + 8 * 192) + 0)))) 187 [some (.ref (z + 0)), some (.long (w_L_sum_2 r j1 ((47 * (((43 * (((41 * (((37 * a1_1) + ((100 * (r (7 + 6 * j1 + 0))).toInt64)) + ((r (7 + 6 * j1 + 1)).toInt64))) + ((400 * (r (7 + 6 * j1 + 2))).toInt64)) + ((r (7 + 6 * j1 + 3)).toInt64))) + ((20 * (pw_wa r j1)).toInt64)) + ((pw_ba r j1).toInt64))) + ((10 * (pw_dr n r j1)).toInt64)) j1)), none, some (.int (nI j1)), none] [] := by
        refine pw_l (fun _ _ _ _ k => pm_iinc2 B9 dL_sum_187 rfl rfl rfl k) ?_
        refine pw_l (fun _ _ _ _ k => pm_loc (L' := [some (.ref (z + 0)), some (.long (w_L_sum_2 r j1 ((47 * (((43 * (((41 * (((37 * a1_1) + ((100 * (r (7 + 6 * j1 + 0))).toInt64)) + ((r (7 + 6 * j1 + 1)).toInt64))) + ((400 * (r (7 + 6 * j1 + 2))).toInt64)) + ((r (7 + 6 * j1 + 3)).toInt64))) + ((20 * (pw_wa r j1)).toInt64)) + ((pw_ba r j1).toInt64))) + ((10 * (pw_dr n r j1)).toInt64)) j1)), none, some (.int (nI (j1 + 1))), none]) (by rw [show ((nI j1) : Int32) + Int32.ofInt 1 = (nI (j1 + 1)) from nI_1 _]; rfl) k) ?_
        refine pw_l (fun _ _ _ _ k => pm_goto (tgt := 55) B9 dL_sum_190 (by decide) k) ?_
        exact pw_cr (by omega) (by omega) (ih1 (j1 + 1) (by omega) _ (by subst ea1_1; rfl))
      have loop2 : ∀ k2 j2 : Nat, j2 + k2 = j1 → ∀ (a1_2 : Int64), a1_2 = (w_L_sum_2 r j1 ((47 * (((43 * (((41 * (((37 * a1_1) + ((100 * (r (7 + 6 * j1 + 0))).toInt64)) + ((r (7 + 6 * j1 + 1)).toInt64))) + ((400 * (r (7 + 6 * j1 + 2))).toInt64)) + ((r (7 + 6 * j1 + 3)).toInt64))) + ((20 * (pw_wa r j1)).toInt64)) + ((pw_ba r j1).toInt64))) + ((10 * (pw_dr n r j1)).toInt64)) j2) → pw_J l z D X 266 1596 (pm_Q z D (pw_P (some (.long (v_L_sum n r))) (pw_W z kA kE (B, r, hs, u) ar)) 266 1596 X) (pw_W z kA kE (B, r, hs, u) ar) (k2 * 2 + (2 + (32 - (16 + 8 * 2) + (k1 * 32 + (32 + (266 - (10 + 8 * 32) + 0)))))) (k2 * 12 + (12 + (192 - (96 + 8 * 12) + (k1 * 192 + (192 + (1596 - (60 + 8 * 192) + 0)))))) 152 [some (.ref (z + 0)), some (.long a1_2), none, some (.int (nI j1)), some (.int (nI j2))] [] := by
        intro k2
        induction k2 with
        | zero =>
          intro j2 hj2 a1_2 ea1_2
          have hjn2 : j2 = j1 := by omega
          refine pw_cr (c2 := (2 - (0) + (32 - (16 + 8 * 2) + (k1 * 32 + (32 + (266 - (10 + 8 * 32) + 0)))))) (s2 := (12 - (0) + (192 - (96 + 8 * 12) + (k1 * 192 + (192 + (1596 - (60 + 8 * 192) + 0)))))) (by omega) (by omega) ?_
          refine pw_l (fun _ _ _ _ k => pm_iload B9 dL_sum_152 rfl k) ?_
          refine pw_l (fun _ _ _ _ k => pm_iload_n B9 dL_sum_154 rfl k) ?_
          refine pw_l (fun _ _ _ _ k => pm_icmp_ge (tgt := 187) B9 dL_sum_155 (by decide) (fun _ => k) (fun h => absurd ((by rw [show (nI j1) = nI j1 from rfl, show (nI j2) = nI j2 from rfl]; exact (nI_leI (by omega) (by omega)).mpr (by omega))) h)) ?_
          refine pw_l (fun _ _ _ _ k => pm_wk (L' := [some (.ref (z + 0)), some (.long a1_2), none, some (.int (nI j1)), none]) ⟨rfl, ⟨rfl, ⟨rfl, trivial⟩⟩⟩ k) ?_
          exact pw_cr (by omega) (by omega) (pw_eq (by first | with_reducible rfl | simp only [ea1_2, hjn2]) (by first | with_reducible rfl | simp only [ea1_2, hjn2]) rfl hx2)
        | succ k2 ih2 =>
          intro j2 hj2 a1_2 ea1_2
          have hjn2 : j2 < j1 := by omega
          refine pw_cr (c2 := (2 - (0) + (k2 * 2 + (2 + (32 - (16 + 8 * 2) + (k1 * 32 + (32 + (266 - (10 + 8 * 32) + 0)))))))) (s2 := (12 - (0) + (k2 * 12 + (12 + (192 - (96 + 8 * 12) + (k1 * 192 + (192 + (1596 - (60 + 8 * 192) + 0)))))))) (by rw [Nat.succ_mul]; omega) (by rw [Nat.succ_mul]; omega) ?_
          refine pw_l (fun _ _ _ _ k => pm_iload B9 dL_sum_152 rfl k) ?_
          refine pw_l (fun _ _ _ _ k => pm_iload_n B9 dL_sum_154 rfl k) ?_
          refine pw_l (fun _ _ _ _ k => pm_icmp_ge (tgt := 187) B9 dL_sum_155 (by decide) (fun h => absurd h ((by rw [show (nI j1) = nI j1 from rfl, show (nI j2) = nI j2 from rfl]; exact fun e => absurd ((nI_leI (by omega) (by omega)).mp e) (by omega)))) (fun _ => k)) ?_
          refine pw_l (fun _ _ _ _ k => pm_ldc2 (v := 3) B9 dL_sum_158 (pm_T_in 1526 (by decide +kernel) (by decide +kernel)) k) ?_
          refine pw_l (fun _ _ _ _ k => pm_lload_n B9 dL_sum_161 rfl k) ?_
          refine pw_l (fun _ _ _ _ k => pm_lmul B9 dL_sum_162 k) ?_
          refine pw_l (fun _ _ _ _ k => pm_aload_n B9 dL_sum_163 rfl k) ?_
          refine pw_l (fun _ _ _ _ k => pm_iload_n B9 dL_sum_164 rfl k) ?_
          refine pw_l (fun _ _ _ _ k => pm_iload B9 dL_sum_165 rfl k) ?_
          refine pw_cV (As := [.int (nI j1), .int (nI j2)]) (c2 := (2 - (2) + (k2 * 2 + (2 + (32 - (16 + 8 * 2) + (k1 * 32 + (32 + (266 - (10 + 8 * 32) + 0)))))))) (s2 := (12 - (12) + (k2 * 12 + (12 + (192 - (96 + 8 * 12) + (k1 * 192 + (192 + (1596 - (60 + 8 * 192) + 0)))))))) B9 (fun _ _ hW => pw_0 hW) rfl (a_X12_areLinked hI (i := j1) (j := j2) (by omega) (by omega)) mt_X12_areLinked sv_L_82 dL_sum_167 rfl rfl rfl (by omega) (by omega) ?_
          refine pw_l (fun _ _ _ _ k => pm_stk (st' := [.int (pw_lk r j1 j2), .long (3 * a1_2)]) rfl k) ?_
          suffices hj5 : pw_J l z D X 266 1596 (pm_Q z D (pw_P (some (.long (v_L_sum n r))) (pw_W z kA kE (B, r, hs, u) ar)) 266 1596 X) (pw_W z kA kE (B, r, hs, u) ar) (2 - (2) + (k2 * 2 + (2 + (32 - (16 + 8 * 2) + (k1 * 32 + (32 + (266 - (10 + 8 * 32) + 0))))))) (12 - (12) + (k2 * 12 + (12 + (192 - (96 + 8 * 12) + (k1 * 192 + (192 + (1596 - (60 + 8 * 192) + 0))))))) 178 [some (.ref (z + 0)), none, none, some (.int (nI j1)), some (.int (nI j2))] [.int ((if (pw_lk r j1 j2) = 0 then 0 else 1) : Int32), .long (3 * a1_2)] by
            refine pw_l2 (fun _ _ _ _ k1 k2 => pm_if_eq (tgt := 177) B9 dL_sum_170 (by decide) k1 k2) (fun hq6 => ?_) (fun hq6 => ?_)
            · refine pw_l (fun _ _ _ _ k => pm_iconst (v := 0) B9 dL_sum_177 (by decide) k) ?_
              refine pw_l (fun _ _ _ _ k => pm_wk (L' := [some (.ref (z + 0)), none, none, some (.int (nI j1)), some (.int (nI j2))]) ⟨rfl, ⟨rfl, ⟨rfl, trivial⟩⟩⟩ k) ?_
              exact pw_cr (by omega) (by omega) (pw_eq (by first | with_reducible rfl | simp only [if_pos hq6]) (by first | with_reducible rfl | simp only [if_pos hq6]) (by first | with_reducible rfl | simp only [if_pos hq6]) hj5)
            · refine pw_l (fun _ _ _ _ k => pm_iconst (v := 1) B9 dL_sum_173 (by decide) k) ?_
              refine pw_l (fun _ _ _ _ k => pm_goto (tgt := 178) B9 dL_sum_174 (by decide) k) ?_
              refine pw_l (fun _ _ _ _ k => pm_wk (L' := [some (.ref (z + 0)), none, none, some (.int (nI j1)), some (.int (nI j2))]) ⟨rfl, ⟨rfl, ⟨rfl, trivial⟩⟩⟩ k) ?_
              exact pw_cr (by omega) (by omega) (pw_eq (by first | with_reducible rfl | simp only [if_neg hq6]) (by first | with_reducible rfl | simp only [if_neg hq6]) (by first | with_reducible rfl | simp only [if_neg hq6]) hj5)
          refine pw_l (fun _ _ _ _ k => pm_i2l B9 dL_sum_178 k) ?_
          refine pw_l (fun _ _ _ _ k => pm_ladd B9 dL_sum_179 k) ?_
          refine pw_l (fun _ _ _ _ k => pm_lstore_n B9 dL_sum_180 rfl rfl rfl k) ?_
          refine pw_l (fun _ _ _ _ k => pm_loc (L' := [some (.ref (z + 0)), some (.long ((3 * a1_2) + (((if (pw_lk r j1 j2) = 0 then 0 else 1) : Int32).toInt64))), none, some (.int (nI j1)), some (.int (nI j2))]) rfl k) ?_
          refine pw_l (fun _ _ _ _ k => pm_iinc2 B9 dL_sum_181 rfl rfl rfl k) ?_
          refine pw_l (fun _ _ _ _ k => pm_loc (L' := [some (.ref (z + 0)), some (.long ((3 * a1_2) + (((if (pw_lk r j1 j2) = 0 then 0 else 1) : Int32).toInt64))), none, some (.int (nI j1)), some (.int (nI (j2 + 1)))]) (by rw [show ((nI j2) : Int32) + Int32.ofInt 1 = (nI (j2 + 1)) from nI_1 _]; rfl) k) ?_
          refine pw_l (fun _ _ _ _ k => pm_goto (tgt := 152) B9 dL_sum_184 (by decide) k) ?_
          exact pw_cr (by omega) (by omega) (ih2 (j2 + 1) (by omega) _ (by subst ea1_2; rfl))
      exact pw_cr (by omega) (by omega) (loop2 j1 0 (by omega) _ rfl)
  exact pw_cr (by omega) (by omega) (loop1 n 0 (by omega) _ rfl)
