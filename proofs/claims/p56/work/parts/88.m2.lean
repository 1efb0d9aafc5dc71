def w_L_coalitions_3 (n : Nat) (r : (Nat → Int32)) (j1 : Nat) (x0 : (Nat → Int32)) : Nat → ((Nat → Int32))
  | 0 => x0
  | j3 + 1 => (upd (w_L_coalitions_3 n r j1 x0 j3) j3 (((w_L_coalitions_3 n r j1 x0 j3) j3) + ((if (((nI j1) >>> ((nI j3) &&& 31)) &&& 1) = 1 then (if ((if (w_L_votesOf_1 r (nI j1) 0 n) < (r 3) then 0 else 1) : Int32) = 0 then 0 else (if (r 3) ≤ (w_L_votesOf_1 r ((nI j1) &&& ((1 <<< ((nI j3) &&& 31)) ^^^ (-1))) 0 n) then 0 else 1)) else 0) : Int32)))
def w_L_coalitions_1 (n : Nat) (r : (Nat → Int32)) (x0 : Int32) (x1 : Int32) (x2 : (Nat → Int32)) : Nat → (Int32 × Int32 × (Nat → Int32))
  | 0 => (x0, x1, x2)
  | j1 + 1 => (((if ((nI j1) &&& ((w_L_activeSet_1 r 0 n) ^^^ (-1))) = 0 then ((w_L_coalitions_1 n r x0 x1 x2 j1).1 + ((if ((if (w_L_votesOf_1 r (nI j1) 0 n) < (r 3) then 0 else 1) : Int32) = 0 then 0 else 1) : Int32)) else (w_L_coalitions_1 n r x0 x1 x2 j1).1) : Int32), ((if ((nI j1) &&& ((w_L_activeSet_1 r 0 n) ^^^ (-1))) = 0 then (pm_min (w_L_coalitions_1 n r x0 x1 x2 j1).2.1 (pm_abs ((w_L_votesOf_1 r (w_L_activeSet_1 r 0 n) 0 n) - (2 * (w_L_votesOf_1 r (nI j1) 0 n))))) else (w_L_coalitions_1 n r x0 x1 x2 j1).2.1) : Int32), ((if ((nI j1) &&& ((w_L_activeSet_1 r 0 n) ^^^ (-1))) = 0 then (w_L_coalitions_3 n r j1 (w_L_coalitions_1 n r x0 x1 x2 j1).2.2 n) else (w_L_coalitions_1 n r x0 x1 x2 j1).2.2) : (Nat → Int32)))
theorem pw_co1 {B n k : Nat} {r : Nat → Int32} (hI : pm_I B n r) (hk : k < n) : pw_sw n r k = ((if (((w_L_activeSet_1 r 0 n) >>> ((nI k) &&& 31)) &&& 1) = 1 then ((w_L_coalitions_1 n r 0 (w_L_votesOf_1 r (w_L_activeSet_1 r 0 n) 0 n) (fun _ => 0) (2 ^ n)).2.2 k) else (-13)) : Int32) := sorry
theorem pw_co2 {B n : Nat} {r : Nat → Int32} (hI : pm_I B n r) : d_X11_winners n r = (w_L_coalitions_1 n r 0 (w_L_votesOf_1 r (w_L_activeSet_1 r 0 n) 0 n) (fun _ => 0) (2 ^ n)).1 := sorry
theorem pw_co3 {B n : Nat} {r : Nat → Int32} (hI : pm_I B n r) : d_X11_differenceBySets n r = (w_L_coalitions_1 n r 0 (w_L_votesOf_1 r (w_L_activeSet_1 r 0 n) 0 n) (fun _ => 0) (2 ^ n)).2.1 := sorry
/-! the law: coalitions -/
theorem dL_coalitions_0 : decode cL_coalitions 0 = .ok (.aload_n 0, 1) := by decide +kernel
theorem dL_coalitions_1 : decode cL_coalitions 1 = .ok (.invokestatic 180, 3) := by decide +kernel
theorem dL_coalitions_4 : decode cL_coalitions 4 = .ok (.istore_n 1, 1) := by decide +kernel
theorem dL_coalitions_5 : decode cL_coalitions 5 = .ok (.aload_n 0, 1) := by decide +kernel
theorem dL_coalitions_6 : decode cL_coalitions 6 = .ok (.iload_n 1, 1) := by decide +kernel
theorem dL_coalitions_7 : decode cL_coalitions 7 = .ok (.invokestatic 287, 3) := by decide +kernel
theorem dL_coalitions_10 : decode cL_coalitions 10 = .ok (.istore_n 2, 1) := by decide +kernel
theorem dL_coalitions_11 : decode cL_coalitions 11 = .ok (.iconst 0, 1) := by decide +kernel
theorem dL_coalitions_12 : decode cL_coalitions 12 = .ok (.istore_n 3, 1) := by decide +kernel
theorem dL_coalitions_13 : decode cL_coalitions 13 = .ok (.iload_n 2, 1) := by decide +kernel
theorem dL_coalitions_14 : decode cL_coalitions 14 = .ok (.istore 4, 2) := by decide +kernel
theorem dL_coalitions_16 : decode cL_coalitions 16 = .ok (.bipush 7, 2) := by decide +kernel
theorem dL_coalitions_18 : decode cL_coalitions 18 = .ok (.newarray .int, 2) := by decide +kernel
theorem dL_coalitions_20 : decode cL_coalitions 20 = .ok (.astore 5, 2) := by decide +kernel
theorem dL_coalitions_22 : decode cL_coalitions 22 = .ok (.aload_n 0, 1) := by decide +kernel
theorem dL_coalitions_23 : decode cL_coalitions 23 = .ok (.invokestatic 290, 3) := by decide +kernel
theorem dL_coalitions_26 : decode cL_coalitions 26 = .ok (.istore 6, 2) := by decide +kernel
theorem dL_coalitions_28 : decode cL_coalitions 28 = .ok (.iconst 0, 1) := by decide +kernel
theorem dL_coalitions_29 : decode cL_coalitions 29 = .ok (.istore 7, 2) := by decide +kernel
theorem dL_coalitions_31 : decode cL_coalitions 31 = .ok (.iload 7, 2) := by decide +kernel
theorem dL_coalitions_33 : decode cL_coalitions 33 = .ok (.iconst 1, 1) := by decide +kernel
theorem dL_coalitions_34 : decode cL_coalitions 34 = .ok (.aload_n 0, 1) := by decide +kernel
theorem dL_coalitions_35 : decode cL_coalitions 35 = .ok (.invokevirtual 177, 3) := by decide +kernel
theorem dL_coalitions_38 : decode cL_coalitions 38 = .ok (.ishl, 1) := by decide +kernel
theorem dL_coalitions_39 : decode cL_coalitions 39 = .ok (.if_icmp .ge 134, 3) := by decide +kernel
theorem dL_coalitions_42 : decode cL_coalitions 42 = .ok (.iload 7, 2) := by decide +kernel
theorem dL_coalitions_44 : decode cL_coalitions 44 = .ok (.iload_n 1, 1) := by decide +kernel
theorem dL_coalitions_45 : decode cL_coalitions 45 = .ok (.iconst (-1), 1) := by decide +kernel
theorem dL_coalitions_46 : decode cL_coalitions 46 = .ok (.ixor, 1) := by decide +kernel
theorem dL_coalitions_47 : decode cL_coalitions 47 = .ok (.iand, 1) := by decide +kernel
theorem dL_coalitions_48 : decode cL_coalitions 48 = .ok (.ifCond .ne 119, 3) := by decide +kernel
theorem dL_coalitions_51 : decode cL_coalitions 51 = .ok (.aload_n 0, 1) := by decide +kernel
theorem dL_coalitions_52 : decode cL_coalitions 52 = .ok (.iload 7, 2) := by decide +kernel
theorem dL_coalitions_54 : decode cL_coalitions 54 = .ok (.invokestatic 287, 3) := by decide +kernel
theorem dL_coalitions_57 : decode cL_coalitions 57 = .ok (.iload 6, 2) := by decide +kernel
theorem dL_coalitions_59 : decode cL_coalitions 59 = .ok (.if_icmp .lt 7, 3) := by decide +kernel
theorem dL_coalitions_62 : decode cL_coalitions 62 = .ok (.iconst 1, 1) := by decide +kernel
theorem dL_coalitions_63 : decode cL_coalitions 63 = .ok (.goto 4, 3) := by decide +kernel
theorem dL_coalitions_66 : decode cL_coalitions 66 = .ok (.iconst 0, 1) := by decide +kernel
theorem dL_coalitions_67 : decode cL_coalitions 67 = .ok (.istore 8, 2) := by decide +kernel
theorem dL_coalitions_69 : decode cL_coalitions 69 = .ok (.iload_n 3, 1) := by decide +kernel
theorem dL_coalitions_70 : decode cL_coalitions 70 = .ok (.iload 8, 2) := by decide +kernel
theorem dL_coalitions_72 : decode cL_coalitions 72 = .ok (.ifCond .eq 7, 3) := by decide +kernel
theorem dL_coalitions_75 : decode cL_coalitions 75 = .ok (.iconst 1, 1) := by decide +kernel
theorem dL_coalitions_76 : decode cL_coalitions 76 = .ok (.goto 4, 3) := by decide +kernel
theorem dL_coalitions_79 : decode cL_coalitions 79 = .ok (.iconst 0, 1) := by decide +kernel
theorem dL_coalitions_80 : decode cL_coalitions 80 = .ok (.iadd, 1) := by decide +kernel
theorem dL_coalitions_81 : decode cL_coalitions 81 = .ok (.istore_n 3, 1) := by decide +kernel
theorem dL_coalitions_82 : decode cL_coalitions 82 = .ok (.iload 4, 2) := by decide +kernel
theorem dL_coalitions_84 : decode cL_coalitions 84 = .ok (.iload_n 2, 1) := by decide +kernel
theorem dL_coalitions_85 : decode cL_coalitions 85 = .ok (.iconst 2, 1) := by decide +kernel
theorem dL_coalitions_86 : decode cL_coalitions 86 = .ok (.aload_n 0, 1) := by decide +kernel
theorem dL_coalitions_87 : decode cL_coalitions 87 = .ok (.iload 7, 2) := by decide +kernel
theorem dL_coalitions_89 : decode cL_coalitions 89 = .ok (.invokestatic 287, 3) := by decide +kernel
theorem dL_coalitions_92 : decode cL_coalitions 92 = .ok (.imul, 1) := by decide +kernel
theorem dL_coalitions_93 : decode cL_coalitions 93 = .ok (.isub, 1) := by decide +kernel
theorem dL_coalitions_94 : decode cL_coalitions 94 = .ok (.invokestatic 293, 3) := by decide +kernel
theorem dL_coalitions_97 : decode cL_coalitions 97 = .ok (.invokestatic 275, 3) := by decide +kernel
theorem dL_coalitions_100 : decode cL_coalitions 100 = .ok (.istore 4, 2) := by decide +kernel
theorem dL_coalitions_102 : decode cL_coalitions 102 = .ok (.iconst 0, 1) := by decide +kernel
theorem dL_coalitions_103 : decode cL_coalitions 103 = .ok (.istore 9, 2) := by decide +kernel
theorem dL_coalitions_105 : decode cL_coalitions 105 = .ok (.iload 9, 2) := by decide +kernel
theorem dL_coalitions_107 : decode cL_coalitions 107 = .ok (.aload_n 0, 1) := by decide +kernel
theorem dL_coalitions_108 : decode cL_coalitions 108 = .ok (.invokevirtual 177, 3) := by decide +kernel
theorem dL_coalitions_111 : decode cL_coalitions 111 = .ok (.if_icmp .ge 56, 3) := by decide +kernel
theorem dL_coalitions_114 : decode cL_coalitions 114 = .ok (.aload 5, 2) := by decide +kernel
theorem dL_coalitions_116 : decode cL_coalitions 116 = .ok (.iload 9, 2) := by decide +kernel
theorem dL_coalitions_118 : decode cL_coalitions 118 = .ok (.dup2, 1) := by decide +kernel
theorem dL_coalitions_119 : decode cL_coalitions 119 = .ok (.iaload, 1) := by decide +kernel
theorem dL_coalitions_120 : decode cL_coalitions 120 = .ok (.iload 7, 2) := by decide +kernel
theorem dL_coalitions_122 : decode cL_coalitions 122 = .ok (.iload 9, 2) := by decide +kernel
theorem dL_coalitions_124 : decode cL_coalitions 124 = .ok (.ishr, 1) := by decide +kernel
theorem dL_coalitions_125 : decode cL_coalitions 125 = .ok (.iconst 1, 1) := by decide +kernel
theorem dL_coalitions_126 : decode cL_coalitions 126 = .ok (.iand, 1) := by decide +kernel
theorem dL_coalitions_127 : decode cL_coalitions 127 = .ok (.iconst 1, 1) := by decide +kernel
theorem dL_coalitions_128 : decode cL_coalitions 128 = .ok (.if_icmp .ne 30, 3) := by decide +kernel
theorem dL_coalitions_131 : decode cL_coalitions 131 = .ok (.iload 8, 2) := by decide +kernel
theorem dL_coalitions_133 : decode cL_coalitions 133 = .ok (.ifCond .eq 25, 3) := by decide +kernel
theorem dL_coalitions_136 : decode cL_coalitions 136 = .ok (.aload_n 0, 1) := by decide +kernel
theorem dL_coalitions_137 : decode cL_coalitions 137 = .ok (.iload 7, 2) := by decide +kernel
theorem dL_coalitions_139 : decode cL_coalitions 139 = .ok (.iconst 1, 1) := by decide +kernel
theorem dL_coalitions_140 : decode cL_coalitions 140 = .ok (.iload 9, 2) := by decide +kernel
theorem dL_coalitions_142 : decode cL_coalitions 142 = .ok (.ishl, 1) := by decide +kernel
theorem dL_coalitions_143 : decode cL_coalitions 143 = .ok (.iconst (-1), 1) := by decide +kernel
theorem dL_coalitions_144 : decode cL_coalitions 144 = .ok (.ixor, 1) := by decide +kernel
theorem dL_coalitions_145 : decode cL_coalitions 145 = .ok (.iand, 1) := by decide +kernel
theorem dL_coalitions_146 : decode cL_coalitions 146 = .ok (.invokestatic 287, 3) := by decide +kernel
theorem dL_coalitions_149 : decode cL_coalitions 149 = .ok (.iload 6, 2) := by decide +kernel
theorem dL_coalitions_151 : decode cL_coalitions 151 = .ok (.if_icmp .ge 7, 3) := by decide +kernel
theorem dL_coalitions_154 : decode cL_coalitions 154 = .ok (.iconst 1, 1) := by decide +kernel
theorem dL_coalitions_155 : decode cL_coalitions 155 = .ok (.goto 4, 3) := by decide +kernel
theorem dL_coalitions_158 : decode cL_coalitions 158 = .ok (.iconst 0, 1) := by decide +kernel
theorem dL_coalitions_159 : decode cL_coalitions 159 = .ok (.iadd, 1) := by decide +kernel
theorem dL_coalitions_160 : decode cL_coalitions 160 = .ok (.iastore, 1) := by decide +kernel
theorem dL_coalitions_161 : decode cL_coalitions 161 = .ok (.iinc 9 1, 3) := by decide +kernel
theorem dL_coalitions_164 : decode cL_coalitions 164 = .ok (.goto (-59), 3) := by decide +kernel
theorem dL_coalitions_167 : decode cL_coalitions 167 = .ok (.iinc 7 1, 3) := by decide +kernel
theorem dL_coalitions_170 : decode cL_coalitions 170 = .ok (.goto (-139), 3) := by decide +kernel
theorem dL_coalitions_173 : decode cL_coalitions 173 = .ok (.iconst 0, 1) := by decide +kernel
theorem dL_coalitions_174 : decode cL_coalitions 174 = .ok (.istore 7, 2) := by decide +kernel
theorem dL_coalitions_176 : decode cL_coalitions 176 = .ok (.iload 7, 2) := by decide +kernel
theorem dL_coalitions_178 : decode cL_coalitions 178 = .ok (.aload_n 0, 1) := by decide +kernel
theorem dL_coalitions_179 : decode cL_coalitions 179 = .ok (.invokevirtual 177, 3) := by decide +kernel
theorem dL_coalitions_182 : decode cL_coalitions 182 = .ok (.if_icmp .ge 55, 3) := by decide +kernel
theorem dL_coalitions_185 : decode cL_coalitions 185 = .ok (.iload_n 1, 1) := by decide +kernel
theorem dL_coalitions_186 : decode cL_coalitions 186 = .ok (.iload 7, 2) := by decide +kernel
theorem dL_coalitions_188 : decode cL_coalitions 188 = .ok (.ishr, 1) := by decide +kernel
theorem dL_coalitions_189 : decode cL_coalitions 189 = .ok (.iconst 1, 1) := by decide +kernel
theorem dL_coalitions_190 : decode cL_coalitions 190 = .ok (.iand, 1) := by decide +kernel
theorem dL_coalitions_191 : decode cL_coalitions 191 = .ok (.iconst 1, 1) := by decide +kernel
theorem dL_coalitions_192 : decode cL_coalitions 192 = .ok (.if_icmp .ne 11, 3) := by decide +kernel
theorem dL_coalitions_195 : decode cL_coalitions 195 = .ok (.aload 5, 2) := by decide +kernel
theorem dL_coalitions_197 : decode cL_coalitions 197 = .ok (.iload 7, 2) := by decide +kernel
theorem dL_coalitions_199 : decode cL_coalitions 199 = .ok (.iaload, 1) := by decide +kernel
theorem dL_coalitions_200 : decode cL_coalitions 200 = .ok (.goto 5, 3) := by decide +kernel
theorem dL_coalitions_203 : decode cL_coalitions 203 = .ok (.bipush (-13), 2) := by decide +kernel
theorem dL_coalitions_205 : decode cL_coalitions 205 = .ok (.istore 8, 2) := by decide +kernel
theorem dL_coalitions_207 : decode cL_coalitions 207 = .ok (.aload_n 0, 1) := by decide +kernel
theorem dL_coalitions_208 : decode cL_coalitions 208 = .ok (.iload 7, 2) := by decide +kernel
theorem dL_coalitions_210 : decode cL_coalitions 210 = .ok (.invokestatic 296, 3) := by decide +kernel
theorem dL_coalitions_213 : decode cL_coalitions 213 = .ok (.iload 8, 2) := by decide +kernel
theorem dL_coalitions_215 : decode cL_coalitions 215 = .ok (.if_icmp .ne 14, 3) := by decide +kernel
theorem dL_coalitions_218 : decode cL_coalitions 218 = .ok (.aload_n 0, 1) := by decide +kernel
theorem dL_coalitions_219 : decode cL_coalitions 219 = .ok (.iload 7, 2) := by decide +kernel
theorem dL_coalitions_221 : decode cL_coalitions 221 = .ok (.invokestatic 298, 3) := by decide +kernel
theorem dL_coalitions_224 : decode cL_coalitions 224 = .ok (.iload 8, 2) := by decide +kernel
theorem dL_coalitions_226 : decode cL_coalitions 226 = .ok (.if_icmp .eq 5, 3) := by decide +kernel
theorem dL_coalitions_229 : decode cL_coalitions 229 = .ok (.iconst 0, 1) := by decide +kernel
theorem dL_coalitions_230 : decode cL_coalitions 230 = .ok (.ireturn, 1) := by decide +kernel
theorem dL_coalitions_231 : decode cL_coalitions 231 = .ok (.iinc 7 1, 3) := by decide +kernel
theorem dL_coalitions_234 : decode cL_coalitions 234 = .ok (.goto (-58), 3) := by decide +kernel
theorem dL_coalitions_237 : decode cL_coalitions 237 = .ok (.aload_n 0, 1) := by decide +kernel
theorem dL_coalitions_238 : decode cL_coalitions 238 = .ok (.invokevirtual 301, 3) := by decide +kernel
theorem dL_coalitions_241 : decode cL_coalitions 241 = .ok (.iload_n 3, 1) := by decide +kernel
theorem dL_coalitions_242 : decode cL_coalitions 242 = .ok (.if_icmp .ne 48, 3) := by decide +kernel
theorem dL_coalitions_245 : decode cL_coalitions 245 = .ok (.aload_n 0, 1) := by decide +kernel
theorem dL_coalitions_246 : decode cL_coalitions 246 = .ok (.invokevirtual 304, 3) := by decide +kernel
theorem dL_coalitions_249 : decode cL_coalitions 249 = .ok (.iload 4, 2) := by decide +kernel
theorem dL_coalitions_251 : decode cL_coalitions 251 = .ok (.if_icmp .ne 39, 3) := by decide +kernel
theorem dL_coalitions_254 : decode cL_coalitions 254 = .ok (.aload_n 0, 1) := by decide +kernel
theorem dL_coalitions_255 : decode cL_coalitions 255 = .ok (.invokevirtual 307, 3) := by decide +kernel
theorem dL_coalitions_258 : decode cL_coalitions 258 = .ok (.iload 4, 2) := by decide +kernel
theorem dL_coalitions_260 : decode cL_coalitions 260 = .ok (.if_icmp .ne 30, 3) := by decide +kernel
theorem dL_coalitions_263 : decode cL_coalitions 263 = .ok (.aload_n 0, 1) := by decide +kernel
theorem dL_coalitions_264 : decode cL_coalitions 264 = .ok (.aload_n 0, 1) := by decide +kernel
theorem dL_coalitions_265 : decode cL_coalitions 265 = .ok (.invokevirtual 177, 3) := by decide +kernel
theorem dL_coalitions_268 : decode cL_coalitions 268 = .ok (.invokestatic 296, 3) := by decide +kernel
theorem dL_coalitions_271 : decode cL_coalitions 271 = .ok (.bipush (-11), 2) := by decide +kernel
theorem dL_coalitions_273 : decode cL_coalitions 273 = .ok (.if_icmp .ne 17, 3) := by decide +kernel
theorem dL_coalitions_276 : decode cL_coalitions 276 = .ok (.aload_n 0, 1) := by decide +kernel
theorem dL_coalitions_277 : decode cL_coalitions 277 = .ok (.iconst (-1), 1) := by decide +kernel
theorem dL_coalitions_278 : decode cL_coalitions 278 = .ok (.invokestatic 298, 3) := by decide +kernel
theorem dL_coalitions_281 : decode cL_coalitions 281 = .ok (.bipush (-11), 2) := by decide +kernel
theorem dL_coalitions_283 : decode cL_coalitions 283 = .ok (.if_icmp .ne 7, 3) := by decide +kernel
theorem dL_coalitions_286 : decode cL_coalitions 286 = .ok (.iconst 1, 1) := by decide +kernel
theorem dL_coalitions_287 : decode cL_coalitions 287 = .ok (.goto 4, 3) := by decide +kernel
theorem dL_coalitions_290 : decode cL_coalitions 290 = .ok (.iconst 0, 1) := by decide +kernel
theorem dL_coalitions_291 : decode cL_coalitions 291 = .ok (.ireturn, 1) := by decide +kernel
theorem mt_L_coalitions : pm_Mt yL_coalitions cL_coalitions 10 (some .boolean) 1 := ⟨pm_T_in 1030 (by decide +kernel) (by decide +kernel), pm_T_in 34 (by decide +kernel) (by decide +kernel), ⟨by decide +kernel, by decide +kernel, by decide +kernel⟩, by decide +kernel, by decide⟩
set_option maxRecDepth 100000 in
set_option maxHeartbeats 8000000 in
theorem c_L_coalitions {l : Launch} {z : Nat} {D : va_G} {kA : Nat → ClassId} {kE : Nat → Nat} {B n : Nat} {r : Nat → Int32} {hs : List (Nat → Int32)} {u : Nat × List Nat} {ar : List (Nat × va_E)}  (hI : pm_I B n r) : ∀ nx M, (pw_W z kA kE (B, r, hs, u) ar) nx M → pm_C l z D kA kE yL_coalitions cL_coalitions 10 (some .boolean) 60 43733 262387 [.ref (z + 0)] nx M (pw_P (some (.int 1)) (fun nx M => ∃ hs', pw_W z kA kE (B + 693, r, hs', u) ar nx M)) := by
  refine pw_mk (own := RL) (nm := "coalitions") mt_L_coalitions rfl rfl rfl rfl fun X B9 => ?_
  have h7 : n ≤ 7 := hI.1.2.1
  have h128 : 2 ^ n ≤ 128 := pm_p7 h7
  refine pw_l (fun _ _ _ _ k => pm_loc (L' := [some (.ref (z + 0)), none, none, none, none, none, none, none, none, none]) rfl k) ?_
  refine pw_l (fun _ _ _ _ k => pm_aload_n B9 dL_coalitions_0 rfl k) ?_
  refine pw_cS (As := [.ref (z + 0)]) (c2 := (43733 - (32) + 0)) (s2 := (262387 - (192) + 0)) B9 (c_L_activeSet hI) mt_L_activeSet ss_L_180 dL_coalitions_1 rfl rfl rfl (by omega) (by omega) ?_
  refine pw_l (fun _ _ _ _ k => pm_stk (st' := [.int (w_L_activeSet_1 r 0 n)]) rfl k) ?_
  refine pw_l (fun _ _ _ _ k => pm_istore_n B9 dL_coalitions_4 rfl rfl k) ?_
  refine pw_l (fun _ _ _ _ k => pm_loc (L' := [some (.ref (z + 0)), some (.int (w_L_activeSet_1 r 0 n)), none, none, none, none, none, none, none, none]) rfl k) ?_
  refine pw_l (fun _ _ _ _ k => pm_aload_n B9 dL_coalitions_5 rfl k) ?_
  refine pw_l (fun _ _ _ _ k => pm_iload_n B9 dL_coalitions_6 rfl k) ?_
  refine pw_cS (As := [.ref (z + 0), .int (w_L_activeSet_1 r 0 n)]) (c2 := (43733 - (64) + 0)) (s2 := (262387 - (384) + 0)) B9 (c_L_votesOf (x := (w_L_activeSet_1 r 0 n)) hI) mt_L_votesOf ss_L_287 dL_coalitions_7 rfl rfl rfl (by omega) (by omega) ?_
  refine pw_l (fun _ _ _ _ k => pm_stk (st' := [.int (w_L_votesOf_1 r (w_L_activeSet_1 r 0 n) 0 n)]) rfl k) ?_
  refine pw_l (fun _ _ _ _ k => pm_istore_n B9 dL_coalitions_10 rfl rfl k) ?_
  refine pw_l (fun _ _ _ _ k => pm_loc (L' := [some (.ref (z + 0)), some (.int (w_L_activeSet_1 r 0 n)), some (.int (w_L_votesOf_1 r (w_L_activeSet_1 r 0 n) 0 n)), none, none, none, none, none, none, none]) rfl k) ?_
  refine pw_l (fun _ _ _ _ k => pm_iconst (v := 0) B9 dL_coalitions_11 (by decide) k) ?_
  refine pw_l (fun _ _ _ _ k => pm_istore_n B9 dL_coalitions_12 rfl rfl k) ?_
  refine pw_l (fun _ _ _ _ k => pm_loc (L' := [some (.ref (z + 0)), some (.int (w_L_activeSet_1 r 0 n)), some (.int (w_L_votesOf_1 r (w_L_activeSet_1 r 0 n) 0 n)), some (.int 0), none, none, none, none, none, none]) rfl k) ?_
  refine pw_l (fun _ _ _ _ k => pm_iload_n B9 dL_coalitions_13 rfl k) ?_
  refine pw_l (fun _ _ _ _ k => pm_istore B9 dL_coalitions_14 rfl rfl k) ?_
  refine pw_l (fun _ _ _ _ k => pm_loc (L' := [some (.ref (z + 0)), some (.int (w_L_activeSet_1 r 0 n)), some (.int (w_L_votesOf_1 r (w_L_activeSet_1 r 0 n) 0 n)), some (.int 0), some (.int (w_L_votesOf_1 r (w_L_activeSet_1 r 0 n) 0 n)), none, none, none, none, none]) rfl k) ?_
  refine pw_l (fun _ _ _ _ k => pm_bipush (v := 7) B9 dL_coalitions_16 (by decide) k) ?_
  refine pw_newi (c2 := (43733 - (65) + 0)) (s2 := (262387 - (391) + 0)) (N := 7) B9 dL_coalitions_18 rfl rfl (by omega) (by omega) (fun w1 hw1 => ?_)
  refine pw_l (fun _ _ _ _ k => pm_astore B9 dL_coalitions_20 rfl rfl k) ?_
  refine pw_l (fun _ _ _ _ k => pm_loc (L' := [some (.ref (z + 0)), some (.int (w_L_activeSet_1 r 0 n)), some (.int (w_L_votesOf_1 r (w_L_activeSet_1 r 0 n) 0 n)), some (.int 0), some (.int (w_L_votesOf_1 r (w_L_activeSet_1 r 0 n) 0 n)), some (.ref (z + w1)), none, none, none, none]) rfl k) ?_
  refine pw_l (fun _ _ _ _ k => pm_aload_n B9 dL_coalitions_22 rfl k) ?_
  refine pw_cS (As := [.ref (z + 0)]) (c2 := (43733 - (71) + 0)) (s2 := (262387 - (415) + 0)) B9 (c_L_thresholdOf hI) mt_L_thresholdOf ss_L_290 dL_coalitions_23 rfl rfl rfl (by omega) (by omega) ?_
  refine pw_l (fun _ _ _ _ k => pm_stk (st' := [.int (r 3)]) rfl k) ?_
  refine pw_ex fun hs2 => ?_
  have hI := pm_I_le (C := B + 693) (by omega) hI
  refine pw_l (fun _ _ _ _ k => pm_istore B9 dL_coalitions_26 rfl rfl k) ?_
  refine pw_l (fun _ _ _ _ k => pm_loc (L' := [some (.ref (z + 0)), some (.int (w_L_activeSet_1 r 0 n)), some (.int (w_L_votesOf_1 r (w_L_activeSet_1 r 0 n) 0 n)), some (.int 0), some (.int (w_L_votesOf_1 r (w_L_activeSet_1 r 0 n) 0 n)), some (.ref (z + w1)), some (.int (r 3)), none, none, none]) rfl k) ?_
  refine pw_l (fun _ _ _ _ k => pm_iconst (v := 0) B9 dL_coalitions_28 (by decide) k) ?_
  refine pw_l (fun _ _ _ _ k => pm_istore B9 dL_coalitions_29 rfl rfl k) ?_
  refine pw_l (fun _ _ _ _ k => pm_loc (L' := [some (.ref (z + 0)), some (.int (w_L_activeSet_1 r 0 n)), some (.int (w_L_votesOf_1 r (w_L_activeSet_1 r 0 n) 0 n)), some (.int 0), some (.int (w_L_votesOf_1 r (w_L_activeSet_1 r 0 n) 0 n)), some (.ref (z + w1)), some (.int (r 3)), some (.int 0), none, none]) rfl k) ?_
  refine pw_l (fun _ _ _ _ k => pm_loc (L' := [some (.ref (z + 0)), some (.int (w_L_activeSet_1 r 0 n)), some (.int (w_L_votesOf_1 r (w_L_activeSet_1 r 0 n) 0 n)), some (.int 0), some (.int (w_L_votesOf_1 r (w_L_activeSet_1 r 0 n) 0 n)), some (.ref (z + w1)), some (.int (r 3)), some (.int (nI 0)), none, none]) (congrArg (fun yy : Int32 => ([some (.ref (z + 0)), some (.int (w_L_activeSet_1 r 0 n)), some (.int (w_L_votesOf_1 r (w_L_activeSet_1 r 0 n) 0 n)), some (.int 0), some (.int (w_L_votesOf_1 r (w_L_activeSet_1 r 0 n) 0 n)), some (.ref (z + w1)), some (.int (r 3)), some (.int yy), none, none] : List (Option Value))) rfl) k) ?_
  have hx1 : pw_J l z D X 43733 262387 (pm_Q z D (pw_P (some (.int 1)) (fun nx M => ∃ hs', pw_W z kA kE (B + 693, r, hs', u) ar nx M)) 43733 262387 X) (pw_W z kA kE (B + 693, r, hs2, u) ((w1, .inl (kA 0, 7, .inl ((w_L_coalitions_1 n r 0 (w_L_votesOf_1 r (w_L_activeSet_1 r 0 n) 0 n) (fun _ => 0) (2 ^ n)).2.2))) :: ar)) (43733 - (71 + 129 * 338) + 0) (262387 - (415 + 129 * 2028) + 0) 173 [some (.ref (z + 0)), some (.int (w_L_activeSet_1 r 0 n)), none, some (.int (w_L_coalitions_1 n r 0 (w_L_votesOf_1 r (w_L_activeSet_1 r 0 n) 0 n) (fun _ => 0) (2 ^ n)).1), some (.int (w_L_coalitions_1 n r 0 (w_L_votesOf_1 r (w_L_activeSet_1 r 0 n) 0 n) (fun _ => 0) (2 ^ n)).2.1), some (.ref (z + w1)), none, none, none, none] [] := by
    refine pw_l (fun _ _ _ _ k => pm_iconst (v := 0) B9 dL_coalitions_173 (by decide) k) ?_
    refine pw_l (fun _ _ _ _ k => pm_istore B9 dL_coalitions_174 rfl rfl k) ?_
    refine pw_l (fun _ _ _ _ k => pm_loc (L' := [some (.ref (z + 0)), some (.int (w_L_activeSet_1 r 0 n)), none, some (.int (w_L_coalitions_1 n r 0 (w_L_votesOf_1 r (w_L_activeSet_1 r 0 n) 0 n) (fun _ => 0) (2 ^ n)).1), some (.int (w_L_coalitions_1 n r 0 (w_L_votesOf_1 r (w_L_activeSet_1 r 0 n) 0 n) (fun _ => 0) (2 ^ n)).2.1), some (.ref (z + w1)), none, some (.int 0), none, none]) rfl k) ?_
    refine pw_l (fun _ _ _ _ k => pm_loc (L' := [some (.ref (z + 0)), some (.int (w_L_activeSet_1 r 0 n)), none, some (.int (w_L_coalitions_1 n r 0 (w_L_votesOf_1 r (w_L_activeSet_1 r 0 n) 0 n) (fun _ => 0) (2 ^ n)).1), some (.int (w_L_coalitions_1 n r 0 (w_L_votesOf_1 r (w_L_activeSet_1 r 0 n) 0 n) (fun _ => 0) (2 ^ n)).2.1), some (.ref (z + w1)), none, some (.int (nI 0)), none, none]) (congrArg (fun yy : Int32 => ([some (.ref (z + 0)), some (.int (w_L_activeSet_1 r 0 n)), none, some (.int (w_L_coalitions_1 n r 0 (w_L_votesOf_1 r (w_L_activeSet_1 r 0 n) 0 n) (fun _ => 0) (2 ^ n)).1), some (.int (w_L_coalitions_1 n r 0 (w_L_votesOf_1 r (w_L_activeSet_1 r 0 n) 0 n) (fun _ => 0) (2 ^ n)).2.1), some (.ref (z + w1)), none, some (.int yy), none, none] : List (Option Value))) rfl) k) ?_
    have hx2 : pw_J l z D X 43733 262387 (pm_Q z D (pw_P (some (.int 1)) (fun nx M => ∃ hs', pw_W z kA kE (B + 693, r, hs', u) ar nx M)) 43733 262387 X) (pw_W z kA kE (B + 693, r, hs2, u) ((w1, .inl (kA 0, 7, .inl ((w_L_coalitions_1 n r 0 (w_L_votesOf_1 r (w_L_activeSet_1 r 0 n) 0 n) (fun _ => 0) (2 ^ n)).2.2))) :: ar)) (43733 - (71 + 129 * 338 + 8 * 6) + 0) (262387 - (415 + 129 * 2028 + 8 * 36) + 0) 237 [some (.ref (z + 0)), none, none, some (.int (w_L_coalitions_1 n r 0 (w_L_votesOf_1 r (w_L_activeSet_1 r 0 n) 0 n) (fun _ => 0) (2 ^ n)).1), some (.int (w_L_coalitions_1 n r 0 (w_L_votesOf_1 r (w_L_activeSet_1 r 0 n) 0 n) (fun _ => 0) (2 ^ n)).2.1), none, none, none, none, none] [] := by
      refine pw_l (fun _ _ _ _ k => pm_aload_n B9 dL_coalitions_237 rfl k) ?_
      refine pw_cV (As := []) (c2 := (43733 - (73 + 129 * 338 + 8 * 6) + 0)) (s2 := (262387 - (427 + 129 * 2028 + 8 * 36) + 0)) B9 (fun _ _ hW => pw_0 hW) rfl (a_X12_winningCoalitions hI) mt_X12_winningCoalitions sv_L_301 dL_coalitions_238 rfl rfl rfl (by omega) (by omega) ?_
      refine pw_l (fun _ _ _ _ k => pm_stk (st' := [.int (d_X11_winners n r)]) rfl k) ?_
      refine pw_l (fun _ _ _ _ k => pm_iload_n B9 dL_coalitions_241 rfl k) ?_
      refine pw_l (fun _ _ _ _ k => pm_icmp_ne (tgt := 290) B9 dL_coalitions_242 (by decide) (fun h => absurd ((pw_co2 hI)) h) (fun _ => k)) ?_
      refine pw_l (fun _ _ _ _ k => pm_aload_n B9 dL_coalitions_245 rfl k) ?_
      refine pw_cV (As := []) (c2 := (43733 - (75 + 129 * 338 + 8 * 6) + 0)) (s2 := (262387 - (439 + 129 * 2028 + 8 * 36) + 0)) B9 (fun _ _ hW => pw_0 hW) rfl (a_X12_leastDifference hI) mt_X12_leastDifference sv_L_304 dL_coalitions_246 rfl rfl rfl (by omega) (by omega) ?_
      refine pw_l (fun _ _ _ _ k => pm_stk (st' := [.int (d_X11_differenceBySets n r)]) rfl k) ?_
      refine pw_l (fun _ _ _ _ k => pm_iload B9 dL_coalitions_249 rfl k) ?_
      refine pw_l (fun _ _ _ _ k => pm_icmp_ne (tgt := 290) B9 dL_coalitions_251 (by decide) (fun h => absurd ((pw_co3 hI)) h) (fun _ => k)) ?_
      refine pw_l (fun _ _ _ _ k => pm_aload_n B9 dL_coalitions_254 rfl k) ?_
      refine pw_cV (As := []) (c2 := (43733 - (77 + 129 * 338 + 8 * 6) + 0)) (s2 := (262387 - (451 + 129 * 2028 + 8 * 36) + 0)) B9 (fun _ _ hW => pw_0 hW) rfl (a_X12_leastDifferenceBySums hI) mt_X12_leastDifferenceBySums sv_L_307 dL_coalitions_255 rfl rfl rfl (by omega) (by omega) ?_
      refine pw_l (fun _ _ _ _ k => pm_stk (st' := [.int (d_X11_differenceBySets n r)]) rfl k) ?_
      refine pw_l (fun _ _ _ _ k => pm_iload B9 dL_coalitions_258 rfl k) ?_
      refine pw_l (fun _ _ _ _ k => pm_icmp_ne (tgt := 290) B9 dL_coalitions_260 (by decide) (fun h => absurd ((pw_co3 hI)) h) (fun _ => k)) ?_
      refine pw_l (fun _ _ _ _ k => pm_aload_n B9 dL_coalitions_263 rfl k) ?_
      refine pw_l (fun _ _ _ _ k => pm_aload_n B9 dL_coalitions_264 rfl k) ?_
      refine pw_cV (As := []) (c2 := (43733 - (79 + 129 * 338 + 8 * 6) + 0)) (s2 := (262387 - (463 + 129 * 2028 + 8 * 36) + 0)) B9 (fun _ _ hW => pw_0 hW) rfl (a_X12_memberCount hI) mt_X12_memberCount sv_L_177 dL_coalitions_265 rfl rfl rfl (by omega) (by omega) ?_
      refine pw_l (fun _ _ _ _ k => pm_stk (st' := [.int (nI n), .ref (z + 0)]) rfl k) ?_
      refine pw_cSW (As := [.ref (z + 0), .int (nI n)]) (c2 := (43733 - (81 + 129 * 338 + 8 * 6) + 0)) (s2 := (262387 - (475 + 129 * 2028 + 8 * 36) + 0)) B9 (pv_as (pv_L_swings_n hI.1.2.1) (b_L_swings hI)) mt_L_swings ss_L_296 dL_coalitions_268 rfl rfl rfl (by omega) (by omega) ?_
      refine pw_l (fun _ _ _ _ k => pm_stk (st' := [.int (-11)]) rfl k) ?_
      refine pw_l (fun _ _ _ _ k => pm_bipush (v := (-11)) B9 dL_coalitions_271 (by decide) k) ?_
      refine pw_l (fun _ _ _ _ k => pm_icmp_ne (tgt := 290) B9 dL_coalitions_273 (by decide) (fun h => absurd (by decide) h) (fun _ => k)) ?_
      refine pw_l (fun _ _ _ _ k => pm_aload_n B9 dL_coalitions_276 rfl k) ?_
      refine pw_l (fun _ _ _ _ k => pm_iconst (v := (-1)) B9 dL_coalitions_277 (by decide) k) ?_
      refine pw_cSW (As := [.ref (z + 0), .int (-1)]) (c2 := (43733 - (83 + 129 * 338 + 8 * 6) + 0)) (s2 := (262387 - (487 + 129 * 2028 + 8 * 36) + 0)) B9 (pv_as pv_L_byCounts_z (b_L_byCounts hI)) mt_L_byCounts ss_L_298 dL_coalitions_278 rfl rfl rfl (by omega) (by omega) ?_
      refine pw_l (fun _ _ _ _ k => pm_stk (st' := [.int (-11)]) rfl k) ?_
      refine pw_l (fun _ _ _ _ k => pm_bipush (v := (-11)) B9 dL_coalitions_281 (by decide) k) ?_
      refine pw_l (fun _ _ _ _ k => pm_icmp_ne (tgt := 290) B9 dL_coalitions_283 (by decide) (fun h => absurd (by decide) h) (fun _ => k)) ?_
      refine pw_l (fun _ _ _ _ k => pm_iconst (v := 1) B9 dL_coalitions_286 (by decide) k) ?_
      refine pw_l (fun _ _ _ _ k => pm_goto (tgt := 291) B9 dL_coalitions_287 (by decide) k) ?_
      exact fun cu su nx M h1 h2 hW => pm_ireturn B9 dL_coalitions_291 rfl (rfl) ⟨rfl, _, pw_drop hW (List.sublist_cons_self _ _)⟩ (Nat.ble_eq_true_of_le (by omega)) (Nat.ble_eq_true_of_le (by omega))
    have loop2 : ∀ k2 j2 : Nat, j2 + k2 = n → pw_J l z D X 43733 262387 (pm_Q z D (pw_P (some (.int 1)) (fun nx M => ∃ hs', pw_W z kA kE (B + 693, r, hs', u) ar nx M)) 43733 262387 X) (pw_W z kA kE (B + 693, r, hs2, u) ((w1, .inl (kA 0, 7, .inl ((w_L_coalitions_1 n r 0 (w_L_votesOf_1 r (w_L_activeSet_1 r 0 n) 0 n) (fun _ => 0) (2 ^ n)).2.2))) :: ar)) (k2 * 6 + (6 + (43733 - (71 + 129 * 338 + 8 * 6) + 0))) (k2 * 36 + (36 + (262387 - (415 + 129 * 2028 + 8 * 36) + 0))) 176 [some (.ref (z + 0)), some (.int (w_L_activeSet_1 r 0 n)), none, some (.int (w_L_coalitions_1 n r 0 (w_L_votesOf_1 r (w_L_activeSet_1 r 0 n) 0 n) (fun _ => 0) (2 ^ n)).1), some (.int (w_L_coalitions_1 n r 0 (w_L_votesOf_1 r (w_L_activeSet_1 r 0 n) 0 n) (fun _ => 0) (2 ^ n)).2.1), some (.ref (z + w1)), none, some (.int (nI j2)), none, none] [] := by
      intro k2
      induction k2 with
      | zero =>
        intro j2 hj2
        have hjn2 : j2 = n := by omega
        refine pw_cr (c2 := (6 - (0) + (43733 - (71 + 129 * 338 + 8 * 6) + 0))) (s2 := (36 - (0) + (262387 - (415 + 129 * 2028 + 8 * 36) + 0))) (by omega) (by omega) ?_
        refine pw_l (fun _ _ _ _ k => pm_iload B9 dL_coalitions_176 rfl k) ?_
        refine pw_l (fun _ _ _ _ k => pm_aload_n B9 dL_coalitions_178 rfl k) ?_
        refine pw_cV (As := []) (c2 := (6 - (2) + (43733 - (71 + 129 * 338 + 8 * 6) + 0))) (s2 := (36 - (12) + (262387 - (415 + 129 * 2028 + 8 * 36) + 0))) B9 (fun _ _ hW => pw_0 hW) rfl (a_X12_memberCount hI) mt_X12_memberCount sv_L_177 dL_coalitions_179 rfl rfl rfl (by omega) (by omega) ?_
        refine pw_l (fun _ _ _ _ k => pm_stk (st' := [.int (nI n), .int (nI j2)]) rfl k) ?_
        refine pw_l (fun _ _ _ _ k => pm_icmp_ge (tgt := 237) B9 dL_coalitions_182 (by decide) (fun _ => k) (fun h => absurd ((by rw [show (nI n) = nI n from rfl, show (nI j2) = nI j2 from rfl]; exact (nI_leI (by omega) (by omega)).mpr (by omega))) h)) ?_
        refine pw_l (fun _ _ _ _ k => pm_wk (L' := [some (.ref (z + 0)), none, none, some (.int (w_L_coalitions_1 n r 0 (w_L_votesOf_1 r (w_L_activeSet_1 r 0 n) 0 n) (fun _ => 0) (2 ^ n)).1), some (.int (w_L_coalitions_1 n r 0 (w_L_votesOf_1 r (w_L_activeSet_1 r 0 n) 0 n) (fun _ => 0) (2 ^ n)).2.1), none, none, none, none, none]) ⟨rfl, ⟨rfl, ⟨rfl, trivial⟩⟩⟩ k) ?_
        exact pw_cr (by omega) (by omega) hx2
      | succ k2 ih2 =>
        intro j2 hj2
        have hjn2 : j2 < n := by omega
        refine pw_cr (c2 := (6 - (0) + (k2 * 6 + (6 + (43733 - (71 + 129 * 338 + 8 * 6) + 0))))) (s2 := (36 - (0) + (k2 * 36 + (36 + (262387 - (415 + 129 * 2028 + 8 * 36) + 0))))) (by rw [Nat.succ_mul]; omega) (by rw [Nat.succ_mul]; omega) ?_
        refine pw_l (fun _ _ _ _ k => pm_iload B9 dL_coalitions_176 rfl k) ?_
        refine pw_l (fun _ _ _ _ k => pm_aload_n B9 dL_coalitions_178 rfl k) ?_
        refine pw_cV (As := []) (c2 := (6 - (2) + (k2 * 6 + (6 + (43733 - (71 + 129 * 338 + 8 * 6) + 0))))) (s2 := (36 - (12) + (k2 * 36 + (36 + (262387 - (415 + 129 * 2028 + 8 * 36) + 0))))) B9 (fun _ _ hW => pw_0 hW) rfl (a_X12_memberCount hI) mt_X12_memberCount sv_L_177 dL_coalitions_179 rfl rfl rfl (by omega) (by omega) ?_
        refine pw_l (fun _ _ _ _ k => pm_stk (st' := [.int (nI n), .int (nI j2)]) rfl k) ?_
        refine pw_l (fun _ _ _ _ k => pm_icmp_ge (tgt := 237) B9 dL_coalitions_182 (by decide) (fun h => absurd h ((by rw [show (nI n) = nI n from rfl, show (nI j2) = nI j2 from rfl]; exact fun e => absurd ((nI_leI (by omega) (by omega)).mp e) (by omega)))) (fun _ => k)) ?_
        refine pw_l (fun _ _ _ _ k => pm_iload_n B9 dL_coalitions_185 rfl k) ?_
        refine pw_l (fun _ _ _ _ k => pm_iload B9 dL_coalitions_186 rfl k) ?_
        refine pw_l (fun _ _ _ _ k => pm_ishr B9 dL_coalitions_188 k) ?_
        refine pw_l (fun _ _ _ _ k => pm_iconst (v := 1) B9 dL_coalitions_189 (by decide) k) ?_
        refine pw_l (fun _ _ _ _ k => pm_iand B9 dL_coalitions_190 k) ?_
        refine pw_l (fun _ _ _ _ k => pm_iconst (v := 1) B9 dL_coalitions_191 (by decide) k) ?_
        suffices hj9 : pw_J l z D X 43733 262387 (pm_Q z D (pw_P (some (.int 1)) (fun nx M => ∃ hs', pw_W z kA kE (B + 693, r, hs', u) ar nx M)) 43733 262387 X) (pw_W z kA kE (B + 693, r, hs2, u) ((w1, .inl (kA 0, 7, .inl ((w_L_coalitions_1 n r 0 (w_L_votesOf_1 r (w_L_activeSet_1 r 0 n) 0 n) (fun _ => 0) (2 ^ n)).2.2))) :: ar)) (6 - (2) + (k2 * 6 + (6 + (43733 - (71 + 129 * 338 + 8 * 6) + 0)))) (36 - (12) + (k2 * 36 + (36 + (262387 - (415 + 129 * 2028 + 8 * 36) + 0)))) 205 [some (.ref (z + 0)), some (.int (w_L_activeSet_1 r 0 n)), none, some (.int (w_L_coalitions_1 n r 0 (w_L_votesOf_1 r (w_L_activeSet_1 r 0 n) 0 n) (fun _ => 0) (2 ^ n)).1), some (.int (w_L_coalitions_1 n r 0 (w_L_votesOf_1 r (w_L_activeSet_1 r 0 n) 0 n) (fun _ => 0) (2 ^ n)).2.1), some (.ref (z + w1)), none, some (.int (nI j2)), none, none] [.int ((if (((w_L_activeSet_1 r 0 n) >>> ((nI j2) &&& 31)) &&& 1) = 1 then ((w_L_coalitions_1 n r 0 (w_L_votesOf_1 r (w_L_activeSet_1 r 0 n) 0 n) (fun _ => 0) (2 ^ n)).2.2 j2) else (-13)) : Int32)] by
          refine pw_l2 (fun _ _ _ _ k1 k2 => pm_icmp_ne (tgt := 203) B9 dL_coalitions_192 (by decide) k1 k2) (fun hq10 => ?_) (fun hq10 => ?_)
          · refine pw_l (fun _ _ _ _ k => pm_bipush (v := (-13)) B9 dL_coalitions_203 (by decide) k) ?_
            exact pw_cr (by omega) (by omega) (pw_eq (by first | with_reducible rfl | ((try rw [if_neg hq10]); done) | simp only [if_neg hq10]) (by first | with_reducible rfl | ((try rw [if_neg hq10]); done) | simp only [if_neg hq10]) (by first | with_reducible rfl | ((try rw [if_neg hq10]); done) | simp only [if_neg hq10]) hj9)
          · refine pw_l (fun _ _ _ _ k => pm_aload B9 dL_coalitions_195 rfl k) ?_
            refine pw_l (fun _ _ _ _ k => pm_iload B9 dL_coalitions_197 rfl k) ?_
            refine pw_lw (fun _ _ _ _ hW k => pm_iald_n B9 dL_coalitions_199 (pw_at hW 0 rfl) j2 (by first | assumption | omega) (by decide) k) ?_
            refine pw_l (fun _ _ _ _ k => pm_goto (tgt := 205) B9 dL_coalitions_200 (by decide) k) ?_
            exact pw_cr (by omega) (by omega) (pw_eq (by first | with_reducible rfl | ((try rw [if_pos hq10]); done) | simp only [if_pos hq10]) (by first | with_reducible rfl | ((try rw [if_pos hq10]); done) | simp only [if_pos hq10]) (by first | with_reducible rfl | ((try rw [if_pos hq10]); done) | simp only [if_pos hq10]) hj9)
        refine pw_l (fun _ _ _ _ k => pm_istore B9 dL_coalitions_205 rfl rfl k) ?_
        refine pw_l (fun _ _ _ _ k => pm_loc (L' := [some (.ref (z + 0)), some (.int (w_L_activeSet_1 r 0 n)), none, some (.int (w_L_coalitions_1 n r 0 (w_L_votesOf_1 r (w_L_activeSet_1 r 0 n) 0 n) (fun _ => 0) (2 ^ n)).1), some (.int (w_L_coalitions_1 n r 0 (w_L_votesOf_1 r (w_L_activeSet_1 r 0 n) 0 n) (fun _ => 0) (2 ^ n)).2.1), some (.ref (z + w1)), none, some (.int (nI j2)), some (.int ((if (((w_L_activeSet_1 r 0 n) >>> ((nI j2) &&& 31)) &&& 1) = 1 then ((w_L_coalitions_1 n r 0 (w_L_votesOf_1 r (w_L_activeSet_1 r 0 n) 0 n) (fun _ => 0) (2 ^ n)).2.2 j2) else (-13)) : Int32)), none]) rfl k) ?_
        refine pw_l (fun _ _ _ _ k => pm_aload_n B9 dL_coalitions_207 rfl k) ?_
        refine pw_l (fun _ _ _ _ k => pm_iload B9 dL_coalitions_208 rfl k) ?_
        refine pw_cSW (As := [.ref (z + 0), .int (nI j2)]) (c2 := (6 - (4) + (k2 * 6 + (6 + (43733 - (71 + 129 * 338 + 8 * 6) + 0))))) (s2 := (36 - (24) + (k2 * 36 + (36 + (262387 - (415 + 129 * 2028 + 8 * 36) + 0))))) B9 (pv_as (pv_L_swings_in (i := j2) (by omega) hI.1.2.1) (b_L_swings hI)) mt_L_swings ss_L_296 dL_coalitions_210 rfl rfl rfl (by omega) (by omega) ?_
        refine pw_l (fun _ _ _ _ k => pm_stk (st' := [.int (pw_sw n r j2)]) rfl k) ?_
        refine pw_l (fun _ _ _ _ k => pm_iload B9 dL_coalitions_213 rfl k) ?_
        refine pw_l (fun _ _ _ _ k => pm_icmp_ne (tgt := 229) B9 dL_coalitions_215 (by decide) (fun h => absurd ((pw_co1 hI (by omega))) h) (fun _ => k)) ?_
        refine pw_l (fun _ _ _ _ k => pm_aload_n B9 dL_coalitions_218 rfl k) ?_
        refine pw_l (fun _ _ _ _ k => pm_iload B9 dL_coalitions_219 rfl k) ?_
        refine pw_cSW (As := [.ref (z + 0), .int (nI j2)]) (c2 := (6 - (6) + (k2 * 6 + (6 + (43733 - (71 + 129 * 338 + 8 * 6) + 0))))) (s2 := (36 - (36) + (k2 * 36 + (36 + (262387 - (415 + 129 * 2028 + 8 * 36) + 0))))) B9 (pv_as (pv_L_byCounts_in (i := j2) (by omega) hI.1.2.1) (b_L_byCounts hI)) mt_L_byCounts ss_L_298 dL_coalitions_221 rfl rfl rfl (by omega) (by omega) ?_
        refine pw_l (fun _ _ _ _ k => pm_stk (st' := [.int (pw_sw n r j2)]) rfl k) ?_
        refine pw_l (fun _ _ _ _ k => pm_iload B9 dL_coalitions_224 rfl k) ?_
        refine pw_l (fun _ _ _ _ k => pm_icmp_eq (tgt := 231) B9 dL_coalitions_226 (by decide) (fun _ => k) (fun h => absurd ((pw_co1 hI (by omega))) h)) ?_
        refine pw_l (fun _ _ _ _ k => pm_iinc B9 dL_coalitions_231 rfl rfl rfl k) ?_
        refine pw_l (fun _ _ _ _ k => pm_loc (L' := [some (.ref (z + 0)), some (.int (w_L_activeSet_1 r 0 n)), none, some (.int (w_L_coalitions_1 n r 0 (w_L_votesOf_1 r (w_L_activeSet_1 r 0 n) 0 n) (fun _ => 0) (2 ^ n)).1), some (.int (w_L_coalitions_1 n r 0 (w_L_votesOf_1 r (w_L_activeSet_1 r 0 n) 0 n) (fun _ => 0) (2 ^ n)).2.1), some (.ref (z + w1)), none, some (.int (nI (j2 + 1))), some (.int ((if (((w_L_activeSet_1 r 0 n) >>> ((nI j2) &&& 31)) &&& 1) = 1 then ((w_L_coalitions_1 n r 0 (w_L_votesOf_1 r (w_L_activeSet_1 r 0 n) 0 n) (fun _ => 0) (2 ^ n)).2.2 j2) else (-13)) : Int32)), none]) (by rw [show ((nI j2) : Int32) + Int32.ofInt 1 = (nI (j2 + 1)) from nI_1 _]; rfl) k) ?_
        refine pw_l (fun _ _ _ _ k => pm_goto (tgt := 176) B9 dL_coalitions_234 (by decide) k) ?_
        refine pw_l (fun _ _ _ _ k => pm_wk (L' := [some (.ref (z + 0)), some (.int (w_L_activeSet_1 r 0 n)), none, some (.int (w_L_coalitions_1 n r 0 (w_L_votesOf_1 r (w_L_activeSet_1 r 0 n) 0 n) (fun _ => 0) (2 ^ n)).1), some (.int (w_L_coalitions_1 n r 0 (w_L_votesOf_1 r (w_L_activeSet_1 r 0 n) 0 n) (fun _ => 0) (2 ^ n)).2.1), some (.ref (z + w1)), none, some (.int (nI (j2 + 1))), none, none]) ⟨rfl, ⟨rfl, ⟨rfl, ⟨rfl, ⟨rfl, ⟨rfl, trivial⟩⟩⟩⟩⟩⟩ k) ?_
        exact pw_cr (by omega) (by omega) (ih2 (j2 + 1) (by omega))
    exact pw_cr (by omega) (by omega) (loop2 n 0 (by omega))
  have loop1 : ∀ k1 j1 : Nat, j1 + k1 = (2 ^ n) → ∀ (a3_1 : Int32), a3_1 = (w_L_coalitions_1 n r 0 (w_L_votesOf_1 r (w_L_activeSet_1 r 0 n) 0 n) (fun _ => 0) j1).1 → ∀ (a4_1 : Int32), a4_1 = (w_L_coalitions_1 n r 0 (w_L_votesOf_1 r (w_L_activeSet_1 r 0 n) 0 n) (fun _ => 0) j1).2.1 → ∀ (q0_1 : (Nat → Int32)), q0_1 = (w_L_coalitions_1 n r 0 (w_L_votesOf_1 r (w_L_activeSet_1 r 0 n) 0 n) (fun _ => 0) j1).2.2 → pw_J l z D X 43733 262387 (pm_Q z D (pw_P (some (.int 1)) (fun nx M => ∃ hs', pw_W z kA kE (B + 693, r, hs', u) ar nx M)) 43733 262387 X) (pw_W z kA kE (B + 693, r, hs2, u) ((w1, .inl (kA 0, 7, .inl q0_1)) :: ar)) (k1 * 338 + (338 + (43733 - (71 + 129 * 338) + 0))) (k1 * 2028 + (2028 + (262387 - (415 + 129 * 2028) + 0))) 31 [some (.ref (z + 0)), some (.int (w_L_activeSet_1 r 0 n)), some (.int (w_L_votesOf_1 r (w_L_activeSet_1 r 0 n) 0 n)), some (.int a3_1), some (.int a4_1), some (.ref (z + w1)), some (.int (r 3)), some (.int (nI j1)), none, none] [] := by
    intro k1
    induction k1 with
    | zero =>
      intro j1 hj1 a3_1 ea3_1 a4_1 ea4_1 q0_1 eq0_1
      have hjn1 : j1 = (2 ^ n) := by omega
      refine pw_cr (c2 := (338 - (0) + (43733 - (71 + 129 * 338) + 0))) (s2 := (2028 - (0) + (262387 - (415 + 129 * 2028) + 0))) (by omega) (by omega) ?_
      refine pw_l (fun _ _ _ _ k => pm_iload B9 dL_coalitions_31 rfl k) ?_
      refine pw_l (fun _ _ _ _ k => pm_iconst (v := 1) B9 dL_coalitions_33 (by decide) k) ?_
      refine pw_l (fun _ _ _ _ k => pm_aload_n B9 dL_coalitions_34 rfl k) ?_
      refine pw_cV (As := []) (c2 := (338 - (2) + (43733 - (71 + 129 * 338) + 0))) (s2 := (2028 - (12) + (262387 - (415 + 129 * 2028) + 0))) B9 (fun _ _ hW => pw_0 hW) rfl (a_X12_memberCount hI) mt_X12_memberCount sv_L_177 dL_coalitions_35 rfl rfl rfl (by omega) (by omega) ?_
      refine pw_l (fun _ _ _ _ k => pm_stk (st' := [.int (nI n), .int 1, .int (nI j1)]) rfl k) ?_
      refine pw_l (fun _ _ _ _ k => pm_ishl B9 dL_coalitions_38 k) ?_
      refine pw_l (fun _ _ _ _ k => pm_stk (st' := [.int (nI (2 ^ n)), .int (nI j1)]) (congrArg (fun yy : Int32 => ([.int yy, .int (nI j1)] : List Value)) (show (1 <<< ((nI n) &&& 31)) = (nI (2 ^ n)) from pm_sh1 n h7)) k) ?_
      refine pw_l (fun _ _ _ _ k => pm_icmp_ge (tgt := 173) B9 dL_coalitions_39 (by decide) (fun _ => k) (fun h => absurd ((by rw [show (nI (2 ^ n)) = nI (2 ^ n) from rfl, show (nI j1) = nI j1 from rfl]; exact (nI_leI (by omega) (by omega)).mpr (by omega))) h)) ?_
      refine pw_l (fun _ _ _ _ k => pm_wk (L' := [some (.ref (z + 0)), some (.int (w_L_activeSet_1 r 0 n)), none, some (.int a3_1), some (.int a4_1), some (.ref (z + w1)), none, none, none, none]) ⟨rfl, ⟨rfl, ⟨rfl, ⟨rfl, ⟨rfl, trivial⟩⟩⟩⟩⟩ k) ?_
      exact pw_cr (by omega) (by omega) (pw_eq (by first | with_reducible rfl | simp only [ea3_1, ea4_1, eq0_1, hjn1]) (by first | with_reducible rfl | simp only [ea3_1, ea4_1, eq0_1, hjn1]) rfl hx1)
    | succ k1 ih1 =>
      intro j1 hj1 a3_1 ea3_1 a4_1 ea4_1 q0_1 eq0_1
      have hjn1 : j1 < (2 ^ n) := by omega
      refine pw_cr (c2 := (338 - (0) + (k1 * 338 + (338 + (43733 - (71 + 129 * 338) + 0))))) (s2 := (2028 - (0) + (k1 * 2028 + (2028 + (262387 - (415 + 129 * 2028) + 0))))) (by rw [Nat.succ_mul]; omega) (by rw [Nat.succ_mul]; omega) ?_
      refine pw_l (fun _ _ _ _ k => pm_iload B9 dL_coalitions_31 rfl k) ?_
      refine pw_l (fun _ _ _ _ k => pm_iconst (v := 1) B9 dL_coalitions_33 (by decide) k) ?_
      refine pw_l (fun _ _ _ _ k => pm_aload_n B9 dL_coalitions_34 rfl k) ?_
      refine pw_cV (As := []) (c2 := (338 - (2) + (k1 * 338 + (338 + (43733 - (71 + 129 * 338) + 0))))) (s2 := (2028 - (12) + (k1 * 2028 + (2028 + (262387 - (415 + 129 * 2028) + 0))))) B9 (fun _ _ hW => pw_0 hW) rfl (a_X12_memberCount hI) mt_X12_memberCount sv_L_177 dL_coalitions_35 rfl rfl rfl (by omega) (by omega) ?_
      refine pw_l (fun _ _ _ _ k => pm_stk (st' := [.int (nI n), .int 1, .int (nI j1)]) rfl k) ?_
      refine pw_l (fun _ _ _ _ k => pm_ishl B9 dL_coalitions_38 k) ?_
      refine pw_l (fun _ _ _ _ k => pm_stk (st' := [.int (nI (2 ^ n)), .int (nI j1)]) (congrArg (fun yy : Int32 => ([.int yy, .int (nI j1)] : List Value)) (show (1 <<< ((nI n) &&& 31)) = (nI (2 ^ n)) from pm_sh1 n h7)) k) ?_
      refine pw_l (fun _ _ _ _ k => pm_icmp_ge (tgt := 173) B9 dL_coalitions_39 (by decide) (fun h => absurd h ((by rw [show (nI (2 ^ n)) = nI (2 ^ n) from rfl, show (nI j1) = nI j1 from rfl]; exact fun e => absurd ((nI_leI (by omega) (by omega)).mp e) (by omega)))) (fun _ => k)) ?_
      refine pw_l (fun _ _ _ _ k => pm_iload B9 dL_coalitions_42 rfl k) ?_
      refine pw_l (fun _ _ _ _ k => pm_iload_n B9 dL_coalitions_44 rfl k) ?_
      refine pw_l (fun _ _ _ _ k => pm_iconst (v := (-1)) B9 dL_coalitions_45 (by decide) k) ?_
      refine pw_l (fun _ _ _ _ k => pm_ixor B9 dL_coalitions_46 k) ?_
      refine pw_l (fun _ _ _ _ k => pm_iand B9 dL_coalitions_47 k) ?_
      refine pw_l2 (fun _ _ _ _ k1 k2 => pm_if_ne (tgt := 167) B9 dL_coalitions_48 (by decide) k1 k2) (fun hq15 => ?_) (fun hq15 => ?_)
      · refine pw_l (fun _ _ _ _ k => pm_iinc B9 dL_coalitions_167 rfl rfl rfl k) ?_
        refine pw_l (fun _ _ _ _ k => pm_loc (L' := [some (.ref (z + 0)), some (.int (w_L_activeSet_1 r 0 n)), some (.int (w_L_votesOf_1 r (w_L_activeSet_1 r 0 n) 0 n)), some (.int a3_1), some (.int a4_1), some (.ref (z + w1)), some (.int (r 3)), some (.int (nI (j1 + 1))), none, none]) (by rw [show ((nI j1) : Int32) + Int32.ofInt 1 = (nI (j1 + 1)) from nI_1 _]; rfl) k) ?_
        refine pw_l (fun _ _ _ _ k => pm_goto (tgt := 31) B9 dL_coalitions_170 (by decide) k) ?_
        exact pw_cr (by omega) (by omega) (ih1 (j1 + 1) (by omega) _ (by subst ea3_1; subst ea4_1; subst eq0_1; first | rfl | exact (if_neg hq15).symm | simp only [w_L_coalitions_1, if_neg hq15]) _ (by subst ea3_1; subst ea4_1; subst eq0_1; first | rfl | exact (if_neg hq15).symm | simp only [w_L_coalitions_1, if_neg hq15]) _ (by subst ea3_1; subst ea4_1; subst eq0_1; first | rfl | exact (if_neg hq15).symm | simp only [w_L_coalitions_1, if_neg hq15]))
      · refine pw_l (fun _ _ _ _ k => pm_aload_n B9 dL_coalitions_51 rfl k) ?_
        refine pw_l (fun _ _ _ _ k => pm_iload B9 dL_coalitions_52 rfl k) ?_
        refine pw_cS (As := [.ref (z + 0), .int (nI j1)]) (c2 := (338 - (34) + (k1 * 338 + (338 + (43733 - (71 + 129 * 338) + 0))))) (s2 := (2028 - (204) + (k1 * 2028 + (2028 + (262387 - (415 + 129 * 2028) + 0))))) B9 (c_L_votesOf (x := (nI j1)) hI) mt_L_votesOf ss_L_287 dL_coalitions_54 rfl rfl rfl (by omega) (by omega) ?_
        refine pw_l (fun _ _ _ _ k => pm_stk (st' := [.int (w_L_votesOf_1 r (nI j1) 0 n)]) rfl k) ?_
        refine pw_l (fun _ _ _ _ k => pm_iload B9 dL_coalitions_57 rfl k) ?_
        suffices hj16 : pw_J l z D X 43733 262387 (pm_Q z D (pw_P (some (.int 1)) (fun nx M => ∃ hs', pw_W z kA kE (B + 693, r, hs', u) ar nx M)) 43733 262387 X) (pw_W z kA kE (B + 693, r, hs2, u) ((w1, .inl (kA 0, 7, .inl q0_1)) :: ar)) (338 - (34) + (k1 * 338 + (338 + (43733 - (71 + 129 * 338) + 0)))) (2028 - (204) + (k1 * 2028 + (2028 + (262387 - (415 + 129 * 2028) + 0)))) 67 [some (.ref (z + 0)), some (.int (w_L_activeSet_1 r 0 n)), some (.int (w_L_votesOf_1 r (w_L_activeSet_1 r 0 n) 0 n)), some (.int a3_1), some (.int a4_1), some (.ref (z + w1)), some (.int (r 3)), some (.int (nI j1)), none, none] [.int ((if (w_L_votesOf_1 r (nI j1) 0 n) < (r 3) then 0 else 1) : Int32)] by
          refine pw_l2 (fun _ _ _ _ k1 k2 => pm_icmp_lt (tgt := 66) B9 dL_coalitions_59 (by decide) k1 k2) (fun hq17 => ?_) (fun hq17 => ?_)
          · refine pw_l (fun _ _ _ _ k => pm_iconst (v := 0) B9 dL_coalitions_66 (by decide) k) ?_
            exact pw_cr (by omega) (by omega) (pw_eq (by first | with_reducible rfl | ((try rw [if_pos hq17]); done) | simp only [if_pos hq17]) (by first | with_reducible rfl | ((try rw [if_pos hq17]); done) | simp only [if_pos hq17]) (by first | with_reducible rfl | ((try rw [if_pos hq17]); done) | simp only [if_pos hq17]) hj16)
          · refine pw_l (fun _ _ _ _ k => pm_iconst (v := 1) B9 dL_coalitions_62 (by decide) k) ?_
            refine pw_l (fun _ _ _ _ k => pm_goto (tgt := 67) B9 dL_coalitions_63 (by decide) k) ?_
            exact pw_cr (by omega) (by omega) (pw_eq (by first | with_reducible rfl | ((try rw [if_neg hq17]); done) | simp only [if_neg hq17]) (by first | with_reducible rfl | ((try rw [if_neg hq17]); done) | simp only [if_neg hq17]) (by first | with_reducible rfl | ((try rw [if_neg hq17]); done) | simp only [if_neg hq17]) hj16)
        refine pw_l (fun _ _ _ _ k => pm_istore B9 dL_coalitions_67 rfl rfl k) ?_
        refine pw_l (fun _ _ _ _ k => pm_loc (L' := [some (.ref (z + 0)), some (.int (w_L_activeSet_1 r 0 n)), some (.int (w_L_votesOf_1 r (w_L_activeSet_1 r 0 n) 0 n)), some (.int a3_1), some (.int a4_1), some (.ref (z + w1)), some (.int (r 3)), some (.int (nI j1)), some (.int ((if (w_L_votesOf_1 r (nI j1) 0 n) < (r 3) then 0 else 1) : Int32)), none]) rfl k) ?_
        refine pw_l (fun _ _ _ _ k => pm_iload_n B9 dL_coalitions_69 rfl k) ?_
        refine pw_l (fun _ _ _ _ k => pm_iload B9 dL_coalitions_70 rfl k) ?_
        suffices hj18 : pw_J l z D X 43733 262387 (pm_Q z D (pw_P (some (.int 1)) (fun nx M => ∃ hs', pw_W z kA kE (B + 693, r, hs', u) ar nx M)) 43733 262387 X) (pw_W z kA kE (B + 693, r, hs2, u) ((w1, .inl (kA 0, 7, .inl q0_1)) :: ar)) (338 - (34) + (k1 * 338 + (338 + (43733 - (71 + 129 * 338) + 0)))) (2028 - (204) + (k1 * 2028 + (2028 + (262387 - (415 + 129 * 2028) + 0)))) 80 [some (.ref (z + 0)), some (.int (w_L_activeSet_1 r 0 n)), some (.int (w_L_votesOf_1 r (w_L_activeSet_1 r 0 n) 0 n)), none, some (.int a4_1), some (.ref (z + w1)), some (.int (r 3)), some (.int (nI j1)), some (.int ((if (w_L_votesOf_1 r (nI j1) 0 n) < (r 3) then 0 else 1) : Int32)), none] [.int ((if ((if (w_L_votesOf_1 r (nI j1) 0 n) < (r 3) then 0 else 1) : Int32) = 0 then 0 else 1) : Int32), .int a3_1] by
          refine pw_l2 (fun _ _ _ _ k1 k2 => pm_if_eq (tgt := 79) B9 dL_coalitions_72 (by decide) k1 k2) (fun hq19 => ?_) (fun hq19 => ?_)
          · refine pw_l (fun _ _ _ _ k => pm_iconst (v := 0) B9 dL_coalitions_79 (by decide) k) ?_
            refine pw_l (fun _ _ _ _ k => pm_wk (L' := [some (.ref (z + 0)), some (.int (w_L_activeSet_1 r 0 n)), some (.int (w_L_votesOf_1 r (w_L_activeSet_1 r 0 n) 0 n)), none, some (.int a4_1), some (.ref (z + w1)), some (.int (r 3)), some (.int (nI j1)), some (.int ((if (w_L_votesOf_1 r (nI j1) 0 n) < (r 3) then 0 else 1) : Int32)), none]) ⟨rfl, ⟨rfl, ⟨rfl, ⟨rfl, ⟨rfl, ⟨rfl, ⟨rfl, ⟨rfl, trivial⟩⟩⟩⟩⟩⟩⟩⟩ k) ?_
            exact pw_cr (by omega) (by omega) (pw_eq (by first | with_reducible rfl | ((try rw [if_pos hq19]); done) | simp only [if_pos hq19]) (by first | with_reducible rfl | ((try rw [if_pos hq19]); done) | simp only [if_pos hq19]) (by first | with_reducible rfl | ((try rw [if_pos hq19]); done) | simp only [if_pos hq19]) hj18)
          · refine pw_l (fun _ _ _ _ k => pm_iconst (v := 1) B9 dL_coalitions_75 (by decide) k) ?_
            refine pw_l (fun _ _ _ _ k => pm_goto (tgt := 80) B9 dL_coalitions_76 (by decide) k) ?_
            refine pw_l (fun _ _ _ _ k => pm_wk (L' := [some (.ref (z + 0)), some (.int (w_L_activeSet_1 r 0 n)), some (.int (w_L_votesOf_1 r (w_L_activeSet_1 r 0 n) 0 n)), none, some (.int a4_1), some (.ref (z + w1)), some (.int (r 3)), some (.int (nI j1)), some (.int ((if (w_L_votesOf_1 r (nI j1) 0 n) < (r 3) then 0 else 1) : Int32)), none]) ⟨rfl, ⟨rfl, ⟨rfl, ⟨rfl, ⟨rfl, ⟨rfl, ⟨rfl, ⟨rfl, trivial⟩⟩⟩⟩⟩⟩⟩⟩ k) ?_
            exact pw_cr (by omega) (by omega) (pw_eq (by first | with_reducible rfl | ((try rw [if_neg hq19]); done) | simp only [if_neg hq19]) (by first | with_reducible rfl | ((try rw [if_neg hq19]); done) | simp only [if_neg hq19]) (by first | with_reducible rfl | ((try rw [if_neg hq19]); done) | simp only [if_neg hq19]) hj18)
        refine pw_l (fun _ _ _ _ k => pm_iadd B9 dL_coalitions_80 k) ?_
        refine pw_l (fun _ _ _ _ k => pm_istore_n B9 dL_coalitions_81 rfl rfl k) ?_
        refine pw_l (fun _ _ _ _ k => pm_loc (L' := [some (.ref (z + 0)), some (.int (w_L_activeSet_1 r 0 n)), some (.int (w_L_votesOf_1 r (w_L_activeSet_1 r 0 n) 0 n)), some (.int (a3_1 + ((if ((if (w_L_votesOf_1 r (nI j1) 0 n) < (r 3) then 0 else 1) : Int32) = 0 then 0 else 1) : Int32))), some (.int a4_1), some (.ref (z + w1)), some (.int (r 3)), some (.int (nI j1)), some (.int ((if (w_L_votesOf_1 r (nI j1) 0 n) < (r 3) then 0 else 1) : Int32)), none]) rfl k) ?_
        refine pw_l (fun _ _ _ _ k => pm_iload B9 dL_coalitions_82 rfl k) ?_
        refine pw_l (fun _ _ _ _ k => pm_iload_n B9 dL_coalitions_84 rfl k) ?_
        refine pw_l (fun _ _ _ _ k => pm_iconst (v := 2) B9 dL_coalitions_85 (by decide) k) ?_
        refine pw_l (fun _ _ _ _ k => pm_aload_n B9 dL_coalitions_86 rfl k) ?_
        refine pw_l (fun _ _ _ _ k => pm_iload B9 dL_coalitions_87 rfl k) ?_
        refine pw_cS (As := [.ref (z + 0), .int (nI j1)]) (c2 := (338 - (66) + (k1 * 338 + (338 + (43733 - (71 + 129 * 338) + 0))))) (s2 := (2028 - (396) + (k1 * 2028 + (2028 + (262387 - (415 + 129 * 2028) + 0))))) B9 (c_L_votesOf (x := (nI j1)) hI) mt_L_votesOf ss_L_287 dL_coalitions_89 rfl rfl rfl (by omega) (by omega) ?_
        refine pw_l (fun _ _ _ _ k => pm_stk (st' := [.int (w_L_votesOf_1 r (nI j1) 0 n), .int 2, .int (w_L_votesOf_1 r (w_L_activeSet_1 r 0 n) 0 n), .int a4_1]) rfl k) ?_
        refine pw_l (fun _ _ _ _ k => pm_imul B9 dL_coalitions_92 k) ?_
        refine pw_l (fun _ _ _ _ k => pm_isub B9 dL_coalitions_93 k) ?_
        refine pw_lb (fun _ _ _ _ hc hs k => pm_mabs B9 dL_coalitions_94 (pm_T_in 1065 (by decide +kernel) (by decide +kernel)) rfl rfl (Nat.ble_eq_true_of_le hc) (Nat.ble_eq_true_of_le hs) k) ?_
        refine pw_lb (fun _ _ _ _ hc hs k => pm_mmin B9 dL_coalitions_97 (pm_T_in 999 (by decide +kernel) (by decide +kernel)) rfl rfl (Nat.ble_eq_true_of_le hc) (Nat.ble_eq_true_of_le hs) k) ?_
        refine pw_l (fun _ _ _ _ k => pm_istore B9 dL_coalitions_100 rfl rfl k) ?_
        refine pw_l (fun _ _ _ _ k => pm_loc (L' := [some (.ref (z + 0)), some (.int (w_L_activeSet_1 r 0 n)), some (.int (w_L_votesOf_1 r (w_L_activeSet_1 r 0 n) 0 n)), some (.int (a3_1 + ((if ((if (w_L_votesOf_1 r (nI j1) 0 n) < (r 3) then 0 else 1) : Int32) = 0 then 0 else 1) : Int32))), some (.int (pm_min a4_1 (pm_abs ((w_L_votesOf_1 r (w_L_activeSet_1 r 0 n) 0 n) - (2 * (w_L_votesOf_1 r (nI j1) 0 n)))))), some (.ref (z + w1)), some (.int (r 3)), some (.int (nI j1)), some (.int ((if (w_L_votesOf_1 r (nI j1) 0 n) < (r 3) then 0 else 1) : Int32)), none]) rfl k) ?_
        refine pw_l (fun _ _ _ _ k => pm_iconst (v := 0) B9 dL_coalitions_102 (by decide) k) ?_
        refine pw_l (fun _ _ _ _ k => pm_istore B9 dL_coalitions_103 rfl rfl k) ?_
        refine pw_l (fun _ _ _ _ k => pm_loc (L' := [some (.ref (z + 0)), some (.int (w_L_activeSet_1 r 0 n)), some (.int (w_L_votesOf_1 r (w_L_activeSet_1 r 0 n) 0 n)), some (.int (a3_1 + ((if ((if (w_L_votesOf_1 r (nI j1) 0 n) < (r 3) then 0 else 1) : Int32) = 0 then 0 else 1) : Int32))), some (.int (pm_min a4_1 (pm_abs ((w_L_votesOf_1 r (w_L_activeSet_1 r 0 n) 0 n) - (2 * (w_L_votesOf_1 r (nI j1) 0 n)))))), some (.ref (z + w1)), some (.int (r 3)), some (.int (nI j1)), some (.int ((if (w_L_votesOf_1 r (nI j1) 0 n) < (r 3) then 0 else 1) : Int32)), some (.int 0)]) rfl k) ?_
        refine pw_l (fun _ _ _ _ k => pm_loc (L' := [some (.ref (z + 0)), some (.int (w_L_activeSet_1 r 0 n)), some (.int (w_L_votesOf_1 r (w_L_activeSet_1 r 0 n) 0 n)), some (.int (a3_1 + ((if ((if (w_L_votesOf_1 r (nI j1) 0 n) < (r 3) then 0 else 1) : Int32) = 0 then 0 else 1) : Int32))), some (.int (pm_min a4_1 (pm_abs ((w_L_votesOf_1 r (w_L_activeSet_1 r 0 n) 0 n) - (2 * (w_L_votesOf_1 r (nI j1) 0 n)))))), some (.ref (z + w1)), some (.int (r 3)), some (.int (nI j1)), some (.int ((if (w_L_votesOf_1 r (nI j1) 0 n) < (r 3) then 0 else 1) : Int32)), some (.int (nI 0))]) (congrArg (fun yy : Int32 => ([some (.ref (z + 0)), some (.int (w_L_activeSet_1 r 0 n)), some (.int (w_L_votesOf_1 r (w_L_activeSet_1 r 0 n) 0 n)), some (.int (a3_1 + ((if ((if (w_L_votesOf_1 r (nI j1) 0 n) < (r 3) then 0 else 1) : Int32) = 0 then 0 else 1) : Int32))), some (.int (pm_min a4_1 (pm_abs ((w_L_votesOf_1 r (w_L_activeSet_1 r 0 n) 0 n) - (2 * (w_L_votesOf_1 r (nI j1) 0 n)))))), some (.ref (z + w1)), some (.int (r 3)), some (.int (nI j1)), some (.int ((if (w_L_votesOf_1 r (nI j1) 0 n) < (r 3) then 0 else 1) : Int32)), some (.int yy)] : List (Option Value))) rfl) k) ?_
        have hx3 : pw_J l z D X 43733 262387 (pm_Q z D (pw_P (some (.int 1)) (fun nx M => ∃ hs', pw_W z kA kE (B + 693, r, hs', u) ar nx M)) 43733 262387 X) (pw_W z kA kE (B + 693, r, hs2, u) ((w1, .inl (kA 0, 7, .inl (w_L_coalitions_3 n r j1 q0_1 n))) :: ar)) (338 - (66 + 8 * 34) + (k1 * 338 + (338 + (43733 - (71 + 129 * 338) + 0)))) (2028 - (396 + 8 * 204) + (k1 * 2028 + (2028 + (262387 - (415 + 129 * 2028) + 0)))) 167 [some (.ref (z + 0)), some (.int (w_L_activeSet_1 r 0 n)), some (.int (w_L_votesOf_1 r (w_L_activeSet_1 r 0 n) 0 n)), some (.int (a3_1 + ((if ((if (w_L_votesOf_1 r (nI j1) 0 n) < (r 3) then 0 else 1) : Int32) = 0 then 0 else 1) : Int32))), some (.int (pm_min a4_1 (pm_abs ((w_L_votesOf_1 r (w_L_activeSet_1 r 0 n) 0 n) - (2 * (w_L_votesOf_1 r (nI j1) 0 n)))))), some (.ref (z + w1)), some (.int (r 3)), some (.int (nI j1)), none, none] [] := by
          refine pw_l (fun _ _ _ _ k => pm_iinc B9 dL_coalitions_167 rfl rfl rfl k) ?_
          refine pw_l (fun _ _ _ _ k => pm_loc (L' := [some (.ref (z + 0)), some (.int (w_L_activeSet_1 r 0 n)), some (.int (w_L_votesOf_1 r (w_L_activeSet_1 r 0 n) 0 n)), some (.int (a3_1 + ((if ((if (w_L_votesOf_1 r (nI j1) 0 n) < (r 3) then 0 else 1) : Int32) = 0 then 0 else 1) : Int32))), some (.int (pm_min a4_1 (pm_abs ((w_L_votesOf_1 r (w_L_activeSet_1 r 0 n) 0 n) - (2 * (w_L_votesOf_1 r (nI j1) 0 n)))))), some (.ref (z + w1)), some (.int (r 3)), some (.int (nI (j1 + 1))), none, none]) (by rw [show ((nI j1) : Int32) + Int32.ofInt 1 = (nI (j1 + 1)) from nI_1 _]; rfl) k) ?_
          refine pw_l (fun _ _ _ _ k => pm_goto (tgt := 31) B9 dL_coalitions_170 (by decide) k) ?_
          exact pw_cr (by omega) (by omega) (ih1 (j1 + 1) (by omega) _ (by subst ea3_1; subst ea4_1; subst eq0_1; first | rfl | exact (if_pos hq15).symm | simp only [w_L_coalitions_1, if_pos hq15]) _ (by subst ea3_1; subst ea4_1; subst eq0_1; first | rfl | exact (if_pos hq15).symm | simp only [w_L_coalitions_1, if_pos hq15]) _ (by subst ea3_1; subst ea4_1; subst eq0_1; first | rfl | exact (if_pos hq15).symm | simp only [w_L_coalitions_1, if_pos hq15]))
        have loop3 : ∀ k3 j3 : Nat, j3 + k3 = n → ∀ (q0_3 : (Nat → Int32)), q0_3 = (w_L_coalitions_3 n r j1 q0_1 j3) → pw_J l z D X 43733 262387 (pm_Q z D (pw_P (some (.int 1)) (fun nx M => ∃ hs', pw_W z kA kE (B + 693, r, hs', u) ar nx M)) 43733 262387 X) (pw_W z kA kE (B + 693, r, hs2, u) ((w1, .inl (kA 0, 7, .inl q0_3)) :: ar)) (k3 * 34 + (34 + (338 - (66 + 8 * 34) + (k1 * 338 + (338 + (43733 - (71 + 129 * 338) + 0)))))) (k3 * 204 + (204 + (2028 - (396 + 8 * 204) + (k1 * 2028 + (2028 + (262387 - (415 + 129 * 2028) + 0)))))) 105 [some (.ref (z + 0)), some (.int (w_L_activeSet_1 r 0 n)), some (.int (w_L_votesOf_1 r (w_L_activeSet_1 r 0 n) 0 n)), some (.int (a3_1 + ((if ((if (w_L_votesOf_1 r (nI j1) 0 n) < (r 3) then 0 else 1) : Int32) = 0 then 0 else 1) : Int32))), some (.int (pm_min a4_1 (pm_abs ((w_L_votesOf_1 r (w_L_activeSet_1 r 0 n) 0 n) - (2 * (w_L_votesOf_1 r (nI j1) 0 n)))))), some (.ref (z + w1)), some (.int (r 3)), some (.int (nI j1)), some (.int ((if (w_L_votesOf_1 r (nI j1) 0 n) < (r 3) then 0 else 1) : Int32)), some (.int (nI j3))] [] := by
          intro k3
          induction k3 with
          | zero =>
            intro j3 hj3 q0_3 eq0_3
            have hjn3 : j3 = n := by omega
            refine pw_cr (c2 := (34 - (0) + (338 - (66 + 8 * 34) + (k1 * 338 + (338 + (43733 - (71 + 129 * 338) + 0)))))) (s2 := (204 - (0) + (2028 - (396 + 8 * 204) + (k1 * 2028 + (2028 + (262387 - (415 + 129 * 2028) + 0)))))) (by omega) (by omega) ?_
            refine pw_l (fun _ _ _ _ k => pm_iload B9 dL_coalitions_105 rfl k) ?_
            refine pw_l (fun _ _ _ _ k => pm_aload_n B9 dL_coalitions_107 rfl k) ?_
            refine pw_cV (As := []) (c2 := (34 - (2) + (338 - (66 + 8 * 34) + (k1 * 338 + (338 + (43733 - (71 + 129 * 338) + 0)))))) (s2 := (204 - (12) + (2028 - (396 + 8 * 204) + (k1 * 2028 + (2028 + (262387 - (415 + 129 * 2028) + 0)))))) B9 (fun _ _ hW => pw_0 hW) rfl (a_X12_memberCount hI) mt_X12_memberCount sv_L_177 dL_coalitions_108 rfl rfl rfl (by omega) (by omega) ?_
            refine pw_l (fun _ _ _ _ k => pm_stk (st' := [.int (nI n), .int (nI j3)]) rfl k) ?_
            refine pw_l (fun _ _ _ _ k => pm_icmp_ge (tgt := 167) B9 dL_coalitions_111 (by decide) (fun _ => k) (fun h => absurd ((by rw [show (nI n) = nI n from rfl, show (nI j3) = nI j3 from rfl]; exact (nI_leI (by omega) (by omega)).mpr (by omega))) h)) ?_
            refine pw_l (fun _ _ _ _ k => pm_wk (L' := [some (.ref (z + 0)), some (.int (w_L_activeSet_1 r 0 n)), some (.int (w_L_votesOf_1 r (w_L_activeSet_1 r 0 n) 0 n)), some (.int (a3_1 + ((if ((if (w_L_votesOf_1 r (nI j1) 0 n) < (r 3) then 0 else 1) : Int32) = 0 then 0 else 1) : Int32))), some (.int (pm_min a4_1 (pm_abs ((w_L_votesOf_1 r (w_L_activeSet_1 r 0 n) 0 n) - (2 * (w_L_votesOf_1 r (nI j1) 0 n)))))), some (.ref (z + w1)), some (.int (r 3)), some (.int (nI j1)), none, none]) ⟨rfl, ⟨rfl, ⟨rfl, ⟨rfl, ⟨rfl, ⟨rfl, ⟨rfl, ⟨rfl, trivial⟩⟩⟩⟩⟩⟩⟩⟩ k) ?_
            exact pw_cr (by omega) (by omega) (pw_eq (by first | with_reducible rfl | simp only [eq0_3, hjn3]) (by first | with_reducible rfl | simp only [eq0_3, hjn3]) rfl hx3)
          | succ k3 ih3 =>
            intro j3 hj3 q0_3 eq0_3
            have hjn3 : j3 < n := by omega
            refine pw_cr (c2 := (34 - (0) + (k3 * 34 + (34 + (338 - (66 + 8 * 34) + (k1 * 338 + (338 + (43733 - (71 + 129 * 338) + 0)))))))) (s2 := (204 - (0) + (k3 * 204 + (204 + (2028 - (396 + 8 * 204) + (k1 * 2028 + (2028 + (262387 - (415 + 129 * 2028) + 0)))))))) (by rw [Nat.succ_mul]; omega) (by rw [Nat.succ_mul]; omega) ?_
            refine pw_l (fun _ _ _ _ k => pm_iload B9 dL_coalitions_105 rfl k) ?_
            refine pw_l (fun _ _ _ _ k => pm_aload_n B9 dL_coalitions_107 rfl k) ?_
            refine pw_cV (As := []) (c2 := (34 - (2) + (k3 * 34 + (34 + (338 - (66 + 8 * 34) + (k1 * 338 + (338 + (43733 - (71 + 129 * 338) + 0)))))))) (s2 := (204 - (12) + (k3 * 204 + (204 + (2028 - (396 + 8 * 204) + (k1 * 2028 + (2028 + (262387 - (415 + 129 * 2028) + 0)))))))) B9 (fun _ _ hW => pw_0 hW) rfl (a_X12_memberCount hI) mt_X12_memberCount sv_L_177 dL_coalitions_108 rfl rfl rfl (by omega) (by omega) ?_
            refine pw_l (fun _ _ _ _ k => pm_stk (st' := [.int (nI n), .int (nI j3)]) rfl k) ?_
            refine pw_l (fun _ _ _ _ k => pm_icmp_ge (tgt := 167) B9 dL_coalitions_111 (by decide) (fun h => absurd h ((by rw [show (nI n) = nI n from rfl, show (nI j3) = nI j3 from rfl]; exact fun e => absurd ((nI_leI (by omega) (by omega)).mp e) (by omega)))) (fun _ => k)) ?_
            refine pw_l (fun _ _ _ _ k => pm_aload B9 dL_coalitions_114 rfl k) ?_
            refine pw_l (fun _ _ _ _ k => pm_iload B9 dL_coalitions_116 rfl k) ?_
            refine pw_l (fun _ _ _ _ k => pm_dup2 B9 dL_coalitions_118 rfl rfl k) ?_
            refine pw_lw (fun _ _ _ _ hW k => pm_iald_n B9 dL_coalitions_119 (pw_at hW 0 rfl) j3 (by first | assumption | omega) (by decide) k) ?_
            refine pw_l (fun _ _ _ _ k => pm_iload B9 dL_coalitions_120 rfl k) ?_
            refine pw_l (fun _ _ _ _ k => pm_iload B9 dL_coalitions_122 rfl k) ?_
            refine pw_l (fun _ _ _ _ k => pm_ishr B9 dL_coalitions_124 k) ?_
            refine pw_l (fun _ _ _ _ k => pm_iconst (v := 1) B9 dL_coalitions_125 (by decide) k) ?_
            refine pw_l (fun _ _ _ _ k => pm_iand B9 dL_coalitions_126 k) ?_
            refine pw_l (fun _ _ _ _ k => pm_iconst (v := 1) B9 dL_coalitions_127 (by decide) k) ?_
            suffices hj22 : pw_J l z D X 43733 262387 (pm_Q z D (pw_P (some (.int 1)) (fun nx M => ∃ hs', pw_W z kA kE (B + 693, r, hs', u) ar nx M)) 43733 262387 X) (pw_W z kA kE (B + 693, r, hs2, u) ((w1, .inl (kA 0, 7, .inl q0_3)) :: ar)) (34 - (34) + (k3 * 34 + (34 + (338 - (66 + 8 * 34) + (k1 * 338 + (338 + (43733 - (71 + 129 * 338) + 0))))))) (204 - (204) + (k3 * 204 + (204 + (2028 - (396 + 8 * 204) + (k1 * 2028 + (2028 + (262387 - (415 + 129 * 2028) + 0))))))) 159 [some (.ref (z + 0)), some (.int (w_L_activeSet_1 r 0 n)), some (.int (w_L_votesOf_1 r (w_L_activeSet_1 r 0 n) 0 n)), some (.int (a3_1 + ((if ((if (w_L_votesOf_1 r (nI j1) 0 n) < (r 3) then 0 else 1) : Int32) = 0 then 0 else 1) : Int32))), some (.int (pm_min a4_1 (pm_abs ((w_L_votesOf_1 r (w_L_activeSet_1 r 0 n) 0 n) - (2 * (w_L_votesOf_1 r (nI j1) 0 n)))))), some (.ref (z + w1)), some (.int (r 3)), some (.int (nI j1)), some (.int ((if (w_L_votesOf_1 r (nI j1) 0 n) < (r 3) then 0 else 1) : Int32)), some (.int (nI j3))] [.int ((if (((nI j1) >>> ((nI j3) &&& 31)) &&& 1) = 1 then (if ((if (w_L_votesOf_1 r (nI j1) 0 n) < (r 3) then 0 else 1) : Int32) = 0 then 0 else (if (r 3) ≤ (w_L_votesOf_1 r ((nI j1) &&& ((1 <<< ((nI j3) &&& 31)) ^^^ (-1))) 0 n) then 0 else 1)) else 0) : Int32), .int (q0_3 j3), .int (nI j3), .ref (z + w1)] by
              refine pw_l2 (fun _ _ _ _ k1 k2 => pm_icmp_ne (tgt := 158) B9 dL_coalitions_128 (by decide) k1 k2) (fun hq23 => ?_) (fun hq23 => ?_)
              · refine pw_l (fun _ _ _ _ k => pm_iconst (v := 0) B9 dL_coalitions_158 (by decide) k) ?_
                exact pw_cr (by omega) (by omega) (pw_eq (by first | with_reducible rfl | ((try rw [if_neg hq23]); done) | simp only [if_neg hq23]) (by first | with_reducible rfl | ((try rw [if_neg hq23]); done) | simp only [if_neg hq23]) (by first | with_reducible rfl | ((try rw [if_neg hq23]); done) | simp only [if_neg hq23]) hj22)
              · refine pw_l (fun _ _ _ _ k => pm_iload B9 dL_coalitions_131 rfl k) ?_
                refine pw_l2 (fun _ _ _ _ k1 k2 => pm_if_eq (tgt := 158) B9 dL_coalitions_133 (by decide) k1 k2) (fun hq24 => ?_) (fun hq24 => ?_)
                · refine pw_l (fun _ _ _ _ k => pm_iconst (v := 0) B9 dL_coalitions_158 (by decide) k) ?_
                  exact pw_cr (by omega) (by omega) (pw_eq (by first | with_reducible rfl | ((try rw [if_pos hq23]); (try rw [if_pos hq24]); done) | simp only [if_pos hq23, if_pos hq24]) (by first | with_reducible rfl | ((try rw [if_pos hq23]); (try rw [if_pos hq24]); done) | simp only [if_pos hq23, if_pos hq24]) (by first | with_reducible rfl | ((try rw [if_pos hq23]); (try rw [if_pos hq24]); done) | simp only [if_pos hq23, if_pos hq24]) hj22)
                · refine pw_l (fun _ _ _ _ k => pm_aload_n B9 dL_coalitions_136 rfl k) ?_
                  refine pw_l (fun _ _ _ _ k => pm_iload B9 dL_coalitions_137 rfl k) ?_
                  refine pw_l (fun _ _ _ _ k => pm_iconst (v := 1) B9 dL_coalitions_139 (by decide) k) ?_
                  refine pw_l (fun _ _ _ _ k => pm_iload B9 dL_coalitions_140 rfl k) ?_
                  refine pw_l (fun _ _ _ _ k => pm_ishl B9 dL_coalitions_142 k) ?_
                  refine pw_l (fun _ _ _ _ k => pm_iconst (v := (-1)) B9 dL_coalitions_143 (by decide) k) ?_
                  refine pw_l (fun _ _ _ _ k => pm_ixor B9 dL_coalitions_144 k) ?_
                  refine pw_l (fun _ _ _ _ k => pm_iand B9 dL_coalitions_145 k) ?_
                  refine pw_cS (As := [.ref (z + 0), .int ((nI j1) &&& ((1 <<< ((nI j3) &&& 31)) ^^^ (-1)))]) (c2 := (34 - (34) + (k3 * 34 + (34 + (338 - (66 + 8 * 34) + (k1 * 338 + (338 + (43733 - (71 + 129 * 338) + 0)))))))) (s2 := (204 - (204) + (k3 * 204 + (204 + (2028 - (396 + 8 * 204) + (k1 * 2028 + (2028 + (262387 - (415 + 129 * 2028) + 0)))))))) B9 (c_L_votesOf (x := ((nI j1) &&& ((1 <<< ((nI j3) &&& 31)) ^^^ (-1)))) hI) mt_L_votesOf ss_L_287 dL_coalitions_146 rfl rfl rfl (by omega) (by omega) ?_
                  refine pw_l (fun _ _ _ _ k => pm_stk (st' := [.int (w_L_votesOf_1 r ((nI j1) &&& ((1 <<< ((nI j3) &&& 31)) ^^^ (-1))) 0 n), .int (q0_3 j3), .int (nI j3), .ref (z + w1)]) rfl k) ?_
                  refine pw_l (fun _ _ _ _ k => pm_iload B9 dL_coalitions_149 rfl k) ?_
                  refine pw_l2 (fun _ _ _ _ k1 k2 => pm_icmp_ge (tgt := 158) B9 dL_coalitions_151 (by decide) k1 k2) (fun hq25 => ?_) (fun hq25 => ?_)
                  · refine pw_l (fun _ _ _ _ k => pm_iconst (v := 0) B9 dL_coalitions_158 (by decide) k) ?_
                    exact pw_cr (by omega) (by omega) (pw_eq (by first | with_reducible rfl | ((try rw [if_pos hq23]); (try rw [if_neg hq24]); (try rw [if_pos hq25]); done) | simp only [if_pos hq23, if_neg hq24, if_pos hq25]) (by first | with_reducible rfl | ((try rw [if_pos hq23]); (try rw [if_neg hq24]); (try rw [if_pos hq25]); done) | simp only [if_pos hq23, if_neg hq24, if_pos hq25]) (by first | with_reducible rfl | ((try rw [if_pos hq23]); (try rw [if_neg hq24]); (try rw [if_pos hq25]); done) | simp only [if_pos hq23, if_neg hq24, if_pos hq25]) hj22)
                  · refine pw_l (fun _ _ _ _ k => pm_iconst (v := 1) B9 dL_coalitions_154 (by decide) k) ?_
                    refine pw_l (fun _ _ _ _ k => pm_goto (tgt := 159) B9 dL_coalitions_155 (by decide) k) ?_
                    exact pw_cr (by omega) (by omega) (pw_eq (by first | with_reducible rfl | ((try rw [if_pos hq23]); (try rw [if_neg hq24]); (try rw [if_neg hq25]); done) | simp only [if_pos hq23, if_neg hq24, if_neg hq25]) (by first | with_reducible rfl | ((try rw [if_pos hq23]); (try rw [if_neg hq24]); (try rw [if_neg hq25]); done) | simp only [if_pos hq23, if_neg hq24, if_neg hq25]) (by first | with_reducible rfl | ((try rw [if_pos hq23]); (try rw [if_neg hq24]); (try rw [if_neg hq25]); done) | simp only [if_pos hq23, if_neg hq24, if_neg hq25]) hj22)
            refine pw_l (fun _ _ _ _ k => pm_iadd B9 dL_coalitions_159 k) ?_
            refine pw_up (W' := (pw_W z kA kE (B + 693, r, hs2, u) ((w1, .inl (kA 0, 7, .inl (upd q0_3 j3 ((q0_3 j3) + ((if (((nI j1) >>> ((nI j3) &&& 31)) &&& 1) = 1 then (if ((if (w_L_votesOf_1 r (nI j1) 0 n) < (r 3) then 0 else 1) : Int32) = 0 then 0 else (if (r 3) ≤ (w_L_votesOf_1 r ((nI j1) &&& ((1 <<< ((nI j3) &&& 31)) ^^^ (-1))) 0 n) then 0 else 1)) else 0) : Int32))))) :: ar))) (fun _ _ _ _ hW k => pm_iast_n B9 dL_coalitions_160 (pw_at hW 0 rfl) j3 (by first | assumption | omega) (by decide) (k _ (pw_set0 hW))) ?_
            refine pw_l (fun _ _ _ _ k => pm_iinc B9 dL_coalitions_161 rfl rfl rfl k) ?_
            refine pw_l (fun _ _ _ _ k => pm_loc (L' := [some (.ref (z + 0)), some (.int (w_L_activeSet_1 r 0 n)), some (.int (w_L_votesOf_1 r (w_L_activeSet_1 r 0 n) 0 n)), some (.int (a3_1 + ((if ((if (w_L_votesOf_1 r (nI j1) 0 n) < (r 3) then 0 else 1) : Int32) = 0 then 0 else 1) : Int32))), some (.int (pm_min a4_1 (pm_abs ((w_L_votesOf_1 r (w_L_activeSet_1 r 0 n) 0 n) - (2 * (w_L_votesOf_1 r (nI j1) 0 n)))))), some (.ref (z + w1)), some (.int (r 3)), some (.int (nI j1)), some (.int ((if (w_L_votesOf_1 r (nI j1) 0 n) < (r 3) then 0 else 1) : Int32)), some (.int (nI (j3 + 1)))]) (by rw [show ((nI j3) : Int32) + Int32.ofInt 1 = (nI (j3 + 1)) from nI_1 _]; rfl) k) ?_
            refine pw_l (fun _ _ _ _ k => pm_goto (tgt := 105) B9 dL_coalitions_164 (by decide) k) ?_
            exact pw_cr (by omega) (by omega) (ih3 (j3 + 1) (by omega) _ (by subst eq0_3; first | rfl))
        exact pw_cr (by omega) (by omega) (loop3 n 0 (by omega) _ rfl)
  exact pw_cr (by omega) (by omega) (loop1 (2 ^ n) 0 (by omega) _ rfl _ rfl _ rfl)
