theorem dL_drawn_0 : decode cL_drawn 0 = .ok (.new 9, 3) := by decide +kernel
theorem dL_drawn_3 : decode cL_drawn 3 = .ok (.dup, 1) := by decide +kernel
theorem dL_drawn_4 : decode cL_drawn 4 = .ok (.invokespecial 149, 3) := by decide +kernel
theorem dL_drawn_7 : decode cL_drawn 7 = .ok (.astore_n 1, 1) := by decide +kernel
theorem dL_drawn_8 : decode cL_drawn 8 = .ok (.aload_n 0, 1) := by decide +kernel
theorem dL_drawn_9 : decode cL_drawn 9 = .ok (.iconst 0, 1) := by decide +kernel
theorem dL_drawn_10 : decode cL_drawn 10 = .ok (.invokestatic 150, 3) := by decide +kernel
theorem dL_drawn_13 : decode cL_drawn 13 = .ok (.iconst 1, 1) := by decide +kernel
theorem dL_drawn_14 : decode cL_drawn 14 = .ok (.iushr, 1) := by decide +kernel
theorem dL_drawn_15 : decode cL_drawn 15 = .ok (.istore_n 2, 1) := by decide +kernel
theorem dL_drawn_16 : decode cL_drawn 16 = .ok (.iconst 1, 1) := by decide +kernel
theorem dL_drawn_17 : decode cL_drawn 17 = .ok (.iload_n 2, 1) := by decide +kernel
theorem dL_drawn_18 : decode cL_drawn 18 = .ok (.bipush 7, 2) := by decide +kernel
theorem dL_drawn_20 : decode cL_drawn 20 = .ok (.irem, 1) := by decide +kernel
theorem dL_drawn_21 : decode cL_drawn 21 = .ok (.iadd, 1) := by decide +kernel
theorem dL_drawn_22 : decode cL_drawn 22 = .ok (.istore_n 3, 1) := by decide +kernel
theorem dL_drawn_23 : decode cL_drawn 23 = .ok (.iconst 0, 1) := by decide +kernel
theorem dL_drawn_24 : decode cL_drawn 24 = .ok (.istore 4, 2) := by decide +kernel
theorem dL_drawn_26 : decode cL_drawn 26 = .ok (.iload 4, 2) := by decide +kernel
theorem dL_drawn_28 : decode cL_drawn 28 = .ok (.iload_n 3, 1) := by decide +kernel
theorem dL_drawn_29 : decode cL_drawn 29 = .ok (.if_icmp .ge 71, 3) := by decide +kernel
theorem dL_drawn_32 : decode cL_drawn 32 = .ok (.aload_n 0, 1) := by decide +kernel
theorem dL_drawn_33 : decode cL_drawn 33 = .ok (.iconst 1, 1) := by decide +kernel
theorem dL_drawn_34 : decode cL_drawn 34 = .ok (.iload 4, 2) := by decide +kernel
theorem dL_drawn_36 : decode cL_drawn 36 = .ok (.iadd, 1) := by decide +kernel
theorem dL_drawn_37 : decode cL_drawn 37 = .ok (.invokestatic 150, 3) := by decide +kernel
theorem dL_drawn_40 : decode cL_drawn 40 = .ok (.iconst 1, 1) := by decide +kernel
theorem dL_drawn_41 : decode cL_drawn 41 = .ok (.iushr, 1) := by decide +kernel
theorem dL_drawn_42 : decode cL_drawn 42 = .ok (.istore 5, 2) := by decide +kernel
theorem dL_drawn_44 : decode cL_drawn 44 = .ok (.aload_n 1, 1) := by decide +kernel
theorem dL_drawn_45 : decode cL_drawn 45 = .ok (.iconst 1, 1) := by decide +kernel
theorem dL_drawn_46 : decode cL_drawn 46 = .ok (.iload 5, 2) := by decide +kernel
theorem dL_drawn_48 : decode cL_drawn 48 = .ok (.iload_n 2, 1) := by decide +kernel
theorem dL_drawn_49 : decode cL_drawn 49 = .ok (.iconst 3, 1) := by decide +kernel
theorem dL_drawn_50 : decode cL_drawn 50 = .ok (.irem, 1) := by decide +kernel
theorem dL_drawn_51 : decode cL_drawn 51 = .ok (.ifCond .ne 8, 3) := by decide +kernel
theorem dL_drawn_54 : decode cL_drawn 54 = .ok (.bipush 99, 2) := by decide +kernel
theorem dL_drawn_56 : decode cL_drawn 56 = .ok (.goto 5, 3) := by decide +kernel
theorem dL_drawn_59 : decode cL_drawn 59 = .ok (.bipush 30, 2) := by decide +kernel
theorem dL_drawn_61 : decode cL_drawn 61 = .ok (.irem, 1) := by decide +kernel
theorem dL_drawn_62 : decode cL_drawn 62 = .ok (.iadd, 1) := by decide +kernel
theorem dL_drawn_63 : decode cL_drawn 63 = .ok (.iconst 1, 1) := by decide +kernel
theorem dL_drawn_64 : decode cL_drawn 64 = .ok (.iload 5, 2) := by decide +kernel
theorem dL_drawn_66 : decode cL_drawn 66 = .ok (.bipush 8, 2) := by decide +kernel
theorem dL_drawn_68 : decode cL_drawn 68 = .ok (.iushr, 1) := by decide +kernel
theorem dL_drawn_69 : decode cL_drawn 69 = .ok (.iload_n 2, 1) := by decide +kernel
theorem dL_drawn_70 : decode cL_drawn 70 = .ok (.iconst 5, 1) := by decide +kernel
theorem dL_drawn_71 : decode cL_drawn 71 = .ok (.irem, 1) := by decide +kernel
theorem dL_drawn_72 : decode cL_drawn 72 = .ok (.ifCond .ne 8, 3) := by decide +kernel
theorem dL_drawn_75 : decode cL_drawn 75 = .ok (.bipush 20, 2) := by decide +kernel
theorem dL_drawn_77 : decode cL_drawn 77 = .ok (.goto 5, 3) := by decide +kernel
theorem dL_drawn_80 : decode cL_drawn 80 = .ok (.bipush 6, 2) := by decide +kernel
theorem dL_drawn_82 : decode cL_drawn 82 = .ok (.irem, 1) := by decide +kernel
theorem dL_drawn_83 : decode cL_drawn 83 = .ok (.iadd, 1) := by decide +kernel
theorem dL_drawn_84 : decode cL_drawn 84 = .ok (.invokestatic 154, 3) := by decide +kernel
theorem dL_drawn_87 : decode cL_drawn 87 = .ok (.iload 4, 2) := by decide +kernel
theorem dL_drawn_89 : decode cL_drawn 89 = .ok (.if_icmp .eq 5, 3) := by decide +kernel
theorem dL_drawn_92 : decode cL_drawn 92 = .ok (.aconst_null, 1) := by decide +kernel
theorem dL_drawn_93 : decode cL_drawn 93 = .ok (.areturn, 1) := by decide +kernel
theorem dL_drawn_94 : decode cL_drawn 94 = .ok (.iinc 4 1, 3) := by decide +kernel
theorem dL_drawn_97 : decode cL_drawn 97 = .ok (.goto (-71), 3) := by decide +kernel
theorem dL_drawn_100 : decode cL_drawn 100 = .ok (.aload_n 1, 1) := by decide +kernel
theorem dL_drawn_101 : decode cL_drawn 101 = .ok (.iload_n 2, 1) := by decide +kernel
theorem dL_drawn_102 : decode cL_drawn 102 = .ok (.iconst 4, 1) := by decide +kernel
theorem dL_drawn_103 : decode cL_drawn 103 = .ok (.iushr, 1) := by decide +kernel
theorem dL_drawn_104 : decode cL_drawn 104 = .ok (.sipush 1024, 3) := by decide +kernel
theorem dL_drawn_107 : decode cL_drawn 107 = .ok (.irem, 1) := by decide +kernel
theorem dL_drawn_108 : decode cL_drawn 108 = .ok (.invokestatic 157, 3) := by decide +kernel
theorem dL_drawn_111 : decode cL_drawn 111 = .ok (.istore 4, 2) := by decide +kernel
theorem dL_drawn_113 : decode cL_drawn 113 = .ok (.iconst 0, 1) := by decide +kernel
theorem dL_drawn_114 : decode cL_drawn 114 = .ok (.istore 5, 2) := by decide +kernel
theorem dL_drawn_116 : decode cL_drawn 116 = .ok (.iload 5, 2) := by decide +kernel
theorem dL_drawn_118 : decode cL_drawn 118 = .ok (.bipush 20, 2) := by decide +kernel
theorem dL_drawn_120 : decode cL_drawn 120 = .ok (.if_icmp .ge 236, 3) := by decide +kernel
theorem dL_drawn_123 : decode cL_drawn 123 = .ok (.aload_n 0, 1) := by decide +kernel
theorem dL_drawn_124 : decode cL_drawn 124 = .ok (.bipush 8, 2) := by decide +kernel
theorem dL_drawn_126 : decode cL_drawn 126 = .ok (.iload 5, 2) := by decide +kernel
theorem dL_drawn_128 : decode cL_drawn 128 = .ok (.iadd, 1) := by decide +kernel
theorem dL_drawn_129 : decode cL_drawn 129 = .ok (.invokestatic 150, 3) := by decide +kernel
theorem dL_drawn_132 : decode cL_drawn 132 = .ok (.iconst 1, 1) := by decide +kernel
theorem dL_drawn_133 : decode cL_drawn 133 = .ok (.iushr, 1) := by decide +kernel
theorem dL_drawn_134 : decode cL_drawn 134 = .ok (.istore 6, 2) := by decide +kernel
theorem dL_drawn_136 : decode cL_drawn 136 = .ok (.iload 6, 2) := by decide +kernel
theorem dL_drawn_138 : decode cL_drawn 138 = .ok (.iconst 4, 1) := by decide +kernel
theorem dL_drawn_139 : decode cL_drawn 139 = .ok (.iushr, 1) := by decide +kernel
theorem dL_drawn_140 : decode cL_drawn 140 = .ok (.iload_n 3, 1) := by decide +kernel
theorem dL_drawn_141 : decode cL_drawn 141 = .ok (.irem, 1) := by decide +kernel
theorem dL_drawn_142 : decode cL_drawn 142 = .ok (.istore 7, 2) := by decide +kernel
theorem dL_drawn_144 : decode cL_drawn 144 = .ok (.iload 6, 2) := by decide +kernel
theorem dL_drawn_146 : decode cL_drawn 146 = .ok (.bipush 16, 2) := by decide +kernel
theorem dL_drawn_148 : decode cL_drawn 148 = .ok (.irem, 1) := by decide +kernel
theorem dL_drawn_149 : decode cL_drawn 149 = .ok (.istore 8, 2) := by decide +kernel
theorem dL_drawn_151 : decode cL_drawn 151 = .ok (.iload 8, 2) := by decide +kernel
theorem dL_drawn_153 : decode cL_drawn 153 = .ok (.bipush 6, 2) := by decide +kernel
theorem dL_drawn_155 : decode cL_drawn 155 = .ok (.if_icmp .ge 22, 3) := by decide +kernel
theorem dL_drawn_158 : decode cL_drawn 158 = .ok (.aload_n 1, 1) := by decide +kernel
theorem dL_drawn_159 : decode cL_drawn 159 = .ok (.iload 7, 2) := by decide +kernel
theorem dL_drawn_161 : decode cL_drawn 161 = .ok (.iconst 1, 1) := by decide +kernel
theorem dL_drawn_162 : decode cL_drawn 162 = .ok (.iload 6, 2) := by decide +kernel
theorem dL_drawn_164 : decode cL_drawn 164 = .ok (.bipush 8, 2) := by decide +kernel
theorem dL_drawn_166 : decode cL_drawn 166 = .ok (.iushr, 1) := by decide +kernel
theorem dL_drawn_167 : decode cL_drawn 167 = .ok (.bipush 30, 2) := by decide +kernel
theorem dL_drawn_169 : decode cL_drawn 169 = .ok (.irem, 1) := by decide +kernel
theorem dL_drawn_170 : decode cL_drawn 170 = .ok (.iadd, 1) := by decide +kernel
theorem dL_drawn_171 : decode cL_drawn 171 = .ok (.invokestatic 160, 3) := by decide +kernel
theorem dL_drawn_174 : decode cL_drawn 174 = .ok (.goto 166, 3) := by decide +kernel
theorem dL_drawn_177 : decode cL_drawn 177 = .ok (.iload 8, 2) := by decide +kernel
theorem dL_drawn_179 : decode cL_drawn 179 = .ok (.bipush 6, 2) := by decide +kernel
theorem dL_drawn_181 : decode cL_drawn 181 = .ok (.if_icmp .ne 30, 3) := by decide +kernel
theorem dL_drawn_184 : decode cL_drawn 184 = .ok (.aload_n 1, 1) := by decide +kernel
theorem dL_drawn_185 : decode cL_drawn 185 = .ok (.iload 6, 2) := by decide +kernel
theorem dL_drawn_187 : decode cL_drawn 187 = .ok (.bipush 8, 2) := by decide +kernel
theorem dL_drawn_189 : decode cL_drawn 189 = .ok (.iushr, 1) := by decide +kernel
theorem dL_drawn_190 : decode cL_drawn 190 = .ok (.iload_n 2, 1) := by decide +kernel
theorem dL_drawn_191 : decode cL_drawn 191 = .ok (.iconst 2, 1) := by decide +kernel
theorem dL_drawn_192 : decode cL_drawn 192 = .ok (.irem, 1) := by decide +kernel
theorem dL_drawn_193 : decode cL_drawn 193 = .ok (.ifCond .ne 9, 3) := by decide +kernel
theorem dL_drawn_196 : decode cL_drawn 196 = .ok (.sipush 301, 3) := by decide +kernel
theorem dL_drawn_199 : decode cL_drawn 199 = .ok (.goto 5, 3) := by decide +kernel
theorem dL_drawn_202 : decode cL_drawn 202 = .ok (.bipush 60, 2) := by decide +kernel
theorem dL_drawn_204 : decode cL_drawn 204 = .ok (.irem, 1) := by decide +kernel
theorem dL_drawn_205 : decode cL_drawn 205 = .ok (.invokestatic 162, 3) := by decide +kernel
theorem dL_drawn_208 : decode cL_drawn 208 = .ok (.goto 132, 3) := by decide +kernel
theorem dL_drawn_211 : decode cL_drawn 211 = .ok (.iload 8, 2) := by decide +kernel
theorem dL_drawn_213 : decode cL_drawn 213 = .ok (.bipush 9, 2) := by decide +kernel
theorem dL_drawn_215 : decode cL_drawn 215 = .ok (.if_icmp .ge 19, 3) := by decide +kernel
theorem dL_drawn_218 : decode cL_drawn 218 = .ok (.aload_n 1, 1) := by decide +kernel
theorem dL_drawn_219 : decode cL_drawn 219 = .ok (.iconst 1, 1) := by decide +kernel
theorem dL_drawn_220 : decode cL_drawn 220 = .ok (.iload 6, 2) := by decide +kernel
theorem dL_drawn_222 : decode cL_drawn 222 = .ok (.bipush 8, 2) := by decide +kernel
theorem dL_drawn_224 : decode cL_drawn 224 = .ok (.iushr, 1) := by decide +kernel
theorem dL_drawn_225 : decode cL_drawn 225 = .ok (.iload_n 3, 1) := by decide +kernel
theorem dL_drawn_226 : decode cL_drawn 226 = .ok (.irem, 1) := by decide +kernel
theorem dL_drawn_227 : decode cL_drawn 227 = .ok (.iadd, 1) := by decide +kernel
theorem dL_drawn_228 : decode cL_drawn 228 = .ok (.invokestatic 164, 3) := by decide +kernel
theorem dL_drawn_231 : decode cL_drawn 231 = .ok (.goto 109, 3) := by decide +kernel
theorem dL_drawn_234 : decode cL_drawn 234 = .ok (.iload 8, 2) := by decide +kernel
theorem dL_drawn_236 : decode cL_drawn 236 = .ok (.bipush 9, 2) := by decide +kernel
theorem dL_drawn_238 : decode cL_drawn 238 = .ok (.if_icmp .ne 10, 3) := by decide +kernel
theorem dL_drawn_241 : decode cL_drawn 241 = .ok (.aload_n 1, 1) := by decide +kernel
theorem dL_drawn_242 : decode cL_drawn 242 = .ok (.invokevirtual 166, 3) := by decide +kernel
theorem dL_drawn_245 : decode cL_drawn 245 = .ok (.goto 95, 3) := by decide +kernel
theorem dL_drawn_248 : decode cL_drawn 248 = .ok (.iload 8, 2) := by decide +kernel
theorem dL_drawn_250 : decode cL_drawn 250 = .ok (.bipush 10, 2) := by decide +kernel
theorem dL_drawn_252 : decode cL_drawn 252 = .ok (.if_icmp .ne 17, 3) := by decide +kernel
theorem dL_drawn_255 : decode cL_drawn 255 = .ok (.aload_n 1, 1) := by decide +kernel
theorem dL_drawn_256 : decode cL_drawn 256 = .ok (.iload 6, 2) := by decide +kernel
theorem dL_drawn_258 : decode cL_drawn 258 = .ok (.bipush 8, 2) := by decide +kernel
theorem dL_drawn_260 : decode cL_drawn 260 = .ok (.iushr, 1) := by decide +kernel
theorem dL_drawn_261 : decode cL_drawn 261 = .ok (.iconst 2, 1) := by decide +kernel
theorem dL_drawn_262 : decode cL_drawn 262 = .ok (.irem, 1) := by decide +kernel
theorem dL_drawn_263 : decode cL_drawn 263 = .ok (.invokestatic 169, 3) := by decide +kernel
theorem dL_drawn_266 : decode cL_drawn 266 = .ok (.goto 74, 3) := by decide +kernel
theorem dL_drawn_269 : decode cL_drawn 269 = .ok (.iload 8, 2) := by decide +kernel
theorem dL_drawn_271 : decode cL_drawn 271 = .ok (.bipush 14, 2) := by decide +kernel
theorem dL_drawn_273 : decode cL_drawn 273 = .ok (.if_icmp .ge 37, 3) := by decide +kernel
theorem dL_drawn_276 : decode cL_drawn 276 = .ok (.iload_n 3, 1) := by decide +kernel
theorem dL_drawn_277 : decode cL_drawn 277 = .ok (.iconst 1, 1) := by decide +kernel
theorem dL_drawn_278 : decode cL_drawn 278 = .ok (.if_icmp .le 28, 3) := by decide +kernel
theorem dL_drawn_281 : decode cL_drawn 281 = .ok (.aload_n 1, 1) := by decide +kernel
theorem dL_drawn_282 : decode cL_drawn 282 = .ok (.iload 7, 2) := by decide +kernel
theorem dL_drawn_284 : decode cL_drawn 284 = .ok (.iload 7, 2) := by decide +kernel
theorem dL_drawn_286 : decode cL_drawn 286 = .ok (.iconst 1, 1) := by decide +kernel
theorem dL_drawn_287 : decode cL_drawn 287 = .ok (.iadd, 1) := by decide +kernel
theorem dL_drawn_288 : decode cL_drawn 288 = .ok (.iload 6, 2) := by decide +kernel
theorem dL_drawn_290 : decode cL_drawn 290 = .ok (.bipush 8, 2) := by decide +kernel
theorem dL_drawn_292 : decode cL_drawn 292 = .ok (.iushr, 1) := by decide +kernel
theorem dL_drawn_293 : decode cL_drawn 293 = .ok (.iload_n 3, 1) := by decide +kernel
theorem dL_drawn_294 : decode cL_drawn 294 = .ok (.iconst 1, 1) := by decide +kernel
theorem dL_drawn_295 : decode cL_drawn 295 = .ok (.isub, 1) := by decide +kernel
theorem dL_drawn_296 : decode cL_drawn 296 = .ok (.irem, 1) := by decide +kernel
theorem dL_drawn_297 : decode cL_drawn 297 = .ok (.iadd, 1) := by decide +kernel
theorem dL_drawn_298 : decode cL_drawn 298 = .ok (.iload_n 3, 1) := by decide +kernel
theorem dL_drawn_299 : decode cL_drawn 299 = .ok (.irem, 1) := by decide +kernel
theorem dL_drawn_300 : decode cL_drawn 300 = .ok (.invokestatic 171, 3) := by decide +kernel
theorem dL_drawn_303 : decode cL_drawn 303 = .ok (.goto 37, 3) := by decide +kernel
theorem dL_drawn_306 : decode cL_drawn 306 = .ok (.iconst 0, 1) := by decide +kernel
theorem dL_drawn_307 : decode cL_drawn 307 = .ok (.goto 33, 3) := by decide +kernel
theorem dL_drawn_310 : decode cL_drawn 310 = .ok (.iload 8, 2) := by decide +kernel
theorem dL_drawn_312 : decode cL_drawn 312 = .ok (.bipush 14, 2) := by decide +kernel
theorem dL_drawn_314 : decode cL_drawn 314 = .ok (.if_icmp .ne 20, 3) := by decide +kernel
theorem dL_drawn_317 : decode cL_drawn 317 = .ok (.aload_n 1, 1) := by decide +kernel
theorem dL_drawn_318 : decode cL_drawn 318 = .ok (.iconst 1, 1) := by decide +kernel
theorem dL_drawn_319 : decode cL_drawn 319 = .ok (.iload 6, 2) := by decide +kernel
theorem dL_drawn_321 : decode cL_drawn 321 = .ok (.bipush 8, 2) := by decide +kernel
theorem dL_drawn_323 : decode cL_drawn 323 = .ok (.iushr, 1) := by decide +kernel
theorem dL_drawn_324 : decode cL_drawn 324 = .ok (.bipush 40, 2) := by decide +kernel
theorem dL_drawn_326 : decode cL_drawn 326 = .ok (.irem, 1) := by decide +kernel
theorem dL_drawn_327 : decode cL_drawn 327 = .ok (.iadd, 1) := by decide +kernel
theorem dL_drawn_328 : decode cL_drawn 328 = .ok (.invokestatic 173, 3) := by decide +kernel
theorem dL_drawn_331 : decode cL_drawn 331 = .ok (.goto 9, 3) := by decide +kernel
theorem dL_drawn_334 : decode cL_drawn 334 = .ok (.aload_n 1, 1) := by decide +kernel
theorem dL_drawn_335 : decode cL_drawn 335 = .ok (.iload 7, 2) := by decide +kernel
theorem dL_drawn_337 : decode cL_drawn 337 = .ok (.invokestatic 175, 3) := by decide +kernel
theorem dL_drawn_340 : decode cL_drawn 340 = .ok (.istore 4, 2) := by decide +kernel
theorem dL_drawn_342 : decode cL_drawn 342 = .ok (.iload 4, 2) := by decide +kernel
theorem dL_drawn_344 : decode cL_drawn 344 = .ok (.iconst (-1), 1) := by decide +kernel
theorem dL_drawn_345 : decode cL_drawn 345 = .ok (.if_icmp .ne 5, 3) := by decide +kernel
theorem dL_drawn_348 : decode cL_drawn 348 = .ok (.aconst_null, 1) := by decide +kernel
theorem dL_drawn_349 : decode cL_drawn 349 = .ok (.areturn, 1) := by decide +kernel
theorem dL_drawn_350 : decode cL_drawn 350 = .ok (.iinc 5 1, 3) := by decide +kernel
theorem dL_drawn_353 : decode cL_drawn 353 = .ok (.goto (-237), 3) := by decide +kernel
theorem dL_drawn_356 : decode cL_drawn 356 = .ok (.aload_n 1, 1) := by decide +kernel
theorem dL_drawn_357 : decode cL_drawn 357 = .ok (.areturn, 1) := by decide +kernel
theorem mt_L_drawn : pm_Mt yL_drawn cL_drawn 9 (some (.object "ThunderCartel")) 1 := ⟨pm_T_in 74 (by decide +kernel) (by decide +kernel), pm_T_in 34 (by decide +kernel) (by decide +kernel), ⟨by decide +kernel, by decide +kernel, by decide +kernel⟩, by decide +kernel, by decide⟩
theorem pw_d10 {n t : Nat} {r : Nat → Int32} (ht : t ≤ 1023) : (d_X7_ref 10 (nI t) 0 n r).1 ≠ -2 := by
  simp only [d_X7_ref, d_X7_refusal10]
  rw [pw_rq1]
  unfold d_X7_refusalOfRange
  rw [if_neg (show ¬ pm_in (nI t) 0 1023 = 0 from pw_inN (lo := 0) (hi := 1023) (by omega) ht (by decide))]
  decide
theorem pw_DB {z : Nat} {kA : Nat → ClassId} {kE : Nat → Nat} {B C n : Nat} {u : Nat × List Nat} {ar : List (Nat × va_E)} {nx : Nat} {M : pm_M} (hB : B ≤ C) (h : pw_D z kA kE B n u ar nx M) : pw_D z kA kE C n u ar nx M := by
  obtain ⟨r, hs, h0, hW⟩ := h
  exact ⟨r, hs, h0, pw_WB hB hW⟩
theorem pw_clo {l : Launch} {z : Nat} {D : va_G} {kA : Nat → ClassId} {kE : Nat → Nat} {B n : Nat} {r : Nat → Int32} {hs : List (Nat → Int32)} {u : Nat × List Nat} {ar : List (Nat × va_E)} (hI : pm_I B n r) (h0 : r 0 = nI n) : ∀ nx M, (pw_W z kA kE (B, r, hs, u) ar) nx M → pm_C l z D kA kE yX12_close cX12_close 1 (some .int) 21 3 12 [.ref (z + 0)] nx M (fun o n' M' => ∃ v, o = .inl (some (.int v)) ∧ (v ≠ -1 ∧ pw_D z kA kE (B + 693) n u ar n' M')) := by
  intro nx M hW
  refine pm_Cpost (a_X12_close hI nx M hW) fun o n' M' hp => ?_
  rcases hp with ⟨-, v, r', h1, h2, h3⟩ | ⟨h1, -⟩
  · exact ⟨v, h1, fun e => h2.1 (by rw [e]; decide), r', _, (h2.2.1 (by decide)).trans h0, h3⟩
  · exact absurd rfl h1
set_option maxRecDepth 100000 in
set_option maxHeartbeats 8000000 in
theorem c_L_drawn {l : Launch} {z : Nat} {D : va_G} {kA : Nat → ClassId} {kE : Nat → Nat} : ∀ nx M, (nx = 0 ∧ M = fun _ => none) → pm_C l z D kA kE yL_drawn cL_drawn 9 (some (.object "ThunderCartel")) 50 300 1600 [.ref (kE 70)] nx M (fun o n' M' => ∃ n, o = .inl (some (.ref (z + 0))) ∧ 0 < n ∧ n ≤ 7 ∧ pw_D z kA kE 19404 n (0, []) [] n' M') := by
  refine pw_mk (own := RL) (nm := "drawn") mt_L_drawn rfl rfl rfl rfl fun X B9 => ?_
  suffices hJ : pw_J l z D X 300 1600 (pm_Q z D (fun o n' M' => ∃ n, o = .inl (some (.ref (z + 0))) ∧ 0 < n ∧ n ≤ 7 ∧ pw_D z kA kE 19404 n (0, []) [] n' M') 300 1600 X) (pw_D z kA kE (0) 0 (0, []) []) (160 - (0) + 0) (509 - (0) + 0) 8 [some (.ref (kE 70)), some (.ref (z + 0)), none, none, none, none, none, none, none] [] by
    intro cu su nx M h1 h2 hW
    obtain ⟨rfl, rfl⟩ := hW
    refine pm_loc (L' := [some (.ref (kE 70)), none, none, none, none, none, none, none, none]) rfl ?_
    refine pm_new (n0 := 13) B9 dL_drawn_0 nw_L_9 rfl (by omega) (by omega) ?_
    refine pm_dup B9 dL_drawn_3 rfl ?_
    refine pm_cIx (As := []) (mc2 := 139) (ms2 := 1078) B9 rfl (c_X12_init pm_up_s) mt_X12_init si_L_149 dL_drawn_4 rfl rfl rfl (Nat.ble_eq_true_of_le (by omega)) (Nat.ble_eq_true_of_le (by omega)) (fun ov n' M' hp => ?_)
    obtain ⟨rfl, rfl, hT0⟩ := hp
    refine pm_stk (st' := [.ref (z + 0)]) rfl ?_
    refine pm_astore_n B9 dL_drawn_7 rfl rfl ?_
    refine pm_loc (L' := [some (.ref (kE 70)), some (.ref (z + 0)), none, none, none, none, none, none, none]) rfl ?_
    exact hJ _ _ _ _ (by omega) (by omega) (pw_T0 hT0)
  refine pw_l (fun _ _ _ _ k => pm_aload_n B9 dL_drawn_8 rfl k) ?_
  refine pw_l (fun _ _ _ _ k => pm_iconst (v := 0) B9 dL_drawn_9 (by decide) k) ?_
  refine pw_l (fun _ _ _ _ k => pm_stk (st' := [.int (nI 0), .ref (kE 70)]) (by rw [show 0 = (nI 0) from rfl]) k) ?_
  refine pw_cS (As := [.ref (kE 70), .int (nI 0)]) (c2 := (160 - (0) + 0)) (s2 := (509 - (0) + 0)) B9 (c_L_cell (k := 0) (by omega)) mt_L_cell ss_L_150 dL_drawn_10 rfl rfl rfl (by omega) (by omega) ?_
  refine pw_l (fun _ _ _ _ k => pm_stk (st' := [.int (pw_ce kE 0)]) rfl k) ?_
  refine pw_l (fun _ _ _ _ k => pm_iconst (v := 1) B9 dL_drawn_13 (by decide) k) ?_
  refine pw_l (fun _ _ _ _ k => pm_iushr B9 dL_drawn_14 k) ?_
  refine pw_l (fun _ _ _ _ k => pm_istore_n B9 dL_drawn_15 rfl rfl k) ?_
  refine pw_l (fun _ _ _ _ k => pm_loc (L' := [some (.ref (kE 70)), some (.ref (z + 0)), some (.int (pm_ush (pw_ce kE 0) 1)), none, none, none, none, none, none]) rfl k) ?_
  refine pw_l (fun _ _ _ _ k => pm_iconst (v := 1) B9 dL_drawn_16 (by decide) k) ?_
  refine pw_l (fun _ _ _ _ k => pm_iload_n B9 dL_drawn_17 rfl k) ?_
  refine pw_l (fun _ _ _ _ k => pm_bipush (v := 7) B9 dL_drawn_18 (by decide) k) ?_
  refine pw_l (fun _ _ _ _ k => pm_irem B9 dL_drawn_20 (by first | decide | assumption) k) ?_
  refine pw_l (fun _ _ _ _ k => pm_iadd B9 dL_drawn_21 k) ?_
  obtain ⟨n, hn, h7, en⟩ : ∃ n, 0 < n ∧ n ≤ 7 ∧ (1 + ((pm_ush (pw_ce kE 0) 1) - (pm_ush (pw_ce kE 0) 1) / 7 * 7)) = nI n := by
    obtain ⟨t, ht, et⟩ := pw_md (m := 7) (pw_ushg (pw_ce kE 0) 1 1 (by decide) (by decide) (by decide)) (by decide) (by decide)
    refine ⟨1 + t, by omega, by omega, ?_⟩
    rw [← nI_add, ← et]
    rfl
  refine pw_l (fun _ _ _ _ k => pm_stk (st' := [.int (nI n)]) (congrArg (fun yy : Int32 => ([.int yy] : List Value)) (show (1 + ((pm_ush (pw_ce kE 0) 1) - (pm_ush (pw_ce kE 0) 1) / 7 * 7)) = (nI n) from en)) k) ?_
  refine pw_l (fun _ _ _ _ k => pm_istore_n B9 dL_drawn_22 rfl rfl k) ?_
  refine pw_l (fun _ _ _ _ k => pm_loc (L' := [some (.ref (kE 70)), some (.ref (z + 0)), some (.int (pm_ush (pw_ce kE 0) 1)), some (.int (nI n)), none, none, none, none, none]) rfl k) ?_
  refine pw_l (fun _ _ _ _ k => pm_iconst (v := 0) B9 dL_drawn_23 (by decide) k) ?_
  refine pw_l (fun _ _ _ _ k => pm_istore B9 dL_drawn_24 rfl rfl k) ?_
  refine pw_l (fun _ _ _ _ k => pm_loc (L' := [some (.ref (kE 70)), some (.ref (z + 0)), some (.int (pm_ush (pw_ce kE 0) 1)), some (.int (nI n)), some (.int 0), none, none, none, none]) rfl k) ?_
  have rest : pw_J l z D X 300 1600 (pm_Q z D (fun o n' M' => ∃ n, o = .inl (some (.ref (z + 0))) ∧ 0 < n ∧ n ≤ 7 ∧ pw_D z kA kE 19404 n (0, []) [] n' M') 300 1600 X) (pw_D z kA kE (n * 693) n (0, []) []) (63 - (0) + 0) (252 - (0) + 0) 100 [some (.ref (kE 70)), some (.ref (z + 0)), some (.int (pm_ush (pw_ce kE 0) 1)), some (.int (nI n)), none, none, none, none, none] [] := by
    refine pw_dJ h7 fun r hs h0 hI => ?_
    refine pw_l (fun _ _ _ _ k => pm_aload_n B9 dL_drawn_100 rfl k) ?_
    refine pw_l (fun _ _ _ _ k => pm_iload_n B9 dL_drawn_101 rfl k) ?_
    refine pw_l (fun _ _ _ _ k => pm_iconst (v := 4) B9 dL_drawn_102 (by decide) k) ?_
    refine pw_l (fun _ _ _ _ k => pm_iushr B9 dL_drawn_103 k) ?_
    refine pw_l (fun _ _ _ _ k => pm_sipush (v := 1024) B9 dL_drawn_104 (by decide) k) ?_
    refine pw_l (fun _ _ _ _ k => pm_irem B9 dL_drawn_107 (by first | decide | assumption) k) ?_
    obtain ⟨sd, hsd, esd⟩ : ∃ t, t < 1024 ∧ ((pm_ush (pm_ush (pw_ce kE 0) 1) 4) - (pm_ush (pm_ush (pw_ce kE 0) 1) 4) / 1024 * 1024) = nI t := pw_md (pw_ushg _ 4 4 (by decide) (by decide) (by decide)) (by decide) (by decide)
    refine pw_l (fun _ _ _ _ k => pm_stk (st' := [.int (nI sd), .ref (z + 0)]) (congrArg (fun yy : Int32 => ([.int yy, .ref (z + 0)] : List Value)) (show ((pm_ush (pm_ush (pw_ce kE 0) 1) 4) - (pm_ush (pm_ush (pw_ce kE 0) 1) 4) / 1024 * 1024) = (nI sd) from esd)) k) ?_
    refine pw_cSWx (As := [.ref (z + 0), .int (nI sd)]) (c2 := (63 - (3) + 0)) (s2 := (252 - (12) + 0)) B9 (b_L_setSeed hI) mt_L_setSeed ss_L_157 dL_drawn_108 rfl rfl rfl (by omega) (by omega) (fun v9 => ?_)
    refine pw_l (fun _ _ _ _ k => pm_stk (st' := [.int v9]) rfl k) ?_
    refine pw_cgD (by decide) h0 (pw_nv1 (pw_d10 (by omega))) fun hv => ?_
    refine pw_l (fun _ _ _ _ k => pm_istore B9 dL_drawn_111 rfl rfl k) ?_
    refine pw_l (fun _ _ _ _ k => pm_loc (L' := [some (.ref (kE 70)), some (.ref (z + 0)), some (.int (pm_ush (pw_ce kE 0) 1)), some (.int (nI n)), some (.int v9), none, none, none, none]) rfl k) ?_
    refine pw_l (fun _ _ _ _ k => pm_iconst (v := 0) B9 dL_drawn_113 (by decide) k) ?_
    refine pw_l (fun _ _ _ _ k => pm_istore B9 dL_drawn_114 rfl rfl k) ?_
    refine pw_l (fun _ _ _ _ k => pm_loc (L' := [some (.ref (kE 70)), some (.ref (z + 0)), some (.int (pm_ush (pw_ce kE 0) 1)), some (.int (nI n)), some (.int v9), some (.int 0), none, none, none]) rfl k) ?_
    refine pw_l (fun _ _ _ _ k => pm_wk (L' := [some (.ref (kE 70)), some (.ref (z + 0)), some (.int (pm_ush (pw_ce kE 0) 1)), some (.int (nI n)), none, some (.int 0), none, none, none]) ⟨rfl, ⟨rfl, ⟨rfl, ⟨rfl, ⟨rfl, trivial⟩⟩⟩⟩⟩ k) ?_
    have out2 : ∀ k i, i + k = 20 → pw_J l z D X 300 1600 (pm_Q z D (fun o n' M' => ∃ n, o = .inl (some (.ref (z + 0))) ∧ 0 < n ∧ n ≤ 7 ∧ pw_D z kA kE 19404 n (0, []) [] n' M') 300 1600 X) (pw_D z kA kE (n * 693 + 693 + i * 693) n (0, []) []) (3 * k - (0) + 0) (12 * k - (0) + 0) 116 [some (.ref (kE 70)), some (.ref (z + 0)), some (.int (pm_ush (pw_ce kE 0) 1)), some (.int (nI n)), none, some (.int (nI i)), none, none, none] [] := by
      intro k
      induction k with
      | zero =>
        intro i hik
        refine pw_l (fun _ _ _ _ k => pm_iload B9 dL_drawn_116 rfl k) ?_
        refine pw_l (fun _ _ _ _ k => pm_bipush (v := 20) B9 dL_drawn_118 (by decide) k) ?_
        refine pw_l (fun _ _ _ _ k => pm_icmp_ge (tgt := 356) B9 dL_drawn_120 (by decide) (fun _ => k) (fun h => absurd ((by rw [show i = 20 by omega]; decide)) h)) ?_
        refine pw_l (fun _ _ _ _ k => pm_aload_n B9 dL_drawn_356 rfl k) ?_
        exact fun cu su nx M h1 h2 hW => pm_areturn B9 dL_drawn_357 rfl (by first | exact Or.inl ⟨_, rfl⟩ | exact Or.inr ⟨_, rfl⟩) (by first | exact Or.inl rfl | exact Or.inr ⟨_, rfl⟩) ⟨n, rfl, hn, h7, pw_DB (by omega) hW⟩ (Nat.ble_eq_true_of_le (by omega)) (Nat.ble_eq_true_of_le (by omega))
      | succ k ih2 =>
        intro i hik
        refine pw_l (fun _ _ _ _ k => pm_iload B9 dL_drawn_116 rfl k) ?_
        refine pw_l (fun _ _ _ _ k => pm_bipush (v := 20) B9 dL_drawn_118 (by decide) k) ?_
        refine pw_l (fun _ _ _ _ k => pm_icmp_ge (tgt := 356) B9 dL_drawn_120 (by decide) (fun h => absurd h ((fun e => absurd ((nI_leI (a := 20) (b := i) (by omega) (by omega)).mp e) (by omega)))) (fun _ => k)) ?_
        have hnn : ¬ nI n = 0 := nI_ne0 hn (by omega)
        refine pw_l (fun _ _ _ _ k => pm_aload_n B9 dL_drawn_123 rfl k) ?_
        refine pw_l (fun _ _ _ _ k => pm_bipush (v := 8) B9 dL_drawn_124 (by decide) k) ?_
        refine pw_l (fun _ _ _ _ k => pm_iload B9 dL_drawn_126 rfl k) ?_
        refine pw_l (fun _ _ _ _ k => pm_iadd B9 dL_drawn_128 k) ?_
        refine pw_l (fun _ _ _ _ k => pm_stk (st' := [.int (nI (8 + i)), .ref (kE 70)]) (by rw [show (8 + (nI i)) = (nI (8 + i)) from (by rw [show 8 = nI 8 from rfl, show (nI i) = nI i from rfl, nI_add])]) k) ?_
        refine pw_cS (As := [.ref (kE 70), .int (nI (8 + i))]) (c2 := (3 * (k + 1) - (0) + 0)) (s2 := (12 * (k + 1) - (0) + 0)) B9 (c_L_cell (k := 8 + i) (by omega)) mt_L_cell ss_L_150 dL_drawn_129 rfl rfl rfl (by omega) (by omega) ?_
        refine pw_l (fun _ _ _ _ k => pm_stk (st' := [.int (pw_ce kE (8 + i))]) rfl k) ?_
        refine pw_l (fun _ _ _ _ k => pm_iconst (v := 1) B9 dL_drawn_132 (by decide) k) ?_
        refine pw_l (fun _ _ _ _ k => pm_iushr B9 dL_drawn_133 k) ?_
        refine pw_l (fun _ _ _ _ k => pm_istore B9 dL_drawn_134 rfl rfl k) ?_
        refine pw_l (fun _ _ _ _ k => pm_loc (L' := [some (.ref (kE 70)), some (.ref (z + 0)), some (.int (pm_ush (pw_ce kE 0) 1)), some (.int (nI n)), none, some (.int (nI i)), some (.int (pm_ush (pw_ce kE (8 + i)) 1)), none, none]) rfl k) ?_
        refine pw_l (fun _ _ _ _ k => pm_iload B9 dL_drawn_136 rfl k) ?_
        refine pw_l (fun _ _ _ _ k => pm_iconst (v := 4) B9 dL_drawn_138 (by decide) k) ?_
        refine pw_l (fun _ _ _ _ k => pm_iushr B9 dL_drawn_139 k) ?_
        refine pw_l (fun _ _ _ _ k => pm_iload_n B9 dL_drawn_140 rfl k) ?_
        refine pw_l (fun _ _ _ _ k => pm_irem B9 dL_drawn_141 (by first | decide | assumption) k) ?_
        obtain ⟨mi, hmi, emi⟩ : ∃ t, t < n ∧ ((pm_ush (pm_ush (pw_ce kE (8 + i)) 1) 4) - (pm_ush (pm_ush (pw_ce kE (8 + i)) 1) 4) / (nI n) * (nI n)) = nI t := pw_md (pw_ushg _ 4 4 (by decide) (by decide) (by decide)) hn (by omega)
        refine pw_l (fun _ _ _ _ k => pm_stk (st' := [.int (nI mi)]) (congrArg (fun yy : Int32 => ([.int yy] : List Value)) (show ((pm_ush (pm_ush (pw_ce kE (8 + i)) 1) 4) - (pm_ush (pm_ush (pw_ce kE (8 + i)) 1) 4) / (nI n) * (nI n)) = (nI mi) from emi)) k) ?_
        refine pw_l (fun _ _ _ _ k => pm_istore B9 dL_drawn_142 rfl rfl k) ?_
        refine pw_l (fun _ _ _ _ k => pm_loc (L' := [some (.ref (kE 70)), some (.ref (z + 0)), some (.int (pm_ush (pw_ce kE 0) 1)), some (.int (nI n)), none, some (.int (nI i)), some (.int (pm_ush (pw_ce kE (8 + i)) 1)), some (.int (nI mi)), none]) rfl k) ?_
        refine pw_l (fun _ _ _ _ k => pm_iload B9 dL_drawn_144 rfl k) ?_
        refine pw_l (fun _ _ _ _ k => pm_bipush (v := 16) B9 dL_drawn_146 (by decide) k) ?_
        refine pw_l (fun _ _ _ _ k => pm_irem B9 dL_drawn_148 (by first | decide | assumption) k) ?_
        refine pw_l (fun _ _ _ _ k => pm_istore B9 dL_drawn_149 rfl rfl k) ?_
        refine pw_l (fun _ _ _ _ k => pm_loc (L' := [some (.ref (kE 70)), some (.ref (z + 0)), some (.int (pm_ush (pw_ce kE 0) 1)), some (.int (nI n)), none, some (.int (nI i)), some (.int (pm_ush (pw_ce kE (8 + i)) 1)), some (.int (nI mi)), some (.int ((pm_ush (pw_ce kE (8 + i)) 1) - (pm_ush (pw_ce kE (8 + i)) 1) / 16 * 16))]) rfl k) ?_
        have hj : ∀ v : Int32, v ≠ -1 → pw_J l z D X 300 1600 (pm_Q z D (fun o n' M' => ∃ n, o = .inl (some (.ref (z + 0))) ∧ 0 < n ∧ n ≤ 7 ∧ pw_D z kA kE 19404 n (0, []) [] n' M') 300 1600 X) (pw_D z kA kE (n * 693 + 693 + i * 693 + 693) n (0, []) []) (3 * k - (0) + 0) (12 * k - (0) + 0) 340 [some (.ref (kE 70)), some (.ref (z + 0)), some (.int (pm_ush (pw_ce kE 0) 1)), some (.int (nI n)), none, some (.int (nI i)), none, none, none] [.int v] := by
          intro v hv
          refine pw_l (fun _ _ _ _ k => pm_istore B9 dL_drawn_340 rfl rfl k) ?_
          refine pw_l (fun _ _ _ _ k => pm_loc (L' := [some (.ref (kE 70)), some (.ref (z + 0)), some (.int (pm_ush (pw_ce kE 0) 1)), some (.int (nI n)), some (.int v), some (.int (nI i)), none, none, none]) rfl k) ?_
          refine pw_l (fun _ _ _ _ k => pm_iload B9 dL_drawn_342 rfl k) ?_
          refine pw_l (fun _ _ _ _ k => pm_iconst (v := (-1)) B9 dL_drawn_344 (by decide) k) ?_
          refine pw_l (fun _ _ _ _ k => pm_icmp_ne (tgt := 350) B9 dL_drawn_345 (by decide) (fun _ => k) (fun h => absurd h (hv))) ?_
          refine pw_l (fun _ _ _ _ k => pm_iinc B9 dL_drawn_350 rfl rfl rfl k) ?_
          refine pw_l (fun _ _ _ _ k => pm_loc (L' := [some (.ref (kE 70)), some (.ref (z + 0)), some (.int (pm_ush (pw_ce kE 0) 1)), some (.int (nI n)), some (.int v), some (.int (nI (i + 1))), none, none, none]) (by rw [show ((nI i) : Int32) + Int32.ofInt 1 = (nI (i + 1)) from nI_1 _]; rfl) k) ?_
          refine pw_l (fun _ _ _ _ k => pm_goto (tgt := 116) B9 dL_drawn_353 (by decide) k) ?_
          refine pw_l (fun _ _ _ _ k => pm_wk (L' := [some (.ref (kE 70)), some (.ref (z + 0)), some (.int (pm_ush (pw_ce kE 0) 1)), some (.int (nI n)), none, some (.int (nI (i + 1))), none, none, none]) ⟨rfl, ⟨rfl, ⟨rfl, ⟨rfl, ⟨rfl, trivial⟩⟩⟩⟩⟩ k) ?_
          exact pw_cr (by omega) (by omega) (pw_wk (W' := (pw_D z kA kE (n * 693 + 693 + (i + 1) * 693) n (0, []) [])) (fun _ _ h => pw_DB (by omega) h) (ih2 (i + 1) (by omega)))
        refine pw_dJ h7 fun r hs h0 hI => ?_
        refine pw_l (fun _ _ _ _ k => pm_iload B9 dL_drawn_151 rfl k) ?_
        refine pw_l (fun _ _ _ _ k => pm_bipush (v := 6) B9 dL_drawn_153 (by decide) k) ?_
        refine pw_l2 (fun _ _ _ _ k1 k2 => pm_icmp_ge (tgt := 177) B9 dL_drawn_155 (by decide) k1 k2) (fun hq4 => ?_) (fun hq4 => ?_)
        · refine pw_l (fun _ _ _ _ k => pm_iload B9 dL_drawn_177 rfl k) ?_
          refine pw_l (fun _ _ _ _ k => pm_bipush (v := 6) B9 dL_drawn_179 (by decide) k) ?_
          refine pw_l2 (fun _ _ _ _ k1 k2 => pm_icmp_ne (tgt := 211) B9 dL_drawn_181 (by decide) k1 k2) (fun hq5 => ?_) (fun hq5 => ?_)
          · refine pw_l (fun _ _ _ _ k => pm_iload B9 dL_drawn_211 rfl k) ?_
            refine pw_l (fun _ _ _ _ k => pm_bipush (v := 9) B9 dL_drawn_213 (by decide) k) ?_
            refine pw_l2 (fun _ _ _ _ k1 k2 => pm_icmp_ge (tgt := 234) B9 dL_drawn_215 (by decide) k1 k2) (fun hq6 => ?_) (fun hq6 => ?_)
            · refine pw_l (fun _ _ _ _ k => pm_iload B9 dL_drawn_234 rfl k) ?_
              refine pw_l (fun _ _ _ _ k => pm_bipush (v := 9) B9 dL_drawn_236 (by decide) k) ?_
              refine pw_l2 (fun _ _ _ _ k1 k2 => pm_icmp_ne (tgt := 248) B9 dL_drawn_238 (by decide) k1 k2) (fun hq7 => ?_) (fun hq7 => ?_)
              · refine pw_l (fun _ _ _ _ k => pm_iload B9 dL_drawn_248 rfl k) ?_
                refine pw_l (fun _ _ _ _ k => pm_bipush (v := 10) B9 dL_drawn_250 (by decide) k) ?_
                refine pw_l2 (fun _ _ _ _ k1 k2 => pm_icmp_ne (tgt := 269) B9 dL_drawn_252 (by decide) k1 k2) (fun hq8 => ?_) (fun hq8 => ?_)
                · refine pw_l (fun _ _ _ _ k => pm_iload B9 dL_drawn_269 rfl k) ?_
                  refine pw_l (fun _ _ _ _ k => pm_bipush (v := 14) B9 dL_drawn_271 (by decide) k) ?_
                  refine pw_l2 (fun _ _ _ _ k1 k2 => pm_icmp_ge (tgt := 310) B9 dL_drawn_273 (by decide) k1 k2) (fun hq9 => ?_) (fun hq9 => ?_)
                  · refine pw_l (fun _ _ _ _ k => pm_iload B9 dL_drawn_310 rfl k) ?_
                    refine pw_l (fun _ _ _ _ k => pm_bipush (v := 14) B9 dL_drawn_312 (by decide) k) ?_
                    refine pw_l2 (fun _ _ _ _ k1 k2 => pm_icmp_ne (tgt := 334) B9 dL_drawn_314 (by decide) k1 k2) (fun hq10 => ?_) (fun hq10 => ?_)
                    · refine pw_l (fun _ _ _ _ k => pm_aload_n B9 dL_drawn_334 rfl k) ?_
                      refine pw_l (fun _ _ _ _ k => pm_iload B9 dL_drawn_335 rfl k) ?_
                      refine pw_cSWx (As := [.ref (z + 0), .int (nI mi)]) (c2 := (3 * (k + 1) - (3) + 0)) (s2 := (12 * (k + 1) - (12) + 0)) B9 (b_L_pardon hI) mt_L_pardon ss_L_175 dL_drawn_337 rfl rfl rfl (by omega) (by omega) (fun v9 => ?_)
                      refine pw_l (fun _ _ _ _ k => pm_stk (st' := [.int v9]) rfl k) ?_
                      refine pw_cgD (by decide) h0 (pw_nv8 (pw_d8 hmi h7)) fun hv => ?_
                      refine pw_l (fun _ _ _ _ k => pm_wk (L' := [some (.ref (kE 70)), some (.ref (z + 0)), some (.int (pm_ush (pw_ce kE 0) 1)), some (.int (nI n)), none, some (.int (nI i)), none, none, none]) ⟨rfl, ⟨rfl, ⟨rfl, ⟨rfl, ⟨rfl, trivial⟩⟩⟩⟩⟩ k) ?_
                      exact pw_cr (by omega) (by omega) (hj _ hv)
                    · refine pw_l (fun _ _ _ _ k => pm_aload_n B9 dL_drawn_317 rfl k) ?_
                      refine pw_l (fun _ _ _ _ k => pm_iconst (v := 1) B9 dL_drawn_318 (by decide) k) ?_
                      refine pw_l (fun _ _ _ _ k => pm_iload B9 dL_drawn_319 rfl k) ?_
                      refine pw_l (fun _ _ _ _ k => pm_bipush (v := 8) B9 dL_drawn_321 (by decide) k) ?_
                      refine pw_l (fun _ _ _ _ k => pm_iushr B9 dL_drawn_323 k) ?_
                      refine pw_l (fun _ _ _ _ k => pm_bipush (v := 40) B9 dL_drawn_324 (by decide) k) ?_
                      refine pw_l (fun _ _ _ _ k => pm_irem B9 dL_drawn_326 (by first | decide | assumption) k) ?_
                      obtain ⟨t, ht, et⟩ : ∃ t, t < 40 ∧ ((pm_ush (pm_ush (pw_ce kE (8 + i)) 1) 8) - (pm_ush (pm_ush (pw_ce kE (8 + i)) 1) 8) / 40 * 40) = nI t := pw_md (pw_ushg _ 8 8 (by decide) (by decide) (by decide)) (by decide) (by decide)
                      refine pw_l (fun _ _ _ _ k => pm_stk (st' := [.int (nI t), .int 1, .ref (z + 0)]) (congrArg (fun yy : Int32 => ([.int yy, .int 1, .ref (z + 0)] : List Value)) (show ((pm_ush (pm_ush (pw_ce kE (8 + i)) 1) 8) - (pm_ush (pm_ush (pw_ce kE (8 + i)) 1) 8) / 40 * 40) = (nI t) from et)) k) ?_
                      refine pw_l (fun _ _ _ _ k => pm_iadd B9 dL_drawn_327 k) ?_
                      refine pw_l (fun _ _ _ _ k => pm_stk (st' := [.int (nI (1 + t)), .ref (z + 0)]) (by rw [show (1 + (nI t)) = (nI (1 + t)) from (by rw [show 1 = nI 1 from rfl, show (nI t) = nI t from rfl, nI_add])]) k) ?_
                      refine pw_cSWx (As := [.ref (z + 0), .int (nI (1 + t))]) (c2 := (3 * (k + 1) - (3) + 0)) (s2 := (12 * (k + 1) - (12) + 0)) B9 (b_L_setThreshold hI) mt_L_setThreshold ss_L_173 dL_drawn_328 rfl rfl rfl (by omega) (by omega) (fun v9 => ?_)
                      refine pw_l (fun _ _ _ _ k => pm_stk (st' := [.int v9]) rfl k) ?_
                      refine pw_cgD (by decide) h0 (pw_nv2 (pw_d9 (by omega) (by omega))) fun hv => ?_
                      refine pw_l (fun _ _ _ _ k => pm_goto (tgt := 340) B9 dL_drawn_331 (by decide) k) ?_
                      refine pw_l (fun _ _ _ _ k => pm_wk (L' := [some (.ref (kE 70)), some (.ref (z + 0)), some (.int (pm_ush (pw_ce kE 0) 1)), some (.int (nI n)), none, some (.int (nI i)), none, none, none]) ⟨rfl, ⟨rfl, ⟨rfl, ⟨rfl, ⟨rfl, trivial⟩⟩⟩⟩⟩ k) ?_
                      exact pw_cr (by omega) (by omega) (hj _ hv)
                  · refine pw_l (fun _ _ _ _ k => pm_iload_n B9 dL_drawn_276 rfl k) ?_
                    refine pw_l (fun _ _ _ _ k => pm_iconst (v := 1) B9 dL_drawn_277 (by decide) k) ?_
                    refine pw_l2 (fun _ _ _ _ k1 k2 => pm_icmp_le (tgt := 306) B9 dL_drawn_278 (by decide) k1 k2) (fun hq11 => ?_) (fun hq11 => ?_)
                    · refine pw_l (fun _ _ _ _ k => pm_iconst (v := 0) B9 dL_drawn_306 (by decide) k) ?_
                      refine pw_l (fun _ _ _ _ k => pm_goto (tgt := 340) B9 dL_drawn_307 (by decide) k) ?_
                      refine pw_l (fun _ _ _ _ k => pm_wk (L' := [some (.ref (kE 70)), some (.ref (z + 0)), some (.int (pm_ush (pw_ce kE 0) 1)), some (.int (nI n)), none, some (.int (nI i)), none, none, none]) ⟨rfl, ⟨rfl, ⟨rfl, ⟨rfl, ⟨rfl, trivial⟩⟩⟩⟩⟩ k) ?_
                      exact pw_cr (by omega) (by omega) (pw_wk (W' := (pw_D z kA kE (n * 693 + 693 + i * 693 + 693) n (0, []) [])) (fun _ _ h => ⟨r, hs, h0, pw_WB (by omega) h⟩) (hj _ (by decide)))
                    · have hn1 : 1 < n := Nat.lt_of_not_le fun e => hq11 ((nI_leI (a := n) (b := 1) (by omega) (by omega)).mpr e)
                      have hn2 : ¬ nI (n - 1) = 0 := nI_ne0 (by omega) (by omega)
                      refine pw_l (fun _ _ _ _ k => pm_aload_n B9 dL_drawn_281 rfl k) ?_
                      refine pw_l (fun _ _ _ _ k => pm_iload B9 dL_drawn_282 rfl k) ?_
                      refine pw_l (fun _ _ _ _ k => pm_iload B9 dL_drawn_284 rfl k) ?_
                      refine pw_l (fun _ _ _ _ k => pm_iconst (v := 1) B9 dL_drawn_286 (by decide) k) ?_
                      refine pw_l (fun _ _ _ _ k => pm_iadd B9 dL_drawn_287 k) ?_
                      refine pw_l (fun _ _ _ _ k => pm_iload B9 dL_drawn_288 rfl k) ?_
                      refine pw_l (fun _ _ _ _ k => pm_bipush (v := 8) B9 dL_drawn_290 (by decide) k) ?_
                      refine pw_l (fun _ _ _ _ k => pm_iushr B9 dL_drawn_292 k) ?_
                      refine pw_l (fun _ _ _ _ k => pm_iload_n B9 dL_drawn_293 rfl k) ?_
                      refine pw_l (fun _ _ _ _ k => pm_iconst (v := 1) B9 dL_drawn_294 (by decide) k) ?_
                      refine pw_l (fun _ _ _ _ k => pm_isub B9 dL_drawn_295 k) ?_
                      refine pw_l (fun _ _ _ _ k => pm_stk (st' := [.int (nI (n - 1)), .int (pm_ush (pm_ush (pw_ce kE (8 + i)) 1) 8), .int ((nI mi) + 1), .int (nI mi), .ref (z + 0)]) (congrArg (fun yy : Int32 => ([.int yy, .int (pm_ush (pm_ush (pw_ce kE (8 + i)) 1) 8), .int ((nI mi) + 1), .int (nI mi), .ref (z + 0)] : List Value)) (show ((nI n) - 1) = (nI (n - 1)) from (pq_sub (b := 1) (by omega)))) k) ?_
                      refine pw_l (fun _ _ _ _ k => pm_irem B9 dL_drawn_296 (by first | decide | assumption) k) ?_
                      obtain ⟨t1, ht1, et1⟩ : ∃ t, t < n - 1 ∧ ((pm_ush (pm_ush (pw_ce kE (8 + i)) 1) 8) - (pm_ush (pm_ush (pw_ce kE (8 + i)) 1) 8) / (nI (n - 1)) * (nI (n - 1))) = nI t := pw_md (pw_ushg _ 8 8 (by decide) (by decide) (by decide)) (by omega) (by omega)
                      refine pw_l (fun _ _ _ _ k => pm_stk (st' := [.int (nI t1), .int ((nI mi) + 1), .int (nI mi), .ref (z + 0)]) (congrArg (fun yy : Int32 => ([.int yy, .int ((nI mi) + 1), .int (nI mi), .ref (z + 0)] : List Value)) (show ((pm_ush (pm_ush (pw_ce kE (8 + i)) 1) 8) - (pm_ush (pm_ush (pw_ce kE (8 + i)) 1) 8) / (nI (n - 1)) * (nI (n - 1))) = (nI t1) from et1)) k) ?_
                      refine pw_l (fun _ _ _ _ k => pm_iadd B9 dL_drawn_297 k) ?_
                      refine pw_l (fun _ _ _ _ k => pm_iload_n B9 dL_drawn_298 rfl k) ?_
                      refine pw_l (fun _ _ _ _ k => pm_stk (st' := [.int (nI n), .int (nI ((mi + 1) + t1)), .int (nI mi), .ref (z + 0)]) (congrArg (fun yy : Int32 => ([.int (nI n), .int yy, .int (nI mi), .ref (z + 0)] : List Value)) (show (((nI mi) + 1) + (nI t1)) = (nI ((mi + 1) + t1)) from (by rw [show ((nI mi) + 1) = nI (mi + 1) from (by rw [show (nI mi) = nI mi from rfl, show 1 = nI 1 from rfl, nI_add]), show (nI t1) = nI t1 from rfl, nI_add]))) k) ?_
                      refine pw_l (fun _ _ _ _ k => pm_irem B9 dL_drawn_299 (by first | decide | assumption) k) ?_
                      obtain ⟨t2, ht2, et2⟩ : ∃ t, t < n ∧ ((nI ((mi + 1) + t1)) - (nI ((mi + 1) + t1)) / (nI n) * (nI n)) = nI t := pw_md ⟨_, by omega, rfl⟩ hn (by omega)
                      refine pw_l (fun _ _ _ _ k => pm_stk (st' := [.int (nI t2), .int (nI mi), .ref (z + 0)]) (congrArg (fun yy : Int32 => ([.int yy, .int (nI mi), .ref (z + 0)] : List Value)) (show ((nI ((mi + 1) + t1)) - (nI ((mi + 1) + t1)) / (nI n) * (nI n)) = (nI t2) from et2)) k) ?_
                      refine pw_cSWx (As := [.ref (z + 0), .int (nI mi), .int (nI t2)]) (c2 := (3 * (k + 1) - (3) + 0)) (s2 := (12 * (k + 1) - (12) + 0)) B9 (b_L_link hI) mt_L_link ss_L_171 dL_drawn_300 rfl rfl rfl (by omega) (by omega) (fun v9 => ?_)
                      refine pw_l (fun _ _ _ _ k => pm_stk (st' := [.int v9]) rfl k) ?_
                      refine pw_cgD (by decide) h0 (pw_nv3 (pw_d6 hmi ht2 h7)) fun hv => ?_
                      refine pw_l (fun _ _ _ _ k => pm_goto (tgt := 340) B9 dL_drawn_303 (by decide) k) ?_
                      refine pw_l (fun _ _ _ _ k => pm_wk (L' := [some (.ref (kE 70)), some (.ref (z + 0)), some (.int (pm_ush (pw_ce kE 0) 1)), some (.int (nI n)), none, some (.int (nI i)), none, none, none]) ⟨rfl, ⟨rfl, ⟨rfl, ⟨rfl, ⟨rfl, trivial⟩⟩⟩⟩⟩ k) ?_
                      exact pw_cr (by omega) (by omega) (hj _ hv)
                · refine pw_l (fun _ _ _ _ k => pm_aload_n B9 dL_drawn_255 rfl k) ?_
                  refine pw_l (fun _ _ _ _ k => pm_iload B9 dL_drawn_256 rfl k) ?_
                  refine pw_l (fun _ _ _ _ k => pm_bipush (v := 8) B9 dL_drawn_258 (by decide) k) ?_
                  refine pw_l (fun _ _ _ _ k => pm_iushr B9 dL_drawn_260 k) ?_
                  refine pw_l (fun _ _ _ _ k => pm_iconst (v := 2) B9 dL_drawn_261 (by decide) k) ?_
                  refine pw_l (fun _ _ _ _ k => pm_irem B9 dL_drawn_262 (by first | decide | assumption) k) ?_
                  obtain ⟨t, ht, et⟩ : ∃ t, t < 2 ∧ ((pm_ush (pm_ush (pw_ce kE (8 + i)) 1) 8) - (pm_ush (pm_ush (pw_ce kE (8 + i)) 1) 8) / 2 * 2) = nI t := pw_md (pw_ushg _ 8 8 (by decide) (by decide) (by decide)) (by decide) (by decide)
                  refine pw_l (fun _ _ _ _ k => pm_stk (st' := [.int (nI t), .ref (z + 0)]) (congrArg (fun yy : Int32 => ([.int yy, .ref (z + 0)] : List Value)) (show ((pm_ush (pm_ush (pw_ce kE (8 + i)) 1) 8) - (pm_ush (pm_ush (pw_ce kE (8 + i)) 1) 8) / 2 * 2) = (nI t) from et)) k) ?_
                  refine pw_cSWx (As := [.ref (z + 0), .int (nI t)]) (c2 := (3 * (k + 1) - (3) + 0)) (s2 := (12 * (k + 1) - (12) + 0)) B9 (b_L_setRule hI) mt_L_setRule ss_L_169 dL_drawn_263 rfl rfl rfl (by omega) (by omega) (fun v9 => ?_)
                  refine pw_l (fun _ _ _ _ k => pm_stk (st' := [.int v9]) rfl k) ?_
                  refine pw_cgD (by decide) h0 (pw_nv2 (pw_d2 ht)) fun hv => ?_
                  refine pw_l (fun _ _ _ _ k => pm_goto (tgt := 340) B9 dL_drawn_266 (by decide) k) ?_
                  refine pw_l (fun _ _ _ _ k => pm_wk (L' := [some (.ref (kE 70)), some (.ref (z + 0)), some (.int (pm_ush (pw_ce kE 0) 1)), some (.int (nI n)), none, some (.int (nI i)), none, none, none]) ⟨rfl, ⟨rfl, ⟨rfl, ⟨rfl, ⟨rfl, trivial⟩⟩⟩⟩⟩ k) ?_
                  exact pw_cr (by omega) (by omega) (hj _ hv)
              · refine pw_l (fun _ _ _ _ k => pm_aload_n B9 dL_drawn_241 rfl k) ?_
                refine pw_cVx (As := []) (c2 := (3 * (k + 1) - (3) + 0)) (s2 := (12 * (k + 1) - (12) + 0)) B9 (fun _ _ hW => pw_0 hW) rfl (pw_clo hI h0) mt_X12_close sv_L_166 dL_drawn_242 rfl rfl rfl (by omega) (by omega) (fun v9 => ?_)
                refine pw_l (fun _ _ _ _ k => pm_stk (st' := [.int v9]) rfl k) ?_
                refine pw_and fun hv => ?_
                refine pw_l (fun _ _ _ _ k => pm_goto (tgt := 340) B9 dL_drawn_245 (by decide) k) ?_
                refine pw_l (fun _ _ _ _ k => pm_wk (L' := [some (.ref (kE 70)), some (.ref (z + 0)), some (.int (pm_ush (pw_ce kE 0) 1)), some (.int (nI n)), none, some (.int (nI i)), none, none, none]) ⟨rfl, ⟨rfl, ⟨rfl, ⟨rfl, ⟨rfl, trivial⟩⟩⟩⟩⟩ k) ?_
                exact pw_cr (by omega) (by omega) (hj _ hv)
            · refine pw_l (fun _ _ _ _ k => pm_aload_n B9 dL_drawn_218 rfl k) ?_
              refine pw_l (fun _ _ _ _ k => pm_iconst (v := 1) B9 dL_drawn_219 (by decide) k) ?_
              refine pw_l (fun _ _ _ _ k => pm_iload B9 dL_drawn_220 rfl k) ?_
              refine pw_l (fun _ _ _ _ k => pm_bipush (v := 8) B9 dL_drawn_222 (by decide) k) ?_
              refine pw_l (fun _ _ _ _ k => pm_iushr B9 dL_drawn_224 k) ?_
              refine pw_l (fun _ _ _ _ k => pm_iload_n B9 dL_drawn_225 rfl k) ?_
              refine pw_l (fun _ _ _ _ k => pm_irem B9 dL_drawn_226 (by first | decide | assumption) k) ?_
              obtain ⟨t, ht, et⟩ : ∃ t, t < n ∧ ((pm_ush (pm_ush (pw_ce kE (8 + i)) 1) 8) - (pm_ush (pm_ush (pw_ce kE (8 + i)) 1) 8) / (nI n) * (nI n)) = nI t := pw_md (pw_ushg _ 8 8 (by decide) (by decide) (by decide)) hn (by omega)
              refine pw_l (fun _ _ _ _ k => pm_stk (st' := [.int (nI t), .int 1, .ref (z + 0)]) (congrArg (fun yy : Int32 => ([.int yy, .int 1, .ref (z + 0)] : List Value)) (show ((pm_ush (pm_ush (pw_ce kE (8 + i)) 1) 8) - (pm_ush (pm_ush (pw_ce kE (8 + i)) 1) 8) / (nI n) * (nI n)) = (nI t) from et)) k) ?_
              refine pw_l (fun _ _ _ _ k => pm_iadd B9 dL_drawn_227 k) ?_
              refine pw_l (fun _ _ _ _ k => pm_stk (st' := [.int (nI (1 + t)), .ref (z + 0)]) (by rw [show (1 + (nI t)) = (nI (1 + t)) from (by rw [show 1 = nI 1 from rfl, show (nI t) = nI t from rfl, nI_add])]) k) ?_
              refine pw_cSWx (As := [.ref (z + 0), .int (nI (1 + t))]) (c2 := (3 * (k + 1) - (3) + 0)) (s2 := (12 * (k + 1) - (12) + 0)) B9 (b_L_audit hI) mt_L_audit ss_L_164 dL_drawn_228 rfl rfl rfl (by omega) (by omega) (fun v9 => ?_)
              refine pw_l (fun _ _ _ _ k => pm_stk (st' := [.int v9]) rfl k) ?_
              refine pw_cgD (by decide) h0 (pw_nv2 (pw_d4 (by omega) (by omega))) fun hv => ?_
              refine pw_l (fun _ _ _ _ k => pm_goto (tgt := 340) B9 dL_drawn_231 (by decide) k) ?_
              refine pw_l (fun _ _ _ _ k => pm_wk (L' := [some (.ref (kE 70)), some (.ref (z + 0)), some (.int (pm_ush (pw_ce kE 0) 1)), some (.int (nI n)), none, some (.int (nI i)), none, none, none]) ⟨rfl, ⟨rfl, ⟨rfl, ⟨rfl, ⟨rfl, trivial⟩⟩⟩⟩⟩ k) ?_
              exact pw_cr (by omega) (by omega) (hj _ hv)
          · refine pw_l (fun _ _ _ _ k => pm_aload_n B9 dL_drawn_184 rfl k) ?_
            refine pw_l (fun _ _ _ _ k => pm_iload B9 dL_drawn_185 rfl k) ?_
            refine pw_l (fun _ _ _ _ k => pm_bipush (v := 8) B9 dL_drawn_187 (by decide) k) ?_
            refine pw_l (fun _ _ _ _ k => pm_iushr B9 dL_drawn_189 k) ?_
            refine pw_l (fun _ _ _ _ k => pm_iload_n B9 dL_drawn_190 rfl k) ?_
            refine pw_l (fun _ _ _ _ k => pm_iconst (v := 2) B9 dL_drawn_191 (by decide) k) ?_
            refine pw_l (fun _ _ _ _ k => pm_irem B9 dL_drawn_192 (by first | decide | assumption) k) ?_
            have hm1 : ∀ p : Prop, [Decidable p] → ¬ ((if p then 301 else 60 : Int32)) = 0 := fun p _ => by split <;> decide
            suffices hj12 : pw_J l z D X 300 1600 (pm_Q z D (fun o n' M' => ∃ n, o = .inl (some (.ref (z + 0))) ∧ 0 < n ∧ n ≤ 7 ∧ pw_D z kA kE 19404 n (0, []) [] n' M') 300 1600 X) (pw_W z kA kE (n * 693 + 693 + i * 693, r, hs, (0, [])) []) (3 * (k + 1) - (0) + 0) (12 * (k + 1) - (0) + 0) 204 [some (.ref (kE 70)), some (.ref (z + 0)), some (.int (pm_ush (pw_ce kE 0) 1)), some (.int (nI n)), none, some (.int (nI i)), none, none, none] [.int ((if ((pm_ush (pw_ce kE 0) 1) - (pm_ush (pw_ce kE 0) 1) / 2 * 2) = 0 then 301 else 60) : Int32), .int (pm_ush (pm_ush (pw_ce kE (8 + i)) 1) 8), .ref (z + 0)] by
              refine pw_l2 (fun _ _ _ _ k1 k2 => pm_if_ne (tgt := 202) B9 dL_drawn_193 (by decide) k1 k2) (fun hq13 => ?_) (fun hq13 => ?_)
              · refine pw_l (fun _ _ _ _ k => pm_bipush (v := 60) B9 dL_drawn_202 (by decide) k) ?_
                refine pw_l (fun _ _ _ _ k => pm_wk (L' := [some (.ref (kE 70)), some (.ref (z + 0)), some (.int (pm_ush (pw_ce kE 0) 1)), some (.int (nI n)), none, some (.int (nI i)), none, none, none]) ⟨rfl, ⟨rfl, ⟨rfl, ⟨rfl, ⟨rfl, trivial⟩⟩⟩⟩⟩ k) ?_
                exact pw_cr (by omega) (by omega) (pw_eq (by first | with_reducible rfl | ((try rw [if_neg hq13]); done) | simp only [if_neg hq13]) (by first | with_reducible rfl | ((try rw [if_neg hq13]); done) | simp only [if_neg hq13]) (by first | with_reducible rfl | ((try rw [if_neg hq13]); done) | simp only [if_neg hq13]) hj12)
              · refine pw_l (fun _ _ _ _ k => pm_sipush (v := 301) B9 dL_drawn_196 (by decide) k) ?_
                refine pw_l (fun _ _ _ _ k => pm_goto (tgt := 204) B9 dL_drawn_199 (by decide) k) ?_
                refine pw_l (fun _ _ _ _ k => pm_wk (L' := [some (.ref (kE 70)), some (.ref (z + 0)), some (.int (pm_ush (pw_ce kE 0) 1)), some (.int (nI n)), none, some (.int (nI i)), none, none, none]) ⟨rfl, ⟨rfl, ⟨rfl, ⟨rfl, ⟨rfl, trivial⟩⟩⟩⟩⟩ k) ?_
                exact pw_cr (by omega) (by omega) (pw_eq (by first | with_reducible rfl | ((try rw [if_pos hq13]); done) | simp only [if_pos hq13]) (by first | with_reducible rfl | ((try rw [if_pos hq13]); done) | simp only [if_pos hq13]) (by first | with_reducible rfl | ((try rw [if_pos hq13]); done) | simp only [if_pos hq13]) hj12)
            have hm2 : ¬ ((if ((pm_ush (pw_ce kE 0) 1) - (pm_ush (pw_ce kE 0) 1) / 2 * 2) = 0 then 301 else 60) : Int32) = 0 := hm1 _
            refine pw_l (fun _ _ _ _ k => pm_irem B9 dL_drawn_204 (by first | decide | assumption) k) ?_
            obtain ⟨t, ht, et⟩ : ∃ t, t < 301 ∧ ((pm_ush (pm_ush (pw_ce kE (8 + i)) 1) 8) - (pm_ush (pm_ush (pw_ce kE (8 + i)) 1) 8) / ((if ((pm_ush (pw_ce kE 0) 1) - (pm_ush (pw_ce kE 0) 1) / 2 * 2) = 0 then 301 else 60) : Int32) * ((if ((pm_ush (pw_ce kE 0) 1) - (pm_ush (pw_ce kE 0) 1) / 2 * 2) = 0 then 301 else 60) : Int32)) = nI t := pw_mdi (pw_ushg _ 8 8 (by decide) (by decide) (by decide)) _ 301 60 301 (by decide) (by decide) (by decide)
            refine pw_l (fun _ _ _ _ k => pm_stk (st' := [.int (nI t), .ref (z + 0)]) (congrArg (fun yy : Int32 => ([.int yy, .ref (z + 0)] : List Value)) (show ((pm_ush (pm_ush (pw_ce kE (8 + i)) 1) 8) - (pm_ush (pm_ush (pw_ce kE (8 + i)) 1) 8) / ((if ((pm_ush (pw_ce kE 0) 1) - (pm_ush (pw_ce kE 0) 1) / 2 * 2) = 0 then 301 else 60) : Int32) * ((if ((pm_ush (pw_ce kE 0) 1) - (pm_ush (pw_ce kE 0) 1) / 2 * 2) = 0 then 301 else 60) : Int32)) = (nI t) from et)) k) ?_
            refine pw_cSWx (As := [.ref (z + 0), .int (nI t)]) (c2 := (3 * (k + 1) - (3) + 0)) (s2 := (12 * (k + 1) - (12) + 0)) B9 (b_L_assign hI) mt_L_assign ss_L_162 dL_drawn_205 rfl rfl rfl (by omega) (by omega) (fun v9 => ?_)
            refine pw_l (fun _ _ _ _ k => pm_stk (st' := [.int v9]) rfl k) ?_
            refine pw_cgD (by decide) h0 (pw_nv1 (pw_d1 (by omega))) fun hv => ?_
            refine pw_l (fun _ _ _ _ k => pm_goto (tgt := 340) B9 dL_drawn_208 (by decide) k) ?_
            exact pw_cr (by omega) (by omega) (hj _ hv)
        · refine pw_l (fun _ _ _ _ k => pm_aload_n B9 dL_drawn_158 rfl k) ?_
          refine pw_l (fun _ _ _ _ k => pm_iload B9 dL_drawn_159 rfl k) ?_
          refine pw_l (fun _ _ _ _ k => pm_iconst (v := 1) B9 dL_drawn_161 (by decide) k) ?_
          refine pw_l (fun _ _ _ _ k => pm_iload B9 dL_drawn_162 rfl k) ?_
          refine pw_l (fun _ _ _ _ k => pm_bipush (v := 8) B9 dL_drawn_164 (by decide) k) ?_
          refine pw_l (fun _ _ _ _ k => pm_iushr B9 dL_drawn_166 k) ?_
          refine pw_l (fun _ _ _ _ k => pm_bipush (v := 30) B9 dL_drawn_167 (by decide) k) ?_
          refine pw_l (fun _ _ _ _ k => pm_irem B9 dL_drawn_169 (by first | decide | assumption) k) ?_
          obtain ⟨t, ht, et⟩ : ∃ t, t < 30 ∧ ((pm_ush (pm_ush (pw_ce kE (8 + i)) 1) 8) - (pm_ush (pm_ush (pw_ce kE (8 + i)) 1) 8) / 30 * 30) = nI t := pw_md (pw_ushg _ 8 8 (by decide) (by decide) (by decide)) (by decide) (by decide)
          refine pw_l (fun _ _ _ _ k => pm_stk (st' := [.int (nI t), .int 1, .int (nI mi), .ref (z + 0)]) (congrArg (fun yy : Int32 => ([.int yy, .int 1, .int (nI mi), .ref (z + 0)] : List Value)) (show ((pm_ush (pm_ush (pw_ce kE (8 + i)) 1) 8) - (pm_ush (pm_ush (pw_ce kE (8 + i)) 1) 8) / 30 * 30) = (nI t) from et)) k) ?_
          refine pw_l (fun _ _ _ _ k => pm_iadd B9 dL_drawn_170 k) ?_
          refine pw_l (fun _ _ _ _ k => pm_stk (st' := [.int (nI (1 + t)), .int (nI mi), .ref (z + 0)]) (by rw [show (1 + (nI t)) = (nI (1 + t)) from (by rw [show 1 = nI 1 from rfl, show (nI t) = nI t from rfl, nI_add])]) k) ?_
          refine pw_cSWx (As := [.ref (z + 0), .int (nI mi), .int (nI (1 + t))]) (c2 := (3 * (k + 1) - (3) + 0)) (s2 := (12 * (k + 1) - (12) + 0)) B9 (b_L_sell hI) mt_L_sell ss_L_160 dL_drawn_171 rfl rfl rfl (by omega) (by omega) (fun v9 => ?_)
          refine pw_l (fun _ _ _ _ k => pm_stk (st' := [.int v9]) rfl k) ?_
          refine pw_cgD (by decide) h0 (pw_nv3 (pw_d3 hmi h7)) fun hv => ?_
          refine pw_l (fun _ _ _ _ k => pm_goto (tgt := 340) B9 dL_drawn_174 (by decide) k) ?_
          refine pw_l (fun _ _ _ _ k => pm_wk (L' := [some (.ref (kE 70)), some (.ref (z + 0)), some (.int (pm_ush (pw_ce kE 0) 1)), some (.int (nI n)), none, some (.int (nI i)), none, none, none]) ⟨rfl, ⟨rfl, ⟨rfl, ⟨rfl, ⟨rfl, trivial⟩⟩⟩⟩⟩ k) ?_
          exact pw_cr (by omega) (by omega) (hj _ hv)
    exact pw_cr (by omega) (by omega) (pw_wk (W' := (pw_D z kA kE (n * 693 + 693 + 0 * 693) n (0, []) [])) (fun _ _ h => pw_DB (by omega) h) (out2 20 0 (by omega)))
  have out1 : ∀ k j, j + k = n → pw_J l z D X 300 1600 (pm_Q z D (fun o n' M' => ∃ n, o = .inl (some (.ref (z + 0))) ∧ 0 < n ∧ n ≤ 7 ∧ pw_D z kA kE 19404 n (0, []) [] n' M') 300 1600 X) (pw_D z kA kE (j * 693) j (0, []) []) (3 * k + 63 - (0) + 0) (12 * k + 252 - (0) + 0) 26 [some (.ref (kE 70)), some (.ref (z + 0)), some (.int (pm_ush (pw_ce kE 0) 1)), some (.int (nI n)), some (.int (nI j)), none, none, none, none] [] := by
    intro k
    induction k with
    | zero =>
      intro j hjk
      obtain rfl : j = n := by omega
      refine pw_l (fun _ _ _ _ k => pm_iload B9 dL_drawn_26 rfl k) ?_
      refine pw_l (fun _ _ _ _ k => pm_iload_n B9 dL_drawn_28 rfl k) ?_
      refine pw_l (fun _ _ _ _ k => pm_icmp_ge (tgt := 100) B9 dL_drawn_29 (by decide) (fun _ => k) (fun h => absurd ((Int32.le_refl _)) h)) ?_
      refine pw_l (fun _ _ _ _ k => pm_wk (L' := [some (.ref (kE 70)), some (.ref (z + 0)), some (.int (pm_ush (pw_ce kE 0) 1)), some (.int (nI j)), none, none, none, none, none]) ⟨rfl, ⟨rfl, ⟨rfl, ⟨rfl, trivial⟩⟩⟩⟩ k) ?_
      exact pw_cr (by omega) (by omega) rest
    | succ k ih1 =>
      intro j hjk
      refine pw_dJ (by omega) fun r hs h0 hI => ?_
      refine pw_l (fun _ _ _ _ k => pm_iload B9 dL_drawn_26 rfl k) ?_
      refine pw_l (fun _ _ _ _ k => pm_iload_n B9 dL_drawn_28 rfl k) ?_
      refine pw_l (fun _ _ _ _ k => pm_icmp_ge (tgt := 100) B9 dL_drawn_29 (by decide) (fun h => absurd h ((fun e => absurd ((nI_leI (a := n) (b := j) (by omega) (by omega)).mp e) (by omega)))) (fun _ => k)) ?_
      refine pw_l (fun _ _ _ _ k => pm_aload_n B9 dL_drawn_32 rfl k) ?_
      refine pw_l (fun _ _ _ _ k => pm_iconst (v := 1) B9 dL_drawn_33 (by decide) k) ?_
      refine pw_l (fun _ _ _ _ k => pm_iload B9 dL_drawn_34 rfl k) ?_
      refine pw_l (fun _ _ _ _ k => pm_iadd B9 dL_drawn_36 k) ?_
      refine pw_l (fun _ _ _ _ k => pm_stk (st' := [.int (nI (1 + j)), .ref (kE 70)]) (by rw [show (1 + (nI j)) = (nI (1 + j)) from (by rw [show 1 = nI 1 from rfl, show (nI j) = nI j from rfl, nI_add])]) k) ?_
      refine pw_cS (As := [.ref (kE 70), .int (nI (1 + j))]) (c2 := (3 * (k + 1) + 63 - (0) + 0)) (s2 := (12 * (k + 1) + 252 - (0) + 0)) B9 (c_L_cell (k := 1 + j) (by omega)) mt_L_cell ss_L_150 dL_drawn_37 rfl rfl rfl (by omega) (by omega) ?_
      refine pw_l (fun _ _ _ _ k => pm_stk (st' := [.int (pw_ce kE (1 + j))]) rfl k) ?_
      refine pw_l (fun _ _ _ _ k => pm_iconst (v := 1) B9 dL_drawn_40 (by decide) k) ?_
      refine pw_l (fun _ _ _ _ k => pm_iushr B9 dL_drawn_41 k) ?_
      refine pw_l (fun _ _ _ _ k => pm_istore B9 dL_drawn_42 rfl rfl k) ?_
      refine pw_l (fun _ _ _ _ k => pm_loc (L' := [some (.ref (kE 70)), some (.ref (z + 0)), some (.int (pm_ush (pw_ce kE 0) 1)), some (.int (nI n)), some (.int (nI j)), some (.int (pm_ush (pw_ce kE (1 + j)) 1)), none, none, none]) rfl k) ?_
      refine pw_l (fun _ _ _ _ k => pm_aload_n B9 dL_drawn_44 rfl k) ?_
      refine pw_l (fun _ _ _ _ k => pm_iconst (v := 1) B9 dL_drawn_45 (by decide) k) ?_
      refine pw_l (fun _ _ _ _ k => pm_iload B9 dL_drawn_46 rfl k) ?_
      refine pw_l (fun _ _ _ _ k => pm_iload_n B9 dL_drawn_48 rfl k) ?_
      refine pw_l (fun _ _ _ _ k => pm_iconst (v := 3) B9 dL_drawn_49 (by decide) k) ?_
      refine pw_l (fun _ _ _ _ k => pm_irem B9 dL_drawn_50 (by first | decide | assumption) k) ?_
      have hm1 : ∀ p : Prop, [Decidable p] → ¬ ((if p then 99 else 30 : Int32)) = 0 := fun p _ => by split <;> decide
      have hm2 : ∀ p : Prop, [Decidable p] → ¬ ((if p then 20 else 6 : Int32)) = 0 := fun p _ => by split <;> decide
      suffices hj16 : pw_J l z D X 300 1600 (pm_Q z D (fun o n' M' => ∃ n, o = .inl (some (.ref (z + 0))) ∧ 0 < n ∧ n ≤ 7 ∧ pw_D z kA kE 19404 n (0, []) [] n' M') 300 1600 X) (pw_W z kA kE (j * 693, r, hs, (0, [])) []) (3 * (k + 1) + 63 - (0) + 0) (12 * (k + 1) + 252 - (0) + 0) 61 [some (.ref (kE 70)), some (.ref (z + 0)), some (.int (pm_ush (pw_ce kE 0) 1)), some (.int (nI n)), some (.int (nI j)), some (.int (pm_ush (pw_ce kE (1 + j)) 1)), none, none, none] [.int ((if ((pm_ush (pw_ce kE 0) 1) - (pm_ush (pw_ce kE 0) 1) / 3 * 3) = 0 then 99 else 30) : Int32), .int (pm_ush (pw_ce kE (1 + j)) 1), .int 1, .ref (z + 0)] by
        refine pw_l2 (fun _ _ _ _ k1 k2 => pm_if_ne (tgt := 59) B9 dL_drawn_51 (by decide) k1 k2) (fun hq17 => ?_) (fun hq17 => ?_)
        · refine pw_l (fun _ _ _ _ k => pm_bipush (v := 30) B9 dL_drawn_59 (by decide) k) ?_
          exact pw_cr (by omega) (by omega) (pw_eq (by first | with_reducible rfl | ((try rw [if_neg hq17]); done) | simp only [if_neg hq17]) (by first | with_reducible rfl | ((try rw [if_neg hq17]); done) | simp only [if_neg hq17]) (by first | with_reducible rfl | ((try rw [if_neg hq17]); done) | simp only [if_neg hq17]) hj16)
        · refine pw_l (fun _ _ _ _ k => pm_bipush (v := 99) B9 dL_drawn_54 (by decide) k) ?_
          refine pw_l (fun _ _ _ _ k => pm_goto (tgt := 61) B9 dL_drawn_56 (by decide) k) ?_
          exact pw_cr (by omega) (by omega) (pw_eq (by first | with_reducible rfl | ((try rw [if_pos hq17]); done) | simp only [if_pos hq17]) (by first | with_reducible rfl | ((try rw [if_pos hq17]); done) | simp only [if_pos hq17]) (by first | with_reducible rfl | ((try rw [if_pos hq17]); done) | simp only [if_pos hq17]) hj16)
      have hm3 : ¬ ((if ((pm_ush (pw_ce kE 0) 1) - (pm_ush (pw_ce kE 0) 1) / 3 * 3) = 0 then 99 else 30) : Int32) = 0 := hm1 _
      refine pw_l (fun _ _ _ _ k => pm_irem B9 dL_drawn_61 (by first | decide | assumption) k) ?_
      obtain ⟨t1, ht1, et1⟩ : ∃ t, t < 99 ∧ ((pm_ush (pw_ce kE (1 + j)) 1) - (pm_ush (pw_ce kE (1 + j)) 1) / ((if ((pm_ush (pw_ce kE 0) 1) - (pm_ush (pw_ce kE 0) 1) / 3 * 3) = 0 then 99 else 30) : Int32) * ((if ((pm_ush (pw_ce kE 0) 1) - (pm_ush (pw_ce kE 0) 1) / 3 * 3) = 0 then 99 else 30) : Int32)) = nI t := pw_mdi (pw_ushg _ 1 1 (by decide) (by decide) (by decide)) _ 99 30 99 (by decide) (by decide) (by decide)
      refine pw_l (fun _ _ _ _ k => pm_stk (st' := [.int (nI t1), .int 1, .ref (z + 0)]) (congrArg (fun yy : Int32 => ([.int yy, .int 1, .ref (z + 0)] : List Value)) (show ((pm_ush (pw_ce kE (1 + j)) 1) - (pm_ush (pw_ce kE (1 + j)) 1) / ((if ((pm_ush (pw_ce kE 0) 1) - (pm_ush (pw_ce kE 0) 1) / 3 * 3) = 0 then 99 else 30) : Int32) * ((if ((pm_ush (pw_ce kE 0) 1) - (pm_ush (pw_ce kE 0) 1) / 3 * 3) = 0 then 99 else 30) : Int32)) = (nI t1) from et1)) k) ?_
      refine pw_l (fun _ _ _ _ k => pm_iadd B9 dL_drawn_62 k) ?_
      refine pw_l (fun _ _ _ _ k => pm_iconst (v := 1) B9 dL_drawn_63 (by decide) k) ?_
      refine pw_l (fun _ _ _ _ k => pm_iload B9 dL_drawn_64 rfl k) ?_
      refine pw_l (fun _ _ _ _ k => pm_bipush (v := 8) B9 dL_drawn_66 (by decide) k) ?_
      refine pw_l (fun _ _ _ _ k => pm_iushr B9 dL_drawn_68 k) ?_
      refine pw_l (fun _ _ _ _ k => pm_iload_n B9 dL_drawn_69 rfl k) ?_
      refine pw_l (fun _ _ _ _ k => pm_iconst (v := 5) B9 dL_drawn_70 (by decide) k) ?_
      refine pw_l (fun _ _ _ _ k => pm_irem B9 dL_drawn_71 (by first | decide | assumption) k) ?_
      suffices hj18 : pw_J l z D X 300 1600 (pm_Q z D (fun o n' M' => ∃ n, o = .inl (some (.ref (z + 0))) ∧ 0 < n ∧ n ≤ 7 ∧ pw_D z kA kE 19404 n (0, []) [] n' M') 300 1600 X) (pw_W z kA kE (j * 693, r, hs, (0, [])) []) (3 * (k + 1) + 63 - (0) + 0) (12 * (k + 1) + 252 - (0) + 0) 82 [some (.ref (kE 70)), some (.ref (z + 0)), some (.int (pm_ush (pw_ce kE 0) 1)), some (.int (nI n)), some (.int (nI j)), none, none, none, none] [.int ((if ((pm_ush (pw_ce kE 0) 1) - (pm_ush (pw_ce kE 0) 1) / 5 * 5) = 0 then 20 else 6) : Int32), .int (pm_ush (pm_ush (pw_ce kE (1 + j)) 1) 8), .int 1, .int (1 + (nI t1)), .ref (z + 0)] by
        refine pw_l2 (fun _ _ _ _ k1 k2 => pm_if_ne (tgt := 80) B9 dL_drawn_72 (by decide) k1 k2) (fun hq19 => ?_) (fun hq19 => ?_)
        · refine pw_l (fun _ _ _ _ k => pm_bipush (v := 6) B9 dL_drawn_80 (by decide) k) ?_
          refine pw_l (fun _ _ _ _ k => pm_wk (L' := [some (.ref (kE 70)), some (.ref (z + 0)), some (.int (pm_ush (pw_ce kE 0) 1)), some (.int (nI n)), some (.int (nI j)), none, none, none, none]) ⟨rfl, ⟨rfl, ⟨rfl, ⟨rfl, ⟨rfl, trivial⟩⟩⟩⟩⟩ k) ?_
          exact pw_cr (by omega) (by omega) (pw_eq (by first | with_reducible rfl | ((try rw [if_neg hq19]); done) | simp only [if_neg hq19]) (by first | with_reducible rfl | ((try rw [if_neg hq19]); done) | simp only [if_neg hq19]) (by first | with_reducible rfl | ((try rw [if_neg hq19]); done) | simp only [if_neg hq19]) hj18)
        · refine pw_l (fun _ _ _ _ k => pm_bipush (v := 20) B9 dL_drawn_75 (by decide) k) ?_
          refine pw_l (fun _ _ _ _ k => pm_goto (tgt := 82) B9 dL_drawn_77 (by decide) k) ?_
          refine pw_l (fun _ _ _ _ k => pm_wk (L' := [some (.ref (kE 70)), some (.ref (z + 0)), some (.int (pm_ush (pw_ce kE 0) 1)), some (.int (nI n)), some (.int (nI j)), none, none, none, none]) ⟨rfl, ⟨rfl, ⟨rfl, ⟨rfl, ⟨rfl, trivial⟩⟩⟩⟩⟩ k) ?_
          exact pw_cr (by omega) (by omega) (pw_eq (by first | with_reducible rfl | ((try rw [if_pos hq19]); done) | simp only [if_pos hq19]) (by first | with_reducible rfl | ((try rw [if_pos hq19]); done) | simp only [if_pos hq19]) (by first | with_reducible rfl | ((try rw [if_pos hq19]); done) | simp only [if_pos hq19]) hj18)
      have hm4 : ¬ ((if ((pm_ush (pw_ce kE 0) 1) - (pm_ush (pw_ce kE 0) 1) / 5 * 5) = 0 then 20 else 6) : Int32) = 0 := hm2 _
      refine pw_l (fun _ _ _ _ k => pm_irem B9 dL_drawn_82 (by first | decide | assumption) k) ?_
      obtain ⟨t2, ht2, et2⟩ : ∃ t, t < 20 ∧ ((pm_ush (pm_ush (pw_ce kE (1 + j)) 1) 8) - (pm_ush (pm_ush (pw_ce kE (1 + j)) 1) 8) / ((if ((pm_ush (pw_ce kE 0) 1) - (pm_ush (pw_ce kE 0) 1) / 5 * 5) = 0 then 20 else 6) : Int32) * ((if ((pm_ush (pw_ce kE 0) 1) - (pm_ush (pw_ce kE 0) 1) / 5 * 5) = 0 then 20 else 6) : Int32)) = nI t := pw_mdi (pw_ushg _ 8 8 (by decide) (by decide) (by decide)) _ 20 6 20 (by decide) (by decide) (by decide)
      refine pw_l (fun _ _ _ _ k => pm_stk (st' := [.int (nI t2), .int 1, .int (1 + (nI t1)), .ref (z + 0)]) (congrArg (fun yy : Int32 => ([.int yy, .int 1, .int (1 + (nI t1)), .ref (z + 0)] : List Value)) (show ((pm_ush (pm_ush (pw_ce kE (1 + j)) 1) 8) - (pm_ush (pm_ush (pw_ce kE (1 + j)) 1) 8) / ((if ((pm_ush (pw_ce kE 0) 1) - (pm_ush (pw_ce kE 0) 1) / 5 * 5) = 0 then 20 else 6) : Int32) * ((if ((pm_ush (pw_ce kE 0) 1) - (pm_ush (pw_ce kE 0) 1) / 5 * 5) = 0 then 20 else 6) : Int32)) = (nI t2) from et2)) k) ?_
      refine pw_l (fun _ _ _ _ k => pm_iadd B9 dL_drawn_83 k) ?_
      refine pw_l (fun _ _ _ _ k => pm_stk (st' := [.int (nI (1 + t2)), .int (nI (1 + t1)), .ref (z + 0)]) (by rw [show (1 + (nI t1)) = (nI (1 + t1)) from (by rw [show 1 = nI 1 from rfl, show (nI t1) = nI t1 from rfl, nI_add]), show (1 + (nI t2)) = (nI (1 + t2)) from (by rw [show 1 = nI 1 from rfl, show (nI t2) = nI t2 from rfl, nI_add])]) k) ?_
      refine pw_cSWx (As := [.ref (z + 0), .int (nI (1 + t1)), .int (nI (1 + t2))]) (c2 := (3 * (k + 1) + 63 - (3) + 0)) (s2 := (12 * (k + 1) + 252 - (12) + 0)) B9 (b_L_addMember hI) mt_L_addMember ss_L_154 dL_drawn_84 rfl rfl rfl (by omega) (by omega) (fun v9 => ?_)
      refine pw_l (fun _ _ _ _ k => pm_stk (st' := [.int v9]) rfl k) ?_
      refine pw_cg0 (pw_j0 (by omega) (by omega) (by omega)) fun hv => ?_
      refine pw_l (fun _ _ _ _ k => pm_iload B9 dL_drawn_87 rfl k) ?_
      refine pw_l (fun _ _ _ _ k => pm_icmp_eq (tgt := 94) B9 dL_drawn_89 (by decide) (fun _ => k) (fun h => absurd (hv) h)) ?_
      refine pw_l (fun _ _ _ _ k => pm_iinc B9 dL_drawn_94 rfl rfl rfl k) ?_
      refine pw_l (fun _ _ _ _ k => pm_loc (L' := [some (.ref (kE 70)), some (.ref (z + 0)), some (.int (pm_ush (pw_ce kE 0) 1)), some (.int (nI n)), some (.int (nI (j + 1))), none, none, none, none]) (by rw [show ((nI j) : Int32) + Int32.ofInt 1 = (nI (j + 1)) from nI_1 _]; rfl) k) ?_
      refine pw_l (fun _ _ _ _ k => pm_goto (tgt := 26) B9 dL_drawn_97 (by decide) k) ?_
      exact pw_cr (by omega) (by omega) (pw_wk (W' := (pw_D z kA kE ((j + 1) * 693) (j + 1) (0, []) [])) (fun _ _ h => pw_DB (by omega) h) (ih1 (j + 1) (by omega)))
  exact pw_cr (by omega) (by omega) (pw_wk (W' := (pw_D z kA kE (0 * 693) 0 (0, []) [])) (fun _ _ h => pw_DB (by omega) h) (out1 n 0 (by omega)))
