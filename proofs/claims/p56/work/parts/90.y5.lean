/-! undone -/
def pw_hs (d : Nat) (hs : List (Nat → Int32)) (f : Nat → Int64) : Prop := d ≤ hs.length ∧ ∀ p, p < d → f (d - 1 - p) = v_L_sum (pm_n ((hs.getD p (fun _ => 0)) 0)) (hs.getD p (fun _ => 0))
def pw_U (z : Nat) (kA : Nat → ClassId) (kE : Nat → Nat) (w d : Nat) (nx : Nat) (M : pm_M) : Prop := ∃ B r hs ln f, pw_hs d hs f ∧ pw_W z kA kE (B, r, hs, (0, ln)) [(w, .inl (kA 1, 9, .inr (.inl f)))] nx M
def pw_V (z : Nat) (kA : Nat → ClassId) (kE : Nat → Nat) (w d : Nat) (v : Int32) (nx : Nat) (M : pm_M) : Prop := (¬ v < 0 ∧ pw_U z kA kE w (d + 1) nx M) ∨ (v < 0 ∧ ∃ B r hs ln f, pw_hs d hs f ∧ f d = v_L_sum (pm_n (r 0)) r ∧ pw_W z kA kE (B, r, hs, (0, ln)) [(w, .inl (kA 1, 9, .inr (.inl f)))] nx M)
theorem pw_uJ {l : Launch} {z : Nat} {D : va_G} {X : pm_X} {mc ms : Nat} {Q : State → Prop} {c1 s1 pc : Nat} {L : List (Option Value)} {st : List Value} {kA : Nat → ClassId} {kE : Nat → Nat} {w d : Nat} (k : ∀ B r hs ln f, pw_hs d hs f → pw_J l z D X mc ms Q (pw_W z kA kE (B, r, hs, (0, ln)) [(w, .inl (kA 1, 9, .inr (.inl f)))]) c1 s1 pc L st) : pw_J l z D X mc ms Q (pw_U z kA kE w d) c1 s1 pc L st := by
  intro cu su nx M h1 h2 ⟨B, r, hs, ln, f, h3, hW⟩
  exact k B r hs ln f h3 cu su nx M h1 h2 hW
theorem pw_vJ {l : Launch} {z : Nat} {D : va_G} {X : pm_X} {mc ms : Nat} {Q : State → Prop} {c1 s1 pc : Nat} {L : List (Option Value)} {st : List Value} {kA : Nat → ClassId} {kE : Nat → Nat} {w d : Nat} {v : Int32} (k1 : ¬ v < 0 → pw_J l z D X mc ms Q (pw_U z kA kE w (d + 1)) c1 s1 pc L st) (k2 : v < 0 → ∀ B r hs ln f, pw_hs d hs f → f d = v_L_sum (pm_n (r 0)) r → pw_J l z D X mc ms Q (pw_W z kA kE (B, r, hs, (0, ln)) [(w, .inl (kA 1, 9, .inr (.inl f)))]) c1 s1 pc L st) : pw_J l z D X mc ms Q (pw_V z kA kE w d v) c1 s1 pc L st := by
  intro cu su nx M h1 h2 hV
  rcases hV with ⟨h3, hW⟩ | ⟨h3, B, r, hs, ln, f, h4, h5, hW⟩
  · exact k1 h3 cu su nx M h1 h2 hW
  · exact k2 h3 B r hs ln f h4 h5 cu su nx M h1 h2 hW
theorem pw_rJ {l : Launch} {z : Nat} {D : va_G} {X : pm_X} {mc ms : Nat} {Q : State → Prop} {c1 s1 pc : Nat} {L : List (Option Value)} {st : List Value} {kA : Nat → ClassId} {kE : Nat → Nat} {B : Nat} {r : Nat → Int32} {hs : List (Nat → Int32)} {u : Nat × List Nat} {ar : List (Nat × va_E)} (k : pw_r B r → pw_J l z D X mc ms Q (pw_W z kA kE (B, r, hs, u) ar) c1 s1 pc L st) : pw_J l z D X mc ms Q (pw_W z kA kE (B, r, hs, u) ar) c1 s1 pc L st :=
  fun cu su nx M h1 h2 hW => k (pw_Wr hW) cu su nx M h1 h2 hW
theorem pw_hsP {d : Nat} {hs : List (Nat → Int32)} {f : Nat → Int64} {r : Nat → Int32} (h : pw_hs d hs f) (hf : f d = v_L_sum (pm_n (r 0)) r) (hd : d ≤ 7) : pw_hs (d + 1) ((r :: hs).take 8) f := by
  obtain ⟨h1, h2⟩ := h
  refine ⟨by rw [List.length_take, List.length_cons]; omega, fun p hp => ?_⟩
  have e : ((r :: hs).take 8).getD p (fun _ => 0) = (r :: hs).getD p (fun _ => 0) := by
    rw [List.getD_eq_getElem?_getD, List.getD_eq_getElem?_getD, List.getElem?_take, if_pos (by omega)]
  rw [e]
  cases p with
  | zero => exact hf
  | succ p =>
    have h9 := h2 p (by omega)
    rw [show d + 1 - 1 - (p + 1) = d - 1 - p by omega]
    exact h9
theorem pw_hsU {d : Nat} {hs : List (Nat → Int32)} {f : Nat → Int64} {S : Int64} (h : pw_hs d hs f) : pw_hs d hs (vp_updL f d S) ∧ vp_updL f d S d = S := by
  refine ⟨⟨h.1, fun p hp => ?_⟩, if_pos rfl⟩
  rw [← h.2 p hp]
  exact if_neg (by omega)
theorem pw_cgV {z : Nat} {kA : Nat → ClassId} {kE : Nat → Nat} {B n d w : Nat} {r : Nat → Int32} {hs : List (Nat → Int32)} {ln : List Nat} {f : Nat → Int64} {c : Nat} {x y v : Int32} {h : List (String × Int32)} {nx : Nat} {M : pm_M} (hn : ∀ e ∈ h, e.2 < 0) (hh : pw_hs d hs f) (hf : f d = v_L_sum (pm_n (r 0)) r) (hd : d ≤ 7) (H : pw_cg z kA kE B n r hs (0, ln) [(w, .inl (kA 1, 9, .inr (.inl f)))] c x y h v nx M) : pw_V z kA kE w d v nx M := by
  rcases H with ⟨-, r', h3, h4⟩ | ⟨-, ⟨e, he, h5, h6⟩, h4⟩
  · exact Or.inl ⟨h3.1, _, _, _, _, _, pw_hsP hh hf hd, h4⟩
  · exact Or.inr ⟨by rw [h6]; exact hn e he, _, _, _, _, _, hh, hf, h4⟩
theorem pw_egV {z : Nat} {kA : Nat → ClassId} {kE : Nat → Nat} {B d w : Nat} {r : Nat → Int32} {hs : List (Nat → Int32)} {ln : List Nat} {f : Nat → Int64} {v : Int32} {N : Nat} {e1 e2 : Nat × va_E} {nx : Nat} {M : pm_M} (hh : pw_hs d hs f) (hf : f d = v_L_sum (pm_n (r 0)) r) (hd : d ≤ 7) (H : pw_eg z kA kE B r hs (N, ln) (e1 :: e2 :: [(w, .inl (kA 1, 9, .inr (.inl f)))]) v nx M) : pw_V z kA kE w d v nx M := by
  rcases H with ⟨h3, r', h4⟩ | ⟨h3, h4⟩
  · exact Or.inl ⟨h3, _, _, _, _, _, pw_hsP hh hf hd, pw_drop h4 (.cons _ (.cons _ (List.Sublist.refl _)))⟩
  · exact Or.inr ⟨h3, _, _, _, _, _, hh, hf, pw_drop h4 (.cons _ (.cons _ (List.Sublist.refl _)))⟩
theorem pw_cloU {l : Launch} {z : Nat} {D : va_G} {kA : Nat → ClassId} {kE : Nat → Nat} {B n : Nat} {r : Nat → Int32} {hs : List (Nat → Int32)} {u : Nat × List Nat} {ar : List (Nat × va_E)} (hI : pm_I B n r) : ∀ nx M, (pw_W z kA kE (B, r, hs, u) ar) nx M → pm_C l z D kA kE yX12_close cX12_close 1 (some .int) 21 3 12 [.ref (z + 0)] nx M (fun o n' M' => ∃ v, o = .inl (some (.int v)) ∧ pw_cg z kA kE B n r hs u ar 5 0 0 [] v n' M') := by
  intro nx M hW
  refine pm_Cpost (a_X12_close hI nx M hW) fun o n' M' hp => ?_
  rcases hp with ⟨-, v, r', h1, h2, h3⟩ | ⟨h1, -⟩
  · exact ⟨v, h1, Or.inl ⟨rfl, r', h2, h3⟩⟩
  · exact absurd rfl h1
theorem pw_m1 (m : Nat) : nI (m + 1) - 1 = nI m := by
  rw [show (1 : Int32) = nI 1 from rfl, pq_sub (by omega)]
  rfl
theorem pw_hsJ {l : Launch} {z : Nat} {D : va_G} {X : pm_X} {mc ms : Nat} {Q : State → Prop} {c1 s1 pc : Nat} {L : List (Option Value)} {st : List Value} {kA : Nat → ClassId} {kE : Nat → Nat} {B : Nat} {r : Nat → Int32} {hs : List (Nat → Int32)} {u : Nat × List Nat} {ar : List (Nat × va_E)} (k : hs.length ≤ 8 → pw_J l z D X mc ms Q (pw_W z kA kE (B, r, hs, u) ar) c1 s1 pc L st) : pw_J l z D X mc ms Q (pw_W z kA kE (B, r, hs, u) ar) c1 s1 pc L st :=
  fun cu su nx M h1 h2 hW => k (by obtain ⟨-, -, -, g, -, hg⟩ := hW; exact hg.2.2.2.1.2.2.1) cu su nx M h1 h2 hW

theorem dL_undone_0 : decode cL_undone 0 = .ok (.bipush 9, 2) := by decide +kernel
theorem dL_undone_2 : decode cL_undone 2 = .ok (.newarray .long, 2) := by decide +kernel
theorem dL_undone_4 : decode cL_undone 4 = .ok (.astore_n 2, 1) := by decide +kernel
theorem dL_undone_5 : decode cL_undone 5 = .ok (.iconst 0, 1) := by decide +kernel
theorem dL_undone_6 : decode cL_undone 6 = .ok (.istore_n 3, 1) := by decide +kernel
theorem dL_undone_7 : decode cL_undone 7 = .ok (.iconst 0, 1) := by decide +kernel
theorem dL_undone_8 : decode cL_undone 8 = .ok (.istore 4, 2) := by decide +kernel
theorem dL_undone_10 : decode cL_undone 10 = .ok (.iload 4, 2) := by decide +kernel
theorem dL_undone_12 : decode cL_undone 12 = .ok (.bipush 7, 2) := by decide +kernel
theorem dL_undone_14 : decode cL_undone 14 = .ok (.if_icmp .ge 378, 3) := by decide +kernel
theorem dL_undone_17 : decode cL_undone 17 = .ok (.aload_n 0, 1) := by decide +kernel
theorem dL_undone_18 : decode cL_undone 18 = .ok (.bipush 32, 2) := by decide +kernel
theorem dL_undone_20 : decode cL_undone 20 = .ok (.iload 4, 2) := by decide +kernel
theorem dL_undone_22 : decode cL_undone 22 = .ok (.iadd, 1) := by decide +kernel
theorem dL_undone_23 : decode cL_undone 23 = .ok (.invokestatic 150, 3) := by decide +kernel
theorem dL_undone_26 : decode cL_undone 26 = .ok (.iconst 1, 1) := by decide +kernel
theorem dL_undone_27 : decode cL_undone 27 = .ok (.iushr, 1) := by decide +kernel
theorem dL_undone_28 : decode cL_undone 28 = .ok (.istore 5, 2) := by decide +kernel
theorem dL_undone_30 : decode cL_undone 30 = .ok (.iload 5, 2) := by decide +kernel
theorem dL_undone_32 : decode cL_undone 32 = .ok (.iconst 4, 1) := by decide +kernel
theorem dL_undone_33 : decode cL_undone 33 = .ok (.iushr, 1) := by decide +kernel
theorem dL_undone_34 : decode cL_undone 34 = .ok (.istore 6, 2) := by decide +kernel
theorem dL_undone_36 : decode cL_undone 36 = .ok (.aload_n 2, 1) := by decide +kernel
theorem dL_undone_37 : decode cL_undone 37 = .ok (.iload_n 3, 1) := by decide +kernel
theorem dL_undone_38 : decode cL_undone 38 = .ok (.aload_n 1, 1) := by decide +kernel
theorem dL_undone_39 : decode cL_undone 39 = .ok (.invokestatic 367, 3) := by decide +kernel
theorem dL_undone_42 : decode cL_undone 42 = .ok (.lastore, 1) := by decide +kernel
theorem dL_undone_43 : decode cL_undone 43 = .ok (.iload 5, 2) := by decide +kernel
theorem dL_undone_45 : decode cL_undone 45 = .ok (.bipush 13, 2) := by decide +kernel
theorem dL_undone_47 : decode cL_undone 47 = .ok (.irem, 1) := by decide +kernel
theorem dL_undone_48 : decode cL_undone 48 = .ok (.tableswitch 243 0 11 #[64, 86, 101, 101, 122, 136, 145, 166, 187, 201, 215, 230], 64) := by decide +kernel
theorem dL_undone_112 : decode cL_undone 112 = .ok (.aload_n 1, 1) := by decide +kernel
theorem dL_undone_113 : decode cL_undone 113 = .ok (.iload 6, 2) := by decide +kernel
theorem dL_undone_115 : decode cL_undone 115 = .ok (.bipush 101, 2) := by decide +kernel
theorem dL_undone_117 : decode cL_undone 117 = .ok (.irem, 1) := by decide +kernel
theorem dL_undone_118 : decode cL_undone 118 = .ok (.iload 6, 2) := by decide +kernel
theorem dL_undone_120 : decode cL_undone 120 = .ok (.bipush 7, 2) := by decide +kernel
theorem dL_undone_122 : decode cL_undone 122 = .ok (.iushr, 1) := by decide +kernel
theorem dL_undone_123 : decode cL_undone 123 = .ok (.bipush 22, 2) := by decide +kernel
theorem dL_undone_125 : decode cL_undone 125 = .ok (.irem, 1) := by decide +kernel
theorem dL_undone_126 : decode cL_undone 126 = .ok (.invokestatic 154, 3) := by decide +kernel
theorem dL_undone_129 : decode cL_undone 129 = .ok (.istore 7, 2) := by decide +kernel
theorem dL_undone_131 : decode cL_undone 131 = .ok (.goto 224, 3) := by decide +kernel
theorem dL_undone_134 : decode cL_undone 134 = .ok (.aload_n 1, 1) := by decide +kernel
theorem dL_undone_135 : decode cL_undone 135 = .ok (.iload 6, 2) := by decide +kernel
theorem dL_undone_137 : decode cL_undone 137 = .ok (.sipush 302, 3) := by decide +kernel
theorem dL_undone_140 : decode cL_undone 140 = .ok (.irem, 1) := by decide +kernel
theorem dL_undone_141 : decode cL_undone 141 = .ok (.invokestatic 162, 3) := by decide +kernel
theorem dL_undone_144 : decode cL_undone 144 = .ok (.istore 7, 2) := by decide +kernel
theorem dL_undone_146 : decode cL_undone 146 = .ok (.goto 209, 3) := by decide +kernel
theorem dL_undone_149 : decode cL_undone 149 = .ok (.aload_n 1, 1) := by decide +kernel
theorem dL_undone_150 : decode cL_undone 150 = .ok (.iload 6, 2) := by decide +kernel
theorem dL_undone_152 : decode cL_undone 152 = .ok (.bipush 8, 2) := by decide +kernel
theorem dL_undone_154 : decode cL_undone 154 = .ok (.irem, 1) := by decide +kernel
theorem dL_undone_155 : decode cL_undone 155 = .ok (.iload 6, 2) := by decide +kernel
theorem dL_undone_157 : decode cL_undone 157 = .ok (.iconst 3, 1) := by decide +kernel
theorem dL_undone_158 : decode cL_undone 158 = .ok (.iushr, 1) := by decide +kernel
theorem dL_undone_159 : decode cL_undone 159 = .ok (.bipush 101, 2) := by decide +kernel
theorem dL_undone_161 : decode cL_undone 161 = .ok (.irem, 1) := by decide +kernel
theorem dL_undone_162 : decode cL_undone 162 = .ok (.invokestatic 160, 3) := by decide +kernel
theorem dL_undone_165 : decode cL_undone 165 = .ok (.istore 7, 2) := by decide +kernel
theorem dL_undone_167 : decode cL_undone 167 = .ok (.goto 188, 3) := by decide +kernel
theorem dL_undone_170 : decode cL_undone 170 = .ok (.aload_n 1, 1) := by decide +kernel
theorem dL_undone_171 : decode cL_undone 171 = .ok (.iload 6, 2) := by decide +kernel
theorem dL_undone_173 : decode cL_undone 173 = .ok (.bipush 9, 2) := by decide +kernel
theorem dL_undone_175 : decode cL_undone 175 = .ok (.irem, 1) := by decide +kernel
theorem dL_undone_176 : decode cL_undone 176 = .ok (.invokestatic 164, 3) := by decide +kernel
theorem dL_undone_179 : decode cL_undone 179 = .ok (.istore 7, 2) := by decide +kernel
theorem dL_undone_181 : decode cL_undone 181 = .ok (.goto 174, 3) := by decide +kernel
theorem dL_undone_184 : decode cL_undone 184 = .ok (.aload_n 1, 1) := by decide +kernel
theorem dL_undone_185 : decode cL_undone 185 = .ok (.invokevirtual 166, 3) := by decide +kernel
theorem dL_undone_188 : decode cL_undone 188 = .ok (.istore 7, 2) := by decide +kernel
theorem dL_undone_190 : decode cL_undone 190 = .ok (.goto 165, 3) := by decide +kernel
theorem dL_undone_193 : decode cL_undone 193 = .ok (.aload_n 1, 1) := by decide +kernel
theorem dL_undone_194 : decode cL_undone 194 = .ok (.iload 6, 2) := by decide +kernel
theorem dL_undone_196 : decode cL_undone 196 = .ok (.bipush 8, 2) := by decide +kernel
theorem dL_undone_198 : decode cL_undone 198 = .ok (.irem, 1) := by decide +kernel
theorem dL_undone_199 : decode cL_undone 199 = .ok (.iload 6, 2) := by decide +kernel
theorem dL_undone_201 : decode cL_undone 201 = .ok (.iconst 3, 1) := by decide +kernel
theorem dL_undone_202 : decode cL_undone 202 = .ok (.iushr, 1) := by decide +kernel
theorem dL_undone_203 : decode cL_undone 203 = .ok (.bipush 8, 2) := by decide +kernel
theorem dL_undone_205 : decode cL_undone 205 = .ok (.irem, 1) := by decide +kernel
theorem dL_undone_206 : decode cL_undone 206 = .ok (.invokestatic 171, 3) := by decide +kernel
theorem dL_undone_209 : decode cL_undone 209 = .ok (.istore 7, 2) := by decide +kernel
theorem dL_undone_211 : decode cL_undone 211 = .ok (.goto 144, 3) := by decide +kernel
theorem dL_undone_214 : decode cL_undone 214 = .ok (.aload_n 1, 1) := by decide +kernel
theorem dL_undone_215 : decode cL_undone 215 = .ok (.iload 6, 2) := by decide +kernel
theorem dL_undone_217 : decode cL_undone 217 = .ok (.bipush 8, 2) := by decide +kernel
theorem dL_undone_219 : decode cL_undone 219 = .ok (.irem, 1) := by decide +kernel
theorem dL_undone_220 : decode cL_undone 220 = .ok (.iload 6, 2) := by decide +kernel
theorem dL_undone_222 : decode cL_undone 222 = .ok (.iconst 3, 1) := by decide +kernel
theorem dL_undone_223 : decode cL_undone 223 = .ok (.iushr, 1) := by decide +kernel
theorem dL_undone_224 : decode cL_undone 224 = .ok (.bipush 8, 2) := by decide +kernel
theorem dL_undone_226 : decode cL_undone 226 = .ok (.irem, 1) := by decide +kernel
theorem dL_undone_227 : decode cL_undone 227 = .ok (.invokestatic 371, 3) := by decide +kernel
theorem dL_undone_230 : decode cL_undone 230 = .ok (.istore 7, 2) := by decide +kernel
theorem dL_undone_232 : decode cL_undone 232 = .ok (.goto 123, 3) := by decide +kernel
theorem dL_undone_235 : decode cL_undone 235 = .ok (.aload_n 1, 1) := by decide +kernel
theorem dL_undone_236 : decode cL_undone 236 = .ok (.iload 6, 2) := by decide +kernel
theorem dL_undone_238 : decode cL_undone 238 = .ok (.bipush 8, 2) := by decide +kernel
theorem dL_undone_240 : decode cL_undone 240 = .ok (.irem, 1) := by decide +kernel
theorem dL_undone_241 : decode cL_undone 241 = .ok (.invokestatic 175, 3) := by decide +kernel
theorem dL_undone_244 : decode cL_undone 244 = .ok (.istore 7, 2) := by decide +kernel
theorem dL_undone_246 : decode cL_undone 246 = .ok (.goto 109, 3) := by decide +kernel
theorem dL_undone_249 : decode cL_undone 249 = .ok (.aload_n 1, 1) := by decide +kernel
theorem dL_undone_250 : decode cL_undone 250 = .ok (.iload 6, 2) := by decide +kernel
theorem dL_undone_252 : decode cL_undone 252 = .ok (.bipush 101, 2) := by decide +kernel
theorem dL_undone_254 : decode cL_undone 254 = .ok (.irem, 1) := by decide +kernel
theorem dL_undone_255 : decode cL_undone 255 = .ok (.invokestatic 173, 3) := by decide +kernel
theorem dL_undone_258 : decode cL_undone 258 = .ok (.istore 7, 2) := by decide +kernel
theorem dL_undone_260 : decode cL_undone 260 = .ok (.goto 95, 3) := by decide +kernel
theorem dL_undone_263 : decode cL_undone 263 = .ok (.aload_n 1, 1) := by decide +kernel
theorem dL_undone_264 : decode cL_undone 264 = .ok (.iload 6, 2) := by decide +kernel
theorem dL_undone_266 : decode cL_undone 266 = .ok (.sipush 1025, 3) := by decide +kernel
theorem dL_undone_269 : decode cL_undone 269 = .ok (.irem, 1) := by decide +kernel
theorem dL_undone_270 : decode cL_undone 270 = .ok (.invokestatic 157, 3) := by decide +kernel
theorem dL_undone_273 : decode cL_undone 273 = .ok (.istore 7, 2) := by decide +kernel
theorem dL_undone_275 : decode cL_undone 275 = .ok (.goto 80, 3) := by decide +kernel
theorem dL_undone_278 : decode cL_undone 278 = .ok (.aload_n 1, 1) := by decide +kernel
theorem dL_undone_279 : decode cL_undone 279 = .ok (.iload 6, 2) := by decide +kernel
theorem dL_undone_281 : decode cL_undone 281 = .ok (.iconst 3, 1) := by decide +kernel
theorem dL_undone_282 : decode cL_undone 282 = .ok (.irem, 1) := by decide +kernel
theorem dL_undone_283 : decode cL_undone 283 = .ok (.invokestatic 169, 3) := by decide +kernel
theorem dL_undone_286 : decode cL_undone 286 = .ok (.istore 7, 2) := by decide +kernel
theorem dL_undone_288 : decode cL_undone 288 = .ok (.goto 67, 3) := by decide +kernel
theorem dL_undone_291 : decode cL_undone 291 = .ok (.aload_n 1, 1) := by decide +kernel
theorem dL_undone_292 : decode cL_undone 292 = .ok (.new 320, 3) := by decide +kernel
theorem dL_undone_295 : decode cL_undone 295 = .ok (.dup, 1) := by decide +kernel
theorem dL_undone_296 : decode cL_undone 296 = .ok (.invokespecial 322, 3) := by decide +kernel
theorem dL_undone_299 : decode cL_undone 299 = .ok (.ldc_w 373, 3) := by decide +kernel
theorem dL_undone_302 : decode cL_undone 302 = .ok (.invokevirtual 329, 3) := by decide +kernel
theorem dL_undone_305 : decode cL_undone 305 = .ok (.iload 6, 2) := by decide +kernel
theorem dL_undone_307 : decode cL_undone 307 = .ok (.bipush 7, 2) := by decide +kernel
theorem dL_undone_309 : decode cL_undone 309 = .ok (.irem, 1) := by decide +kernel
theorem dL_undone_310 : decode cL_undone 310 = .ok (.invokevirtual 323, 3) := by decide +kernel
theorem dL_undone_313 : decode cL_undone 313 = .ok (.ldc_w 375, 3) := by decide +kernel
theorem dL_undone_316 : decode cL_undone 316 = .ok (.invokevirtual 329, 3) := by decide +kernel
theorem dL_undone_319 : decode cL_undone 319 = .ok (.iload 6, 2) := by decide +kernel
theorem dL_undone_321 : decode cL_undone 321 = .ok (.iconst 3, 1) := by decide +kernel
theorem dL_undone_322 : decode cL_undone 322 = .ok (.iushr, 1) := by decide +kernel
theorem dL_undone_323 : decode cL_undone 323 = .ok (.bipush 40, 2) := by decide +kernel
theorem dL_undone_325 : decode cL_undone 325 = .ok (.irem, 1) := by decide +kernel
theorem dL_undone_326 : decode cL_undone 326 = .ok (.invokevirtual 323, 3) := by decide +kernel
theorem dL_undone_329 : decode cL_undone 329 = .ok (.ldc_w 377, 3) := by decide +kernel
theorem dL_undone_332 : decode cL_undone 332 = .ok (.invokevirtual 329, 3) := by decide +kernel
theorem dL_undone_335 : decode cL_undone 335 = .ok (.iload 6, 2) := by decide +kernel
theorem dL_undone_337 : decode cL_undone 337 = .ok (.bipush 8, 2) := by decide +kernel
theorem dL_undone_339 : decode cL_undone 339 = .ok (.iushr, 1) := by decide +kernel
theorem dL_undone_340 : decode cL_undone 340 = .ok (.sipush 301, 3) := by decide +kernel
theorem dL_undone_343 : decode cL_undone 343 = .ok (.irem, 1) := by decide +kernel
theorem dL_undone_344 : decode cL_undone 344 = .ok (.invokevirtual 323, 3) := by decide +kernel
theorem dL_undone_347 : decode cL_undone 347 = .ok (.invokevirtual 336, 3) := by decide +kernel
theorem dL_undone_350 : decode cL_undone 350 = .ok (.invokestatic 379, 3) := by decide +kernel
theorem dL_undone_353 : decode cL_undone 353 = .ok (.istore 7, 2) := by decide +kernel
theorem dL_undone_355 : decode cL_undone 355 = .ok (.iload 7, 2) := by decide +kernel
theorem dL_undone_357 : decode cL_undone 357 = .ok (.ifCond .ge 16, 3) := by decide +kernel
theorem dL_undone_360 : decode cL_undone 360 = .ok (.aload_n 1, 1) := by decide +kernel
theorem dL_undone_361 : decode cL_undone 361 = .ok (.invokestatic 367, 3) := by decide +kernel
theorem dL_undone_364 : decode cL_undone 364 = .ok (.aload_n 2, 1) := by decide +kernel
theorem dL_undone_365 : decode cL_undone 365 = .ok (.iload_n 3, 1) := by decide +kernel
theorem dL_undone_366 : decode cL_undone 366 = .ok (.laload, 1) := by decide +kernel
theorem dL_undone_367 : decode cL_undone 367 = .ok (.lcmp, 1) := by decide +kernel
theorem dL_undone_368 : decode cL_undone 368 = .ok (.ifCond .eq 5, 3) := by decide +kernel
theorem dL_undone_371 : decode cL_undone 371 = .ok (.iconst 0, 1) := by decide +kernel
theorem dL_undone_372 : decode cL_undone 372 = .ok (.ireturn, 1) := by decide +kernel
theorem dL_undone_373 : decode cL_undone 373 = .ok (.iload_n 3, 1) := by decide +kernel
theorem dL_undone_374 : decode cL_undone 374 = .ok (.iload 7, 2) := by decide +kernel
theorem dL_undone_376 : decode cL_undone 376 = .ok (.ifCond .ge 7, 3) := by decide +kernel
theorem dL_undone_379 : decode cL_undone 379 = .ok (.iconst 0, 1) := by decide +kernel
theorem dL_undone_380 : decode cL_undone 380 = .ok (.goto 4, 3) := by decide +kernel
theorem dL_undone_383 : decode cL_undone 383 = .ok (.iconst 1, 1) := by decide +kernel
theorem dL_undone_384 : decode cL_undone 384 = .ok (.iadd, 1) := by decide +kernel
theorem dL_undone_385 : decode cL_undone 385 = .ok (.istore_n 3, 1) := by decide +kernel
theorem dL_undone_386 : decode cL_undone 386 = .ok (.iinc 4 1, 3) := by decide +kernel
theorem dL_undone_389 : decode cL_undone 389 = .ok (.goto (-379), 3) := by decide +kernel
theorem dL_undone_392 : decode cL_undone 392 = .ok (.iload_n 3, 1) := by decide +kernel
theorem dL_undone_393 : decode cL_undone 393 = .ok (.iconst 1, 1) := by decide +kernel
theorem dL_undone_394 : decode cL_undone 394 = .ok (.isub, 1) := by decide +kernel
theorem dL_undone_395 : decode cL_undone 395 = .ok (.istore 4, 2) := by decide +kernel
theorem dL_undone_397 : decode cL_undone 397 = .ok (.iload 4, 2) := by decide +kernel
theorem dL_undone_399 : decode cL_undone 399 = .ok (.ifCond .lt 30, 3) := by decide +kernel
theorem dL_undone_402 : decode cL_undone 402 = .ok (.aload_n 1, 1) := by decide +kernel
theorem dL_undone_403 : decode cL_undone 403 = .ok (.invokestatic 310, 3) := by decide +kernel
theorem dL_undone_406 : decode cL_undone 406 = .ok (.ifCond .lt 15, 3) := by decide +kernel
theorem dL_undone_409 : decode cL_undone 409 = .ok (.aload_n 1, 1) := by decide +kernel
theorem dL_undone_410 : decode cL_undone 410 = .ok (.invokestatic 367, 3) := by decide +kernel
theorem dL_undone_413 : decode cL_undone 413 = .ok (.aload_n 2, 1) := by decide +kernel
theorem dL_undone_414 : decode cL_undone 414 = .ok (.iload 4, 2) := by decide +kernel
theorem dL_undone_416 : decode cL_undone 416 = .ok (.laload, 1) := by decide +kernel
theorem dL_undone_417 : decode cL_undone 417 = .ok (.lcmp, 1) := by decide +kernel
theorem dL_undone_418 : decode cL_undone 418 = .ok (.ifCond .eq 5, 3) := by decide +kernel
theorem dL_undone_421 : decode cL_undone 421 = .ok (.iconst 0, 1) := by decide +kernel
theorem dL_undone_422 : decode cL_undone 422 = .ok (.ireturn, 1) := by decide +kernel
theorem dL_undone_423 : decode cL_undone 423 = .ok (.iinc 4 (-1), 3) := by decide +kernel
theorem dL_undone_426 : decode cL_undone 426 = .ok (.goto (-29), 3) := by decide +kernel
theorem dL_undone_429 : decode cL_undone 429 = .ok (.iconst 1, 1) := by decide +kernel
theorem dL_undone_430 : decode cL_undone 430 = .ok (.ireturn, 1) := by decide +kernel
theorem mt_L_undone : pm_Mt yL_undone cL_undone 8 (some .boolean) 2 := ⟨pm_T_in 1512 (by decide +kernel) (by decide +kernel), pm_T_in 34 (by decide +kernel) (by decide +kernel), ⟨by decide +kernel, by decide +kernel, by decide +kernel⟩, by decide +kernel, by decide⟩
set_option maxRecDepth 100000 in
set_option maxHeartbeats 16000000 in
theorem c_L_undone {l : Launch} {z : Nat} {D : va_G} {kA : Nat → ClassId} {kE : Nat → Nat} {B : Nat} {r : Nat → Int32} {hs : List (Nat → Int32)} {ln : List Nat} : ∀ nx M, (pw_W z kA kE (B, r, hs, (0, ln)) []) nx M → pm_C l z D kA kE yL_undone cL_undone 8 (some .boolean) 50 6901 41409 [.ref (kE 70), .ref (z + 0)] nx M (fun o n' M' => o = .inl (some (.int 1))) := by
  refine pw_mk (own := RL) (nm := "undone") mt_L_undone rfl rfl rfl rfl fun X B9 => ?_
  refine pw_l (fun _ _ _ _ k => pm_loc (L' := [some (.ref (kE 70)), some (.ref (z + 0)), none, none, none, none, none, none]) rfl k) ?_
  refine pw_l (fun _ _ _ _ k => pm_bipush (v := 9) B9 dL_undone_0 (by decide) k) ?_
  refine pw_newl (c2 := 6900) (s2 := 41400) (N := 9) B9 dL_undone_2 rfl rfl (by omega) (by omega) (fun w _ => ?_)
  refine pw_wk (W' := pw_U z kA kE w 0) (fun _ _ h => ⟨_, _, _, _, _, ⟨Nat.zero_le _, fun p hp => absurd hp (Nat.not_lt_zero _)⟩, h⟩) ?_
  have back : ∀ q, pw_J l z D X 6901 41409 (pm_Q z D (fun o n' M' => o = .inl (some (.int 1))) 6901 41409 X) (pw_U z kA kE w q) (270 * q - (0) + 0) (1610 * q - (0) + 0) 397 [none, some (.ref (z + 0)), some (.ref (z + w)), none, some (.int ((nI q) - 1)), none, none, none] [] := by
    intro q
    induction q with
    | zero =>
      refine pw_l (fun _ _ _ _ k => pm_iload B9 dL_undone_397 rfl k) ?_
      refine pw_l (fun _ _ _ _ k => pm_if_lt (tgt := 429) B9 dL_undone_399 (by decide) (fun _ => k) (fun h => absurd ((by decide)) h)) ?_
      refine pw_l (fun _ _ _ _ k => pm_iconst (v := 1) B9 dL_undone_429 (by decide) k) ?_
      exact fun cu su nx M h1 h2 hW => pm_ireturn B9 dL_undone_430 rfl (rfl) rfl (Nat.ble_eq_true_of_le (by omega)) (Nat.ble_eq_true_of_le (by omega))
    | succ q ih =>
      refine pw_uJ fun B r hs ln f hh => ?_
      refine pw_hsJ fun hs8 => ?_
      have hq9 : q < 2147483648 := by have := hh.1; omega
      cases hs with
      | nil => exact absurd hh.1 (by simp only [List.length_nil]; omega)
      | cons hd tl =>
        refine pw_l (fun _ _ _ _ k => pm_loc (L' := [none, some (.ref (z + 0)), some (.ref (z + w)), none, some (.int (nI q)), none, none, none]) (congrArg (fun yy : Int32 => ([none, some (.ref (z + 0)), some (.ref (z + w)), none, some (.int yy), none, none, none] : List (Option Value))) (pw_m1 q)) k) ?_
        refine pw_l (fun _ _ _ _ k => pm_iload B9 dL_undone_397 rfl k) ?_
        refine pw_l (fun _ _ _ _ k => pm_if_lt (tgt := 429) B9 dL_undone_399 (by decide) (fun h => absurd h ((pm_lt0 hq9))) (fun _ => k)) ?_
        refine pw_l (fun _ _ _ _ k => pm_aload_n B9 dL_undone_402 rfl k) ?_
        refine pw_cSW (As := [.ref (z + 0)]) (c2 := (270 * (q + 1) - (3) + 0)) (s2 := (1610 * (q + 1) - (12) + 0)) B9 (b_L_undo (n := 0)) mt_L_undo ss_L_310 dL_undone_403 rfl rfl rfl (by omega) (by omega) ?_
        refine pw_l (fun _ _ _ _ k => pm_stk (st' := [.int (nI tl.length)]) rfl k) ?_
        refine pw_rJ fun hr => ?_
        have hI : pm_I B (pm_n (hd 0)) hd := hr.2
        refine pw_l (fun _ _ _ _ k => pm_if_lt (tgt := 421) B9 dL_undone_406 (by decide) (fun h => absurd h ((pm_lt0 (by have := hs8; simp only [List.length_cons] at this; omega)))) (fun _ => k)) ?_
        refine pw_l (fun _ _ _ _ k => pm_aload_n B9 dL_undone_409 rfl k) ?_
        refine pw_cS (As := [.ref (z + 0)]) (c2 := (270 * (q + 1) - (269) + 0)) (s2 := (1610 * (q + 1) - (1608) + 0)) B9 (c_L_sum hI) mt_L_sum ss_L_367 dL_undone_410 rfl rfl rfl (by omega) (by omega) ?_
        refine pw_l (fun _ _ _ _ k => pm_stk (st' := [.long (v_L_sum (pm_n (hd 0)) hd)]) rfl k) ?_
        refine pw_l (fun _ _ _ _ k => pm_aload_n B9 dL_undone_413 rfl k) ?_
        refine pw_l (fun _ _ _ _ k => pm_iload B9 dL_undone_414 rfl k) ?_
        refine pw_lw (fun _ _ _ _ hW k => pm_lald_n B9 dL_undone_416 (pw_at hW 0 rfl) q (by have := hs8; have := hh.1; simp only [List.length_cons] at *; omega) (by decide) k) ?_
        refine pw_l (fun _ _ _ _ k => pm_lcmp B9 dL_undone_417 k) ?_
        refine pw_l (fun _ _ _ _ k => pm_stk (st' := [.int 0]) (congrArg (fun yy : Int32 => ([.int yy] : List Value)) (show (lg_cmp (v_L_sum (pm_n (hd 0)) hd) (f q)) = 0 from (pm_lcmp0 (by have h9 := hh.2 0 (by omega); exact h9.symm)))) k) ?_
        refine pw_l (fun _ _ _ _ k => pm_if_eq (tgt := 423) B9 dL_undone_418 (by decide) (fun _ => k) (fun h => absurd (rfl) h)) ?_
        refine pw_l (fun _ _ _ _ k => pm_iinc B9 dL_undone_423 rfl rfl rfl k) ?_
        refine pw_l (fun _ _ _ _ k => pm_loc (L' := [none, some (.ref (z + 0)), some (.ref (z + w)), none, some (.int ((nI q) + Int32.ofInt (-1))), none, none, none]) rfl k) ?_
        refine pw_l (fun _ _ _ _ k => pm_goto (tgt := 397) B9 dL_undone_426 (by decide) k) ?_
        refine pw_l (fun _ _ _ _ k => pm_loc (L' := [none, some (.ref (z + 0)), some (.ref (z + w)), none, some (.int ((nI q) - 1)), none, none, none]) (congrArg (fun yy : Int32 => ([none, some (.ref (z + 0)), some (.ref (z + w)), none, some (.int yy), none, none, none] : List (Option Value))) (show (nI q) + Int32.ofInt (-1) = (nI q) - 1 from by rw [Int32.sub_eq_add_neg]; rfl)) k) ?_
        exact pw_cr (by omega) (by omega) (pw_wk (W' := pw_U z kA kE w q) (fun _ _ h => ⟨_, _, _, _, _, ⟨by have := hh.1; simp only [List.length_cons] at this; omega, fun p hp => by have h9 := hh.2 (p + 1) (by omega); rw [show q + 1 - 1 - (p + 1) = q - 1 - p by omega] at h9; exact h9⟩, h⟩) ih)
  have out : ∀ k i d, i + k = 7 → d ≤ i → pw_J l z D X 6901 41409 (pm_Q z D (fun o n' M' => o = .inl (some (.int 1))) 6901 41409 X) (pw_U z kA kE w d) (700 * k + 2000 - (0) + 0) (4200 * k + 12000 - (0) + 0) 10 [some (.ref (kE 70)), some (.ref (z + 0)), some (.ref (z + w)), some (.int (nI d)), some (.int (nI i)), none, none, none] [] := by
    intro k
    induction k with
    | zero =>
      intro i d hik hdi
      refine pw_l (fun _ _ _ _ k => pm_iload B9 dL_undone_10 rfl k) ?_
      refine pw_l (fun _ _ _ _ k => pm_bipush (v := 7) B9 dL_undone_12 (by decide) k) ?_
      refine pw_l (fun _ _ _ _ k => pm_icmp_ge (tgt := 392) B9 dL_undone_14 (by decide) (fun _ => k) (fun h => absurd ((by rw [show i = 7 by omega]; decide)) h)) ?_
      refine pw_l (fun _ _ _ _ k => pm_iload_n B9 dL_undone_392 rfl k) ?_
      refine pw_l (fun _ _ _ _ k => pm_iconst (v := 1) B9 dL_undone_393 (by decide) k) ?_
      refine pw_l (fun _ _ _ _ k => pm_isub B9 dL_undone_394 k) ?_
      refine pw_l (fun _ _ _ _ k => pm_istore B9 dL_undone_395 rfl rfl k) ?_
      refine pw_l (fun _ _ _ _ k => pm_loc (L' := [some (.ref (kE 70)), some (.ref (z + 0)), some (.ref (z + w)), some (.int (nI d)), some (.int ((nI d) - 1)), none, none, none]) rfl k) ?_
      refine pw_l (fun _ _ _ _ k => pm_wk (L' := [none, some (.ref (z + 0)), some (.ref (z + w)), none, some (.int ((nI d) - 1)), none, none, none]) ⟨rfl, ⟨rfl, ⟨rfl, trivial⟩⟩⟩ k) ?_
      exact pw_cr (by omega) (by omega) (back d)
    | succ k ih =>
      intro i d hik hdi
      refine pw_uJ fun B r hs ln f hh0 => ?_
      refine pw_rJ fun hr => ?_
      have hI : pm_I B (pm_n (r 0)) r := hr.2
      refine pw_l (fun _ _ _ _ k => pm_iload B9 dL_undone_10 rfl k) ?_
      refine pw_l (fun _ _ _ _ k => pm_bipush (v := 7) B9 dL_undone_12 (by decide) k) ?_
      refine pw_l (fun _ _ _ _ k => pm_icmp_ge (tgt := 392) B9 dL_undone_14 (by decide) (fun h => absurd h ((fun e => absurd ((nI_leI (a := 7) (b := i) (by omega) (by omega)).mp e) (by omega)))) (fun _ => k)) ?_
      refine pw_l (fun _ _ _ _ k => pm_aload_n B9 dL_undone_17 rfl k) ?_
      refine pw_l (fun _ _ _ _ k => pm_bipush (v := 32) B9 dL_undone_18 (by decide) k) ?_
      refine pw_l (fun _ _ _ _ k => pm_iload B9 dL_undone_20 rfl k) ?_
      refine pw_l (fun _ _ _ _ k => pm_iadd B9 dL_undone_22 k) ?_
      refine pw_l (fun _ _ _ _ k => pm_stk (st' := [.int (nI (32 + i)), .ref (kE 70)]) (by rw [show (32 + (nI i)) = (nI (32 + i)) from (by rw [show 32 = nI 32 from rfl, show (nI i) = nI i from rfl, nI_add])]) k) ?_
      refine pw_cS (As := [.ref (kE 70), .int (nI (32 + i))]) (c2 := (700 * (k + 1) + 2000 - (0) + 0)) (s2 := (4200 * (k + 1) + 12000 - (0) + 0)) B9 (c_L_cell (k := 32 + i) (by omega)) mt_L_cell ss_L_150 dL_undone_23 rfl rfl rfl (by omega) (by omega) ?_
      refine pw_l (fun _ _ _ _ k => pm_stk (st' := [.int (pw_ce kE (32 + i))]) rfl k) ?_
      refine pw_l (fun _ _ _ _ k => pm_iconst (v := 1) B9 dL_undone_26 (by decide) k) ?_
      refine pw_l (fun _ _ _ _ k => pm_iushr B9 dL_undone_27 k) ?_
      refine pw_l (fun _ _ _ _ k => pm_istore B9 dL_undone_28 rfl rfl k) ?_
      refine pw_l (fun _ _ _ _ k => pm_loc (L' := [some (.ref (kE 70)), some (.ref (z + 0)), some (.ref (z + w)), some (.int (nI d)), some (.int (nI i)), some (.int (pm_ush (pw_ce kE (32 + i)) 1)), none, none]) rfl k) ?_
      refine pw_l (fun _ _ _ _ k => pm_iload B9 dL_undone_30 rfl k) ?_
      refine pw_l (fun _ _ _ _ k => pm_iconst (v := 4) B9 dL_undone_32 (by decide) k) ?_
      refine pw_l (fun _ _ _ _ k => pm_iushr B9 dL_undone_33 k) ?_
      refine pw_l (fun _ _ _ _ k => pm_istore B9 dL_undone_34 rfl rfl k) ?_
      refine pw_l (fun _ _ _ _ k => pm_loc (L' := [some (.ref (kE 70)), some (.ref (z + 0)), some (.ref (z + w)), some (.int (nI d)), some (.int (nI i)), some (.int (pm_ush (pw_ce kE (32 + i)) 1)), some (.int (pm_ush (pm_ush (pw_ce kE (32 + i)) 1) 4)), none]) rfl k) ?_
      refine pw_l (fun _ _ _ _ k => pm_aload_n B9 dL_undone_36 rfl k) ?_
      refine pw_l (fun _ _ _ _ k => pm_iload_n B9 dL_undone_37 rfl k) ?_
      refine pw_l (fun _ _ _ _ k => pm_aload_n B9 dL_undone_38 rfl k) ?_
      refine pw_cS (As := [.ref (z + 0)]) (c2 := (700 * (k + 1) + 2000 - (266) + 0)) (s2 := (4200 * (k + 1) + 12000 - (1596) + 0)) B9 (c_L_sum hI) mt_L_sum ss_L_367 dL_undone_39 rfl rfl rfl (by omega) (by omega) ?_
      refine pw_l (fun _ _ _ _ k => pm_stk (st' := [.long (v_L_sum (pm_n (r 0)) r), .int (nI d), .ref (z + w)]) rfl k) ?_
      refine pw_up (W' := pw_W z kA kE (B, r, hs, (0, ln)) [(w, .inl (kA 1, 9, .inr (.inl (vp_updL f d (v_L_sum (pm_n (r 0)) r)))))]) (fun _ _ _ _ hW k => pm_last_n B9 dL_undone_42 (pw_at hW 0 rfl) d (by omega) (by decide) (k _ (pw_set0 hW))) ?_
      obtain ⟨hh, hf⟩ := pw_hsU (S := v_L_sum (pm_n (r 0)) r) hh0
      generalize (vp_updL f d (v_L_sum (pm_n (r 0)) r)) = g9 at hh hf ⊢
      have hj : ∀ v : Int32, pw_J l z D X 6901 41409 (pm_Q z D (fun o n' M' => o = .inl (some (.int 1))) 6901 41409 X) (pw_V z kA kE w d v) (266 + (700 * k + 2000) - (0) + 0) (1596 + (4200 * k + 12000) - (0) + 0) 355 [some (.ref (kE 70)), some (.ref (z + 0)), some (.ref (z + w)), some (.int (nI d)), some (.int (nI i)), none, none, some (.int v)] [] := by
        intro v
        refine pw_vJ (fun hv => ?_) (fun hv B r hs ln f hh hf => ?_)
        · refine pw_l (fun _ _ _ _ k => pm_iload B9 dL_undone_355 rfl k) ?_
          refine pw_l (fun _ _ _ _ k => pm_if_ge (tgt := 373) B9 dL_undone_357 (by decide) (fun _ => k) (fun h => absurd ((Int32.not_lt.mp hv)) h)) ?_
          refine pw_l (fun _ _ _ _ k => pm_iload_n B9 dL_undone_373 rfl k) ?_
          refine pw_l (fun _ _ _ _ k => pm_iload B9 dL_undone_374 rfl k) ?_
          refine pw_l (fun _ _ _ _ k => pm_if_ge (tgt := 383) B9 dL_undone_376 (by decide) (fun _ => k) (fun h => absurd ((Int32.not_lt.mp hv)) h)) ?_
          refine pw_l (fun _ _ _ _ k => pm_iconst (v := 1) B9 dL_undone_383 (by decide) k) ?_
          refine pw_l (fun _ _ _ _ k => pm_iadd B9 dL_undone_384 k) ?_
          refine pw_l (fun _ _ _ _ k => pm_stk (st' := [.int (nI (d + 1))]) (congrArg (fun yy : Int32 => ([.int yy] : List Value)) (show ((nI d) + 1) = (nI (d + 1)) from (nI_1 _))) k) ?_
          refine pw_l (fun _ _ _ _ k => pm_istore_n B9 dL_undone_385 rfl rfl k) ?_
          refine pw_l (fun _ _ _ _ k => pm_loc (L' := [some (.ref (kE 70)), some (.ref (z + 0)), some (.ref (z + w)), some (.int (nI (d + 1))), some (.int (nI i)), none, none, some (.int v)]) rfl k) ?_
          refine pw_l (fun _ _ _ _ k => pm_iinc B9 dL_undone_386 rfl rfl rfl k) ?_
          refine pw_l (fun _ _ _ _ k => pm_loc (L' := [some (.ref (kE 70)), some (.ref (z + 0)), some (.ref (z + w)), some (.int (nI (d + 1))), some (.int (nI (i + 1))), none, none, some (.int v)]) (by rw [show ((nI i) : Int32) + Int32.ofInt 1 = (nI (i + 1)) from nI_1 _]; rfl) k) ?_
          refine pw_l (fun _ _ _ _ k => pm_goto (tgt := 10) B9 dL_undone_389 (by decide) k) ?_
          refine pw_l (fun _ _ _ _ k => pm_wk (L' := [some (.ref (kE 70)), some (.ref (z + 0)), some (.ref (z + w)), some (.int (nI (d + 1))), some (.int (nI (i + 1))), none, none, none]) ⟨rfl, ⟨rfl, ⟨rfl, ⟨rfl, ⟨rfl, trivial⟩⟩⟩⟩⟩ k) ?_
          exact pw_cr (by omega) (by omega) (ih (i + 1) (d + 1) (by omega) (by omega))
        · refine pw_rJ fun hr => ?_
          have hI : pm_I B (pm_n (r 0)) r := hr.2
          refine pw_l (fun _ _ _ _ k => pm_iload B9 dL_undone_355 rfl k) ?_
          refine pw_l (fun _ _ _ _ k => pm_if_ge (tgt := 373) B9 dL_undone_357 (by decide) (fun h => absurd h ((Int32.not_le.mpr hv))) (fun _ => k)) ?_
          refine pw_l (fun _ _ _ _ k => pm_aload_n B9 dL_undone_360 rfl k) ?_
          refine pw_cS (As := [.ref (z + 0)]) (c2 := (266 + (700 * k + 2000) - (266) + 0)) (s2 := (1596 + (4200 * k + 12000) - (1596) + 0)) B9 (c_L_sum hI) mt_L_sum ss_L_367 dL_undone_361 rfl rfl rfl (by omega) (by omega) ?_
          refine pw_l (fun _ _ _ _ k => pm_stk (st' := [.long (v_L_sum (pm_n (r 0)) r)]) rfl k) ?_
          refine pw_l (fun _ _ _ _ k => pm_aload_n B9 dL_undone_364 rfl k) ?_
          refine pw_l (fun _ _ _ _ k => pm_iload_n B9 dL_undone_365 rfl k) ?_
          refine pw_lw (fun _ _ _ _ hW k => pm_lald_n B9 dL_undone_366 (pw_at hW 0 rfl) d (by omega) (by decide) k) ?_
          refine pw_l (fun _ _ _ _ k => pm_lcmp B9 dL_undone_367 k) ?_
          refine pw_l (fun _ _ _ _ k => pm_stk (st' := [.int 0]) (congrArg (fun yy : Int32 => ([.int yy] : List Value)) (show (lg_cmp (v_L_sum (pm_n (r 0)) r) (f d)) = 0 from (pm_lcmp0 hf.symm))) k) ?_
          refine pw_l (fun _ _ _ _ k => pm_if_eq (tgt := 373) B9 dL_undone_368 (by decide) (fun _ => k) (fun h => absurd (rfl) h)) ?_
          refine pw_l (fun _ _ _ _ k => pm_iload_n B9 dL_undone_373 rfl k) ?_
          refine pw_l (fun _ _ _ _ k => pm_iload B9 dL_undone_374 rfl k) ?_
          refine pw_l (fun _ _ _ _ k => pm_if_ge (tgt := 383) B9 dL_undone_376 (by decide) (fun h => absurd h ((Int32.not_le.mpr hv))) (fun _ => k)) ?_
          refine pw_l (fun _ _ _ _ k => pm_iconst (v := 0) B9 dL_undone_379 (by decide) k) ?_
          refine pw_l (fun _ _ _ _ k => pm_goto (tgt := 384) B9 dL_undone_380 (by decide) k) ?_
          refine pw_l (fun _ _ _ _ k => pm_iadd B9 dL_undone_384 k) ?_
          refine pw_l (fun _ _ _ _ k => pm_stk (st' := [.int (nI d)]) (congrArg (fun yy : Int32 => ([.int yy] : List Value)) (show ((nI d) + 0) = (nI d) from (Int32.add_zero _))) k) ?_
          refine pw_l (fun _ _ _ _ k => pm_istore_n B9 dL_undone_385 rfl rfl k) ?_
          refine pw_l (fun _ _ _ _ k => pm_loc (L' := [some (.ref (kE 70)), some (.ref (z + 0)), some (.ref (z + w)), some (.int (nI d)), some (.int (nI i)), none, none, some (.int v)]) rfl k) ?_
          refine pw_l (fun _ _ _ _ k => pm_iinc B9 dL_undone_386 rfl rfl rfl k) ?_
          refine pw_l (fun _ _ _ _ k => pm_loc (L' := [some (.ref (kE 70)), some (.ref (z + 0)), some (.ref (z + w)), some (.int (nI d)), some (.int (nI (i + 1))), none, none, some (.int v)]) (by rw [show ((nI i) : Int32) + Int32.ofInt 1 = (nI (i + 1)) from nI_1 _]; rfl) k) ?_
          refine pw_l (fun _ _ _ _ k => pm_goto (tgt := 10) B9 dL_undone_389 (by decide) k) ?_
          refine pw_l (fun _ _ _ _ k => pm_wk (L' := [some (.ref (kE 70)), some (.ref (z + 0)), some (.ref (z + w)), some (.int (nI d)), some (.int (nI (i + 1))), none, none, none]) ⟨rfl, ⟨rfl, ⟨rfl, ⟨rfl, ⟨rfl, trivial⟩⟩⟩⟩⟩ k) ?_
          exact pw_cr (by omega) (by omega) (pw_wk (W' := pw_U z kA kE w d) (fun _ _ h => ⟨_, _, _, _, _, hh, h⟩) (ih (i + 1) d (by omega) (by omega)))
      refine pw_l (fun _ _ _ _ k => pm_iload B9 dL_undone_43 rfl k) ?_
      refine pw_l (fun _ _ _ _ k => pm_bipush (v := 13) B9 dL_undone_45 (by decide) k) ?_
      refine pw_l (fun _ _ _ _ k => pm_irem B9 dL_undone_47 (by first | decide | assumption) k) ?_
      obtain ⟨t, ht, et⟩ : ∃ t, t < 13 ∧ ((pm_ush (pw_ce kE (32 + i)) 1) - (pm_ush (pw_ce kE (32 + i)) 1) / 13 * 13) = nI t := pw_md (pw_ushg _ 1 1 (by decide) (by decide) (by decide)) (by decide) (by decide)
      refine pw_l (fun _ _ _ _ k => pm_stk (st' := [.int (nI t)]) (congrArg (fun yy : Int32 => ([.int yy] : List Value)) (show ((pm_ush (pw_ce kE (32 + i)) 1) - (pm_ush (pw_ce kE (32 + i)) 1) / 13 * 13) = (nI t) from et)) k) ?_
      rcases (show t = 0 ∨ t = 1 ∨ t = 2 ∨ t = 3 ∨ t = 4 ∨ t = 5 ∨ t = 6 ∨ t = 7 ∨ t = 8 ∨ t = 9 ∨ t = 10 ∨ t = 11 ∨ t = 12 from by omega) with rfl | rfl | rfl | rfl | rfl | rfl | rfl | rfl | rfl | rfl | rfl | rfl | rfl
      · refine pw_l (fun _ _ _ _ k => pm_tableIn (off := 64) (tgt := 112) B9 dL_undone_48 (by decide) (by decide) (by decide) (by decide) k) ?_
        refine pw_l (fun _ _ _ _ k => pm_aload_n B9 dL_undone_112 rfl k) ?_
        refine pw_l (fun _ _ _ _ k => pm_iload B9 dL_undone_113 rfl k) ?_
        refine pw_l (fun _ _ _ _ k => pm_bipush (v := 101) B9 dL_undone_115 (by decide) k) ?_
        refine pw_l (fun _ _ _ _ k => pm_irem B9 dL_undone_117 (by first | decide | assumption) k) ?_
        refine pw_l (fun _ _ _ _ k => pm_iload B9 dL_undone_118 rfl k) ?_
        refine pw_l (fun _ _ _ _ k => pm_bipush (v := 7) B9 dL_undone_120 (by decide) k) ?_
        refine pw_l (fun _ _ _ _ k => pm_iushr B9 dL_undone_122 k) ?_
        refine pw_l (fun _ _ _ _ k => pm_bipush (v := 22) B9 dL_undone_123 (by decide) k) ?_
        refine pw_l (fun _ _ _ _ k => pm_irem B9 dL_undone_125 (by first | decide | assumption) k) ?_
        refine pw_cSWx (As := [.ref (z + 0), .int ((pm_ush (pm_ush (pw_ce kE (32 + i)) 1) 4) - (pm_ush (pm_ush (pw_ce kE (32 + i)) 1) 4) / 101 * 101), .int ((pm_ush (pm_ush (pm_ush (pw_ce kE (32 + i)) 1) 4) 7) - (pm_ush (pm_ush (pm_ush (pw_ce kE (32 + i)) 1) 4) 7) / 22 * 22)]) (c2 := (700 * (k + 1) + 2000 - (269) + 0)) (s2 := (4200 * (k + 1) + 12000 - (1608) + 0)) B9 (b_L_addMember hI) mt_L_addMember ss_L_154 dL_undone_126 rfl rfl rfl (by omega) (by omega) (fun v9 => ?_)
        refine pw_l (fun _ _ _ _ k => pm_stk (st' := [.int v9]) rfl k) ?_
        refine pw_l (fun _ _ _ _ k => pm_istore B9 dL_undone_129 rfl rfl k) ?_
        refine pw_l (fun _ _ _ _ k => pm_loc (L' := [some (.ref (kE 70)), some (.ref (z + 0)), some (.ref (z + w)), some (.int (nI d)), some (.int (nI i)), some (.int (pm_ush (pw_ce kE (32 + i)) 1)), some (.int (pm_ush (pm_ush (pw_ce kE (32 + i)) 1) 4)), some (.int v9)]) rfl k) ?_
        refine pw_l (fun _ _ _ _ k => pm_goto (tgt := 355) B9 dL_undone_131 (by decide) k) ?_
        refine pw_l (fun _ _ _ _ k => pm_wk (L' := [some (.ref (kE 70)), some (.ref (z + 0)), some (.ref (z + w)), some (.int (nI d)), some (.int (nI i)), none, none, some (.int v9)]) ⟨rfl, ⟨rfl, ⟨rfl, ⟨rfl, ⟨rfl, ⟨rfl, trivial⟩⟩⟩⟩⟩⟩ k) ?_
        exact pw_cr (by omega) (by omega) (pw_wk (fun _ _ h => pw_cgV (by decide) hh hf (by omega) h) (hj v9))
      · refine pw_l (fun _ _ _ _ k => pm_tableIn (off := 86) (tgt := 134) B9 dL_undone_48 (by decide) (by decide) (by decide) (by decide) k) ?_
        refine pw_l (fun _ _ _ _ k => pm_aload_n B9 dL_undone_134 rfl k) ?_
        refine pw_l (fun _ _ _ _ k => pm_iload B9 dL_undone_135 rfl k) ?_
        refine pw_l (fun _ _ _ _ k => pm_sipush (v := 302) B9 dL_undone_137 (by decide) k) ?_
        refine pw_l (fun _ _ _ _ k => pm_irem B9 dL_undone_140 (by first | decide | assumption) k) ?_
        refine pw_cSWx (As := [.ref (z + 0), .int ((pm_ush (pm_ush (pw_ce kE (32 + i)) 1) 4) - (pm_ush (pm_ush (pw_ce kE (32 + i)) 1) 4) / 302 * 302)]) (c2 := (700 * (k + 1) + 2000 - (269) + 0)) (s2 := (4200 * (k + 1) + 12000 - (1608) + 0)) B9 (b_L_assign hI) mt_L_assign ss_L_162 dL_undone_141 rfl rfl rfl (by omega) (by omega) (fun v9 => ?_)
        refine pw_l (fun _ _ _ _ k => pm_stk (st' := [.int v9]) rfl k) ?_
        refine pw_l (fun _ _ _ _ k => pm_istore B9 dL_undone_144 rfl rfl k) ?_
        refine pw_l (fun _ _ _ _ k => pm_loc (L' := [some (.ref (kE 70)), some (.ref (z + 0)), some (.ref (z + w)), some (.int (nI d)), some (.int (nI i)), some (.int (pm_ush (pw_ce kE (32 + i)) 1)), some (.int (pm_ush (pm_ush (pw_ce kE (32 + i)) 1) 4)), some (.int v9)]) rfl k) ?_
        refine pw_l (fun _ _ _ _ k => pm_goto (tgt := 355) B9 dL_undone_146 (by decide) k) ?_
        refine pw_l (fun _ _ _ _ k => pm_wk (L' := [some (.ref (kE 70)), some (.ref (z + 0)), some (.ref (z + w)), some (.int (nI d)), some (.int (nI i)), none, none, some (.int v9)]) ⟨rfl, ⟨rfl, ⟨rfl, ⟨rfl, ⟨rfl, ⟨rfl, trivial⟩⟩⟩⟩⟩⟩ k) ?_
        exact pw_cr (by omega) (by omega) (pw_wk (fun _ _ h => pw_cgV (by decide) hh hf (by omega) h) (hj v9))
      · refine pw_l (fun _ _ _ _ k => pm_tableIn (off := 101) (tgt := 149) B9 dL_undone_48 (by decide) (by decide) (by decide) (by decide) k) ?_
        refine pw_l (fun _ _ _ _ k => pm_aload_n B9 dL_undone_149 rfl k) ?_
        refine pw_l (fun _ _ _ _ k => pm_iload B9 dL_undone_150 rfl k) ?_
        refine pw_l (fun _ _ _ _ k => pm_bipush (v := 8) B9 dL_undone_152 (by decide) k) ?_
        refine pw_l (fun _ _ _ _ k => pm_irem B9 dL_undone_154 (by first | decide | assumption) k) ?_
        refine pw_l (fun _ _ _ _ k => pm_iload B9 dL_undone_155 rfl k) ?_
        refine pw_l (fun _ _ _ _ k => pm_iconst (v := 3) B9 dL_undone_157 (by decide) k) ?_
        refine pw_l (fun _ _ _ _ k => pm_iushr B9 dL_undone_158 k) ?_
        refine pw_l (fun _ _ _ _ k => pm_bipush (v := 101) B9 dL_undone_159 (by decide) k) ?_
        refine pw_l (fun _ _ _ _ k => pm_irem B9 dL_undone_161 (by first | decide | assumption) k) ?_
        refine pw_cSWx (As := [.ref (z + 0), .int ((pm_ush (pm_ush (pw_ce kE (32 + i)) 1) 4) - (pm_ush (pm_ush (pw_ce kE (32 + i)) 1) 4) / 8 * 8), .int ((pm_ush (pm_ush (pm_ush (pw_ce kE (32 + i)) 1) 4) 3) - (pm_ush (pm_ush (pm_ush (pw_ce kE (32 + i)) 1) 4) 3) / 101 * 101)]) (c2 := (700 * (k + 1) + 2000 - (269) + 0)) (s2 := (4200 * (k + 1) + 12000 - (1608) + 0)) B9 (b_L_sell hI) mt_L_sell ss_L_160 dL_undone_162 rfl rfl rfl (by omega) (by omega) (fun v9 => ?_)
        refine pw_l (fun _ _ _ _ k => pm_stk (st' := [.int v9]) rfl k) ?_
        refine pw_l (fun _ _ _ _ k => pm_istore B9 dL_undone_165 rfl rfl k) ?_
        refine pw_l (fun _ _ _ _ k => pm_loc (L' := [some (.ref (kE 70)), some (.ref (z + 0)), some (.ref (z + w)), some (.int (nI d)), some (.int (nI i)), some (.int (pm_ush (pw_ce kE (32 + i)) 1)), some (.int (pm_ush (pm_ush (pw_ce kE (32 + i)) 1) 4)), some (.int v9)]) rfl k) ?_
        refine pw_l (fun _ _ _ _ k => pm_goto (tgt := 355) B9 dL_undone_167 (by decide) k) ?_
        refine pw_l (fun _ _ _ _ k => pm_wk (L' := [some (.ref (kE 70)), some (.ref (z + 0)), some (.ref (z + w)), some (.int (nI d)), some (.int (nI i)), none, none, some (.int v9)]) ⟨rfl, ⟨rfl, ⟨rfl, ⟨rfl, ⟨rfl, ⟨rfl, trivial⟩⟩⟩⟩⟩⟩ k) ?_
        exact pw_cr (by omega) (by omega) (pw_wk (fun _ _ h => pw_cgV (by decide) hh hf (by omega) h) (hj v9))
      · refine pw_l (fun _ _ _ _ k => pm_tableIn (off := 101) (tgt := 149) B9 dL_undone_48 (by decide) (by decide) (by decide) (by decide) k) ?_
        refine pw_l (fun _ _ _ _ k => pm_aload_n B9 dL_undone_149 rfl k) ?_
        refine pw_l (fun _ _ _ _ k => pm_iload B9 dL_undone_150 rfl k) ?_
        refine pw_l (fun _ _ _ _ k => pm_bipush (v := 8) B9 dL_undone_152 (by decide) k) ?_
        refine pw_l (fun _ _ _ _ k => pm_irem B9 dL_undone_154 (by first | decide | assumption) k) ?_
        refine pw_l (fun _ _ _ _ k => pm_iload B9 dL_undone_155 rfl k) ?_
        refine pw_l (fun _ _ _ _ k => pm_iconst (v := 3) B9 dL_undone_157 (by decide) k) ?_
        refine pw_l (fun _ _ _ _ k => pm_iushr B9 dL_undone_158 k) ?_
        refine pw_l (fun _ _ _ _ k => pm_bipush (v := 101) B9 dL_undone_159 (by decide) k) ?_
        refine pw_l (fun _ _ _ _ k => pm_irem B9 dL_undone_161 (by first | decide | assumption) k) ?_
        refine pw_cSWx (As := [.ref (z + 0), .int ((pm_ush (pm_ush (pw_ce kE (32 + i)) 1) 4) - (pm_ush (pm_ush (pw_ce kE (32 + i)) 1) 4) / 8 * 8), .int ((pm_ush (pm_ush (pm_ush (pw_ce kE (32 + i)) 1) 4) 3) - (pm_ush (pm_ush (pm_ush (pw_ce kE (32 + i)) 1) 4) 3) / 101 * 101)]) (c2 := (700 * (k + 1) + 2000 - (269) + 0)) (s2 := (4200 * (k + 1) + 12000 - (1608) + 0)) B9 (b_L_sell hI) mt_L_sell ss_L_160 dL_undone_162 rfl rfl rfl (by omega) (by omega) (fun v9 => ?_)
        refine pw_l (fun _ _ _ _ k => pm_stk (st' := [.int v9]) rfl k) ?_
        refine pw_l (fun _ _ _ _ k => pm_istore B9 dL_undone_165 rfl rfl k) ?_
        refine pw_l (fun _ _ _ _ k => pm_loc (L' := [some (.ref (kE 70)), some (.ref (z + 0)), some (.ref (z + w)), some (.int (nI d)), some (.int (nI i)), some (.int (pm_ush (pw_ce kE (32 + i)) 1)), some (.int (pm_ush (pm_ush (pw_ce kE (32 + i)) 1) 4)), some (.int v9)]) rfl k) ?_
        refine pw_l (fun _ _ _ _ k => pm_goto (tgt := 355) B9 dL_undone_167 (by decide) k) ?_
        refine pw_l (fun _ _ _ _ k => pm_wk (L' := [some (.ref (kE 70)), some (.ref (z + 0)), some (.ref (z + w)), some (.int (nI d)), some (.int (nI i)), none, none, some (.int v9)]) ⟨rfl, ⟨rfl, ⟨rfl, ⟨rfl, ⟨rfl, ⟨rfl, trivial⟩⟩⟩⟩⟩⟩ k) ?_
        exact pw_cr (by omega) (by omega) (pw_wk (fun _ _ h => pw_cgV (by decide) hh hf (by omega) h) (hj v9))
      · refine pw_l (fun _ _ _ _ k => pm_tableIn (off := 122) (tgt := 170) B9 dL_undone_48 (by decide) (by decide) (by decide) (by decide) k) ?_
        refine pw_l (fun _ _ _ _ k => pm_aload_n B9 dL_undone_170 rfl k) ?_
        refine pw_l (fun _ _ _ _ k => pm_iload B9 dL_undone_171 rfl k) ?_
        refine pw_l (fun _ _ _ _ k => pm_bipush (v := 9) B9 dL_undone_173 (by decide) k) ?_
        refine pw_l (fun _ _ _ _ k => pm_irem B9 dL_undone_175 (by first | decide | assumption) k) ?_
        refine pw_cSWx (As := [.ref (z + 0), .int ((pm_ush (pm_ush (pw_ce kE (32 + i)) 1) 4) - (pm_ush (pm_ush (pw_ce kE (32 + i)) 1) 4) / 9 * 9)]) (c2 := (700 * (k + 1) + 2000 - (269) + 0)) (s2 := (4200 * (k + 1) + 12000 - (1608) + 0)) B9 (b_L_audit hI) mt_L_audit ss_L_164 dL_undone_176 rfl rfl rfl (by omega) (by omega) (fun v9 => ?_)
        refine pw_l (fun _ _ _ _ k => pm_stk (st' := [.int v9]) rfl k) ?_
        refine pw_l (fun _ _ _ _ k => pm_istore B9 dL_undone_179 rfl rfl k) ?_
        refine pw_l (fun _ _ _ _ k => pm_loc (L' := [some (.ref (kE 70)), some (.ref (z + 0)), some (.ref (z + w)), some (.int (nI d)), some (.int (nI i)), some (.int (pm_ush (pw_ce kE (32 + i)) 1)), some (.int (pm_ush (pm_ush (pw_ce kE (32 + i)) 1) 4)), some (.int v9)]) rfl k) ?_
        refine pw_l (fun _ _ _ _ k => pm_goto (tgt := 355) B9 dL_undone_181 (by decide) k) ?_
        refine pw_l (fun _ _ _ _ k => pm_wk (L' := [some (.ref (kE 70)), some (.ref (z + 0)), some (.ref (z + w)), some (.int (nI d)), some (.int (nI i)), none, none, some (.int v9)]) ⟨rfl, ⟨rfl, ⟨rfl, ⟨rfl, ⟨rfl, ⟨rfl, trivial⟩⟩⟩⟩⟩⟩ k) ?_
        exact pw_cr (by omega) (by omega) (pw_wk (fun _ _ h => pw_cgV (by decide) hh hf (by omega) h) (hj v9))
      · refine pw_l (fun _ _ _ _ k => pm_tableIn (off := 136) (tgt := 184) B9 dL_undone_48 (by decide) (by decide) (by decide) (by decide) k) ?_
        refine pw_l (fun _ _ _ _ k => pm_aload_n B9 dL_undone_184 rfl k) ?_
        refine pw_cVx (As := []) (c2 := (700 * (k + 1) + 2000 - (269) + 0)) (s2 := (4200 * (k + 1) + 12000 - (1608) + 0)) B9 (fun _ _ hW => pw_0 hW) rfl (pw_cloU hI) mt_X12_close sv_L_166 dL_undone_185 rfl rfl rfl (by omega) (by omega) (fun v9 => ?_)
        refine pw_l (fun _ _ _ _ k => pm_stk (st' := [.int v9]) rfl k) ?_
        refine pw_l (fun _ _ _ _ k => pm_istore B9 dL_undone_188 rfl rfl k) ?_
        refine pw_l (fun _ _ _ _ k => pm_loc (L' := [some (.ref (kE 70)), some (.ref (z + 0)), some (.ref (z + w)), some (.int (nI d)), some (.int (nI i)), some (.int (pm_ush (pw_ce kE (32 + i)) 1)), some (.int (pm_ush (pm_ush (pw_ce kE (32 + i)) 1) 4)), some (.int v9)]) rfl k) ?_
        refine pw_l (fun _ _ _ _ k => pm_goto (tgt := 355) B9 dL_undone_190 (by decide) k) ?_
        refine pw_l (fun _ _ _ _ k => pm_wk (L' := [some (.ref (kE 70)), some (.ref (z + 0)), some (.ref (z + w)), some (.int (nI d)), some (.int (nI i)), none, none, some (.int v9)]) ⟨rfl, ⟨rfl, ⟨rfl, ⟨rfl, ⟨rfl, ⟨rfl, trivial⟩⟩⟩⟩⟩⟩ k) ?_
        exact pw_cr (by omega) (by omega) (pw_wk (fun _ _ h => pw_cgV (fun e he => absurd he List.not_mem_nil) hh hf (by omega) h) (hj v9))
      · refine pw_l (fun _ _ _ _ k => pm_tableIn (off := 145) (tgt := 193) B9 dL_undone_48 (by decide) (by decide) (by decide) (by decide) k) ?_
        refine pw_l (fun _ _ _ _ k => pm_aload_n B9 dL_undone_193 rfl k) ?_
        refine pw_l (fun _ _ _ _ k => pm_iload B9 dL_undone_194 rfl k) ?_
        refine pw_l (fun _ _ _ _ k => pm_bipush (v := 8) B9 dL_undone_196 (by decide) k) ?_
        refine pw_l (fun _ _ _ _ k => pm_irem B9 dL_undone_198 (by first | decide | assumption) k) ?_
        refine pw_l (fun _ _ _ _ k => pm_iload B9 dL_undone_199 rfl k) ?_
        refine pw_l (fun _ _ _ _ k => pm_iconst (v := 3) B9 dL_undone_201 (by decide) k) ?_
        refine pw_l (fun _ _ _ _ k => pm_iushr B9 dL_undone_202 k) ?_
        refine pw_l (fun _ _ _ _ k => pm_bipush (v := 8) B9 dL_undone_203 (by decide) k) ?_
        refine pw_l (fun _ _ _ _ k => pm_irem B9 dL_undone_205 (by first | decide | assumption) k) ?_
        refine pw_cSWx (As := [.ref (z + 0), .int ((pm_ush (pm_ush (pw_ce kE (32 + i)) 1) 4) - (pm_ush (pm_ush (pw_ce kE (32 + i)) 1) 4) / 8 * 8), .int ((pm_ush (pm_ush (pm_ush (pw_ce kE (32 + i)) 1) 4) 3) - (pm_ush (pm_ush (pm_ush (pw_ce kE (32 + i)) 1) 4) 3) / 8 * 8)]) (c2 := (700 * (k + 1) + 2000 - (269) + 0)) (s2 := (4200 * (k + 1) + 12000 - (1608) + 0)) B9 (b_L_link hI) mt_L_link ss_L_171 dL_undone_206 rfl rfl rfl (by omega) (by omega) (fun v9 => ?_)
        refine pw_l (fun _ _ _ _ k => pm_stk (st' := [.int v9]) rfl k) ?_
        refine pw_l (fun _ _ _ _ k => pm_istore B9 dL_undone_209 rfl rfl k) ?_
        refine pw_l (fun _ _ _ _ k => pm_loc (L' := [some (.ref (kE 70)), some (.ref (z + 0)), some (.ref (z + w)), some (.int (nI d)), some (.int (nI i)), some (.int (pm_ush (pw_ce kE (32 + i)) 1)), some (.int (pm_ush (pm_ush (pw_ce kE (32 + i)) 1) 4)), some (.int v9)]) rfl k) ?_
        refine pw_l (fun _ _ _ _ k => pm_goto (tgt := 355) B9 dL_undone_211 (by decide) k) ?_
        refine pw_l (fun _ _ _ _ k => pm_wk (L' := [some (.ref (kE 70)), some (.ref (z + 0)), some (.ref (z + w)), some (.int (nI d)), some (.int (nI i)), none, none, some (.int v9)]) ⟨rfl, ⟨rfl, ⟨rfl, ⟨rfl, ⟨rfl, ⟨rfl, trivial⟩⟩⟩⟩⟩⟩ k) ?_
        exact pw_cr (by omega) (by omega) (pw_wk (fun _ _ h => pw_cgV (by decide) hh hf (by omega) h) (hj v9))
      · refine pw_l (fun _ _ _ _ k => pm_tableIn (off := 166) (tgt := 214) B9 dL_undone_48 (by decide) (by decide) (by decide) (by decide) k) ?_
        refine pw_l (fun _ _ _ _ k => pm_aload_n B9 dL_undone_214 rfl k) ?_
        refine pw_l (fun _ _ _ _ k => pm_iload B9 dL_undone_215 rfl k) ?_
        refine pw_l (fun _ _ _ _ k => pm_bipush (v := 8) B9 dL_undone_217 (by decide) k) ?_
        refine pw_l (fun _ _ _ _ k => pm_irem B9 dL_undone_219 (by first | decide | assumption) k) ?_
        refine pw_l (fun _ _ _ _ k => pm_iload B9 dL_undone_220 rfl k) ?_
        refine pw_l (fun _ _ _ _ k => pm_iconst (v := 3) B9 dL_undone_222 (by decide) k) ?_
        refine pw_l (fun _ _ _ _ k => pm_iushr B9 dL_undone_223 k) ?_
        refine pw_l (fun _ _ _ _ k => pm_bipush (v := 8) B9 dL_undone_224 (by decide) k) ?_
        refine pw_l (fun _ _ _ _ k => pm_irem B9 dL_undone_226 (by first | decide | assumption) k) ?_
        refine pw_cSWx (As := [.ref (z + 0), .int ((pm_ush (pm_ush (pw_ce kE (32 + i)) 1) 4) - (pm_ush (pm_ush (pw_ce kE (32 + i)) 1) 4) / 8 * 8), .int ((pm_ush (pm_ush (pm_ush (pw_ce kE (32 + i)) 1) 4) 3) - (pm_ush (pm_ush (pm_ush (pw_ce kE (32 + i)) 1) 4) 3) / 8 * 8)]) (c2 := (700 * (k + 1) + 2000 - (269) + 0)) (s2 := (4200 * (k + 1) + 12000 - (1608) + 0)) B9 (b_L_unlink hI) mt_L_unlink ss_L_371 dL_undone_227 rfl rfl rfl (by omega) (by omega) (fun v9 => ?_)
        refine pw_l (fun _ _ _ _ k => pm_stk (st' := [.int v9]) rfl k) ?_
        refine pw_l (fun _ _ _ _ k => pm_istore B9 dL_undone_230 rfl rfl k) ?_
        refine pw_l (fun _ _ _ _ k => pm_loc (L' := [some (.ref (kE 70)), some (.ref (z + 0)), some (.ref (z + w)), some (.int (nI d)), some (.int (nI i)), some (.int (pm_ush (pw_ce kE (32 + i)) 1)), some (.int (pm_ush (pm_ush (pw_ce kE (32 + i)) 1) 4)), some (.int v9)]) rfl k) ?_
        refine pw_l (fun _ _ _ _ k => pm_goto (tgt := 355) B9 dL_undone_232 (by decide) k) ?_
        refine pw_l (fun _ _ _ _ k => pm_wk (L' := [some (.ref (kE 70)), some (.ref (z + 0)), some (.ref (z + w)), some (.int (nI d)), some (.int (nI i)), none, none, some (.int v9)]) ⟨rfl, ⟨rfl, ⟨rfl, ⟨rfl, ⟨rfl, ⟨rfl, trivial⟩⟩⟩⟩⟩⟩ k) ?_
        exact pw_cr (by omega) (by omega) (pw_wk (fun _ _ h => pw_cgV (by decide) hh hf (by omega) h) (hj v9))
      · refine pw_l (fun _ _ _ _ k => pm_tableIn (off := 187) (tgt := 235) B9 dL_undone_48 (by decide) (by decide) (by decide) (by decide) k) ?_
        refine pw_l (fun _ _ _ _ k => pm_aload_n B9 dL_undone_235 rfl k) ?_
        refine pw_l (fun _ _ _ _ k => pm_iload B9 dL_undone_236 rfl k) ?_
        refine pw_l (fun _ _ _ _ k => pm_bipush (v := 8) B9 dL_undone_238 (by decide) k) ?_
        refine pw_l (fun _ _ _ _ k => pm_irem B9 dL_undone_240 (by first | decide | assumption) k) ?_
        refine pw_cSWx (As := [.ref (z + 0), .int ((pm_ush (pm_ush (pw_ce kE (32 + i)) 1) 4) - (pm_ush (pm_ush (pw_ce kE (32 + i)) 1) 4) / 8 * 8)]) (c2 := (700 * (k + 1) + 2000 - (269) + 0)) (s2 := (4200 * (k + 1) + 12000 - (1608) + 0)) B9 (b_L_pardon hI) mt_L_pardon ss_L_175 dL_undone_241 rfl rfl rfl (by omega) (by omega) (fun v9 => ?_)
        refine pw_l (fun _ _ _ _ k => pm_stk (st' := [.int v9]) rfl k) ?_
        refine pw_l (fun _ _ _ _ k => pm_istore B9 dL_undone_244 rfl rfl k) ?_
        refine pw_l (fun _ _ _ _ k => pm_loc (L' := [some (.ref (kE 70)), some (.ref (z + 0)), some (.ref (z + w)), some (.int (nI d)), some (.int (nI i)), some (.int (pm_ush (pw_ce kE (32 + i)) 1)), some (.int (pm_ush (pm_ush (pw_ce kE (32 + i)) 1) 4)), some (.int v9)]) rfl k) ?_
        refine pw_l (fun _ _ _ _ k => pm_goto (tgt := 355) B9 dL_undone_246 (by decide) k) ?_
        refine pw_l (fun _ _ _ _ k => pm_wk (L' := [some (.ref (kE 70)), some (.ref (z + 0)), some (.ref (z + w)), some (.int (nI d)), some (.int (nI i)), none, none, some (.int v9)]) ⟨rfl, ⟨rfl, ⟨rfl, ⟨rfl, ⟨rfl, ⟨rfl, trivial⟩⟩⟩⟩⟩⟩ k) ?_
        exact pw_cr (by omega) (by omega) (pw_wk (fun _ _ h => pw_cgV (by decide) hh hf (by omega) h) (hj v9))
      · refine pw_l (fun _ _ _ _ k => pm_tableIn (off := 201) (tgt := 249) B9 dL_undone_48 (by decide) (by decide) (by decide) (by decide) k) ?_
        refine pw_l (fun _ _ _ _ k => pm_aload_n B9 dL_undone_249 rfl k) ?_
        refine pw_l (fun _ _ _ _ k => pm_iload B9 dL_undone_250 rfl k) ?_
        refine pw_l (fun _ _ _ _ k => pm_bipush (v := 101) B9 dL_undone_252 (by decide) k) ?_
        refine pw_l (fun _ _ _ _ k => pm_irem B9 dL_undone_254 (by first | decide | assumption) k) ?_
        refine pw_cSWx (As := [.ref (z + 0), .int ((pm_ush (pm_ush (pw_ce kE (32 + i)) 1) 4) - (pm_ush (pm_ush (pw_ce kE (32 + i)) 1) 4) / 101 * 101)]) (c2 := (700 * (k + 1) + 2000 - (269) + 0)) (s2 := (4200 * (k + 1) + 12000 - (1608) + 0)) B9 (b_L_setThreshold hI) mt_L_setThreshold ss_L_173 dL_undone_255 rfl rfl rfl (by omega) (by omega) (fun v9 => ?_)
        refine pw_l (fun _ _ _ _ k => pm_stk (st' := [.int v9]) rfl k) ?_
        refine pw_l (fun _ _ _ _ k => pm_istore B9 dL_undone_258 rfl rfl k) ?_
        refine pw_l (fun _ _ _ _ k => pm_loc (L' := [some (.ref (kE 70)), some (.ref (z + 0)), some (.ref (z + w)), some (.int (nI d)), some (.int (nI i)), some (.int (pm_ush (pw_ce kE (32 + i)) 1)), some (.int (pm_ush (pm_ush (pw_ce kE (32 + i)) 1) 4)), some (.int v9)]) rfl k) ?_
        refine pw_l (fun _ _ _ _ k => pm_goto (tgt := 355) B9 dL_undone_260 (by decide) k) ?_
        refine pw_l (fun _ _ _ _ k => pm_wk (L' := [some (.ref (kE 70)), some (.ref (z + 0)), some (.ref (z + w)), some (.int (nI d)), some (.int (nI i)), none, none, some (.int v9)]) ⟨rfl, ⟨rfl, ⟨rfl, ⟨rfl, ⟨rfl, ⟨rfl, trivial⟩⟩⟩⟩⟩⟩ k) ?_
        exact pw_cr (by omega) (by omega) (pw_wk (fun _ _ h => pw_cgV (by decide) hh hf (by omega) h) (hj v9))
      · refine pw_l (fun _ _ _ _ k => pm_tableIn (off := 215) (tgt := 263) B9 dL_undone_48 (by decide) (by decide) (by decide) (by decide) k) ?_
        refine pw_l (fun _ _ _ _ k => pm_aload_n B9 dL_undone_263 rfl k) ?_
        refine pw_l (fun _ _ _ _ k => pm_iload B9 dL_undone_264 rfl k) ?_
        refine pw_l (fun _ _ _ _ k => pm_sipush (v := 1025) B9 dL_undone_266 (by decide) k) ?_
        refine pw_l (fun _ _ _ _ k => pm_irem B9 dL_undone_269 (by first | decide | assumption) k) ?_
        refine pw_cSWx (As := [.ref (z + 0), .int ((pm_ush (pm_ush (pw_ce kE (32 + i)) 1) 4) - (pm_ush (pm_ush (pw_ce kE (32 + i)) 1) 4) / 1025 * 1025)]) (c2 := (700 * (k + 1) + 2000 - (269) + 0)) (s2 := (4200 * (k + 1) + 12000 - (1608) + 0)) B9 (b_L_setSeed hI) mt_L_setSeed ss_L_157 dL_undone_270 rfl rfl rfl (by omega) (by omega) (fun v9 => ?_)
        refine pw_l (fun _ _ _ _ k => pm_stk (st' := [.int v9]) rfl k) ?_
        refine pw_l (fun _ _ _ _ k => pm_istore B9 dL_undone_273 rfl rfl k) ?_
        refine pw_l (fun _ _ _ _ k => pm_loc (L' := [some (.ref (kE 70)), some (.ref (z + 0)), some (.ref (z + w)), some (.int (nI d)), some (.int (nI i)), some (.int (pm_ush (pw_ce kE (32 + i)) 1)), some (.int (pm_ush (pm_ush (pw_ce kE (32 + i)) 1) 4)), some (.int v9)]) rfl k) ?_
        refine pw_l (fun _ _ _ _ k => pm_goto (tgt := 355) B9 dL_undone_275 (by decide) k) ?_
        refine pw_l (fun _ _ _ _ k => pm_wk (L' := [some (.ref (kE 70)), some (.ref (z + 0)), some (.ref (z + w)), some (.int (nI d)), some (.int (nI i)), none, none, some (.int v9)]) ⟨rfl, ⟨rfl, ⟨rfl, ⟨rfl, ⟨rfl, ⟨rfl, trivial⟩⟩⟩⟩⟩⟩ k) ?_
        exact pw_cr (by omega) (by omega) (pw_wk (fun _ _ h => pw_cgV (by decide) hh hf (by omega) h) (hj v9))
      · refine pw_l (fun _ _ _ _ k => pm_tableIn (off := 230) (tgt := 278) B9 dL_undone_48 (by decide) (by decide) (by decide) (by decide) k) ?_
        refine pw_l (fun _ _ _ _ k => pm_aload_n B9 dL_undone_278 rfl k) ?_
        refine pw_l (fun _ _ _ _ k => pm_iload B9 dL_undone_279 rfl k) ?_
        refine pw_l (fun _ _ _ _ k => pm_iconst (v := 3) B9 dL_undone_281 (by decide) k) ?_
        refine pw_l (fun _ _ _ _ k => pm_irem B9 dL_undone_282 (by first | decide | assumption) k) ?_
        refine pw_cSWx (As := [.ref (z + 0), .int ((pm_ush (pm_ush (pw_ce kE (32 + i)) 1) 4) - (pm_ush (pm_ush (pw_ce kE (32 + i)) 1) 4) / 3 * 3)]) (c2 := (700 * (k + 1) + 2000 - (269) + 0)) (s2 := (4200 * (k + 1) + 12000 - (1608) + 0)) B9 (b_L_setRule hI) mt_L_setRule ss_L_169 dL_undone_283 rfl rfl rfl (by omega) (by omega) (fun v9 => ?_)
        refine pw_l (fun _ _ _ _ k => pm_stk (st' := [.int v9]) rfl k) ?_
        refine pw_l (fun _ _ _ _ k => pm_istore B9 dL_undone_286 rfl rfl k) ?_
        refine pw_l (fun _ _ _ _ k => pm_loc (L' := [some (.ref (kE 70)), some (.ref (z + 0)), some (.ref (z + w)), some (.int (nI d)), some (.int (nI i)), some (.int (pm_ush (pw_ce kE (32 + i)) 1)), some (.int (pm_ush (pm_ush (pw_ce kE (32 + i)) 1) 4)), some (.int v9)]) rfl k) ?_
        refine pw_l (fun _ _ _ _ k => pm_goto (tgt := 355) B9 dL_undone_288 (by decide) k) ?_
        refine pw_l (fun _ _ _ _ k => pm_wk (L' := [some (.ref (kE 70)), some (.ref (z + 0)), some (.ref (z + w)), some (.int (nI d)), some (.int (nI i)), none, none, some (.int v9)]) ⟨rfl, ⟨rfl, ⟨rfl, ⟨rfl, ⟨rfl, ⟨rfl, trivial⟩⟩⟩⟩⟩⟩ k) ?_
        exact pw_cr (by omega) (by omega) (pw_wk (fun _ _ h => pw_cgV (by decide) hh hf (by omega) h) (hj v9))
      · refine pw_l (fun _ _ _ _ k => pm_tableOut (tgt := 291) B9 dL_undone_48 (by decide) (by decide) k) ?_
        refine pw_l (fun _ _ _ _ k => pm_aload_n B9 dL_undone_291 rfl k) ?_
        refine pw_nsb (c2 := (700 * (k + 1) + 2000 - (268) + 0)) (s2 := (4200 * (k + 1) + 12000 - (1616) + 0)) B9 dL_undone_292 dL_undone_295 dL_undone_296 rfl rfl (by omega) (by omega) (fun a12 b12 _ _ _ => ?_)
        refine pw_wk (W' := (pw_tb z kA kE (B, r, hs, (0, ln)) 16 ([]) a12 [(w, .inl (kA 1, 9, .inr (.inl g9)))])) (fun _ _ h => pw_tb0 h) ?_
        refine pw_l (fun _ _ _ _ k => pm_ldcwS (a := kE (40 + 5)) B9 (fun U H h => (h.2.1.1 5 (by decide)).1) dL_undone_299 k) ?_
        refine pw_cU (As := [.ref (kE (40 + 5))]) (c2 := (700 * (k + 1) + 2000 - (268) + 0)) (s2 := (4200 * (k + 1) + 12000 - (1616) + 0)) B9 rfl rfl (fun _ _ hW => pw_tb_a hW) (t_appT (bs := [115, 101, 108, 108, 32]) (s := kE (40 + 5)) (v := kE (140 + 5)) (fun U H h => (h.2.1.1 5 (by decide)).2) (by decide) (by decide) (by simp only [List.length_append, List.length_cons, List.length_nil]; omega)) mt_J4_append_15ec4 sv_L_329 dL_undone_302 rfl rfl rfl (by omega) (by omega) (fun _ => ?_)
        refine pw_l (fun _ _ _ _ k => pm_stk (st' := [.ref (z + a12), .ref (z + 0)]) rfl k) ?_
        refine pw_l (fun _ _ _ _ k => pm_iload B9 dL_undone_305 rfl k) ?_
        refine pw_l (fun _ _ _ _ k => pm_bipush (v := 7) B9 dL_undone_307 (by decide) k) ?_
        refine pw_l (fun _ _ _ _ k => pm_irem B9 dL_undone_309 (by first | decide | assumption) k) ?_
        obtain ⟨q1, hq1, eq1⟩ : ∃ t, t < 7 ∧ ((pm_ush (pm_ush (pw_ce kE (32 + i)) 1) 4) - (pm_ush (pm_ush (pw_ce kE (32 + i)) 1) 4) / 7 * 7) = nI t := pw_md (pw_ushg _ 4 4 (by decide) (by decide) (by decide)) (by decide) (by decide)
        refine pw_l (fun _ _ _ _ k => pm_stk (st' := [.int (nI q1), .ref (z + a12), .ref (z + 0)]) (congrArg (fun yy : Int32 => ([.int yy, .ref (z + a12), .ref (z + 0)] : List Value)) (show ((pm_ush (pm_ush (pw_ce kE (32 + i)) 1) 4) - (pm_ush (pm_ush (pw_ce kE (32 + i)) 1) 4) / 7 * 7) = (nI q1) from eq1)) k) ?_
        have e1 := (pw_dgl (q := q1)).1 (by omega)
        refine pw_cU (As := [.int (nI q1)]) (c2 := (700 * (k + 1) + 2000 - (268) + 0)) (s2 := (4200 * (k + 1) + 12000 - (1616) + 0)) B9 rfl rfl (fun _ _ hW => pw_tb_a hW) (t_appI (q := q1) (by omega) (by simp only [List.length_append, List.length_cons, List.length_nil]; omega)) mt_J4_append_bf812 sv_L_323 dL_undone_310 rfl rfl rfl (by omega) (by omega) (fun _ => ?_)
        refine pw_l (fun _ _ _ _ k => pm_stk (st' := [.ref (z + a12), .ref (z + 0)]) rfl k) ?_
        refine pw_l (fun _ _ _ _ k => pm_ldcwS (a := kE (40 + 6)) B9 (fun U H h => (h.2.1.1 6 (by decide)).1) dL_undone_313 k) ?_
        refine pw_cU (As := [.ref (kE (40 + 6))]) (c2 := (700 * (k + 1) + 2000 - (268) + 0)) (s2 := (4200 * (k + 1) + 12000 - (1616) + 0)) B9 rfl rfl (fun _ _ hW => pw_tb_a hW) (t_appT (bs := [32]) (s := kE (40 + 6)) (v := kE (140 + 6)) (fun U H h => (h.2.1.1 6 (by decide)).2) (by decide) (by decide) (by simp only [List.length_append, List.length_cons, List.length_nil]; omega)) mt_J4_append_15ec4 sv_L_329 dL_undone_316 rfl rfl rfl (by omega) (by omega) (fun _ => ?_)
        refine pw_l (fun _ _ _ _ k => pm_stk (st' := [.ref (z + a12), .ref (z + 0)]) rfl k) ?_
        refine pw_l (fun _ _ _ _ k => pm_iload B9 dL_undone_319 rfl k) ?_
        refine pw_l (fun _ _ _ _ k => pm_iconst (v := 3) B9 dL_undone_321 (by decide) k) ?_
        refine pw_l (fun _ _ _ _ k => pm_iushr B9 dL_undone_322 k) ?_
        refine pw_l (fun _ _ _ _ k => pm_bipush (v := 40) B9 dL_undone_323 (by decide) k) ?_
        refine pw_l (fun _ _ _ _ k => pm_irem B9 dL_undone_325 (by first | decide | assumption) k) ?_
        obtain ⟨q2, hq2, eq2⟩ : ∃ t, t < 40 ∧ ((pm_ush (pm_ush (pm_ush (pw_ce kE (32 + i)) 1) 4) 3) - (pm_ush (pm_ush (pm_ush (pw_ce kE (32 + i)) 1) 4) 3) / 40 * 40) = nI t := pw_md (pw_ushg _ 3 3 (by decide) (by decide) (by decide)) (by decide) (by decide)
        refine pw_l (fun _ _ _ _ k => pm_stk (st' := [.int (nI q2), .ref (z + a12), .ref (z + 0)]) (congrArg (fun yy : Int32 => ([.int yy, .ref (z + a12), .ref (z + 0)] : List Value)) (show ((pm_ush (pm_ush (pm_ush (pw_ce kE (32 + i)) 1) 4) 3) - (pm_ush (pm_ush (pm_ush (pw_ce kE (32 + i)) 1) 4) 3) / 40 * 40) = (nI q2) from eq2)) k) ?_
        have e2 := (pw_dgl (q := q2)).2.1 (by omega)
        refine pw_cU (As := [.int (nI q2)]) (c2 := (700 * (k + 1) + 2000 - (268) + 0)) (s2 := (4200 * (k + 1) + 12000 - (1616) + 0)) B9 rfl rfl (fun _ _ hW => pw_tb_a hW) (t_appI (q := q2) (by omega) (by simp only [List.length_append, List.length_cons, List.length_nil]; omega)) mt_J4_append_bf812 sv_L_323 dL_undone_326 rfl rfl rfl (by omega) (by omega) (fun _ => ?_)
        refine pw_l (fun _ _ _ _ k => pm_stk (st' := [.ref (z + a12), .ref (z + 0)]) rfl k) ?_
        refine pw_l (fun _ _ _ _ k => pm_ldcwS (a := kE (40 + 7)) B9 (fun U H h => (h.2.1.1 7 (by decide)).1) dL_undone_329 k) ?_
        refine pw_cU (As := [.ref (kE (40 + 7))]) (c2 := (700 * (k + 1) + 2000 - (269) + 0)) (s2 := (4200 * (k + 1) + 12000 - (1650) + 0)) B9 rfl rfl (fun _ _ hW => pw_tb_a hW) (t_appTG (N := 0) (bs := [59, 97, 117, 100, 105, 116, 32, 49, 59, 99, 108, 111, 115, 101, 59, 97, 115, 115, 105, 103, 110, 32]) (s := kE (40 + 7)) (v := kE (140 + 7)) (fun U H h => (h.2.1.1 7 (by decide)).2) (by decide) (by decide) (by simp only [List.length_append, List.length_cons, List.length_nil]; omega) (by simp only [List.length_append, List.length_cons, List.length_nil]; omega) (by simp only [List.length_append, List.length_cons, List.length_nil]; omega)) mt_J4_append_15ec4 sv_L_329 dL_undone_332 rfl rfl rfl (by omega) (by omega) (fun _ => ?_)
        refine pw_l (fun _ _ _ _ k => pm_stk (st' := [.ref (z + a12), .ref (z + 0)]) rfl k) ?_
        refine pw_l (fun _ _ _ _ k => pm_iload B9 dL_undone_335 rfl k) ?_
        refine pw_l (fun _ _ _ _ k => pm_bipush (v := 8) B9 dL_undone_337 (by decide) k) ?_
        refine pw_l (fun _ _ _ _ k => pm_iushr B9 dL_undone_339 k) ?_
        refine pw_l (fun _ _ _ _ k => pm_sipush (v := 301) B9 dL_undone_340 (by decide) k) ?_
        refine pw_l (fun _ _ _ _ k => pm_irem B9 dL_undone_343 (by first | decide | assumption) k) ?_
        obtain ⟨q3, hq3, eq3⟩ : ∃ t, t < 301 ∧ ((pm_ush (pm_ush (pm_ush (pw_ce kE (32 + i)) 1) 4) 8) - (pm_ush (pm_ush (pm_ush (pw_ce kE (32 + i)) 1) 4) 8) / 301 * 301) = nI t := pw_md (pw_ushg _ 8 8 (by decide) (by decide) (by decide)) (by decide) (by decide)
        refine pw_l (fun _ _ _ _ k => pm_stk (st' := [.int (nI q3), .ref (z + a12), .ref (z + 0)]) (congrArg (fun yy : Int32 => ([.int yy, .ref (z + a12), .ref (z + 0)] : List Value)) (show ((pm_ush (pm_ush (pm_ush (pw_ce kE (32 + i)) 1) 4) 8) - (pm_ush (pm_ush (pm_ush (pw_ce kE (32 + i)) 1) 4) 8) / 301 * 301) = (nI q3) from eq3)) k) ?_
        have e3 := (pw_dgl (q := q3)).2.2
        refine pw_cU (As := [.int (nI q3)]) (c2 := (700 * (k + 1) + 2000 - (269) + 0)) (s2 := (4200 * (k + 1) + 12000 - (1650) + 0)) B9 rfl rfl (fun _ _ hW => pw_tb_a hW) (t_appI (q := q3) (by omega) (by simp only [List.length_append, List.length_cons, List.length_nil]; omega)) mt_J4_append_bf812 sv_L_323 dL_undone_344 rfl rfl rfl (by omega) (by omega) (fun _ => ?_)
        refine pw_l (fun _ _ _ _ k => pm_stk (st' := [.ref (z + a12), .ref (z + 0)]) rfl k) ?_
        refine pw_cU (As := []) (c2 := (700 * (k + 1) + 2000 - (271) + 0)) (s2 := (4200 * (k + 1) + 12000 - (1694) + 0)) B9 rfl rfl (fun _ _ hW => pw_tb_a hW) t_str mt_J4_toString_0e30d sv_L_336 dL_undone_347 rfl rfl rfl (by omega) (by omega) (fun x13 => ?_)
        refine pw_l (fun _ _ _ _ k => pm_stk (st' := [.ref (z + x13), .ref (z + 0)]) rfl k) ?_
        refine pw_ex fun v => pw_ex fun gg => pw_and fun hgg => ?_
        refine pw_cSx (As := [.ref (z + 0), .ref (z + x13)]) (c2 := (700 * (k + 1) + 2000 - (416) + 0)) (s2 := (4200 * (k + 1) + 12000 - (2492) + 0)) B9 (c_L_execute hI (by simp only [List.length_append, List.length_cons, List.length_nil]; omega) (fun i hi => ⟨_, (pw_Rp_g hgg i hi).2, (pw_Rp_g hgg i hi).1⟩)) mt_L_execute ss_L_379 dL_undone_350 rfl rfl rfl (by omega) (by omega) (fun v9 => ?_)
        refine pw_l (fun _ _ _ _ k => pm_stk (st' := [.int v9]) rfl k) ?_
        refine pw_l (fun _ _ _ _ k => pm_istore B9 dL_undone_353 rfl rfl k) ?_
        refine pw_l (fun _ _ _ _ k => pm_loc (L' := [some (.ref (kE 70)), some (.ref (z + 0)), some (.ref (z + w)), some (.int (nI d)), some (.int (nI i)), some (.int (pm_ush (pw_ce kE (32 + i)) 1)), some (.int (pm_ush (pm_ush (pw_ce kE (32 + i)) 1) 4)), some (.int v9)]) rfl k) ?_
        refine pw_l (fun _ _ _ _ k => pm_wk (L' := [some (.ref (kE 70)), some (.ref (z + 0)), some (.ref (z + w)), some (.int (nI d)), some (.int (nI i)), none, none, some (.int v9)]) ⟨rfl, ⟨rfl, ⟨rfl, ⟨rfl, ⟨rfl, ⟨rfl, trivial⟩⟩⟩⟩⟩⟩ k) ?_
        exact pw_cr (by omega) (by omega) (pw_wk (fun _ _ h => pw_egV hh hf (by omega) h) (hj v9))
  refine pw_l (fun _ _ _ _ k => pm_astore_n B9 dL_undone_4 rfl rfl k) ?_
  refine pw_l (fun _ _ _ _ k => pm_loc (L' := [some (.ref (kE 70)), some (.ref (z + 0)), some (.ref (z + w)), none, none, none, none, none]) rfl k) ?_
  refine pw_l (fun _ _ _ _ k => pm_iconst (v := 0) B9 dL_undone_5 (by decide) k) ?_
  refine pw_l (fun _ _ _ _ k => pm_istore_n B9 dL_undone_6 rfl rfl k) ?_
  refine pw_l (fun _ _ _ _ k => pm_loc (L' := [some (.ref (kE 70)), some (.ref (z + 0)), some (.ref (z + w)), some (.int 0), none, none, none, none]) rfl k) ?_
  refine pw_l (fun _ _ _ _ k => pm_iconst (v := 0) B9 dL_undone_7 (by decide) k) ?_
  refine pw_l (fun _ _ _ _ k => pm_istore B9 dL_undone_8 rfl rfl k) ?_
  refine pw_l (fun _ _ _ _ k => pm_loc (L' := [some (.ref (kE 70)), some (.ref (z + 0)), some (.ref (z + w)), some (.int 0), some (.int 0), none, none, none]) rfl k) ?_
  refine pw_l (fun _ _ _ _ k => pm_loc (L' := [some (.ref (kE 70)), some (.ref (z + 0)), some (.ref (z + w)), some (.int (nI 0)), some (.int (nI 0)), none, none, none]) rfl k) ?_
  exact pw_cr (by omega) (by omega) (out 7 0 0 (by omega) (by omega))
