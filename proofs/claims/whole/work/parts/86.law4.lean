/-! the law's cases -/
/-- the state between two calls -/
def pm_J (z : Nat) (kA : Nat → ClassId) (kE : Nat → Nat) (nx : Nat) (M : pm_M) (Bd : Nat) : Prop := 151 ≤ nx ∧ ∃ g h L fo fd, pm_TC z kA kE M g ∧ pm_TM z kA M h ∧ pm_LD z nx M g.2.2.2.2.2 L ∧ M 149 = some (.inl (kA 1, 1, .inr (.inl fo))) ∧ M 150 = some (.inl (kA 2, 1, .inr (.inr (.inr (.inl fd))))) ∧ pm_Rel Bd g h L
/-- behind the reference's call all is there again -/
theorem pm_Jn {z : Nat} {kA : Nat → ClassId} {kE : Nat → Nat} {nx : Nat} {M M1 : pm_M} {Bd : Nat} {g : pm_Cs} {h2 : pm_Ms} {L : Int32 × Int32 × Int32} {fo : Nat → Int64} {fd : Nat → UInt64} (hnx : 151 ≤ nx) (hT : pm_TC z kA kE M g) (hTM : pm_TM z kA M1 h2) (hL : pm_LD z nx M g.2.2.2.2.2 L) (h149 : M 149 = some (.inl (kA 1, 1, .inr (.inl fo)))) (h150 : M 150 = some (.inl (kA 2, 1, .inr (.inr (.inr (.inl fd)))))) (hR : pm_Rel Bd g h2 L) (hF : ∀ a, a < 140 ∨ 148 < a → M1 a = M a) : pm_J z kA kE nx M1 Bd :=
  ⟨hnx, g, h2, L, fo, fd, pm_TC_keep hT (fun x hx => hF x (Or.inl hx)), hTM, pm_LD_keep hL (Nat.le_refl _) (fun a ha _ => hF a (Or.inr (by omega))), (hF _ (Or.inr (by decide))).trans h149, (hF _ (Or.inr (by decide))).trans h150, hR⟩
theorem pm_oA_no {z : Nat} {kA : Nat → ClassId} {kE : Nat → Nat} {nx n' : Nat} {M M' : pm_M} {h : pm_Ms} {V : (Nat → Int64) → Int32 → Prop} {R : Int32 → Int32 → pm_Cs → Int32 × Int32 × Int32 → Prop} {E : String} (hp : pm_oA z kA kE nx M h V R (.inr E) n' M') : False := by
  obtain ⟨_, _, _, _, _, h, _⟩ := hp
  cases h
theorem ss_L_148 : pm_SS RL 148 yL_addMember := ⟨pm_T_in 848 (by decide +kernel) (by decide +kernel), pm_T_in 849 (by decide +kernel) (by decide +kernel)⟩
set_option maxHeartbeats 1000000 in
theorem pm_lw_0 {l : Launch} {z : Nat} {D : va_G} {kA : Nat → ClassId} {kE : Nat → Nat} {nm : String} {tb : List ExceptionTableEntry} {mc ms : Nat} {X : pm_X} {cu su : Nat} {Q : State → Prop} {nx : Nat} {M : pm_M} {b N i Bd Bd2 : Nat} {xs : Nat → Int32} {g : pm_Cs} {h h2 : pm_Ms} {L : Int32 × Int32 × Int32} {fo : Nat → Int64} {fd : Nat → UInt64} {R : Int32 → Int32 → pm_Cs → Int32 × Int32 × Int32 → Prop} {mv : Int32} {dW mcW msW dX : Nat} (hdW : Nat.ble (dW + 1) 2048 = true) (hmW : mcW ≤ 25) (hsW : msW ≤ 78) (hdX : Nat.ble (dX + 1) 2048 = true) (B : pm_B l z D kA kE RL code 9 ret nm tb 2048 mc ms X) (hXs : va_X b N xs X.2.2.2.1 X.2.2.2.1.heap) (hbz : b < z) (hiN : i + 4 ≤ N) (hN : N ≤ 2048) (hcu : cu + 25 ≤ mc) (hsu : su + 78 ≤ ms) (hnx : 151 ≤ nx) (hT : pm_TC z kA kE M g) (h150 : M 150 = some (.inl (kA 2, 1, .inr (.inr (.inr (.inl fd))))))
    (hW : pm_Cw l z D kA kE yL_addMember cL_addMember 5 (some .int) [(0, 10, 13, 13), (0, 10, 17, 15)] dW mcW msW [.ref (z + 0), .int (xs (i + 1)), .int (xs (i + 2)), .ref (z + 149)] nx M (pm_oA z kA kE nx M h (fun fo' v => fo' 0 = v.toInt64) R)) (hX : pm_xm l z D kA kE yX13_addMember cX13_addMember 3 (some .int) dX [.int (xs (i + 1)), .int (xs (i + 2))] h h2 (.int mv)) (hS : ∀ kc v g' L', R kc v g' L' → h2.1 6 = kc ∧ (kc = 0 → v = mv) ∧ pm_Rel Bd2 g' h2 L')
    (next : ∀ nx' M', nx ≤ nx' → pm_J z kA kE nx' M' Bd2 → pm_G l z D X (cu + 25) (su + 78) Q nx' M' 2623 [some (.ref b), some (.ref (z + 0)), some (.ref (z + 140)), some (.ref (z + 149)), some (.ref (z + 150)), some (.int (nI i)), none, none, none] []) : pm_G l z D X cu su Q nx M 272 [some (.ref b), some (.ref (z + 0)), some (.ref (z + 140)), some (.ref (z + 149)), some (.ref (z + 150)), some (.int (nI i)), none, none, none] [] := by
  refine pm_aload_n B dL_law_272 rfl ?_
  refine pm_aload_n B dL_law_273 rfl ?_
  refine pm_iload B dL_law_274 rfl ?_
  refine pm_iconst (v := 1) B dL_law_276 (by decide) ?_
  refine pm_iadd B dL_law_277 ?_
  refine pm_stk (st' := [.int (nI (i + 1)), .ref b, .ref (z + 0)]) (by rw [show (nI i : Int32) + 1 = nI (i + 1) from nI_add i 1]) ?_
  refine pm_sld B hXs hbz (i + 1) (by omega) (by omega) dL_law_278 ?_
  refine pm_aload_n B dL_law_279 rfl ?_
  refine pm_iload B dL_law_280 rfl ?_
  refine pm_iconst (v := 2) B dL_law_282 (by decide) ?_
  refine pm_iadd B dL_law_283 ?_
  refine pm_stk (st' := [.int (nI (i + 2)), .ref b, .int (xs (i + 1)), .ref (z + 0)]) (by rw [show (nI i : Int32) + 2 = nI (i + 2) from nI_add i 2]) ?_
  refine pm_sld B hXs hbz (i + 2) (by omega) (by omega) dL_law_284 ?_
  refine pm_aload_n B dL_law_285 rfl ?_
  refine pm_cSW (As := [.ref (z + 0), .int (xs (i + 1)), .int (xs (i + 2)), .ref (z + 149)]) (mc2 := mcW) (ms2 := msW) B hW mt_L_addMember ss_L_148 dL_law_286 rfl hdW rfl (Nat.ble_eq_true_of_le (by omega)) (Nat.ble_eq_true_of_le (by omega)) (fun E n' M' hp => (pm_oA_no hp).elim) (fun u n' M' hp => ?_)
  obtain ⟨kc, v, g', L', fo', ho, hn', hT', hL', hTM', h149', h150', hV, hR'⟩ := hp
  obtain rfl : u = some (.int kc) := Sum.inl.inj ho
  obtain ⟨e6, e7, hR2⟩ := hS kc v g' L' hR'
  obtain ⟨M1, hC1, hT1, hF1⟩ := hX n' M' hTM'
  refine pm_stk (st' := [.int kc]) rfl ?_
  refine pm_istore B dL_law_289 rfl rfl ?_
  refine pm_loc (L' := [some (.ref b), some (.ref (z + 0)), some (.ref (z + 140)), some (.ref (z + 149)), some (.ref (z + 150)), some (.int (nI i)), some (.int kc), none, none]) rfl ?_
  refine pm_aload_n B dL_law_291 rfl ?_
  refine pm_aload_n B dL_law_292 rfl ?_
  refine pm_iload B dL_law_293 rfl ?_
  refine pm_iconst (v := 1) B dL_law_295 (by decide) ?_
  refine pm_iadd B dL_law_296 ?_
  refine pm_stk (st' := [.int (nI (i + 1)), .ref b, .ref (z + 140)]) (by rw [show (nI i : Int32) + 1 = nI (i + 1) from nI_add i 1]) ?_
  refine pm_sld B hXs hbz (i + 1) (by omega) (by omega) dL_law_297 ?_
  refine pm_aload_n B dL_law_298 rfl ?_
  refine pm_iload B dL_law_299 rfl ?_
  refine pm_iconst (v := 2) B dL_law_301 (by decide) ?_
  refine pm_iadd B dL_law_302 ?_
  refine pm_stk (st' := [.int (nI (i + 2)), .ref b, .int (xs (i + 1)), .ref (z + 140)]) (by rw [show (nI i : Int32) + 2 = nI (i + 2) from nI_add i 2]) ?_
  refine pm_sld B hXs hbz (i + 2) (by omega) (by omega) dL_law_303 ?_
  refine pm_cV (As := [.int (xs (i + 1)), .int (xs (i + 2))]) (mc2 := 0) (ms2 := 0) B rfl hTM'.1 rfl hC1 mt_X13_addMember sv_L_153 dL_law_304 rfl hdX rfl (Nat.ble_eq_true_of_le (by omega)) (Nat.ble_eq_true_of_le (by omega)) ?_
  refine pm_stk (st' := [.int mv]) rfl ?_
  refine pm_istore B dL_law_307 rfl rfl ?_
  refine pm_loc (L' := [some (.ref b), some (.ref (z + 0)), some (.ref (z + 140)), some (.ref (z + 149)), some (.ref (z + 150)), some (.int (nI i)), some (.int kc), some (.int mv), none]) rfl ?_
  have fin : pm_G l z D X (cu + mcW + 0 + 0) (su + msW + 0 + 0) Q n' M1 2623 [some (.ref b), some (.ref (z + 0)), some (.ref (z + 140)), some (.ref (z + 149)), some (.ref (z + 150)), some (.int (nI i)), some (.int kc), some (.int mv), none] [] := pm_widen (k1 := cu + 25) (n1 := su + 78) (by omega) (by omega) (pm_wk (L' := [some (.ref b), some (.ref (z + 0)), some (.ref (z + 140)), some (.ref (z + 149)), some (.ref (z + 150)), some (.int (nI i)), none, none, none]) ⟨rfl, rfl, rfl, rfl, rfl, rfl, trivial⟩ (next n' M1 hn' (pm_Jn (by omega) hT' hT1 hL' h149' (h150'.trans h150) hR2 hF1)))
  refine pm_aload_n B dL_law_309 rfl ?_
  refine pm_cV (As := []) (mc2 := 0) (ms2 := 0) B rfl hT1.1 rfl (c_X13_thrown hT1.1) mt_X13_thrown sv_L_154 dL_law_310 rfl rfl rfl (Nat.ble_eq_true_of_le (by omega)) (Nat.ble_eq_true_of_le (by omega)) ?_
  refine pm_stk (st' := [.int (h2.1 6)]) rfl ?_
  refine pm_iload B dL_law_313 rfl ?_
  refine pm_icmp_eq (tgt := 320) B dL_law_315 (by decide) (fun _ => ?_) (fun hne => absurd e6 hne)
  refine pm_iload B dL_law_320 rfl ?_
  refine pm_if_ne (tgt := 337) B dL_law_322 (by decide) (fun _ => ?_) (fun hk0 => ?_)
  · exact pm_goto (tgt := 2623) B dL_law_337 (by decide) fin
  refine pm_aload_n B dL_law_325 rfl ?_
  refine pm_iconst (v := 0) B dL_law_326 (by decide) ?_
  refine pm_lald_n B dL_law_327 ((hF1 _ (Or.inr (by decide))).trans h149') 0 (by decide) (by decide) ?_
  refine pm_iload B dL_law_328 rfl ?_
  refine pm_i2l B dL_law_330 ?_
  refine pm_lcmp B dL_law_331 ?_
  refine pm_if_eq (tgt := 337) B dL_law_332 (by decide) (fun _ => ?_) (fun hne => absurd (pm_lcmp0 ((hV hk0).trans (by rw [e7 hk0]))) hne)
  exact pm_goto (tgt := 2623) B dL_law_337 (by decide) fin
theorem ss_L_157 : pm_SS RL 157 yL_pardon := ⟨pm_T_in 859 (by decide +kernel) (by decide +kernel), pm_T_in 860 (by decide +kernel) (by decide +kernel)⟩
set_option maxHeartbeats 1000000 in
theorem pm_lw_1 {l : Launch} {z : Nat} {D : va_G} {kA : Nat → ClassId} {kE : Nat → Nat} {nm : String} {tb : List ExceptionTableEntry} {mc ms : Nat} {X : pm_X} {cu su : Nat} {Q : State → Prop} {nx : Nat} {M : pm_M} {b N i Bd Bd2 : Nat} {xs : Nat → Int32} {g : pm_Cs} {h h2 : pm_Ms} {L : Int32 × Int32 × Int32} {fo : Nat → Int64} {fd : Nat → UInt64} {R : Int32 → Int32 → pm_Cs → Int32 × Int32 × Int32 → Prop} {mv : Int32} {dW mcW msW dX : Nat} (hdW : Nat.ble (dW + 1) 2048 = true) (hmW : mcW ≤ 25) (hsW : msW ≤ 78) (hdX : Nat.ble (dX + 1) 2048 = true) (B : pm_B l z D kA kE RL code 9 ret nm tb 2048 mc ms X) (hXs : va_X b N xs X.2.2.2.1 X.2.2.2.1.heap) (hbz : b < z) (hiN : i + 4 ≤ N) (hN : N ≤ 2048) (hcu : cu + 25 ≤ mc) (hsu : su + 78 ≤ ms) (hnx : 151 ≤ nx) (hT : pm_TC z kA kE M g) (h150 : M 150 = some (.inl (kA 2, 1, .inr (.inr (.inr (.inl fd))))))
    (hW : pm_Cw l z D kA kE yL_pardon cL_pardon 4 (some .int) [(0, 9, 12, 21), (0, 9, 15, 15)] dW mcW msW [.ref (z + 0), .int (xs (i + 1)), .ref (z + 149)] nx M (pm_oA z kA kE nx M h (fun fo' v => fo' 0 = v.toInt64) R)) (hX : pm_xm l z D kA kE yX13_pardon cX13_pardon 2 (some .int) dX [.int (xs (i + 1))] h h2 (.int mv)) (hS : ∀ kc v g' L', R kc v g' L' → h2.1 6 = kc ∧ (kc = 0 → v = mv) ∧ pm_Rel Bd2 g' h2 L')
    (next : ∀ nx' M', nx ≤ nx' → pm_J z kA kE nx' M' Bd2 → pm_G l z D X (cu + 25) (su + 78) Q nx' M' 2623 [some (.ref b), some (.ref (z + 0)), some (.ref (z + 140)), some (.ref (z + 149)), some (.ref (z + 150)), some (.int (nI i)), none, none, none] []) : pm_G l z D X cu su Q nx M 340 [some (.ref b), some (.ref (z + 0)), some (.ref (z + 140)), some (.ref (z + 149)), some (.ref (z + 150)), some (.int (nI i)), none, none, none] [] := by
  refine pm_aload_n B dL_law_340 rfl ?_
  refine pm_aload_n B dL_law_341 rfl ?_
  refine pm_iload B dL_law_342 rfl ?_
  refine pm_iconst (v := 1) B dL_law_344 (by decide) ?_
  refine pm_iadd B dL_law_345 ?_
  refine pm_stk (st' := [.int (nI (i + 1)), .ref b, .ref (z + 0)]) (by rw [show (nI i : Int32) + 1 = nI (i + 1) from nI_add i 1]) ?_
  refine pm_sld B hXs hbz (i + 1) (by omega) (by omega) dL_law_346 ?_
  refine pm_aload_n B dL_law_347 rfl ?_
  refine pm_cSW (As := [.ref (z + 0), .int (xs (i + 1)), .ref (z + 149)]) (mc2 := mcW) (ms2 := msW) B hW mt_L_pardon ss_L_157 dL_law_348 rfl hdW rfl (Nat.ble_eq_true_of_le (by omega)) (Nat.ble_eq_true_of_le (by omega)) (fun E n' M' hp => (pm_oA_no hp).elim) (fun u n' M' hp => ?_)
  obtain ⟨kc, v, g', L', fo', ho, hn', hT', hL', hTM', h149', h150', hV, hR'⟩ := hp
  obtain rfl : u = some (.int kc) := Sum.inl.inj ho
  obtain ⟨e6, e7, hR2⟩ := hS kc v g' L' hR'
  obtain ⟨M1, hC1, hT1, hF1⟩ := hX n' M' hTM'
  refine pm_stk (st' := [.int kc]) rfl ?_
  refine pm_istore B dL_law_351 rfl rfl ?_
  refine pm_loc (L' := [some (.ref b), some (.ref (z + 0)), some (.ref (z + 140)), some (.ref (z + 149)), some (.ref (z + 150)), some (.int (nI i)), some (.int kc), none, none]) rfl ?_
  refine pm_aload_n B dL_law_353 rfl ?_
  refine pm_aload_n B dL_law_354 rfl ?_
  refine pm_iload B dL_law_355 rfl ?_
  refine pm_iconst (v := 1) B dL_law_357 (by decide) ?_
  refine pm_iadd B dL_law_358 ?_
  refine pm_stk (st' := [.int (nI (i + 1)), .ref b, .ref (z + 140)]) (by rw [show (nI i : Int32) + 1 = nI (i + 1) from nI_add i 1]) ?_
  refine pm_sld B hXs hbz (i + 1) (by omega) (by omega) dL_law_359 ?_
  refine pm_cV (As := [.int (xs (i + 1))]) (mc2 := 0) (ms2 := 0) B rfl hTM'.1 rfl hC1 mt_X13_pardon sv_L_160 dL_law_360 rfl hdX rfl (Nat.ble_eq_true_of_le (by omega)) (Nat.ble_eq_true_of_le (by omega)) ?_
  refine pm_stk (st' := [.int mv]) rfl ?_
  refine pm_istore B dL_law_363 rfl rfl ?_
  refine pm_loc (L' := [some (.ref b), some (.ref (z + 0)), some (.ref (z + 140)), some (.ref (z + 149)), some (.ref (z + 150)), some (.int (nI i)), some (.int kc), some (.int mv), none]) rfl ?_
  have fin : pm_G l z D X (cu + mcW + 0 + 0) (su + msW + 0 + 0) Q n' M1 2623 [some (.ref b), some (.ref (z + 0)), some (.ref (z + 140)), some (.ref (z + 149)), some (.ref (z + 150)), some (.int (nI i)), some (.int kc), some (.int mv), none] [] := pm_widen (k1 := cu + 25) (n1 := su + 78) (by omega) (by omega) (pm_wk (L' := [some (.ref b), some (.ref (z + 0)), some (.ref (z + 140)), some (.ref (z + 149)), some (.ref (z + 150)), some (.int (nI i)), none, none, none]) ⟨rfl, rfl, rfl, rfl, rfl, rfl, trivial⟩ (next n' M1 hn' (pm_Jn (by omega) hT' hT1 hL' h149' (h150'.trans h150) hR2 hF1)))
  refine pm_aload_n B dL_law_365 rfl ?_
  refine pm_cV (As := []) (mc2 := 0) (ms2 := 0) B rfl hT1.1 rfl (c_X13_thrown hT1.1) mt_X13_thrown sv_L_154 dL_law_366 rfl rfl rfl (Nat.ble_eq_true_of_le (by omega)) (Nat.ble_eq_true_of_le (by omega)) ?_
  refine pm_stk (st' := [.int (h2.1 6)]) rfl ?_
  refine pm_iload B dL_law_369 rfl ?_
  refine pm_icmp_eq (tgt := 376) B dL_law_371 (by decide) (fun _ => ?_) (fun hne => absurd e6 hne)
  refine pm_iload B dL_law_376 rfl ?_
  refine pm_if_ne (tgt := 393) B dL_law_378 (by decide) (fun _ => ?_) (fun hk0 => ?_)
  · exact pm_goto (tgt := 2623) B dL_law_393 (by decide) fin
  refine pm_aload_n B dL_law_381 rfl ?_
  refine pm_iconst (v := 0) B dL_law_382 (by decide) ?_
  refine pm_lald_n B dL_law_383 ((hF1 _ (Or.inr (by decide))).trans h149') 0 (by decide) (by decide) ?_
  refine pm_iload B dL_law_384 rfl ?_
  refine pm_i2l B dL_law_386 ?_
  refine pm_lcmp B dL_law_387 ?_
  refine pm_if_eq (tgt := 393) B dL_law_388 (by decide) (fun _ => ?_) (fun hne => absurd (pm_lcmp0 ((hV hk0).trans (by rw [e7 hk0]))) hne)
  exact pm_goto (tgt := 2623) B dL_law_393 (by decide) fin
set_option maxHeartbeats 1000000 in
theorem pm_lw_2 {l : Launch} {z : Nat} {D : va_G} {kA : Nat → ClassId} {kE : Nat → Nat} {nm : String} {tb : List ExceptionTableEntry} {mc ms : Nat} {X : pm_X} {cu su : Nat} {Q : State → Prop} {nx : Nat} {M : pm_M} {b N i Bd Bd2 : Nat} {xs : Nat → Int32} {g : pm_Cs} {h h2 : pm_Ms} {L : Int32 × Int32 × Int32} {fo : Nat → Int64} {fd : Nat → UInt64} {R : Int32 → Int32 → pm_Cs → Int32 × Int32 × Int32 → Prop} {mv : Int32} {dW mcW msW dX : Nat} (hdW : Nat.ble (dW + 1) 2048 = true) (hmW : mcW ≤ 25) (hsW : msW ≤ 78) (hdX : Nat.ble (dX + 1) 2048 = true) (B : pm_B l z D kA kE RL code 9 ret nm tb 2048 mc ms X) (hcu : cu + 25 ≤ mc) (hsu : su + 78 ≤ ms) (hnx : 151 ≤ nx) (hT : pm_TC z kA kE M g) (hTM : pm_TM z kA M h) (h149 : M 149 = some (.inl (kA 1, 1, .inr (.inl fo)))) (h150 : M 150 = some (.inl (kA 2, 1, .inr (.inr (.inr (.inl fd))))))
    (hC : pm_C l z D kA kE yX12_memberCount cX12_memberCount 1 (some .int) dW mcW msW [.ref (z + 0)] nx M (pm_cl2 z kA kE nx M [] R)) (hX : pm_xm l z D kA kE yX13_memberCount cX13_memberCount 1 (some .int) dX [] h h2 (.int mv)) (hS : ∀ v g' L', R 0 v g' L' → v = mv ∧ pm_Rel Bd2 g' h2 L')
    (next : ∀ nx' M', nx ≤ nx' → pm_J z kA kE nx' M' Bd2 → pm_G l z D X (cu + 25) (su + 78) Q nx' M' 2623 [some (.ref b), some (.ref (z + 0)), some (.ref (z + 140)), some (.ref (z + 149)), some (.ref (z + 150)), some (.int (nI i)), none, none, none] []) : pm_G l z D X cu su Q nx M 396 [some (.ref b), some (.ref (z + 0)), some (.ref (z + 140)), some (.ref (z + 149)), some (.ref (z + 150)), some (.int (nI i)), none, none, none] [] := by
  refine pm_aload_n B dL_law_396 rfl ?_
  refine pm_callV (As := []) (mc2 := mcW) (ms2 := msW) (d2 := dW) B rfl hT.1 rfl hC mt_X12_memberCount sv_L_161 dL_law_397 rfl hdW rfl (Nat.ble_eq_true_of_le (by omega)) (Nat.ble_eq_true_of_le (by omega)) (fun E n' M' hp => ?_) (fun u n' M' hp => ?_)
  · obtain ⟨e, he, _⟩ := pm_clE hp
    cases he
  obtain ⟨hF, hn', g', L', hT', hL', hv⟩ := hp
  obtain ⟨v, hv, hR'⟩ : ∃ v, u = some (.int v) ∧ R 0 v g' L' := by
    rcases hv with ⟨v, hv, hR⟩ | ⟨e, he, _⟩
    · exact ⟨v, Sum.inl.inj hv, hR⟩
    · cases he
  subst hv
  obtain ⟨e7, hR2⟩ := hS v g' L' hR'
  obtain ⟨M1, hC1, hT1, hF1⟩ := hX n' M' (pm_TM_keep hTM (fun x h1 h2 => hF x h1 (by omega)))
  refine pm_stk (st' := [.int v]) rfl ?_
  refine pm_aload_n B dL_law_400 rfl ?_
  refine pm_cV (As := []) (mc2 := 0) (ms2 := 0) B rfl ((hF _ (by decide) (by omega)).trans hTM.1) rfl hC1 mt_X13_memberCount sv_L_164 dL_law_401 rfl hdX rfl (Nat.ble_eq_true_of_le (by omega)) (Nat.ble_eq_true_of_le (by omega)) ?_
  refine pm_stk (st' := [.int mv, .int v]) rfl ?_
  refine pm_icmp_eq (tgt := 2623) B dL_law_404 (by decide) (fun _ => ?_) (fun hne => absurd e7 hne)
  exact pm_widen (k1 := cu + 25) (n1 := su + 78) (by omega) (by omega) (next n' M1 hn' (pm_Jn (by omega) hT' hT1 hL' ((hF _ (by decide) (by omega)).trans h149) ((hF _ (by decide) (by omega)).trans h150) hR2 hF1))
theorem ss_L_165 : pm_SS RL 165 yL_capacity := ⟨pm_T_in 889 (by decide +kernel) (by decide +kernel), pm_T_in 890 (by decide +kernel) (by decide +kernel)⟩
set_option maxHeartbeats 1000000 in
theorem pm_lw_3 {l : Launch} {z : Nat} {D : va_G} {kA : Nat → ClassId} {kE : Nat → Nat} {nm : String} {tb : List ExceptionTableEntry} {mc ms : Nat} {X : pm_X} {cu su : Nat} {Q : State → Prop} {nx : Nat} {M : pm_M} {b N i Bd Bd2 : Nat} {xs : Nat → Int32} {g : pm_Cs} {h h2 : pm_Ms} {L : Int32 × Int32 × Int32} {fo : Nat → Int64} {fd : Nat → UInt64} {R : Int32 → Int32 → pm_Cs → Int32 × Int32 × Int32 → Prop} {mv : Int32} {dW mcW msW dX : Nat} (hdW : Nat.ble (dW + 1) 2048 = true) (hmW : mcW ≤ 25) (hsW : msW ≤ 78) (hdX : Nat.ble (dX + 1) 2048 = true) (B : pm_B l z D kA kE RL code 9 ret nm tb 2048 mc ms X) (hXs : va_X b N xs X.2.2.2.1 X.2.2.2.1.heap) (hbz : b < z) (hiN : i + 4 ≤ N) (hN : N ≤ 2048) (hcu : cu + 25 ≤ mc) (hsu : su + 78 ≤ ms) (hnx : 151 ≤ nx) (hT : pm_TC z kA kE M g) (h150 : M 150 = some (.inl (kA 2, 1, .inr (.inr (.inr (.inl fd))))))
    (hW : pm_Cw l z D kA kE yL_capacity cL_capacity 4 (some .int) [(0, 9, 12, 21)] dW mcW msW [.ref (z + 0), .int (xs (i + 1)), .ref (z + 149)] nx M (pm_oA z kA kE nx M h (fun fo' v => fo' 0 = v.toInt64) R)) (hX : pm_xm l z D kA kE yX13_capacity cX13_capacity 2 (some .int) dX [.int (xs (i + 1))] h h2 (.int mv)) (hS : ∀ kc v g' L', R kc v g' L' → h2.1 6 = kc ∧ (kc = 0 → v = mv) ∧ pm_Rel Bd2 g' h2 L')
    (next : ∀ nx' M', nx ≤ nx' → pm_J z kA kE nx' M' Bd2 → pm_G l z D X (cu + 25) (su + 78) Q nx' M' 2623 [some (.ref b), some (.ref (z + 0)), some (.ref (z + 140)), some (.ref (z + 149)), some (.ref (z + 150)), some (.int (nI i)), none, none, none] []) : pm_G l z D X cu su Q nx M 409 [some (.ref b), some (.ref (z + 0)), some (.ref (z + 140)), some (.ref (z + 149)), some (.ref (z + 150)), some (.int (nI i)), none, none, none] [] := by
  refine pm_aload_n B dL_law_409 rfl ?_
  refine pm_aload_n B dL_law_410 rfl ?_
  refine pm_iload B dL_law_411 rfl ?_
  refine pm_iconst (v := 1) B dL_law_413 (by decide) ?_
  refine pm_iadd B dL_law_414 ?_
  refine pm_stk (st' := [.int (nI (i + 1)), .ref b, .ref (z + 0)]) (by rw [show (nI i : Int32) + 1 = nI (i + 1) from nI_add i 1]) ?_
  refine pm_sld B hXs hbz (i + 1) (by omega) (by omega) dL_law_415 ?_
  refine pm_aload_n B dL_law_416 rfl ?_
  refine pm_cSW (As := [.ref (z + 0), .int (xs (i + 1)), .ref (z + 149)]) (mc2 := mcW) (ms2 := msW) B hW mt_L_capacity ss_L_165 dL_law_417 rfl hdW rfl (Nat.ble_eq_true_of_le (by omega)) (Nat.ble_eq_true_of_le (by omega)) (fun E n' M' hp => (pm_oA_no hp).elim) (fun u n' M' hp => ?_)
  obtain ⟨kc, v, g', L', fo', ho, hn', hT', hL', hTM', h149', h150', hV, hR'⟩ := hp
  obtain rfl : u = some (.int kc) := Sum.inl.inj ho
  obtain ⟨e6, e7, hR2⟩ := hS kc v g' L' hR'
  obtain ⟨M1, hC1, hT1, hF1⟩ := hX n' M' hTM'
  refine pm_stk (st' := [.int kc]) rfl ?_
  refine pm_istore B dL_law_420 rfl rfl ?_
  refine pm_loc (L' := [some (.ref b), some (.ref (z + 0)), some (.ref (z + 140)), some (.ref (z + 149)), some (.ref (z + 150)), some (.int (nI i)), some (.int kc), none, none]) rfl ?_
  refine pm_aload_n B dL_law_422 rfl ?_
  refine pm_aload_n B dL_law_423 rfl ?_
  refine pm_iload B dL_law_424 rfl ?_
  refine pm_iconst (v := 1) B dL_law_426 (by decide) ?_
  refine pm_iadd B dL_law_427 ?_
  refine pm_stk (st' := [.int (nI (i + 1)), .ref b, .ref (z + 140)]) (by rw [show (nI i : Int32) + 1 = nI (i + 1) from nI_add i 1]) ?_
  refine pm_sld B hXs hbz (i + 1) (by omega) (by omega) dL_law_428 ?_
  refine pm_cV (As := [.int (xs (i + 1))]) (mc2 := 0) (ms2 := 0) B rfl hTM'.1 rfl hC1 mt_X13_capacity sv_L_167 dL_law_429 rfl hdX rfl (Nat.ble_eq_true_of_le (by omega)) (Nat.ble_eq_true_of_le (by omega)) ?_
  refine pm_stk (st' := [.int mv]) rfl ?_
  refine pm_istore B dL_law_432 rfl rfl ?_
  refine pm_loc (L' := [some (.ref b), some (.ref (z + 0)), some (.ref (z + 140)), some (.ref (z + 149)), some (.ref (z + 150)), some (.int (nI i)), some (.int kc), some (.int mv), none]) rfl ?_
  have fin : pm_G l z D X (cu + mcW + 0 + 0) (su + msW + 0 + 0) Q n' M1 2623 [some (.ref b), some (.ref (z + 0)), some (.ref (z + 140)), some (.ref (z + 149)), some (.ref (z + 150)), some (.int (nI i)), some (.int kc), some (.int mv), none] [] := pm_widen (k1 := cu + 25) (n1 := su + 78) (by omega) (by omega) (pm_wk (L' := [some (.ref b), some (.ref (z + 0)), some (.ref (z + 140)), some (.ref (z + 149)), some (.ref (z + 150)), some (.int (nI i)), none, none, none]) ⟨rfl, rfl, rfl, rfl, rfl, rfl, trivial⟩ (next n' M1 hn' (pm_Jn (by omega) hT' hT1 hL' h149' (h150'.trans h150) hR2 hF1)))
  refine pm_aload_n B dL_law_434 rfl ?_
  refine pm_cV (As := []) (mc2 := 0) (ms2 := 0) B rfl hT1.1 rfl (c_X13_thrown hT1.1) mt_X13_thrown sv_L_154 dL_law_435 rfl rfl rfl (Nat.ble_eq_true_of_le (by omega)) (Nat.ble_eq_true_of_le (by omega)) ?_
  refine pm_stk (st' := [.int (h2.1 6)]) rfl ?_
  refine pm_iload B dL_law_438 rfl ?_
  refine pm_icmp_eq (tgt := 445) B dL_law_440 (by decide) (fun _ => ?_) (fun hne => absurd e6 hne)
  refine pm_iload B dL_law_445 rfl ?_
  refine pm_if_ne (tgt := 462) B dL_law_447 (by decide) (fun _ => ?_) (fun hk0 => ?_)
  · exact pm_goto (tgt := 2623) B dL_law_462 (by decide) fin
  refine pm_aload_n B dL_law_450 rfl ?_
  refine pm_iconst (v := 0) B dL_law_451 (by decide) ?_
  refine pm_lald_n B dL_law_452 ((hF1 _ (Or.inr (by decide))).trans h149') 0 (by decide) (by decide) ?_
  refine pm_iload B dL_law_453 rfl ?_
  refine pm_i2l B dL_law_455 ?_
  refine pm_lcmp B dL_law_456 ?_
  refine pm_if_eq (tgt := 462) B dL_law_457 (by decide) (fun _ => ?_) (fun hne => absurd (pm_lcmp0 ((hV hk0).trans (by rw [e7 hk0]))) hne)
  exact pm_goto (tgt := 2623) B dL_law_462 (by decide) fin
theorem ss_L_168 : pm_SS RL 168 yL_votes := ⟨pm_T_in 901 (by decide +kernel) (by decide +kernel), pm_T_in 902 (by decide +kernel) (by decide +kernel)⟩
set_option maxHeartbeats 1000000 in
theorem pm_lw_4 {l : Launch} {z : Nat} {D : va_G} {kA : Nat → ClassId} {kE : Nat → Nat} {nm : String} {tb : List ExceptionTableEntry} {mc ms : Nat} {X : pm_X} {cu su : Nat} {Q : State → Prop} {nx : Nat} {M : pm_M} {b N i Bd Bd2 : Nat} {xs : Nat → Int32} {g : pm_Cs} {h h2 : pm_Ms} {L : Int32 × Int32 × Int32} {fo : Nat → Int64} {fd : Nat → UInt64} {R : Int32 → Int32 → pm_Cs → Int32 × Int32 × Int32 → Prop} {mv : Int32} {dW mcW msW dX : Nat} (hdW : Nat.ble (dW + 1) 2048 = true) (hmW : mcW ≤ 25) (hsW : msW ≤ 78) (hdX : Nat.ble (dX + 1) 2048 = true) (B : pm_B l z D kA kE RL code 9 ret nm tb 2048 mc ms X) (hXs : va_X b N xs X.2.2.2.1 X.2.2.2.1.heap) (hbz : b < z) (hiN : i + 4 ≤ N) (hN : N ≤ 2048) (hcu : cu + 25 ≤ mc) (hsu : su + 78 ≤ ms) (hnx : 151 ≤ nx) (hT : pm_TC z kA kE M g) (h150 : M 150 = some (.inl (kA 2, 1, .inr (.inr (.inr (.inl fd))))))
    (hW : pm_Cw l z D kA kE yL_votes cL_votes 4 (some .int) [(0, 9, 12, 21)] dW mcW msW [.ref (z + 0), .int (xs (i + 1)), .ref (z + 149)] nx M (pm_oA z kA kE nx M h (fun fo' v => fo' 0 = v.toInt64) R)) (hX : pm_xm l z D kA kE yX13_votes cX13_votes 2 (some .int) dX [.int (xs (i + 1))] h h2 (.int mv)) (hS : ∀ kc v g' L', R kc v g' L' → h2.1 6 = kc ∧ (kc = 0 → v = mv) ∧ pm_Rel Bd2 g' h2 L')
    (next : ∀ nx' M', nx ≤ nx' → pm_J z kA kE nx' M' Bd2 → pm_G l z D X (cu + 25) (su + 78) Q nx' M' 2623 [some (.ref b), some (.ref (z + 0)), some (.ref (z + 140)), some (.ref (z + 149)), some (.ref (z + 150)), some (.int (nI i)), none, none, none] []) : pm_G l z D X cu su Q nx M 465 [some (.ref b), some (.ref (z + 0)), some (.ref (z + 140)), some (.ref (z + 149)), some (.ref (z + 150)), some (.int (nI i)), none, none, none] [] := by
  refine pm_aload_n B dL_law_465 rfl ?_
  refine pm_aload_n B dL_law_466 rfl ?_
  refine pm_iload B dL_law_467 rfl ?_
  refine pm_iconst (v := 1) B dL_law_469 (by decide) ?_
  refine pm_iadd B dL_law_470 ?_
  refine pm_stk (st' := [.int (nI (i + 1)), .ref b, .ref (z + 0)]) (by rw [show (nI i : Int32) + 1 = nI (i + 1) from nI_add i 1]) ?_
  refine pm_sld B hXs hbz (i + 1) (by omega) (by omega) dL_law_471 ?_
  refine pm_aload_n B dL_law_472 rfl ?_
  refine pm_cSW (As := [.ref (z + 0), .int (xs (i + 1)), .ref (z + 149)]) (mc2 := mcW) (ms2 := msW) B hW mt_L_votes ss_L_168 dL_law_473 rfl hdW rfl (Nat.ble_eq_true_of_le (by omega)) (Nat.ble_eq_true_of_le (by omega)) (fun E n' M' hp => (pm_oA_no hp).elim) (fun u n' M' hp => ?_)
  obtain ⟨kc, v, g', L', fo', ho, hn', hT', hL', hTM', h149', h150', hV, hR'⟩ := hp
  obtain rfl : u = some (.int kc) := Sum.inl.inj ho
  obtain ⟨e6, e7, hR2⟩ := hS kc v g' L' hR'
  obtain ⟨M1, hC1, hT1, hF1⟩ := hX n' M' hTM'
  refine pm_stk (st' := [.int kc]) rfl ?_
  refine pm_istore B dL_law_476 rfl rfl ?_
  refine pm_loc (L' := [some (.ref b), some (.ref (z + 0)), some (.ref (z + 140)), some (.ref (z + 149)), some (.ref (z + 150)), some (.int (nI i)), some (.int kc), none, none]) rfl ?_
  refine pm_aload_n B dL_law_478 rfl ?_
  refine pm_aload_n B dL_law_479 rfl ?_
  refine pm_iload B dL_law_480 rfl ?_
  refine pm_iconst (v := 1) B dL_law_482 (by decide) ?_
  refine pm_iadd B dL_law_483 ?_
  refine pm_stk (st' := [.int (nI (i + 1)), .ref b, .ref (z + 140)]) (by rw [show (nI i : Int32) + 1 = nI (i + 1) from nI_add i 1]) ?_
  refine pm_sld B hXs hbz (i + 1) (by omega) (by omega) dL_law_484 ?_
  refine pm_cV (As := [.int (xs (i + 1))]) (mc2 := 0) (ms2 := 0) B rfl hTM'.1 rfl hC1 mt_X13_votes sv_L_170 dL_law_485 rfl hdX rfl (Nat.ble_eq_true_of_le (by omega)) (Nat.ble_eq_true_of_le (by omega)) ?_
  refine pm_stk (st' := [.int mv]) rfl ?_
  refine pm_istore B dL_law_488 rfl rfl ?_
  refine pm_loc (L' := [some (.ref b), some (.ref (z + 0)), some (.ref (z + 140)), some (.ref (z + 149)), some (.ref (z + 150)), some (.int (nI i)), some (.int kc), some (.int mv), none]) rfl ?_
  have fin : pm_G l z D X (cu + mcW + 0 + 0) (su + msW + 0 + 0) Q n' M1 2623 [some (.ref b), some (.ref (z + 0)), some (.ref (z + 140)), some (.ref (z + 149)), some (.ref (z + 150)), some (.int (nI i)), some (.int kc), some (.int mv), none] [] := pm_widen (k1 := cu + 25) (n1 := su + 78) (by omega) (by omega) (pm_wk (L' := [some (.ref b), some (.ref (z + 0)), some (.ref (z + 140)), some (.ref (z + 149)), some (.ref (z + 150)), some (.int (nI i)), none, none, none]) ⟨rfl, rfl, rfl, rfl, rfl, rfl, trivial⟩ (next n' M1 hn' (pm_Jn (by omega) hT' hT1 hL' h149' (h150'.trans h150) hR2 hF1)))
  refine pm_aload_n B dL_law_490 rfl ?_
  refine pm_cV (As := []) (mc2 := 0) (ms2 := 0) B rfl hT1.1 rfl (c_X13_thrown hT1.1) mt_X13_thrown sv_L_154 dL_law_491 rfl rfl rfl (Nat.ble_eq_true_of_le (by omega)) (Nat.ble_eq_true_of_le (by omega)) ?_
  refine pm_stk (st' := [.int (h2.1 6)]) rfl ?_
  refine pm_iload B dL_law_494 rfl ?_
  refine pm_icmp_eq (tgt := 501) B dL_law_496 (by decide) (fun _ => ?_) (fun hne => absurd e6 hne)
  refine pm_iload B dL_law_501 rfl ?_
  refine pm_if_ne (tgt := 518) B dL_law_503 (by decide) (fun _ => ?_) (fun hk0 => ?_)
  · exact pm_goto (tgt := 2623) B dL_law_518 (by decide) fin
  refine pm_aload_n B dL_law_506 rfl ?_
  refine pm_iconst (v := 0) B dL_law_507 (by decide) ?_
  refine pm_lald_n B dL_law_508 ((hF1 _ (Or.inr (by decide))).trans h149') 0 (by decide) (by decide) ?_
  refine pm_iload B dL_law_509 rfl ?_
  refine pm_i2l B dL_law_511 ?_
  refine pm_lcmp B dL_law_512 ?_
  refine pm_if_eq (tgt := 518) B dL_law_513 (by decide) (fun _ => ?_) (fun hne => absurd (pm_lcmp0 ((hV hk0).trans (by rw [e7 hk0]))) hne)
  exact pm_goto (tgt := 2623) B dL_law_518 (by decide) fin
theorem ss_L_171 : pm_SS RL 171 yL_standing := ⟨pm_T_in 908 (by decide +kernel) (by decide +kernel), pm_T_in 909 (by decide +kernel) (by decide +kernel)⟩
set_option maxHeartbeats 1000000 in
theorem pm_lw_5 {l : Launch} {z : Nat} {D : va_G} {kA : Nat → ClassId} {kE : Nat → Nat} {nm : String} {tb : List ExceptionTableEntry} {mc ms : Nat} {X : pm_X} {cu su : Nat} {Q : State → Prop} {nx : Nat} {M : pm_M} {b N i Bd Bd2 : Nat} {xs : Nat → Int32} {g : pm_Cs} {h h2 : pm_Ms} {L : Int32 × Int32 × Int32} {fo : Nat → Int64} {fd : Nat → UInt64} {R : Int32 → Int32 → pm_Cs → Int32 × Int32 × Int32 → Prop} {mv : Int32} {dW mcW msW dX : Nat} (hdW : Nat.ble (dW + 1) 2048 = true) (hmW : mcW ≤ 25) (hsW : msW ≤ 78) (hdX : Nat.ble (dX + 1) 2048 = true) (B : pm_B l z D kA kE RL code 9 ret nm tb 2048 mc ms X) (hXs : va_X b N xs X.2.2.2.1 X.2.2.2.1.heap) (hbz : b < z) (hiN : i + 4 ≤ N) (hN : N ≤ 2048) (hcu : cu + 25 ≤ mc) (hsu : su + 78 ≤ ms) (hnx : 151 ≤ nx) (hT : pm_TC z kA kE M g) (h150 : M 150 = some (.inl (kA 2, 1, .inr (.inr (.inr (.inl fd))))))
    (hW : pm_Cw l z D kA kE yL_standing cL_standing 4 (some .int) [(0, 9, 12, 21)] dW mcW msW [.ref (z + 0), .int (xs (i + 1)), .ref (z + 149)] nx M (pm_oA z kA kE nx M h (fun fo' v => fo' 0 = v.toInt64) R)) (hX : pm_xm l z D kA kE yX13_standing cX13_standing 3 (some .char) dX [.int (xs (i + 1))] h h2 (.int mv)) (hS : ∀ kc v g' L', R kc v g' L' → h2.1 6 = kc ∧ (kc = 0 → v = mv) ∧ pm_Rel Bd2 g' h2 L')
    (next : ∀ nx' M', nx ≤ nx' → pm_J z kA kE nx' M' Bd2 → pm_G l z D X (cu + 25) (su + 78) Q nx' M' 2623 [some (.ref b), some (.ref (z + 0)), some (.ref (z + 140)), some (.ref (z + 149)), some (.ref (z + 150)), some (.int (nI i)), none, none, none] []) : pm_G l z D X cu su Q nx M 521 [some (.ref b), some (.ref (z + 0)), some (.ref (z + 140)), some (.ref (z + 149)), some (.ref (z + 150)), some (.int (nI i)), none, none, none] [] := by
  refine pm_aload_n B dL_law_521 rfl ?_
  refine pm_aload_n B dL_law_522 rfl ?_
  refine pm_iload B dL_law_523 rfl ?_
  refine pm_iconst (v := 1) B dL_law_525 (by decide) ?_
  refine pm_iadd B dL_law_526 ?_
  refine pm_stk (st' := [.int (nI (i + 1)), .ref b, .ref (z + 0)]) (by rw [show (nI i : Int32) + 1 = nI (i + 1) from nI_add i 1]) ?_
  refine pm_sld B hXs hbz (i + 1) (by omega) (by omega) dL_law_527 ?_
  refine pm_aload_n B dL_law_528 rfl ?_
  refine pm_cSW (As := [.ref (z + 0), .int (xs (i + 1)), .ref (z + 149)]) (mc2 := mcW) (ms2 := msW) B hW mt_L_standing ss_L_171 dL_law_529 rfl hdW rfl (Nat.ble_eq_true_of_le (by omega)) (Nat.ble_eq_true_of_le (by omega)) (fun E n' M' hp => (pm_oA_no hp).elim) (fun u n' M' hp => ?_)
  obtain ⟨kc, v, g', L', fo', ho, hn', hT', hL', hTM', h149', h150', hV, hR'⟩ := hp
  obtain rfl : u = some (.int kc) := Sum.inl.inj ho
  obtain ⟨e6, e7, hR2⟩ := hS kc v g' L' hR'
  obtain ⟨M1, hC1, hT1, hF1⟩ := hX n' M' hTM'
  refine pm_stk (st' := [.int kc]) rfl ?_
  refine pm_istore B dL_law_532 rfl rfl ?_
  refine pm_loc (L' := [some (.ref b), some (.ref (z + 0)), some (.ref (z + 140)), some (.ref (z + 149)), some (.ref (z + 150)), some (.int (nI i)), some (.int kc), none, none]) rfl ?_
  refine pm_aload_n B dL_law_534 rfl ?_
  refine pm_aload_n B dL_law_535 rfl ?_
  refine pm_iload B dL_law_536 rfl ?_
  refine pm_iconst (v := 1) B dL_law_538 (by decide) ?_
  refine pm_iadd B dL_law_539 ?_
  refine pm_stk (st' := [.int (nI (i + 1)), .ref b, .ref (z + 140)]) (by rw [show (nI i : Int32) + 1 = nI (i + 1) from nI_add i 1]) ?_
  refine pm_sld B hXs hbz (i + 1) (by omega) (by omega) dL_law_540 ?_
  refine pm_cV (As := [.int (xs (i + 1))]) (mc2 := 0) (ms2 := 0) B rfl hTM'.1 rfl hC1 mt_X13_standing sv_L_173 dL_law_541 rfl hdX rfl (Nat.ble_eq_true_of_le (by omega)) (Nat.ble_eq_true_of_le (by omega)) ?_
  refine pm_stk (st' := [.int mv]) rfl ?_
  refine pm_istore B dL_law_544 rfl rfl ?_
  refine pm_loc (L' := [some (.ref b), some (.ref (z + 0)), some (.ref (z + 140)), some (.ref (z + 149)), some (.ref (z + 150)), some (.int (nI i)), some (.int kc), some (.int mv), none]) rfl ?_
  have fin : pm_G l z D X (cu + mcW + 0 + 0) (su + msW + 0 + 0) Q n' M1 2623 [some (.ref b), some (.ref (z + 0)), some (.ref (z + 140)), some (.ref (z + 149)), some (.ref (z + 150)), some (.int (nI i)), some (.int kc), some (.int mv), none] [] := pm_widen (k1 := cu + 25) (n1 := su + 78) (by omega) (by omega) (pm_wk (L' := [some (.ref b), some (.ref (z + 0)), some (.ref (z + 140)), some (.ref (z + 149)), some (.ref (z + 150)), some (.int (nI i)), none, none, none]) ⟨rfl, rfl, rfl, rfl, rfl, rfl, trivial⟩ (next n' M1 hn' (pm_Jn (by omega) hT' hT1 hL' h149' (h150'.trans h150) hR2 hF1)))
  refine pm_aload_n B dL_law_546 rfl ?_
  refine pm_cV (As := []) (mc2 := 0) (ms2 := 0) B rfl hT1.1 rfl (c_X13_thrown hT1.1) mt_X13_thrown sv_L_154 dL_law_547 rfl rfl rfl (Nat.ble_eq_true_of_le (by omega)) (Nat.ble_eq_true_of_le (by omega)) ?_
  refine pm_stk (st' := [.int (h2.1 6)]) rfl ?_
  refine pm_iload B dL_law_550 rfl ?_
  refine pm_icmp_eq (tgt := 557) B dL_law_552 (by decide) (fun _ => ?_) (fun hne => absurd e6 hne)
  refine pm_iload B dL_law_557 rfl ?_
  refine pm_if_ne (tgt := 574) B dL_law_559 (by decide) (fun _ => ?_) (fun hk0 => ?_)
  · exact pm_goto (tgt := 2623) B dL_law_574 (by decide) fin
  refine pm_aload_n B dL_law_562 rfl ?_
  refine pm_iconst (v := 0) B dL_law_563 (by decide) ?_
  refine pm_lald_n B dL_law_564 ((hF1 _ (Or.inr (by decide))).trans h149') 0 (by decide) (by decide) ?_
  refine pm_iload B dL_law_565 rfl ?_
  refine pm_i2l B dL_law_567 ?_
  refine pm_lcmp B dL_law_568 ?_
  refine pm_if_eq (tgt := 574) B dL_law_569 (by decide) (fun _ => ?_) (fun hne => absurd (pm_lcmp0 ((hV hk0).trans (by rw [e7 hk0]))) hne)
  exact pm_goto (tgt := 2623) B dL_law_574 (by decide) fin
theorem ss_L_174 : pm_SS RL 174 yL_warnings := ⟨pm_T_in 917 (by decide +kernel) (by decide +kernel), pm_T_in 918 (by decide +kernel) (by decide +kernel)⟩
set_option maxHeartbeats 1000000 in
theorem pm_lw_6 {l : Launch} {z : Nat} {D : va_G} {kA : Nat → ClassId} {kE : Nat → Nat} {nm : String} {tb : List ExceptionTableEntry} {mc ms : Nat} {X : pm_X} {cu su : Nat} {Q : State → Prop} {nx : Nat} {M : pm_M} {b N i Bd Bd2 : Nat} {xs : Nat → Int32} {g : pm_Cs} {h h2 : pm_Ms} {L : Int32 × Int32 × Int32} {fo : Nat → Int64} {fd : Nat → UInt64} {R : Int32 → Int32 → pm_Cs → Int32 × Int32 × Int32 → Prop} {mv : Int32} {dW mcW msW dX : Nat} (hdW : Nat.ble (dW + 1) 2048 = true) (hmW : mcW ≤ 25) (hsW : msW ≤ 78) (hdX : Nat.ble (dX + 1) 2048 = true) (B : pm_B l z D kA kE RL code 9 ret nm tb 2048 mc ms X) (hXs : va_X b N xs X.2.2.2.1 X.2.2.2.1.heap) (hbz : b < z) (hiN : i + 4 ≤ N) (hN : N ≤ 2048) (hcu : cu + 25 ≤ mc) (hsu : su + 78 ≤ ms) (hnx : 151 ≤ nx) (hT : pm_TC z kA kE M g) (h150 : M 150 = some (.inl (kA 2, 1, .inr (.inr (.inr (.inl fd))))))
    (hW : pm_Cw l z D kA kE yL_warnings cL_warnings 4 (some .int) [(0, 9, 12, 21), (0, 9, 15, 36)] dW mcW msW [.ref (z + 0), .int (xs (i + 1)), .ref (z + 149)] nx M (pm_oA z kA kE nx M h (fun fo' v => fo' 0 = v.toInt64) R)) (hX : pm_xm l z D kA kE yX13_warnings cX13_warnings 2 (some .int) dX [.int (xs (i + 1))] h h2 (.int mv)) (hS : ∀ kc v g' L', R kc v g' L' → h2.1 6 = kc ∧ (kc = 0 → v = mv) ∧ pm_Rel Bd2 g' h2 L')
    (next : ∀ nx' M', nx ≤ nx' → pm_J z kA kE nx' M' Bd2 → pm_G l z D X (cu + 25) (su + 78) Q nx' M' 2623 [some (.ref b), some (.ref (z + 0)), some (.ref (z + 140)), some (.ref (z + 149)), some (.ref (z + 150)), some (.int (nI i)), none, none, none] []) : pm_G l z D X cu su Q nx M 577 [some (.ref b), some (.ref (z + 0)), some (.ref (z + 140)), some (.ref (z + 149)), some (.ref (z + 150)), some (.int (nI i)), none, none, none] [] := by
  refine pm_aload_n B dL_law_577 rfl ?_
  refine pm_aload_n B dL_law_578 rfl ?_
  refine pm_iload B dL_law_579 rfl ?_
  refine pm_iconst (v := 1) B dL_law_581 (by decide) ?_
  refine pm_iadd B dL_law_582 ?_
  refine pm_stk (st' := [.int (nI (i + 1)), .ref b, .ref (z + 0)]) (by rw [show (nI i : Int32) + 1 = nI (i + 1) from nI_add i 1]) ?_
  refine pm_sld B hXs hbz (i + 1) (by omega) (by omega) dL_law_583 ?_
  refine pm_aload_n B dL_law_584 rfl ?_
  refine pm_cSW (As := [.ref (z + 0), .int (xs (i + 1)), .ref (z + 149)]) (mc2 := mcW) (ms2 := msW) B hW mt_L_warnings ss_L_174 dL_law_585 rfl hdW rfl (Nat.ble_eq_true_of_le (by omega)) (Nat.ble_eq_true_of_le (by omega)) (fun E n' M' hp => (pm_oA_no hp).elim) (fun u n' M' hp => ?_)
  obtain ⟨kc, v, g', L', fo', ho, hn', hT', hL', hTM', h149', h150', hV, hR'⟩ := hp
  obtain rfl : u = some (.int kc) := Sum.inl.inj ho
  obtain ⟨e6, e7, hR2⟩ := hS kc v g' L' hR'
  obtain ⟨M1, hC1, hT1, hF1⟩ := hX n' M' hTM'
  refine pm_stk (st' := [.int kc]) rfl ?_
  refine pm_istore B dL_law_588 rfl rfl ?_
  refine pm_loc (L' := [some (.ref b), some (.ref (z + 0)), some (.ref (z + 140)), some (.ref (z + 149)), some (.ref (z + 150)), some (.int (nI i)), some (.int kc), none, none]) rfl ?_
  refine pm_aload_n B dL_law_590 rfl ?_
  refine pm_aload_n B dL_law_591 rfl ?_
  refine pm_iload B dL_law_592 rfl ?_
  refine pm_iconst (v := 1) B dL_law_594 (by decide) ?_
  refine pm_iadd B dL_law_595 ?_
  refine pm_stk (st' := [.int (nI (i + 1)), .ref b, .ref (z + 140)]) (by rw [show (nI i : Int32) + 1 = nI (i + 1) from nI_add i 1]) ?_
  refine pm_sld B hXs hbz (i + 1) (by omega) (by omega) dL_law_596 ?_
  refine pm_cV (As := [.int (xs (i + 1))]) (mc2 := 0) (ms2 := 0) B rfl hTM'.1 rfl hC1 mt_X13_warnings sv_L_176 dL_law_597 rfl hdX rfl (Nat.ble_eq_true_of_le (by omega)) (Nat.ble_eq_true_of_le (by omega)) ?_
  refine pm_stk (st' := [.int mv]) rfl ?_
  refine pm_istore B dL_law_600 rfl rfl ?_
  refine pm_loc (L' := [some (.ref b), some (.ref (z + 0)), some (.ref (z + 140)), some (.ref (z + 149)), some (.ref (z + 150)), some (.int (nI i)), some (.int kc), some (.int mv), none]) rfl ?_
  have fin : pm_G l z D X (cu + mcW + 0 + 0) (su + msW + 0 + 0) Q n' M1 2623 [some (.ref b), some (.ref (z + 0)), some (.ref (z + 140)), some (.ref (z + 149)), some (.ref (z + 150)), some (.int (nI i)), some (.int kc), some (.int mv), none] [] := pm_widen (k1 := cu + 25) (n1 := su + 78) (by omega) (by omega) (pm_wk (L' := [some (.ref b), some (.ref (z + 0)), some (.ref (z + 140)), some (.ref (z + 149)), some (.ref (z + 150)), some (.int (nI i)), none, none, none]) ⟨rfl, rfl, rfl, rfl, rfl, rfl, trivial⟩ (next n' M1 hn' (pm_Jn (by omega) hT' hT1 hL' h149' (h150'.trans h150) hR2 hF1)))
  refine pm_aload_n B dL_law_602 rfl ?_
  refine pm_cV (As := []) (mc2 := 0) (ms2 := 0) B rfl hT1.1 rfl (c_X13_thrown hT1.1) mt_X13_thrown sv_L_154 dL_law_603 rfl rfl rfl (Nat.ble_eq_true_of_le (by omega)) (Nat.ble_eq_true_of_le (by omega)) ?_
  refine pm_stk (st' := [.int (h2.1 6)]) rfl ?_
  refine pm_iload B dL_law_606 rfl ?_
  refine pm_icmp_eq (tgt := 613) B dL_law_608 (by decide) (fun _ => ?_) (fun hne => absurd e6 hne)
  refine pm_iload B dL_law_613 rfl ?_
  refine pm_if_ne (tgt := 630) B dL_law_615 (by decide) (fun _ => ?_) (fun hk0 => ?_)
  · exact pm_goto (tgt := 2623) B dL_law_630 (by decide) fin
  refine pm_aload_n B dL_law_618 rfl ?_
  refine pm_iconst (v := 0) B dL_law_619 (by decide) ?_
  refine pm_lald_n B dL_law_620 ((hF1 _ (Or.inr (by decide))).trans h149') 0 (by decide) (by decide) ?_
  refine pm_iload B dL_law_621 rfl ?_
  refine pm_i2l B dL_law_623 ?_
  refine pm_lcmp B dL_law_624 ?_
  refine pm_if_eq (tgt := 630) B dL_law_625 (by decide) (fun _ => ?_) (fun hne => absurd (pm_lcmp0 ((hV hk0).trans (by rw [e7 hk0]))) hne)
  exact pm_goto (tgt := 2623) B dL_law_630 (by decide) fin
theorem ss_L_177 : pm_SS RL 177 yL_barredMonths := ⟨pm_T_in 941 (by decide +kernel) (by decide +kernel), pm_T_in 942 (by decide +kernel) (by decide +kernel)⟩
set_option maxHeartbeats 1000000 in
theorem pm_lw_7 {l : Launch} {z : Nat} {D : va_G} {kA : Nat → ClassId} {kE : Nat → Nat} {nm : String} {tb : List ExceptionTableEntry} {mc ms : Nat} {X : pm_X} {cu su : Nat} {Q : State → Prop} {nx : Nat} {M : pm_M} {b N i Bd Bd2 : Nat} {xs : Nat → Int32} {g : pm_Cs} {h h2 : pm_Ms} {L : Int32 × Int32 × Int32} {fo : Nat → Int64} {fd : Nat → UInt64} {R : Int32 → Int32 → pm_Cs → Int32 × Int32 × Int32 → Prop} {mv : Int32} {dW mcW msW dX : Nat} (hdW : Nat.ble (dW + 1) 2048 = true) (hmW : mcW ≤ 25) (hsW : msW ≤ 78) (hdX : Nat.ble (dX + 1) 2048 = true) (B : pm_B l z D kA kE RL code 9 ret nm tb 2048 mc ms X) (hXs : va_X b N xs X.2.2.2.1 X.2.2.2.1.heap) (hbz : b < z) (hiN : i + 4 ≤ N) (hN : N ≤ 2048) (hcu : cu + 25 ≤ mc) (hsu : su + 78 ≤ ms) (hnx : 151 ≤ nx) (hT : pm_TC z kA kE M g) (h150 : M 150 = some (.inl (kA 2, 1, .inr (.inr (.inr (.inl fd))))))
    (hW : pm_Cw l z D kA kE yL_barredMonths cL_barredMonths 4 (some .int) [(0, 9, 12, 21), (0, 9, 15, 36)] dW mcW msW [.ref (z + 0), .int (xs (i + 1)), .ref (z + 149)] nx M (pm_oA z kA kE nx M h (fun fo' v => fo' 0 = v.toInt64) R)) (hX : pm_xm l z D kA kE yX13_barredMonths cX13_barredMonths 2 (some .int) dX [.int (xs (i + 1))] h h2 (.int mv)) (hS : ∀ kc v g' L', R kc v g' L' → h2.1 6 = kc ∧ (kc = 0 → v = mv) ∧ pm_Rel Bd2 g' h2 L')
    (next : ∀ nx' M', nx ≤ nx' → pm_J z kA kE nx' M' Bd2 → pm_G l z D X (cu + 25) (su + 78) Q nx' M' 2623 [some (.ref b), some (.ref (z + 0)), some (.ref (z + 140)), some (.ref (z + 149)), some (.ref (z + 150)), some (.int (nI i)), none, none, none] []) : pm_G l z D X cu su Q nx M 633 [some (.ref b), some (.ref (z + 0)), some (.ref (z + 140)), some (.ref (z + 149)), some (.ref (z + 150)), some (.int (nI i)), none, none, none] [] := by
  refine pm_aload_n B dL_law_633 rfl ?_
  refine pm_aload_n B dL_law_634 rfl ?_
  refine pm_iload B dL_law_635 rfl ?_
  refine pm_iconst (v := 1) B dL_law_637 (by decide) ?_
  refine pm_iadd B dL_law_638 ?_
  refine pm_stk (st' := [.int (nI (i + 1)), .ref b, .ref (z + 0)]) (by rw [show (nI i : Int32) + 1 = nI (i + 1) from nI_add i 1]) ?_
  refine pm_sld B hXs hbz (i + 1) (by omega) (by omega) dL_law_639 ?_
  refine pm_aload_n B dL_law_640 rfl ?_
  refine pm_cSW (As := [.ref (z + 0), .int (xs (i + 1)), .ref (z + 149)]) (mc2 := mcW) (ms2 := msW) B hW mt_L_barredMonths ss_L_177 dL_law_641 rfl hdW rfl (Nat.ble_eq_true_of_le (by omega)) (Nat.ble_eq_true_of_le (by omega)) (fun E n' M' hp => (pm_oA_no hp).elim) (fun u n' M' hp => ?_)
  obtain ⟨kc, v, g', L', fo', ho, hn', hT', hL', hTM', h149', h150', hV, hR'⟩ := hp
  obtain rfl : u = some (.int kc) := Sum.inl.inj ho
  obtain ⟨e6, e7, hR2⟩ := hS kc v g' L' hR'
  obtain ⟨M1, hC1, hT1, hF1⟩ := hX n' M' hTM'
  refine pm_stk (st' := [.int kc]) rfl ?_
  refine pm_istore B dL_law_644 rfl rfl ?_
  refine pm_loc (L' := [some (.ref b), some (.ref (z + 0)), some (.ref (z + 140)), some (.ref (z + 149)), some (.ref (z + 150)), some (.int (nI i)), some (.int kc), none, none]) rfl ?_
  refine pm_aload_n B dL_law_646 rfl ?_
  refine pm_aload_n B dL_law_647 rfl ?_
  refine pm_iload B dL_law_648 rfl ?_
  refine pm_iconst (v := 1) B dL_law_650 (by decide) ?_
  refine pm_iadd B dL_law_651 ?_
  refine pm_stk (st' := [.int (nI (i + 1)), .ref b, .ref (z + 140)]) (by rw [show (nI i : Int32) + 1 = nI (i + 1) from nI_add i 1]) ?_
  refine pm_sld B hXs hbz (i + 1) (by omega) (by omega) dL_law_652 ?_
  refine pm_cV (As := [.int (xs (i + 1))]) (mc2 := 0) (ms2 := 0) B rfl hTM'.1 rfl hC1 mt_X13_barredMonths sv_L_179 dL_law_653 rfl hdX rfl (Nat.ble_eq_true_of_le (by omega)) (Nat.ble_eq_true_of_le (by omega)) ?_
  refine pm_stk (st' := [.int mv]) rfl ?_
  refine pm_istore B dL_law_656 rfl rfl ?_
  refine pm_loc (L' := [some (.ref b), some (.ref (z + 0)), some (.ref (z + 140)), some (.ref (z + 149)), some (.ref (z + 150)), some (.int (nI i)), some (.int kc), some (.int mv), none]) rfl ?_
  have fin : pm_G l z D X (cu + mcW + 0 + 0) (su + msW + 0 + 0) Q n' M1 2623 [some (.ref b), some (.ref (z + 0)), some (.ref (z + 140)), some (.ref (z + 149)), some (.ref (z + 150)), some (.int (nI i)), some (.int kc), some (.int mv), none] [] := pm_widen (k1 := cu + 25) (n1 := su + 78) (by omega) (by omega) (pm_wk (L' := [some (.ref b), some (.ref (z + 0)), some (.ref (z + 140)), some (.ref (z + 149)), some (.ref (z + 150)), some (.int (nI i)), none, none, none]) ⟨rfl, rfl, rfl, rfl, rfl, rfl, trivial⟩ (next n' M1 hn' (pm_Jn (by omega) hT' hT1 hL' h149' (h150'.trans h150) hR2 hF1)))
  refine pm_aload_n B dL_law_658 rfl ?_
  refine pm_cV (As := []) (mc2 := 0) (ms2 := 0) B rfl hT1.1 rfl (c_X13_thrown hT1.1) mt_X13_thrown sv_L_154 dL_law_659 rfl rfl rfl (Nat.ble_eq_true_of_le (by omega)) (Nat.ble_eq_true_of_le (by omega)) ?_
  refine pm_stk (st' := [.int (h2.1 6)]) rfl ?_
  refine pm_iload B dL_law_662 rfl ?_
  refine pm_icmp_eq (tgt := 669) B dL_law_664 (by decide) (fun _ => ?_) (fun hne => absurd e6 hne)
  refine pm_iload B dL_law_669 rfl ?_
  refine pm_if_ne (tgt := 686) B dL_law_671 (by decide) (fun _ => ?_) (fun hk0 => ?_)
  · exact pm_goto (tgt := 2623) B dL_law_686 (by decide) fin
  refine pm_aload_n B dL_law_674 rfl ?_
  refine pm_iconst (v := 0) B dL_law_675 (by decide) ?_
  refine pm_lald_n B dL_law_676 ((hF1 _ (Or.inr (by decide))).trans h149') 0 (by decide) (by decide) ?_
  refine pm_iload B dL_law_677 rfl ?_
  refine pm_i2l B dL_law_679 ?_
  refine pm_lcmp B dL_law_680 ?_
  refine pm_if_eq (tgt := 686) B dL_law_681 (by decide) (fun _ => ?_) (fun hne => absurd (pm_lcmp0 ((hV hk0).trans (by rw [e7 hk0]))) hne)
  exact pm_goto (tgt := 2623) B dL_law_686 (by decide) fin
theorem ss_L_180 : pm_SS RL 180 yL_memberByExcess := ⟨pm_T_in 949 (by decide +kernel) (by decide +kernel), pm_T_in 950 (by decide +kernel) (by decide +kernel)⟩
set_option maxHeartbeats 1000000 in
theorem pm_lw_8 {l : Launch} {z : Nat} {D : va_G} {kA : Nat → ClassId} {kE : Nat → Nat} {nm : String} {tb : List ExceptionTableEntry} {mc ms : Nat} {X : pm_X} {cu su : Nat} {Q : State → Prop} {nx : Nat} {M : pm_M} {b N i Bd Bd2 : Nat} {xs : Nat → Int32} {g : pm_Cs} {h h2 : pm_Ms} {L : Int32 × Int32 × Int32} {fo : Nat → Int64} {fd : Nat → UInt64} {R : Int32 → Int32 → pm_Cs → Int32 × Int32 × Int32 → Prop} {mv : Int32} {dW mcW msW dX : Nat} (hdW : Nat.ble (dW + 1) 2048 = true) (hmW : mcW ≤ 25) (hsW : msW ≤ 78) (hdX : Nat.ble (dX + 1) 2048 = true) (B : pm_B l z D kA kE RL code 9 ret nm tb 2048 mc ms X) (hXs : va_X b N xs X.2.2.2.1 X.2.2.2.1.heap) (hbz : b < z) (hiN : i + 4 ≤ N) (hN : N ≤ 2048) (hcu : cu + 25 ≤ mc) (hsu : su + 78 ≤ ms) (hnx : 151 ≤ nx) (hT : pm_TC z kA kE M g) (h150 : M 150 = some (.inl (kA 2, 1, .inr (.inr (.inr (.inl fd))))))
    (hW : pm_Cw l z D kA kE yL_memberByExcess cL_memberByExcess 4 (some .int) [(0, 9, 12, 36)] dW mcW msW [.ref (z + 0), .int (xs (i + 1)), .ref (z + 149)] nx M (pm_oA z kA kE nx M h (fun fo' v => fo' 0 = v.toInt64) R)) (hX : pm_xm l z D kA kE yX13_memberByExcess cX13_memberByExcess 9 (some .int) dX [.int (xs (i + 1))] h h2 (.int mv)) (hS : ∀ kc v g' L', R kc v g' L' → h2.1 6 = kc ∧ (kc = 0 → v = mv) ∧ pm_Rel Bd2 g' h2 L')
    (next : ∀ nx' M', nx ≤ nx' → pm_J z kA kE nx' M' Bd2 → pm_G l z D X (cu + 25) (su + 78) Q nx' M' 2623 [some (.ref b), some (.ref (z + 0)), some (.ref (z + 140)), some (.ref (z + 149)), some (.ref (z + 150)), some (.int (nI i)), none, none, none] []) : pm_G l z D X cu su Q nx M 689 [some (.ref b), some (.ref (z + 0)), some (.ref (z + 140)), some (.ref (z + 149)), some (.ref (z + 150)), some (.int (nI i)), none, none, none] [] := by
  refine pm_aload_n B dL_law_689 rfl ?_
  refine pm_aload_n B dL_law_690 rfl ?_
  refine pm_iload B dL_law_691 rfl ?_
  refine pm_iconst (v := 1) B dL_law_693 (by decide) ?_
  refine pm_iadd B dL_law_694 ?_
  refine pm_stk (st' := [.int (nI (i + 1)), .ref b, .ref (z + 0)]) (by rw [show (nI i : Int32) + 1 = nI (i + 1) from nI_add i 1]) ?_
  refine pm_sld B hXs hbz (i + 1) (by omega) (by omega) dL_law_695 ?_
  refine pm_aload_n B dL_law_696 rfl ?_
  refine pm_cSW (As := [.ref (z + 0), .int (xs (i + 1)), .ref (z + 149)]) (mc2 := mcW) (ms2 := msW) B hW mt_L_memberByExcess ss_L_180 dL_law_697 rfl hdW rfl (Nat.ble_eq_true_of_le (by omega)) (Nat.ble_eq_true_of_le (by omega)) (fun E n' M' hp => (pm_oA_no hp).elim) (fun u n' M' hp => ?_)
  obtain ⟨kc, v, g', L', fo', ho, hn', hT', hL', hTM', h149', h150', hV, hR'⟩ := hp
  obtain rfl : u = some (.int kc) := Sum.inl.inj ho
  obtain ⟨e6, e7, hR2⟩ := hS kc v g' L' hR'
  obtain ⟨M1, hC1, hT1, hF1⟩ := hX n' M' hTM'
  refine pm_stk (st' := [.int kc]) rfl ?_
  refine pm_istore B dL_law_700 rfl rfl ?_
  refine pm_loc (L' := [some (.ref b), some (.ref (z + 0)), some (.ref (z + 140)), some (.ref (z + 149)), some (.ref (z + 150)), some (.int (nI i)), some (.int kc), none, none]) rfl ?_
  refine pm_aload_n B dL_law_702 rfl ?_
  refine pm_aload_n B dL_law_703 rfl ?_
  refine pm_iload B dL_law_704 rfl ?_
  refine pm_iconst (v := 1) B dL_law_706 (by decide) ?_
  refine pm_iadd B dL_law_707 ?_
  refine pm_stk (st' := [.int (nI (i + 1)), .ref b, .ref (z + 140)]) (by rw [show (nI i : Int32) + 1 = nI (i + 1) from nI_add i 1]) ?_
  refine pm_sld B hXs hbz (i + 1) (by omega) (by omega) dL_law_708 ?_
  refine pm_cV (As := [.int (xs (i + 1))]) (mc2 := 0) (ms2 := 0) B rfl hTM'.1 rfl hC1 mt_X13_memberByExcess sv_L_182 dL_law_709 rfl hdX rfl (Nat.ble_eq_true_of_le (by omega)) (Nat.ble_eq_true_of_le (by omega)) ?_
  refine pm_stk (st' := [.int mv]) rfl ?_
  refine pm_istore B dL_law_712 rfl rfl ?_
  refine pm_loc (L' := [some (.ref b), some (.ref (z + 0)), some (.ref (z + 140)), some (.ref (z + 149)), some (.ref (z + 150)), some (.int (nI i)), some (.int kc), some (.int mv), none]) rfl ?_
  have fin : pm_G l z D X (cu + mcW + 0 + 0) (su + msW + 0 + 0) Q n' M1 2623 [some (.ref b), some (.ref (z + 0)), some (.ref (z + 140)), some (.ref (z + 149)), some (.ref (z + 150)), some (.int (nI i)), some (.int kc), some (.int mv), none] [] := pm_widen (k1 := cu + 25) (n1 := su + 78) (by omega) (by omega) (pm_wk (L' := [some (.ref b), some (.ref (z + 0)), some (.ref (z + 140)), some (.ref (z + 149)), some (.ref (z + 150)), some (.int (nI i)), none, none, none]) ⟨rfl, rfl, rfl, rfl, rfl, rfl, trivial⟩ (next n' M1 hn' (pm_Jn (by omega) hT' hT1 hL' h149' (h150'.trans h150) hR2 hF1)))
  refine pm_aload_n B dL_law_714 rfl ?_
  refine pm_cV (As := []) (mc2 := 0) (ms2 := 0) B rfl hT1.1 rfl (c_X13_thrown hT1.1) mt_X13_thrown sv_L_154 dL_law_715 rfl rfl rfl (Nat.ble_eq_true_of_le (by omega)) (Nat.ble_eq_true_of_le (by omega)) ?_
  refine pm_stk (st' := [.int (h2.1 6)]) rfl ?_
  refine pm_iload B dL_law_718 rfl ?_
  refine pm_icmp_eq (tgt := 725) B dL_law_720 (by decide) (fun _ => ?_) (fun hne => absurd e6 hne)
  refine pm_iload B dL_law_725 rfl ?_
  refine pm_if_ne (tgt := 742) B dL_law_727 (by decide) (fun _ => ?_) (fun hk0 => ?_)
  · exact pm_goto (tgt := 2623) B dL_law_742 (by decide) fin
  refine pm_aload_n B dL_law_730 rfl ?_
  refine pm_iconst (v := 0) B dL_law_731 (by decide) ?_
  refine pm_lald_n B dL_law_732 ((hF1 _ (Or.inr (by decide))).trans h149') 0 (by decide) (by decide) ?_
  refine pm_iload B dL_law_733 rfl ?_
  refine pm_i2l B dL_law_735 ?_
  refine pm_lcmp B dL_law_736 ?_
  refine pm_if_eq (tgt := 742) B dL_law_737 (by decide) (fun _ => ?_) (fun hne => absurd (pm_lcmp0 ((hV hk0).trans (by rw [e7 hk0]))) hne)
  exact pm_goto (tgt := 2623) B dL_law_742 (by decide) fin
theorem ss_L_183 : pm_SS RL 183 yL_setRule := ⟨pm_T_in 966 (by decide +kernel) (by decide +kernel), pm_T_in 967 (by decide +kernel) (by decide +kernel)⟩
set_option maxHeartbeats 1000000 in
theorem pm_lw_9 {l : Launch} {z : Nat} {D : va_G} {kA : Nat → ClassId} {kE : Nat → Nat} {nm : String} {tb : List ExceptionTableEntry} {mc ms : Nat} {X : pm_X} {cu su : Nat} {Q : State → Prop} {nx : Nat} {M : pm_M} {b N i Bd Bd2 : Nat} {xs : Nat → Int32} {g : pm_Cs} {h h2 : pm_Ms} {L : Int32 × Int32 × Int32} {fo : Nat → Int64} {fd : Nat → UInt64} {R : Int32 → Int32 → pm_Cs → Int32 × Int32 × Int32 → Prop} {mv : Int32} {dW mcW msW dX : Nat} (hdW : Nat.ble (dW + 1) 2048 = true) (hmW : mcW ≤ 25) (hsW : msW ≤ 78) (hdX : Nat.ble (dX + 1) 2048 = true) (B : pm_B l z D kA kE RL code 9 ret nm tb 2048 mc ms X) (hXs : va_X b N xs X.2.2.2.1 X.2.2.2.1.heap) (hbz : b < z) (hiN : i + 4 ≤ N) (hN : N ≤ 2048) (hcu : cu + 25 ≤ mc) (hsu : su + 78 ≤ ms) (hnx : 151 ≤ nx) (hT : pm_TC z kA kE M g) (h150 : M 150 = some (.inl (kA 2, 1, .inr (.inr (.inr (.inl fd))))))
    (hW : pm_Cw l z D kA kE yL_setRule cL_setRule 4 (some .int) [(0, 9, 12, 13), (0, 9, 15, 15)] dW mcW msW [.ref (z + 0), .int (xs (i + 1)), .ref (z + 149)] nx M (pm_oA z kA kE nx M h (fun fo' v => fo' 0 = v.toInt64) R)) (hX : pm_xm l z D kA kE yX13_setRule cX13_setRule 2 (some .int) dX [.int (xs (i + 1))] h h2 (.int mv)) (hS : ∀ kc v g' L', R kc v g' L' → h2.1 6 = kc ∧ (kc = 0 → v = mv) ∧ pm_Rel Bd2 g' h2 L')
    (next : ∀ nx' M', nx ≤ nx' → pm_J z kA kE nx' M' Bd2 → pm_G l z D X (cu + 25) (su + 78) Q nx' M' 2623 [some (.ref b), some (.ref (z + 0)), some (.ref (z + 140)), some (.ref (z + 149)), some (.ref (z + 150)), some (.int (nI i)), none, none, none] []) : pm_G l z D X cu su Q nx M 745 [some (.ref b), some (.ref (z + 0)), some (.ref (z + 140)), some (.ref (z + 149)), some (.ref (z + 150)), some (.int (nI i)), none, none, none] [] := by
  refine pm_aload_n B dL_law_745 rfl ?_
  refine pm_aload_n B dL_law_746 rfl ?_
  refine pm_iload B dL_law_747 rfl ?_
  refine pm_iconst (v := 1) B dL_law_749 (by decide) ?_
  refine pm_iadd B dL_law_750 ?_
  refine pm_stk (st' := [.int (nI (i + 1)), .ref b, .ref (z + 0)]) (by rw [show (nI i : Int32) + 1 = nI (i + 1) from nI_add i 1]) ?_
  refine pm_sld B hXs hbz (i + 1) (by omega) (by omega) dL_law_751 ?_
  refine pm_aload_n B dL_law_752 rfl ?_
  refine pm_cSW (As := [.ref (z + 0), .int (xs (i + 1)), .ref (z + 149)]) (mc2 := mcW) (ms2 := msW) B hW mt_L_setRule ss_L_183 dL_law_753 rfl hdW rfl (Nat.ble_eq_true_of_le (by omega)) (Nat.ble_eq_true_of_le (by omega)) (fun E n' M' hp => (pm_oA_no hp).elim) (fun u n' M' hp => ?_)
  obtain ⟨kc, v, g', L', fo', ho, hn', hT', hL', hTM', h149', h150', hV, hR'⟩ := hp
  obtain rfl : u = some (.int kc) := Sum.inl.inj ho
  obtain ⟨e6, e7, hR2⟩ := hS kc v g' L' hR'
  obtain ⟨M1, hC1, hT1, hF1⟩ := hX n' M' hTM'
  refine pm_stk (st' := [.int kc]) rfl ?_
  refine pm_istore B dL_law_756 rfl rfl ?_
  refine pm_loc (L' := [some (.ref b), some (.ref (z + 0)), some (.ref (z + 140)), some (.ref (z + 149)), some (.ref (z + 150)), some (.int (nI i)), some (.int kc), none, none]) rfl ?_
  refine pm_aload_n B dL_law_758 rfl ?_
  refine pm_aload_n B dL_law_759 rfl ?_
  refine pm_iload B dL_law_760 rfl ?_
  refine pm_iconst (v := 1) B dL_law_762 (by decide) ?_
  refine pm_iadd B dL_law_763 ?_
  refine pm_stk (st' := [.int (nI (i + 1)), .ref b, .ref (z + 140)]) (by rw [show (nI i : Int32) + 1 = nI (i + 1) from nI_add i 1]) ?_
  refine pm_sld B hXs hbz (i + 1) (by omega) (by omega) dL_law_764 ?_
  refine pm_cV (As := [.int (xs (i + 1))]) (mc2 := 0) (ms2 := 0) B rfl hTM'.1 rfl hC1 mt_X13_setRule sv_L_185 dL_law_765 rfl hdX rfl (Nat.ble_eq_true_of_le (by omega)) (Nat.ble_eq_true_of_le (by omega)) ?_
  refine pm_stk (st' := [.int mv]) rfl ?_
  refine pm_istore B dL_law_768 rfl rfl ?_
  refine pm_loc (L' := [some (.ref b), some (.ref (z + 0)), some (.ref (z + 140)), some (.ref (z + 149)), some (.ref (z + 150)), some (.int (nI i)), some (.int kc), some (.int mv), none]) rfl ?_
  have fin : pm_G l z D X (cu + mcW + 0 + 0) (su + msW + 0 + 0) Q n' M1 2623 [some (.ref b), some (.ref (z + 0)), some (.ref (z + 140)), some (.ref (z + 149)), some (.ref (z + 150)), some (.int (nI i)), some (.int kc), some (.int mv), none] [] := pm_widen (k1 := cu + 25) (n1 := su + 78) (by omega) (by omega) (pm_wk (L' := [some (.ref b), some (.ref (z + 0)), some (.ref (z + 140)), some (.ref (z + 149)), some (.ref (z + 150)), some (.int (nI i)), none, none, none]) ⟨rfl, rfl, rfl, rfl, rfl, rfl, trivial⟩ (next n' M1 hn' (pm_Jn (by omega) hT' hT1 hL' h149' (h150'.trans h150) hR2 hF1)))
  refine pm_aload_n B dL_law_770 rfl ?_
  refine pm_cV (As := []) (mc2 := 0) (ms2 := 0) B rfl hT1.1 rfl (c_X13_thrown hT1.1) mt_X13_thrown sv_L_154 dL_law_771 rfl rfl rfl (Nat.ble_eq_true_of_le (by omega)) (Nat.ble_eq_true_of_le (by omega)) ?_
  refine pm_stk (st' := [.int (h2.1 6)]) rfl ?_
  refine pm_iload B dL_law_774 rfl ?_
  refine pm_icmp_eq (tgt := 781) B dL_law_776 (by decide) (fun _ => ?_) (fun hne => absurd e6 hne)
  refine pm_iload B dL_law_781 rfl ?_
  refine pm_if_ne (tgt := 798) B dL_law_783 (by decide) (fun _ => ?_) (fun hk0 => ?_)
  · exact pm_goto (tgt := 2623) B dL_law_798 (by decide) fin
  refine pm_aload_n B dL_law_786 rfl ?_
  refine pm_iconst (v := 0) B dL_law_787 (by decide) ?_
  refine pm_lald_n B dL_law_788 ((hF1 _ (Or.inr (by decide))).trans h149') 0 (by decide) (by decide) ?_
  refine pm_iload B dL_law_789 rfl ?_
  refine pm_i2l B dL_law_791 ?_
  refine pm_lcmp B dL_law_792 ?_
  refine pm_if_eq (tgt := 798) B dL_law_793 (by decide) (fun _ => ?_) (fun hne => absurd (pm_lcmp0 ((hV hk0).trans (by rw [e7 hk0]))) hne)
  exact pm_goto (tgt := 2623) B dL_law_798 (by decide) fin
theorem ss_L_186 : pm_SS RL 186 yL_assign := ⟨pm_T_in 975 (by decide +kernel) (by decide +kernel), pm_T_in 976 (by decide +kernel) (by decide +kernel)⟩
set_option maxHeartbeats 1000000 in
theorem pm_lw_10 {l : Launch} {z : Nat} {D : va_G} {kA : Nat → ClassId} {kE : Nat → Nat} {nm : String} {tb : List ExceptionTableEntry} {mc ms : Nat} {X : pm_X} {cu su : Nat} {Q : State → Prop} {nx : Nat} {M : pm_M} {b N i Bd Bd2 : Nat} {xs : Nat → Int32} {g : pm_Cs} {h h2 : pm_Ms} {L : Int32 × Int32 × Int32} {fo : Nat → Int64} {fd : Nat → UInt64} {R : Int32 → Int32 → pm_Cs → Int32 × Int32 × Int32 → Prop} {mv : Int32} {dW mcW msW dX : Nat} (hdW : Nat.ble (dW + 1) 2048 = true) (hmW : mcW ≤ 25) (hsW : msW ≤ 78) (hdX : Nat.ble (dX + 1) 2048 = true) (B : pm_B l z D kA kE RL code 9 ret nm tb 2048 mc ms X) (hXs : va_X b N xs X.2.2.2.1 X.2.2.2.1.heap) (hbz : b < z) (hiN : i + 4 ≤ N) (hN : N ≤ 2048) (hcu : cu + 25 ≤ mc) (hsu : su + 78 ≤ ms) (hnx : 151 ≤ nx) (hT : pm_TC z kA kE M g) (h150 : M 150 = some (.inl (kA 2, 1, .inr (.inr (.inr (.inl fd))))))
    (hW : pm_Cw l z D kA kE yL_assign cL_assign 4 (some .int) [(0, 9, 12, 13)] dW mcW msW [.ref (z + 0), .int (xs (i + 1)), .ref (z + 149)] nx M (pm_oA z kA kE nx M h (fun fo' v => fo' 0 = v.toInt64) R)) (hX : pm_xm l z D kA kE yX13_assign cX13_assign 2 (some .int) dX [.int (xs (i + 1))] h h2 (.int mv)) (hS : ∀ kc v g' L', R kc v g' L' → h2.1 6 = kc ∧ (kc = 0 → v = mv) ∧ pm_Rel Bd2 g' h2 L')
    (next : ∀ nx' M', nx ≤ nx' → pm_J z kA kE nx' M' Bd2 → pm_G l z D X (cu + 25) (su + 78) Q nx' M' 2623 [some (.ref b), some (.ref (z + 0)), some (.ref (z + 140)), some (.ref (z + 149)), some (.ref (z + 150)), some (.int (nI i)), none, none, none] []) : pm_G l z D X cu su Q nx M 801 [some (.ref b), some (.ref (z + 0)), some (.ref (z + 140)), some (.ref (z + 149)), some (.ref (z + 150)), some (.int (nI i)), none, none, none] [] := by
  refine pm_aload_n B dL_law_801 rfl ?_
  refine pm_aload_n B dL_law_802 rfl ?_
  refine pm_iload B dL_law_803 rfl ?_
  refine pm_iconst (v := 1) B dL_law_805 (by decide) ?_
  refine pm_iadd B dL_law_806 ?_
  refine pm_stk (st' := [.int (nI (i + 1)), .ref b, .ref (z + 0)]) (by rw [show (nI i : Int32) + 1 = nI (i + 1) from nI_add i 1]) ?_
  refine pm_sld B hXs hbz (i + 1) (by omega) (by omega) dL_law_807 ?_
  refine pm_aload_n B dL_law_808 rfl ?_
  refine pm_cSW (As := [.ref (z + 0), .int (xs (i + 1)), .ref (z + 149)]) (mc2 := mcW) (ms2 := msW) B hW mt_L_assign ss_L_186 dL_law_809 rfl hdW rfl (Nat.ble_eq_true_of_le (by omega)) (Nat.ble_eq_true_of_le (by omega)) (fun E n' M' hp => (pm_oA_no hp).elim) (fun u n' M' hp => ?_)
  obtain ⟨kc, v, g', L', fo', ho, hn', hT', hL', hTM', h149', h150', hV, hR'⟩ := hp
  obtain rfl : u = some (.int kc) := Sum.inl.inj ho
  obtain ⟨e6, e7, hR2⟩ := hS kc v g' L' hR'
  obtain ⟨M1, hC1, hT1, hF1⟩ := hX n' M' hTM'
  refine pm_stk (st' := [.int kc]) rfl ?_
  refine pm_istore B dL_law_812 rfl rfl ?_
  refine pm_loc (L' := [some (.ref b), some (.ref (z + 0)), some (.ref (z + 140)), some (.ref (z + 149)), some (.ref (z + 150)), some (.int (nI i)), some (.int kc), none, none]) rfl ?_
  refine pm_aload_n B dL_law_814 rfl ?_
  refine pm_aload_n B dL_law_815 rfl ?_
  refine pm_iload B dL_law_816 rfl ?_
  refine pm_iconst (v := 1) B dL_law_818 (by decide) ?_
  refine pm_iadd B dL_law_819 ?_
  refine pm_stk (st' := [.int (nI (i + 1)), .ref b, .ref (z + 140)]) (by rw [show (nI i : Int32) + 1 = nI (i + 1) from nI_add i 1]) ?_
  refine pm_sld B hXs hbz (i + 1) (by omega) (by omega) dL_law_820 ?_
  refine pm_cV (As := [.int (xs (i + 1))]) (mc2 := 0) (ms2 := 0) B rfl hTM'.1 rfl hC1 mt_X13_assign sv_L_188 dL_law_821 rfl hdX rfl (Nat.ble_eq_true_of_le (by omega)) (Nat.ble_eq_true_of_le (by omega)) ?_
  refine pm_stk (st' := [.int mv]) rfl ?_
  refine pm_istore B dL_law_824 rfl rfl ?_
  refine pm_loc (L' := [some (.ref b), some (.ref (z + 0)), some (.ref (z + 140)), some (.ref (z + 149)), some (.ref (z + 150)), some (.int (nI i)), some (.int kc), some (.int mv), none]) rfl ?_
  have fin : pm_G l z D X (cu + mcW + 0 + 0) (su + msW + 0 + 0) Q n' M1 2623 [some (.ref b), some (.ref (z + 0)), some (.ref (z + 140)), some (.ref (z + 149)), some (.ref (z + 150)), some (.int (nI i)), some (.int kc), some (.int mv), none] [] := pm_widen (k1 := cu + 25) (n1 := su + 78) (by omega) (by omega) (pm_wk (L' := [some (.ref b), some (.ref (z + 0)), some (.ref (z + 140)), some (.ref (z + 149)), some (.ref (z + 150)), some (.int (nI i)), none, none, none]) ⟨rfl, rfl, rfl, rfl, rfl, rfl, trivial⟩ (next n' M1 hn' (pm_Jn (by omega) hT' hT1 hL' h149' (h150'.trans h150) hR2 hF1)))
  refine pm_aload_n B dL_law_826 rfl ?_
  refine pm_cV (As := []) (mc2 := 0) (ms2 := 0) B rfl hT1.1 rfl (c_X13_thrown hT1.1) mt_X13_thrown sv_L_154 dL_law_827 rfl rfl rfl (Nat.ble_eq_true_of_le (by omega)) (Nat.ble_eq_true_of_le (by omega)) ?_
  refine pm_stk (st' := [.int (h2.1 6)]) rfl ?_
  refine pm_iload B dL_law_830 rfl ?_
  refine pm_icmp_eq (tgt := 837) B dL_law_832 (by decide) (fun _ => ?_) (fun hne => absurd e6 hne)
  refine pm_iload B dL_law_837 rfl ?_
  refine pm_if_ne (tgt := 854) B dL_law_839 (by decide) (fun _ => ?_) (fun hk0 => ?_)
  · exact pm_goto (tgt := 2623) B dL_law_854 (by decide) fin
  refine pm_aload_n B dL_law_842 rfl ?_
  refine pm_iconst (v := 0) B dL_law_843 (by decide) ?_
  refine pm_lald_n B dL_law_844 ((hF1 _ (Or.inr (by decide))).trans h149') 0 (by decide) (by decide) ?_
  refine pm_iload B dL_law_845 rfl ?_
  refine pm_i2l B dL_law_847 ?_
  refine pm_lcmp B dL_law_848 ?_
  refine pm_if_eq (tgt := 854) B dL_law_849 (by decide) (fun _ => ?_) (fun hne => absurd (pm_lcmp0 ((hV hk0).trans (by rw [e7 hk0]))) hne)
  exact pm_goto (tgt := 2623) B dL_law_854 (by decide) fin
theorem ss_L_189 : pm_SS RL 189 yL_sell := ⟨pm_T_in 984 (by decide +kernel) (by decide +kernel), pm_T_in 985 (by decide +kernel) (by decide +kernel)⟩
set_option maxHeartbeats 1000000 in
theorem pm_lw_11 {l : Launch} {z : Nat} {D : va_G} {kA : Nat → ClassId} {kE : Nat → Nat} {nm : String} {tb : List ExceptionTableEntry} {mc ms : Nat} {X : pm_X} {cu su : Nat} {Q : State → Prop} {nx : Nat} {M : pm_M} {b N i Bd Bd2 : Nat} {xs : Nat → Int32} {g : pm_Cs} {h h2 : pm_Ms} {L : Int32 × Int32 × Int32} {fo : Nat → Int64} {fd : Nat → UInt64} {R : Int32 → Int32 → pm_Cs → Int32 × Int32 × Int32 → Prop} {mv : Int32} {dW mcW msW dX : Nat} (hdW : Nat.ble (dW + 1) 2048 = true) (hmW : mcW ≤ 25) (hsW : msW ≤ 78) (hdX : Nat.ble (dX + 1) 2048 = true) (B : pm_B l z D kA kE RL code 9 ret nm tb 2048 mc ms X) (hXs : va_X b N xs X.2.2.2.1 X.2.2.2.1.heap) (hbz : b < z) (hiN : i + 4 ≤ N) (hN : N ≤ 2048) (hcu : cu + 25 ≤ mc) (hsu : su + 78 ≤ ms) (hnx : 151 ≤ nx) (hT : pm_TC z kA kE M g) (h150 : M 150 = some (.inl (kA 2, 1, .inr (.inr (.inr (.inl fd))))))
    (hW : pm_Cw l z D kA kE yL_sell cL_sell 5 (some .int) [(0, 10, 13, 21), (0, 10, 17, 13), (0, 10, 21, 15)] dW mcW msW [.ref (z + 0), .int (xs (i + 1)), .int (xs (i + 2)), .ref (z + 149)] nx M (pm_oA z kA kE nx M h (fun fo' v => fo' 0 = v.toInt64) R)) (hX : pm_xm l z D kA kE yX13_sell cX13_sell 3 (some .int) dX [.int (xs (i + 1)), .int (xs (i + 2))] h h2 (.int mv)) (hS : ∀ kc v g' L', R kc v g' L' → h2.1 6 = kc ∧ (kc = 0 → v = mv) ∧ pm_Rel Bd2 g' h2 L')
    (next : ∀ nx' M', nx ≤ nx' → pm_J z kA kE nx' M' Bd2 → pm_G l z D X (cu + 25) (su + 78) Q nx' M' 2623 [some (.ref b), some (.ref (z + 0)), some (.ref (z + 140)), some (.ref (z + 149)), some (.ref (z + 150)), some (.int (nI i)), none, none, none] []) : pm_G l z D X cu su Q nx M 857 [some (.ref b), some (.ref (z + 0)), some (.ref (z + 140)), some (.ref (z + 149)), some (.ref (z + 150)), some (.int (nI i)), none, none, none] [] := by
  refine pm_aload_n B dL_law_857 rfl ?_
  refine pm_aload_n B dL_law_858 rfl ?_
  refine pm_iload B dL_law_859 rfl ?_
  refine pm_iconst (v := 1) B dL_law_861 (by decide) ?_
  refine pm_iadd B dL_law_862 ?_
  refine pm_stk (st' := [.int (nI (i + 1)), .ref b, .ref (z + 0)]) (by rw [show (nI i : Int32) + 1 = nI (i + 1) from nI_add i 1]) ?_
  refine pm_sld B hXs hbz (i + 1) (by omega) (by omega) dL_law_863 ?_
  refine pm_aload_n B dL_law_864 rfl ?_
  refine pm_iload B dL_law_865 rfl ?_
  refine pm_iconst (v := 2) B dL_law_867 (by decide) ?_
  refine pm_iadd B dL_law_868 ?_
  refine pm_stk (st' := [.int (nI (i + 2)), .ref b, .int (xs (i + 1)), .ref (z + 0)]) (by rw [show (nI i : Int32) + 2 = nI (i + 2) from nI_add i 2]) ?_
  refine pm_sld B hXs hbz (i + 2) (by omega) (by omega) dL_law_869 ?_
  refine pm_aload_n B dL_law_870 rfl ?_
  refine pm_cSW (As := [.ref (z + 0), .int (xs (i + 1)), .int (xs (i + 2)), .ref (z + 149)]) (mc2 := mcW) (ms2 := msW) B hW mt_L_sell ss_L_189 dL_law_871 rfl hdW rfl (Nat.ble_eq_true_of_le (by omega)) (Nat.ble_eq_true_of_le (by omega)) (fun E n' M' hp => (pm_oA_no hp).elim) (fun u n' M' hp => ?_)
  obtain ⟨kc, v, g', L', fo', ho, hn', hT', hL', hTM', h149', h150', hV, hR'⟩ := hp
  obtain rfl : u = some (.int kc) := Sum.inl.inj ho
  obtain ⟨e6, e7, hR2⟩ := hS kc v g' L' hR'
  obtain ⟨M1, hC1, hT1, hF1⟩ := hX n' M' hTM'
  refine pm_stk (st' := [.int kc]) rfl ?_
  refine pm_istore B dL_law_874 rfl rfl ?_
  refine pm_loc (L' := [some (.ref b), some (.ref (z + 0)), some (.ref (z + 140)), some (.ref (z + 149)), some (.ref (z + 150)), some (.int (nI i)), some (.int kc), none, none]) rfl ?_
  refine pm_aload_n B dL_law_876 rfl ?_
  refine pm_aload_n B dL_law_877 rfl ?_
  refine pm_iload B dL_law_878 rfl ?_
  refine pm_iconst (v := 1) B dL_law_880 (by decide) ?_
  refine pm_iadd B dL_law_881 ?_
  refine pm_stk (st' := [.int (nI (i + 1)), .ref b, .ref (z + 140)]) (by rw [show (nI i : Int32) + 1 = nI (i + 1) from nI_add i 1]) ?_
  refine pm_sld B hXs hbz (i + 1) (by omega) (by omega) dL_law_882 ?_
  refine pm_aload_n B dL_law_883 rfl ?_
  refine pm_iload B dL_law_884 rfl ?_
  refine pm_iconst (v := 2) B dL_law_886 (by decide) ?_
  refine pm_iadd B dL_law_887 ?_
  refine pm_stk (st' := [.int (nI (i + 2)), .ref b, .int (xs (i + 1)), .ref (z + 140)]) (by rw [show (nI i : Int32) + 2 = nI (i + 2) from nI_add i 2]) ?_
  refine pm_sld B hXs hbz (i + 2) (by omega) (by omega) dL_law_888 ?_
  refine pm_cV (As := [.int (xs (i + 1)), .int (xs (i + 2))]) (mc2 := 0) (ms2 := 0) B rfl hTM'.1 rfl hC1 mt_X13_sell sv_L_191 dL_law_889 rfl hdX rfl (Nat.ble_eq_true_of_le (by omega)) (Nat.ble_eq_true_of_le (by omega)) ?_
  refine pm_stk (st' := [.int mv]) rfl ?_
  refine pm_istore B dL_law_892 rfl rfl ?_
  refine pm_loc (L' := [some (.ref b), some (.ref (z + 0)), some (.ref (z + 140)), some (.ref (z + 149)), some (.ref (z + 150)), some (.int (nI i)), some (.int kc), some (.int mv), none]) rfl ?_
  have fin : pm_G l z D X (cu + mcW + 0 + 0) (su + msW + 0 + 0) Q n' M1 2623 [some (.ref b), some (.ref (z + 0)), some (.ref (z + 140)), some (.ref (z + 149)), some (.ref (z + 150)), some (.int (nI i)), some (.int kc), some (.int mv), none] [] := pm_widen (k1 := cu + 25) (n1 := su + 78) (by omega) (by omega) (pm_wk (L' := [some (.ref b), some (.ref (z + 0)), some (.ref (z + 140)), some (.ref (z + 149)), some (.ref (z + 150)), some (.int (nI i)), none, none, none]) ⟨rfl, rfl, rfl, rfl, rfl, rfl, trivial⟩ (next n' M1 hn' (pm_Jn (by omega) hT' hT1 hL' h149' (h150'.trans h150) hR2 hF1)))
  refine pm_aload_n B dL_law_894 rfl ?_
  refine pm_cV (As := []) (mc2 := 0) (ms2 := 0) B rfl hT1.1 rfl (c_X13_thrown hT1.1) mt_X13_thrown sv_L_154 dL_law_895 rfl rfl rfl (Nat.ble_eq_true_of_le (by omega)) (Nat.ble_eq_true_of_le (by omega)) ?_
  refine pm_stk (st' := [.int (h2.1 6)]) rfl ?_
  refine pm_iload B dL_law_898 rfl ?_
  refine pm_icmp_eq (tgt := 905) B dL_law_900 (by decide) (fun _ => ?_) (fun hne => absurd e6 hne)
  refine pm_iload B dL_law_905 rfl ?_
  refine pm_if_ne (tgt := 922) B dL_law_907 (by decide) (fun _ => ?_) (fun hk0 => ?_)
  · exact pm_goto (tgt := 2623) B dL_law_922 (by decide) fin
  refine pm_aload_n B dL_law_910 rfl ?_
  refine pm_iconst (v := 0) B dL_law_911 (by decide) ?_
  refine pm_lald_n B dL_law_912 ((hF1 _ (Or.inr (by decide))).trans h149') 0 (by decide) (by decide) ?_
  refine pm_iload B dL_law_913 rfl ?_
  refine pm_i2l B dL_law_915 ?_
  refine pm_lcmp B dL_law_916 ?_
  refine pm_if_eq (tgt := 922) B dL_law_917 (by decide) (fun _ => ?_) (fun hne => absurd (pm_lcmp0 ((hV hk0).trans (by rw [e7 hk0]))) hne)
  exact pm_goto (tgt := 2623) B dL_law_922 (by decide) fin
set_option maxHeartbeats 1000000 in
theorem pm_lw_12 {l : Launch} {z : Nat} {D : va_G} {kA : Nat → ClassId} {kE : Nat → Nat} {nm : String} {tb : List ExceptionTableEntry} {mc ms : Nat} {X : pm_X} {cu su : Nat} {Q : State → Prop} {nx : Nat} {M : pm_M} {b N i Bd Bd2 : Nat} {xs : Nat → Int32} {g : pm_Cs} {h h2 : pm_Ms} {L : Int32 × Int32 × Int32} {fo : Nat → Int64} {fd : Nat → UInt64} {R : Int32 → Int32 → pm_Cs → Int32 × Int32 × Int32 → Prop} {mv : Int32} {dW mcW msW dX : Nat} (hdW : Nat.ble (dW + 1) 2048 = true) (hmW : mcW ≤ 25) (hsW : msW ≤ 78) (hdX : Nat.ble (dX + 1) 2048 = true) (B : pm_B l z D kA kE RL code 9 ret nm tb 2048 mc ms X) (hcu : cu + 25 ≤ mc) (hsu : su + 78 ≤ ms) (hnx : 151 ≤ nx) (hT : pm_TC z kA kE M g) (hTM : pm_TM z kA M h) (h149 : M 149 = some (.inl (kA 1, 1, .inr (.inl fo)))) (h150 : M 150 = some (.inl (kA 2, 1, .inr (.inr (.inr (.inl fd))))))
    (hC : pm_C l z D kA kE yX12_close cX12_close 1 (some .int) dW mcW msW [.ref (z + 0)] nx M (pm_cl2 z kA kE nx M [] R)) (hX : pm_xm l z D kA kE yX13_close cX13_close 1 (some .int) dX [] h h2 (.int mv)) (hS : ∀ v g' L', R 0 v g' L' → v = mv ∧ pm_Rel Bd2 g' h2 L')
    (next : ∀ nx' M', nx ≤ nx' → pm_J z kA kE nx' M' Bd2 → pm_G l z D X (cu + 25) (su + 78) Q nx' M' 2623 [some (.ref b), some (.ref (z + 0)), some (.ref (z + 140)), some (.ref (z + 149)), some (.ref (z + 150)), some (.int (nI i)), none, none, none] []) : pm_G l z D X cu su Q nx M 925 [some (.ref b), some (.ref (z + 0)), some (.ref (z + 140)), some (.ref (z + 149)), some (.ref (z + 150)), some (.int (nI i)), none, none, none] [] := by
  refine pm_aload_n B dL_law_925 rfl ?_
  refine pm_callV (As := []) (mc2 := mcW) (ms2 := msW) (d2 := dW) B rfl hT.1 rfl hC mt_X12_close sv_L_192 dL_law_926 rfl hdW rfl (Nat.ble_eq_true_of_le (by omega)) (Nat.ble_eq_true_of_le (by omega)) (fun E n' M' hp => ?_) (fun u n' M' hp => ?_)
  · obtain ⟨e, he, _⟩ := pm_clE hp
    cases he
  obtain ⟨hF, hn', g', L', hT', hL', hv⟩ := hp
  obtain ⟨v, hv, hR'⟩ : ∃ v, u = some (.int v) ∧ R 0 v g' L' := by
    rcases hv with ⟨v, hv, hR⟩ | ⟨e, he, _⟩
    · exact ⟨v, Sum.inl.inj hv, hR⟩
    · cases he
  subst hv
  obtain ⟨e7, hR2⟩ := hS v g' L' hR'
  obtain ⟨M1, hC1, hT1, hF1⟩ := hX n' M' (pm_TM_keep hTM (fun x h1 h2 => hF x h1 (by omega)))
  refine pm_stk (st' := [.int v]) rfl ?_
  refine pm_aload_n B dL_law_929 rfl ?_
  refine pm_cV (As := []) (mc2 := 0) (ms2 := 0) B rfl ((hF _ (by decide) (by omega)).trans hTM.1) rfl hC1 mt_X13_close sv_L_195 dL_law_930 rfl hdX rfl (Nat.ble_eq_true_of_le (by omega)) (Nat.ble_eq_true_of_le (by omega)) ?_
  refine pm_stk (st' := [.int mv, .int v]) rfl ?_
  refine pm_icmp_eq (tgt := 2623) B dL_law_933 (by decide) (fun _ => ?_) (fun hne => absurd e7 hne)
  exact pm_widen (k1 := cu + 25) (n1 := su + 78) (by omega) (by omega) (next n' M1 hn' (pm_Jn (by omega) hT' hT1 hL' ((hF _ (by decide) (by omega)).trans h149) ((hF _ (by decide) (by omega)).trans h150) hR2 hF1))
theorem ss_L_196 : pm_SS RL 196 yL_quotaBy := ⟨pm_T_in 993 (by decide +kernel) (by decide +kernel), pm_T_in 994 (by decide +kernel) (by decide +kernel)⟩
set_option maxHeartbeats 1000000 in
theorem pm_lw_13 {l : Launch} {z : Nat} {D : va_G} {kA : Nat → ClassId} {kE : Nat → Nat} {nm : String} {tb : List ExceptionTableEntry} {mc ms : Nat} {X : pm_X} {cu su : Nat} {Q : State → Prop} {nx : Nat} {M : pm_M} {b N i Bd Bd2 : Nat} {xs : Nat → Int32} {g : pm_Cs} {h h2 : pm_Ms} {L : Int32 × Int32 × Int32} {fo : Nat → Int64} {fd : Nat → UInt64} {R : Int32 → Int32 → pm_Cs → Int32 × Int32 × Int32 → Prop} {mv : Int32} {dW mcW msW dX : Nat} (hdW : Nat.ble (dW + 1) 2048 = true) (hmW : mcW ≤ 25) (hsW : msW ≤ 78) (hdX : Nat.ble (dX + 1) 2048 = true) (B : pm_B l z D kA kE RL code 9 ret nm tb 2048 mc ms X) (hXs : va_X b N xs X.2.2.2.1 X.2.2.2.1.heap) (hbz : b < z) (hiN : i + 4 ≤ N) (hN : N ≤ 2048) (hcu : cu + 25 ≤ mc) (hsu : su + 78 ≤ ms) (hnx : 151 ≤ nx) (hT : pm_TC z kA kE M g) (h150 : M 150 = some (.inl (kA 2, 1, .inr (.inr (.inr (.inl fd))))))
    (hW : pm_Cw l z D kA kE yL_quotaBy cL_quotaBy 6 (some .int) [(0, 12, 15, 21), (0, 12, 19, 13)] dW mcW msW [.ref (z + 0), .int (xs (i + 1)), .int (xs (i + 2)), .int (xs (i + 3)), .ref (z + 149)] nx M (pm_oA z kA kE nx M h (fun fo' v => fo' 0 = v.toInt64) R)) (hX : pm_xm l z D kA kE yX13_quotaBy cX13_quotaBy 4 (some .int) dX [.int (xs (i + 1)), .int (xs (i + 2)), .int (xs (i + 3))] h h2 (.int mv)) (hS : ∀ kc v g' L', R kc v g' L' → h2.1 6 = kc ∧ (kc = 0 → v = mv) ∧ pm_Rel Bd2 g' h2 L')
    (next : ∀ nx' M', nx ≤ nx' → pm_J z kA kE nx' M' Bd2 → pm_G l z D X (cu + 25) (su + 78) Q nx' M' 2623 [some (.ref b), some (.ref (z + 0)), some (.ref (z + 140)), some (.ref (z + 149)), some (.ref (z + 150)), some (.int (nI i)), none, none, none] []) : pm_G l z D X cu su Q nx M 938 [some (.ref b), some (.ref (z + 0)), some (.ref (z + 140)), some (.ref (z + 149)), some (.ref (z + 150)), some (.int (nI i)), none, none, none] [] := by
  refine pm_aload_n B dL_law_938 rfl ?_
  refine pm_aload_n B dL_law_939 rfl ?_
  refine pm_iload B dL_law_940 rfl ?_
  refine pm_iconst (v := 1) B dL_law_942 (by decide) ?_
  refine pm_iadd B dL_law_943 ?_
  refine pm_stk (st' := [.int (nI (i + 1)), .ref b, .ref (z + 0)]) (by rw [show (nI i : Int32) + 1 = nI (i + 1) from nI_add i 1]) ?_
  refine pm_sld B hXs hbz (i + 1) (by omega) (by omega) dL_law_944 ?_
  refine pm_aload_n B dL_law_945 rfl ?_
  refine pm_iload B dL_law_946 rfl ?_
  refine pm_iconst (v := 2) B dL_law_948 (by decide) ?_
  refine pm_iadd B dL_law_949 ?_
  refine pm_stk (st' := [.int (nI (i + 2)), .ref b, .int (xs (i + 1)), .ref (z + 0)]) (by rw [show (nI i : Int32) + 2 = nI (i + 2) from nI_add i 2]) ?_
  refine pm_sld B hXs hbz (i + 2) (by omega) (by omega) dL_law_950 ?_
  refine pm_aload_n B dL_law_951 rfl ?_
  refine pm_iload B dL_law_952 rfl ?_
  refine pm_iconst (v := 3) B dL_law_954 (by decide) ?_
  refine pm_iadd B dL_law_955 ?_
  refine pm_stk (st' := [.int (nI (i + 3)), .ref b, .int (xs (i + 2)), .int (xs (i + 1)), .ref (z + 0)]) (by rw [show (nI i : Int32) + 3 = nI (i + 3) from nI_add i 3]) ?_
  refine pm_sld B hXs hbz (i + 3) (by omega) (by omega) dL_law_956 ?_
  refine pm_aload_n B dL_law_957 rfl ?_
  refine pm_cSW (As := [.ref (z + 0), .int (xs (i + 1)), .int (xs (i + 2)), .int (xs (i + 3)), .ref (z + 149)]) (mc2 := mcW) (ms2 := msW) B hW mt_L_quotaBy ss_L_196 dL_law_958 rfl hdW rfl (Nat.ble_eq_true_of_le (by omega)) (Nat.ble_eq_true_of_le (by omega)) (fun E n' M' hp => (pm_oA_no hp).elim) (fun u n' M' hp => ?_)
  obtain ⟨kc, v, g', L', fo', ho, hn', hT', hL', hTM', h149', h150', hV, hR'⟩ := hp
  obtain rfl : u = some (.int kc) := Sum.inl.inj ho
  obtain ⟨e6, e7, hR2⟩ := hS kc v g' L' hR'
  obtain ⟨M1, hC1, hT1, hF1⟩ := hX n' M' hTM'
  refine pm_stk (st' := [.int kc]) rfl ?_
  refine pm_istore B dL_law_961 rfl rfl ?_
  refine pm_loc (L' := [some (.ref b), some (.ref (z + 0)), some (.ref (z + 140)), some (.ref (z + 149)), some (.ref (z + 150)), some (.int (nI i)), some (.int kc), none, none]) rfl ?_
  refine pm_aload_n B dL_law_963 rfl ?_
  refine pm_aload_n B dL_law_964 rfl ?_
  refine pm_iload B dL_law_965 rfl ?_
  refine pm_iconst (v := 1) B dL_law_967 (by decide) ?_
  refine pm_iadd B dL_law_968 ?_
  refine pm_stk (st' := [.int (nI (i + 1)), .ref b, .ref (z + 140)]) (by rw [show (nI i : Int32) + 1 = nI (i + 1) from nI_add i 1]) ?_
  refine pm_sld B hXs hbz (i + 1) (by omega) (by omega) dL_law_969 ?_
  refine pm_aload_n B dL_law_970 rfl ?_
  refine pm_iload B dL_law_971 rfl ?_
  refine pm_iconst (v := 2) B dL_law_973 (by decide) ?_
  refine pm_iadd B dL_law_974 ?_
  refine pm_stk (st' := [.int (nI (i + 2)), .ref b, .int (xs (i + 1)), .ref (z + 140)]) (by rw [show (nI i : Int32) + 2 = nI (i + 2) from nI_add i 2]) ?_
  refine pm_sld B hXs hbz (i + 2) (by omega) (by omega) dL_law_975 ?_
  refine pm_aload_n B dL_law_976 rfl ?_
  refine pm_iload B dL_law_977 rfl ?_
  refine pm_iconst (v := 3) B dL_law_979 (by decide) ?_
  refine pm_iadd B dL_law_980 ?_
  refine pm_stk (st' := [.int (nI (i + 3)), .ref b, .int (xs (i + 2)), .int (xs (i + 1)), .ref (z + 140)]) (by rw [show (nI i : Int32) + 3 = nI (i + 3) from nI_add i 3]) ?_
  refine pm_sld B hXs hbz (i + 3) (by omega) (by omega) dL_law_981 ?_
  refine pm_cV (As := [.int (xs (i + 1)), .int (xs (i + 2)), .int (xs (i + 3))]) (mc2 := 0) (ms2 := 0) B rfl hTM'.1 rfl hC1 mt_X13_quotaBy sv_L_199 dL_law_982 rfl hdX rfl (Nat.ble_eq_true_of_le (by omega)) (Nat.ble_eq_true_of_le (by omega)) ?_
  refine pm_stk (st' := [.int mv]) rfl ?_
  refine pm_istore B dL_law_985 rfl rfl ?_
  refine pm_loc (L' := [some (.ref b), some (.ref (z + 0)), some (.ref (z + 140)), some (.ref (z + 149)), some (.ref (z + 150)), some (.int (nI i)), some (.int kc), some (.int mv), none]) rfl ?_
  have fin : pm_G l z D X (cu + mcW + 0 + 0) (su + msW + 0 + 0) Q n' M1 2623 [some (.ref b), some (.ref (z + 0)), some (.ref (z + 140)), some (.ref (z + 149)), some (.ref (z + 150)), some (.int (nI i)), some (.int kc), some (.int mv), none] [] := pm_widen (k1 := cu + 25) (n1 := su + 78) (by omega) (by omega) (pm_wk (L' := [some (.ref b), some (.ref (z + 0)), some (.ref (z + 140)), some (.ref (z + 149)), some (.ref (z + 150)), some (.int (nI i)), none, none, none]) ⟨rfl, rfl, rfl, rfl, rfl, rfl, trivial⟩ (next n' M1 hn' (pm_Jn (by omega) hT' hT1 hL' h149' (h150'.trans h150) hR2 hF1)))
  refine pm_aload_n B dL_law_987 rfl ?_
  refine pm_cV (As := []) (mc2 := 0) (ms2 := 0) B rfl hT1.1 rfl (c_X13_thrown hT1.1) mt_X13_thrown sv_L_154 dL_law_988 rfl rfl rfl (Nat.ble_eq_true_of_le (by omega)) (Nat.ble_eq_true_of_le (by omega)) ?_
  refine pm_stk (st' := [.int (h2.1 6)]) rfl ?_
  refine pm_iload B dL_law_991 rfl ?_
  refine pm_icmp_eq (tgt := 998) B dL_law_993 (by decide) (fun _ => ?_) (fun hne => absurd e6 hne)
  refine pm_iload B dL_law_998 rfl ?_
  refine pm_if_ne (tgt := 1015) B dL_law_1000 (by decide) (fun _ => ?_) (fun hk0 => ?_)
  · exact pm_goto (tgt := 2623) B dL_law_1015 (by decide) fin
  refine pm_aload_n B dL_law_1003 rfl ?_
  refine pm_iconst (v := 0) B dL_law_1004 (by decide) ?_
  refine pm_lald_n B dL_law_1005 ((hF1 _ (Or.inr (by decide))).trans h149') 0 (by decide) (by decide) ?_
  refine pm_iload B dL_law_1006 rfl ?_
  refine pm_i2l B dL_law_1008 ?_
  refine pm_lcmp B dL_law_1009 ?_
  refine pm_if_eq (tgt := 1015) B dL_law_1010 (by decide) (fun _ => ?_) (fun hne => absurd (pm_lcmp0 ((hV hk0).trans (by rw [e7 hk0]))) hne)
  exact pm_goto (tgt := 2623) B dL_law_1015 (by decide) fin
theorem ss_L_200 : pm_SS RL 200 yL_quota := ⟨pm_T_in 1003 (by decide +kernel) (by decide +kernel), pm_T_in 1004 (by decide +kernel) (by decide +kernel)⟩
set_option maxHeartbeats 1000000 in
theorem pm_lw_14 {l : Launch} {z : Nat} {D : va_G} {kA : Nat → ClassId} {kE : Nat → Nat} {nm : String} {tb : List ExceptionTableEntry} {mc ms : Nat} {X : pm_X} {cu su : Nat} {Q : State → Prop} {nx : Nat} {M : pm_M} {b N i Bd Bd2 : Nat} {xs : Nat → Int32} {g : pm_Cs} {h h2 : pm_Ms} {L : Int32 × Int32 × Int32} {fo : Nat → Int64} {fd : Nat → UInt64} {R : Int32 → Int32 → pm_Cs → Int32 × Int32 × Int32 → Prop} {mv : Int32} {dW mcW msW dX : Nat} (hdW : Nat.ble (dW + 1) 2048 = true) (hmW : mcW ≤ 25) (hsW : msW ≤ 78) (hdX : Nat.ble (dX + 1) 2048 = true) (B : pm_B l z D kA kE RL code 9 ret nm tb 2048 mc ms X) (hXs : va_X b N xs X.2.2.2.1 X.2.2.2.1.heap) (hbz : b < z) (hiN : i + 4 ≤ N) (hN : N ≤ 2048) (hcu : cu + 25 ≤ mc) (hsu : su + 78 ≤ ms) (hnx : 151 ≤ nx) (hT : pm_TC z kA kE M g) (h150 : M 150 = some (.inl (kA 2, 1, .inr (.inr (.inr (.inl fd))))))
    (hW : pm_Cw l z D kA kE yL_quota cL_quota 4 (some .int) [(0, 9, 12, 21)] dW mcW msW [.ref (z + 0), .int (xs (i + 1)), .ref (z + 149)] nx M (pm_oA z kA kE nx M h (fun fo' v => fo' 0 = v.toInt64) R)) (hX : pm_xm l z D kA kE yX13_quota cX13_quota 2 (some .int) dX [.int (xs (i + 1))] h h2 (.int mv)) (hS : ∀ kc v g' L', R kc v g' L' → h2.1 6 = kc ∧ (kc = 0 → v = mv) ∧ pm_Rel Bd2 g' h2 L')
    (next : ∀ nx' M', nx ≤ nx' → pm_J z kA kE nx' M' Bd2 → pm_G l z D X (cu + 25) (su + 78) Q nx' M' 2623 [some (.ref b), some (.ref (z + 0)), some (.ref (z + 140)), some (.ref (z + 149)), some (.ref (z + 150)), some (.int (nI i)), none, none, none] []) : pm_G l z D X cu su Q nx M 1018 [some (.ref b), some (.ref (z + 0)), some (.ref (z + 140)), some (.ref (z + 149)), some (.ref (z + 150)), some (.int (nI i)), none, none, none] [] := by
  refine pm_aload_n B dL_law_1018 rfl ?_
  refine pm_aload_n B dL_law_1019 rfl ?_
  refine pm_iload B dL_law_1020 rfl ?_
  refine pm_iconst (v := 1) B dL_law_1022 (by decide) ?_
  refine pm_iadd B dL_law_1023 ?_
  refine pm_stk (st' := [.int (nI (i + 1)), .ref b, .ref (z + 0)]) (by rw [show (nI i : Int32) + 1 = nI (i + 1) from nI_add i 1]) ?_
  refine pm_sld B hXs hbz (i + 1) (by omega) (by omega) dL_law_1024 ?_
  refine pm_aload_n B dL_law_1025 rfl ?_
  refine pm_cSW (As := [.ref (z + 0), .int (xs (i + 1)), .ref (z + 149)]) (mc2 := mcW) (ms2 := msW) B hW mt_L_quota ss_L_200 dL_law_1026 rfl hdW rfl (Nat.ble_eq_true_of_le (by omega)) (Nat.ble_eq_true_of_le (by omega)) (fun E n' M' hp => (pm_oA_no hp).elim) (fun u n' M' hp => ?_)
  obtain ⟨kc, v, g', L', fo', ho, hn', hT', hL', hTM', h149', h150', hV, hR'⟩ := hp
  obtain rfl : u = some (.int kc) := Sum.inl.inj ho
  obtain ⟨e6, e7, hR2⟩ := hS kc v g' L' hR'
  obtain ⟨M1, hC1, hT1, hF1⟩ := hX n' M' hTM'
  refine pm_stk (st' := [.int kc]) rfl ?_
  refine pm_istore B dL_law_1029 rfl rfl ?_
  refine pm_loc (L' := [some (.ref b), some (.ref (z + 0)), some (.ref (z + 140)), some (.ref (z + 149)), some (.ref (z + 150)), some (.int (nI i)), some (.int kc), none, none]) rfl ?_
  refine pm_aload_n B dL_law_1031 rfl ?_
  refine pm_aload_n B dL_law_1032 rfl ?_
  refine pm_iload B dL_law_1033 rfl ?_
  refine pm_iconst (v := 1) B dL_law_1035 (by decide) ?_
  refine pm_iadd B dL_law_1036 ?_
  refine pm_stk (st' := [.int (nI (i + 1)), .ref b, .ref (z + 140)]) (by rw [show (nI i : Int32) + 1 = nI (i + 1) from nI_add i 1]) ?_
  refine pm_sld B hXs hbz (i + 1) (by omega) (by omega) dL_law_1037 ?_
  refine pm_cV (As := [.int (xs (i + 1))]) (mc2 := 0) (ms2 := 0) B rfl hTM'.1 rfl hC1 mt_X13_quota sv_L_202 dL_law_1038 rfl hdX rfl (Nat.ble_eq_true_of_le (by omega)) (Nat.ble_eq_true_of_le (by omega)) ?_
  refine pm_stk (st' := [.int mv]) rfl ?_
  refine pm_istore B dL_law_1041 rfl rfl ?_
  refine pm_loc (L' := [some (.ref b), some (.ref (z + 0)), some (.ref (z + 140)), some (.ref (z + 149)), some (.ref (z + 150)), some (.int (nI i)), some (.int kc), some (.int mv), none]) rfl ?_
  have fin : pm_G l z D X (cu + mcW + 0 + 0) (su + msW + 0 + 0) Q n' M1 2623 [some (.ref b), some (.ref (z + 0)), some (.ref (z + 140)), some (.ref (z + 149)), some (.ref (z + 150)), some (.int (nI i)), some (.int kc), some (.int mv), none] [] := pm_widen (k1 := cu + 25) (n1 := su + 78) (by omega) (by omega) (pm_wk (L' := [some (.ref b), some (.ref (z + 0)), some (.ref (z + 140)), some (.ref (z + 149)), some (.ref (z + 150)), some (.int (nI i)), none, none, none]) ⟨rfl, rfl, rfl, rfl, rfl, rfl, trivial⟩ (next n' M1 hn' (pm_Jn (by omega) hT' hT1 hL' h149' (h150'.trans h150) hR2 hF1)))
  refine pm_aload_n B dL_law_1043 rfl ?_
  refine pm_cV (As := []) (mc2 := 0) (ms2 := 0) B rfl hT1.1 rfl (c_X13_thrown hT1.1) mt_X13_thrown sv_L_154 dL_law_1044 rfl rfl rfl (Nat.ble_eq_true_of_le (by omega)) (Nat.ble_eq_true_of_le (by omega)) ?_
  refine pm_stk (st' := [.int (h2.1 6)]) rfl ?_
  refine pm_iload B dL_law_1047 rfl ?_
  refine pm_icmp_eq (tgt := 1054) B dL_law_1049 (by decide) (fun _ => ?_) (fun hne => absurd e6 hne)
  refine pm_iload B dL_law_1054 rfl ?_
  refine pm_if_ne (tgt := 1071) B dL_law_1056 (by decide) (fun _ => ?_) (fun hk0 => ?_)
  · exact pm_goto (tgt := 2623) B dL_law_1071 (by decide) fin
  refine pm_aload_n B dL_law_1059 rfl ?_
  refine pm_iconst (v := 0) B dL_law_1060 (by decide) ?_
  refine pm_lald_n B dL_law_1061 ((hF1 _ (Or.inr (by decide))).trans h149') 0 (by decide) (by decide) ?_
  refine pm_iload B dL_law_1062 rfl ?_
  refine pm_i2l B dL_law_1064 ?_
  refine pm_lcmp B dL_law_1065 ?_
  refine pm_if_eq (tgt := 1071) B dL_law_1066 (by decide) (fun _ => ?_) (fun hne => absurd (pm_lcmp0 ((hV hk0).trans (by rw [e7 hk0]))) hne)
  exact pm_goto (tgt := 2623) B dL_law_1071 (by decide) fin
theorem ss_L_203 : pm_SS RL 203 yL_sales := ⟨pm_T_in 1010 (by decide +kernel) (by decide +kernel), pm_T_in 1011 (by decide +kernel) (by decide +kernel)⟩
set_option maxHeartbeats 1000000 in
theorem pm_lw_15 {l : Launch} {z : Nat} {D : va_G} {kA : Nat → ClassId} {kE : Nat → Nat} {nm : String} {tb : List ExceptionTableEntry} {mc ms : Nat} {X : pm_X} {cu su : Nat} {Q : State → Prop} {nx : Nat} {M : pm_M} {b N i Bd Bd2 : Nat} {xs : Nat → Int32} {g : pm_Cs} {h h2 : pm_Ms} {L : Int32 × Int32 × Int32} {fo : Nat → Int64} {fd : Nat → UInt64} {R : Int32 → Int32 → pm_Cs → Int32 × Int32 × Int32 → Prop} {mv : Int32} {dW mcW msW dX : Nat} (hdW : Nat.ble (dW + 1) 2048 = true) (hmW : mcW ≤ 25) (hsW : msW ≤ 78) (hdX : Nat.ble (dX + 1) 2048 = true) (B : pm_B l z D kA kE RL code 9 ret nm tb 2048 mc ms X) (hXs : va_X b N xs X.2.2.2.1 X.2.2.2.1.heap) (hbz : b < z) (hiN : i + 4 ≤ N) (hN : N ≤ 2048) (hcu : cu + 25 ≤ mc) (hsu : su + 78 ≤ ms) (hnx : 151 ≤ nx) (hT : pm_TC z kA kE M g) (h150 : M 150 = some (.inl (kA 2, 1, .inr (.inr (.inr (.inl fd))))))
    (hW : pm_Cw l z D kA kE yL_sales cL_sales 4 (some .int) [(0, 9, 12, 21)] dW mcW msW [.ref (z + 0), .int (xs (i + 1)), .ref (z + 149)] nx M (pm_oA z kA kE nx M h (fun fo' v => fo' 0 = v.toInt64) R)) (hX : pm_xm l z D kA kE yX13_sales cX13_sales 2 (some .int) dX [.int (xs (i + 1))] h h2 (.int mv)) (hS : ∀ kc v g' L', R kc v g' L' → h2.1 6 = kc ∧ (kc = 0 → v = mv) ∧ pm_Rel Bd2 g' h2 L')
    (next : ∀ nx' M', nx ≤ nx' → pm_J z kA kE nx' M' Bd2 → pm_G l z D X (cu + 25) (su + 78) Q nx' M' 2623 [some (.ref b), some (.ref (z + 0)), some (.ref (z + 140)), some (.ref (z + 149)), some (.ref (z + 150)), some (.int (nI i)), none, none, none] []) : pm_G l z D X cu su Q nx M 1074 [some (.ref b), some (.ref (z + 0)), some (.ref (z + 140)), some (.ref (z + 149)), some (.ref (z + 150)), some (.int (nI i)), none, none, none] [] := by
  refine pm_aload_n B dL_law_1074 rfl ?_
  refine pm_aload_n B dL_law_1075 rfl ?_
  refine pm_iload B dL_law_1076 rfl ?_
  refine pm_iconst (v := 1) B dL_law_1078 (by decide) ?_
  refine pm_iadd B dL_law_1079 ?_
  refine pm_stk (st' := [.int (nI (i + 1)), .ref b, .ref (z + 0)]) (by rw [show (nI i : Int32) + 1 = nI (i + 1) from nI_add i 1]) ?_
  refine pm_sld B hXs hbz (i + 1) (by omega) (by omega) dL_law_1080 ?_
  refine pm_aload_n B dL_law_1081 rfl ?_
  refine pm_cSW (As := [.ref (z + 0), .int (xs (i + 1)), .ref (z + 149)]) (mc2 := mcW) (ms2 := msW) B hW mt_L_sales ss_L_203 dL_law_1082 rfl hdW rfl (Nat.ble_eq_true_of_le (by omega)) (Nat.ble_eq_true_of_le (by omega)) (fun E n' M' hp => (pm_oA_no hp).elim) (fun u n' M' hp => ?_)
  obtain ⟨kc, v, g', L', fo', ho, hn', hT', hL', hTM', h149', h150', hV, hR'⟩ := hp
  obtain rfl : u = some (.int kc) := Sum.inl.inj ho
  obtain ⟨e6, e7, hR2⟩ := hS kc v g' L' hR'
  obtain ⟨M1, hC1, hT1, hF1⟩ := hX n' M' hTM'
  refine pm_stk (st' := [.int kc]) rfl ?_
  refine pm_istore B dL_law_1085 rfl rfl ?_
  refine pm_loc (L' := [some (.ref b), some (.ref (z + 0)), some (.ref (z + 140)), some (.ref (z + 149)), some (.ref (z + 150)), some (.int (nI i)), some (.int kc), none, none]) rfl ?_
  refine pm_aload_n B dL_law_1087 rfl ?_
  refine pm_aload_n B dL_law_1088 rfl ?_
  refine pm_iload B dL_law_1089 rfl ?_
  refine pm_iconst (v := 1) B dL_law_1091 (by decide) ?_
  refine pm_iadd B dL_law_1092 ?_
  refine pm_stk (st' := [.int (nI (i + 1)), .ref b, .ref (z + 140)]) (by rw [show (nI i : Int32) + 1 = nI (i + 1) from nI_add i 1]) ?_
  refine pm_sld B hXs hbz (i + 1) (by omega) (by omega) dL_law_1093 ?_
  refine pm_cV (As := [.int (xs (i + 1))]) (mc2 := 0) (ms2 := 0) B rfl hTM'.1 rfl hC1 mt_X13_sales sv_L_205 dL_law_1094 rfl hdX rfl (Nat.ble_eq_true_of_le (by omega)) (Nat.ble_eq_true_of_le (by omega)) ?_
  refine pm_stk (st' := [.int mv]) rfl ?_
  refine pm_istore B dL_law_1097 rfl rfl ?_
  refine pm_loc (L' := [some (.ref b), some (.ref (z + 0)), some (.ref (z + 140)), some (.ref (z + 149)), some (.ref (z + 150)), some (.int (nI i)), some (.int kc), some (.int mv), none]) rfl ?_
  have fin : pm_G l z D X (cu + mcW + 0 + 0) (su + msW + 0 + 0) Q n' M1 2623 [some (.ref b), some (.ref (z + 0)), some (.ref (z + 140)), some (.ref (z + 149)), some (.ref (z + 150)), some (.int (nI i)), some (.int kc), some (.int mv), none] [] := pm_widen (k1 := cu + 25) (n1 := su + 78) (by omega) (by omega) (pm_wk (L' := [some (.ref b), some (.ref (z + 0)), some (.ref (z + 140)), some (.ref (z + 149)), some (.ref (z + 150)), some (.int (nI i)), none, none, none]) ⟨rfl, rfl, rfl, rfl, rfl, rfl, trivial⟩ (next n' M1 hn' (pm_Jn (by omega) hT' hT1 hL' h149' (h150'.trans h150) hR2 hF1)))
  refine pm_aload_n B dL_law_1099 rfl ?_
  refine pm_cV (As := []) (mc2 := 0) (ms2 := 0) B rfl hT1.1 rfl (c_X13_thrown hT1.1) mt_X13_thrown sv_L_154 dL_law_1100 rfl rfl rfl (Nat.ble_eq_true_of_le (by omega)) (Nat.ble_eq_true_of_le (by omega)) ?_
  refine pm_stk (st' := [.int (h2.1 6)]) rfl ?_
  refine pm_iload B dL_law_1103 rfl ?_
  refine pm_icmp_eq (tgt := 1110) B dL_law_1105 (by decide) (fun _ => ?_) (fun hne => absurd e6 hne)
  refine pm_iload B dL_law_1110 rfl ?_
  refine pm_if_ne (tgt := 1127) B dL_law_1112 (by decide) (fun _ => ?_) (fun hk0 => ?_)
  · exact pm_goto (tgt := 2623) B dL_law_1127 (by decide) fin
  refine pm_aload_n B dL_law_1115 rfl ?_
  refine pm_iconst (v := 0) B dL_law_1116 (by decide) ?_
  refine pm_lald_n B dL_law_1117 ((hF1 _ (Or.inr (by decide))).trans h149') 0 (by decide) (by decide) ?_
  refine pm_iload B dL_law_1118 rfl ?_
  refine pm_i2l B dL_law_1120 ?_
  refine pm_lcmp B dL_law_1121 ?_
  refine pm_if_eq (tgt := 1127) B dL_law_1122 (by decide) (fun _ => ?_) (fun hne => absurd (pm_lcmp0 ((hV hk0).trans (by rw [e7 hk0]))) hne)
  exact pm_goto (tgt := 2623) B dL_law_1127 (by decide) fin
theorem ss_L_206 : pm_SS RL 206 yL_excess := ⟨pm_T_in 1017 (by decide +kernel) (by decide +kernel), pm_T_in 1018 (by decide +kernel) (by decide +kernel)⟩
set_option maxHeartbeats 1000000 in
theorem pm_lw_16 {l : Launch} {z : Nat} {D : va_G} {kA : Nat → ClassId} {kE : Nat → Nat} {nm : String} {tb : List ExceptionTableEntry} {mc ms : Nat} {X : pm_X} {cu su : Nat} {Q : State → Prop} {nx : Nat} {M : pm_M} {b N i Bd Bd2 : Nat} {xs : Nat → Int32} {g : pm_Cs} {h h2 : pm_Ms} {L : Int32 × Int32 × Int32} {fo : Nat → Int64} {fd : Nat → UInt64} {R : Int32 → Int32 → pm_Cs → Int32 × Int32 × Int32 → Prop} {mv : Int32} {dW mcW msW dX : Nat} (hdW : Nat.ble (dW + 1) 2048 = true) (hmW : mcW ≤ 25) (hsW : msW ≤ 78) (hdX : Nat.ble (dX + 1) 2048 = true) (B : pm_B l z D kA kE RL code 9 ret nm tb 2048 mc ms X) (hXs : va_X b N xs X.2.2.2.1 X.2.2.2.1.heap) (hbz : b < z) (hiN : i + 4 ≤ N) (hN : N ≤ 2048) (hcu : cu + 25 ≤ mc) (hsu : su + 78 ≤ ms) (hnx : 151 ≤ nx) (hT : pm_TC z kA kE M g) (h150 : M 150 = some (.inl (kA 2, 1, .inr (.inr (.inr (.inl fd))))))
    (hW : pm_Cw l z D kA kE yL_excess cL_excess 4 (some .int) [(0, 9, 12, 21)] dW mcW msW [.ref (z + 0), .int (xs (i + 1)), .ref (z + 149)] nx M (pm_oA z kA kE nx M h (fun fo' v => fo' 0 = v.toInt64) R)) (hX : pm_xm l z D kA kE yX13_excess cX13_excess 2 (some .int) dX [.int (xs (i + 1))] h h2 (.int mv)) (hS : ∀ kc v g' L', R kc v g' L' → h2.1 6 = kc ∧ (kc = 0 → v = mv) ∧ pm_Rel Bd2 g' h2 L')
    (next : ∀ nx' M', nx ≤ nx' → pm_J z kA kE nx' M' Bd2 → pm_G l z D X (cu + 25) (su + 78) Q nx' M' 2623 [some (.ref b), some (.ref (z + 0)), some (.ref (z + 140)), some (.ref (z + 149)), some (.ref (z + 150)), some (.int (nI i)), none, none, none] []) : pm_G l z D X cu su Q nx M 1130 [some (.ref b), some (.ref (z + 0)), some (.ref (z + 140)), some (.ref (z + 149)), some (.ref (z + 150)), some (.int (nI i)), none, none, none] [] := by
  refine pm_aload_n B dL_law_1130 rfl ?_
  refine pm_aload_n B dL_law_1131 rfl ?_
  refine pm_iload B dL_law_1132 rfl ?_
  refine pm_iconst (v := 1) B dL_law_1134 (by decide) ?_
  refine pm_iadd B dL_law_1135 ?_
  refine pm_stk (st' := [.int (nI (i + 1)), .ref b, .ref (z + 0)]) (by rw [show (nI i : Int32) + 1 = nI (i + 1) from nI_add i 1]) ?_
  refine pm_sld B hXs hbz (i + 1) (by omega) (by omega) dL_law_1136 ?_
  refine pm_aload_n B dL_law_1137 rfl ?_
  refine pm_cSW (As := [.ref (z + 0), .int (xs (i + 1)), .ref (z + 149)]) (mc2 := mcW) (ms2 := msW) B hW mt_L_excess ss_L_206 dL_law_1138 rfl hdW rfl (Nat.ble_eq_true_of_le (by omega)) (Nat.ble_eq_true_of_le (by omega)) (fun E n' M' hp => (pm_oA_no hp).elim) (fun u n' M' hp => ?_)
  obtain ⟨kc, v, g', L', fo', ho, hn', hT', hL', hTM', h149', h150', hV, hR'⟩ := hp
  obtain rfl : u = some (.int kc) := Sum.inl.inj ho
  obtain ⟨e6, e7, hR2⟩ := hS kc v g' L' hR'
  obtain ⟨M1, hC1, hT1, hF1⟩ := hX n' M' hTM'
  refine pm_stk (st' := [.int kc]) rfl ?_
  refine pm_istore B dL_law_1141 rfl rfl ?_
  refine pm_loc (L' := [some (.ref b), some (.ref (z + 0)), some (.ref (z + 140)), some (.ref (z + 149)), some (.ref (z + 150)), some (.int (nI i)), some (.int kc), none, none]) rfl ?_
  refine pm_aload_n B dL_law_1143 rfl ?_
  refine pm_aload_n B dL_law_1144 rfl ?_
  refine pm_iload B dL_law_1145 rfl ?_
  refine pm_iconst (v := 1) B dL_law_1147 (by decide) ?_
  refine pm_iadd B dL_law_1148 ?_
  refine pm_stk (st' := [.int (nI (i + 1)), .ref b, .ref (z + 140)]) (by rw [show (nI i : Int32) + 1 = nI (i + 1) from nI_add i 1]) ?_
  refine pm_sld B hXs hbz (i + 1) (by omega) (by omega) dL_law_1149 ?_
  refine pm_cV (As := [.int (xs (i + 1))]) (mc2 := 0) (ms2 := 0) B rfl hTM'.1 rfl hC1 mt_X13_excess sv_L_208 dL_law_1150 rfl hdX rfl (Nat.ble_eq_true_of_le (by omega)) (Nat.ble_eq_true_of_le (by omega)) ?_
  refine pm_stk (st' := [.int mv]) rfl ?_
  refine pm_istore B dL_law_1153 rfl rfl ?_
  refine pm_loc (L' := [some (.ref b), some (.ref (z + 0)), some (.ref (z + 140)), some (.ref (z + 149)), some (.ref (z + 150)), some (.int (nI i)), some (.int kc), some (.int mv), none]) rfl ?_
  have fin : pm_G l z D X (cu + mcW + 0 + 0) (su + msW + 0 + 0) Q n' M1 2623 [some (.ref b), some (.ref (z + 0)), some (.ref (z + 140)), some (.ref (z + 149)), some (.ref (z + 150)), some (.int (nI i)), some (.int kc), some (.int mv), none] [] := pm_widen (k1 := cu + 25) (n1 := su + 78) (by omega) (by omega) (pm_wk (L' := [some (.ref b), some (.ref (z + 0)), some (.ref (z + 140)), some (.ref (z + 149)), some (.ref (z + 150)), some (.int (nI i)), none, none, none]) ⟨rfl, rfl, rfl, rfl, rfl, rfl, trivial⟩ (next n' M1 hn' (pm_Jn (by omega) hT' hT1 hL' h149' (h150'.trans h150) hR2 hF1)))
  refine pm_aload_n B dL_law_1155 rfl ?_
  refine pm_cV (As := []) (mc2 := 0) (ms2 := 0) B rfl hT1.1 rfl (c_X13_thrown hT1.1) mt_X13_thrown sv_L_154 dL_law_1156 rfl rfl rfl (Nat.ble_eq_true_of_le (by omega)) (Nat.ble_eq_true_of_le (by omega)) ?_
  refine pm_stk (st' := [.int (h2.1 6)]) rfl ?_
  refine pm_iload B dL_law_1159 rfl ?_
  refine pm_icmp_eq (tgt := 1166) B dL_law_1161 (by decide) (fun _ => ?_) (fun hne => absurd e6 hne)
  refine pm_iload B dL_law_1166 rfl ?_
  refine pm_if_ne (tgt := 1183) B dL_law_1168 (by decide) (fun _ => ?_) (fun hk0 => ?_)
  · exact pm_goto (tgt := 2623) B dL_law_1183 (by decide) fin
  refine pm_aload_n B dL_law_1171 rfl ?_
  refine pm_iconst (v := 0) B dL_law_1172 (by decide) ?_
  refine pm_lald_n B dL_law_1173 ((hF1 _ (Or.inr (by decide))).trans h149') 0 (by decide) (by decide) ?_
  refine pm_iload B dL_law_1174 rfl ?_
  refine pm_i2l B dL_law_1176 ?_
  refine pm_lcmp B dL_law_1177 ?_
  refine pm_if_eq (tgt := 1183) B dL_law_1178 (by decide) (fun _ => ?_) (fun hne => absurd (pm_lcmp0 ((hV hk0).trans (by rw [e7 hk0]))) hne)
  exact pm_goto (tgt := 2623) B dL_law_1183 (by decide) fin
theorem ss_L_209 : pm_SS RL 209 yL_audit := ⟨pm_T_in 1025 (by decide +kernel) (by decide +kernel), pm_T_in 1026 (by decide +kernel) (by decide +kernel)⟩
set_option maxHeartbeats 1000000 in
theorem pm_lw_17 {l : Launch} {z : Nat} {D : va_G} {kA : Nat → ClassId} {kE : Nat → Nat} {nm : String} {tb : List ExceptionTableEntry} {mc ms : Nat} {X : pm_X} {cu su : Nat} {Q : State → Prop} {nx : Nat} {M : pm_M} {b N i Bd Bd2 : Nat} {xs : Nat → Int32} {g : pm_Cs} {h h2 : pm_Ms} {L : Int32 × Int32 × Int32} {fo : Nat → Int64} {fd : Nat → UInt64} {R : Int32 → Int32 → pm_Cs → Int32 × Int32 × Int32 → Prop} {mv : Int32} {dW mcW msW dX : Nat} (hdW : Nat.ble (dW + 1) 2048 = true) (hmW : mcW ≤ 25) (hsW : msW ≤ 78) (hdX : Nat.ble (dX + 1) 2048 = true) (B : pm_B l z D kA kE RL code 9 ret nm tb 2048 mc ms X) (hXs : va_X b N xs X.2.2.2.1 X.2.2.2.1.heap) (hbz : b < z) (hiN : i + 4 ≤ N) (hN : N ≤ 2048) (hcu : cu + 25 ≤ mc) (hsu : su + 78 ≤ ms) (hnx : 151 ≤ nx) (hT : pm_TC z kA kE M g) (h150 : M 150 = some (.inl (kA 2, 1, .inr (.inr (.inr (.inl fd))))))
    (hW : pm_Cw l z D kA kE yL_audit cL_audit 4 (some .int) [(0, 9, 12, 13), (0, 9, 15, 15)] dW mcW msW [.ref (z + 0), .int (xs (i + 1)), .ref (z + 149)] nx M (pm_oA z kA kE nx M h (fun fo' v => fo' 0 = v.toInt64) R)) (hX : pm_xm l z D kA kE yX13_audit cX13_audit 2 (some .int) dX [.int (xs (i + 1))] h h2 (.int mv)) (hS : ∀ kc v g' L', R kc v g' L' → h2.1 6 = kc ∧ (kc = 0 → v = mv) ∧ pm_Rel Bd2 g' h2 L')
    (next : ∀ nx' M', nx ≤ nx' → pm_J z kA kE nx' M' Bd2 → pm_G l z D X (cu + 25) (su + 78) Q nx' M' 2623 [some (.ref b), some (.ref (z + 0)), some (.ref (z + 140)), some (.ref (z + 149)), some (.ref (z + 150)), some (.int (nI i)), none, none, none] []) : pm_G l z D X cu su Q nx M 1186 [some (.ref b), some (.ref (z + 0)), some (.ref (z + 140)), some (.ref (z + 149)), some (.ref (z + 150)), some (.int (nI i)), none, none, none] [] := by
  refine pm_aload_n B dL_law_1186 rfl ?_
  refine pm_aload_n B dL_law_1187 rfl ?_
  refine pm_iload B dL_law_1188 rfl ?_
  refine pm_iconst (v := 1) B dL_law_1190 (by decide) ?_
  refine pm_iadd B dL_law_1191 ?_
  refine pm_stk (st' := [.int (nI (i + 1)), .ref b, .ref (z + 0)]) (by rw [show (nI i : Int32) + 1 = nI (i + 1) from nI_add i 1]) ?_
  refine pm_sld B hXs hbz (i + 1) (by omega) (by omega) dL_law_1192 ?_
  refine pm_aload_n B dL_law_1193 rfl ?_
  refine pm_cSW (As := [.ref (z + 0), .int (xs (i + 1)), .ref (z + 149)]) (mc2 := mcW) (ms2 := msW) B hW mt_L_audit ss_L_209 dL_law_1194 rfl hdW rfl (Nat.ble_eq_true_of_le (by omega)) (Nat.ble_eq_true_of_le (by omega)) (fun E n' M' hp => (pm_oA_no hp).elim) (fun u n' M' hp => ?_)
  obtain ⟨kc, v, g', L', fo', ho, hn', hT', hL', hTM', h149', h150', hV, hR'⟩ := hp
  obtain rfl : u = some (.int kc) := Sum.inl.inj ho
  obtain ⟨e6, e7, hR2⟩ := hS kc v g' L' hR'
  obtain ⟨M1, hC1, hT1, hF1⟩ := hX n' M' hTM'
  refine pm_stk (st' := [.int kc]) rfl ?_
  refine pm_istore B dL_law_1197 rfl rfl ?_
  refine pm_loc (L' := [some (.ref b), some (.ref (z + 0)), some (.ref (z + 140)), some (.ref (z + 149)), some (.ref (z + 150)), some (.int (nI i)), some (.int kc), none, none]) rfl ?_
  refine pm_aload_n B dL_law_1199 rfl ?_
  refine pm_aload_n B dL_law_1200 rfl ?_
  refine pm_iload B dL_law_1201 rfl ?_
  refine pm_iconst (v := 1) B dL_law_1203 (by decide) ?_
  refine pm_iadd B dL_law_1204 ?_
  refine pm_stk (st' := [.int (nI (i + 1)), .ref b, .ref (z + 140)]) (by rw [show (nI i : Int32) + 1 = nI (i + 1) from nI_add i 1]) ?_
  refine pm_sld B hXs hbz (i + 1) (by omega) (by omega) dL_law_1205 ?_
  refine pm_cV (As := [.int (xs (i + 1))]) (mc2 := 0) (ms2 := 0) B rfl hTM'.1 rfl hC1 mt_X13_audit sv_L_211 dL_law_1206 rfl hdX rfl (Nat.ble_eq_true_of_le (by omega)) (Nat.ble_eq_true_of_le (by omega)) ?_
  refine pm_stk (st' := [.int mv]) rfl ?_
  refine pm_istore B dL_law_1209 rfl rfl ?_
  refine pm_loc (L' := [some (.ref b), some (.ref (z + 0)), some (.ref (z + 140)), some (.ref (z + 149)), some (.ref (z + 150)), some (.int (nI i)), some (.int kc), some (.int mv), none]) rfl ?_
  have fin : pm_G l z D X (cu + mcW + 0 + 0) (su + msW + 0 + 0) Q n' M1 2623 [some (.ref b), some (.ref (z + 0)), some (.ref (z + 140)), some (.ref (z + 149)), some (.ref (z + 150)), some (.int (nI i)), some (.int kc), some (.int mv), none] [] := pm_widen (k1 := cu + 25) (n1 := su + 78) (by omega) (by omega) (pm_wk (L' := [some (.ref b), some (.ref (z + 0)), some (.ref (z + 140)), some (.ref (z + 149)), some (.ref (z + 150)), some (.int (nI i)), none, none, none]) ⟨rfl, rfl, rfl, rfl, rfl, rfl, trivial⟩ (next n' M1 hn' (pm_Jn (by omega) hT' hT1 hL' h149' (h150'.trans h150) hR2 hF1)))
  refine pm_aload_n B dL_law_1211 rfl ?_
  refine pm_cV (As := []) (mc2 := 0) (ms2 := 0) B rfl hT1.1 rfl (c_X13_thrown hT1.1) mt_X13_thrown sv_L_154 dL_law_1212 rfl rfl rfl (Nat.ble_eq_true_of_le (by omega)) (Nat.ble_eq_true_of_le (by omega)) ?_
  refine pm_stk (st' := [.int (h2.1 6)]) rfl ?_
  refine pm_iload B dL_law_1215 rfl ?_
  refine pm_icmp_eq (tgt := 1222) B dL_law_1217 (by decide) (fun _ => ?_) (fun hne => absurd e6 hne)
  refine pm_iload B dL_law_1222 rfl ?_
  refine pm_if_ne (tgt := 1239) B dL_law_1224 (by decide) (fun _ => ?_) (fun hk0 => ?_)
  · exact pm_goto (tgt := 2623) B dL_law_1239 (by decide) fin
  refine pm_aload_n B dL_law_1227 rfl ?_
  refine pm_iconst (v := 0) B dL_law_1228 (by decide) ?_
  refine pm_lald_n B dL_law_1229 ((hF1 _ (Or.inr (by decide))).trans h149') 0 (by decide) (by decide) ?_
  refine pm_iload B dL_law_1230 rfl ?_
  refine pm_i2l B dL_law_1232 ?_
  refine pm_lcmp B dL_law_1233 ?_
  refine pm_if_eq (tgt := 1239) B dL_law_1234 (by decide) (fun _ => ?_) (fun hne => absurd (pm_lcmp0 ((hV hk0).trans (by rw [e7 hk0]))) hne)
  exact pm_goto (tgt := 2623) B dL_law_1239 (by decide) fin
theorem ss_L_212 : pm_SS RL 212 yL_setSeed := ⟨pm_T_in 1034 (by decide +kernel) (by decide +kernel), pm_T_in 1035 (by decide +kernel) (by decide +kernel)⟩
set_option maxHeartbeats 1000000 in
theorem pm_lw_18 {l : Launch} {z : Nat} {D : va_G} {kA : Nat → ClassId} {kE : Nat → Nat} {nm : String} {tb : List ExceptionTableEntry} {mc ms : Nat} {X : pm_X} {cu su : Nat} {Q : State → Prop} {nx : Nat} {M : pm_M} {b N i Bd Bd2 : Nat} {xs : Nat → Int32} {g : pm_Cs} {h h2 : pm_Ms} {L : Int32 × Int32 × Int32} {fo : Nat → Int64} {fd : Nat → UInt64} {R : Int32 → Int32 → pm_Cs → Int32 × Int32 × Int32 → Prop} {mv : Int32} {dW mcW msW dX : Nat} (hdW : Nat.ble (dW + 1) 2048 = true) (hmW : mcW ≤ 25) (hsW : msW ≤ 78) (hdX : Nat.ble (dX + 1) 2048 = true) (B : pm_B l z D kA kE RL code 9 ret nm tb 2048 mc ms X) (hXs : va_X b N xs X.2.2.2.1 X.2.2.2.1.heap) (hbz : b < z) (hiN : i + 4 ≤ N) (hN : N ≤ 2048) (hcu : cu + 25 ≤ mc) (hsu : su + 78 ≤ ms) (hnx : 151 ≤ nx) (hT : pm_TC z kA kE M g) (h150 : M 150 = some (.inl (kA 2, 1, .inr (.inr (.inr (.inl fd))))))
    (hW : pm_Cw l z D kA kE yL_setSeed cL_setSeed 4 (some .int) [(0, 9, 12, 13)] dW mcW msW [.ref (z + 0), .int (xs (i + 1)), .ref (z + 149)] nx M (pm_oA z kA kE nx M h (fun fo' v => fo' 0 = v.toInt64) R)) (hX : pm_xm l z D kA kE yX13_setSeed cX13_setSeed 2 (some .int) dX [.int (xs (i + 1))] h h2 (.int mv)) (hS : ∀ kc v g' L', R kc v g' L' → h2.1 6 = kc ∧ (kc = 0 → v = mv) ∧ pm_Rel Bd2 g' h2 L')
    (next : ∀ nx' M', nx ≤ nx' → pm_J z kA kE nx' M' Bd2 → pm_G l z D X (cu + 25) (su + 78) Q nx' M' 2623 [some (.ref b), some (.ref (z + 0)), some (.ref (z + 140)), some (.ref (z + 149)), some (.ref (z + 150)), some (.int (nI i)), none, none, none] []) : pm_G l z D X cu su Q nx M 1242 [some (.ref b), some (.ref (z + 0)), some (.ref (z + 140)), some (.ref (z + 149)), some (.ref (z + 150)), some (.int (nI i)), none, none, none] [] := by
  refine pm_aload_n B dL_law_1242 rfl ?_
  refine pm_aload_n B dL_law_1243 rfl ?_
  refine pm_iload B dL_law_1244 rfl ?_
  refine pm_iconst (v := 1) B dL_law_1246 (by decide) ?_
  refine pm_iadd B dL_law_1247 ?_
  refine pm_stk (st' := [.int (nI (i + 1)), .ref b, .ref (z + 0)]) (by rw [show (nI i : Int32) + 1 = nI (i + 1) from nI_add i 1]) ?_
  refine pm_sld B hXs hbz (i + 1) (by omega) (by omega) dL_law_1248 ?_
  refine pm_aload_n B dL_law_1249 rfl ?_
  refine pm_cSW (As := [.ref (z + 0), .int (xs (i + 1)), .ref (z + 149)]) (mc2 := mcW) (ms2 := msW) B hW mt_L_setSeed ss_L_212 dL_law_1250 rfl hdW rfl (Nat.ble_eq_true_of_le (by omega)) (Nat.ble_eq_true_of_le (by omega)) (fun E n' M' hp => (pm_oA_no hp).elim) (fun u n' M' hp => ?_)
  obtain ⟨kc, v, g', L', fo', ho, hn', hT', hL', hTM', h149', h150', hV, hR'⟩ := hp
  obtain rfl : u = some (.int kc) := Sum.inl.inj ho
  obtain ⟨e6, e7, hR2⟩ := hS kc v g' L' hR'
  obtain ⟨M1, hC1, hT1, hF1⟩ := hX n' M' hTM'
  refine pm_stk (st' := [.int kc]) rfl ?_
  refine pm_istore B dL_law_1253 rfl rfl ?_
  refine pm_loc (L' := [some (.ref b), some (.ref (z + 0)), some (.ref (z + 140)), some (.ref (z + 149)), some (.ref (z + 150)), some (.int (nI i)), some (.int kc), none, none]) rfl ?_
  refine pm_aload_n B dL_law_1255 rfl ?_
  refine pm_aload_n B dL_law_1256 rfl ?_
  refine pm_iload B dL_law_1257 rfl ?_
  refine pm_iconst (v := 1) B dL_law_1259 (by decide) ?_
  refine pm_iadd B dL_law_1260 ?_
  refine pm_stk (st' := [.int (nI (i + 1)), .ref b, .ref (z + 140)]) (by rw [show (nI i : Int32) + 1 = nI (i + 1) from nI_add i 1]) ?_
  refine pm_sld B hXs hbz (i + 1) (by omega) (by omega) dL_law_1261 ?_
  refine pm_cV (As := [.int (xs (i + 1))]) (mc2 := 0) (ms2 := 0) B rfl hTM'.1 rfl hC1 mt_X13_setSeed sv_L_214 dL_law_1262 rfl hdX rfl (Nat.ble_eq_true_of_le (by omega)) (Nat.ble_eq_true_of_le (by omega)) ?_
  refine pm_stk (st' := [.int mv]) rfl ?_
  refine pm_istore B dL_law_1265 rfl rfl ?_
  refine pm_loc (L' := [some (.ref b), some (.ref (z + 0)), some (.ref (z + 140)), some (.ref (z + 149)), some (.ref (z + 150)), some (.int (nI i)), some (.int kc), some (.int mv), none]) rfl ?_
  have fin : pm_G l z D X (cu + mcW + 0 + 0) (su + msW + 0 + 0) Q n' M1 2623 [some (.ref b), some (.ref (z + 0)), some (.ref (z + 140)), some (.ref (z + 149)), some (.ref (z + 150)), some (.int (nI i)), some (.int kc), some (.int mv), none] [] := pm_widen (k1 := cu + 25) (n1 := su + 78) (by omega) (by omega) (pm_wk (L' := [some (.ref b), some (.ref (z + 0)), some (.ref (z + 140)), some (.ref (z + 149)), some (.ref (z + 150)), some (.int (nI i)), none, none, none]) ⟨rfl, rfl, rfl, rfl, rfl, rfl, trivial⟩ (next n' M1 hn' (pm_Jn (by omega) hT' hT1 hL' h149' (h150'.trans h150) hR2 hF1)))
  refine pm_aload_n B dL_law_1267 rfl ?_
  refine pm_cV (As := []) (mc2 := 0) (ms2 := 0) B rfl hT1.1 rfl (c_X13_thrown hT1.1) mt_X13_thrown sv_L_154 dL_law_1268 rfl rfl rfl (Nat.ble_eq_true_of_le (by omega)) (Nat.ble_eq_true_of_le (by omega)) ?_
  refine pm_stk (st' := [.int (h2.1 6)]) rfl ?_
  refine pm_iload B dL_law_1271 rfl ?_
  refine pm_icmp_eq (tgt := 1278) B dL_law_1273 (by decide) (fun _ => ?_) (fun hne => absurd e6 hne)
  refine pm_iload B dL_law_1278 rfl ?_
  refine pm_if_ne (tgt := 1295) B dL_law_1280 (by decide) (fun _ => ?_) (fun hk0 => ?_)
  · exact pm_goto (tgt := 2623) B dL_law_1295 (by decide) fin
  refine pm_aload_n B dL_law_1283 rfl ?_
  refine pm_iconst (v := 0) B dL_law_1284 (by decide) ?_
  refine pm_lald_n B dL_law_1285 ((hF1 _ (Or.inr (by decide))).trans h149') 0 (by decide) (by decide) ?_
  refine pm_iload B dL_law_1286 rfl ?_
  refine pm_i2l B dL_law_1288 ?_
  refine pm_lcmp B dL_law_1289 ?_
  refine pm_if_eq (tgt := 1295) B dL_law_1290 (by decide) (fun _ => ?_) (fun hne => absurd (pm_lcmp0 ((hV hk0).trans (by rw [e7 hk0]))) hne)
  exact pm_goto (tgt := 2623) B dL_law_1295 (by decide) fin
theorem ss_L_215 : pm_SS RL 215 yL_drawnMember := ⟨pm_T_in 1043 (by decide +kernel) (by decide +kernel), pm_T_in 1044 (by decide +kernel) (by decide +kernel)⟩
set_option maxHeartbeats 1000000 in
theorem pm_lw_19 {l : Launch} {z : Nat} {D : va_G} {kA : Nat → ClassId} {kE : Nat → Nat} {nm : String} {tb : List ExceptionTableEntry} {mc ms : Nat} {X : pm_X} {cu su : Nat} {Q : State → Prop} {nx : Nat} {M : pm_M} {b N i Bd Bd2 : Nat} {xs : Nat → Int32} {g : pm_Cs} {h h2 : pm_Ms} {L : Int32 × Int32 × Int32} {fo : Nat → Int64} {fd : Nat → UInt64} {R : Int32 → Int32 → pm_Cs → Int32 × Int32 × Int32 → Prop} {mv : Int32} {dW mcW msW dX : Nat} (hdW : Nat.ble (dW + 1) 2048 = true) (hmW : mcW ≤ 25) (hsW : msW ≤ 78) (hdX : Nat.ble (dX + 1) 2048 = true) (B : pm_B l z D kA kE RL code 9 ret nm tb 2048 mc ms X) (hXs : va_X b N xs X.2.2.2.1 X.2.2.2.1.heap) (hbz : b < z) (hiN : i + 4 ≤ N) (hN : N ≤ 2048) (hcu : cu + 25 ≤ mc) (hsu : su + 78 ≤ ms) (hnx : 151 ≤ nx) (hT : pm_TC z kA kE M g) (h150 : M 150 = some (.inl (kA 2, 1, .inr (.inr (.inr (.inl fd))))))
    (hW : pm_Cw l z D kA kE yL_drawnMember cL_drawnMember 4 (some .int) [(0, 9, 12, 36)] dW mcW msW [.ref (z + 0), .int (xs (i + 1)), .ref (z + 149)] nx M (pm_oA z kA kE nx M h (fun fo' v => fo' 0 = v.toInt64) R)) (hX : pm_xm l z D kA kE yX13_drawnMember cX13_drawnMember 6 (some .int) dX [.int (xs (i + 1))] h h2 (.int mv)) (hS : ∀ kc v g' L', R kc v g' L' → h2.1 6 = kc ∧ (kc = 0 → v = mv) ∧ pm_Rel Bd2 g' h2 L')
    (next : ∀ nx' M', nx ≤ nx' → pm_J z kA kE nx' M' Bd2 → pm_G l z D X (cu + 25) (su + 78) Q nx' M' 2623 [some (.ref b), some (.ref (z + 0)), some (.ref (z + 140)), some (.ref (z + 149)), some (.ref (z + 150)), some (.int (nI i)), none, none, none] []) : pm_G l z D X cu su Q nx M 1298 [some (.ref b), some (.ref (z + 0)), some (.ref (z + 140)), some (.ref (z + 149)), some (.ref (z + 150)), some (.int (nI i)), none, none, none] [] := by
  refine pm_aload_n B dL_law_1298 rfl ?_
  refine pm_aload_n B dL_law_1299 rfl ?_
  refine pm_iload B dL_law_1300 rfl ?_
  refine pm_iconst (v := 1) B dL_law_1302 (by decide) ?_
  refine pm_iadd B dL_law_1303 ?_
  refine pm_stk (st' := [.int (nI (i + 1)), .ref b, .ref (z + 0)]) (by rw [show (nI i : Int32) + 1 = nI (i + 1) from nI_add i 1]) ?_
  refine pm_sld B hXs hbz (i + 1) (by omega) (by omega) dL_law_1304 ?_
  refine pm_aload_n B dL_law_1305 rfl ?_
  refine pm_cSW (As := [.ref (z + 0), .int (xs (i + 1)), .ref (z + 149)]) (mc2 := mcW) (ms2 := msW) B hW mt_L_drawnMember ss_L_215 dL_law_1306 rfl hdW rfl (Nat.ble_eq_true_of_le (by omega)) (Nat.ble_eq_true_of_le (by omega)) (fun E n' M' hp => (pm_oA_no hp).elim) (fun u n' M' hp => ?_)
  obtain ⟨kc, v, g', L', fo', ho, hn', hT', hL', hTM', h149', h150', hV, hR'⟩ := hp
  obtain rfl : u = some (.int kc) := Sum.inl.inj ho
  obtain ⟨e6, e7, hR2⟩ := hS kc v g' L' hR'
  obtain ⟨M1, hC1, hT1, hF1⟩ := hX n' M' hTM'
  refine pm_stk (st' := [.int kc]) rfl ?_
  refine pm_istore B dL_law_1309 rfl rfl ?_
  refine pm_loc (L' := [some (.ref b), some (.ref (z + 0)), some (.ref (z + 140)), some (.ref (z + 149)), some (.ref (z + 150)), some (.int (nI i)), some (.int kc), none, none]) rfl ?_
  refine pm_aload_n B dL_law_1311 rfl ?_
  refine pm_aload_n B dL_law_1312 rfl ?_
  refine pm_iload B dL_law_1313 rfl ?_
  refine pm_iconst (v := 1) B dL_law_1315 (by decide) ?_
  refine pm_iadd B dL_law_1316 ?_
  refine pm_stk (st' := [.int (nI (i + 1)), .ref b, .ref (z + 140)]) (by rw [show (nI i : Int32) + 1 = nI (i + 1) from nI_add i 1]) ?_
  refine pm_sld B hXs hbz (i + 1) (by omega) (by omega) dL_law_1317 ?_
  refine pm_cV (As := [.int (xs (i + 1))]) (mc2 := 0) (ms2 := 0) B rfl hTM'.1 rfl hC1 mt_X13_drawnMember sv_L_217 dL_law_1318 rfl hdX rfl (Nat.ble_eq_true_of_le (by omega)) (Nat.ble_eq_true_of_le (by omega)) ?_
  refine pm_stk (st' := [.int mv]) rfl ?_
  refine pm_istore B dL_law_1321 rfl rfl ?_
  refine pm_loc (L' := [some (.ref b), some (.ref (z + 0)), some (.ref (z + 140)), some (.ref (z + 149)), some (.ref (z + 150)), some (.int (nI i)), some (.int kc), some (.int mv), none]) rfl ?_
  have fin : pm_G l z D X (cu + mcW + 0 + 0) (su + msW + 0 + 0) Q n' M1 2623 [some (.ref b), some (.ref (z + 0)), some (.ref (z + 140)), some (.ref (z + 149)), some (.ref (z + 150)), some (.int (nI i)), some (.int kc), some (.int mv), none] [] := pm_widen (k1 := cu + 25) (n1 := su + 78) (by omega) (by omega) (pm_wk (L' := [some (.ref b), some (.ref (z + 0)), some (.ref (z + 140)), some (.ref (z + 149)), some (.ref (z + 150)), some (.int (nI i)), none, none, none]) ⟨rfl, rfl, rfl, rfl, rfl, rfl, trivial⟩ (next n' M1 hn' (pm_Jn (by omega) hT' hT1 hL' h149' (h150'.trans h150) hR2 hF1)))
  refine pm_aload_n B dL_law_1323 rfl ?_
  refine pm_cV (As := []) (mc2 := 0) (ms2 := 0) B rfl hT1.1 rfl (c_X13_thrown hT1.1) mt_X13_thrown sv_L_154 dL_law_1324 rfl rfl rfl (Nat.ble_eq_true_of_le (by omega)) (Nat.ble_eq_true_of_le (by omega)) ?_
  refine pm_stk (st' := [.int (h2.1 6)]) rfl ?_
  refine pm_iload B dL_law_1327 rfl ?_
  refine pm_icmp_eq (tgt := 1334) B dL_law_1329 (by decide) (fun _ => ?_) (fun hne => absurd e6 hne)
  refine pm_iload B dL_law_1334 rfl ?_
  refine pm_if_ne (tgt := 1351) B dL_law_1336 (by decide) (fun _ => ?_) (fun hk0 => ?_)
  · exact pm_goto (tgt := 2623) B dL_law_1351 (by decide) fin
  refine pm_aload_n B dL_law_1339 rfl ?_
  refine pm_iconst (v := 0) B dL_law_1340 (by decide) ?_
  refine pm_lald_n B dL_law_1341 ((hF1 _ (Or.inr (by decide))).trans h149') 0 (by decide) (by decide) ?_
  refine pm_iload B dL_law_1342 rfl ?_
  refine pm_i2l B dL_law_1344 ?_
  refine pm_lcmp B dL_law_1345 ?_
  refine pm_if_eq (tgt := 1351) B dL_law_1346 (by decide) (fun _ => ?_) (fun hne => absurd (pm_lcmp0 ((hV hk0).trans (by rw [e7 hk0]))) hne)
  exact pm_goto (tgt := 2623) B dL_law_1351 (by decide) fin
theorem ss_L_218 : pm_SS RL 218 yL_link := ⟨pm_T_in 1052 (by decide +kernel) (by decide +kernel), pm_T_in 1053 (by decide +kernel) (by decide +kernel)⟩
set_option maxHeartbeats 1000000 in
theorem pm_lw_20 {l : Launch} {z : Nat} {D : va_G} {kA : Nat → ClassId} {kE : Nat → Nat} {nm : String} {tb : List ExceptionTableEntry} {mc ms : Nat} {X : pm_X} {cu su : Nat} {Q : State → Prop} {nx : Nat} {M : pm_M} {b N i Bd Bd2 : Nat} {xs : Nat → Int32} {g : pm_Cs} {h h2 : pm_Ms} {L : Int32 × Int32 × Int32} {fo : Nat → Int64} {fd : Nat → UInt64} {R : Int32 → Int32 → pm_Cs → Int32 × Int32 × Int32 → Prop} {mv : Int32} {dW mcW msW dX : Nat} (hdW : Nat.ble (dW + 1) 2048 = true) (hmW : mcW ≤ 25) (hsW : msW ≤ 78) (hdX : Nat.ble (dX + 1) 2048 = true) (B : pm_B l z D kA kE RL code 9 ret nm tb 2048 mc ms X) (hXs : va_X b N xs X.2.2.2.1 X.2.2.2.1.heap) (hbz : b < z) (hiN : i + 4 ≤ N) (hN : N ≤ 2048) (hcu : cu + 25 ≤ mc) (hsu : su + 78 ≤ ms) (hnx : 151 ≤ nx) (hT : pm_TC z kA kE M g) (h150 : M 150 = some (.inl (kA 2, 1, .inr (.inr (.inr (.inl fd))))))
    (hW : pm_Cw l z D kA kE yL_link cL_link 5 (some .int) [(0, 10, 13, 21), (0, 10, 17, 13), (0, 10, 21, 15)] dW mcW msW [.ref (z + 0), .int (xs (i + 1)), .int (xs (i + 2)), .ref (z + 149)] nx M (pm_oA z kA kE nx M h (fun fo' v => fo' 0 = v.toInt64) R)) (hX : pm_xm l z D kA kE yX13_link cX13_link 3 (some .int) dX [.int (xs (i + 1)), .int (xs (i + 2))] h h2 (.int mv)) (hS : ∀ kc v g' L', R kc v g' L' → h2.1 6 = kc ∧ (kc = 0 → v = mv) ∧ pm_Rel Bd2 g' h2 L')
    (next : ∀ nx' M', nx ≤ nx' → pm_J z kA kE nx' M' Bd2 → pm_G l z D X (cu + 25) (su + 78) Q nx' M' 2623 [some (.ref b), some (.ref (z + 0)), some (.ref (z + 140)), some (.ref (z + 149)), some (.ref (z + 150)), some (.int (nI i)), none, none, none] []) : pm_G l z D X cu su Q nx M 1354 [some (.ref b), some (.ref (z + 0)), some (.ref (z + 140)), some (.ref (z + 149)), some (.ref (z + 150)), some (.int (nI i)), none, none, none] [] := by
  refine pm_aload_n B dL_law_1354 rfl ?_
  refine pm_aload_n B dL_law_1355 rfl ?_
  refine pm_iload B dL_law_1356 rfl ?_
  refine pm_iconst (v := 1) B dL_law_1358 (by decide) ?_
  refine pm_iadd B dL_law_1359 ?_
  refine pm_stk (st' := [.int (nI (i + 1)), .ref b, .ref (z + 0)]) (by rw [show (nI i : Int32) + 1 = nI (i + 1) from nI_add i 1]) ?_
  refine pm_sld B hXs hbz (i + 1) (by omega) (by omega) dL_law_1360 ?_
  refine pm_aload_n B dL_law_1361 rfl ?_
  refine pm_iload B dL_law_1362 rfl ?_
  refine pm_iconst (v := 2) B dL_law_1364 (by decide) ?_
  refine pm_iadd B dL_law_1365 ?_
  refine pm_stk (st' := [.int (nI (i + 2)), .ref b, .int (xs (i + 1)), .ref (z + 0)]) (by rw [show (nI i : Int32) + 2 = nI (i + 2) from nI_add i 2]) ?_
  refine pm_sld B hXs hbz (i + 2) (by omega) (by omega) dL_law_1366 ?_
  refine pm_aload_n B dL_law_1367 rfl ?_
  refine pm_cSW (As := [.ref (z + 0), .int (xs (i + 1)), .int (xs (i + 2)), .ref (z + 149)]) (mc2 := mcW) (ms2 := msW) B hW mt_L_link ss_L_218 dL_law_1368 rfl hdW rfl (Nat.ble_eq_true_of_le (by omega)) (Nat.ble_eq_true_of_le (by omega)) (fun E n' M' hp => (pm_oA_no hp).elim) (fun u n' M' hp => ?_)
  obtain ⟨kc, v, g', L', fo', ho, hn', hT', hL', hTM', h149', h150', hV, hR'⟩ := hp
  obtain rfl : u = some (.int kc) := Sum.inl.inj ho
  obtain ⟨e6, e7, hR2⟩ := hS kc v g' L' hR'
  obtain ⟨M1, hC1, hT1, hF1⟩ := hX n' M' hTM'
  refine pm_stk (st' := [.int kc]) rfl ?_
  refine pm_istore B dL_law_1371 rfl rfl ?_
  refine pm_loc (L' := [some (.ref b), some (.ref (z + 0)), some (.ref (z + 140)), some (.ref (z + 149)), some (.ref (z + 150)), some (.int (nI i)), some (.int kc), none, none]) rfl ?_
  refine pm_aload_n B dL_law_1373 rfl ?_
  refine pm_aload_n B dL_law_1374 rfl ?_
  refine pm_iload B dL_law_1375 rfl ?_
  refine pm_iconst (v := 1) B dL_law_1377 (by decide) ?_
  refine pm_iadd B dL_law_1378 ?_
  refine pm_stk (st' := [.int (nI (i + 1)), .ref b, .ref (z + 140)]) (by rw [show (nI i : Int32) + 1 = nI (i + 1) from nI_add i 1]) ?_
  refine pm_sld B hXs hbz (i + 1) (by omega) (by omega) dL_law_1379 ?_
  refine pm_aload_n B dL_law_1380 rfl ?_
  refine pm_iload B dL_law_1381 rfl ?_
  refine pm_iconst (v := 2) B dL_law_1383 (by decide) ?_
  refine pm_iadd B dL_law_1384 ?_
  refine pm_stk (st' := [.int (nI (i + 2)), .ref b, .int (xs (i + 1)), .ref (z + 140)]) (by rw [show (nI i : Int32) + 2 = nI (i + 2) from nI_add i 2]) ?_
  refine pm_sld B hXs hbz (i + 2) (by omega) (by omega) dL_law_1385 ?_
  refine pm_cV (As := [.int (xs (i + 1)), .int (xs (i + 2))]) (mc2 := 0) (ms2 := 0) B rfl hTM'.1 rfl hC1 mt_X13_link sv_L_220 dL_law_1386 rfl hdX rfl (Nat.ble_eq_true_of_le (by omega)) (Nat.ble_eq_true_of_le (by omega)) ?_
  refine pm_stk (st' := [.int mv]) rfl ?_
  refine pm_istore B dL_law_1389 rfl rfl ?_
  refine pm_loc (L' := [some (.ref b), some (.ref (z + 0)), some (.ref (z + 140)), some (.ref (z + 149)), some (.ref (z + 150)), some (.int (nI i)), some (.int kc), some (.int mv), none]) rfl ?_
  have fin : pm_G l z D X (cu + mcW + 0 + 0) (su + msW + 0 + 0) Q n' M1 2623 [some (.ref b), some (.ref (z + 0)), some (.ref (z + 140)), some (.ref (z + 149)), some (.ref (z + 150)), some (.int (nI i)), some (.int kc), some (.int mv), none] [] := pm_widen (k1 := cu + 25) (n1 := su + 78) (by omega) (by omega) (pm_wk (L' := [some (.ref b), some (.ref (z + 0)), some (.ref (z + 140)), some (.ref (z + 149)), some (.ref (z + 150)), some (.int (nI i)), none, none, none]) ⟨rfl, rfl, rfl, rfl, rfl, rfl, trivial⟩ (next n' M1 hn' (pm_Jn (by omega) hT' hT1 hL' h149' (h150'.trans h150) hR2 hF1)))
  refine pm_aload_n B dL_law_1391 rfl ?_
  refine pm_cV (As := []) (mc2 := 0) (ms2 := 0) B rfl hT1.1 rfl (c_X13_thrown hT1.1) mt_X13_thrown sv_L_154 dL_law_1392 rfl rfl rfl (Nat.ble_eq_true_of_le (by omega)) (Nat.ble_eq_true_of_le (by omega)) ?_
  refine pm_stk (st' := [.int (h2.1 6)]) rfl ?_
  refine pm_iload B dL_law_1395 rfl ?_
  refine pm_icmp_eq (tgt := 1402) B dL_law_1397 (by decide) (fun _ => ?_) (fun hne => absurd e6 hne)
  refine pm_iload B dL_law_1402 rfl ?_
  refine pm_if_ne (tgt := 1419) B dL_law_1404 (by decide) (fun _ => ?_) (fun hk0 => ?_)
  · exact pm_goto (tgt := 2623) B dL_law_1419 (by decide) fin
  refine pm_aload_n B dL_law_1407 rfl ?_
  refine pm_iconst (v := 0) B dL_law_1408 (by decide) ?_
  refine pm_lald_n B dL_law_1409 ((hF1 _ (Or.inr (by decide))).trans h149') 0 (by decide) (by decide) ?_
  refine pm_iload B dL_law_1410 rfl ?_
  refine pm_i2l B dL_law_1412 ?_
  refine pm_lcmp B dL_law_1413 ?_
  refine pm_if_eq (tgt := 1419) B dL_law_1414 (by decide) (fun _ => ?_) (fun hne => absurd (pm_lcmp0 ((hV hk0).trans (by rw [e7 hk0]))) hne)
  exact pm_goto (tgt := 2623) B dL_law_1419 (by decide) fin
theorem ss_L_221 : pm_SS RL 221 yL_unlink := ⟨pm_T_in 1061 (by decide +kernel) (by decide +kernel), pm_T_in 1062 (by decide +kernel) (by decide +kernel)⟩
set_option maxHeartbeats 1000000 in
theorem pm_lw_21 {l : Launch} {z : Nat} {D : va_G} {kA : Nat → ClassId} {kE : Nat → Nat} {nm : String} {tb : List ExceptionTableEntry} {mc ms : Nat} {X : pm_X} {cu su : Nat} {Q : State → Prop} {nx : Nat} {M : pm_M} {b N i Bd Bd2 : Nat} {xs : Nat → Int32} {g : pm_Cs} {h h2 : pm_Ms} {L : Int32 × Int32 × Int32} {fo : Nat → Int64} {fd : Nat → UInt64} {R : Int32 → Int32 → pm_Cs → Int32 × Int32 × Int32 → Prop} {mv : Int32} {dW mcW msW dX : Nat} (hdW : Nat.ble (dW + 1) 2048 = true) (hmW : mcW ≤ 25) (hsW : msW ≤ 78) (hdX : Nat.ble (dX + 1) 2048 = true) (B : pm_B l z D kA kE RL code 9 ret nm tb 2048 mc ms X) (hXs : va_X b N xs X.2.2.2.1 X.2.2.2.1.heap) (hbz : b < z) (hiN : i + 4 ≤ N) (hN : N ≤ 2048) (hcu : cu + 25 ≤ mc) (hsu : su + 78 ≤ ms) (hnx : 151 ≤ nx) (hT : pm_TC z kA kE M g) (h150 : M 150 = some (.inl (kA 2, 1, .inr (.inr (.inr (.inl fd))))))
    (hW : pm_Cw l z D kA kE yL_unlink cL_unlink 5 (some .int) [(0, 10, 13, 21), (0, 10, 17, 13), (0, 10, 21, 15)] dW mcW msW [.ref (z + 0), .int (xs (i + 1)), .int (xs (i + 2)), .ref (z + 149)] nx M (pm_oA z kA kE nx M h (fun fo' v => fo' 0 = v.toInt64) R)) (hX : pm_xm l z D kA kE yX13_unlink cX13_unlink 3 (some .int) dX [.int (xs (i + 1)), .int (xs (i + 2))] h h2 (.int mv)) (hS : ∀ kc v g' L', R kc v g' L' → h2.1 6 = kc ∧ (kc = 0 → v = mv) ∧ pm_Rel Bd2 g' h2 L')
    (next : ∀ nx' M', nx ≤ nx' → pm_J z kA kE nx' M' Bd2 → pm_G l z D X (cu + 25) (su + 78) Q nx' M' 2623 [some (.ref b), some (.ref (z + 0)), some (.ref (z + 140)), some (.ref (z + 149)), some (.ref (z + 150)), some (.int (nI i)), none, none, none] []) : pm_G l z D X cu su Q nx M 1422 [some (.ref b), some (.ref (z + 0)), some (.ref (z + 140)), some (.ref (z + 149)), some (.ref (z + 150)), some (.int (nI i)), none, none, none] [] := by
  refine pm_aload_n B dL_law_1422 rfl ?_
  refine pm_aload_n B dL_law_1423 rfl ?_
  refine pm_iload B dL_law_1424 rfl ?_
  refine pm_iconst (v := 1) B dL_law_1426 (by decide) ?_
  refine pm_iadd B dL_law_1427 ?_
  refine pm_stk (st' := [.int (nI (i + 1)), .ref b, .ref (z + 0)]) (by rw [show (nI i : Int32) + 1 = nI (i + 1) from nI_add i 1]) ?_
  refine pm_sld B hXs hbz (i + 1) (by omega) (by omega) dL_law_1428 ?_
  refine pm_aload_n B dL_law_1429 rfl ?_
  refine pm_iload B dL_law_1430 rfl ?_
  refine pm_iconst (v := 2) B dL_law_1432 (by decide) ?_
  refine pm_iadd B dL_law_1433 ?_
  refine pm_stk (st' := [.int (nI (i + 2)), .ref b, .int (xs (i + 1)), .ref (z + 0)]) (by rw [show (nI i : Int32) + 2 = nI (i + 2) from nI_add i 2]) ?_
  refine pm_sld B hXs hbz (i + 2) (by omega) (by omega) dL_law_1434 ?_
  refine pm_aload_n B dL_law_1435 rfl ?_
  refine pm_cSW (As := [.ref (z + 0), .int (xs (i + 1)), .int (xs (i + 2)), .ref (z + 149)]) (mc2 := mcW) (ms2 := msW) B hW mt_L_unlink ss_L_221 dL_law_1436 rfl hdW rfl (Nat.ble_eq_true_of_le (by omega)) (Nat.ble_eq_true_of_le (by omega)) (fun E n' M' hp => (pm_oA_no hp).elim) (fun u n' M' hp => ?_)
  obtain ⟨kc, v, g', L', fo', ho, hn', hT', hL', hTM', h149', h150', hV, hR'⟩ := hp
  obtain rfl : u = some (.int kc) := Sum.inl.inj ho
  obtain ⟨e6, e7, hR2⟩ := hS kc v g' L' hR'
  obtain ⟨M1, hC1, hT1, hF1⟩ := hX n' M' hTM'
  refine pm_stk (st' := [.int kc]) rfl ?_
  refine pm_istore B dL_law_1439 rfl rfl ?_
  refine pm_loc (L' := [some (.ref b), some (.ref (z + 0)), some (.ref (z + 140)), some (.ref (z + 149)), some (.ref (z + 150)), some (.int (nI i)), some (.int kc), none, none]) rfl ?_
  refine pm_aload_n B dL_law_1441 rfl ?_
  refine pm_aload_n B dL_law_1442 rfl ?_
  refine pm_iload B dL_law_1443 rfl ?_
  refine pm_iconst (v := 1) B dL_law_1445 (by decide) ?_
  refine pm_iadd B dL_law_1446 ?_
  refine pm_stk (st' := [.int (nI (i + 1)), .ref b, .ref (z + 140)]) (by rw [show (nI i : Int32) + 1 = nI (i + 1) from nI_add i 1]) ?_
  refine pm_sld B hXs hbz (i + 1) (by omega) (by omega) dL_law_1447 ?_
  refine pm_aload_n B dL_law_1448 rfl ?_
  refine pm_iload B dL_law_1449 rfl ?_
  refine pm_iconst (v := 2) B dL_law_1451 (by decide) ?_
  refine pm_iadd B dL_law_1452 ?_
  refine pm_stk (st' := [.int (nI (i + 2)), .ref b, .int (xs (i + 1)), .ref (z + 140)]) (by rw [show (nI i : Int32) + 2 = nI (i + 2) from nI_add i 2]) ?_
  refine pm_sld B hXs hbz (i + 2) (by omega) (by omega) dL_law_1453 ?_
  refine pm_cV (As := [.int (xs (i + 1)), .int (xs (i + 2))]) (mc2 := 0) (ms2 := 0) B rfl hTM'.1 rfl hC1 mt_X13_unlink sv_L_223 dL_law_1454 rfl hdX rfl (Nat.ble_eq_true_of_le (by omega)) (Nat.ble_eq_true_of_le (by omega)) ?_
  refine pm_stk (st' := [.int mv]) rfl ?_
  refine pm_istore B dL_law_1457 rfl rfl ?_
  refine pm_loc (L' := [some (.ref b), some (.ref (z + 0)), some (.ref (z + 140)), some (.ref (z + 149)), some (.ref (z + 150)), some (.int (nI i)), some (.int kc), some (.int mv), none]) rfl ?_
  have fin : pm_G l z D X (cu + mcW + 0 + 0) (su + msW + 0 + 0) Q n' M1 2623 [some (.ref b), some (.ref (z + 0)), some (.ref (z + 140)), some (.ref (z + 149)), some (.ref (z + 150)), some (.int (nI i)), some (.int kc), some (.int mv), none] [] := pm_widen (k1 := cu + 25) (n1 := su + 78) (by omega) (by omega) (pm_wk (L' := [some (.ref b), some (.ref (z + 0)), some (.ref (z + 140)), some (.ref (z + 149)), some (.ref (z + 150)), some (.int (nI i)), none, none, none]) ⟨rfl, rfl, rfl, rfl, rfl, rfl, trivial⟩ (next n' M1 hn' (pm_Jn (by omega) hT' hT1 hL' h149' (h150'.trans h150) hR2 hF1)))
  refine pm_aload_n B dL_law_1459 rfl ?_
  refine pm_cV (As := []) (mc2 := 0) (ms2 := 0) B rfl hT1.1 rfl (c_X13_thrown hT1.1) mt_X13_thrown sv_L_154 dL_law_1460 rfl rfl rfl (Nat.ble_eq_true_of_le (by omega)) (Nat.ble_eq_true_of_le (by omega)) ?_
  refine pm_stk (st' := [.int (h2.1 6)]) rfl ?_
  refine pm_iload B dL_law_1463 rfl ?_
  refine pm_icmp_eq (tgt := 1470) B dL_law_1465 (by decide) (fun _ => ?_) (fun hne => absurd e6 hne)
  refine pm_iload B dL_law_1470 rfl ?_
  refine pm_if_ne (tgt := 1487) B dL_law_1472 (by decide) (fun _ => ?_) (fun hk0 => ?_)
  · exact pm_goto (tgt := 2623) B dL_law_1487 (by decide) fin
  refine pm_aload_n B dL_law_1475 rfl ?_
  refine pm_iconst (v := 0) B dL_law_1476 (by decide) ?_
  refine pm_lald_n B dL_law_1477 ((hF1 _ (Or.inr (by decide))).trans h149') 0 (by decide) (by decide) ?_
  refine pm_iload B dL_law_1478 rfl ?_
  refine pm_i2l B dL_law_1480 ?_
  refine pm_lcmp B dL_law_1481 ?_
  refine pm_if_eq (tgt := 1487) B dL_law_1482 (by decide) (fun _ => ?_) (fun hne => absurd (pm_lcmp0 ((hV hk0).trans (by rw [e7 hk0]))) hne)
  exact pm_goto (tgt := 2623) B dL_law_1487 (by decide) fin
set_option maxHeartbeats 1000000 in
theorem pm_lw_22 {l : Launch} {z : Nat} {D : va_G} {kA : Nat → ClassId} {kE : Nat → Nat} {nm : String} {tb : List ExceptionTableEntry} {mc ms : Nat} {X : pm_X} {cu su : Nat} {Q : State → Prop} {nx : Nat} {M : pm_M} {b N i Bd Bd2 : Nat} {xs : Nat → Int32} {g : pm_Cs} {h h2 : pm_Ms} {L : Int32 × Int32 × Int32} {fo : Nat → Int64} {fd : Nat → UInt64} {R : Int32 → Int32 → pm_Cs → Int32 × Int32 × Int32 → Prop} {mv : Int32} {dW mcW msW dX : Nat} (hdW : Nat.ble (dW + 1) 2048 = true) (hmW : mcW ≤ 25) (hsW : msW ≤ 78) (hdX : Nat.ble (dX + 1) 2048 = true) (B : pm_B l z D kA kE RL code 9 ret nm tb 2048 mc ms X) (hcu : cu + 25 ≤ mc) (hsu : su + 78 ≤ ms) (hnx : 151 ≤ nx) (hT : pm_TC z kA kE M g) (hTM : pm_TM z kA M h) (h149 : M 149 = some (.inl (kA 1, 1, .inr (.inl fo)))) (h150 : M 150 = some (.inl (kA 2, 1, .inr (.inr (.inr (.inl fd))))))
    (hC : pm_C l z D kA kE yX12_linkCount cX12_linkCount 1 (some .int) dW mcW msW [.ref (z + 0)] nx M (pm_cl2 z kA kE nx M [] R)) (hX : pm_xm l z D kA kE yX13_linkCount cX13_linkCount 1 (some .int) dX [] h h2 (.int mv)) (hS : ∀ v g' L', R 0 v g' L' → v = mv ∧ pm_Rel Bd2 g' h2 L')
    (next : ∀ nx' M', nx ≤ nx' → pm_J z kA kE nx' M' Bd2 → pm_G l z D X (cu + 25) (su + 78) Q nx' M' 2623 [some (.ref b), some (.ref (z + 0)), some (.ref (z + 140)), some (.ref (z + 149)), some (.ref (z + 150)), some (.int (nI i)), none, none, none] []) : pm_G l z D X cu su Q nx M 1490 [some (.ref b), some (.ref (z + 0)), some (.ref (z + 140)), some (.ref (z + 149)), some (.ref (z + 150)), some (.int (nI i)), none, none, none] [] := by
  refine pm_aload_n B dL_law_1490 rfl ?_
  refine pm_callV (As := []) (mc2 := mcW) (ms2 := msW) (d2 := dW) B rfl hT.1 rfl hC mt_X12_linkCount sv_L_224 dL_law_1491 rfl hdW rfl (Nat.ble_eq_true_of_le (by omega)) (Nat.ble_eq_true_of_le (by omega)) (fun E n' M' hp => ?_) (fun u n' M' hp => ?_)
  · obtain ⟨e, he, _⟩ := pm_clE hp
    cases he
  obtain ⟨hF, hn', g', L', hT', hL', hv⟩ := hp
  obtain ⟨v, hv, hR'⟩ : ∃ v, u = some (.int v) ∧ R 0 v g' L' := by
    rcases hv with ⟨v, hv, hR⟩ | ⟨e, he, _⟩
    · exact ⟨v, Sum.inl.inj hv, hR⟩
    · cases he
  subst hv
  obtain ⟨e7, hR2⟩ := hS v g' L' hR'
  obtain ⟨M1, hC1, hT1, hF1⟩ := hX n' M' (pm_TM_keep hTM (fun x h1 h2 => hF x h1 (by omega)))
  refine pm_stk (st' := [.int v]) rfl ?_
  refine pm_aload_n B dL_law_1494 rfl ?_
  refine pm_cV (As := []) (mc2 := 0) (ms2 := 0) B rfl ((hF _ (by decide) (by omega)).trans hTM.1) rfl hC1 mt_X13_linkCount sv_L_227 dL_law_1495 rfl hdX rfl (Nat.ble_eq_true_of_le (by omega)) (Nat.ble_eq_true_of_le (by omega)) ?_
  refine pm_stk (st' := [.int mv, .int v]) rfl ?_
  refine pm_icmp_eq (tgt := 2623) B dL_law_1498 (by decide) (fun _ => ?_) (fun hne => absurd e7 hne)
  exact pm_widen (k1 := cu + 25) (n1 := su + 78) (by omega) (by omega) (next n' M1 hn' (pm_Jn (by omega) hT' hT1 hL' ((hF _ (by decide) (by omega)).trans h149) ((hF _ (by decide) (by omega)).trans h150) hR2 hF1))
theorem ss_L_228 : pm_SS RL 228 yL_areLinked := ⟨pm_T_in 1070 (by decide +kernel) (by decide +kernel), pm_T_in 1071 (by decide +kernel) (by decide +kernel)⟩
set_option maxHeartbeats 1000000 in
theorem pm_lw_23 {l : Launch} {z : Nat} {D : va_G} {kA : Nat → ClassId} {kE : Nat → Nat} {nm : String} {tb : List ExceptionTableEntry} {mc ms : Nat} {X : pm_X} {cu su : Nat} {Q : State → Prop} {nx : Nat} {M : pm_M} {b N i Bd Bd2 : Nat} {xs : Nat → Int32} {g : pm_Cs} {h h2 : pm_Ms} {L : Int32 × Int32 × Int32} {fo : Nat → Int64} {fd : Nat → UInt64} {R : Int32 → Int32 → pm_Cs → Int32 × Int32 × Int32 → Prop} {mv : Int32} {dW mcW msW dX : Nat} (hdW : Nat.ble (dW + 1) 2048 = true) (hmW : mcW ≤ 25) (hsW : msW ≤ 78) (hdX : Nat.ble (dX + 1) 2048 = true) (B : pm_B l z D kA kE RL code 9 ret nm tb 2048 mc ms X) (hXs : va_X b N xs X.2.2.2.1 X.2.2.2.1.heap) (hbz : b < z) (hiN : i + 4 ≤ N) (hN : N ≤ 2048) (hcu : cu + 25 ≤ mc) (hsu : su + 78 ≤ ms) (hnx : 151 ≤ nx) (hT : pm_TC z kA kE M g) (h150 : M 150 = some (.inl (kA 2, 1, .inr (.inr (.inr (.inl fd))))))
    (hW : pm_Cw l z D kA kE yL_areLinked cL_areLinked 5 (some .int) [(0, 17, 20, 21)] dW mcW msW [.ref (z + 0), .int (xs (i + 1)), .int (xs (i + 2)), .ref (z + 149)] nx M (pm_oA z kA kE nx M h (fun fo' v => fo' 0 = if v = 0 then 0 else 1) R)) (hX : pm_xm l z D kA kE yX13_areLinked cX13_areLinked 3 (some .boolean) dX [.int (xs (i + 1)), .int (xs (i + 2))] h h2 (.int mv)) (hS : ∀ kc v g' L', R kc v g' L' → h2.1 6 = kc ∧ (kc = 0 → v = mv) ∧ pm_Rel Bd2 g' h2 L')
    (next : ∀ nx' M', nx ≤ nx' → pm_J z kA kE nx' M' Bd2 → pm_G l z D X (cu + 25) (su + 78) Q nx' M' 2623 [some (.ref b), some (.ref (z + 0)), some (.ref (z + 140)), some (.ref (z + 149)), some (.ref (z + 150)), some (.int (nI i)), none, none, none] []) : pm_G l z D X cu su Q nx M 1503 [some (.ref b), some (.ref (z + 0)), some (.ref (z + 140)), some (.ref (z + 149)), some (.ref (z + 150)), some (.int (nI i)), none, none, none] [] := by
  refine pm_aload_n B dL_law_1503 rfl ?_
  refine pm_aload_n B dL_law_1504 rfl ?_
  refine pm_iload B dL_law_1505 rfl ?_
  refine pm_iconst (v := 1) B dL_law_1507 (by decide) ?_
  refine pm_iadd B dL_law_1508 ?_
  refine pm_stk (st' := [.int (nI (i + 1)), .ref b, .ref (z + 0)]) (by rw [show (nI i : Int32) + 1 = nI (i + 1) from nI_add i 1]) ?_
  refine pm_sld B hXs hbz (i + 1) (by omega) (by omega) dL_law_1509 ?_
  refine pm_aload_n B dL_law_1510 rfl ?_
  refine pm_iload B dL_law_1511 rfl ?_
  refine pm_iconst (v := 2) B dL_law_1513 (by decide) ?_
  refine pm_iadd B dL_law_1514 ?_
  refine pm_stk (st' := [.int (nI (i + 2)), .ref b, .int (xs (i + 1)), .ref (z + 0)]) (by rw [show (nI i : Int32) + 2 = nI (i + 2) from nI_add i 2]) ?_
  refine pm_sld B hXs hbz (i + 2) (by omega) (by omega) dL_law_1515 ?_
  refine pm_aload_n B dL_law_1516 rfl ?_
  refine pm_cSW (As := [.ref (z + 0), .int (xs (i + 1)), .int (xs (i + 2)), .ref (z + 149)]) (mc2 := mcW) (ms2 := msW) B hW mt_L_areLinked ss_L_228 dL_law_1517 rfl hdW rfl (Nat.ble_eq_true_of_le (by omega)) (Nat.ble_eq_true_of_le (by omega)) (fun E n' M' hp => (pm_oA_no hp).elim) (fun u n' M' hp => ?_)
  obtain ⟨kc, v, g', L', fo', ho, hn', hT', hL', hTM', h149', h150', hV, hR'⟩ := hp
  obtain rfl : u = some (.int kc) := Sum.inl.inj ho
  obtain ⟨e6, e7, hR2⟩ := hS kc v g' L' hR'
  obtain ⟨M1, hC1, hT1, hF1⟩ := hX n' M' hTM'
  refine pm_stk (st' := [.int kc]) rfl ?_
  refine pm_istore B dL_law_1520 rfl rfl ?_
  refine pm_loc (L' := [some (.ref b), some (.ref (z + 0)), some (.ref (z + 140)), some (.ref (z + 149)), some (.ref (z + 150)), some (.int (nI i)), some (.int kc), none, none]) rfl ?_
  refine pm_aload_n B dL_law_1522 rfl ?_
  refine pm_aload_n B dL_law_1523 rfl ?_
  refine pm_iload B dL_law_1524 rfl ?_
  refine pm_iconst (v := 1) B dL_law_1526 (by decide) ?_
  refine pm_iadd B dL_law_1527 ?_
  refine pm_stk (st' := [.int (nI (i + 1)), .ref b, .ref (z + 140)]) (by rw [show (nI i : Int32) + 1 = nI (i + 1) from nI_add i 1]) ?_
  refine pm_sld B hXs hbz (i + 1) (by omega) (by omega) dL_law_1528 ?_
  refine pm_aload_n B dL_law_1529 rfl ?_
  refine pm_iload B dL_law_1530 rfl ?_
  refine pm_iconst (v := 2) B dL_law_1532 (by decide) ?_
  refine pm_iadd B dL_law_1533 ?_
  refine pm_stk (st' := [.int (nI (i + 2)), .ref b, .int (xs (i + 1)), .ref (z + 140)]) (by rw [show (nI i : Int32) + 2 = nI (i + 2) from nI_add i 2]) ?_
  refine pm_sld B hXs hbz (i + 2) (by omega) (by omega) dL_law_1534 ?_
  refine pm_cV (As := [.int (xs (i + 1)), .int (xs (i + 2))]) (mc2 := 0) (ms2 := 0) B rfl hTM'.1 rfl hC1 mt_X13_areLinked sv_L_230 dL_law_1535 rfl hdX rfl (Nat.ble_eq_true_of_le (by omega)) (Nat.ble_eq_true_of_le (by omega)) ?_
  refine pm_stk (st' := [.int mv]) rfl ?_
  refine pm_istore B dL_law_1538 rfl rfl ?_
  refine pm_loc (L' := [some (.ref b), some (.ref (z + 0)), some (.ref (z + 140)), some (.ref (z + 149)), some (.ref (z + 150)), some (.int (nI i)), some (.int kc), some (.int mv), none]) rfl ?_
  have fin : pm_G l z D X (cu + mcW + 0 + 0) (su + msW + 0 + 0) Q n' M1 2623 [some (.ref b), some (.ref (z + 0)), some (.ref (z + 140)), some (.ref (z + 149)), some (.ref (z + 150)), some (.int (nI i)), some (.int kc), some (.int mv), none] [] := pm_widen (k1 := cu + 25) (n1 := su + 78) (by omega) (by omega) (pm_wk (L' := [some (.ref b), some (.ref (z + 0)), some (.ref (z + 140)), some (.ref (z + 149)), some (.ref (z + 150)), some (.int (nI i)), none, none, none]) ⟨rfl, rfl, rfl, rfl, rfl, rfl, trivial⟩ (next n' M1 hn' (pm_Jn (by omega) hT' hT1 hL' h149' (h150'.trans h150) hR2 hF1)))
  refine pm_aload_n B dL_law_1540 rfl ?_
  refine pm_cV (As := []) (mc2 := 0) (ms2 := 0) B rfl hT1.1 rfl (c_X13_thrown hT1.1) mt_X13_thrown sv_L_154 dL_law_1541 rfl rfl rfl (Nat.ble_eq_true_of_le (by omega)) (Nat.ble_eq_true_of_le (by omega)) ?_
  refine pm_stk (st' := [.int (h2.1 6)]) rfl ?_
  refine pm_iload B dL_law_1544 rfl ?_
  refine pm_icmp_eq (tgt := 1551) B dL_law_1546 (by decide) (fun _ => ?_) (fun hne => absurd e6 hne)
  refine pm_iload B dL_law_1551 rfl ?_
  refine pm_if_ne (tgt := 1575) B dL_law_1553 (by decide) (fun _ => ?_) (fun hk0 => ?_)
  · exact pm_goto (tgt := 2623) B dL_law_1575 (by decide) fin
  refine pm_aload_n B dL_law_1556 rfl ?_
  refine pm_iconst (v := 0) B dL_law_1557 (by decide) ?_
  refine pm_lald_n B dL_law_1558 ((hF1 _ (Or.inr (by decide))).trans h149') 0 (by decide) (by decide) ?_
  refine pm_iload B dL_law_1559 rfl ?_
  refine pm_if_eq (tgt := 1568) B dL_law_1561 (by decide) (fun hz => ?_) (fun hz => ?_)
  · refine pm_lconst (v := 0) B dL_law_1568 rfl ?_
    refine pm_lcmp B dL_law_1569 ?_
    refine pm_if_eq (tgt := 1575) B dL_law_1570 (by decide) (fun _ => ?_) (fun hne => absurd (pm_lcmp0 ((hV hk0).trans (by rw [e7 hk0, if_pos hz]))) hne)
    exact pm_goto (tgt := 2623) B dL_law_1575 (by decide) fin
  · refine pm_lconst (v := 1) B dL_law_1564 rfl ?_
    refine pm_goto (tgt := 1569) B dL_law_1565 (by decide) ?_
    refine pm_lcmp B dL_law_1569 ?_
    refine pm_if_eq (tgt := 1575) B dL_law_1570 (by decide) (fun _ => ?_) (fun hne => absurd (pm_lcmp0 ((hV hk0).trans (by rw [e7 hk0, if_neg hz]))) hne)
    exact pm_goto (tgt := 2623) B dL_law_1575 (by decide) fin
set_option maxHeartbeats 1000000 in
theorem pm_lw_24 {l : Launch} {z : Nat} {D : va_G} {kA : Nat → ClassId} {kE : Nat → Nat} {nm : String} {tb : List ExceptionTableEntry} {mc ms : Nat} {X : pm_X} {cu su : Nat} {Q : State → Prop} {nx : Nat} {M : pm_M} {b N i Bd Bd2 : Nat} {xs : Nat → Int32} {g : pm_Cs} {h h2 : pm_Ms} {L : Int32 × Int32 × Int32} {fo : Nat → Int64} {fd : Nat → UInt64} {R : Int32 → Int32 → pm_Cs → Int32 × Int32 × Int32 → Prop} {mv : Int32} {dW mcW msW dX : Nat} (hdW : Nat.ble (dW + 1) 2048 = true) (hmW : mcW ≤ 25) (hsW : msW ≤ 78) (hdX : Nat.ble (dX + 1) 2048 = true) (B : pm_B l z D kA kE RL code 9 ret nm tb 2048 mc ms X) (hcu : cu + 25 ≤ mc) (hsu : su + 78 ≤ ms) (hnx : 151 ≤ nx) (hT : pm_TC z kA kE M g) (hTM : pm_TM z kA M h) (h149 : M 149 = some (.inl (kA 1, 1, .inr (.inl fo)))) (h150 : M 150 = some (.inl (kA 2, 1, .inr (.inr (.inr (.inl fd))))))
    (hC : pm_C l z D kA kE yX12_fewestWatchers cX12_fewestWatchers 1 (some .int) dW mcW msW [.ref (z + 0)] nx M (pm_cl2 z kA kE nx M [] R)) (hX : pm_xm l z D kA kE yX13_fewestWatchers cX13_fewestWatchers 3 (some .int) dX [] h h2 (.int mv)) (hS : ∀ v g' L', R 0 v g' L' → v = mv ∧ pm_Rel Bd2 g' h2 L')
    (next : ∀ nx' M', nx ≤ nx' → pm_J z kA kE nx' M' Bd2 → pm_G l z D X (cu + 25) (su + 78) Q nx' M' 2623 [some (.ref b), some (.ref (z + 0)), some (.ref (z + 140)), some (.ref (z + 149)), some (.ref (z + 150)), some (.int (nI i)), none, none, none] []) : pm_G l z D X cu su Q nx M 1578 [some (.ref b), some (.ref (z + 0)), some (.ref (z + 140)), some (.ref (z + 149)), some (.ref (z + 150)), some (.int (nI i)), none, none, none] [] := by
  refine pm_aload_n B dL_law_1578 rfl ?_
  refine pm_callV (As := []) (mc2 := mcW) (ms2 := msW) (d2 := dW) B rfl hT.1 rfl hC mt_X12_fewestWatchers sv_L_231 dL_law_1579 rfl hdW rfl (Nat.ble_eq_true_of_le (by omega)) (Nat.ble_eq_true_of_le (by omega)) (fun E n' M' hp => ?_) (fun u n' M' hp => ?_)
  · obtain ⟨e, he, _⟩ := pm_clE hp
    cases he
  obtain ⟨hF, hn', g', L', hT', hL', hv⟩ := hp
  obtain ⟨v, hv, hR'⟩ : ∃ v, u = some (.int v) ∧ R 0 v g' L' := by
    rcases hv with ⟨v, hv, hR⟩ | ⟨e, he, _⟩
    · exact ⟨v, Sum.inl.inj hv, hR⟩
    · cases he
  subst hv
  obtain ⟨e7, hR2⟩ := hS v g' L' hR'
  obtain ⟨M1, hC1, hT1, hF1⟩ := hX n' M' (pm_TM_keep hTM (fun x h1 h2 => hF x h1 (by omega)))
  refine pm_stk (st' := [.int v]) rfl ?_
  refine pm_aload_n B dL_law_1582 rfl ?_
  refine pm_cV (As := []) (mc2 := 0) (ms2 := 0) B rfl ((hF _ (by decide) (by omega)).trans hTM.1) rfl hC1 mt_X13_fewestWatchers sv_L_234 dL_law_1583 rfl hdX rfl (Nat.ble_eq_true_of_le (by omega)) (Nat.ble_eq_true_of_le (by omega)) ?_
  refine pm_stk (st' := [.int mv, .int v]) rfl ?_
  refine pm_icmp_eq (tgt := 2623) B dL_law_1586 (by decide) (fun _ => ?_) (fun hne => absurd e7 hne)
  exact pm_widen (k1 := cu + 25) (n1 := su + 78) (by omega) (by omega) (next n' M1 hn' (pm_Jn (by omega) hT' hT1 hL' ((hF _ (by decide) (by omega)).trans h149) ((hF _ (by decide) (by omega)).trans h150) hR2 hF1))
set_option maxHeartbeats 1000000 in
theorem pm_lw_25 {l : Launch} {z : Nat} {D : va_G} {kA : Nat → ClassId} {kE : Nat → Nat} {nm : String} {tb : List ExceptionTableEntry} {mc ms : Nat} {X : pm_X} {cu su : Nat} {Q : State → Prop} {nx : Nat} {M : pm_M} {b N i Bd Bd2 : Nat} {xs : Nat → Int32} {g : pm_Cs} {h h2 : pm_Ms} {L : Int32 × Int32 × Int32} {fo : Nat → Int64} {fd : Nat → UInt64} {R : Int32 → Int32 → pm_Cs → Int32 × Int32 × Int32 → Prop} {mv : Int32} {dW mcW msW dX : Nat} (hdW : Nat.ble (dW + 1) 2048 = true) (hmW : mcW ≤ 25) (hsW : msW ≤ 78) (hdX : Nat.ble (dX + 1) 2048 = true) (B : pm_B l z D kA kE RL code 9 ret nm tb 2048 mc ms X) (hcu : cu + 25 ≤ mc) (hsu : su + 78 ≤ ms) (hnx : 151 ≤ nx) (hT : pm_TC z kA kE M g) (hTM : pm_TM z kA M h) (h149 : M 149 = some (.inl (kA 1, 1, .inr (.inl fo)))) (h150 : M 150 = some (.inl (kA 2, 1, .inr (.inr (.inr (.inl fd))))))
    (hC : pm_C l z D kA kE yX12_fewestWatchersByBranching cX12_fewestWatchersByBranching 1 (some .int) dW mcW msW [.ref (z + 0)] nx M (pm_cl2 z kA kE nx M [] R)) (hX : pm_xm l z D kA kE yX13_fewestWatchersByBranching cX13_fewestWatchersByBranching 1 (some .int) dX [] h h2 (.int mv)) (hS : ∀ v g' L', R 0 v g' L' → v = mv ∧ pm_Rel Bd2 g' h2 L')
    (next : ∀ nx' M', nx ≤ nx' → pm_J z kA kE nx' M' Bd2 → pm_G l z D X (cu + 25) (su + 78) Q nx' M' 2623 [some (.ref b), some (.ref (z + 0)), some (.ref (z + 140)), some (.ref (z + 149)), some (.ref (z + 150)), some (.int (nI i)), none, none, none] []) : pm_G l z D X cu su Q nx M 1591 [some (.ref b), some (.ref (z + 0)), some (.ref (z + 140)), some (.ref (z + 149)), some (.ref (z + 150)), some (.int (nI i)), none, none, none] [] := by
  refine pm_aload_n B dL_law_1591 rfl ?_
  refine pm_callV (As := []) (mc2 := mcW) (ms2 := msW) (d2 := dW) B rfl hT.1 rfl hC mt_X12_fewestWatchersByBranching sv_L_235 dL_law_1592 rfl hdW rfl (Nat.ble_eq_true_of_le (by omega)) (Nat.ble_eq_true_of_le (by omega)) (fun E n' M' hp => ?_) (fun u n' M' hp => ?_)
  · obtain ⟨e, he, _⟩ := pm_clE hp
    cases he
  obtain ⟨hF, hn', g', L', hT', hL', hv⟩ := hp
  obtain ⟨v, hv, hR'⟩ : ∃ v, u = some (.int v) ∧ R 0 v g' L' := by
    rcases hv with ⟨v, hv, hR⟩ | ⟨e, he, _⟩
    · exact ⟨v, Sum.inl.inj hv, hR⟩
    · cases he
  subst hv
  obtain ⟨e7, hR2⟩ := hS v g' L' hR'
  obtain ⟨M1, hC1, hT1, hF1⟩ := hX n' M' (pm_TM_keep hTM (fun x h1 h2 => hF x h1 (by omega)))
  refine pm_stk (st' := [.int v]) rfl ?_
  refine pm_aload_n B dL_law_1595 rfl ?_
  refine pm_cV (As := []) (mc2 := 0) (ms2 := 0) B rfl ((hF _ (by decide) (by omega)).trans hTM.1) rfl hC1 mt_X13_fewestWatchersByBranching sv_L_238 dL_law_1596 rfl hdX rfl (Nat.ble_eq_true_of_le (by omega)) (Nat.ble_eq_true_of_le (by omega)) ?_
  refine pm_stk (st' := [.int mv, .int v]) rfl ?_
  refine pm_icmp_eq (tgt := 2623) B dL_law_1599 (by decide) (fun _ => ?_) (fun hne => absurd e7 hne)
  exact pm_widen (k1 := cu + 25) (n1 := su + 78) (by omega) (by omega) (next n' M1 hn' (pm_Jn (by omega) hT' hT1 hL' ((hF _ (by decide) (by omega)).trans h149) ((hF _ (by decide) (by omega)).trans h150) hR2 hF1))
theorem ss_L_239 : pm_SS RL 239 yL_setThreshold := ⟨pm_T_in 1078 (by decide +kernel) (by decide +kernel), pm_T_in 1079 (by decide +kernel) (by decide +kernel)⟩
set_option maxHeartbeats 1000000 in
theorem pm_lw_26 {l : Launch} {z : Nat} {D : va_G} {kA : Nat → ClassId} {kE : Nat → Nat} {nm : String} {tb : List ExceptionTableEntry} {mc ms : Nat} {X : pm_X} {cu su : Nat} {Q : State → Prop} {nx : Nat} {M : pm_M} {b N i Bd Bd2 : Nat} {xs : Nat → Int32} {g : pm_Cs} {h h2 : pm_Ms} {L : Int32 × Int32 × Int32} {fo : Nat → Int64} {fd : Nat → UInt64} {R : Int32 → Int32 → pm_Cs → Int32 × Int32 × Int32 → Prop} {mv : Int32} {dW mcW msW dX : Nat} (hdW : Nat.ble (dW + 1) 2048 = true) (hmW : mcW ≤ 25) (hsW : msW ≤ 78) (hdX : Nat.ble (dX + 1) 2048 = true) (B : pm_B l z D kA kE RL code 9 ret nm tb 2048 mc ms X) (hXs : va_X b N xs X.2.2.2.1 X.2.2.2.1.heap) (hbz : b < z) (hiN : i + 4 ≤ N) (hN : N ≤ 2048) (hcu : cu + 25 ≤ mc) (hsu : su + 78 ≤ ms) (hnx : 151 ≤ nx) (hT : pm_TC z kA kE M g) (h150 : M 150 = some (.inl (kA 2, 1, .inr (.inr (.inr (.inl fd))))))
    (hW : pm_Cw l z D kA kE yL_setThreshold cL_setThreshold 4 (some .int) [(0, 9, 12, 13), (0, 9, 15, 15)] dW mcW msW [.ref (z + 0), .int (xs (i + 1)), .ref (z + 149)] nx M (pm_oA z kA kE nx M h (fun fo' v => fo' 0 = v.toInt64) R)) (hX : pm_xm l z D kA kE yX13_setThreshold cX13_setThreshold 2 (some .int) dX [.int (xs (i + 1))] h h2 (.int mv)) (hS : ∀ kc v g' L', R kc v g' L' → h2.1 6 = kc ∧ (kc = 0 → v = mv) ∧ pm_Rel Bd2 g' h2 L')
    (next : ∀ nx' M', nx ≤ nx' → pm_J z kA kE nx' M' Bd2 → pm_G l z D X (cu + 25) (su + 78) Q nx' M' 2623 [some (.ref b), some (.ref (z + 0)), some (.ref (z + 140)), some (.ref (z + 149)), some (.ref (z + 150)), some (.int (nI i)), none, none, none] []) : pm_G l z D X cu su Q nx M 1604 [some (.ref b), some (.ref (z + 0)), some (.ref (z + 140)), some (.ref (z + 149)), some (.ref (z + 150)), some (.int (nI i)), none, none, none] [] := by
  refine pm_aload_n B dL_law_1604 rfl ?_
  refine pm_aload_n B dL_law_1605 rfl ?_
  refine pm_iload B dL_law_1606 rfl ?_
  refine pm_iconst (v := 1) B dL_law_1608 (by decide) ?_
  refine pm_iadd B dL_law_1609 ?_
  refine pm_stk (st' := [.int (nI (i + 1)), .ref b, .ref (z + 0)]) (by rw [show (nI i : Int32) + 1 = nI (i + 1) from nI_add i 1]) ?_
  refine pm_sld B hXs hbz (i + 1) (by omega) (by omega) dL_law_1610 ?_
  refine pm_aload_n B dL_law_1611 rfl ?_
  refine pm_cSW (As := [.ref (z + 0), .int (xs (i + 1)), .ref (z + 149)]) (mc2 := mcW) (ms2 := msW) B hW mt_L_setThreshold ss_L_239 dL_law_1612 rfl hdW rfl (Nat.ble_eq_true_of_le (by omega)) (Nat.ble_eq_true_of_le (by omega)) (fun E n' M' hp => (pm_oA_no hp).elim) (fun u n' M' hp => ?_)
  obtain ⟨kc, v, g', L', fo', ho, hn', hT', hL', hTM', h149', h150', hV, hR'⟩ := hp
  obtain rfl : u = some (.int kc) := Sum.inl.inj ho
  obtain ⟨e6, e7, hR2⟩ := hS kc v g' L' hR'
  obtain ⟨M1, hC1, hT1, hF1⟩ := hX n' M' hTM'
  refine pm_stk (st' := [.int kc]) rfl ?_
  refine pm_istore B dL_law_1615 rfl rfl ?_
  refine pm_loc (L' := [some (.ref b), some (.ref (z + 0)), some (.ref (z + 140)), some (.ref (z + 149)), some (.ref (z + 150)), some (.int (nI i)), some (.int kc), none, none]) rfl ?_
  refine pm_aload_n B dL_law_1617 rfl ?_
  refine pm_aload_n B dL_law_1618 rfl ?_
  refine pm_iload B dL_law_1619 rfl ?_
  refine pm_iconst (v := 1) B dL_law_1621 (by decide) ?_
  refine pm_iadd B dL_law_1622 ?_
  refine pm_stk (st' := [.int (nI (i + 1)), .ref b, .ref (z + 140)]) (by rw [show (nI i : Int32) + 1 = nI (i + 1) from nI_add i 1]) ?_
  refine pm_sld B hXs hbz (i + 1) (by omega) (by omega) dL_law_1623 ?_
  refine pm_cV (As := [.int (xs (i + 1))]) (mc2 := 0) (ms2 := 0) B rfl hTM'.1 rfl hC1 mt_X13_setThreshold sv_L_241 dL_law_1624 rfl hdX rfl (Nat.ble_eq_true_of_le (by omega)) (Nat.ble_eq_true_of_le (by omega)) ?_
  refine pm_stk (st' := [.int mv]) rfl ?_
  refine pm_istore B dL_law_1627 rfl rfl ?_
  refine pm_loc (L' := [some (.ref b), some (.ref (z + 0)), some (.ref (z + 140)), some (.ref (z + 149)), some (.ref (z + 150)), some (.int (nI i)), some (.int kc), some (.int mv), none]) rfl ?_
  have fin : pm_G l z D X (cu + mcW + 0 + 0) (su + msW + 0 + 0) Q n' M1 2623 [some (.ref b), some (.ref (z + 0)), some (.ref (z + 140)), some (.ref (z + 149)), some (.ref (z + 150)), some (.int (nI i)), some (.int kc), some (.int mv), none] [] := pm_widen (k1 := cu + 25) (n1 := su + 78) (by omega) (by omega) (pm_wk (L' := [some (.ref b), some (.ref (z + 0)), some (.ref (z + 140)), some (.ref (z + 149)), some (.ref (z + 150)), some (.int (nI i)), none, none, none]) ⟨rfl, rfl, rfl, rfl, rfl, rfl, trivial⟩ (next n' M1 hn' (pm_Jn (by omega) hT' hT1 hL' h149' (h150'.trans h150) hR2 hF1)))
  refine pm_aload_n B dL_law_1629 rfl ?_
  refine pm_cV (As := []) (mc2 := 0) (ms2 := 0) B rfl hT1.1 rfl (c_X13_thrown hT1.1) mt_X13_thrown sv_L_154 dL_law_1630 rfl rfl rfl (Nat.ble_eq_true_of_le (by omega)) (Nat.ble_eq_true_of_le (by omega)) ?_
  refine pm_stk (st' := [.int (h2.1 6)]) rfl ?_
  refine pm_iload B dL_law_1633 rfl ?_
  refine pm_icmp_eq (tgt := 1640) B dL_law_1635 (by decide) (fun _ => ?_) (fun hne => absurd e6 hne)
  refine pm_iload B dL_law_1640 rfl ?_
  refine pm_if_ne (tgt := 1657) B dL_law_1642 (by decide) (fun _ => ?_) (fun hk0 => ?_)
  · exact pm_goto (tgt := 2623) B dL_law_1657 (by decide) fin
  refine pm_aload_n B dL_law_1645 rfl ?_
  refine pm_iconst (v := 0) B dL_law_1646 (by decide) ?_
  refine pm_lald_n B dL_law_1647 ((hF1 _ (Or.inr (by decide))).trans h149') 0 (by decide) (by decide) ?_
  refine pm_iload B dL_law_1648 rfl ?_
  refine pm_i2l B dL_law_1650 ?_
  refine pm_lcmp B dL_law_1651 ?_
  refine pm_if_eq (tgt := 1657) B dL_law_1652 (by decide) (fun _ => ?_) (fun hne => absurd (pm_lcmp0 ((hV hk0).trans (by rw [e7 hk0]))) hne)
  exact pm_goto (tgt := 2623) B dL_law_1657 (by decide) fin
set_option maxHeartbeats 1000000 in
theorem pm_lw_27 {l : Launch} {z : Nat} {D : va_G} {kA : Nat → ClassId} {kE : Nat → Nat} {nm : String} {tb : List ExceptionTableEntry} {mc ms : Nat} {X : pm_X} {cu su : Nat} {Q : State → Prop} {nx : Nat} {M : pm_M} {b N i Bd Bd2 : Nat} {xs : Nat → Int32} {g : pm_Cs} {h h2 : pm_Ms} {L : Int32 × Int32 × Int32} {fo : Nat → Int64} {fd : Nat → UInt64} {R : Int32 → Int32 → pm_Cs → Int32 × Int32 × Int32 → Prop} {mv : Int32} {dW mcW msW dX : Nat} (hdW : Nat.ble (dW + 1) 2048 = true) (hmW : mcW ≤ 25) (hsW : msW ≤ 78) (hdX : Nat.ble (dX + 1) 2048 = true) (B : pm_B l z D kA kE RL code 9 ret nm tb 2048 mc ms X) (hcu : cu + 25 ≤ mc) (hsu : su + 78 ≤ ms) (hnx : 151 ≤ nx) (hT : pm_TC z kA kE M g) (hTM : pm_TM z kA M h) (h149 : M 149 = some (.inl (kA 1, 1, .inr (.inl fo)))) (h150 : M 150 = some (.inl (kA 2, 1, .inr (.inr (.inr (.inl fd))))))
    (hC : pm_C l z D kA kE yX12_winningCoalitions cX12_winningCoalitions 1 (some .int) dW mcW msW [.ref (z + 0)] nx M (pm_cl2 z kA kE nx M [] R)) (hX : pm_xm l z D kA kE yX13_winningCoalitions cX13_winningCoalitions 4 (some .int) dX [] h h2 (.int mv)) (hS : ∀ v g' L', R 0 v g' L' → v = mv ∧ pm_Rel Bd2 g' h2 L')
    (next : ∀ nx' M', nx ≤ nx' → pm_J z kA kE nx' M' Bd2 → pm_G l z D X (cu + 25) (su + 78) Q nx' M' 2623 [some (.ref b), some (.ref (z + 0)), some (.ref (z + 140)), some (.ref (z + 149)), some (.ref (z + 150)), some (.int (nI i)), none, none, none] []) : pm_G l z D X cu su Q nx M 1660 [some (.ref b), some (.ref (z + 0)), some (.ref (z + 140)), some (.ref (z + 149)), some (.ref (z + 150)), some (.int (nI i)), none, none, none] [] := by
  refine pm_aload_n B dL_law_1660 rfl ?_
  refine pm_callV (As := []) (mc2 := mcW) (ms2 := msW) (d2 := dW) B rfl hT.1 rfl hC mt_X12_winningCoalitions sv_L_242 dL_law_1661 rfl hdW rfl (Nat.ble_eq_true_of_le (by omega)) (Nat.ble_eq_true_of_le (by omega)) (fun E n' M' hp => ?_) (fun u n' M' hp => ?_)
  · obtain ⟨e, he, _⟩ := pm_clE hp
    cases he
  obtain ⟨hF, hn', g', L', hT', hL', hv⟩ := hp
  obtain ⟨v, hv, hR'⟩ : ∃ v, u = some (.int v) ∧ R 0 v g' L' := by
    rcases hv with ⟨v, hv, hR⟩ | ⟨e, he, _⟩
    · exact ⟨v, Sum.inl.inj hv, hR⟩
    · cases he
  subst hv
  obtain ⟨e7, hR2⟩ := hS v g' L' hR'
  obtain ⟨M1, hC1, hT1, hF1⟩ := hX n' M' (pm_TM_keep hTM (fun x h1 h2 => hF x h1 (by omega)))
  refine pm_stk (st' := [.int v]) rfl ?_
  refine pm_aload_n B dL_law_1664 rfl ?_
  refine pm_cV (As := []) (mc2 := 0) (ms2 := 0) B rfl ((hF _ (by decide) (by omega)).trans hTM.1) rfl hC1 mt_X13_winningCoalitions sv_L_245 dL_law_1665 rfl hdX rfl (Nat.ble_eq_true_of_le (by omega)) (Nat.ble_eq_true_of_le (by omega)) ?_
  refine pm_stk (st' := [.int mv, .int v]) rfl ?_
  refine pm_icmp_eq (tgt := 2623) B dL_law_1668 (by decide) (fun _ => ?_) (fun hne => absurd e7 hne)
  exact pm_widen (k1 := cu + 25) (n1 := su + 78) (by omega) (by omega) (next n' M1 hn' (pm_Jn (by omega) hT' hT1 hL' ((hF _ (by decide) (by omega)).trans h149) ((hF _ (by decide) (by omega)).trans h150) hR2 hF1))
theorem ss_L_246 : pm_SS RL 246 yL_swings := ⟨pm_T_in 1087 (by decide +kernel) (by decide +kernel), pm_T_in 1088 (by decide +kernel) (by decide +kernel)⟩
set_option maxHeartbeats 1000000 in
theorem pm_lw_28 {l : Launch} {z : Nat} {D : va_G} {kA : Nat → ClassId} {kE : Nat → Nat} {nm : String} {tb : List ExceptionTableEntry} {mc ms : Nat} {X : pm_X} {cu su : Nat} {Q : State → Prop} {nx : Nat} {M : pm_M} {b N i Bd Bd2 : Nat} {xs : Nat → Int32} {g : pm_Cs} {h h2 : pm_Ms} {L : Int32 × Int32 × Int32} {fo : Nat → Int64} {fd : Nat → UInt64} {R : Int32 → Int32 → pm_Cs → Int32 × Int32 × Int32 → Prop} {mv : Int32} {dW mcW msW dX : Nat} (hdW : Nat.ble (dW + 1) 2048 = true) (hmW : mcW ≤ 25) (hsW : msW ≤ 78) (hdX : Nat.ble (dX + 1) 2048 = true) (B : pm_B l z D kA kE RL code 9 ret nm tb 2048 mc ms X) (hXs : va_X b N xs X.2.2.2.1 X.2.2.2.1.heap) (hbz : b < z) (hiN : i + 4 ≤ N) (hN : N ≤ 2048) (hcu : cu + 25 ≤ mc) (hsu : su + 78 ≤ ms) (hnx : 151 ≤ nx) (hT : pm_TC z kA kE M g) (h150 : M 150 = some (.inl (kA 2, 1, .inr (.inr (.inr (.inl fd))))))
    (hW : pm_Cw l z D kA kE yL_swings cL_swings 4 (some .int) [(0, 9, 12, 21), (0, 9, 15, 36)] dW mcW msW [.ref (z + 0), .int (xs (i + 1)), .ref (z + 149)] nx M (pm_oA z kA kE nx M h (fun fo' v => fo' 0 = v.toInt64) R)) (hX : pm_xm l z D kA kE yX13_swings cX13_swings 5 (some .int) dX [.int (xs (i + 1))] h h2 (.int mv)) (hS : ∀ kc v g' L', R kc v g' L' → h2.1 6 = kc ∧ (kc = 0 → v = mv) ∧ pm_Rel Bd2 g' h2 L')
    (next : ∀ nx' M', nx ≤ nx' → pm_J z kA kE nx' M' Bd2 → pm_G l z D X (cu + 25) (su + 78) Q nx' M' 2623 [some (.ref b), some (.ref (z + 0)), some (.ref (z + 140)), some (.ref (z + 149)), some (.ref (z + 150)), some (.int (nI i)), none, none, none] []) : pm_G l z D X cu su Q nx M 1673 [some (.ref b), some (.ref (z + 0)), some (.ref (z + 140)), some (.ref (z + 149)), some (.ref (z + 150)), some (.int (nI i)), none, none, none] [] := by
  refine pm_aload_n B dL_law_1673 rfl ?_
  refine pm_aload_n B dL_law_1674 rfl ?_
  refine pm_iload B dL_law_1675 rfl ?_
  refine pm_iconst (v := 1) B dL_law_1677 (by decide) ?_
  refine pm_iadd B dL_law_1678 ?_
  refine pm_stk (st' := [.int (nI (i + 1)), .ref b, .ref (z + 0)]) (by rw [show (nI i : Int32) + 1 = nI (i + 1) from nI_add i 1]) ?_
  refine pm_sld B hXs hbz (i + 1) (by omega) (by omega) dL_law_1679 ?_
  refine pm_aload_n B dL_law_1680 rfl ?_
  refine pm_cSW (As := [.ref (z + 0), .int (xs (i + 1)), .ref (z + 149)]) (mc2 := mcW) (ms2 := msW) B hW mt_L_swings ss_L_246 dL_law_1681 rfl hdW rfl (Nat.ble_eq_true_of_le (by omega)) (Nat.ble_eq_true_of_le (by omega)) (fun E n' M' hp => (pm_oA_no hp).elim) (fun u n' M' hp => ?_)
  obtain ⟨kc, v, g', L', fo', ho, hn', hT', hL', hTM', h149', h150', hV, hR'⟩ := hp
  obtain rfl : u = some (.int kc) := Sum.inl.inj ho
  obtain ⟨e6, e7, hR2⟩ := hS kc v g' L' hR'
  obtain ⟨M1, hC1, hT1, hF1⟩ := hX n' M' hTM'
  refine pm_stk (st' := [.int kc]) rfl ?_
  refine pm_istore B dL_law_1684 rfl rfl ?_
  refine pm_loc (L' := [some (.ref b), some (.ref (z + 0)), some (.ref (z + 140)), some (.ref (z + 149)), some (.ref (z + 150)), some (.int (nI i)), some (.int kc), none, none]) rfl ?_
  refine pm_aload_n B dL_law_1686 rfl ?_
  refine pm_aload_n B dL_law_1687 rfl ?_
  refine pm_iload B dL_law_1688 rfl ?_
  refine pm_iconst (v := 1) B dL_law_1690 (by decide) ?_
  refine pm_iadd B dL_law_1691 ?_
  refine pm_stk (st' := [.int (nI (i + 1)), .ref b, .ref (z + 140)]) (by rw [show (nI i : Int32) + 1 = nI (i + 1) from nI_add i 1]) ?_
  refine pm_sld B hXs hbz (i + 1) (by omega) (by omega) dL_law_1692 ?_
  refine pm_cV (As := [.int (xs (i + 1))]) (mc2 := 0) (ms2 := 0) B rfl hTM'.1 rfl hC1 mt_X13_swings sv_L_248 dL_law_1693 rfl hdX rfl (Nat.ble_eq_true_of_le (by omega)) (Nat.ble_eq_true_of_le (by omega)) ?_
  refine pm_stk (st' := [.int mv]) rfl ?_
  refine pm_istore B dL_law_1696 rfl rfl ?_
  refine pm_loc (L' := [some (.ref b), some (.ref (z + 0)), some (.ref (z + 140)), some (.ref (z + 149)), some (.ref (z + 150)), some (.int (nI i)), some (.int kc), some (.int mv), none]) rfl ?_
  have fin : pm_G l z D X (cu + mcW + 0 + 0) (su + msW + 0 + 0) Q n' M1 2623 [some (.ref b), some (.ref (z + 0)), some (.ref (z + 140)), some (.ref (z + 149)), some (.ref (z + 150)), some (.int (nI i)), some (.int kc), some (.int mv), none] [] := pm_widen (k1 := cu + 25) (n1 := su + 78) (by omega) (by omega) (pm_wk (L' := [some (.ref b), some (.ref (z + 0)), some (.ref (z + 140)), some (.ref (z + 149)), some (.ref (z + 150)), some (.int (nI i)), none, none, none]) ⟨rfl, rfl, rfl, rfl, rfl, rfl, trivial⟩ (next n' M1 hn' (pm_Jn (by omega) hT' hT1 hL' h149' (h150'.trans h150) hR2 hF1)))
  refine pm_aload_n B dL_law_1698 rfl ?_
  refine pm_cV (As := []) (mc2 := 0) (ms2 := 0) B rfl hT1.1 rfl (c_X13_thrown hT1.1) mt_X13_thrown sv_L_154 dL_law_1699 rfl rfl rfl (Nat.ble_eq_true_of_le (by omega)) (Nat.ble_eq_true_of_le (by omega)) ?_
  refine pm_stk (st' := [.int (h2.1 6)]) rfl ?_
  refine pm_iload B dL_law_1702 rfl ?_
  refine pm_icmp_eq (tgt := 1709) B dL_law_1704 (by decide) (fun _ => ?_) (fun hne => absurd e6 hne)
  refine pm_iload B dL_law_1709 rfl ?_
  refine pm_if_ne (tgt := 1726) B dL_law_1711 (by decide) (fun _ => ?_) (fun hk0 => ?_)
  · exact pm_goto (tgt := 2623) B dL_law_1726 (by decide) fin
  refine pm_aload_n B dL_law_1714 rfl ?_
  refine pm_iconst (v := 0) B dL_law_1715 (by decide) ?_
  refine pm_lald_n B dL_law_1716 ((hF1 _ (Or.inr (by decide))).trans h149') 0 (by decide) (by decide) ?_
  refine pm_iload B dL_law_1717 rfl ?_
  refine pm_i2l B dL_law_1719 ?_
  refine pm_lcmp B dL_law_1720 ?_
  refine pm_if_eq (tgt := 1726) B dL_law_1721 (by decide) (fun _ => ?_) (fun hne => absurd (pm_lcmp0 ((hV hk0).trans (by rw [e7 hk0]))) hne)
  exact pm_goto (tgt := 2623) B dL_law_1726 (by decide) fin
theorem ss_L_249 : pm_SS RL 249 yL_swingsByCounts := ⟨pm_T_in 1102 (by decide +kernel) (by decide +kernel), pm_T_in 1103 (by decide +kernel) (by decide +kernel)⟩
set_option maxHeartbeats 1000000 in
theorem pm_lw_29 {l : Launch} {z : Nat} {D : va_G} {kA : Nat → ClassId} {kE : Nat → Nat} {nm : String} {tb : List ExceptionTableEntry} {mc ms : Nat} {X : pm_X} {cu su : Nat} {Q : State → Prop} {nx : Nat} {M : pm_M} {b N i Bd Bd2 : Nat} {xs : Nat → Int32} {g : pm_Cs} {h h2 : pm_Ms} {L : Int32 × Int32 × Int32} {fo : Nat → Int64} {fd : Nat → UInt64} {R : Int32 → Int32 → pm_Cs → Int32 × Int32 × Int32 → Prop} {mv : Int32} {dW mcW msW dX : Nat} (hdW : Nat.ble (dW + 1) 2048 = true) (hmW : mcW ≤ 25) (hsW : msW ≤ 78) (hdX : Nat.ble (dX + 1) 2048 = true) (B : pm_B l z D kA kE RL code 9 ret nm tb 2048 mc ms X) (hXs : va_X b N xs X.2.2.2.1 X.2.2.2.1.heap) (hbz : b < z) (hiN : i + 4 ≤ N) (hN : N ≤ 2048) (hcu : cu + 25 ≤ mc) (hsu : su + 78 ≤ ms) (hnx : 151 ≤ nx) (hT : pm_TC z kA kE M g) (h150 : M 150 = some (.inl (kA 2, 1, .inr (.inr (.inr (.inl fd))))))
    (hW : pm_Cw l z D kA kE yL_swingsByCounts cL_swingsByCounts 4 (some .int) [(0, 9, 12, 21), (0, 9, 15, 36)] dW mcW msW [.ref (z + 0), .int (xs (i + 1)), .ref (z + 149)] nx M (pm_oA z kA kE nx M h (fun fo' v => fo' 0 = v.toInt64) R)) (hX : pm_xm l z D kA kE yX13_swingsByCounts cX13_swingsByCounts 2 (some .int) dX [.int (xs (i + 1))] h h2 (.int mv)) (hS : ∀ kc v g' L', R kc v g' L' → h2.1 6 = kc ∧ (kc = 0 → v = mv) ∧ pm_Rel Bd2 g' h2 L')
    (next : ∀ nx' M', nx ≤ nx' → pm_J z kA kE nx' M' Bd2 → pm_G l z D X (cu + 25) (su + 78) Q nx' M' 2623 [some (.ref b), some (.ref (z + 0)), some (.ref (z + 140)), some (.ref (z + 149)), some (.ref (z + 150)), some (.int (nI i)), none, none, none] []) : pm_G l z D X cu su Q nx M 1729 [some (.ref b), some (.ref (z + 0)), some (.ref (z + 140)), some (.ref (z + 149)), some (.ref (z + 150)), some (.int (nI i)), none, none, none] [] := by
  refine pm_aload_n B dL_law_1729 rfl ?_
  refine pm_aload_n B dL_law_1730 rfl ?_
  refine pm_iload B dL_law_1731 rfl ?_
  refine pm_iconst (v := 1) B dL_law_1733 (by decide) ?_
  refine pm_iadd B dL_law_1734 ?_
  refine pm_stk (st' := [.int (nI (i + 1)), .ref b, .ref (z + 0)]) (by rw [show (nI i : Int32) + 1 = nI (i + 1) from nI_add i 1]) ?_
  refine pm_sld B hXs hbz (i + 1) (by omega) (by omega) dL_law_1735 ?_
  refine pm_aload_n B dL_law_1736 rfl ?_
  refine pm_cSW (As := [.ref (z + 0), .int (xs (i + 1)), .ref (z + 149)]) (mc2 := mcW) (ms2 := msW) B hW mt_L_swingsByCounts ss_L_249 dL_law_1737 rfl hdW rfl (Nat.ble_eq_true_of_le (by omega)) (Nat.ble_eq_true_of_le (by omega)) (fun E n' M' hp => (pm_oA_no hp).elim) (fun u n' M' hp => ?_)
  obtain ⟨kc, v, g', L', fo', ho, hn', hT', hL', hTM', h149', h150', hV, hR'⟩ := hp
  obtain rfl : u = some (.int kc) := Sum.inl.inj ho
  obtain ⟨e6, e7, hR2⟩ := hS kc v g' L' hR'
  obtain ⟨M1, hC1, hT1, hF1⟩ := hX n' M' hTM'
  refine pm_stk (st' := [.int kc]) rfl ?_
  refine pm_istore B dL_law_1740 rfl rfl ?_
  refine pm_loc (L' := [some (.ref b), some (.ref (z + 0)), some (.ref (z + 140)), some (.ref (z + 149)), some (.ref (z + 150)), some (.int (nI i)), some (.int kc), none, none]) rfl ?_
  refine pm_aload_n B dL_law_1742 rfl ?_
  refine pm_aload_n B dL_law_1743 rfl ?_
  refine pm_iload B dL_law_1744 rfl ?_
  refine pm_iconst (v := 1) B dL_law_1746 (by decide) ?_
  refine pm_iadd B dL_law_1747 ?_
  refine pm_stk (st' := [.int (nI (i + 1)), .ref b, .ref (z + 140)]) (by rw [show (nI i : Int32) + 1 = nI (i + 1) from nI_add i 1]) ?_
  refine pm_sld B hXs hbz (i + 1) (by omega) (by omega) dL_law_1748 ?_
  refine pm_cV (As := [.int (xs (i + 1))]) (mc2 := 0) (ms2 := 0) B rfl hTM'.1 rfl hC1 mt_X13_swingsByCounts sv_L_251 dL_law_1749 rfl hdX rfl (Nat.ble_eq_true_of_le (by omega)) (Nat.ble_eq_true_of_le (by omega)) ?_
  refine pm_stk (st' := [.int mv]) rfl ?_
  refine pm_istore B dL_law_1752 rfl rfl ?_
  refine pm_loc (L' := [some (.ref b), some (.ref (z + 0)), some (.ref (z + 140)), some (.ref (z + 149)), some (.ref (z + 150)), some (.int (nI i)), some (.int kc), some (.int mv), none]) rfl ?_
  have fin : pm_G l z D X (cu + mcW + 0 + 0) (su + msW + 0 + 0) Q n' M1 2623 [some (.ref b), some (.ref (z + 0)), some (.ref (z + 140)), some (.ref (z + 149)), some (.ref (z + 150)), some (.int (nI i)), some (.int kc), some (.int mv), none] [] := pm_widen (k1 := cu + 25) (n1 := su + 78) (by omega) (by omega) (pm_wk (L' := [some (.ref b), some (.ref (z + 0)), some (.ref (z + 140)), some (.ref (z + 149)), some (.ref (z + 150)), some (.int (nI i)), none, none, none]) ⟨rfl, rfl, rfl, rfl, rfl, rfl, trivial⟩ (next n' M1 hn' (pm_Jn (by omega) hT' hT1 hL' h149' (h150'.trans h150) hR2 hF1)))
  refine pm_aload_n B dL_law_1754 rfl ?_
  refine pm_cV (As := []) (mc2 := 0) (ms2 := 0) B rfl hT1.1 rfl (c_X13_thrown hT1.1) mt_X13_thrown sv_L_154 dL_law_1755 rfl rfl rfl (Nat.ble_eq_true_of_le (by omega)) (Nat.ble_eq_true_of_le (by omega)) ?_
  refine pm_stk (st' := [.int (h2.1 6)]) rfl ?_
  refine pm_iload B dL_law_1758 rfl ?_
  refine pm_icmp_eq (tgt := 1765) B dL_law_1760 (by decide) (fun _ => ?_) (fun hne => absurd e6 hne)
  refine pm_iload B dL_law_1765 rfl ?_
  refine pm_if_ne (tgt := 1782) B dL_law_1767 (by decide) (fun _ => ?_) (fun hk0 => ?_)
  · exact pm_goto (tgt := 2623) B dL_law_1782 (by decide) fin
  refine pm_aload_n B dL_law_1770 rfl ?_
  refine pm_iconst (v := 0) B dL_law_1771 (by decide) ?_
  refine pm_lald_n B dL_law_1772 ((hF1 _ (Or.inr (by decide))).trans h149') 0 (by decide) (by decide) ?_
  refine pm_iload B dL_law_1773 rfl ?_
  refine pm_i2l B dL_law_1775 ?_
  refine pm_lcmp B dL_law_1776 ?_
  refine pm_if_eq (tgt := 1782) B dL_law_1777 (by decide) (fun _ => ?_) (fun hne => absurd (pm_lcmp0 ((hV hk0).trans (by rw [e7 hk0]))) hne)
  exact pm_goto (tgt := 2623) B dL_law_1782 (by decide) fin
set_option maxHeartbeats 1000000 in
theorem pm_lw_30 {l : Launch} {z : Nat} {D : va_G} {kA : Nat → ClassId} {kE : Nat → Nat} {nm : String} {tb : List ExceptionTableEntry} {mc ms : Nat} {X : pm_X} {cu su : Nat} {Q : State → Prop} {nx : Nat} {M : pm_M} {b N i Bd Bd2 : Nat} {xs : Nat → Int32} {g : pm_Cs} {h h2 : pm_Ms} {L : Int32 × Int32 × Int32} {fo : Nat → Int64} {fd : Nat → UInt64} {R : Int32 → Int32 → pm_Cs → Int32 × Int32 × Int32 → Prop} {mv : Int32} {dW mcW msW dX : Nat} (hdW : Nat.ble (dW + 1) 2048 = true) (hmW : mcW ≤ 25) (hsW : msW ≤ 78) (hdX : Nat.ble (dX + 1) 2048 = true) (B : pm_B l z D kA kE RL code 9 ret nm tb 2048 mc ms X) (hcu : cu + 25 ≤ mc) (hsu : su + 78 ≤ ms) (hnx : 151 ≤ nx) (hT : pm_TC z kA kE M g) (hTM : pm_TM z kA M h) (h149 : M 149 = some (.inl (kA 1, 1, .inr (.inl fo)))) (h150 : M 150 = some (.inl (kA 2, 1, .inr (.inr (.inr (.inl fd))))))
    (hC : pm_C l z D kA kE yX12_leastDifference cX12_leastDifference 1 (some .int) dW mcW msW [.ref (z + 0)] nx M (pm_cl2 z kA kE nx M [] R)) (hX : pm_xm l z D kA kE yX13_leastDifference cX13_leastDifference 6 (some .int) dX [] h h2 (.int mv)) (hS : ∀ v g' L', R 0 v g' L' → v = mv ∧ pm_Rel Bd2 g' h2 L')
    (next : ∀ nx' M', nx ≤ nx' → pm_J z kA kE nx' M' Bd2 → pm_G l z D X (cu + 25) (su + 78) Q nx' M' 2623 [some (.ref b), some (.ref (z + 0)), some (.ref (z + 140)), some (.ref (z + 149)), some (.ref (z + 150)), some (.int (nI i)), none, none, none] []) : pm_G l z D X cu su Q nx M 1785 [some (.ref b), some (.ref (z + 0)), some (.ref (z + 140)), some (.ref (z + 149)), some (.ref (z + 150)), some (.int (nI i)), none, none, none] [] := by
  refine pm_aload_n B dL_law_1785 rfl ?_
  refine pm_callV (As := []) (mc2 := mcW) (ms2 := msW) (d2 := dW) B rfl hT.1 rfl hC mt_X12_leastDifference sv_L_252 dL_law_1786 rfl hdW rfl (Nat.ble_eq_true_of_le (by omega)) (Nat.ble_eq_true_of_le (by omega)) (fun E n' M' hp => ?_) (fun u n' M' hp => ?_)
  · obtain ⟨e, he, _⟩ := pm_clE hp
    cases he
  obtain ⟨hF, hn', g', L', hT', hL', hv⟩ := hp
  obtain ⟨v, hv, hR'⟩ : ∃ v, u = some (.int v) ∧ R 0 v g' L' := by
    rcases hv with ⟨v, hv, hR⟩ | ⟨e, he, _⟩
    · exact ⟨v, Sum.inl.inj hv, hR⟩
    · cases he
  subst hv
  obtain ⟨e7, hR2⟩ := hS v g' L' hR'
  obtain ⟨M1, hC1, hT1, hF1⟩ := hX n' M' (pm_TM_keep hTM (fun x h1 h2 => hF x h1 (by omega)))
  refine pm_stk (st' := [.int v]) rfl ?_
  refine pm_aload_n B dL_law_1789 rfl ?_
  refine pm_cV (As := []) (mc2 := 0) (ms2 := 0) B rfl ((hF _ (by decide) (by omega)).trans hTM.1) rfl hC1 mt_X13_leastDifference sv_L_255 dL_law_1790 rfl hdX rfl (Nat.ble_eq_true_of_le (by omega)) (Nat.ble_eq_true_of_le (by omega)) ?_
  refine pm_stk (st' := [.int mv, .int v]) rfl ?_
  refine pm_icmp_eq (tgt := 2623) B dL_law_1793 (by decide) (fun _ => ?_) (fun hne => absurd e7 hne)
  exact pm_widen (k1 := cu + 25) (n1 := su + 78) (by omega) (by omega) (next n' M1 hn' (pm_Jn (by omega) hT' hT1 hL' ((hF _ (by decide) (by omega)).trans h149) ((hF _ (by decide) (by omega)).trans h150) hR2 hF1))
set_option maxHeartbeats 1000000 in
theorem pm_lw_31 {l : Launch} {z : Nat} {D : va_G} {kA : Nat → ClassId} {kE : Nat → Nat} {nm : String} {tb : List ExceptionTableEntry} {mc ms : Nat} {X : pm_X} {cu su : Nat} {Q : State → Prop} {nx : Nat} {M : pm_M} {b N i Bd Bd2 : Nat} {xs : Nat → Int32} {g : pm_Cs} {h h2 : pm_Ms} {L : Int32 × Int32 × Int32} {fo : Nat → Int64} {fd : Nat → UInt64} {R : Int32 → Int32 → pm_Cs → Int32 × Int32 × Int32 → Prop} {mv : Int32} {dW mcW msW dX : Nat} (hdW : Nat.ble (dW + 1) 2048 = true) (hmW : mcW ≤ 25) (hsW : msW ≤ 78) (hdX : Nat.ble (dX + 1) 2048 = true) (B : pm_B l z D kA kE RL code 9 ret nm tb 2048 mc ms X) (hcu : cu + 25 ≤ mc) (hsu : su + 78 ≤ ms) (hnx : 151 ≤ nx) (hT : pm_TC z kA kE M g) (hTM : pm_TM z kA M h) (h149 : M 149 = some (.inl (kA 1, 1, .inr (.inl fo)))) (h150 : M 150 = some (.inl (kA 2, 1, .inr (.inr (.inr (.inl fd))))))
    (hC : pm_C l z D kA kE yX12_leastDifferenceBySums cX12_leastDifferenceBySums 1 (some .int) dW mcW msW [.ref (z + 0)] nx M (pm_cl2 z kA kE nx M [] R)) (hX : pm_xm l z D kA kE yX13_leastDifferenceBySums cX13_leastDifferenceBySums 1 (some .int) dX [] h h2 (.int mv)) (hS : ∀ v g' L', R 0 v g' L' → v = mv ∧ pm_Rel Bd2 g' h2 L')
    (next : ∀ nx' M', nx ≤ nx' → pm_J z kA kE nx' M' Bd2 → pm_G l z D X (cu + 25) (su + 78) Q nx' M' 2623 [some (.ref b), some (.ref (z + 0)), some (.ref (z + 140)), some (.ref (z + 149)), some (.ref (z + 150)), some (.int (nI i)), none, none, none] []) : pm_G l z D X cu su Q nx M 1798 [some (.ref b), some (.ref (z + 0)), some (.ref (z + 140)), some (.ref (z + 149)), some (.ref (z + 150)), some (.int (nI i)), none, none, none] [] := by
  refine pm_aload_n B dL_law_1798 rfl ?_
  refine pm_callV (As := []) (mc2 := mcW) (ms2 := msW) (d2 := dW) B rfl hT.1 rfl hC mt_X12_leastDifferenceBySums sv_L_256 dL_law_1799 rfl hdW rfl (Nat.ble_eq_true_of_le (by omega)) (Nat.ble_eq_true_of_le (by omega)) (fun E n' M' hp => ?_) (fun u n' M' hp => ?_)
  · obtain ⟨e, he, _⟩ := pm_clE hp
    cases he
  obtain ⟨hF, hn', g', L', hT', hL', hv⟩ := hp
  obtain ⟨v, hv, hR'⟩ : ∃ v, u = some (.int v) ∧ R 0 v g' L' := by
    rcases hv with ⟨v, hv, hR⟩ | ⟨e, he, _⟩
    · exact ⟨v, Sum.inl.inj hv, hR⟩
    · cases he
  subst hv
  obtain ⟨e7, hR2⟩ := hS v g' L' hR'
  obtain ⟨M1, hC1, hT1, hF1⟩ := hX n' M' (pm_TM_keep hTM (fun x h1 h2 => hF x h1 (by omega)))
  refine pm_stk (st' := [.int v]) rfl ?_
  refine pm_aload_n B dL_law_1802 rfl ?_
  refine pm_cV (As := []) (mc2 := 0) (ms2 := 0) B rfl ((hF _ (by decide) (by omega)).trans hTM.1) rfl hC1 mt_X13_leastDifferenceBySums sv_L_259 dL_law_1803 rfl hdX rfl (Nat.ble_eq_true_of_le (by omega)) (Nat.ble_eq_true_of_le (by omega)) ?_
  refine pm_stk (st' := [.int mv, .int v]) rfl ?_
  refine pm_icmp_eq (tgt := 2623) B dL_law_1806 (by decide) (fun _ => ?_) (fun hne => absurd e7 hne)
  exact pm_widen (k1 := cu + 25) (n1 := su + 78) (by omega) (by omega) (next n' M1 hn' (pm_Jn (by omega) hT' hT1 hL' ((hF _ (by decide) (by omega)).trans h149) ((hF _ (by decide) (by omega)).trans h150) hR2 hF1))
theorem ss_L_260 : pm_SS RL 260 yL_share := ⟨pm_T_in 1113 (by decide +kernel) (by decide +kernel), pm_T_in 1114 (by decide +kernel) (by decide +kernel)⟩
set_option maxHeartbeats 1000000 in
theorem pm_lw_32 {l : Launch} {z : Nat} {D : va_G} {kA : Nat → ClassId} {kE : Nat → Nat} {nm : String} {tb : List ExceptionTableEntry} {mc ms : Nat} {X : pm_X} {cu su : Nat} {Q : State → Prop} {nx : Nat} {M : pm_M} {b N i Bd Bd2 : Nat} {xs : Nat → Int32} {g : pm_Cs} {h h2 : pm_Ms} {L : Int32 × Int32 × Int32} {fo : Nat → Int64} {fd : Nat → UInt64} {R : Int32 → Int32 → pm_Cs → Int32 × Int32 × Int32 → Prop} {mv : Int32} {dW mcW msW dX : Nat} (hdW : Nat.ble (dW + 1) 2048 = true) (hmW : mcW ≤ 25) (hsW : msW ≤ 78) (hdX : Nat.ble (dX + 1) 2048 = true) (B : pm_B l z D kA kE RL code 9 ret nm tb 2048 mc ms X) (hXs : va_X b N xs X.2.2.2.1 X.2.2.2.1.heap) (hbz : b < z) (hiN : i + 4 ≤ N) (hN : N ≤ 2048) (hcu : cu + 25 ≤ mc) (hsu : su + 78 ≤ ms) (hnx : 151 ≤ nx) (hT : pm_TC z kA kE M g) (h150 : M 150 = some (.inl (kA 2, 1, .inr (.inr (.inr (.inl fd))))))
    (hW : pm_Cw l z D kA kE yL_share cL_share 4 (some .int) [(0, 9, 12, 21)] dW mcW msW [.ref (z + 0), .int (xs (i + 1)), .ref (z + 149)] nx M (pm_oA z kA kE nx M h (fun fo' v => fo' 0 = v.toInt64) R)) (hX : pm_xm l z D kA kE yX13_share cX13_share 7 (some .int) dX [.int (xs (i + 1))] h h2 (.int mv)) (hS : ∀ kc v g' L', R kc v g' L' → h2.1 6 = kc ∧ (kc = 0 → v = mv) ∧ pm_Rel Bd2 g' h2 L')
    (next : ∀ nx' M', nx ≤ nx' → pm_J z kA kE nx' M' Bd2 → pm_G l z D X (cu + 25) (su + 78) Q nx' M' 2623 [some (.ref b), some (.ref (z + 0)), some (.ref (z + 140)), some (.ref (z + 149)), some (.ref (z + 150)), some (.int (nI i)), none, none, none] []) : pm_G l z D X cu su Q nx M 1811 [some (.ref b), some (.ref (z + 0)), some (.ref (z + 140)), some (.ref (z + 149)), some (.ref (z + 150)), some (.int (nI i)), none, none, none] [] := by
  refine pm_aload_n B dL_law_1811 rfl ?_
  refine pm_aload_n B dL_law_1812 rfl ?_
  refine pm_iload B dL_law_1813 rfl ?_
  refine pm_iconst (v := 1) B dL_law_1815 (by decide) ?_
  refine pm_iadd B dL_law_1816 ?_
  refine pm_stk (st' := [.int (nI (i + 1)), .ref b, .ref (z + 0)]) (by rw [show (nI i : Int32) + 1 = nI (i + 1) from nI_add i 1]) ?_
  refine pm_sld B hXs hbz (i + 1) (by omega) (by omega) dL_law_1817 ?_
  refine pm_aload_n B dL_law_1818 rfl ?_
  refine pm_cSW (As := [.ref (z + 0), .int (xs (i + 1)), .ref (z + 149)]) (mc2 := mcW) (ms2 := msW) B hW mt_L_share ss_L_260 dL_law_1819 rfl hdW rfl (Nat.ble_eq_true_of_le (by omega)) (Nat.ble_eq_true_of_le (by omega)) (fun E n' M' hp => (pm_oA_no hp).elim) (fun u n' M' hp => ?_)
  obtain ⟨kc, v, g', L', fo', ho, hn', hT', hL', hTM', h149', h150', hV, hR'⟩ := hp
  obtain rfl : u = some (.int kc) := Sum.inl.inj ho
  obtain ⟨e6, e7, hR2⟩ := hS kc v g' L' hR'
  obtain ⟨M1, hC1, hT1, hF1⟩ := hX n' M' hTM'
  refine pm_stk (st' := [.int kc]) rfl ?_
  refine pm_istore B dL_law_1822 rfl rfl ?_
  refine pm_loc (L' := [some (.ref b), some (.ref (z + 0)), some (.ref (z + 140)), some (.ref (z + 149)), some (.ref (z + 150)), some (.int (nI i)), some (.int kc), none, none]) rfl ?_
  refine pm_aload_n B dL_law_1824 rfl ?_
  refine pm_aload_n B dL_law_1825 rfl ?_
  refine pm_iload B dL_law_1826 rfl ?_
  refine pm_iconst (v := 1) B dL_law_1828 (by decide) ?_
  refine pm_iadd B dL_law_1829 ?_
  refine pm_stk (st' := [.int (nI (i + 1)), .ref b, .ref (z + 140)]) (by rw [show (nI i : Int32) + 1 = nI (i + 1) from nI_add i 1]) ?_
  refine pm_sld B hXs hbz (i + 1) (by omega) (by omega) dL_law_1830 ?_
  refine pm_cV (As := [.int (xs (i + 1))]) (mc2 := 0) (ms2 := 0) B rfl hTM'.1 rfl hC1 mt_X13_share sv_L_262 dL_law_1831 rfl hdX rfl (Nat.ble_eq_true_of_le (by omega)) (Nat.ble_eq_true_of_le (by omega)) ?_
  refine pm_stk (st' := [.int mv]) rfl ?_
  refine pm_istore B dL_law_1834 rfl rfl ?_
  refine pm_loc (L' := [some (.ref b), some (.ref (z + 0)), some (.ref (z + 140)), some (.ref (z + 149)), some (.ref (z + 150)), some (.int (nI i)), some (.int kc), some (.int mv), none]) rfl ?_
  have fin : pm_G l z D X (cu + mcW + 0 + 0) (su + msW + 0 + 0) Q n' M1 2623 [some (.ref b), some (.ref (z + 0)), some (.ref (z + 140)), some (.ref (z + 149)), some (.ref (z + 150)), some (.int (nI i)), some (.int kc), some (.int mv), none] [] := pm_widen (k1 := cu + 25) (n1 := su + 78) (by omega) (by omega) (pm_wk (L' := [some (.ref b), some (.ref (z + 0)), some (.ref (z + 140)), some (.ref (z + 149)), some (.ref (z + 150)), some (.int (nI i)), none, none, none]) ⟨rfl, rfl, rfl, rfl, rfl, rfl, trivial⟩ (next n' M1 hn' (pm_Jn (by omega) hT' hT1 hL' h149' (h150'.trans h150) hR2 hF1)))
  refine pm_aload_n B dL_law_1836 rfl ?_
  refine pm_cV (As := []) (mc2 := 0) (ms2 := 0) B rfl hT1.1 rfl (c_X13_thrown hT1.1) mt_X13_thrown sv_L_154 dL_law_1837 rfl rfl rfl (Nat.ble_eq_true_of_le (by omega)) (Nat.ble_eq_true_of_le (by omega)) ?_
  refine pm_stk (st' := [.int (h2.1 6)]) rfl ?_
  refine pm_iload B dL_law_1840 rfl ?_
  refine pm_icmp_eq (tgt := 1847) B dL_law_1842 (by decide) (fun _ => ?_) (fun hne => absurd e6 hne)
  refine pm_iload B dL_law_1847 rfl ?_
  refine pm_if_ne (tgt := 1864) B dL_law_1849 (by decide) (fun _ => ?_) (fun hk0 => ?_)
  · exact pm_goto (tgt := 2623) B dL_law_1864 (by decide) fin
  refine pm_aload_n B dL_law_1852 rfl ?_
  refine pm_iconst (v := 0) B dL_law_1853 (by decide) ?_
  refine pm_lald_n B dL_law_1854 ((hF1 _ (Or.inr (by decide))).trans h149') 0 (by decide) (by decide) ?_
  refine pm_iload B dL_law_1855 rfl ?_
  refine pm_i2l B dL_law_1857 ?_
  refine pm_lcmp B dL_law_1858 ?_
  refine pm_if_eq (tgt := 1864) B dL_law_1859 (by decide) (fun _ => ?_) (fun hne => absurd (pm_lcmp0 ((hV hk0).trans (by rw [e7 hk0]))) hne)
  exact pm_goto (tgt := 2623) B dL_law_1864 (by decide) fin
theorem ss_L_263 : pm_SS RL 263 yL_shareBySteps := ⟨pm_T_in 1133 (by decide +kernel) (by decide +kernel), pm_T_in 1134 (by decide +kernel) (by decide +kernel)⟩
set_option maxHeartbeats 1000000 in
theorem pm_lw_33 {l : Launch} {z : Nat} {D : va_G} {kA : Nat → ClassId} {kE : Nat → Nat} {nm : String} {tb : List ExceptionTableEntry} {mc ms : Nat} {X : pm_X} {cu su : Nat} {Q : State → Prop} {nx : Nat} {M : pm_M} {b N i Bd Bd2 : Nat} {xs : Nat → Int32} {g : pm_Cs} {h h2 : pm_Ms} {L : Int32 × Int32 × Int32} {fo : Nat → Int64} {fd : Nat → UInt64} {R : Int32 → Int32 → pm_Cs → Int32 × Int32 × Int32 → Prop} {mv : Int32} {dW mcW msW dX : Nat} (hdW : Nat.ble (dW + 1) 2048 = true) (hmW : mcW ≤ 25) (hsW : msW ≤ 78) (hdX : Nat.ble (dX + 1) 2048 = true) (B : pm_B l z D kA kE RL code 9 ret nm tb 2048 mc ms X) (hXs : va_X b N xs X.2.2.2.1 X.2.2.2.1.heap) (hbz : b < z) (hiN : i + 4 ≤ N) (hN : N ≤ 2048) (hcu : cu + 25 ≤ mc) (hsu : su + 78 ≤ ms) (hnx : 151 ≤ nx) (hT : pm_TC z kA kE M g) (h150 : M 150 = some (.inl (kA 2, 1, .inr (.inr (.inr (.inl fd))))))
    (hW : pm_Cw l z D kA kE yL_shareBySteps cL_shareBySteps 4 (some .int) [(0, 9, 12, 21)] dW mcW msW [.ref (z + 0), .int (xs (i + 1)), .ref (z + 149)] nx M (pm_oA z kA kE nx M h (fun fo' v => fo' 0 = v.toInt64) R)) (hX : pm_xm l z D kA kE yX13_shareBySteps cX13_shareBySteps 2 (some .int) dX [.int (xs (i + 1))] h h2 (.int mv)) (hS : ∀ kc v g' L', R kc v g' L' → h2.1 6 = kc ∧ (kc = 0 → v = mv) ∧ pm_Rel Bd2 g' h2 L')
    (next : ∀ nx' M', nx ≤ nx' → pm_J z kA kE nx' M' Bd2 → pm_G l z D X (cu + 25) (su + 78) Q nx' M' 2623 [some (.ref b), some (.ref (z + 0)), some (.ref (z + 140)), some (.ref (z + 149)), some (.ref (z + 150)), some (.int (nI i)), none, none, none] []) : pm_G l z D X cu su Q nx M 1867 [some (.ref b), some (.ref (z + 0)), some (.ref (z + 140)), some (.ref (z + 149)), some (.ref (z + 150)), some (.int (nI i)), none, none, none] [] := by
  refine pm_aload_n B dL_law_1867 rfl ?_
  refine pm_aload_n B dL_law_1868 rfl ?_
  refine pm_iload B dL_law_1869 rfl ?_
  refine pm_iconst (v := 1) B dL_law_1871 (by decide) ?_
  refine pm_iadd B dL_law_1872 ?_
  refine pm_stk (st' := [.int (nI (i + 1)), .ref b, .ref (z + 0)]) (by rw [show (nI i : Int32) + 1 = nI (i + 1) from nI_add i 1]) ?_
  refine pm_sld B hXs hbz (i + 1) (by omega) (by omega) dL_law_1873 ?_
  refine pm_aload_n B dL_law_1874 rfl ?_
  refine pm_cSW (As := [.ref (z + 0), .int (xs (i + 1)), .ref (z + 149)]) (mc2 := mcW) (ms2 := msW) B hW mt_L_shareBySteps ss_L_263 dL_law_1875 rfl hdW rfl (Nat.ble_eq_true_of_le (by omega)) (Nat.ble_eq_true_of_le (by omega)) (fun E n' M' hp => (pm_oA_no hp).elim) (fun u n' M' hp => ?_)
  obtain ⟨kc, v, g', L', fo', ho, hn', hT', hL', hTM', h149', h150', hV, hR'⟩ := hp
  obtain rfl : u = some (.int kc) := Sum.inl.inj ho
  obtain ⟨e6, e7, hR2⟩ := hS kc v g' L' hR'
  obtain ⟨M1, hC1, hT1, hF1⟩ := hX n' M' hTM'
  refine pm_stk (st' := [.int kc]) rfl ?_
  refine pm_istore B dL_law_1878 rfl rfl ?_
  refine pm_loc (L' := [some (.ref b), some (.ref (z + 0)), some (.ref (z + 140)), some (.ref (z + 149)), some (.ref (z + 150)), some (.int (nI i)), some (.int kc), none, none]) rfl ?_
  refine pm_aload_n B dL_law_1880 rfl ?_
  refine pm_aload_n B dL_law_1881 rfl ?_
  refine pm_iload B dL_law_1882 rfl ?_
  refine pm_iconst (v := 1) B dL_law_1884 (by decide) ?_
  refine pm_iadd B dL_law_1885 ?_
  refine pm_stk (st' := [.int (nI (i + 1)), .ref b, .ref (z + 140)]) (by rw [show (nI i : Int32) + 1 = nI (i + 1) from nI_add i 1]) ?_
  refine pm_sld B hXs hbz (i + 1) (by omega) (by omega) dL_law_1886 ?_
  refine pm_cV (As := [.int (xs (i + 1))]) (mc2 := 0) (ms2 := 0) B rfl hTM'.1 rfl hC1 mt_X13_shareBySteps sv_L_265 dL_law_1887 rfl hdX rfl (Nat.ble_eq_true_of_le (by omega)) (Nat.ble_eq_true_of_le (by omega)) ?_
  refine pm_stk (st' := [.int mv]) rfl ?_
  refine pm_istore B dL_law_1890 rfl rfl ?_
  refine pm_loc (L' := [some (.ref b), some (.ref (z + 0)), some (.ref (z + 140)), some (.ref (z + 149)), some (.ref (z + 150)), some (.int (nI i)), some (.int kc), some (.int mv), none]) rfl ?_
  have fin : pm_G l z D X (cu + mcW + 0 + 0) (su + msW + 0 + 0) Q n' M1 2623 [some (.ref b), some (.ref (z + 0)), some (.ref (z + 140)), some (.ref (z + 149)), some (.ref (z + 150)), some (.int (nI i)), some (.int kc), some (.int mv), none] [] := pm_widen (k1 := cu + 25) (n1 := su + 78) (by omega) (by omega) (pm_wk (L' := [some (.ref b), some (.ref (z + 0)), some (.ref (z + 140)), some (.ref (z + 149)), some (.ref (z + 150)), some (.int (nI i)), none, none, none]) ⟨rfl, rfl, rfl, rfl, rfl, rfl, trivial⟩ (next n' M1 hn' (pm_Jn (by omega) hT' hT1 hL' h149' (h150'.trans h150) hR2 hF1)))
  refine pm_aload_n B dL_law_1892 rfl ?_
  refine pm_cV (As := []) (mc2 := 0) (ms2 := 0) B rfl hT1.1 rfl (c_X13_thrown hT1.1) mt_X13_thrown sv_L_154 dL_law_1893 rfl rfl rfl (Nat.ble_eq_true_of_le (by omega)) (Nat.ble_eq_true_of_le (by omega)) ?_
  refine pm_stk (st' := [.int (h2.1 6)]) rfl ?_
  refine pm_iload B dL_law_1896 rfl ?_
  refine pm_icmp_eq (tgt := 1903) B dL_law_1898 (by decide) (fun _ => ?_) (fun hne => absurd e6 hne)
  refine pm_iload B dL_law_1903 rfl ?_
  refine pm_if_ne (tgt := 1920) B dL_law_1905 (by decide) (fun _ => ?_) (fun hk0 => ?_)
  · exact pm_goto (tgt := 2623) B dL_law_1920 (by decide) fin
  refine pm_aload_n B dL_law_1908 rfl ?_
  refine pm_iconst (v := 0) B dL_law_1909 (by decide) ?_
  refine pm_lald_n B dL_law_1910 ((hF1 _ (Or.inr (by decide))).trans h149') 0 (by decide) (by decide) ?_
  refine pm_iload B dL_law_1911 rfl ?_
  refine pm_i2l B dL_law_1913 ?_
  refine pm_lcmp B dL_law_1914 ?_
  refine pm_if_eq (tgt := 1920) B dL_law_1915 (by decide) (fun _ => ?_) (fun hne => absurd (pm_lcmp0 ((hV hk0).trans (by rw [e7 hk0]))) hne)
  exact pm_goto (tgt := 2623) B dL_law_1920 (by decide) fin
set_option maxHeartbeats 1000000 in
theorem pm_lw_34 {l : Launch} {z : Nat} {D : va_G} {kA : Nat → ClassId} {kE : Nat → Nat} {nm : String} {tb : List ExceptionTableEntry} {mc ms : Nat} {X : pm_X} {cu su : Nat} {Q : State → Prop} {nx : Nat} {M : pm_M} {b N i Bd Bd2 : Nat} {xs : Nat → Int32} {g : pm_Cs} {h h2 : pm_Ms} {L : Int32 × Int32 × Int32} {fo : Nat → Int64} {fd : Nat → UInt64} {R : Int32 → Int32 → pm_Cs → Int32 × Int32 × Int32 → Prop} {mv : Int32} {dW mcW msW dX : Nat} (hdW : Nat.ble (dW + 1) 2048 = true) (hmW : mcW ≤ 25) (hsW : msW ≤ 78) (hdX : Nat.ble (dX + 1) 2048 = true) (B : pm_B l z D kA kE RL code 9 ret nm tb 2048 mc ms X) (hcu : cu + 25 ≤ mc) (hsu : su + 78 ≤ ms) (hnx : 151 ≤ nx) (hT : pm_TC z kA kE M g) (hTM : pm_TM z kA M h) (h149 : M 149 = some (.inl (kA 1, 1, .inr (.inl fo)))) (h150 : M 150 = some (.inl (kA 2, 1, .inr (.inr (.inr (.inl fd))))))
    (hC : pm_C l z D kA kE yX12_month cX12_month 1 (some .int) dW mcW msW [.ref (z + 0)] nx M (pm_cl2 z kA kE nx M [] R)) (hX : pm_xm l z D kA kE yX13_month cX13_month 1 (some .int) dX [] h h2 (.int mv)) (hS : ∀ v g' L', R 0 v g' L' → v = mv ∧ pm_Rel Bd2 g' h2 L')
    (next : ∀ nx' M', nx ≤ nx' → pm_J z kA kE nx' M' Bd2 → pm_G l z D X (cu + 25) (su + 78) Q nx' M' 2623 [some (.ref b), some (.ref (z + 0)), some (.ref (z + 140)), some (.ref (z + 149)), some (.ref (z + 150)), some (.int (nI i)), none, none, none] []) : pm_G l z D X cu su Q nx M 1923 [some (.ref b), some (.ref (z + 0)), some (.ref (z + 140)), some (.ref (z + 149)), some (.ref (z + 150)), some (.int (nI i)), none, none, none] [] := by
  refine pm_aload_n B dL_law_1923 rfl ?_
  refine pm_callV (As := []) (mc2 := mcW) (ms2 := msW) (d2 := dW) B rfl hT.1 rfl hC mt_X12_month sv_L_266 dL_law_1924 rfl hdW rfl (Nat.ble_eq_true_of_le (by omega)) (Nat.ble_eq_true_of_le (by omega)) (fun E n' M' hp => ?_) (fun u n' M' hp => ?_)
  · obtain ⟨e, he, _⟩ := pm_clE hp
    cases he
  obtain ⟨hF, hn', g', L', hT', hL', hv⟩ := hp
  obtain ⟨v, hv, hR'⟩ : ∃ v, u = some (.int v) ∧ R 0 v g' L' := by
    rcases hv with ⟨v, hv, hR⟩ | ⟨e, he, _⟩
    · exact ⟨v, Sum.inl.inj hv, hR⟩
    · cases he
  subst hv
  obtain ⟨e7, hR2⟩ := hS v g' L' hR'
  obtain ⟨M1, hC1, hT1, hF1⟩ := hX n' M' (pm_TM_keep hTM (fun x h1 h2 => hF x h1 (by omega)))
  refine pm_stk (st' := [.int v]) rfl ?_
  refine pm_aload_n B dL_law_1927 rfl ?_
  refine pm_cV (As := []) (mc2 := 0) (ms2 := 0) B rfl ((hF _ (by decide) (by omega)).trans hTM.1) rfl hC1 mt_X13_month sv_L_269 dL_law_1928 rfl hdX rfl (Nat.ble_eq_true_of_le (by omega)) (Nat.ble_eq_true_of_le (by omega)) ?_
  refine pm_stk (st' := [.int mv, .int v]) rfl ?_
  refine pm_icmp_eq (tgt := 2623) B dL_law_1931 (by decide) (fun _ => ?_) (fun hne => absurd e7 hne)
  exact pm_widen (k1 := cu + 25) (n1 := su + 78) (by omega) (by omega) (next n' M1 hn' (pm_Jn (by omega) hT' hT1 hL' ((hF _ (by decide) (by omega)).trans h149) ((hF _ (by decide) (by omega)).trans h150) hR2 hF1))
set_option maxHeartbeats 1000000 in
theorem pm_lw_35 {l : Launch} {z : Nat} {D : va_G} {kA : Nat → ClassId} {kE : Nat → Nat} {nm : String} {tb : List ExceptionTableEntry} {mc ms : Nat} {X : pm_X} {cu su : Nat} {Q : State → Prop} {nx : Nat} {M : pm_M} {b N i Bd Bd2 : Nat} {xs : Nat → Int32} {g : pm_Cs} {h h2 : pm_Ms} {L : Int32 × Int32 × Int32} {fo : Nat → Int64} {fd : Nat → UInt64} {R : Int32 → Int32 → pm_Cs → Int32 × Int32 × Int32 → Prop} {mv : Int32} {dW mcW msW dX : Nat} (hdW : Nat.ble (dW + 1) 2048 = true) (hmW : mcW ≤ 25) (hsW : msW ≤ 78) (hdX : Nat.ble (dX + 1) 2048 = true) (B : pm_B l z D kA kE RL code 9 ret nm tb 2048 mc ms X) (hcu : cu + 25 ≤ mc) (hsu : su + 78 ≤ ms) (hnx : 151 ≤ nx) (hT : pm_TC z kA kE M g) (hTM : pm_TM z kA M h) (h149 : M 149 = some (.inl (kA 1, 1, .inr (.inl fo)))) (h150 : M 150 = some (.inl (kA 2, 1, .inr (.inr (.inr (.inl fd))))))
    (hC : pm_C l z D kA kE yX12_soldTotal cX12_soldTotal 1 (some .int) dW mcW msW [.ref (z + 0)] nx M (pm_cl2 z kA kE nx M [] R)) (hX : pm_xm l z D kA kE yX13_soldTotal cX13_soldTotal 1 (some .int) dX [] h h2 (.int mv)) (hS : ∀ v g' L', R 0 v g' L' → v = mv ∧ pm_Rel Bd2 g' h2 L')
    (next : ∀ nx' M', nx ≤ nx' → pm_J z kA kE nx' M' Bd2 → pm_G l z D X (cu + 25) (su + 78) Q nx' M' 2623 [some (.ref b), some (.ref (z + 0)), some (.ref (z + 140)), some (.ref (z + 149)), some (.ref (z + 150)), some (.int (nI i)), none, none, none] []) : pm_G l z D X cu su Q nx M 1936 [some (.ref b), some (.ref (z + 0)), some (.ref (z + 140)), some (.ref (z + 149)), some (.ref (z + 150)), some (.int (nI i)), none, none, none] [] := by
  refine pm_aload_n B dL_law_1936 rfl ?_
  refine pm_callV (As := []) (mc2 := mcW) (ms2 := msW) (d2 := dW) B rfl hT.1 rfl hC mt_X12_soldTotal sv_L_270 dL_law_1937 rfl hdW rfl (Nat.ble_eq_true_of_le (by omega)) (Nat.ble_eq_true_of_le (by omega)) (fun E n' M' hp => ?_) (fun u n' M' hp => ?_)
  · obtain ⟨e, he, _⟩ := pm_clE hp
    cases he
  obtain ⟨hF, hn', g', L', hT', hL', hv⟩ := hp
  obtain ⟨v, hv, hR'⟩ : ∃ v, u = some (.int v) ∧ R 0 v g' L' := by
    rcases hv with ⟨v, hv, hR⟩ | ⟨e, he, _⟩
    · exact ⟨v, Sum.inl.inj hv, hR⟩
    · cases he
  subst hv
  obtain ⟨e7, hR2⟩ := hS v g' L' hR'
  obtain ⟨M1, hC1, hT1, hF1⟩ := hX n' M' (pm_TM_keep hTM (fun x h1 h2 => hF x h1 (by omega)))
  refine pm_stk (st' := [.int v]) rfl ?_
  refine pm_aload_n B dL_law_1940 rfl ?_
  refine pm_cV (As := []) (mc2 := 0) (ms2 := 0) B rfl ((hF _ (by decide) (by omega)).trans hTM.1) rfl hC1 mt_X13_soldTotal sv_L_273 dL_law_1941 rfl hdX rfl (Nat.ble_eq_true_of_le (by omega)) (Nat.ble_eq_true_of_le (by omega)) ?_
  refine pm_stk (st' := [.int mv, .int v]) rfl ?_
  refine pm_icmp_eq (tgt := 2623) B dL_law_1944 (by decide) (fun _ => ?_) (fun hne => absurd e7 hne)
  exact pm_widen (k1 := cu + 25) (n1 := su + 78) (by omega) (by omega) (next n' M1 hn' (pm_Jn (by omega) hT' hT1 hL' ((hF _ (by decide) (by omega)).trans h149) ((hF _ (by decide) (by omega)).trans h150) hR2 hF1))
set_option maxHeartbeats 1000000 in
theorem pm_lw_36 {l : Launch} {z : Nat} {D : va_G} {kA : Nat → ClassId} {kE : Nat → Nat} {nm : String} {tb : List ExceptionTableEntry} {mc ms : Nat} {X : pm_X} {cu su : Nat} {Q : State → Prop} {nx : Nat} {M : pm_M} {b N i Bd Bd2 : Nat} {xs : Nat → Int32} {g : pm_Cs} {h h2 : pm_Ms} {L : Int32 × Int32 × Int32} {fo : Nat → Int64} {fd : Nat → UInt64} {R : Int32 → Int32 → pm_Cs → Int32 × Int32 × Int32 → Prop} {mv : Int32} {dW mcW msW dX : Nat} (hdW : Nat.ble (dW + 1) 2048 = true) (hmW : mcW ≤ 25) (hsW : msW ≤ 78) (hdX : Nat.ble (dX + 1) 2048 = true) (B : pm_B l z D kA kE RL code 9 ret nm tb 2048 mc ms X) (hcu : cu + 25 ≤ mc) (hsu : su + 78 ≤ ms) (hnx : 151 ≤ nx) (hT : pm_TC z kA kE M g) (hTM : pm_TM z kA M h) (h149 : M 149 = some (.inl (kA 1, 1, .inr (.inl fo)))) (h150 : M 150 = some (.inl (kA 2, 1, .inr (.inr (.inr (.inl fd))))))
    (hC : pm_C l z D kA kE yX12_withinTotal cX12_withinTotal 1 (some .int) dW mcW msW [.ref (z + 0)] nx M (pm_cl2 z kA kE nx M [] R)) (hX : pm_xm l z D kA kE yX13_withinTotal cX13_withinTotal 1 (some .int) dX [] h h2 (.int mv)) (hS : ∀ v g' L', R 0 v g' L' → v = mv ∧ pm_Rel Bd2 g' h2 L')
    (next : ∀ nx' M', nx ≤ nx' → pm_J z kA kE nx' M' Bd2 → pm_G l z D X (cu + 25) (su + 78) Q nx' M' 2623 [some (.ref b), some (.ref (z + 0)), some (.ref (z + 140)), some (.ref (z + 149)), some (.ref (z + 150)), some (.int (nI i)), none, none, none] []) : pm_G l z D X cu su Q nx M 1949 [some (.ref b), some (.ref (z + 0)), some (.ref (z + 140)), some (.ref (z + 149)), some (.ref (z + 150)), some (.int (nI i)), none, none, none] [] := by
  refine pm_aload_n B dL_law_1949 rfl ?_
  refine pm_callV (As := []) (mc2 := mcW) (ms2 := msW) (d2 := dW) B rfl hT.1 rfl hC mt_X12_withinTotal sv_L_274 dL_law_1950 rfl hdW rfl (Nat.ble_eq_true_of_le (by omega)) (Nat.ble_eq_true_of_le (by omega)) (fun E n' M' hp => ?_) (fun u n' M' hp => ?_)
  · obtain ⟨e, he, _⟩ := pm_clE hp
    cases he
  obtain ⟨hF, hn', g', L', hT', hL', hv⟩ := hp
  obtain ⟨v, hv, hR'⟩ : ∃ v, u = some (.int v) ∧ R 0 v g' L' := by
    rcases hv with ⟨v, hv, hR⟩ | ⟨e, he, _⟩
    · exact ⟨v, Sum.inl.inj hv, hR⟩
    · cases he
  subst hv
  obtain ⟨e7, hR2⟩ := hS v g' L' hR'
  obtain ⟨M1, hC1, hT1, hF1⟩ := hX n' M' (pm_TM_keep hTM (fun x h1 h2 => hF x h1 (by omega)))
  refine pm_stk (st' := [.int v]) rfl ?_
  refine pm_aload_n B dL_law_1953 rfl ?_
  refine pm_cV (As := []) (mc2 := 0) (ms2 := 0) B rfl ((hF _ (by decide) (by omega)).trans hTM.1) rfl hC1 mt_X13_withinTotal sv_L_277 dL_law_1954 rfl hdX rfl (Nat.ble_eq_true_of_le (by omega)) (Nat.ble_eq_true_of_le (by omega)) ?_
  refine pm_stk (st' := [.int mv, .int v]) rfl ?_
  refine pm_icmp_eq (tgt := 2623) B dL_law_1957 (by decide) (fun _ => ?_) (fun hne => absurd e7 hne)
  exact pm_widen (k1 := cu + 25) (n1 := su + 78) (by omega) (by omega) (next n' M1 hn' (pm_Jn (by omega) hT' hT1 hL' ((hF _ (by decide) (by omega)).trans h149) ((hF _ (by decide) (by omega)).trans h150) hR2 hF1))
set_option maxHeartbeats 1000000 in
theorem pm_lw_37 {l : Launch} {z : Nat} {D : va_G} {kA : Nat → ClassId} {kE : Nat → Nat} {nm : String} {tb : List ExceptionTableEntry} {mc ms : Nat} {X : pm_X} {cu su : Nat} {Q : State → Prop} {nx : Nat} {M : pm_M} {b N i Bd Bd2 : Nat} {xs : Nat → Int32} {g : pm_Cs} {h h2 : pm_Ms} {L : Int32 × Int32 × Int32} {fo : Nat → Int64} {fd : Nat → UInt64} {R : Int32 → Int32 → pm_Cs → Int32 × Int32 × Int32 → Prop} {mv : Int32} {dW mcW msW dX : Nat} (hdW : Nat.ble (dW + 1) 2048 = true) (hmW : mcW ≤ 25) (hsW : msW ≤ 78) (hdX : Nat.ble (dX + 1) 2048 = true) (B : pm_B l z D kA kE RL code 9 ret nm tb 2048 mc ms X) (hcu : cu + 25 ≤ mc) (hsu : su + 78 ≤ ms) (hnx : 151 ≤ nx) (hT : pm_TC z kA kE M g) (hTM : pm_TM z kA M h) (h149 : M 149 = some (.inl (kA 1, 1, .inr (.inl fo)))) (h150 : M 150 = some (.inl (kA 2, 1, .inr (.inr (.inr (.inl fd))))))
    (hC : pm_C l z D kA kE yX12_finedTotal cX12_finedTotal 1 (some .int) dW mcW msW [.ref (z + 0)] nx M (pm_cl2 z kA kE nx M [] R)) (hX : pm_xm l z D kA kE yX13_finedTotal cX13_finedTotal 1 (some .int) dX [] h h2 (.int mv)) (hS : ∀ v g' L', R 0 v g' L' → v = mv ∧ pm_Rel Bd2 g' h2 L')
    (next : ∀ nx' M', nx ≤ nx' → pm_J z kA kE nx' M' Bd2 → pm_G l z D X (cu + 25) (su + 78) Q nx' M' 2623 [some (.ref b), some (.ref (z + 0)), some (.ref (z + 140)), some (.ref (z + 149)), some (.ref (z + 150)), some (.int (nI i)), none, none, none] []) : pm_G l z D X cu su Q nx M 1962 [some (.ref b), some (.ref (z + 0)), some (.ref (z + 140)), some (.ref (z + 149)), some (.ref (z + 150)), some (.int (nI i)), none, none, none] [] := by
  refine pm_aload_n B dL_law_1962 rfl ?_
  refine pm_callV (As := []) (mc2 := mcW) (ms2 := msW) (d2 := dW) B rfl hT.1 rfl hC mt_X12_finedTotal sv_L_278 dL_law_1963 rfl hdW rfl (Nat.ble_eq_true_of_le (by omega)) (Nat.ble_eq_true_of_le (by omega)) (fun E n' M' hp => ?_) (fun u n' M' hp => ?_)
  · obtain ⟨e, he, _⟩ := pm_clE hp
    cases he
  obtain ⟨hF, hn', g', L', hT', hL', hv⟩ := hp
  obtain ⟨v, hv, hR'⟩ : ∃ v, u = some (.int v) ∧ R 0 v g' L' := by
    rcases hv with ⟨v, hv, hR⟩ | ⟨e, he, _⟩
    · exact ⟨v, Sum.inl.inj hv, hR⟩
    · cases he
  subst hv
  obtain ⟨e7, hR2⟩ := hS v g' L' hR'
  obtain ⟨M1, hC1, hT1, hF1⟩ := hX n' M' (pm_TM_keep hTM (fun x h1 h2 => hF x h1 (by omega)))
  refine pm_stk (st' := [.int v]) rfl ?_
  refine pm_aload_n B dL_law_1966 rfl ?_
  refine pm_cV (As := []) (mc2 := 0) (ms2 := 0) B rfl ((hF _ (by decide) (by omega)).trans hTM.1) rfl hC1 mt_X13_finedTotal sv_L_281 dL_law_1967 rfl hdX rfl (Nat.ble_eq_true_of_le (by omega)) (Nat.ble_eq_true_of_le (by omega)) ?_
  refine pm_stk (st' := [.int mv, .int v]) rfl ?_
  refine pm_icmp_eq (tgt := 2623) B dL_law_1970 (by decide) (fun _ => ?_) (fun hne => absurd e7 hne)
  exact pm_widen (k1 := cu + 25) (n1 := su + 78) (by omega) (by omega) (next n' M1 hn' (pm_Jn (by omega) hT' hT1 hL' ((hF _ (by decide) (by omega)).trans h149) ((hF _ (by decide) (by omega)).trans h150) hR2 hF1))
set_option maxHeartbeats 1000000 in
theorem pm_lw_38 {l : Launch} {z : Nat} {D : va_G} {kA : Nat → ClassId} {kE : Nat → Nat} {nm : String} {tb : List ExceptionTableEntry} {mc ms : Nat} {X : pm_X} {cu su : Nat} {Q : State → Prop} {nx : Nat} {M : pm_M} {b N i Bd Bd2 : Nat} {xs : Nat → Int32} {g : pm_Cs} {h h2 : pm_Ms} {L : Int32 × Int32 × Int32} {fo : Nat → Int64} {fd : Nat → UInt64} {R : Int32 → Int32 → pm_Cs → Int32 × Int32 × Int32 → Prop} {mv : Int32} {dW mcW msW dX : Nat} (hdW : Nat.ble (dW + 1) 2048 = true) (hmW : mcW ≤ 25) (hsW : msW ≤ 78) (hdX : Nat.ble (dX + 1) 2048 = true) (B : pm_B l z D kA kE RL code 9 ret nm tb 2048 mc ms X) (hcu : cu + 25 ≤ mc) (hsu : su + 78 ≤ ms) (hnx : 151 ≤ nx) (hT : pm_TC z kA kE M g) (hTM : pm_TM z kA M h) (h149 : M 149 = some (.inl (kA 1, 1, .inr (.inl fo)))) (h150 : M 150 = some (.inl (kA 2, 1, .inr (.inr (.inr (.inl fd))))))
    (hC : pm_C l z D kA kE yX12_fines cX12_fines 1 (some .int) dW mcW msW [.ref (z + 0)] nx M (pm_cl2 z kA kE nx M [] R)) (hX : pm_xm l z D kA kE yX13_fines cX13_fines 1 (some .int) dX [] h h2 (.int mv)) (hS : ∀ v g' L', R 0 v g' L' → v = mv ∧ pm_Rel Bd2 g' h2 L')
    (next : ∀ nx' M', nx ≤ nx' → pm_J z kA kE nx' M' Bd2 → pm_G l z D X (cu + 25) (su + 78) Q nx' M' 2623 [some (.ref b), some (.ref (z + 0)), some (.ref (z + 140)), some (.ref (z + 149)), some (.ref (z + 150)), some (.int (nI i)), none, none, none] []) : pm_G l z D X cu su Q nx M 1975 [some (.ref b), some (.ref (z + 0)), some (.ref (z + 140)), some (.ref (z + 149)), some (.ref (z + 150)), some (.int (nI i)), none, none, none] [] := by
  refine pm_aload_n B dL_law_1975 rfl ?_
  refine pm_callV (As := []) (mc2 := mcW) (ms2 := msW) (d2 := dW) B rfl hT.1 rfl hC mt_X12_fines sv_L_282 dL_law_1976 rfl hdW rfl (Nat.ble_eq_true_of_le (by omega)) (Nat.ble_eq_true_of_le (by omega)) (fun E n' M' hp => ?_) (fun u n' M' hp => ?_)
  · obtain ⟨e, he, _⟩ := pm_clE hp
    cases he
  obtain ⟨hF, hn', g', L', hT', hL', hv⟩ := hp
  obtain ⟨v, hv, hR'⟩ : ∃ v, u = some (.int v) ∧ R 0 v g' L' := by
    rcases hv with ⟨v, hv, hR⟩ | ⟨e, he, _⟩
    · exact ⟨v, Sum.inl.inj hv, hR⟩
    · cases he
  subst hv
  obtain ⟨e7, hR2⟩ := hS v g' L' hR'
  obtain ⟨M1, hC1, hT1, hF1⟩ := hX n' M' (pm_TM_keep hTM (fun x h1 h2 => hF x h1 (by omega)))
  refine pm_stk (st' := [.int v]) rfl ?_
  refine pm_aload_n B dL_law_1979 rfl ?_
  refine pm_cV (As := []) (mc2 := 0) (ms2 := 0) B rfl ((hF _ (by decide) (by omega)).trans hTM.1) rfl hC1 mt_X13_fines sv_L_285 dL_law_1980 rfl hdX rfl (Nat.ble_eq_true_of_le (by omega)) (Nat.ble_eq_true_of_le (by omega)) ?_
  refine pm_stk (st' := [.int mv, .int v]) rfl ?_
  refine pm_icmp_eq (tgt := 2623) B dL_law_1983 (by decide) (fun _ => ?_) (fun hne => absurd e7 hne)
  exact pm_widen (k1 := cu + 25) (n1 := su + 78) (by omega) (by omega) (next n' M1 hn' (pm_Jn (by omega) hT' hT1 hL' ((hF _ (by decide) (by omega)).trans h149) ((hF _ (by decide) (by omega)).trans h150) hR2 hF1))
theorem ss_L_293 : pm_SS RL 293 yL_feed := ⟨pm_T_in 1184 (by decide +kernel) (by decide +kernel), pm_T_in 1185 (by decide +kernel) (by decide +kernel)⟩
set_option maxHeartbeats 1000000 in
theorem pm_lw_41 {l : Launch} {z : Nat} {D : va_G} {kA : Nat → ClassId} {kE : Nat → Nat} {nm : String} {tb : List ExceptionTableEntry} {mc ms : Nat} {X : pm_X} {cu su : Nat} {Q : State → Prop} {nx : Nat} {M : pm_M} {b N i Bd Bd2 : Nat} {xs : Nat → Int32} {g : pm_Cs} {h h2 : pm_Ms} {L : Int32 × Int32 × Int32} {fo : Nat → Int64} {fd : Nat → UInt64} {R : Int32 → Int32 → pm_Cs → Int32 × Int32 × Int32 → Prop} {mv : Int32} {dW mcW msW dX : Nat} (hdW : Nat.ble (dW + 1) 2048 = true) (hmW : mcW ≤ 25) (hsW : msW ≤ 78) (hdX : Nat.ble (dX + 1) 2048 = true) (B : pm_B l z D kA kE RL code 9 ret nm tb 2048 mc ms X) (hXs : va_X b N xs X.2.2.2.1 X.2.2.2.1.heap) (hbz : b < z) (hiN : i + 4 ≤ N) (hN : N ≤ 2048) (hcu : cu + 25 ≤ mc) (hsu : su + 78 ≤ ms) (hnx : 151 ≤ nx) (hT : pm_TC z kA kE M g) (h150 : M 150 = some (.inl (kA 2, 1, .inr (.inr (.inr (.inl fd))))))
    (hW : pm_Cw l z D kA kE yL_feed cL_feed 4 (some .int) [(0, 9, 12, 114)] dW mcW msW [.ref (z + 0), .int ((xs (i + 1)).toUInt32 % 65536).toInt32, .ref (z + 149)] nx M (pm_oA z kA kE nx M h (fun fo' v => fo' 0 = v.toInt64) R)) (hX : pm_xm l z D kA kE yX13_feed cX13_feed 2 (some .int) dX [.int ((xs (i + 1)).toUInt32 % 65536).toInt32] h h2 (.int mv)) (hS : ∀ kc v g' L', R kc v g' L' → h2.1 6 = kc ∧ (kc = 0 → v = mv) ∧ pm_Rel Bd2 g' h2 L')
    (next : ∀ nx' M', nx ≤ nx' → pm_J z kA kE nx' M' Bd2 → pm_G l z D X (cu + 25) (su + 78) Q nx' M' 2623 [some (.ref b), some (.ref (z + 0)), some (.ref (z + 140)), some (.ref (z + 149)), some (.ref (z + 150)), some (.int (nI i)), none, none, none] []) : pm_G l z D X cu su Q nx M 2119 [some (.ref b), some (.ref (z + 0)), some (.ref (z + 140)), some (.ref (z + 149)), some (.ref (z + 150)), some (.int (nI i)), none, none, none] [] := by
  refine pm_aload_n B dL_law_2119 rfl ?_
  refine pm_aload_n B dL_law_2120 rfl ?_
  refine pm_iload B dL_law_2121 rfl ?_
  refine pm_iconst (v := 1) B dL_law_2123 (by decide) ?_
  refine pm_iadd B dL_law_2124 ?_
  refine pm_stk (st' := [.int (nI (i + 1)), .ref b, .ref (z + 0)]) (by rw [show (nI i : Int32) + 1 = nI (i + 1) from nI_add i 1]) ?_
  refine pm_sld B hXs hbz (i + 1) (by omega) (by omega) dL_law_2125 ?_
  refine pm_i2c B dL_law_2126 ?_
  refine pm_aload_n B dL_law_2127 rfl ?_
  refine pm_cSW (As := [.ref (z + 0), .int ((xs (i + 1)).toUInt32 % 65536).toInt32, .ref (z + 149)]) (mc2 := mcW) (ms2 := msW) B hW mt_L_feed ss_L_293 dL_law_2128 rfl hdW rfl (Nat.ble_eq_true_of_le (by omega)) (Nat.ble_eq_true_of_le (by omega)) (fun E n' M' hp => (pm_oA_no hp).elim) (fun u n' M' hp => ?_)
  obtain ⟨kc, v, g', L', fo', ho, hn', hT', hL', hTM', h149', h150', hV, hR'⟩ := hp
  obtain rfl : u = some (.int kc) := Sum.inl.inj ho
  obtain ⟨e6, e7, hR2⟩ := hS kc v g' L' hR'
  obtain ⟨M1, hC1, hT1, hF1⟩ := hX n' M' hTM'
  refine pm_stk (st' := [.int kc]) rfl ?_
  refine pm_istore B dL_law_2131 rfl rfl ?_
  refine pm_loc (L' := [some (.ref b), some (.ref (z + 0)), some (.ref (z + 140)), some (.ref (z + 149)), some (.ref (z + 150)), some (.int (nI i)), some (.int kc), none, none]) rfl ?_
  refine pm_aload_n B dL_law_2133 rfl ?_
  refine pm_aload_n B dL_law_2134 rfl ?_
  refine pm_iload B dL_law_2135 rfl ?_
  refine pm_iconst (v := 1) B dL_law_2137 (by decide) ?_
  refine pm_iadd B dL_law_2138 ?_
  refine pm_stk (st' := [.int (nI (i + 1)), .ref b, .ref (z + 140)]) (by rw [show (nI i : Int32) + 1 = nI (i + 1) from nI_add i 1]) ?_
  refine pm_sld B hXs hbz (i + 1) (by omega) (by omega) dL_law_2139 ?_
  refine pm_i2c B dL_law_2140 ?_
  refine pm_cV (As := [.int ((xs (i + 1)).toUInt32 % 65536).toInt32]) (mc2 := 0) (ms2 := 0) B rfl hTM'.1 rfl hC1 mt_X13_feed sv_L_296 dL_law_2141 rfl hdX rfl (Nat.ble_eq_true_of_le (by omega)) (Nat.ble_eq_true_of_le (by omega)) ?_
  refine pm_stk (st' := [.int mv]) rfl ?_
  refine pm_istore B dL_law_2144 rfl rfl ?_
  refine pm_loc (L' := [some (.ref b), some (.ref (z + 0)), some (.ref (z + 140)), some (.ref (z + 149)), some (.ref (z + 150)), some (.int (nI i)), some (.int kc), some (.int mv), none]) rfl ?_
  have fin : pm_G l z D X (cu + mcW + 0 + 0) (su + msW + 0 + 0) Q n' M1 2623 [some (.ref b), some (.ref (z + 0)), some (.ref (z + 140)), some (.ref (z + 149)), some (.ref (z + 150)), some (.int (nI i)), some (.int kc), some (.int mv), none] [] := pm_widen (k1 := cu + 25) (n1 := su + 78) (by omega) (by omega) (pm_wk (L' := [some (.ref b), some (.ref (z + 0)), some (.ref (z + 140)), some (.ref (z + 149)), some (.ref (z + 150)), some (.int (nI i)), none, none, none]) ⟨rfl, rfl, rfl, rfl, rfl, rfl, trivial⟩ (next n' M1 hn' (pm_Jn (by omega) hT' hT1 hL' h149' (h150'.trans h150) hR2 hF1)))
  refine pm_aload_n B dL_law_2146 rfl ?_
  refine pm_cV (As := []) (mc2 := 0) (ms2 := 0) B rfl hT1.1 rfl (c_X13_thrown hT1.1) mt_X13_thrown sv_L_154 dL_law_2147 rfl rfl rfl (Nat.ble_eq_true_of_le (by omega)) (Nat.ble_eq_true_of_le (by omega)) ?_
  refine pm_stk (st' := [.int (h2.1 6)]) rfl ?_
  refine pm_iload B dL_law_2150 rfl ?_
  refine pm_icmp_eq (tgt := 2157) B dL_law_2152 (by decide) (fun _ => ?_) (fun hne => absurd e6 hne)
  refine pm_iload B dL_law_2157 rfl ?_
  refine pm_if_ne (tgt := 2174) B dL_law_2159 (by decide) (fun _ => ?_) (fun hk0 => ?_)
  · exact pm_goto (tgt := 2623) B dL_law_2174 (by decide) fin
  refine pm_aload_n B dL_law_2162 rfl ?_
  refine pm_iconst (v := 0) B dL_law_2163 (by decide) ?_
  refine pm_lald_n B dL_law_2164 ((hF1 _ (Or.inr (by decide))).trans h149') 0 (by decide) (by decide) ?_
  refine pm_iload B dL_law_2165 rfl ?_
  refine pm_i2l B dL_law_2167 ?_
  refine pm_lcmp B dL_law_2168 ?_
  refine pm_if_eq (tgt := 2174) B dL_law_2169 (by decide) (fun _ => ?_) (fun hne => absurd (pm_lcmp0 ((hV hk0).trans (by rw [e7 hk0]))) hne)
  exact pm_goto (tgt := 2623) B dL_law_2174 (by decide) fin
theorem ss_L_297 : pm_SS RL 297 yL_execute := ⟨pm_T_in 1216 (by decide +kernel) (by decide +kernel), pm_T_in 1217 (by decide +kernel) (by decide +kernel)⟩
set_option maxHeartbeats 1000000 in
theorem pm_lw_42 {l : Launch} {z : Nat} {D : va_G} {kA : Nat → ClassId} {kE : Nat → Nat} {nm : String} {tb : List ExceptionTableEntry} {mc ms : Nat} {X : pm_X} {cu su : Nat} {Q : State → Prop} {nx : Nat} {M : pm_M} {b N i Bd Bd2 : Nat} {xs : Nat → Int32} {g : pm_Cs} {h h2 : pm_Ms} {L : Int32 × Int32 × Int32} {fo : Nat → Int64} {fd : Nat → UInt64} {R : Int32 → Int32 → pm_Cs → Int32 × Int32 × Int32 → Prop} {mv : Int32} {dW mcW msW dX : Nat} (hdW : Nat.ble (dW + 1) 2048 = true) (hmW : mcW ≤ 25) (hsW : msW ≤ 78) (hdX : Nat.ble (dX + 1) 2048 = true) (B : pm_B l z D kA kE RL code 9 ret nm tb 2048 mc ms X) (hXs : va_X b N xs X.2.2.2.1 X.2.2.2.1.heap) (hbz : b < z) (hiN : i + 4 ≤ N) (hN : N ≤ 2048) (hcu : cu + 25 ≤ mc) (hsu : su + 78 ≤ ms) (hnx : 151 ≤ nx) (hT : pm_TC z kA kE M g) (h150 : M 150 = some (.inl (kA 2, 1, .inr (.inr (.inr (.inl fd))))))
    (hW : pm_Cw l z D kA kE yL_execute cL_execute 3 (some .int) [(0, 8, 11, 13), (0, 8, 14, 15)] dW mcW msW [.ref (z + 0), .ref (z + 149)] nx M (pm_oA z kA kE nx M h (fun fo' v => fo' 0 = v.toInt64) R)) (hX : pm_xm l z D kA kE yX13_execute cX13_execute 3 (some .int) dX [] h h2 (.int mv)) (hS : ∀ kc v g' L', R kc v g' L' → h2.1 6 = kc ∧ (kc = 0 → v = mv) ∧ pm_Rel Bd2 g' h2 L')
    (next : ∀ nx' M', nx ≤ nx' → pm_J z kA kE nx' M' Bd2 → pm_G l z D X (cu + 25) (su + 78) Q nx' M' 2623 [some (.ref b), some (.ref (z + 0)), some (.ref (z + 140)), some (.ref (z + 149)), some (.ref (z + 150)), some (.int (nI i)), none, none, none] []) : pm_G l z D X cu su Q nx M 2177 [some (.ref b), some (.ref (z + 0)), some (.ref (z + 140)), some (.ref (z + 149)), some (.ref (z + 150)), some (.int (nI i)), none, none, none] [] := by
  refine pm_aload_n B dL_law_2177 rfl ?_
  refine pm_aload_n B dL_law_2178 rfl ?_
  refine pm_cSW (As := [.ref (z + 0), .ref (z + 149)]) (mc2 := mcW) (ms2 := msW) B hW mt_L_execute ss_L_297 dL_law_2179 rfl hdW rfl (Nat.ble_eq_true_of_le (by omega)) (Nat.ble_eq_true_of_le (by omega)) (fun E n' M' hp => (pm_oA_no hp).elim) (fun u n' M' hp => ?_)
  obtain ⟨kc, v, g', L', fo', ho, hn', hT', hL', hTM', h149', h150', hV, hR'⟩ := hp
  obtain rfl : u = some (.int kc) := Sum.inl.inj ho
  obtain ⟨e6, e7, hR2⟩ := hS kc v g' L' hR'
  obtain ⟨M1, hC1, hT1, hF1⟩ := hX n' M' hTM'
  refine pm_stk (st' := [.int kc]) rfl ?_
  refine pm_istore B dL_law_2182 rfl rfl ?_
  refine pm_loc (L' := [some (.ref b), some (.ref (z + 0)), some (.ref (z + 140)), some (.ref (z + 149)), some (.ref (z + 150)), some (.int (nI i)), some (.int kc), none, none]) rfl ?_
  refine pm_aload_n B dL_law_2184 rfl ?_
  refine pm_cV (As := []) (mc2 := 0) (ms2 := 0) B rfl hTM'.1 rfl hC1 mt_X13_execute sv_L_300 dL_law_2185 rfl hdX rfl (Nat.ble_eq_true_of_le (by omega)) (Nat.ble_eq_true_of_le (by omega)) ?_
  refine pm_stk (st' := [.int mv]) rfl ?_
  refine pm_istore B dL_law_2188 rfl rfl ?_
  refine pm_loc (L' := [some (.ref b), some (.ref (z + 0)), some (.ref (z + 140)), some (.ref (z + 149)), some (.ref (z + 150)), some (.int (nI i)), some (.int kc), some (.int mv), none]) rfl ?_
  have fin : pm_G l z D X (cu + mcW + 0 + 0) (su + msW + 0 + 0) Q n' M1 2623 [some (.ref b), some (.ref (z + 0)), some (.ref (z + 140)), some (.ref (z + 149)), some (.ref (z + 150)), some (.int (nI i)), some (.int kc), some (.int mv), none] [] := pm_widen (k1 := cu + 25) (n1 := su + 78) (by omega) (by omega) (pm_wk (L' := [some (.ref b), some (.ref (z + 0)), some (.ref (z + 140)), some (.ref (z + 149)), some (.ref (z + 150)), some (.int (nI i)), none, none, none]) ⟨rfl, rfl, rfl, rfl, rfl, rfl, trivial⟩ (next n' M1 hn' (pm_Jn (by omega) hT' hT1 hL' h149' (h150'.trans h150) hR2 hF1)))
  refine pm_aload_n B dL_law_2190 rfl ?_
  refine pm_cV (As := []) (mc2 := 0) (ms2 := 0) B rfl hT1.1 rfl (c_X13_thrown hT1.1) mt_X13_thrown sv_L_154 dL_law_2191 rfl rfl rfl (Nat.ble_eq_true_of_le (by omega)) (Nat.ble_eq_true_of_le (by omega)) ?_
  refine pm_stk (st' := [.int (h2.1 6)]) rfl ?_
  refine pm_iload B dL_law_2194 rfl ?_
  refine pm_icmp_eq (tgt := 2201) B dL_law_2196 (by decide) (fun _ => ?_) (fun hne => absurd e6 hne)
  refine pm_iload B dL_law_2201 rfl ?_
  refine pm_if_ne (tgt := 2218) B dL_law_2203 (by decide) (fun _ => ?_) (fun hk0 => ?_)
  · exact pm_goto (tgt := 2623) B dL_law_2218 (by decide) fin
  refine pm_aload_n B dL_law_2206 rfl ?_
  refine pm_iconst (v := 0) B dL_law_2207 (by decide) ?_
  refine pm_lald_n B dL_law_2208 ((hF1 _ (Or.inr (by decide))).trans h149') 0 (by decide) (by decide) ?_
  refine pm_iload B dL_law_2209 rfl ?_
  refine pm_i2l B dL_law_2211 ?_
  refine pm_lcmp B dL_law_2212 ?_
  refine pm_if_eq (tgt := 2218) B dL_law_2213 (by decide) (fun _ => ?_) (fun hne => absurd (pm_lcmp0 ((hV hk0).trans (by rw [e7 hk0]))) hne)
  exact pm_goto (tgt := 2623) B dL_law_2218 (by decide) fin
theorem ss_L_301 : pm_SS RL 301 yL_faultPosition := ⟨pm_T_in 1309 (by decide +kernel) (by decide +kernel), pm_T_in 1310 (by decide +kernel) (by decide +kernel)⟩
set_option maxHeartbeats 1000000 in
theorem pm_lw_43 {l : Launch} {z : Nat} {D : va_G} {kA : Nat → ClassId} {kE : Nat → Nat} {nm : String} {tb : List ExceptionTableEntry} {mc ms : Nat} {X : pm_X} {cu su : Nat} {Q : State → Prop} {nx : Nat} {M : pm_M} {b N i Bd Bd2 : Nat} {xs : Nat → Int32} {g : pm_Cs} {h h2 : pm_Ms} {L : Int32 × Int32 × Int32} {fo : Nat → Int64} {fd : Nat → UInt64} {R : Int32 → Int32 → pm_Cs → Int32 × Int32 × Int32 → Prop} {mv : Int32} {dW mcW msW dX : Nat} (hdW : Nat.ble (dW + 1) 2048 = true) (hmW : mcW ≤ 25) (hsW : msW ≤ 78) (hdX : Nat.ble (dX + 1) 2048 = true) (B : pm_B l z D kA kE RL code 9 ret nm tb 2048 mc ms X) (hXs : va_X b N xs X.2.2.2.1 X.2.2.2.1.heap) (hbz : b < z) (hiN : i + 4 ≤ N) (hN : N ≤ 2048) (hcu : cu + 25 ≤ mc) (hsu : su + 78 ≤ ms) (hnx : 151 ≤ nx) (hT : pm_TC z kA kE M g) (h150 : M 150 = some (.inl (kA 2, 1, .inr (.inr (.inr (.inl fd))))))
    (hW : pm_Cw l z D kA kE yL_faultPosition cL_faultPosition 3 (some .int) [(0, 8, 11, 36)] dW mcW msW [.ref (z + 0), .ref (z + 149)] nx M (pm_oA z kA kE nx M h (fun fo' v => fo' 0 = v.toInt64) R)) (hX : pm_xm l z D kA kE yX13_faultPosition cX13_faultPosition 1 (some .int) dX [] h h2 (.int mv)) (hS : ∀ kc v g' L', R kc v g' L' → h2.1 6 = kc ∧ (kc = 0 → v = mv) ∧ pm_Rel Bd2 g' h2 L')
    (next : ∀ nx' M', nx ≤ nx' → pm_J z kA kE nx' M' Bd2 → pm_G l z D X (cu + 25) (su + 78) Q nx' M' 2623 [some (.ref b), some (.ref (z + 0)), some (.ref (z + 140)), some (.ref (z + 149)), some (.ref (z + 150)), some (.int (nI i)), none, none, none] []) : pm_G l z D X cu su Q nx M 2221 [some (.ref b), some (.ref (z + 0)), some (.ref (z + 140)), some (.ref (z + 149)), some (.ref (z + 150)), some (.int (nI i)), none, none, none] [] := by
  refine pm_aload_n B dL_law_2221 rfl ?_
  refine pm_aload_n B dL_law_2222 rfl ?_
  refine pm_cSW (As := [.ref (z + 0), .ref (z + 149)]) (mc2 := mcW) (ms2 := msW) B hW mt_L_faultPosition ss_L_301 dL_law_2223 rfl hdW rfl (Nat.ble_eq_true_of_le (by omega)) (Nat.ble_eq_true_of_le (by omega)) (fun E n' M' hp => (pm_oA_no hp).elim) (fun u n' M' hp => ?_)
  obtain ⟨kc, v, g', L', fo', ho, hn', hT', hL', hTM', h149', h150', hV, hR'⟩ := hp
  obtain rfl : u = some (.int kc) := Sum.inl.inj ho
  obtain ⟨e6, e7, hR2⟩ := hS kc v g' L' hR'
  obtain ⟨M1, hC1, hT1, hF1⟩ := hX n' M' hTM'
  refine pm_stk (st' := [.int kc]) rfl ?_
  refine pm_istore B dL_law_2226 rfl rfl ?_
  refine pm_loc (L' := [some (.ref b), some (.ref (z + 0)), some (.ref (z + 140)), some (.ref (z + 149)), some (.ref (z + 150)), some (.int (nI i)), some (.int kc), none, none]) rfl ?_
  refine pm_aload_n B dL_law_2228 rfl ?_
  refine pm_cV (As := []) (mc2 := 0) (ms2 := 0) B rfl hTM'.1 rfl hC1 mt_X13_faultPosition sv_L_303 dL_law_2229 rfl hdX rfl (Nat.ble_eq_true_of_le (by omega)) (Nat.ble_eq_true_of_le (by omega)) ?_
  refine pm_stk (st' := [.int mv]) rfl ?_
  refine pm_istore B dL_law_2232 rfl rfl ?_
  refine pm_loc (L' := [some (.ref b), some (.ref (z + 0)), some (.ref (z + 140)), some (.ref (z + 149)), some (.ref (z + 150)), some (.int (nI i)), some (.int kc), some (.int mv), none]) rfl ?_
  have fin : pm_G l z D X (cu + mcW + 0 + 0) (su + msW + 0 + 0) Q n' M1 2623 [some (.ref b), some (.ref (z + 0)), some (.ref (z + 140)), some (.ref (z + 149)), some (.ref (z + 150)), some (.int (nI i)), some (.int kc), some (.int mv), none] [] := pm_widen (k1 := cu + 25) (n1 := su + 78) (by omega) (by omega) (pm_wk (L' := [some (.ref b), some (.ref (z + 0)), some (.ref (z + 140)), some (.ref (z + 149)), some (.ref (z + 150)), some (.int (nI i)), none, none, none]) ⟨rfl, rfl, rfl, rfl, rfl, rfl, trivial⟩ (next n' M1 hn' (pm_Jn (by omega) hT' hT1 hL' h149' (h150'.trans h150) hR2 hF1)))
  refine pm_aload_n B dL_law_2234 rfl ?_
  refine pm_cV (As := []) (mc2 := 0) (ms2 := 0) B rfl hT1.1 rfl (c_X13_thrown hT1.1) mt_X13_thrown sv_L_154 dL_law_2235 rfl rfl rfl (Nat.ble_eq_true_of_le (by omega)) (Nat.ble_eq_true_of_le (by omega)) ?_
  refine pm_stk (st' := [.int (h2.1 6)]) rfl ?_
  refine pm_iload B dL_law_2238 rfl ?_
  refine pm_icmp_eq (tgt := 2245) B dL_law_2240 (by decide) (fun _ => ?_) (fun hne => absurd e6 hne)
  refine pm_iload B dL_law_2245 rfl ?_
  refine pm_if_ne (tgt := 2262) B dL_law_2247 (by decide) (fun _ => ?_) (fun hk0 => ?_)
  · exact pm_goto (tgt := 2623) B dL_law_2262 (by decide) fin
  refine pm_aload_n B dL_law_2250 rfl ?_
  refine pm_iconst (v := 0) B dL_law_2251 (by decide) ?_
  refine pm_lald_n B dL_law_2252 ((hF1 _ (Or.inr (by decide))).trans h149') 0 (by decide) (by decide) ?_
  refine pm_iload B dL_law_2253 rfl ?_
  refine pm_i2l B dL_law_2255 ?_
  refine pm_lcmp B dL_law_2256 ?_
  refine pm_if_eq (tgt := 2262) B dL_law_2257 (by decide) (fun _ => ?_) (fun hne => absurd (pm_lcmp0 ((hV hk0).trans (by rw [e7 hk0]))) hne)
  exact pm_goto (tgt := 2623) B dL_law_2262 (by decide) fin
theorem ss_L_304 : pm_SS RL 304 yL_writeMember := ⟨pm_T_in 1317 (by decide +kernel) (by decide +kernel), pm_T_in 1318 (by decide +kernel) (by decide +kernel)⟩
set_option maxHeartbeats 1000000 in
theorem pm_lw_44 {l : Launch} {z : Nat} {D : va_G} {kA : Nat → ClassId} {kE : Nat → Nat} {nm : String} {tb : List ExceptionTableEntry} {mc ms : Nat} {X : pm_X} {cu su : Nat} {Q : State → Prop} {nx : Nat} {M : pm_M} {b N i Bd Bd2 : Nat} {xs : Nat → Int32} {g : pm_Cs} {h h2 : pm_Ms} {L : Int32 × Int32 × Int32} {fo : Nat → Int64} {fd : Nat → UInt64} {R : Int32 → Int32 → pm_Cs → Int32 × Int32 × Int32 → Prop} {mv : Int32} {dW mcW msW dX : Nat} (hdW : Nat.ble (dW + 1) 2048 = true) (hmW : mcW ≤ 25) (hsW : msW ≤ 78) (hdX : Nat.ble (dX + 1) 2048 = true) (B : pm_B l z D kA kE RL code 9 ret nm tb 2048 mc ms X) (hXs : va_X b N xs X.2.2.2.1 X.2.2.2.1.heap) (hbz : b < z) (hiN : i + 4 ≤ N) (hN : N ≤ 2048) (hcu : cu + 25 ≤ mc) (hsu : su + 78 ≤ ms) (hnx : 151 ≤ nx) (hT : pm_TC z kA kE M g) (h150 : M 150 = some (.inl (kA 2, 1, .inr (.inr (.inr (.inl fd))))))
    (hW : pm_Cw l z D kA kE yL_writeMember cL_writeMember 4 (some .int) [(0, 9, 12, 21)] dW mcW msW [.ref (z + 0), .int (xs (i + 1)), .ref (z + 149)] nx M (pm_oA z kA kE nx M h (fun fo' v => fo' 0 = v.toInt64) R)) (hX : pm_xm l z D kA kE yX13_writeMember cX13_writeMember 3 (some .int) dX [.int (xs (i + 1))] h h2 (.int mv)) (hS : ∀ kc v g' L', R kc v g' L' → h2.1 6 = kc ∧ (kc = 0 → v = mv) ∧ pm_Rel Bd2 g' h2 L')
    (next : ∀ nx' M', nx ≤ nx' → pm_J z kA kE nx' M' Bd2 → pm_G l z D X (cu + 25) (su + 78) Q nx' M' 2623 [some (.ref b), some (.ref (z + 0)), some (.ref (z + 140)), some (.ref (z + 149)), some (.ref (z + 150)), some (.int (nI i)), none, none, none] []) : pm_G l z D X cu su Q nx M 2265 [some (.ref b), some (.ref (z + 0)), some (.ref (z + 140)), some (.ref (z + 149)), some (.ref (z + 150)), some (.int (nI i)), none, none, none] [] := by
  refine pm_aload_n B dL_law_2265 rfl ?_
  refine pm_aload_n B dL_law_2266 rfl ?_
  refine pm_iload B dL_law_2267 rfl ?_
  refine pm_iconst (v := 1) B dL_law_2269 (by decide) ?_
  refine pm_iadd B dL_law_2270 ?_
  refine pm_stk (st' := [.int (nI (i + 1)), .ref b, .ref (z + 0)]) (by rw [show (nI i : Int32) + 1 = nI (i + 1) from nI_add i 1]) ?_
  refine pm_sld B hXs hbz (i + 1) (by omega) (by omega) dL_law_2271 ?_
  refine pm_aload_n B dL_law_2272 rfl ?_
  refine pm_cSW (As := [.ref (z + 0), .int (xs (i + 1)), .ref (z + 149)]) (mc2 := mcW) (ms2 := msW) B hW mt_L_writeMember ss_L_304 dL_law_2273 rfl hdW rfl (Nat.ble_eq_true_of_le (by omega)) (Nat.ble_eq_true_of_le (by omega)) (fun E n' M' hp => (pm_oA_no hp).elim) (fun u n' M' hp => ?_)
  obtain ⟨kc, v, g', L', fo', ho, hn', hT', hL', hTM', h149', h150', hV, hR'⟩ := hp
  obtain rfl : u = some (.int kc) := Sum.inl.inj ho
  obtain ⟨e6, e7, hR2⟩ := hS kc v g' L' hR'
  obtain ⟨M1, hC1, hT1, hF1⟩ := hX n' M' hTM'
  refine pm_stk (st' := [.int kc]) rfl ?_
  refine pm_istore B dL_law_2276 rfl rfl ?_
  refine pm_loc (L' := [some (.ref b), some (.ref (z + 0)), some (.ref (z + 140)), some (.ref (z + 149)), some (.ref (z + 150)), some (.int (nI i)), some (.int kc), none, none]) rfl ?_
  refine pm_aload_n B dL_law_2278 rfl ?_
  refine pm_aload_n B dL_law_2279 rfl ?_
  refine pm_iload B dL_law_2280 rfl ?_
  refine pm_iconst (v := 1) B dL_law_2282 (by decide) ?_
  refine pm_iadd B dL_law_2283 ?_
  refine pm_stk (st' := [.int (nI (i + 1)), .ref b, .ref (z + 140)]) (by rw [show (nI i : Int32) + 1 = nI (i + 1) from nI_add i 1]) ?_
  refine pm_sld B hXs hbz (i + 1) (by omega) (by omega) dL_law_2284 ?_
  refine pm_cV (As := [.int (xs (i + 1))]) (mc2 := 0) (ms2 := 0) B rfl hTM'.1 rfl hC1 mt_X13_writeMember sv_L_306 dL_law_2285 rfl hdX rfl (Nat.ble_eq_true_of_le (by omega)) (Nat.ble_eq_true_of_le (by omega)) ?_
  refine pm_stk (st' := [.int mv]) rfl ?_
  refine pm_istore B dL_law_2288 rfl rfl ?_
  refine pm_loc (L' := [some (.ref b), some (.ref (z + 0)), some (.ref (z + 140)), some (.ref (z + 149)), some (.ref (z + 150)), some (.int (nI i)), some (.int kc), some (.int mv), none]) rfl ?_
  have fin : pm_G l z D X (cu + mcW + 0 + 0) (su + msW + 0 + 0) Q n' M1 2623 [some (.ref b), some (.ref (z + 0)), some (.ref (z + 140)), some (.ref (z + 149)), some (.ref (z + 150)), some (.int (nI i)), some (.int kc), some (.int mv), none] [] := pm_widen (k1 := cu + 25) (n1 := su + 78) (by omega) (by omega) (pm_wk (L' := [some (.ref b), some (.ref (z + 0)), some (.ref (z + 140)), some (.ref (z + 149)), some (.ref (z + 150)), some (.int (nI i)), none, none, none]) ⟨rfl, rfl, rfl, rfl, rfl, rfl, trivial⟩ (next n' M1 hn' (pm_Jn (by omega) hT' hT1 hL' h149' (h150'.trans h150) hR2 hF1)))
  refine pm_aload_n B dL_law_2290 rfl ?_
  refine pm_cV (As := []) (mc2 := 0) (ms2 := 0) B rfl hT1.1 rfl (c_X13_thrown hT1.1) mt_X13_thrown sv_L_154 dL_law_2291 rfl rfl rfl (Nat.ble_eq_true_of_le (by omega)) (Nat.ble_eq_true_of_le (by omega)) ?_
  refine pm_stk (st' := [.int (h2.1 6)]) rfl ?_
  refine pm_iload B dL_law_2294 rfl ?_
  refine pm_icmp_eq (tgt := 2301) B dL_law_2296 (by decide) (fun _ => ?_) (fun hne => absurd e6 hne)
  refine pm_iload B dL_law_2301 rfl ?_
  refine pm_if_ne (tgt := 2318) B dL_law_2303 (by decide) (fun _ => ?_) (fun hk0 => ?_)
  · exact pm_goto (tgt := 2623) B dL_law_2318 (by decide) fin
  refine pm_aload_n B dL_law_2306 rfl ?_
  refine pm_iconst (v := 0) B dL_law_2307 (by decide) ?_
  refine pm_lald_n B dL_law_2308 ((hF1 _ (Or.inr (by decide))).trans h149') 0 (by decide) (by decide) ?_
  refine pm_iload B dL_law_2309 rfl ?_
  refine pm_i2l B dL_law_2311 ?_
  refine pm_lcmp B dL_law_2312 ?_
  refine pm_if_eq (tgt := 2318) B dL_law_2313 (by decide) (fun _ => ?_) (fun hne => absurd (pm_lcmp0 ((hV hk0).trans (by rw [e7 hk0]))) hne)
  exact pm_goto (tgt := 2623) B dL_law_2318 (by decide) fin
theorem ss_L_307 : pm_SS RL 307 yL_lineCharacter := ⟨pm_T_in 1568 (by decide +kernel) (by decide +kernel), pm_T_in 1569 (by decide +kernel) (by decide +kernel)⟩
set_option maxHeartbeats 1000000 in
theorem pm_lw_45 {l : Launch} {z : Nat} {D : va_G} {kA : Nat → ClassId} {kE : Nat → Nat} {nm : String} {tb : List ExceptionTableEntry} {mc ms : Nat} {X : pm_X} {cu su : Nat} {Q : State → Prop} {nx : Nat} {M : pm_M} {b N i Bd Bd2 : Nat} {xs : Nat → Int32} {g : pm_Cs} {h h2 : pm_Ms} {L : Int32 × Int32 × Int32} {fo : Nat → Int64} {fd : Nat → UInt64} {R : Int32 → Int32 → pm_Cs → Int32 × Int32 × Int32 → Prop} {mv : Int32} {dW mcW msW dX : Nat} (hdW : Nat.ble (dW + 1) 2048 = true) (hmW : mcW ≤ 25) (hsW : msW ≤ 78) (hdX : Nat.ble (dX + 1) 2048 = true) (B : pm_B l z D kA kE RL code 9 ret nm tb 2048 mc ms X) (hXs : va_X b N xs X.2.2.2.1 X.2.2.2.1.heap) (hbz : b < z) (hiN : i + 4 ≤ N) (hN : N ≤ 2048) (hcu : cu + 25 ≤ mc) (hsu : su + 78 ≤ ms) (hnx : 151 ≤ nx) (hT : pm_TC z kA kE M g) (h150 : M 150 = some (.inl (kA 2, 1, .inr (.inr (.inr (.inl fd))))))
    (hW : pm_Cw l z D kA kE yL_lineCharacter cL_lineCharacter 4 (some .int) [(0, 9, 12, 21)] dW mcW msW [.ref (z + 0), .int (xs (i + 1)), .ref (z + 149)] nx M (pm_oA z kA kE nx M h (fun fo' v => fo' 0 = v.toInt64) R)) (hX : pm_xm l z D kA kE yX13_lineCharacter cX13_lineCharacter 2 (some .char) dX [.int (xs (i + 1))] h h2 (.int mv)) (hS : ∀ kc v g' L', R kc v g' L' → h2.1 6 = kc ∧ (kc = 0 → v = mv) ∧ pm_Rel Bd2 g' h2 L')
    (next : ∀ nx' M', nx ≤ nx' → pm_J z kA kE nx' M' Bd2 → pm_G l z D X (cu + 25) (su + 78) Q nx' M' 2623 [some (.ref b), some (.ref (z + 0)), some (.ref (z + 140)), some (.ref (z + 149)), some (.ref (z + 150)), some (.int (nI i)), none, none, none] []) : pm_G l z D X cu su Q nx M 2321 [some (.ref b), some (.ref (z + 0)), some (.ref (z + 140)), some (.ref (z + 149)), some (.ref (z + 150)), some (.int (nI i)), none, none, none] [] := by
  refine pm_aload_n B dL_law_2321 rfl ?_
  refine pm_aload_n B dL_law_2322 rfl ?_
  refine pm_iload B dL_law_2323 rfl ?_
  refine pm_iconst (v := 1) B dL_law_2325 (by decide) ?_
  refine pm_iadd B dL_law_2326 ?_
  refine pm_stk (st' := [.int (nI (i + 1)), .ref b, .ref (z + 0)]) (by rw [show (nI i : Int32) + 1 = nI (i + 1) from nI_add i 1]) ?_
  refine pm_sld B hXs hbz (i + 1) (by omega) (by omega) dL_law_2327 ?_
  refine pm_aload_n B dL_law_2328 rfl ?_
  refine pm_cSW (As := [.ref (z + 0), .int (xs (i + 1)), .ref (z + 149)]) (mc2 := mcW) (ms2 := msW) B hW mt_L_lineCharacter ss_L_307 dL_law_2329 rfl hdW rfl (Nat.ble_eq_true_of_le (by omega)) (Nat.ble_eq_true_of_le (by omega)) (fun E n' M' hp => (pm_oA_no hp).elim) (fun u n' M' hp => ?_)
  obtain ⟨kc, v, g', L', fo', ho, hn', hT', hL', hTM', h149', h150', hV, hR'⟩ := hp
  obtain rfl : u = some (.int kc) := Sum.inl.inj ho
  obtain ⟨e6, e7, hR2⟩ := hS kc v g' L' hR'
  obtain ⟨M1, hC1, hT1, hF1⟩ := hX n' M' hTM'
  refine pm_stk (st' := [.int kc]) rfl ?_
  refine pm_istore B dL_law_2332 rfl rfl ?_
  refine pm_loc (L' := [some (.ref b), some (.ref (z + 0)), some (.ref (z + 140)), some (.ref (z + 149)), some (.ref (z + 150)), some (.int (nI i)), some (.int kc), none, none]) rfl ?_
  refine pm_aload_n B dL_law_2334 rfl ?_
  refine pm_aload_n B dL_law_2335 rfl ?_
  refine pm_iload B dL_law_2336 rfl ?_
  refine pm_iconst (v := 1) B dL_law_2338 (by decide) ?_
  refine pm_iadd B dL_law_2339 ?_
  refine pm_stk (st' := [.int (nI (i + 1)), .ref b, .ref (z + 140)]) (by rw [show (nI i : Int32) + 1 = nI (i + 1) from nI_add i 1]) ?_
  refine pm_sld B hXs hbz (i + 1) (by omega) (by omega) dL_law_2340 ?_
  refine pm_cV (As := [.int (xs (i + 1))]) (mc2 := 0) (ms2 := 0) B rfl hTM'.1 rfl hC1 mt_X13_lineCharacter sv_L_309 dL_law_2341 rfl hdX rfl (Nat.ble_eq_true_of_le (by omega)) (Nat.ble_eq_true_of_le (by omega)) ?_
  refine pm_stk (st' := [.int mv]) rfl ?_
  refine pm_istore B dL_law_2344 rfl rfl ?_
  refine pm_loc (L' := [some (.ref b), some (.ref (z + 0)), some (.ref (z + 140)), some (.ref (z + 149)), some (.ref (z + 150)), some (.int (nI i)), some (.int kc), some (.int mv), none]) rfl ?_
  have fin : pm_G l z D X (cu + mcW + 0 + 0) (su + msW + 0 + 0) Q n' M1 2623 [some (.ref b), some (.ref (z + 0)), some (.ref (z + 140)), some (.ref (z + 149)), some (.ref (z + 150)), some (.int (nI i)), some (.int kc), some (.int mv), none] [] := pm_widen (k1 := cu + 25) (n1 := su + 78) (by omega) (by omega) (pm_wk (L' := [some (.ref b), some (.ref (z + 0)), some (.ref (z + 140)), some (.ref (z + 149)), some (.ref (z + 150)), some (.int (nI i)), none, none, none]) ⟨rfl, rfl, rfl, rfl, rfl, rfl, trivial⟩ (next n' M1 hn' (pm_Jn (by omega) hT' hT1 hL' h149' (h150'.trans h150) hR2 hF1)))
  refine pm_aload_n B dL_law_2346 rfl ?_
  refine pm_cV (As := []) (mc2 := 0) (ms2 := 0) B rfl hT1.1 rfl (c_X13_thrown hT1.1) mt_X13_thrown sv_L_154 dL_law_2347 rfl rfl rfl (Nat.ble_eq_true_of_le (by omega)) (Nat.ble_eq_true_of_le (by omega)) ?_
  refine pm_stk (st' := [.int (h2.1 6)]) rfl ?_
  refine pm_iload B dL_law_2350 rfl ?_
  refine pm_icmp_eq (tgt := 2357) B dL_law_2352 (by decide) (fun _ => ?_) (fun hne => absurd e6 hne)
  refine pm_iload B dL_law_2357 rfl ?_
  refine pm_if_ne (tgt := 2374) B dL_law_2359 (by decide) (fun _ => ?_) (fun hk0 => ?_)
  · exact pm_goto (tgt := 2623) B dL_law_2374 (by decide) fin
  refine pm_aload_n B dL_law_2362 rfl ?_
  refine pm_iconst (v := 0) B dL_law_2363 (by decide) ?_
  refine pm_lald_n B dL_law_2364 ((hF1 _ (Or.inr (by decide))).trans h149') 0 (by decide) (by decide) ?_
  refine pm_iload B dL_law_2365 rfl ?_
  refine pm_i2l B dL_law_2367 ?_
  refine pm_lcmp B dL_law_2368 ?_
  refine pm_if_eq (tgt := 2374) B dL_law_2369 (by decide) (fun _ => ?_) (fun hne => absurd (pm_lcmp0 ((hV hk0).trans (by rw [e7 hk0]))) hne)
  exact pm_goto (tgt := 2623) B dL_law_2374 (by decide) fin
theorem ss_L_310 : pm_SS RL 310 yL_denial := ⟨pm_T_in 1586 (by decide +kernel) (by decide +kernel), pm_T_in 1587 (by decide +kernel) (by decide +kernel)⟩
set_option maxHeartbeats 1000000 in
theorem pm_lw_46 {l : Launch} {z : Nat} {D : va_G} {kA : Nat → ClassId} {kE : Nat → Nat} {nm : String} {tb : List ExceptionTableEntry} {mc ms : Nat} {X : pm_X} {cu su : Nat} {Q : State → Prop} {nx : Nat} {M : pm_M} {b N i Bd Bd2 : Nat} {xs : Nat → Int32} {g : pm_Cs} {h h2 : pm_Ms} {L : Int32 × Int32 × Int32} {fo : Nat → Int64} {fd : Nat → UInt64} {R : Int32 → Int32 → pm_Cs → Int32 × Int32 × Int32 → Prop} {mv : Int32} {dW mcW msW dX : Nat} (hdW : Nat.ble (dW + 1) 2048 = true) (hmW : mcW ≤ 25) (hsW : msW ≤ 78) (hdX : Nat.ble (dX + 1) 2048 = true) (B : pm_B l z D kA kE RL code 9 ret nm tb 2048 mc ms X) (hXs : va_X b N xs X.2.2.2.1 X.2.2.2.1.heap) (hbz : b < z) (hiN : i + 4 ≤ N) (hN : N ≤ 2048) (hcu : cu + 25 ≤ mc) (hsu : su + 78 ≤ ms) (hnx : 151 ≤ nx) (hT : pm_TC z kA kE M g) (h150 : M 150 = some (.inl (kA 2, 1, .inr (.inr (.inr (.inl fd))))))
    (hW : pm_Cw l z D kA kE yL_denial cL_denial 3 (some .int) [(0, 8, 11, 36)] dW mcW msW [.ref (z + 0), .ref (z + 149)] nx M (pm_oA z kA kE nx M h (fun fo' v => fo' 0 = v.toInt64) R)) (hX : pm_xm l z D kA kE yX13_denial cX13_denial 1 (some .int) dX [] h h2 (.int mv)) (hS : ∀ kc v g' L', R kc v g' L' → h2.1 6 = kc ∧ (kc = 0 → v = mv) ∧ pm_Rel Bd2 g' h2 L')
    (next : ∀ nx' M', nx ≤ nx' → pm_J z kA kE nx' M' Bd2 → pm_G l z D X (cu + 25) (su + 78) Q nx' M' 2623 [some (.ref b), some (.ref (z + 0)), some (.ref (z + 140)), some (.ref (z + 149)), some (.ref (z + 150)), some (.int (nI i)), none, none, none] []) : pm_G l z D X cu su Q nx M 2377 [some (.ref b), some (.ref (z + 0)), some (.ref (z + 140)), some (.ref (z + 149)), some (.ref (z + 150)), some (.int (nI i)), none, none, none] [] := by
  refine pm_aload_n B dL_law_2377 rfl ?_
  refine pm_aload_n B dL_law_2378 rfl ?_
  refine pm_cSW (As := [.ref (z + 0), .ref (z + 149)]) (mc2 := mcW) (ms2 := msW) B hW mt_L_denial ss_L_310 dL_law_2379 rfl hdW rfl (Nat.ble_eq_true_of_le (by omega)) (Nat.ble_eq_true_of_le (by omega)) (fun E n' M' hp => (pm_oA_no hp).elim) (fun u n' M' hp => ?_)
  obtain ⟨kc, v, g', L', fo', ho, hn', hT', hL', hTM', h149', h150', hV, hR'⟩ := hp
  obtain rfl : u = some (.int kc) := Sum.inl.inj ho
  obtain ⟨e6, e7, hR2⟩ := hS kc v g' L' hR'
  obtain ⟨M1, hC1, hT1, hF1⟩ := hX n' M' hTM'
  refine pm_stk (st' := [.int kc]) rfl ?_
  refine pm_istore B dL_law_2382 rfl rfl ?_
  refine pm_loc (L' := [some (.ref b), some (.ref (z + 0)), some (.ref (z + 140)), some (.ref (z + 149)), some (.ref (z + 150)), some (.int (nI i)), some (.int kc), none, none]) rfl ?_
  refine pm_aload_n B dL_law_2384 rfl ?_
  refine pm_cV (As := []) (mc2 := 0) (ms2 := 0) B rfl hTM'.1 rfl hC1 mt_X13_denial sv_L_312 dL_law_2385 rfl hdX rfl (Nat.ble_eq_true_of_le (by omega)) (Nat.ble_eq_true_of_le (by omega)) ?_
  refine pm_stk (st' := [.int mv]) rfl ?_
  refine pm_istore B dL_law_2388 rfl rfl ?_
  refine pm_loc (L' := [some (.ref b), some (.ref (z + 0)), some (.ref (z + 140)), some (.ref (z + 149)), some (.ref (z + 150)), some (.int (nI i)), some (.int kc), some (.int mv), none]) rfl ?_
  have fin : pm_G l z D X (cu + mcW + 0 + 0) (su + msW + 0 + 0) Q n' M1 2623 [some (.ref b), some (.ref (z + 0)), some (.ref (z + 140)), some (.ref (z + 149)), some (.ref (z + 150)), some (.int (nI i)), some (.int kc), some (.int mv), none] [] := pm_widen (k1 := cu + 25) (n1 := su + 78) (by omega) (by omega) (pm_wk (L' := [some (.ref b), some (.ref (z + 0)), some (.ref (z + 140)), some (.ref (z + 149)), some (.ref (z + 150)), some (.int (nI i)), none, none, none]) ⟨rfl, rfl, rfl, rfl, rfl, rfl, trivial⟩ (next n' M1 hn' (pm_Jn (by omega) hT' hT1 hL' h149' (h150'.trans h150) hR2 hF1)))
  refine pm_aload_n B dL_law_2390 rfl ?_
  refine pm_cV (As := []) (mc2 := 0) (ms2 := 0) B rfl hT1.1 rfl (c_X13_thrown hT1.1) mt_X13_thrown sv_L_154 dL_law_2391 rfl rfl rfl (Nat.ble_eq_true_of_le (by omega)) (Nat.ble_eq_true_of_le (by omega)) ?_
  refine pm_stk (st' := [.int (h2.1 6)]) rfl ?_
  refine pm_iload B dL_law_2394 rfl ?_
  refine pm_icmp_eq (tgt := 2401) B dL_law_2396 (by decide) (fun _ => ?_) (fun hne => absurd e6 hne)
  refine pm_iload B dL_law_2401 rfl ?_
  refine pm_if_ne (tgt := 2418) B dL_law_2403 (by decide) (fun _ => ?_) (fun hk0 => ?_)
  · exact pm_goto (tgt := 2623) B dL_law_2418 (by decide) fin
  refine pm_aload_n B dL_law_2406 rfl ?_
  refine pm_iconst (v := 0) B dL_law_2407 (by decide) ?_
  refine pm_lald_n B dL_law_2408 ((hF1 _ (Or.inr (by decide))).trans h149') 0 (by decide) (by decide) ?_
  refine pm_iload B dL_law_2409 rfl ?_
  refine pm_i2l B dL_law_2411 ?_
  refine pm_lcmp B dL_law_2412 ?_
  refine pm_if_eq (tgt := 2418) B dL_law_2413 (by decide) (fun _ => ?_) (fun hne => absurd (pm_lcmp0 ((hV hk0).trans (by rw [e7 hk0]))) hne)
  exact pm_goto (tgt := 2623) B dL_law_2418 (by decide) fin
theorem ss_L_313 : pm_SS RL 313 yL_denialDetail := ⟨pm_T_in 1594 (by decide +kernel) (by decide +kernel), pm_T_in 1595 (by decide +kernel) (by decide +kernel)⟩
set_option maxHeartbeats 1000000 in
theorem pm_lw_47 {l : Launch} {z : Nat} {D : va_G} {kA : Nat → ClassId} {kE : Nat → Nat} {nm : String} {tb : List ExceptionTableEntry} {mc ms : Nat} {X : pm_X} {cu su : Nat} {Q : State → Prop} {nx : Nat} {M : pm_M} {b N i Bd Bd2 : Nat} {xs : Nat → Int32} {g : pm_Cs} {h h2 : pm_Ms} {L : Int32 × Int32 × Int32} {fo : Nat → Int64} {fd : Nat → UInt64} {R : Int32 → Int32 → pm_Cs → Int32 × Int32 × Int32 → Prop} {mv : Int32} {dW mcW msW dX : Nat} (hdW : Nat.ble (dW + 1) 2048 = true) (hmW : mcW ≤ 25) (hsW : msW ≤ 78) (hdX : Nat.ble (dX + 1) 2048 = true) (B : pm_B l z D kA kE RL code 9 ret nm tb 2048 mc ms X) (hXs : va_X b N xs X.2.2.2.1 X.2.2.2.1.heap) (hbz : b < z) (hiN : i + 4 ≤ N) (hN : N ≤ 2048) (hcu : cu + 25 ≤ mc) (hsu : su + 78 ≤ ms) (hnx : 151 ≤ nx) (hT : pm_TC z kA kE M g) (h150 : M 150 = some (.inl (kA 2, 1, .inr (.inr (.inr (.inl fd))))))
    (hW : pm_Cw l z D kA kE yL_denialDetail cL_denialDetail 3 (some .int) [(0, 8, 11, 36)] dW mcW msW [.ref (z + 0), .ref (z + 149)] nx M (pm_oA z kA kE nx M h (fun fo' v => fo' 0 = v.toInt64) R)) (hX : pm_xm l z D kA kE yX13_denialDetail cX13_denialDetail 1 (some .int) dX [] h h2 (.int mv)) (hS : ∀ kc v g' L', R kc v g' L' → h2.1 6 = kc ∧ (kc = 0 → v = mv) ∧ pm_Rel Bd2 g' h2 L')
    (next : ∀ nx' M', nx ≤ nx' → pm_J z kA kE nx' M' Bd2 → pm_G l z D X (cu + 25) (su + 78) Q nx' M' 2623 [some (.ref b), some (.ref (z + 0)), some (.ref (z + 140)), some (.ref (z + 149)), some (.ref (z + 150)), some (.int (nI i)), none, none, none] []) : pm_G l z D X cu su Q nx M 2421 [some (.ref b), some (.ref (z + 0)), some (.ref (z + 140)), some (.ref (z + 149)), some (.ref (z + 150)), some (.int (nI i)), none, none, none] [] := by
  refine pm_aload_n B dL_law_2421 rfl ?_
  refine pm_aload_n B dL_law_2422 rfl ?_
  refine pm_cSW (As := [.ref (z + 0), .ref (z + 149)]) (mc2 := mcW) (ms2 := msW) B hW mt_L_denialDetail ss_L_313 dL_law_2423 rfl hdW rfl (Nat.ble_eq_true_of_le (by omega)) (Nat.ble_eq_true_of_le (by omega)) (fun E n' M' hp => (pm_oA_no hp).elim) (fun u n' M' hp => ?_)
  obtain ⟨kc, v, g', L', fo', ho, hn', hT', hL', hTM', h149', h150', hV, hR'⟩ := hp
  obtain rfl : u = some (.int kc) := Sum.inl.inj ho
  obtain ⟨e6, e7, hR2⟩ := hS kc v g' L' hR'
  obtain ⟨M1, hC1, hT1, hF1⟩ := hX n' M' hTM'
  refine pm_stk (st' := [.int kc]) rfl ?_
  refine pm_istore B dL_law_2426 rfl rfl ?_
  refine pm_loc (L' := [some (.ref b), some (.ref (z + 0)), some (.ref (z + 140)), some (.ref (z + 149)), some (.ref (z + 150)), some (.int (nI i)), some (.int kc), none, none]) rfl ?_
  refine pm_aload_n B dL_law_2428 rfl ?_
  refine pm_cV (As := []) (mc2 := 0) (ms2 := 0) B rfl hTM'.1 rfl hC1 mt_X13_denialDetail sv_L_315 dL_law_2429 rfl hdX rfl (Nat.ble_eq_true_of_le (by omega)) (Nat.ble_eq_true_of_le (by omega)) ?_
  refine pm_stk (st' := [.int mv]) rfl ?_
  refine pm_istore B dL_law_2432 rfl rfl ?_
  refine pm_loc (L' := [some (.ref b), some (.ref (z + 0)), some (.ref (z + 140)), some (.ref (z + 149)), some (.ref (z + 150)), some (.int (nI i)), some (.int kc), some (.int mv), none]) rfl ?_
  have fin : pm_G l z D X (cu + mcW + 0 + 0) (su + msW + 0 + 0) Q n' M1 2623 [some (.ref b), some (.ref (z + 0)), some (.ref (z + 140)), some (.ref (z + 149)), some (.ref (z + 150)), some (.int (nI i)), some (.int kc), some (.int mv), none] [] := pm_widen (k1 := cu + 25) (n1 := su + 78) (by omega) (by omega) (pm_wk (L' := [some (.ref b), some (.ref (z + 0)), some (.ref (z + 140)), some (.ref (z + 149)), some (.ref (z + 150)), some (.int (nI i)), none, none, none]) ⟨rfl, rfl, rfl, rfl, rfl, rfl, trivial⟩ (next n' M1 hn' (pm_Jn (by omega) hT' hT1 hL' h149' (h150'.trans h150) hR2 hF1)))
  refine pm_aload_n B dL_law_2434 rfl ?_
  refine pm_cV (As := []) (mc2 := 0) (ms2 := 0) B rfl hT1.1 rfl (c_X13_thrown hT1.1) mt_X13_thrown sv_L_154 dL_law_2435 rfl rfl rfl (Nat.ble_eq_true_of_le (by omega)) (Nat.ble_eq_true_of_le (by omega)) ?_
  refine pm_stk (st' := [.int (h2.1 6)]) rfl ?_
  refine pm_iload B dL_law_2438 rfl ?_
  refine pm_icmp_eq (tgt := 2445) B dL_law_2440 (by decide) (fun _ => ?_) (fun hne => absurd e6 hne)
  refine pm_iload B dL_law_2445 rfl ?_
  refine pm_if_ne (tgt := 2462) B dL_law_2447 (by decide) (fun _ => ?_) (fun hk0 => ?_)
  · exact pm_goto (tgt := 2623) B dL_law_2462 (by decide) fin
  refine pm_aload_n B dL_law_2450 rfl ?_
  refine pm_iconst (v := 0) B dL_law_2451 (by decide) ?_
  refine pm_lald_n B dL_law_2452 ((hF1 _ (Or.inr (by decide))).trans h149') 0 (by decide) (by decide) ?_
  refine pm_iload B dL_law_2453 rfl ?_
  refine pm_i2l B dL_law_2455 ?_
  refine pm_lcmp B dL_law_2456 ?_
  refine pm_if_eq (tgt := 2462) B dL_law_2457 (by decide) (fun _ => ?_) (fun hne => absurd (pm_lcmp0 ((hV hk0).trans (by rw [e7 hk0]))) hne)
  exact pm_goto (tgt := 2623) B dL_law_2462 (by decide) fin
theorem ss_L_316 : pm_SS RL 316 yL_denialCause := ⟨pm_T_in 1601 (by decide +kernel) (by decide +kernel), pm_T_in 1602 (by decide +kernel) (by decide +kernel)⟩
set_option maxHeartbeats 1000000 in
theorem pm_lw_48 {l : Launch} {z : Nat} {D : va_G} {kA : Nat → ClassId} {kE : Nat → Nat} {nm : String} {tb : List ExceptionTableEntry} {mc ms : Nat} {X : pm_X} {cu su : Nat} {Q : State → Prop} {nx : Nat} {M : pm_M} {b N i Bd Bd2 : Nat} {xs : Nat → Int32} {g : pm_Cs} {h h2 : pm_Ms} {L : Int32 × Int32 × Int32} {fo : Nat → Int64} {fd : Nat → UInt64} {R : Int32 → Int32 → pm_Cs → Int32 × Int32 × Int32 → Prop} {mv : Int32} {dW mcW msW dX : Nat} (hdW : Nat.ble (dW + 1) 2048 = true) (hmW : mcW ≤ 25) (hsW : msW ≤ 78) (hdX : Nat.ble (dX + 1) 2048 = true) (B : pm_B l z D kA kE RL code 9 ret nm tb 2048 mc ms X) (hXs : va_X b N xs X.2.2.2.1 X.2.2.2.1.heap) (hbz : b < z) (hiN : i + 4 ≤ N) (hN : N ≤ 2048) (hcu : cu + 25 ≤ mc) (hsu : su + 78 ≤ ms) (hnx : 151 ≤ nx) (hT : pm_TC z kA kE M g) (h150 : M 150 = some (.inl (kA 2, 1, .inr (.inr (.inr (.inl fd))))))
    (hW : pm_Cw l z D kA kE yL_denialCause cL_denialCause 3 (some .int) [(0, 8, 11, 36)] dW mcW msW [.ref (z + 0), .ref (z + 149)] nx M (pm_oA z kA kE nx M h (fun fo' v => fo' 0 = v.toInt64) R)) (hX : pm_xm l z D kA kE yX13_denialCause cX13_denialCause 1 (some .int) dX [] h h2 (.int mv)) (hS : ∀ kc v g' L', R kc v g' L' → h2.1 6 = kc ∧ (kc = 0 → v = mv) ∧ pm_Rel Bd2 g' h2 L')
    (next : ∀ nx' M', nx ≤ nx' → pm_J z kA kE nx' M' Bd2 → pm_G l z D X (cu + 25) (su + 78) Q nx' M' 2623 [some (.ref b), some (.ref (z + 0)), some (.ref (z + 140)), some (.ref (z + 149)), some (.ref (z + 150)), some (.int (nI i)), none, none, none] []) : pm_G l z D X cu su Q nx M 2465 [some (.ref b), some (.ref (z + 0)), some (.ref (z + 140)), some (.ref (z + 149)), some (.ref (z + 150)), some (.int (nI i)), none, none, none] [] := by
  refine pm_aload_n B dL_law_2465 rfl ?_
  refine pm_aload_n B dL_law_2466 rfl ?_
  refine pm_cSW (As := [.ref (z + 0), .ref (z + 149)]) (mc2 := mcW) (ms2 := msW) B hW mt_L_denialCause ss_L_316 dL_law_2467 rfl hdW rfl (Nat.ble_eq_true_of_le (by omega)) (Nat.ble_eq_true_of_le (by omega)) (fun E n' M' hp => (pm_oA_no hp).elim) (fun u n' M' hp => ?_)
  obtain ⟨kc, v, g', L', fo', ho, hn', hT', hL', hTM', h149', h150', hV, hR'⟩ := hp
  obtain rfl : u = some (.int kc) := Sum.inl.inj ho
  obtain ⟨e6, e7, hR2⟩ := hS kc v g' L' hR'
  obtain ⟨M1, hC1, hT1, hF1⟩ := hX n' M' hTM'
  refine pm_stk (st' := [.int kc]) rfl ?_
  refine pm_istore B dL_law_2470 rfl rfl ?_
  refine pm_loc (L' := [some (.ref b), some (.ref (z + 0)), some (.ref (z + 140)), some (.ref (z + 149)), some (.ref (z + 150)), some (.int (nI i)), some (.int kc), none, none]) rfl ?_
  refine pm_aload_n B dL_law_2472 rfl ?_
  refine pm_cV (As := []) (mc2 := 0) (ms2 := 0) B rfl hTM'.1 rfl hC1 mt_X13_denialCause sv_L_318 dL_law_2473 rfl hdX rfl (Nat.ble_eq_true_of_le (by omega)) (Nat.ble_eq_true_of_le (by omega)) ?_
  refine pm_stk (st' := [.int mv]) rfl ?_
  refine pm_istore B dL_law_2476 rfl rfl ?_
  refine pm_loc (L' := [some (.ref b), some (.ref (z + 0)), some (.ref (z + 140)), some (.ref (z + 149)), some (.ref (z + 150)), some (.int (nI i)), some (.int kc), some (.int mv), none]) rfl ?_
  have fin : pm_G l z D X (cu + mcW + 0 + 0) (su + msW + 0 + 0) Q n' M1 2623 [some (.ref b), some (.ref (z + 0)), some (.ref (z + 140)), some (.ref (z + 149)), some (.ref (z + 150)), some (.int (nI i)), some (.int kc), some (.int mv), none] [] := pm_widen (k1 := cu + 25) (n1 := su + 78) (by omega) (by omega) (pm_wk (L' := [some (.ref b), some (.ref (z + 0)), some (.ref (z + 140)), some (.ref (z + 149)), some (.ref (z + 150)), some (.int (nI i)), none, none, none]) ⟨rfl, rfl, rfl, rfl, rfl, rfl, trivial⟩ (next n' M1 hn' (pm_Jn (by omega) hT' hT1 hL' h149' (h150'.trans h150) hR2 hF1)))
  refine pm_aload_n B dL_law_2478 rfl ?_
  refine pm_cV (As := []) (mc2 := 0) (ms2 := 0) B rfl hT1.1 rfl (c_X13_thrown hT1.1) mt_X13_thrown sv_L_154 dL_law_2479 rfl rfl rfl (Nat.ble_eq_true_of_le (by omega)) (Nat.ble_eq_true_of_le (by omega)) ?_
  refine pm_stk (st' := [.int (h2.1 6)]) rfl ?_
  refine pm_iload B dL_law_2482 rfl ?_
  refine pm_icmp_eq (tgt := 2489) B dL_law_2484 (by decide) (fun _ => ?_) (fun hne => absurd e6 hne)
  refine pm_iload B dL_law_2489 rfl ?_
  refine pm_if_ne (tgt := 2506) B dL_law_2491 (by decide) (fun _ => ?_) (fun hk0 => ?_)
  · exact pm_goto (tgt := 2623) B dL_law_2506 (by decide) fin
  refine pm_aload_n B dL_law_2494 rfl ?_
  refine pm_iconst (v := 0) B dL_law_2495 (by decide) ?_
  refine pm_lald_n B dL_law_2496 ((hF1 _ (Or.inr (by decide))).trans h149') 0 (by decide) (by decide) ?_
  refine pm_iload B dL_law_2497 rfl ?_
  refine pm_i2l B dL_law_2499 ?_
  refine pm_lcmp B dL_law_2500 ?_
  refine pm_if_eq (tgt := 2506) B dL_law_2501 (by decide) (fun _ => ?_) (fun hne => absurd (pm_lcmp0 ((hV hk0).trans (by rw [e7 hk0]))) hne)
  exact pm_goto (tgt := 2623) B dL_law_2506 (by decide) fin
theorem ss_L_319 : pm_SS RL 319 yL_undo := ⟨pm_T_in 1609 (by decide +kernel) (by decide +kernel), pm_T_in 1610 (by decide +kernel) (by decide +kernel)⟩
set_option maxHeartbeats 1000000 in
theorem pm_lw_49 {l : Launch} {z : Nat} {D : va_G} {kA : Nat → ClassId} {kE : Nat → Nat} {nm : String} {tb : List ExceptionTableEntry} {mc ms : Nat} {X : pm_X} {cu su : Nat} {Q : State → Prop} {nx : Nat} {M : pm_M} {b N i Bd Bd2 : Nat} {xs : Nat → Int32} {g : pm_Cs} {h h2 : pm_Ms} {L : Int32 × Int32 × Int32} {fo : Nat → Int64} {fd : Nat → UInt64} {R : Int32 → Int32 → pm_Cs → Int32 × Int32 × Int32 → Prop} {mv : Int32} {dW mcW msW dX : Nat} (hdW : Nat.ble (dW + 1) 2048 = true) (hmW : mcW ≤ 25) (hsW : msW ≤ 78) (hdX : Nat.ble (dX + 1) 2048 = true) (B : pm_B l z D kA kE RL code 9 ret nm tb 2048 mc ms X) (hXs : va_X b N xs X.2.2.2.1 X.2.2.2.1.heap) (hbz : b < z) (hiN : i + 4 ≤ N) (hN : N ≤ 2048) (hcu : cu + 25 ≤ mc) (hsu : su + 78 ≤ ms) (hnx : 151 ≤ nx) (hT : pm_TC z kA kE M g) (h150 : M 150 = some (.inl (kA 2, 1, .inr (.inr (.inr (.inl fd))))))
    (hW : pm_Cw l z D kA kE yL_undo cL_undo 3 (some .int) [(0, 8, 11, 114)] dW mcW msW [.ref (z + 0), .ref (z + 149)] nx M (pm_oA z kA kE nx M h (fun fo' v => fo' 0 = v.toInt64) R)) (hX : pm_xm l z D kA kE yX13_undo cX13_undo 1 (some .int) dX [] h h2 (.int mv)) (hS : ∀ kc v g' L', R kc v g' L' → h2.1 6 = kc ∧ (kc = 0 → v = mv) ∧ pm_Rel Bd2 g' h2 L')
    (next : ∀ nx' M', nx ≤ nx' → pm_J z kA kE nx' M' Bd2 → pm_G l z D X (cu + 25) (su + 78) Q nx' M' 2623 [some (.ref b), some (.ref (z + 0)), some (.ref (z + 140)), some (.ref (z + 149)), some (.ref (z + 150)), some (.int (nI i)), none, none, none] []) : pm_G l z D X cu su Q nx M 2509 [some (.ref b), some (.ref (z + 0)), some (.ref (z + 140)), some (.ref (z + 149)), some (.ref (z + 150)), some (.int (nI i)), none, none, none] [] := by
  refine pm_aload_n B dL_law_2509 rfl ?_
  refine pm_aload_n B dL_law_2510 rfl ?_
  refine pm_cSW (As := [.ref (z + 0), .ref (z + 149)]) (mc2 := mcW) (ms2 := msW) B hW mt_L_undo ss_L_319 dL_law_2511 rfl hdW rfl (Nat.ble_eq_true_of_le (by omega)) (Nat.ble_eq_true_of_le (by omega)) (fun E n' M' hp => (pm_oA_no hp).elim) (fun u n' M' hp => ?_)
  obtain ⟨kc, v, g', L', fo', ho, hn', hT', hL', hTM', h149', h150', hV, hR'⟩ := hp
  obtain rfl : u = some (.int kc) := Sum.inl.inj ho
  obtain ⟨e6, e7, hR2⟩ := hS kc v g' L' hR'
  obtain ⟨M1, hC1, hT1, hF1⟩ := hX n' M' hTM'
  refine pm_stk (st' := [.int kc]) rfl ?_
  refine pm_istore B dL_law_2514 rfl rfl ?_
  refine pm_loc (L' := [some (.ref b), some (.ref (z + 0)), some (.ref (z + 140)), some (.ref (z + 149)), some (.ref (z + 150)), some (.int (nI i)), some (.int kc), none, none]) rfl ?_
  refine pm_aload_n B dL_law_2516 rfl ?_
  refine pm_cV (As := []) (mc2 := 0) (ms2 := 0) B rfl hTM'.1 rfl hC1 mt_X13_undo sv_L_321 dL_law_2517 rfl hdX rfl (Nat.ble_eq_true_of_le (by omega)) (Nat.ble_eq_true_of_le (by omega)) ?_
  refine pm_stk (st' := [.int mv]) rfl ?_
  refine pm_istore B dL_law_2520 rfl rfl ?_
  refine pm_loc (L' := [some (.ref b), some (.ref (z + 0)), some (.ref (z + 140)), some (.ref (z + 149)), some (.ref (z + 150)), some (.int (nI i)), some (.int kc), some (.int mv), none]) rfl ?_
  have fin : pm_G l z D X (cu + mcW + 0 + 0) (su + msW + 0 + 0) Q n' M1 2623 [some (.ref b), some (.ref (z + 0)), some (.ref (z + 140)), some (.ref (z + 149)), some (.ref (z + 150)), some (.int (nI i)), some (.int kc), some (.int mv), none] [] := pm_widen (k1 := cu + 25) (n1 := su + 78) (by omega) (by omega) (pm_wk (L' := [some (.ref b), some (.ref (z + 0)), some (.ref (z + 140)), some (.ref (z + 149)), some (.ref (z + 150)), some (.int (nI i)), none, none, none]) ⟨rfl, rfl, rfl, rfl, rfl, rfl, trivial⟩ (next n' M1 hn' (pm_Jn (by omega) hT' hT1 hL' h149' (h150'.trans h150) hR2 hF1)))
  refine pm_aload_n B dL_law_2522 rfl ?_
  refine pm_cV (As := []) (mc2 := 0) (ms2 := 0) B rfl hT1.1 rfl (c_X13_thrown hT1.1) mt_X13_thrown sv_L_154 dL_law_2523 rfl rfl rfl (Nat.ble_eq_true_of_le (by omega)) (Nat.ble_eq_true_of_le (by omega)) ?_
  refine pm_stk (st' := [.int (h2.1 6)]) rfl ?_
  refine pm_iload B dL_law_2526 rfl ?_
  refine pm_icmp_eq (tgt := 2533) B dL_law_2528 (by decide) (fun _ => ?_) (fun hne => absurd e6 hne)
  refine pm_iload B dL_law_2533 rfl ?_
  refine pm_if_ne (tgt := 2550) B dL_law_2535 (by decide) (fun _ => ?_) (fun hk0 => ?_)
  · exact pm_goto (tgt := 2623) B dL_law_2550 (by decide) fin
  refine pm_aload_n B dL_law_2538 rfl ?_
  refine pm_iconst (v := 0) B dL_law_2539 (by decide) ?_
  refine pm_lald_n B dL_law_2540 ((hF1 _ (Or.inr (by decide))).trans h149') 0 (by decide) (by decide) ?_
  refine pm_iload B dL_law_2541 rfl ?_
  refine pm_i2l B dL_law_2543 ?_
  refine pm_lcmp B dL_law_2544 ?_
  refine pm_if_eq (tgt := 2550) B dL_law_2545 (by decide) (fun _ => ?_) (fun hne => absurd (pm_lcmp0 ((hV hk0).trans (by rw [e7 hk0]))) hne)
  exact pm_goto (tgt := 2623) B dL_law_2550 (by decide) fin
set_option maxHeartbeats 1000000 in
theorem pm_lw_50 {l : Launch} {z : Nat} {D : va_G} {kA : Nat → ClassId} {kE : Nat → Nat} {nm : String} {tb : List ExceptionTableEntry} {mc ms : Nat} {X : pm_X} {cu su : Nat} {Q : State → Prop} {nx : Nat} {M : pm_M} {b N i Bd Bd2 : Nat} {xs : Nat → Int32} {g : pm_Cs} {h h2 : pm_Ms} {L : Int32 × Int32 × Int32} {fo : Nat → Int64} {fd : Nat → UInt64} {R : Int32 → Int32 → pm_Cs → Int32 × Int32 × Int32 → Prop} {mv : Int32} {dW mcW msW dX : Nat} (hdW : Nat.ble (dW + 1) 2048 = true) (hmW : mcW ≤ 25) (hsW : msW ≤ 78) (hdX : Nat.ble (dX + 1) 2048 = true) (B : pm_B l z D kA kE RL code 9 ret nm tb 2048 mc ms X) (hcu : cu + 25 ≤ mc) (hsu : su + 78 ≤ ms) (hnx : 151 ≤ nx) (hT : pm_TC z kA kE M g) (hTM : pm_TM z kA M h) (h149 : M 149 = some (.inl (kA 1, 1, .inr (.inl fo)))) (h150 : M 150 = some (.inl (kA 2, 1, .inr (.inr (.inr (.inl fd))))))
    (hC : pm_C l z D kA kE yX12_undoCount cX12_undoCount 1 (some .int) dW mcW msW [.ref (z + 0)] nx M (pm_cl2 z kA kE nx M [] R)) (hX : pm_xm l z D kA kE yX13_undoCount cX13_undoCount 1 (some .int) dX [] h h2 (.int mv)) (hS : ∀ v g' L', R 0 v g' L' → v = mv ∧ pm_Rel Bd2 g' h2 L')
    (next : ∀ nx' M', nx ≤ nx' → pm_J z kA kE nx' M' Bd2 → pm_G l z D X (cu + 25) (su + 78) Q nx' M' 2623 [some (.ref b), some (.ref (z + 0)), some (.ref (z + 140)), some (.ref (z + 149)), some (.ref (z + 150)), some (.int (nI i)), none, none, none] []) : pm_G l z D X cu su Q nx M 2553 [some (.ref b), some (.ref (z + 0)), some (.ref (z + 140)), some (.ref (z + 149)), some (.ref (z + 150)), some (.int (nI i)), none, none, none] [] := by
  refine pm_aload_n B dL_law_2553 rfl ?_
  refine pm_callV (As := []) (mc2 := mcW) (ms2 := msW) (d2 := dW) B rfl hT.1 rfl hC mt_X12_undoCount sv_L_322 dL_law_2554 rfl hdW rfl (Nat.ble_eq_true_of_le (by omega)) (Nat.ble_eq_true_of_le (by omega)) (fun E n' M' hp => ?_) (fun u n' M' hp => ?_)
  · obtain ⟨e, he, _⟩ := pm_clE hp
    cases he
  obtain ⟨hF, hn', g', L', hT', hL', hv⟩ := hp
  obtain ⟨v, hv, hR'⟩ : ∃ v, u = some (.int v) ∧ R 0 v g' L' := by
    rcases hv with ⟨v, hv, hR⟩ | ⟨e, he, _⟩
    · exact ⟨v, Sum.inl.inj hv, hR⟩
    · cases he
  subst hv
  obtain ⟨e7, hR2⟩ := hS v g' L' hR'
  obtain ⟨M1, hC1, hT1, hF1⟩ := hX n' M' (pm_TM_keep hTM (fun x h1 h2 => hF x h1 (by omega)))
  refine pm_stk (st' := [.int v]) rfl ?_
  refine pm_aload_n B dL_law_2557 rfl ?_
  refine pm_cV (As := []) (mc2 := 0) (ms2 := 0) B rfl ((hF _ (by decide) (by omega)).trans hTM.1) rfl hC1 mt_X13_undoCount sv_L_325 dL_law_2558 rfl hdX rfl (Nat.ble_eq_true_of_le (by omega)) (Nat.ble_eq_true_of_le (by omega)) ?_
  refine pm_stk (st' := [.int mv, .int v]) rfl ?_
  refine pm_icmp_eq (tgt := 2623) B dL_law_2561 (by decide) (fun _ => ?_) (fun hne => absurd e7 hne)
  exact pm_widen (k1 := cu + 25) (n1 := su + 78) (by omega) (by omega) (next n' M1 hn' (pm_Jn (by omega) hT' hT1 hL' ((hF _ (by decide) (by omega)).trans h149) ((hF _ (by decide) (by omega)).trans h150) hR2 hF1))
set_option maxHeartbeats 1000000 in
theorem pm_lw_51 {l : Launch} {z : Nat} {D : va_G} {kA : Nat → ClassId} {kE : Nat → Nat} {nm : String} {tb : List ExceptionTableEntry} {mc ms : Nat} {X : pm_X} {cu su : Nat} {Q : State → Prop} {nx : Nat} {M : pm_M} {b N i Bd Bd2 : Nat} {xs : Nat → Int32} {g : pm_Cs} {h h2 : pm_Ms} {L : Int32 × Int32 × Int32} {fo : Nat → Int64} {fd : Nat → UInt64} {R : Int32 → Int32 → pm_Cs → Int32 × Int32 × Int32 → Prop} {mv : Int32} {dW mcW msW dX : Nat} (hdW : Nat.ble (dW + 1) 2048 = true) (hmW : mcW ≤ 25) (hsW : msW ≤ 78) (hdX : Nat.ble (dX + 1) 2048 = true) (B : pm_B l z D kA kE RL code 9 ret nm tb 2048 mc ms X) (hcu : cu + 25 ≤ mc) (hsu : su + 78 ≤ ms) (hnx : 151 ≤ nx) (hT : pm_TC z kA kE M g) (hTM : pm_TM z kA M h) (h149 : M 149 = some (.inl (kA 1, 1, .inr (.inl fo)))) (h150 : M 150 = some (.inl (kA 2, 1, .inr (.inr (.inr (.inl fd))))))
    (hC : pm_C l z D kA kE yX12_saveSnapshot cX12_saveSnapshot 1 (some .int) dW mcW msW [.ref (z + 0)] nx M (pm_cl2 z kA kE nx M [] R)) (hX : pm_xm l z D kA kE yX13_saveSnapshot cX13_saveSnapshot 1 (some .int) dX [] h h2 (.int mv)) (hS : ∀ v g' L', R 0 v g' L' → v = mv ∧ pm_Rel Bd2 g' h2 L')
    (next : ∀ nx' M', nx ≤ nx' → pm_J z kA kE nx' M' Bd2 → pm_G l z D X (cu + 25) (su + 78) Q nx' M' 2623 [some (.ref b), some (.ref (z + 0)), some (.ref (z + 140)), some (.ref (z + 149)), some (.ref (z + 150)), some (.int (nI i)), none, none, none] []) : pm_G l z D X cu su Q nx M 2566 [some (.ref b), some (.ref (z + 0)), some (.ref (z + 140)), some (.ref (z + 149)), some (.ref (z + 150)), some (.int (nI i)), none, none, none] [] := by
  refine pm_aload_n B dL_law_2566 rfl ?_
  refine pm_callV (As := []) (mc2 := mcW) (ms2 := msW) (d2 := dW) B rfl hT.1 rfl hC mt_X12_saveSnapshot sv_L_326 dL_law_2567 rfl hdW rfl (Nat.ble_eq_true_of_le (by omega)) (Nat.ble_eq_true_of_le (by omega)) (fun E n' M' hp => ?_) (fun u n' M' hp => ?_)
  · obtain ⟨e, he, _⟩ := pm_clE hp
    cases he
  obtain ⟨hF, hn', g', L', hT', hL', hv⟩ := hp
  obtain ⟨v, hv, hR'⟩ : ∃ v, u = some (.int v) ∧ R 0 v g' L' := by
    rcases hv with ⟨v, hv, hR⟩ | ⟨e, he, _⟩
    · exact ⟨v, Sum.inl.inj hv, hR⟩
    · cases he
  subst hv
  obtain ⟨e7, hR2⟩ := hS v g' L' hR'
  obtain ⟨M1, hC1, hT1, hF1⟩ := hX n' M' (pm_TM_keep hTM (fun x h1 h2 => hF x h1 (by omega)))
  refine pm_stk (st' := [.int v]) rfl ?_
  refine pm_aload_n B dL_law_2570 rfl ?_
  refine pm_cV (As := []) (mc2 := 0) (ms2 := 0) B rfl ((hF _ (by decide) (by omega)).trans hTM.1) rfl hC1 mt_X13_saveSnapshot sv_L_329 dL_law_2571 rfl hdX rfl (Nat.ble_eq_true_of_le (by omega)) (Nat.ble_eq_true_of_le (by omega)) ?_
  refine pm_stk (st' := [.int mv, .int v]) rfl ?_
  refine pm_icmp_eq (tgt := 2623) B dL_law_2574 (by decide) (fun _ => ?_) (fun hne => absurd e7 hne)
  exact pm_widen (k1 := cu + 25) (n1 := su + 78) (by omega) (by omega) (next n' M1 hn' (pm_Jn (by omega) hT' hT1 hL' ((hF _ (by decide) (by omega)).trans h149) ((hF _ (by decide) (by omega)).trans h150) hR2 hF1))
theorem ss_L_330 : pm_SS RL 330 yL_restoreSnapshot := ⟨pm_T_in 1621 (by decide +kernel) (by decide +kernel), pm_T_in 1622 (by decide +kernel) (by decide +kernel)⟩
set_option maxHeartbeats 1000000 in
theorem pm_lw_52 {l : Launch} {z : Nat} {D : va_G} {kA : Nat → ClassId} {kE : Nat → Nat} {nm : String} {tb : List ExceptionTableEntry} {mc ms : Nat} {X : pm_X} {cu su : Nat} {Q : State → Prop} {nx : Nat} {M : pm_M} {b N i Bd Bd2 : Nat} {xs : Nat → Int32} {g : pm_Cs} {h h2 : pm_Ms} {L : Int32 × Int32 × Int32} {fo : Nat → Int64} {fd : Nat → UInt64} {R : Int32 → Int32 → pm_Cs → Int32 × Int32 × Int32 → Prop} {mv : Int32} {dW mcW msW dX : Nat} (hdW : Nat.ble (dW + 1) 2048 = true) (hmW : mcW ≤ 25) (hsW : msW ≤ 78) (hdX : Nat.ble (dX + 1) 2048 = true) (B : pm_B l z D kA kE RL code 9 ret nm tb 2048 mc ms X) (hXs : va_X b N xs X.2.2.2.1 X.2.2.2.1.heap) (hbz : b < z) (hiN : i + 4 ≤ N) (hN : N ≤ 2048) (hcu : cu + 25 ≤ mc) (hsu : su + 78 ≤ ms) (hnx : 151 ≤ nx) (hT : pm_TC z kA kE M g) (h150 : M 150 = some (.inl (kA 2, 1, .inr (.inr (.inr (.inl fd))))))
    (hW : pm_Cw l z D kA kE yL_restoreSnapshot cL_restoreSnapshot 3 (some .int) [(0, 8, 11, 114)] dW mcW msW [.ref (z + 0), .ref (z + 149)] nx M (pm_oA z kA kE nx M h (fun fo' v => fo' 0 = v.toInt64) R)) (hX : pm_xm l z D kA kE yX13_restoreSnapshot cX13_restoreSnapshot 1 (some .int) dX [] h h2 (.int mv)) (hS : ∀ kc v g' L', R kc v g' L' → h2.1 6 = kc ∧ (kc = 0 → v = mv) ∧ pm_Rel Bd2 g' h2 L')
    (next : ∀ nx' M', nx ≤ nx' → pm_J z kA kE nx' M' Bd2 → pm_G l z D X (cu + 25) (su + 78) Q nx' M' 2623 [some (.ref b), some (.ref (z + 0)), some (.ref (z + 140)), some (.ref (z + 149)), some (.ref (z + 150)), some (.int (nI i)), none, none, none] []) : pm_G l z D X cu su Q nx M 2579 [some (.ref b), some (.ref (z + 0)), some (.ref (z + 140)), some (.ref (z + 149)), some (.ref (z + 150)), some (.int (nI i)), none, none, none] [] := by
  refine pm_aload_n B dL_law_2579 rfl ?_
  refine pm_aload_n B dL_law_2580 rfl ?_
  refine pm_cSW (As := [.ref (z + 0), .ref (z + 149)]) (mc2 := mcW) (ms2 := msW) B hW mt_L_restoreSnapshot ss_L_330 dL_law_2581 rfl hdW rfl (Nat.ble_eq_true_of_le (by omega)) (Nat.ble_eq_true_of_le (by omega)) (fun E n' M' hp => (pm_oA_no hp).elim) (fun u n' M' hp => ?_)
  obtain ⟨kc, v, g', L', fo', ho, hn', hT', hL', hTM', h149', h150', hV, hR'⟩ := hp
  obtain rfl : u = some (.int kc) := Sum.inl.inj ho
  obtain ⟨e6, e7, hR2⟩ := hS kc v g' L' hR'
  obtain ⟨M1, hC1, hT1, hF1⟩ := hX n' M' hTM'
  refine pm_stk (st' := [.int kc]) rfl ?_
  refine pm_istore B dL_law_2584 rfl rfl ?_
  refine pm_loc (L' := [some (.ref b), some (.ref (z + 0)), some (.ref (z + 140)), some (.ref (z + 149)), some (.ref (z + 150)), some (.int (nI i)), some (.int kc), none, none]) rfl ?_
  refine pm_aload_n B dL_law_2586 rfl ?_
  refine pm_cV (As := []) (mc2 := 0) (ms2 := 0) B rfl hTM'.1 rfl hC1 mt_X13_restoreSnapshot sv_L_332 dL_law_2587 rfl hdX rfl (Nat.ble_eq_true_of_le (by omega)) (Nat.ble_eq_true_of_le (by omega)) ?_
  refine pm_stk (st' := [.int mv]) rfl ?_
  refine pm_istore B dL_law_2590 rfl rfl ?_
  refine pm_loc (L' := [some (.ref b), some (.ref (z + 0)), some (.ref (z + 140)), some (.ref (z + 149)), some (.ref (z + 150)), some (.int (nI i)), some (.int kc), some (.int mv), none]) rfl ?_
  have fin : pm_G l z D X (cu + mcW + 0 + 0) (su + msW + 0 + 0) Q n' M1 2623 [some (.ref b), some (.ref (z + 0)), some (.ref (z + 140)), some (.ref (z + 149)), some (.ref (z + 150)), some (.int (nI i)), some (.int kc), some (.int mv), none] [] := pm_widen (k1 := cu + 25) (n1 := su + 78) (by omega) (by omega) (pm_wk (L' := [some (.ref b), some (.ref (z + 0)), some (.ref (z + 140)), some (.ref (z + 149)), some (.ref (z + 150)), some (.int (nI i)), none, none, none]) ⟨rfl, rfl, rfl, rfl, rfl, rfl, trivial⟩ (next n' M1 hn' (pm_Jn (by omega) hT' hT1 hL' h149' (h150'.trans h150) hR2 hF1)))
  refine pm_aload_n B dL_law_2592 rfl ?_
  refine pm_cV (As := []) (mc2 := 0) (ms2 := 0) B rfl hT1.1 rfl (c_X13_thrown hT1.1) mt_X13_thrown sv_L_154 dL_law_2593 rfl rfl rfl (Nat.ble_eq_true_of_le (by omega)) (Nat.ble_eq_true_of_le (by omega)) ?_
  refine pm_stk (st' := [.int (h2.1 6)]) rfl ?_
  refine pm_iload B dL_law_2596 rfl ?_
  refine pm_icmp_eq (tgt := 2603) B dL_law_2598 (by decide) (fun _ => ?_) (fun hne => absurd e6 hne)
  refine pm_iload B dL_law_2603 rfl ?_
  refine pm_if_ne (tgt := 2620) B dL_law_2605 (by decide) (fun _ => ?_) (fun hk0 => ?_)
  · exact pm_goto (tgt := 2623) B dL_law_2620 (by decide) fin
  refine pm_aload_n B dL_law_2608 rfl ?_
  refine pm_iconst (v := 0) B dL_law_2609 (by decide) ?_
  refine pm_lald_n B dL_law_2610 ((hF1 _ (Or.inr (by decide))).trans h149') 0 (by decide) (by decide) ?_
  refine pm_iload B dL_law_2611 rfl ?_
  refine pm_i2l B dL_law_2613 ?_
  refine pm_lcmp B dL_law_2614 ?_
  refine pm_if_eq (tgt := 2620) B dL_law_2615 (by decide) (fun _ => ?_) (fun hne => absurd (pm_lcmp0 ((hV hk0).trans (by rw [e7 hk0]))) hne)
  exact pm_goto (tgt := 2623) B dL_law_2620 (by decide) fin
