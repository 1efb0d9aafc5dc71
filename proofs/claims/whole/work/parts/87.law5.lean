/-! the law's two cases that answer in a double[]; its loop -/
theorem pm_CwPost {l : Launch} {z : Nat} {D : va_G} {kA : Nat → ClassId} {kE : Nat → Nat} {y : MethodName} {cc : ByteArray} {nL d mc ms nx : Nat} {ret : Option FieldType} {hh : List (Nat × Nat × Nat × Nat)} {As : List Value} {M : pm_M} {post post2 : pm_Po} (h : pm_Cw l z D kA kE y cc nL ret hh d mc ms As nx M post) (hp : ∀ o n' M', post o n' M' → post2 o n' M') : pm_Cw l z D kA kE y cc nL ret hh d mc ms As nx M post2 := by
  refine MetFree.mono h (fun _ _ h => h) (fun _ _ _ _ _ h => h) fun a st o t _ hq => ?_
  rcases hq with ⟨⟨v, n', M', h1, h2, h3⟩, h4⟩ | ⟨q, h0, E, ce, L9, ⟨n', M', h1, h2⟩, h3⟩
  · exact Or.inl ⟨⟨v, n', M', h1, hp _ _ _ h2, h3⟩, h4⟩
  · exact Or.inr ⟨q, h0, E, ce, L9, ⟨n', M', hp _ _ _ h1, h2⟩, h3⟩
def pm_oD (z : Nat) (kA : Nat → ClassId) (kE : Nat → Nat) (nx : Nat) (M : pm_M) (h : pm_Ms) (R : Int32 → UInt64 → pm_Cs → Int32 × Int32 × Int32 → Prop) : pm_Po := fun o n' M' => ∃ kc v g' L' fd', o = .inl (some (.int kc)) ∧ nx ≤ n' ∧ pm_TC z kA kE M' g' ∧ pm_LD z n' M' g'.2.2.2.2.2 L' ∧ pm_TM z kA M' h ∧ M' 149 = M 149 ∧ M' 150 = some (.inl (kA 2, 1, .inr (.inr (.inr (.inl fd'))))) ∧ (kc = 0 → fd' 0 = v) ∧ R kc v g' L'
theorem pm_oD_no {z : Nat} {kA : Nat → ClassId} {kE : Nat → Nat} {nx n' : Nat} {M M' : pm_M} {h : pm_Ms} {R : Int32 → UInt64 → pm_Cs → Int32 × Int32 × Int32 → Prop} {E : String} (hp : pm_oD z kA kE nx M h R (.inr E) n' M') : False := by
  obtain ⟨_, _, _, _, _, h, _⟩ := hp
  cases h
theorem ss_L_286 : pm_SS RL 286 yL_meanSales := ⟨pm_T_in 1152 (by decide +kernel) (by decide +kernel), pm_T_in 1153 (by decide +kernel) (by decide +kernel)⟩
set_option maxHeartbeats 1000000 in
theorem pm_lw_39 {l : Launch} {z : Nat} {D : va_G} {kA : Nat → ClassId} {kE : Nat → Nat} {nm : String} {tb : List ExceptionTableEntry} {mc ms : Nat} {X : pm_X} {cu su : Nat} {Q : State → Prop} {nx : Nat} {M : pm_M} {b N i Bd Bd2 : Nat} {xs : Nat → Int32} {g : pm_Cs} {h h2 : pm_Ms} {L : Int32 × Int32 × Int32} {fo : Nat → Int64} {fd : Nat → UInt64} {R : Int32 → UInt64 → pm_Cs → Int32 × Int32 × Int32 → Prop} {mv : UInt64} {dW mcW msW dX : Nat} (hdW : Nat.ble (dW + 1) 2048 = true) (hmW : mcW ≤ 25) (hsW : msW ≤ 78) (hdX : Nat.ble (dX + 1) 2048 = true) (B : pm_B l z D kA kE RL code 9 ret nm tb 2048 mc ms X) (hcu : cu + 25 ≤ mc) (hsu : su + 78 ≤ ms) (hnx : 151 ≤ nx) (hT : pm_TC z kA kE M g) (h149 : M 149 = some (.inl (kA 1, 1, .inr (.inl fo))))
    (hW : pm_Cw l z D kA kE yL_meanSales cL_meanSales 3 (some .int) [(0, 7, 10, 104)] dW mcW msW [.ref (z + 0), .ref (z + 150)] nx M (pm_oD z kA kE nx M h R)) (hX : pm_xm l z D kA kE yX13_meanSales cX13_meanSales 3 (some .double) dX [] h h2 (.double mv)) (hS : ∀ kc v g' L', R kc v g' L' → h2.1 6 = kc ∧ (kc = 0 → v = mv) ∧ pm_Rel Bd2 g' h2 L')
    (next : ∀ nx' M', nx ≤ nx' → pm_J z kA kE nx' M' Bd2 → pm_G l z D X (cu + 25) (su + 78) Q nx' M' 2623 [some (.ref b), some (.ref (z + 0)), some (.ref (z + 140)), some (.ref (z + 149)), some (.ref (z + 150)), some (.int (nI i)), none, none, none] []) : pm_G l z D X cu su Q nx M 1988 [some (.ref b), some (.ref (z + 0)), some (.ref (z + 140)), some (.ref (z + 149)), some (.ref (z + 150)), some (.int (nI i)), none, none, none] [] := by
  refine pm_aload_n B dL_law_1988 rfl ?_
  refine pm_aload B dL_law_1989 rfl ?_
  refine pm_cSW (As := [.ref (z + 0), .ref (z + 150)]) (mc2 := mcW) (ms2 := msW) B hW mt_L_meanSales ss_L_286 dL_law_1991 rfl hdW rfl (Nat.ble_eq_true_of_le (by omega)) (Nat.ble_eq_true_of_le (by omega)) (fun E n' M' hp => (pm_oD_no hp).elim) (fun u n' M' hp => ?_)
  obtain ⟨kc, v, g', L', fd', ho, hn', hT', hL', hTM', h149', h150', hV, hR'⟩ := hp
  obtain rfl : u = some (.int kc) := Sum.inl.inj ho
  obtain ⟨e6, e7, hR2⟩ := hS kc v g' L' hR'
  obtain ⟨M1, hC1, hT1, hF1⟩ := hX n' M' hTM'
  refine pm_stk (st' := [.int kc]) rfl ?_
  refine pm_istore B dL_law_1994 rfl rfl ?_
  refine pm_loc (L' := [some (.ref b), some (.ref (z + 0)), some (.ref (z + 140)), some (.ref (z + 149)), some (.ref (z + 150)), some (.int (nI i)), some (.int kc), none, none]) rfl ?_
  refine pm_aload_n B dL_law_1996 rfl ?_
  refine pm_cV (As := []) (mc2 := 0) (ms2 := 0) B rfl hTM'.1 rfl hC1 mt_X13_meanSales sv_L_289 dL_law_1997 rfl hdX rfl (Nat.ble_eq_true_of_le (by omega)) (Nat.ble_eq_true_of_le (by omega)) ?_
  refine pm_stk (st' := [.double mv]) rfl ?_
  refine pm_dstore B dL_law_2000 rfl rfl rfl ?_
  refine pm_loc (L' := [some (.ref b), some (.ref (z + 0)), some (.ref (z + 140)), some (.ref (z + 149)), some (.ref (z + 150)), some (.int (nI i)), some (.int kc), some (.double mv), none]) rfl ?_
  have fin : pm_G l z D X (cu + mcW + 0 + 0) (su + msW + 0 + 0) Q n' M1 2623 [some (.ref b), some (.ref (z + 0)), some (.ref (z + 140)), some (.ref (z + 149)), some (.ref (z + 150)), some (.int (nI i)), some (.int kc), some (.double mv), none] [] := pm_widen (k1 := cu + 25) (n1 := su + 78) (by omega) (by omega) (pm_wk (L' := [some (.ref b), some (.ref (z + 0)), some (.ref (z + 140)), some (.ref (z + 149)), some (.ref (z + 150)), some (.int (nI i)), none, none, none]) ⟨rfl, rfl, rfl, rfl, rfl, rfl, trivial⟩ (next n' M1 hn' (pm_Jn (by omega) hT' hT1 hL' (h149'.trans h149) h150' hR2 hF1)))
  refine pm_aload_n B dL_law_2002 rfl ?_
  refine pm_cV (As := []) (mc2 := 0) (ms2 := 0) B rfl hT1.1 rfl (c_X13_thrown hT1.1) mt_X13_thrown sv_L_154 dL_law_2003 rfl rfl rfl (Nat.ble_eq_true_of_le (by omega)) (Nat.ble_eq_true_of_le (by omega)) ?_
  refine pm_stk (st' := [.int (h2.1 6)]) rfl ?_
  refine pm_iload B dL_law_2006 rfl ?_
  refine pm_icmp_eq (tgt := 2013) B dL_law_2008 (by decide) (fun _ => ?_) (fun hne => absurd e6 hne)
  refine pm_iload B dL_law_2013 rfl ?_
  refine pm_if_ne (tgt := 2050) B dL_law_2015 (by decide) (fun _ => ?_) (fun hk0 => ?_)
  · exact pm_goto (tgt := 2623) B dL_law_2050 (by decide) fin
  have hfd : fd' 0 = mv := (hV hk0).trans (e7 hk0)
  refine pm_aload B dL_law_2018 rfl ?_
  refine pm_iconst (v := 0) B dL_law_2020 (by decide) ?_
  refine pm_dald_n B dL_law_2021 ((hF1 _ (Or.inr (by decide))).trans h150') 0 (by decide) (by decide) ?_
  refine pm_dload B dL_law_2022 rfl ?_
  refine pm_dcmp B dL_law_2024 ?_
  rw [hfd]
  refine pm_if_eq (tgt := 2050) B dL_law_2025 (by decide) (fun _ => ?_) (fun hne => ?_)
  · exact pm_goto (tgt := 2623) B dL_law_2050 (by decide) fin
  refine pm_aload B dL_law_2028 rfl ?_
  refine pm_iconst (v := 0) B dL_law_2030 (by decide) ?_
  refine pm_dald_n B dL_law_2031 ((hF1 _ (Or.inr (by decide))).trans h150') 0 (by decide) (by decide) ?_
  refine pm_aload B dL_law_2032 rfl ?_
  refine pm_iconst (v := 0) B dL_law_2034 (by decide) ?_
  refine pm_dald_n B dL_law_2035 ((hF1 _ (Or.inr (by decide))).trans h150') 0 (by decide) (by decide) ?_
  refine pm_dcmp B dL_law_2036 ?_
  rw [hfd]
  refine pm_if_eq (tgt := 2048) B dL_law_2037 (by decide) (fun he => absurd he hne) (fun _ => ?_)
  refine pm_dload B dL_law_2040 rfl ?_
  refine pm_dload B dL_law_2042 rfl ?_
  refine pm_dcmp B dL_law_2044 ?_
  refine pm_if_ne (tgt := 2050) B dL_law_2045 (by decide) (fun _ => ?_) (fun he => absurd he hne)
  exact pm_goto (tgt := 2623) B dL_law_2050 (by decide) fin
theorem ss_L_290 : pm_SS RL 290 yL_finedShare := ⟨pm_T_in 1176 (by decide +kernel) (by decide +kernel), pm_T_in 1177 (by decide +kernel) (by decide +kernel)⟩
set_option maxHeartbeats 1000000 in
theorem pm_lw_40 {l : Launch} {z : Nat} {D : va_G} {kA : Nat → ClassId} {kE : Nat → Nat} {nm : String} {tb : List ExceptionTableEntry} {mc ms : Nat} {X : pm_X} {cu su : Nat} {Q : State → Prop} {nx : Nat} {M : pm_M} {b N i Bd Bd2 : Nat} {xs : Nat → Int32} {g : pm_Cs} {h h2 : pm_Ms} {L : Int32 × Int32 × Int32} {fo : Nat → Int64} {fd : Nat → UInt64} {R : Int32 → UInt64 → pm_Cs → Int32 × Int32 × Int32 → Prop} {mv : UInt32} {dW mcW msW dX : Nat} (hdW : Nat.ble (dW + 1) 2048 = true) (hmW : mcW ≤ 25) (hsW : msW ≤ 78) (hdX : Nat.ble (dX + 1) 2048 = true) (B : pm_B l z D kA kE RL code 9 ret nm tb 2048 mc ms X) (hcu : cu + 25 ≤ mc) (hsu : su + 78 ≤ ms) (hnx : 151 ≤ nx) (hT : pm_TC z kA kE M g) (h149 : M 149 = some (.inl (kA 1, 1, .inr (.inl fo))))
    (hW : pm_Cw l z D kA kE yL_finedShare cL_finedShare 3 (some .int) [(0, 8, 11, 104)] dW mcW msW [.ref (z + 0), .ref (z + 150)] nx M (pm_oD z kA kE nx M h R)) (hX : pm_xm l z D kA kE yX13_finedShare cX13_finedShare 1 (some .float) dX [] h h2 (.float mv)) (hS : ∀ kc v g' L', R kc v g' L' → h2.1 6 = kc ∧ (kc = 0 → v = FP.f2d mv ∧ vf_n64 (FP.f2d mv) ∧ Op.cmpValue (FP.dcmp (FP.f2d mv) (FP.f2d mv)) .l = 0) ∧ pm_Rel Bd2 g' h2 L')
    (next : ∀ nx' M', nx ≤ nx' → pm_J z kA kE nx' M' Bd2 → pm_G l z D X (cu + 25) (su + 78) Q nx' M' 2623 [some (.ref b), some (.ref (z + 0)), some (.ref (z + 140)), some (.ref (z + 149)), some (.ref (z + 150)), some (.int (nI i)), none, none, none] []) : pm_G l z D X cu su Q nx M 2053 [some (.ref b), some (.ref (z + 0)), some (.ref (z + 140)), some (.ref (z + 149)), some (.ref (z + 150)), some (.int (nI i)), none, none, none] [] := by
  refine pm_aload_n B dL_law_2053 rfl ?_
  refine pm_aload B dL_law_2054 rfl ?_
  refine pm_cSW (As := [.ref (z + 0), .ref (z + 150)]) (mc2 := mcW) (ms2 := msW) B hW mt_L_finedShare ss_L_290 dL_law_2056 rfl hdW rfl (Nat.ble_eq_true_of_le (by omega)) (Nat.ble_eq_true_of_le (by omega)) (fun E n' M' hp => (pm_oD_no hp).elim) (fun u n' M' hp => ?_)
  obtain ⟨kc, v, g', L', fd', ho, hn', hT', hL', hTM', h149', h150', hV, hR'⟩ := hp
  obtain rfl : u = some (.int kc) := Sum.inl.inj ho
  obtain ⟨e6, e7, hR2⟩ := hS kc v g' L' hR'
  obtain ⟨M1, hC1, hT1, hF1⟩ := hX n' M' hTM'
  refine pm_stk (st' := [.int kc]) rfl ?_
  refine pm_istore B dL_law_2059 rfl rfl ?_
  refine pm_loc (L' := [some (.ref b), some (.ref (z + 0)), some (.ref (z + 140)), some (.ref (z + 149)), some (.ref (z + 150)), some (.int (nI i)), some (.int kc), none, none]) rfl ?_
  refine pm_aload_n B dL_law_2061 rfl ?_
  refine pm_cV (As := []) (mc2 := 0) (ms2 := 0) B rfl hTM'.1 rfl hC1 mt_X13_finedShare sv_L_292 dL_law_2062 rfl hdX rfl (Nat.ble_eq_true_of_le (by omega)) (Nat.ble_eq_true_of_le (by omega)) ?_
  refine pm_stk (st' := [.float mv]) rfl ?_
  refine pm_fstore B dL_law_2065 rfl rfl ?_
  refine pm_loc (L' := [some (.ref b), some (.ref (z + 0)), some (.ref (z + 140)), some (.ref (z + 149)), some (.ref (z + 150)), some (.int (nI i)), some (.int kc), some (.float mv), none]) rfl ?_
  have fin : pm_G l z D X (cu + mcW + 0 + 0) (su + msW + 0 + 0) Q n' M1 2623 [some (.ref b), some (.ref (z + 0)), some (.ref (z + 140)), some (.ref (z + 149)), some (.ref (z + 150)), some (.int (nI i)), some (.int kc), some (.float mv), none] [] := pm_widen (k1 := cu + 25) (n1 := su + 78) (by omega) (by omega) (pm_wk (L' := [some (.ref b), some (.ref (z + 0)), some (.ref (z + 140)), some (.ref (z + 149)), some (.ref (z + 150)), some (.int (nI i)), none, none, none]) ⟨rfl, rfl, rfl, rfl, rfl, rfl, trivial⟩ (next n' M1 hn' (pm_Jn (by omega) hT' hT1 hL' (h149'.trans h149) h150' hR2 hF1)))
  refine pm_aload_n B dL_law_2067 rfl ?_
  refine pm_cV (As := []) (mc2 := 0) (ms2 := 0) B rfl hT1.1 rfl (c_X13_thrown hT1.1) mt_X13_thrown sv_L_154 dL_law_2068 rfl rfl rfl (Nat.ble_eq_true_of_le (by omega)) (Nat.ble_eq_true_of_le (by omega)) ?_
  refine pm_stk (st' := [.int (h2.1 6)]) rfl ?_
  refine pm_iload B dL_law_2071 rfl ?_
  refine pm_icmp_eq (tgt := 2078) B dL_law_2073 (by decide) (fun _ => ?_) (fun hne => absurd e6 hne)
  refine pm_iload B dL_law_2078 rfl ?_
  refine pm_if_ne (tgt := 2116) B dL_law_2080 (by decide) (fun _ => ?_) (fun hk0 => ?_)
  · exact pm_goto (tgt := 2623) B dL_law_2116 (by decide) fin
  have hfd : fd' 0 = FP.f2d mv := (hV hk0).trans (e7 hk0).1
  refine pm_aload B dL_law_2083 rfl ?_
  refine pm_iconst (v := 0) B dL_law_2085 (by decide) ?_
  refine pm_dald_n B dL_law_2086 ((hF1 _ (Or.inr (by decide))).trans h150') 0 (by decide) (by decide) ?_
  refine pm_fload B dL_law_2087 rfl ?_
  refine pm_f2d B dL_law_2089 (e7 hk0).2.1 ?_
  refine pm_dcmp B dL_law_2090 ?_
  refine pm_if_eq (tgt := 2116) B dL_law_2091 (by decide) (fun _ => ?_) (fun hne => absurd (by rw [hfd]; exact (e7 hk0).2.2) hne)
  exact pm_goto (tgt := 2623) B dL_law_2116 (by decide) fin
theorem pm_lwgt {i N : Nat} (hN : N ≤ 2048) (hi : i ≤ N) (h : N < i + 4) : nI i > nI N - 4 := by
  rw [gt_iff_lt]
  by_cases h4 : 4 ≤ N
  · rw [show (4 : Int32) = nI 4 from rfl, pq_sub h4, nI_ltI (by omega) (by omega)]
    omega
  · rcases (show N = 0 ∨ N = 1 ∨ N = 2 ∨ N = 3 by omega) with rfl | rfl | rfl | rfl
    all_goals
      rw [Int32.lt_iff_toInt_lt, nI_toInt (by omega)]
    · rw [show (nI 0 - 4 : Int32).toInt = -4 by decide]; omega
    · rw [show (nI 1 - 4 : Int32).toInt = -3 by decide]; omega
    · rw [show (nI 2 - 4 : Int32).toInt = -2 by decide]; omega
    · rw [show (nI 3 - 4 : Int32).toInt = -1 by decide]; omega
/-- the loop -/
theorem pm_lw_loop {l : Launch} {z : Nat} {D : va_G} {kA : Nat → ClassId} {kE : Nat → Nat} {nm : String} {tb : List ExceptionTableEntry} {mc ms : Nat} {X : pm_X} {Q : State → Prop} {b N : Nat} {xs : Nat → Int32} (B : pm_B l z D kA kE RL code 9 ret nm tb 2048 mc ms X) (hXs : va_X b N xs X.2.2.2.1 X.2.2.2.1.heap) (hbz : b < z) (hN : N ≤ 2048)
    (hall : ∀ (i nx Bd cu su : Nat) (M : pm_M), i + 4 ≤ N → cu + 25 ≤ mc → su + 78 ≤ ms → Bd ≤ 693 * 11 * 512 → pm_J z kA kE nx M Bd → (∀ nx' M', nx ≤ nx' → pm_J z kA kE nx' M' (Bd + 693 * 11) → pm_G l z D X (cu + 25) (su + 78) Q nx' M' 2623 [some (.ref b), some (.ref (z + 0)), some (.ref (z + 140)), some (.ref (z + 149)), some (.ref (z + 150)), some (.int (nI i)), none, none, none] []) → pm_G l z D X cu su Q nx M 37 [some (.ref b), some (.ref (z + 0)), some (.ref (z + 140)), some (.ref (z + 149)), some (.ref (z + 150)), some (.int (nI i)), none, none, none] [])
    (hend : ∀ (i nx cu su : Nat) (M : pm_M), cu ≤ mc → su ≤ ms → pm_G l z D X cu su Q nx M 2630 [some (.ref b), some (.ref (z + 0)), some (.ref (z + 140)), some (.ref (z + 149)), some (.ref (z + 150)), some (.int (nI i)), none, none, none] [.int 1]) : ∀ (k i nx Bd cu su : Nat) (M : pm_M), N < i + 4 + 4 * k → i ≤ N → cu + 25 * k ≤ mc → su + 78 * k ≤ ms → Bd + 693 * 11 * k ≤ 693 * 11 * 512 → pm_J z kA kE nx M Bd → pm_G l z D X cu su Q nx M 28 [some (.ref b), some (.ref (z + 0)), some (.ref (z + 140)), some (.ref (z + 149)), some (.ref (z + 150)), some (.int (nI i)), none, none, none] [] := by
  intro k
  induction k with
  | zero =>
    intro i nx Bd cu su M h hi hc hs hB hJ
    refine pm_iload B dL_law_28 rfl ?_
    refine pm_aload_n B dL_law_30 rfl ?_
    refine pm_slen B hXs hbz dL_law_31 ?_
    refine pm_iconst (v := 4) B dL_law_32 (by decide) ?_
    refine pm_isub B dL_law_33 ?_
    refine pm_icmp_gt (tgt := 2629) B dL_law_34 (by decide) (fun _ => ?_) (fun hng => absurd (pm_lwgt hN (by omega) h) hng)
    refine pm_iconst (v := 1) B dL_law_2629 (by decide) ?_
    exact hend i nx cu su M (by omega) (by omega)
  | succ k ih =>
    intro i nx Bd cu su M h hi hc hs hB hJ
    refine pm_iload B dL_law_28 rfl ?_
    refine pm_aload_n B dL_law_30 rfl ?_
    refine pm_slen B hXs hbz dL_law_31 ?_
    refine pm_iconst (v := 4) B dL_law_32 (by decide) ?_
    refine pm_isub B dL_law_33 ?_
    refine pm_icmp_gt (tgt := 2629) B dL_law_34 (by decide) (fun _ => ?_) (fun hng => ?_)
    · refine pm_iconst (v := 1) B dL_law_2629 (by decide) ?_
      exact hend i nx cu su M (by omega) (by omega)
    · have h4 : i + 4 ≤ N := Nat.le_of_not_lt fun h5 => hng (pm_lwgt hN (by omega) h5)
      refine hall i nx Bd cu su M h4 (by omega) (by omega) (by omega) hJ fun nx' M' hn' hJ' => ?_
      refine pm_iinc B dL_law_2623 rfl rfl rfl ?_
      refine pm_loc (L' := [some (.ref b), some (.ref (z + 0)), some (.ref (z + 140)), some (.ref (z + 149)), some (.ref (z + 150)), some (.int (nI (i + 4))), none, none, none]) (by rw [show (nI i : Int32) + Int32.ofInt 4 = nI (i + 4) from nI_add i 4]; rfl) ?_
      refine pm_goto (tgt := 28) B dL_law_2626 (by decide) ?_
      exact ih (i + 4) nx' (Bd + 693 * 11) (cu + 25) (su + 78) M' (by omega) (by omega) (by omega) (by omega) (by omega) hJ'
theorem pm_Rel0 : pm_Rel 0 pm_C0 ((fun j => if j = 18 then -1 else 0), fun j => if j = 1 then upd (fun _ => 0) 3 10 else fun _ => 0) (0, 0, 0) := by
  refine ⟨⟨0, ⟨⟨by decide, by decide, by decide, by decide, by decide, by decide, by decide⟩, fun i hi => by omega, ?_⟩, ⟨⟨by decide, by decide, Or.inl (by decide), ⟨by decide, by decide⟩, ⟨10, by decide, by decide, by decide⟩, 0, 0, by decide, by decide, by decide⟩, fun i hi => by omega, ?_⟩⟩, ⟨by decide, by decide, by decide, fun p hp => absurd hp (Nat.not_lt_zero _)⟩, Or.inl ⟨by decide, by decide⟩, ⟨0, by decide, by decide, by decide, fun i hi => by omega⟩, Or.inl ⟨by decide, by decide⟩, ⟨by decide, by decide, fun i hi => absurd hi (Nat.not_lt_zero _)⟩, by decide, by decide, by decide, by decide, by decide⟩
  · have : ∀ i, i < 7 → ∀ j, j < 7 → (upd (fun _ => 0) 3 10 : Nat → Int32) (42 + 7 * i + j) = pm_bt (pm_r0 (49 + i)) j := by decide +kernel
    exact fun i j hi hj => this i hi j hj
  · have h1 : ∀ i, i < 7 → pm_r0 (49 + i) = nI (pm_n (pm_r0 (49 + i))) ∧ pm_n (pm_r0 (49 + i)) < 128 := by decide +kernel
    have h2 : ∀ i, i < 7 → ∀ j, j < 7 → pm_n (pm_r0 (49 + i)) / 2 ^ j % 2 = 0 := by decide +kernel
    have h3 : pm_ls pm_r0 ≤ 12 := by decide +kernel
    exact ⟨h1, fun i j hi hj => (h2 i hi j hj).trans (h2 j hj i hi).symm, fun i hi => h2 i hi i hi, fun i j hi hj hb => absurd ((h2 i hi j hj).symm.trans hb) (by decide), h3⟩
/-- the beginning: both objects are made -/
theorem pm_lw_begin {l : Launch} {z : Nat} {D : va_G} {kA : Nat → ClassId} {kE : Nat → Nat} {nm : String} {tb : List ExceptionTableEntry} {mc ms : Nat} {X : pm_X} {Q : State → Prop} {b : Nat} (B : pm_B l z D kA kE RL code 9 ret nm tb 2048 mc ms X) (hmc : 200 ≤ mc) (hms : 3000 ≤ ms)
    (k : ∀ (M : pm_M), pm_J z kA kE 151 M 0 → pm_G l z D X 200 3000 Q 151 M 28 [some (.ref b), some (.ref (z + 0)), some (.ref (z + 140)), some (.ref (z + 149)), some (.ref (z + 150)), some (.int 0), none, none, none] []) : pm_G l z D X 0 0 Q 0 (fun _ => none) 0 [some (.ref b), none, none, none, none, none, none, none, none] [] := by
  refine pm_new (n0 := 13) B dL_law_0 nw_L_8 rfl (by omega) (by omega) ?_
  refine pm_dup B dL_law_3 rfl ?_
  refine pm_cIx (As := []) (mc2 := 139) (ms2 := 1078) B rfl (c_X12_init pm_up_s) mt_X12_init si_L_144 dL_law_4 rfl rfl rfl (Nat.ble_eq_true_of_le (by omega)) (Nat.ble_eq_true_of_le (by omega)) (fun ov n' M' hp => ?_)
  obtain ⟨rfl, rfl, hT0⟩ := hp
  refine pm_stk (st' := [.ref (z + 0)]) rfl ?_
  refine pm_astore_n B dL_law_7 rfl rfl ?_
  refine pm_new (n0 := 23) B dL_law_8 nw_L_145 rfl (by omega) (by omega) ?_
  refine pm_dup B dL_law_11 rfl ?_
  refine pm_cIx (As := []) (mc2 := 8) (ms2 := 1278) B rfl (c_X13_init (a := 140) pm_up_s) mt_X13_init si_L_147 dL_law_12 rfl rfl rfl (Nat.ble_eq_true_of_le (by omega)) (Nat.ble_eq_true_of_le (by omega)) (fun ov n' M2 hp => ?_)
  obtain ⟨rfl, rfl, e0, e1, e2, e3, e4, e5, e6, e7, e8, eF⟩ := hp
  refine pm_stk (st' := [.ref (z + 140)]) rfl ?_
  refine pm_astore_n B dL_law_15 rfl rfl ?_
  refine pm_iconst (v := 1) B dL_law_16 (by decide) ?_
  refine pm_newl (N := 1) B dL_law_17 wa_long rfl rfl (by omega) (by omega) ?_
  refine pm_astore_n B dL_law_19 rfl rfl ?_
  refine pm_iconst (v := 1) B dL_law_20 (by decide) ?_
  refine pm_newd (N := 1) B dL_law_21 wa_double rfl rfl (by omega) (by omega) ?_
  refine pm_astore B dL_law_23 rfl rfl ?_
  refine pm_iconst (v := 0) B dL_law_25 (by decide) ?_
  refine pm_istore B dL_law_26 rfl rfl ?_
  refine pm_loc (L' := [some (.ref b), some (.ref (z + 0)), some (.ref (z + 140)), some (.ref (z + 149)), some (.ref (z + 150)), some (.int 0), none, none, none]) rfl ?_
  refine pm_widen (k1 := 200) (n1 := 3000) (by omega) (by omega) ?_
  have hTM : pm_TM z kA M2 ((fun j => if j = 18 then -1 else 0), fun j => if j = 1 then upd (fun _ => 0) 3 10 else fun _ => 0) := ⟨e0, e1, e2, e3, e4, e5, e6, e7, e8⟩
  have hT := pm_TC_0 hT0
  refine k _ ⟨Nat.le_refl _, pm_C0, _, (0, 0, 0), fun _ => 0, fun _ => 0, pm_TC_keep hT (fun x hx => ?_), pm_TM_keep hTM (fun x h1 h2 => ?_), Or.inl ⟨rfl, rfl, rfl⟩, ?_, ?_, pm_Rel0⟩
  · rw [pm_up_n (by omega), pm_up_n (by omega), eF x (by omega), pm_up_n (by omega)]
  · rw [pm_up_n (by omega), pm_up_n (by omega)]
  · exact (pm_up_n (by decide)).trans pm_up_s
  · exact pm_up_s
