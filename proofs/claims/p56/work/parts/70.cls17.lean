/-! the face: a line -/
theorem ss_J5_144 : pm_SS RJ5 144 yJ0_checkIndex_df160 := ⟨pm_T_in 1493 (by decide +kernel) (by decide +kernel), pm_T_in 1467 (by decide +kernel) (by decide +kernel)⟩
set_option maxRecDepth 100000 in
set_option maxHeartbeats 4000000 in
theorem c_J5_charAt_5068e {l : Launch} {z : Nat} {D : va_G} {kA : Nat → ClassId} {kE : Nat → Nat} {nx : Nat} {M : pm_M} {a b c : Nat} {ml : Int32} {f : Nat → Int32} (hM : M a = some (.inr (12, [.ref (z + b), .int 0, .int ml, .int (nI c)]))) (hB : M b = some (.inl (kA 4, 16, .inl f))) {i q : Nat} (hi : i < c) (hc : c ≤ 16) (hfi : f i = nI q) (hq2 : q < 128) : pm_C l z D kA kE yJ5_charAt_5068e cJ5_charAt_5068e 5 (some .char) 2 0 0 [.ref (z + a), .int (nI i)] nx M (pm_rt (some (.int (nI q))) nx M) := by
  refine pm_mk (own := RJ5) (nm := "charAt") mt_J5_charAt_5068e rfl rfl rfl rfl fun X B => ?_
  refine pm_loc (L' := [some (.ref (z + a)), some (.int (nI i)), none, none, none]) rfl ?_
  refine pm_aload_n B dJ5_charAt_5068e_0 rfl ?_
  refine pm_get B dJ5_charAt_5068e_1 fl_J5_22 hM rfl ?_
  refine pm_istore_n B dJ5_charAt_5068e_4 rfl rfl ?_
  refine pm_loc (L' := [some (.ref (z + a)), some (.int (nI i)), some (.int 0), none, none]) rfl ?_
  refine pm_aload_n B dJ5_charAt_5068e_5 rfl ?_
  refine pm_get B dJ5_charAt_5068e_6 fl_J5_15 hM rfl ?_
  refine pm_astore_n B dJ5_charAt_5068e_9 rfl rfl ?_
  refine pm_loc (L' := [some (.ref (z + a)), some (.int (nI i)), some (.int 0), some (.ref (z + b)), none]) rfl ?_
  refine pm_aload_n B dJ5_charAt_5068e_10 rfl ?_
  refine pm_get B dJ5_charAt_5068e_11 fl_J5_79 hM rfl ?_
  refine pm_aload_n B dJ5_charAt_5068e_14 rfl ?_
  refine pm_alen B dJ5_charAt_5068e_15 hB rfl rfl ?_
  refine pm_stk (st' := [.int (nI 16), .int (nI c)]) rfl ?_
  refine pm_iload_n B dJ5_charAt_5068e_16 rfl ?_
  refine pm_ishr B dJ5_charAt_5068e_17 ?_
  refine pm_stk (st' := [.int (nI 16), .int (nI c)]) (by rw [show ((nI 16) >>> (0 &&& 31)) = (nI 16) from pm_shr0 _ (by first | omega | decide)]) ?_
  refine pm_mmin B dJ5_charAt_5068e_18 (pm_T_in 1492 (by decide +kernel) (by decide +kernel)) rfl rfl rfl rfl ?_
  refine pm_stk (st' := [.int (nI c)]) (by rw [show (pm_min (nI c) (nI 16)) = (nI c) from pm_min16 c (by omega)]) ?_
  refine pm_istore B dJ5_charAt_5068e_21 rfl rfl ?_
  refine pm_loc (L' := [some (.ref (z + a)), some (.int (nI i)), some (.int 0), some (.ref (z + b)), some (.int (nI c))]) rfl ?_
  refine pm_iload_n B dJ5_charAt_5068e_23 rfl ?_
  refine pm_iload B dJ5_charAt_5068e_24 rfl ?_
  refine pm_cS (As := [.int (nI i), .int (nI c)]) (mc2 := 0) (ms2 := 0) B (c_J0_checkIndex_df160 (i := i) (n := c) hi (by omega)) mt_J0_checkIndex_df160 ss_J5_144 dJ5_charAt_5068e_26 rfl rfl rfl rfl rfl ?_
  refine pm_stk (st' := []) rfl ?_
  refine pm_iload_n B dJ5_charAt_5068e_29 rfl ?_
  refine pm_if_ne (tgt := 42) B dJ5_charAt_5068e_30 (by decide) (fun hq1 => absurd (rfl) hq1) (fun hq1 => ?_)
  refine pm_aload_n B dJ5_charAt_5068e_33 rfl ?_
  refine pm_iload_n B dJ5_charAt_5068e_34 rfl ?_
  refine pm_bald_n B dJ5_charAt_5068e_35 hB i (by first | assumption | omega) (by decide) ?_
  refine pm_stk (st' := [.int (nI q)]) (by rw [show (f i) = (nI q) from hfi]) ?_
  refine pm_sipush (v := 255) B dJ5_charAt_5068e_36 (by decide) ?_
  refine pm_iand B dJ5_charAt_5068e_39 ?_
  refine pm_i2c B dJ5_charAt_5068e_40 ?_
  refine pm_stk (st' := [.int (nI q)]) (by rw [show (((nI q) &&& 255).toUInt32 % 65536).toInt32 = (nI q) from pm_c255 q hq2]) ?_
  exact pm_ireturn B dJ5_charAt_5068e_41 rfl (pk_charN (by omega)).1 ⟨rfl, rfl, rfl⟩ rfl rfl
theorem sx_J4_329 : pm_SX RJ4 329 yJ5_charAt_5068e := ⟨pm_T_in 1489 (by decide +kernel) (by decide +kernel), pm_T_in 1620 (by decide +kernel) (by decide +kernel), pm_T_in 332 (by decide +kernel) (by decide +kernel), pm_T_in 1490 (by decide +kernel) (by decide +kernel), by decide⟩
set_option maxRecDepth 100000 in
set_option maxHeartbeats 4000000 in
theorem c_J4_charAt_5068e {l : Launch} {z : Nat} {D : va_G} {kA : Nat → ClassId} {kE : Nat → Nat} {nx : Nat} {M : pm_M} {a b c : Nat} {ml : Int32} {f : Nat → Int32} (hM : M a = some (.inr (12, [.ref (z + b), .int 0, .int ml, .int (nI c)]))) (hB : M b = some (.inl (kA 4, 16, .inl f))) {i q : Nat} (hi : i < c) (hc : c ≤ 16) (hfi : f i = nI q) (hq2 : q < 128) : pm_C l z D kA kE yJ4_charAt_5068e cJ4_charAt_5068e 2 (some .char) 3 0 0 [.ref (z + a), .int (nI i)] nx M (pm_rt (some (.int (nI q))) nx M) := by
  refine pm_mk (own := RJ4) (nm := "charAt") mt_J4_charAt_5068e rfl rfl rfl rfl fun X B => ?_
  refine pm_loc (L' := [some (.ref (z + a)), some (.int (nI i))]) rfl ?_
  refine pm_aload_n B dJ4_charAt_5068e_0 rfl ?_
  refine pm_iload_n B dJ4_charAt_5068e_1 rfl ?_
  refine pm_cX (As := [.int (nI i)]) (mc2 := 0) (ms2 := 0) B rfl hM (c_J5_charAt_5068e hM hB hi hc hfi hq2) mt_J5_charAt_5068e sx_J4_329 dJ4_charAt_5068e_2 rfl rfl rfl rfl rfl ?_
  refine pm_stk (st' := [.int (nI q)]) rfl ?_
  exact pm_ireturn B dJ4_charAt_5068e_5 rfl (pk_charN (by omega)).1 ⟨rfl, rfl, rfl⟩ rfl rfl
theorem sv_X12_314 : pm_SV RX12 314 yJ4_setLength_d00df := ⟨pm_T_in 1397 (by decide +kernel) (by decide +kernel), pm_T_in 1398 (by decide +kernel) (by decide +kernel), pm_T_in 1399 (by decide +kernel) (by decide +kernel)⟩
theorem sv_X12_317 : pm_SV RX12 317 yJ4_append_bf812 := ⟨pm_T_in 1449 (by decide +kernel) (by decide +kernel), pm_T_in 1184 (by decide +kernel) (by decide +kernel), pm_T_in 1185 (by decide +kernel) (by decide +kernel)⟩
theorem sv_X12_320 : pm_SV RX12 320 yJ4_append_cf468 := ⟨pm_T_in 1450 (by decide +kernel) (by decide +kernel), pm_T_in 1451 (by decide +kernel) (by decide +kernel), pm_T_in 1452 (by decide +kernel) (by decide +kernel)⟩
theorem sv_X12_323 : pm_SV RX12 323 yJ4_length_8abf5 := ⟨pm_T_in 1472 (by decide +kernel) (by decide +kernel), pm_T_in 1346 (by decide +kernel) (by decide +kernel), pm_T_in 1619 (by decide +kernel) (by decide +kernel)⟩
theorem sv_X12_331 : pm_SV RX12 331 yJ4_charAt_5068e := ⟨pm_T_in 1485 (by decide +kernel) (by decide +kernel), pm_T_in 1486 (by decide +kernel) (by decide +kernel), pm_T_in 1487 (by decide +kernel) (by decide +kernel)⟩
set_option maxRecDepth 100000 in
set_option maxHeartbeats 4000000 in
theorem c_X12_lineCharacter_a {l : Launch} {z : Nat} {D : va_G} {kA : Nat → ClassId} {kE : Nat → Nat} {nx : Nat} {M : pm_M} {to : Nat → Int32} {ldv : Value} {x : Int32} (hto : M 0 = some (pm_to z to ldv)) (hx : x < 0) : pm_C l z D kA kE yX12_lineCharacter cX12_lineCharacter 2 (some .char) 20 1 6 [.ref (z + 0), .int x] nx M (pm_fp 1 none nx M) := by
  refine pm_mk (own := RX12) (nm := "lineCharacter") mt_X12_lineCharacter rfl rfl rfl rfl fun X B => ?_
  refine pm_loc (L' := [some (.ref (z + 0)), some (.int x)]) rfl ?_
  refine pm_iload_n B dX12_lineCharacter_0 rfl ?_
  refine pm_if_lt (tgt := 15) B dX12_lineCharacter_1 (by decide) (fun hq1 => ?_) (fun hq1 => absurd (hx) hq1)
  exact pm_throwW (text := "no such index") B rfl px_IndexOutOfBounds (by decide) dX12_lineCharacter_15 dX12_lineCharacter_18 dX12_lineCharacter_19 dX12_lineCharacter_22 dX12_lineCharacter_25 rfl rfl rfl rfl (fun n' hn => ⟨rfl, hn, Or.inr ⟨by decide, rfl⟩⟩)
set_option maxRecDepth 100000 in
set_option maxHeartbeats 4000000 in
theorem c_X12_lineCharacter_b {l : Launch} {z : Nat} {D : va_G} {kA : Nat → ClassId} {kE : Nat → Nat} {nx : Nat} {M : pm_M} {c : Nat} {ml : Int32} {to : Nat → Int32} {ldv : Value} {x : Int32} (hto : M 0 = some (pm_to z to ldv)) (hL : M 138 = some (.inr (12, [.ref (z + 139), .int 0, .int ml, .int (nI c)]))) (hx : ¬ x < 0) (hx2 : ¬ x < nI c) : pm_C l z D kA kE yX12_lineCharacter cX12_lineCharacter 2 (some .char) 20 1 6 [.ref (z + 0), .int x] nx M (pm_fp 1 none nx M) := by
  refine pm_mk (own := RX12) (nm := "lineCharacter") mt_X12_lineCharacter rfl rfl rfl rfl fun X B => ?_
  refine pm_loc (L' := [some (.ref (z + 0)), some (.int x)]) rfl ?_
  refine pm_iload_n B dX12_lineCharacter_0 rfl ?_
  refine pm_if_lt (tgt := 15) B dX12_lineCharacter_1 (by decide) (fun hq1 => absurd hq1 (hx)) (fun hq1 => ?_)
  refine pm_iload_n B dX12_lineCharacter_4 rfl ?_
  refine pm_aload_n B dX12_lineCharacter_5 rfl ?_
  refine pm_get B dX12_lineCharacter_6 fl_X12_61 hto rfl ?_
  refine pm_cV (As := []) (mc2 := 0) (ms2 := 0) B rfl hL rfl (c_J4_length_8abf5 hL) mt_J4_length_8abf5 sv_X12_323 dX12_lineCharacter_9 rfl rfl rfl rfl rfl ?_
  refine pm_stk (st' := [.int (nI c), .int x]) rfl ?_
  refine pm_icmp_lt (tgt := 26) B dX12_lineCharacter_12 (by decide) (fun hq2 => absurd hq2 (hx2)) (fun hq2 => ?_)
  exact pm_throwW (text := "no such index") B rfl px_IndexOutOfBounds (by decide) dX12_lineCharacter_15 dX12_lineCharacter_18 dX12_lineCharacter_19 dX12_lineCharacter_22 dX12_lineCharacter_25 rfl rfl rfl rfl (fun n' hn => ⟨rfl, hn, Or.inr ⟨by decide, rfl⟩⟩)
set_option maxRecDepth 100000 in
set_option maxHeartbeats 4000000 in
theorem c_X12_lineCharacter_i {l : Launch} {z : Nat} {D : va_G} {kA : Nat → ClassId} {kE : Nat → Nat} {nx : Nat} {M : pm_M} {c : Nat} {ml : Int32} {f to : Nat → Int32} {ldv : Value} {i q : Nat} (hto : M 0 = some (pm_to z to ldv)) (hL : M 138 = some (.inr (12, [.ref (z + 139), .int 0, .int ml, .int (nI c)]))) (hB : M 139 = some (.inl (kA 4, 16, .inl f))) (hi : i < c) (hc : c ≤ 16) (hfi : f i = nI q) (hqq : q < 128) : pm_C l z D kA kE yX12_lineCharacter cX12_lineCharacter 2 (some .char) 20 1 6 [.ref (z + 0), .int (nI i)] nx M (pm_rt (some (.int (nI q))) nx M) := by
  refine pm_mk (own := RX12) (nm := "lineCharacter") mt_X12_lineCharacter rfl rfl rfl rfl fun X B => ?_
  refine pm_loc (L' := [some (.ref (z + 0)), some (.int (nI i))]) rfl ?_
  refine pm_iload_n B dX12_lineCharacter_0 rfl ?_
  refine pm_if_lt (tgt := 15) B dX12_lineCharacter_1 (by decide) (fun hq1 => absurd hq1 (pm_lt0 (by omega))) (fun hq1 => ?_)
  refine pm_iload_n B dX12_lineCharacter_4 rfl ?_
  refine pm_aload_n B dX12_lineCharacter_5 rfl ?_
  refine pm_get B dX12_lineCharacter_6 fl_X12_61 hto rfl ?_
  refine pm_cV (As := []) (mc2 := 0) (ms2 := 0) B rfl hL rfl (c_J4_length_8abf5 hL) mt_J4_length_8abf5 sv_X12_323 dX12_lineCharacter_9 rfl rfl rfl rfl rfl ?_
  refine pm_stk (st' := [.int (nI c), .int (nI i)]) rfl ?_
  refine pm_icmp_lt (tgt := 26) B dX12_lineCharacter_12 (by decide) (fun hq2 => ?_) (fun hq2 => absurd (nI_lt hi (by omega)) hq2)
  refine pm_aload_n B dX12_lineCharacter_26 rfl ?_
  refine pm_get B dX12_lineCharacter_27 fl_X12_61 hto rfl ?_
  refine pm_iload_n B dX12_lineCharacter_30 rfl ?_
  refine pm_cV (As := [.int (nI i)]) (mc2 := 0) (ms2 := 0) B rfl hL rfl (c_J4_charAt_5068e hL hB hi hc hfi hqq) mt_J4_charAt_5068e sv_X12_331 dX12_lineCharacter_31 rfl rfl rfl rfl rfl ?_
  refine pm_stk (st' := [.int (nI q)]) rfl ?_
  exact pm_ireturn B dX12_lineCharacter_34 rfl (pk_charN (by omega)).1 ⟨rfl, rfl, rfl⟩ rfl rfl
def pm_wd (q : Nat) : Nat := if q < 10 then 1 else if q < 100 then 2 else 3
def pm_dq (f : Nat → Int32) (c q : Nat) : Nat → Int32 := if q < 10 then pm_d1 f c q else if q < 100 then pm_d2 f c q else pm_d3 f c q
/-- a line: its bytes and its length; a number behind it, a letter behind it -/
abbrev pm_aI (t : (Nat → Int32) × Nat) (q : Nat) : (Nat → Int32) × Nat := (pm_dq t.1 t.2 q, t.2 + pm_wd q)
abbrev pm_aC (t : (Nat → Int32) × Nat) (q : Nat) : (Nat → Int32) × Nat := (upd t.1 t.2 (nI q), t.2 + 1)
theorem pm_wd1 {q : Nat} (h : q < 10) : pm_wd q = 1 := if_pos h
theorem pm_wd2 {q : Nat} (h : q < 100) : pm_wd q ≤ 2 := by unfold pm_wd; (repeat' split) <;> omega
theorem pm_wd3 (q : Nat) : pm_wd q ≤ 3 := by unfold pm_wd; (repeat' split) <;> omega
section PLN
variable {l : Launch} {z : Nat} {D : va_G} {kA : Nat → ClassId} {kE : Nat → Nat} {nx : Nat} {M : pm_M} {ml : Int32} {t t2 : (Nat → Int32) × Nat}
theorem pm_lnI {q : Nat} (e : t2 = pm_aI t q) (hL : M 138 = some (.inr (12, [.ref (z + 139), .int 0, .int ml, .int (nI t.2)]))) (hB : M 139 = some (.inl (kA 4, 16, .inl t.1))) (hq : q < 1000) (hc : t.2 + pm_wd q ≤ 16) :
    pm_C l z D kA kE yJ4_append_bf812 cJ4_append_bf812 2 (some (.object "java/lang/StringBuilder")) 2 0 0 [.ref (z + 138), .int (nI q)] nx M (pm_rt (some (.ref (z + 138))) nx (pm_up (pm_up M 139 (.inl (kA 4, 16, .inl t2.1))) 138 (.inr (12, [.ref (z + 139), .int 0, .int ml, .int (nI t2.2)])))) := by
  subst e
  by_cases h1 : q < 10
  · have e1 : pm_wd q = 1 := if_pos h1
    have e2 : pm_dq t.1 t.2 q = pm_d1 t.1 t.2 q := if_pos h1
    simp only [e1, e2] at hc ⊢
    exact c_J4_append_bf812_1 hL hB (by decide) hq h1 hc
  · by_cases h2 : q < 100
    · have e1 : pm_wd q = 2 := (if_neg h1).trans (if_pos h2)
      have e2 : pm_dq t.1 t.2 q = pm_d2 t.1 t.2 q := (if_neg h1).trans (if_pos h2)
      simp only [e1, e2] at hc ⊢
      exact c_J4_append_bf812_2 hL hB (by decide) hq (by omega) h2 hc
    · have e1 : pm_wd q = 3 := (if_neg h1).trans (if_neg h2)
      have e2 : pm_dq t.1 t.2 q = pm_d3 t.1 t.2 q := (if_neg h1).trans (if_neg h2)
      simp only [e1, e2] at hc ⊢
      exact c_J4_append_bf812_3 hL hB (by decide) hq (by omega) hc
theorem pm_lnC {q : Nat} (e : t2 = pm_aC t q) (hL : M 138 = some (.inr (12, [.ref (z + 139), .int 0, .int ml, .int (nI t.2)]))) (hB : M 139 = some (.inl (kA 4, 16, .inl t.1))) (hq : q < 128) (hc : t.2 < 16) :
    pm_C l z D kA kE yJ4_append_cf468 cJ4_append_cf468 2 (some (.object "java/lang/StringBuilder")) 2 0 0 [.ref (z + 138), .int (nI q)] nx M (pm_rt (some (.ref (z + 138))) nx (pm_up (pm_up M 139 (.inl (kA 4, 16, .inl t2.1))) 138 (.inr (12, [.ref (z + 139), .int 0, .int ml, .int (nI t2.2)])))) := by
  subst e
  rw [pm_up_sw (a := 139) (b := 138) (by decide)]
  exact c_J4_append_cf468 hL hB (by decide) hq hc
theorem pm_ln0 {c : Nat} {ml1 : Int32} {f : Nat → Int32} (e : (c = 0 ∧ ml1 = ml) ∨ (0 < c ∧ ml1 = 1)) (hL : M 138 = some (.inr (12, [.ref (z + 139), .int 0, .int ml, .int (nI c)]))) (hB : M 139 = some (.inl (kA 4, 16, .inl f))) (hc : c ≤ 16) :
    pm_C l z D kA kE yJ4_setLength_d00df cJ4_setLength_d00df 2 none 2 0 0 [.ref (z + 138), .int 0] nx M (pm_rt none nx (pm_up M 138 (.inr (12, [.ref (z + 139), .int 0, .int ml1, .int (nI 0)])))) := by
  rcases e with ⟨h, rfl⟩ | ⟨h, rfl⟩
  · exact c_J4_setLength_d00df_z hL hB hc h
  · exact c_J4_setLength_d00df_p hL hB hc h
end PLN
/-- a letter k times behind a line -/
def pm_rep (t : (Nat → Int32) × Nat) (q : Nat) : Nat → (Nat → Int32) × Nat
  | 0 => t
  | k + 1 => pm_aC (pm_rep t q k) q
/-- a member's line -/
def pm_mln (f : Nat → Int32) (i s qt cp vt w b : Nat) : (Nat → Int32) × Nat := pm_rep (pm_rep (pm_aI (pm_aC (pm_aI (pm_aC (pm_aI (pm_aC (pm_aI (pm_aC (pm_aI (f, 0) i) 58) s) 47) qt) 47) cp) 118) vt) 33 w) 120 b
set_option maxRecDepth 100000 in
set_option maxHeartbeats 4000000 in
theorem c_X12_writeMember_00 {l : Launch} {z : Nat} {D : va_G} {kA : Nat → ClassId} {kE : Nat → Nat} {nx : Nat} {M : pm_M} {i n c cp vt qt s : Nat} {ml ml1 : Int32} {f r to : Nat → Int32} {ldv : Value} {t1 t2 t3 t4 t5 t6 t7 t8 t9 : (Nat → Int32) × Nat} (hS : pm_SA z kA 2 M r) (hto : M 0 = some (pm_to z to ldv)) (hn : r 0 = nI n) (h7 : n ≤ 7) (hL : M 138 = some (.inr (12, [.ref (z + 139), .int 0, .int ml, .int (nI c)]))) (hB : M 139 = some (.inl (kA 4, 16, .inl f))) (hc0 : c ≤ 16) (hml : (c = 0 ∧ ml1 = ml) ∨ (0 < c ∧ ml1 = 1)) (hm : ¬ d_X10_hasMember (nI i) n r = 0) (hi : i < n) (hcp : cp < 100) (hvt : vt < 100) (hqt : qt < 1000) (hs : s < 100) (hv0 : r (7 + 6 * i + 0) = nI cp) (hv1 : r (7 + 6 * i + 1) = nI vt) (hv2 : r (7 + 6 * i + 2) = nI qt) (hv3 : r (7 + 6 * i + 3) = nI s) (hv4 : r (7 + 6 * i + 4) = 0) (hv5 : r (7 + 6 * i + 5) = 0) (e1 : t1 = pm_aI (f, 0) i) (e2 : t2 = pm_aC t1 58) (e3 : t3 = pm_aI t2 s) (e4 : t4 = pm_aC t3 47) (e5 : t5 = pm_aI t4 qt) (e6 : t6 = pm_aC t5 47) (e7 : t7 = pm_aI t6 cp) (e8 : t8 = pm_aC t7 118) (e9 : t9 = pm_aI t8 vt) : pm_C l z D kA kE yX12_writeMember cX12_writeMember 4 (some .int) 20 1 6 [.ref (z + 0), .int (nI i)] nx M (pm_rt (some (.int (nI t9.2))) nx (pm_up (pm_up M 138 (.inr (12, [.ref (z + 139), .int 0, .int ml1, .int (nI t9.2)]))) 139 (.inl (kA 4, 16, .inl t9.1)))) := by
  refine pm_mk (own := RX12) (nm := "writeMember") mt_X12_writeMember rfl rfl rfl rfl fun X B => ?_
  refine pm_loc (L' := [some (.ref (z + 0)), some (.int (nI i)), none, none]) rfl ?_
  have w1 := (pm_wd1 (q := i) (by omega))
  have b1 : ((f, 0) : (Nat → Int32) × Nat).2 + pm_wd i ≤ 16 := by show 0 + pm_wd i ≤ 16; omega
  have m1 : t1.2 ≤ 1 := by rw [e1]; show 0 + pm_wd i ≤ 1; omega
  have b2 : t1.2 < 16 := by omega
  have m2 : t2.2 ≤ 2 := by rw [e2]; show t1.2 + 1 ≤ 2; omega
  have w3 := (pm_wd2 hs)
  have b3 : t2.2 + pm_wd s ≤ 16 := by omega
  have m3 : t3.2 ≤ 4 := by rw [e3]; show t2.2 + pm_wd s ≤ 4; omega
  have b4 : t3.2 < 16 := by omega
  have m4 : t4.2 ≤ 5 := by rw [e4]; show t3.2 + 1 ≤ 5; omega
  have w5 := (pm_wd3 qt)
  have b5 : t4.2 + pm_wd qt ≤ 16 := by omega
  have m5 : t5.2 ≤ 8 := by rw [e5]; show t4.2 + pm_wd qt ≤ 8; omega
  have b6 : t5.2 < 16 := by omega
  have m6 : t6.2 ≤ 9 := by rw [e6]; show t5.2 + 1 ≤ 9; omega
  have w7 := (pm_wd2 hcp)
  have b7 : t6.2 + pm_wd cp ≤ 16 := by omega
  have m7 : t7.2 ≤ 11 := by rw [e7]; show t6.2 + pm_wd cp ≤ 11; omega
  have b8 : t7.2 < 16 := by omega
  have m8 : t8.2 ≤ 12 := by rw [e8]; show t7.2 + 1 ≤ 12; omega
  have w9 := (pm_wd2 hvt)
  have b9 : t8.2 + pm_wd vt ≤ 16 := by omega
  have m9 : t9.2 ≤ 14 := by rw [e9]; show t8.2 + pm_wd vt ≤ 14; omega
  refine pm_aload_n B dX12_writeMember_0 rfl ?_
  refine pm_iload_n B dX12_writeMember_1 rfl ?_
  refine pm_cV (As := [.int (nI i)]) (mc2 := 1) (ms2 := 6) B rfl hto rfl (pm_C_f0 (if_neg hm) (c_X12_demandMember (ldv := ldv) hS hto hn h7)) mt_X12_demandMember sv_X12_82 dX12_writeMember_2 rfl rfl rfl rfl rfl ?_
  refine pm_stk (st' := []) rfl ?_
  refine pm_aload_n B dX12_writeMember_5 rfl ?_
  refine pm_get B dX12_writeMember_6 fl_X12_20 hto rfl ?_
  refine pm_get B dX12_writeMember_9 fl_X12_86 hS.1 rfl ?_
  refine pm_iload_n B dX12_writeMember_12 rfl ?_
  refine pm_aald_n B dX12_writeMember_13 hS.2.1 rfl i (by first | assumption | omega) (by decide) (pm_mr_at (by omega)) ?_
  refine pm_astore_n B dX12_writeMember_14 rfl rfl ?_
  refine pm_loc (L' := [some (.ref (z + 0)), some (.int (nI i)), some (.ref (z + (4 + i))), none]) rfl ?_
  refine pm_aload_n B dX12_writeMember_15 rfl ?_
  refine pm_get B dX12_writeMember_16 fl_X12_61 hto rfl ?_
  refine pm_iconst (v := 0) B dX12_writeMember_19 (by decide) ?_
  refine pm_cV (As := [.int 0]) (mc2 := 0) (ms2 := 0) B rfl hL rfl (pm_ln0 hml hL hB hc0) mt_J4_setLength_d00df sv_X12_314 dX12_writeMember_20 rfl rfl rfl rfl rfl ?_
  refine pm_mem (M' := pm_up M 138 (.inr (12, [.ref (z + 139), .int 0, .int ml1, .int (nI 0)]))) rfl ?_
  refine pm_stk (st' := []) rfl ?_
  refine pm_aload_n B dX12_writeMember_23 rfl ?_
  refine pm_get B dX12_writeMember_24 fl_X12_61 ((pm_up_n (by omega)).trans hto) rfl ?_
  refine pm_iload_n B dX12_writeMember_27 rfl ?_
  refine pm_cV (As := [.int (nI i)]) (mc2 := 0) (ms2 := 0) B rfl pm_up_s rfl (pm_lnI (t := (f, 0)) (q := i) e1 pm_up_s ((pm_up_n (by omega)).trans hB) (by omega) b1) mt_J4_append_bf812 sv_X12_317 dX12_writeMember_28 rfl rfl rfl rfl rfl ?_
  refine pm_mem (M' := pm_up (pm_up (pm_up M 138 (.inr (12, [.ref (z + 139), .int 0, .int ml1, .int (nI 0)]))) 139 (.inl (kA 4, 16, .inl t1.1))) 138 (.inr (12, [.ref (z + 139), .int 0, .int ml1, .int (nI t1.2)]))) rfl ?_
  refine pm_mem (M' := pm_up (pm_up M 138 (.inr (12, [.ref (z + 139), .int 0, .int ml1, .int (nI t1.2)]))) 139 (.inl (kA 4, 16, .inl t1.1))) (by rw [pm_up_sw (a := 139) (b := 138) (by omega), pm_up_up (a := 138)]) ?_
  refine pm_stk (st' := [.ref (z + 138)]) rfl ?_
  refine pm_bipush (v := 58) B dX12_writeMember_31 (by decide) ?_
  refine pm_cV (As := [.int 58]) (mc2 := 0) (ms2 := 0) B rfl ((pm_up_n (by omega)).trans pm_up_s) rfl (pm_lnC (t := t1) (q := 58) e2 ((pm_up_n (by omega)).trans pm_up_s) pm_up_s (by omega) b2) mt_J4_append_cf468 sv_X12_320 dX12_writeMember_33 rfl rfl rfl rfl rfl ?_
  refine pm_mem (M' := pm_up (pm_up (pm_up (pm_up M 138 (.inr (12, [.ref (z + 139), .int 0, .int ml1, .int (nI t1.2)]))) 139 (.inl (kA 4, 16, .inl t1.1))) 139 (.inl (kA 4, 16, .inl t2.1))) 138 (.inr (12, [.ref (z + 139), .int 0, .int ml1, .int (nI t2.2)]))) rfl ?_
  refine pm_mem (M' := pm_up (pm_up (pm_up M 138 (.inr (12, [.ref (z + 139), .int 0, .int ml1, .int (nI t1.2)]))) 139 (.inl (kA 4, 16, .inl t2.1))) 138 (.inr (12, [.ref (z + 139), .int 0, .int ml1, .int (nI t2.2)]))) (by rw [pm_up_up (a := 139)]) ?_
  refine pm_mem (M' := pm_up (pm_up M 138 (.inr (12, [.ref (z + 139), .int 0, .int ml1, .int (nI t2.2)]))) 139 (.inl (kA 4, 16, .inl t2.1))) (by rw [pm_up_sw (a := 139) (b := 138) (by omega), pm_up_up (a := 138)]) ?_
  refine pm_stk (st' := [.ref (z + 138)]) rfl ?_
  refine pm_aload_n B dX12_writeMember_36 rfl ?_
  refine pm_get B dX12_writeMember_37 fl_X12_164 ((pm_up_n (by omega)).trans ((pm_up_n (by omega)).trans (hS.2.2.1 i (by omega)))) rfl ?_
  refine pm_stk (st' := [.int (nI s), .ref (z + 138)]) (by rw [show (r (7 + 6 * i + 3)) = (nI s) from hv3]) ?_
  refine pm_cV (As := [.int (nI s)]) (mc2 := 0) (ms2 := 0) B rfl ((pm_up_n (by omega)).trans pm_up_s) rfl (pm_lnI (t := t2) (q := s) e3 ((pm_up_n (by omega)).trans pm_up_s) pm_up_s (by omega) b3) mt_J4_append_bf812 sv_X12_317 dX12_writeMember_40 rfl rfl rfl rfl rfl ?_
  refine pm_mem (M' := pm_up (pm_up (pm_up (pm_up M 138 (.inr (12, [.ref (z + 139), .int 0, .int ml1, .int (nI t2.2)]))) 139 (.inl (kA 4, 16, .inl t2.1))) 139 (.inl (kA 4, 16, .inl t3.1))) 138 (.inr (12, [.ref (z + 139), .int 0, .int ml1, .int (nI t3.2)]))) rfl ?_
  refine pm_mem (M' := pm_up (pm_up (pm_up M 138 (.inr (12, [.ref (z + 139), .int 0, .int ml1, .int (nI t2.2)]))) 139 (.inl (kA 4, 16, .inl t3.1))) 138 (.inr (12, [.ref (z + 139), .int 0, .int ml1, .int (nI t3.2)]))) (by rw [pm_up_up (a := 139)]) ?_
  refine pm_mem (M' := pm_up (pm_up M 138 (.inr (12, [.ref (z + 139), .int 0, .int ml1, .int (nI t3.2)]))) 139 (.inl (kA 4, 16, .inl t3.1))) (by rw [pm_up_sw (a := 139) (b := 138) (by omega), pm_up_up (a := 138)]) ?_
  refine pm_stk (st' := [.ref (z + 138)]) rfl ?_
  refine pm_pop B dX12_writeMember_43 rfl ?_
  refine pm_aload_n B dX12_writeMember_44 rfl ?_
  refine pm_get B dX12_writeMember_45 fl_X12_61 ((pm_up_n (by omega)).trans ((pm_up_n (by omega)).trans hto)) rfl ?_
  refine pm_bipush (v := 47) B dX12_writeMember_48 (by decide) ?_
  refine pm_cV (As := [.int 47]) (mc2 := 0) (ms2 := 0) B rfl ((pm_up_n (by omega)).trans pm_up_s) rfl (pm_lnC (t := t3) (q := 47) e4 ((pm_up_n (by omega)).trans pm_up_s) pm_up_s (by omega) b4) mt_J4_append_cf468 sv_X12_320 dX12_writeMember_50 rfl rfl rfl rfl rfl ?_
  refine pm_mem (M' := pm_up (pm_up (pm_up (pm_up M 138 (.inr (12, [.ref (z + 139), .int 0, .int ml1, .int (nI t3.2)]))) 139 (.inl (kA 4, 16, .inl t3.1))) 139 (.inl (kA 4, 16, .inl t4.1))) 138 (.inr (12, [.ref (z + 139), .int 0, .int ml1, .int (nI t4.2)]))) rfl ?_
  refine pm_mem (M' := pm_up (pm_up (pm_up M 138 (.inr (12, [.ref (z + 139), .int 0, .int ml1, .int (nI t3.2)]))) 139 (.inl (kA 4, 16, .inl t4.1))) 138 (.inr (12, [.ref (z + 139), .int 0, .int ml1, .int (nI t4.2)]))) (by rw [pm_up_up (a := 139)]) ?_
  refine pm_mem (M' := pm_up (pm_up M 138 (.inr (12, [.ref (z + 139), .int 0, .int ml1, .int (nI t4.2)]))) 139 (.inl (kA 4, 16, .inl t4.1))) (by rw [pm_up_sw (a := 139) (b := 138) (by omega), pm_up_up (a := 138)]) ?_
  refine pm_stk (st' := [.ref (z + 138)]) rfl ?_
  refine pm_aload_n B dX12_writeMember_53 rfl ?_
  refine pm_get B dX12_writeMember_54 fl_X12_161 ((pm_up_n (by omega)).trans ((pm_up_n (by omega)).trans (hS.2.2.1 i (by omega)))) rfl ?_
  refine pm_stk (st' := [.int (nI qt), .ref (z + 138)]) (by rw [show (r (7 + 6 * i + 2)) = (nI qt) from hv2]) ?_
  refine pm_cV (As := [.int (nI qt)]) (mc2 := 0) (ms2 := 0) B rfl ((pm_up_n (by omega)).trans pm_up_s) rfl (pm_lnI (t := t4) (q := qt) e5 ((pm_up_n (by omega)).trans pm_up_s) pm_up_s (by omega) b5) mt_J4_append_bf812 sv_X12_317 dX12_writeMember_57 rfl rfl rfl rfl rfl ?_
  refine pm_mem (M' := pm_up (pm_up (pm_up (pm_up M 138 (.inr (12, [.ref (z + 139), .int 0, .int ml1, .int (nI t4.2)]))) 139 (.inl (kA 4, 16, .inl t4.1))) 139 (.inl (kA 4, 16, .inl t5.1))) 138 (.inr (12, [.ref (z + 139), .int 0, .int ml1, .int (nI t5.2)]))) rfl ?_
  refine pm_mem (M' := pm_up (pm_up (pm_up M 138 (.inr (12, [.ref (z + 139), .int 0, .int ml1, .int (nI t4.2)]))) 139 (.inl (kA 4, 16, .inl t5.1))) 138 (.inr (12, [.ref (z + 139), .int 0, .int ml1, .int (nI t5.2)]))) (by rw [pm_up_up (a := 139)]) ?_
  refine pm_mem (M' := pm_up (pm_up M 138 (.inr (12, [.ref (z + 139), .int 0, .int ml1, .int (nI t5.2)]))) 139 (.inl (kA 4, 16, .inl t5.1))) (by rw [pm_up_sw (a := 139) (b := 138) (by omega), pm_up_up (a := 138)]) ?_
  refine pm_stk (st' := [.ref (z + 138)]) rfl ?_
  refine pm_pop B dX12_writeMember_60 rfl ?_
  refine pm_aload_n B dX12_writeMember_61 rfl ?_
  refine pm_get B dX12_writeMember_62 fl_X12_61 ((pm_up_n (by omega)).trans ((pm_up_n (by omega)).trans hto)) rfl ?_
  refine pm_bipush (v := 47) B dX12_writeMember_65 (by decide) ?_
  refine pm_cV (As := [.int 47]) (mc2 := 0) (ms2 := 0) B rfl ((pm_up_n (by omega)).trans pm_up_s) rfl (pm_lnC (t := t5) (q := 47) e6 ((pm_up_n (by omega)).trans pm_up_s) pm_up_s (by omega) b6) mt_J4_append_cf468 sv_X12_320 dX12_writeMember_67 rfl rfl rfl rfl rfl ?_
  refine pm_mem (M' := pm_up (pm_up (pm_up (pm_up M 138 (.inr (12, [.ref (z + 139), .int 0, .int ml1, .int (nI t5.2)]))) 139 (.inl (kA 4, 16, .inl t5.1))) 139 (.inl (kA 4, 16, .inl t6.1))) 138 (.inr (12, [.ref (z + 139), .int 0, .int ml1, .int (nI t6.2)]))) rfl ?_
  refine pm_mem (M' := pm_up (pm_up (pm_up M 138 (.inr (12, [.ref (z + 139), .int 0, .int ml1, .int (nI t5.2)]))) 139 (.inl (kA 4, 16, .inl t6.1))) 138 (.inr (12, [.ref (z + 139), .int 0, .int ml1, .int (nI t6.2)]))) (by rw [pm_up_up (a := 139)]) ?_
  refine pm_mem (M' := pm_up (pm_up M 138 (.inr (12, [.ref (z + 139), .int 0, .int ml1, .int (nI t6.2)]))) 139 (.inl (kA 4, 16, .inl t6.1))) (by rw [pm_up_sw (a := 139) (b := 138) (by omega), pm_up_up (a := 138)]) ?_
  refine pm_stk (st' := [.ref (z + 138)]) rfl ?_
  refine pm_aload_n B dX12_writeMember_70 rfl ?_
  refine pm_get B dX12_writeMember_71 fl_X12_90 ((pm_up_n (by omega)).trans ((pm_up_n (by omega)).trans (hS.2.2.1 i (by omega)))) rfl ?_
  refine pm_stk (st' := [.int (nI cp), .ref (z + 138)]) (by rw [show (r (7 + 6 * i + 0)) = (nI cp) from hv0]) ?_
  refine pm_cV (As := [.int (nI cp)]) (mc2 := 0) (ms2 := 0) B rfl ((pm_up_n (by omega)).trans pm_up_s) rfl (pm_lnI (t := t6) (q := cp) e7 ((pm_up_n (by omega)).trans pm_up_s) pm_up_s (by omega) b7) mt_J4_append_bf812 sv_X12_317 dX12_writeMember_74 rfl rfl rfl rfl rfl ?_
  refine pm_mem (M' := pm_up (pm_up (pm_up (pm_up M 138 (.inr (12, [.ref (z + 139), .int 0, .int ml1, .int (nI t6.2)]))) 139 (.inl (kA 4, 16, .inl t6.1))) 139 (.inl (kA 4, 16, .inl t7.1))) 138 (.inr (12, [.ref (z + 139), .int 0, .int ml1, .int (nI t7.2)]))) rfl ?_
  refine pm_mem (M' := pm_up (pm_up (pm_up M 138 (.inr (12, [.ref (z + 139), .int 0, .int ml1, .int (nI t6.2)]))) 139 (.inl (kA 4, 16, .inl t7.1))) 138 (.inr (12, [.ref (z + 139), .int 0, .int ml1, .int (nI t7.2)]))) (by rw [pm_up_up (a := 139)]) ?_
  refine pm_mem (M' := pm_up (pm_up M 138 (.inr (12, [.ref (z + 139), .int 0, .int ml1, .int (nI t7.2)]))) 139 (.inl (kA 4, 16, .inl t7.1))) (by rw [pm_up_sw (a := 139) (b := 138) (by omega), pm_up_up (a := 138)]) ?_
  refine pm_stk (st' := [.ref (z + 138)]) rfl ?_
  refine pm_pop B dX12_writeMember_77 rfl ?_
  refine pm_aload_n B dX12_writeMember_78 rfl ?_
  refine pm_get B dX12_writeMember_79 fl_X12_61 ((pm_up_n (by omega)).trans ((pm_up_n (by omega)).trans hto)) rfl ?_
  refine pm_bipush (v := 118) B dX12_writeMember_82 (by decide) ?_
  refine pm_cV (As := [.int 118]) (mc2 := 0) (ms2 := 0) B rfl ((pm_up_n (by omega)).trans pm_up_s) rfl (pm_lnC (t := t7) (q := 118) e8 ((pm_up_n (by omega)).trans pm_up_s) pm_up_s (by omega) b8) mt_J4_append_cf468 sv_X12_320 dX12_writeMember_84 rfl rfl rfl rfl rfl ?_
  refine pm_mem (M' := pm_up (pm_up (pm_up (pm_up M 138 (.inr (12, [.ref (z + 139), .int 0, .int ml1, .int (nI t7.2)]))) 139 (.inl (kA 4, 16, .inl t7.1))) 139 (.inl (kA 4, 16, .inl t8.1))) 138 (.inr (12, [.ref (z + 139), .int 0, .int ml1, .int (nI t8.2)]))) rfl ?_
  refine pm_mem (M' := pm_up (pm_up (pm_up M 138 (.inr (12, [.ref (z + 139), .int 0, .int ml1, .int (nI t7.2)]))) 139 (.inl (kA 4, 16, .inl t8.1))) 138 (.inr (12, [.ref (z + 139), .int 0, .int ml1, .int (nI t8.2)]))) (by rw [pm_up_up (a := 139)]) ?_
  refine pm_mem (M' := pm_up (pm_up M 138 (.inr (12, [.ref (z + 139), .int 0, .int ml1, .int (nI t8.2)]))) 139 (.inl (kA 4, 16, .inl t8.1))) (by rw [pm_up_sw (a := 139) (b := 138) (by omega), pm_up_up (a := 138)]) ?_
  refine pm_stk (st' := [.ref (z + 138)]) rfl ?_
  refine pm_aload_n B dX12_writeMember_87 rfl ?_
  refine pm_get B dX12_writeMember_88 fl_X12_95 ((pm_up_n (by omega)).trans ((pm_up_n (by omega)).trans (hS.2.2.1 i (by omega)))) rfl ?_
  refine pm_stk (st' := [.int (nI vt), .ref (z + 138)]) (by rw [show (r (7 + 6 * i + 1)) = (nI vt) from hv1]) ?_
  refine pm_cV (As := [.int (nI vt)]) (mc2 := 0) (ms2 := 0) B rfl ((pm_up_n (by omega)).trans pm_up_s) rfl (pm_lnI (t := t8) (q := vt) e9 ((pm_up_n (by omega)).trans pm_up_s) pm_up_s (by omega) b9) mt_J4_append_bf812 sv_X12_317 dX12_writeMember_91 rfl rfl rfl rfl rfl ?_
  refine pm_mem (M' := pm_up (pm_up (pm_up (pm_up M 138 (.inr (12, [.ref (z + 139), .int 0, .int ml1, .int (nI t8.2)]))) 139 (.inl (kA 4, 16, .inl t8.1))) 139 (.inl (kA 4, 16, .inl t9.1))) 138 (.inr (12, [.ref (z + 139), .int 0, .int ml1, .int (nI t9.2)]))) rfl ?_
  refine pm_mem (M' := pm_up (pm_up (pm_up M 138 (.inr (12, [.ref (z + 139), .int 0, .int ml1, .int (nI t8.2)]))) 139 (.inl (kA 4, 16, .inl t9.1))) 138 (.inr (12, [.ref (z + 139), .int 0, .int ml1, .int (nI t9.2)]))) (by rw [pm_up_up (a := 139)]) ?_
  refine pm_mem (M' := pm_up (pm_up M 138 (.inr (12, [.ref (z + 139), .int 0, .int ml1, .int (nI t9.2)]))) 139 (.inl (kA 4, 16, .inl t9.1))) (by rw [pm_up_sw (a := 139) (b := 138) (by omega), pm_up_up (a := 138)]) ?_
  refine pm_stk (st' := [.ref (z + 138)]) rfl ?_
  refine pm_pop B dX12_writeMember_94 rfl ?_
  refine pm_iconst (v := 0) B dX12_writeMember_95 (by decide) ?_
  refine pm_istore_n B dX12_writeMember_96 rfl rfl ?_
  refine pm_loc (L' := [some (.ref (z + 0)), some (.int (nI i)), some (.ref (z + (4 + i))), some (.int 0)]) rfl ?_
  refine pm_iload_n B dX12_writeMember_97 rfl ?_
  refine pm_aload_n B dX12_writeMember_98 rfl ?_
  refine pm_get B dX12_writeMember_99 fl_X12_105 ((pm_up_n (by omega)).trans ((pm_up_n (by omega)).trans (hS.2.2.1 i (by omega)))) rfl ?_
  refine pm_stk (st' := [.int 0, .int 0]) (by rw [show (r (7 + 6 * i + 4)) = 0 from hv4]) ?_
  refine pm_icmp_ge (tgt := 121) B dX12_writeMember_102 (by decide) (fun hq1 => ?_) (fun hq1 => absurd (by decide) hq1)
  refine pm_iconst (v := 0) B dX12_writeMember_121 (by decide) ?_
  refine pm_istore_n B dX12_writeMember_122 rfl rfl ?_
  refine pm_loc (L' := [some (.ref (z + 0)), some (.int (nI i)), some (.ref (z + (4 + i))), some (.int 0)]) rfl ?_
  refine pm_iload_n B dX12_writeMember_123 rfl ?_
  refine pm_aload_n B dX12_writeMember_124 rfl ?_
  refine pm_get B dX12_writeMember_125 fl_X12_115 ((pm_up_n (by omega)).trans ((pm_up_n (by omega)).trans (hS.2.2.1 i (by omega)))) rfl ?_
  refine pm_stk (st' := [.int 0, .int 0]) (by rw [show (r (7 + 6 * i + 5)) = 0 from hv5]) ?_
  refine pm_icmp_ge (tgt := 147) B dX12_writeMember_128 (by decide) (fun hq2 => ?_) (fun hq2 => absurd (by decide) hq2)
  refine pm_aload_n B dX12_writeMember_147 rfl ?_
  refine pm_get B dX12_writeMember_148 fl_X12_61 ((pm_up_n (by omega)).trans ((pm_up_n (by omega)).trans hto)) rfl ?_
  refine pm_cV (As := []) (mc2 := 0) (ms2 := 0) B rfl ((pm_up_n (by omega)).trans pm_up_s) rfl (c_J4_length_8abf5 ((pm_up_n (by omega)).trans pm_up_s)) mt_J4_length_8abf5 sv_X12_323 dX12_writeMember_151 rfl rfl rfl rfl rfl ?_
  refine pm_stk (st' := [.int (nI t9.2)]) rfl ?_
  exact pm_ireturn B dX12_writeMember_154 rfl (by first | rfl | (apply pm_nz; first | assumption | decide | exact pm_in01 _ _ _ | simp)) ⟨rfl, rfl, rfl⟩ rfl rfl
set_option maxRecDepth 100000 in
set_option maxHeartbeats 4000000 in
theorem c_X12_writeMember_10 {l : Launch} {z : Nat} {D : va_G} {kA : Nat → ClassId} {kE : Nat → Nat} {nx : Nat} {M : pm_M} {i n c cp vt qt s : Nat} {ml ml1 : Int32} {f r to : Nat → Int32} {ldv : Value} {t1 t2 t3 t4 t5 t6 t7 t8 t9 t10 : (Nat → Int32) × Nat} (hS : pm_SA z kA 2 M r) (hto : M 0 = some (pm_to z to ldv)) (hn : r 0 = nI n) (h7 : n ≤ 7) (hL : M 138 = some (.inr (12, [.ref (z + 139), .int 0, .int ml, .int (nI c)]))) (hB : M 139 = some (.inl (kA 4, 16, .inl f))) (hc0 : c ≤ 16) (hml : (c = 0 ∧ ml1 = ml) ∨ (0 < c ∧ ml1 = 1)) (hm : ¬ d_X10_hasMember (nI i) n r = 0) (hi : i < n) (hcp : cp < 100) (hvt : vt < 100) (hqt : qt < 1000) (hs : s < 100) (hv0 : r (7 + 6 * i + 0) = nI cp) (hv1 : r (7 + 6 * i + 1) = nI vt) (hv2 : r (7 + 6 * i + 2) = nI qt) (hv3 : r (7 + 6 * i + 3) = nI s) (hv4 : r (7 + 6 * i + 4) = 1) (hv5 : r (7 + 6 * i + 5) = 0) (e1 : t1 = pm_aI (f, 0) i) (e2 : t2 = pm_aC t1 58) (e3 : t3 = pm_aI t2 s) (e4 : t4 = pm_aC t3 47) (e5 : t5 = pm_aI t4 qt) (e6 : t6 = pm_aC t5 47) (e7 : t7 = pm_aI t6 cp) (e8 : t8 = pm_aC t7 118) (e9 : t9 = pm_aI t8 vt) (e10 : t10 = pm_aC t9 33) : pm_C l z D kA kE yX12_writeMember cX12_writeMember 4 (some .int) 20 1 6 [.ref (z + 0), .int (nI i)] nx M (pm_rt (some (.int (nI t10.2))) nx (pm_up (pm_up M 138 (.inr (12, [.ref (z + 139), .int 0, .int ml1, .int (nI t10.2)]))) 139 (.inl (kA 4, 16, .inl t10.1)))) := by
  refine pm_mk (own := RX12) (nm := "writeMember") mt_X12_writeMember rfl rfl rfl rfl fun X B => ?_
  refine pm_loc (L' := [some (.ref (z + 0)), some (.int (nI i)), none, none]) rfl ?_
  have w1 := (pm_wd1 (q := i) (by omega))
  have b1 : ((f, 0) : (Nat → Int32) × Nat).2 + pm_wd i ≤ 16 := by show 0 + pm_wd i ≤ 16; omega
  have m1 : t1.2 ≤ 1 := by rw [e1]; show 0 + pm_wd i ≤ 1; omega
  have b2 : t1.2 < 16 := by omega
  have m2 : t2.2 ≤ 2 := by rw [e2]; show t1.2 + 1 ≤ 2; omega
  have w3 := (pm_wd2 hs)
  have b3 : t2.2 + pm_wd s ≤ 16 := by omega
  have m3 : t3.2 ≤ 4 := by rw [e3]; show t2.2 + pm_wd s ≤ 4; omega
  have b4 : t3.2 < 16 := by omega
  have m4 : t4.2 ≤ 5 := by rw [e4]; show t3.2 + 1 ≤ 5; omega
  have w5 := (pm_wd3 qt)
  have b5 : t4.2 + pm_wd qt ≤ 16 := by omega
  have m5 : t5.2 ≤ 8 := by rw [e5]; show t4.2 + pm_wd qt ≤ 8; omega
  have b6 : t5.2 < 16 := by omega
  have m6 : t6.2 ≤ 9 := by rw [e6]; show t5.2 + 1 ≤ 9; omega
  have w7 := (pm_wd2 hcp)
  have b7 : t6.2 + pm_wd cp ≤ 16 := by omega
  have m7 : t7.2 ≤ 11 := by rw [e7]; show t6.2 + pm_wd cp ≤ 11; omega
  have b8 : t7.2 < 16 := by omega
  have m8 : t8.2 ≤ 12 := by rw [e8]; show t7.2 + 1 ≤ 12; omega
  have w9 := (pm_wd2 hvt)
  have b9 : t8.2 + pm_wd vt ≤ 16 := by omega
  have m9 : t9.2 ≤ 14 := by rw [e9]; show t8.2 + pm_wd vt ≤ 14; omega
  have b10 : t9.2 < 16 := by omega
  have m10 : t10.2 ≤ 15 := by rw [e10]; show t9.2 + 1 ≤ 15; omega
  refine pm_aload_n B dX12_writeMember_0 rfl ?_
  refine pm_iload_n B dX12_writeMember_1 rfl ?_
  refine pm_cV (As := [.int (nI i)]) (mc2 := 1) (ms2 := 6) B rfl hto rfl (pm_C_f0 (if_neg hm) (c_X12_demandMember (ldv := ldv) hS hto hn h7)) mt_X12_demandMember sv_X12_82 dX12_writeMember_2 rfl rfl rfl rfl rfl ?_
  refine pm_stk (st' := []) rfl ?_
  refine pm_aload_n B dX12_writeMember_5 rfl ?_
  refine pm_get B dX12_writeMember_6 fl_X12_20 hto rfl ?_
  refine pm_get B dX12_writeMember_9 fl_X12_86 hS.1 rfl ?_
  refine pm_iload_n B dX12_writeMember_12 rfl ?_
  refine pm_aald_n B dX12_writeMember_13 hS.2.1 rfl i (by first | assumption | omega) (by decide) (pm_mr_at (by omega)) ?_
  refine pm_astore_n B dX12_writeMember_14 rfl rfl ?_
  refine pm_loc (L' := [some (.ref (z + 0)), some (.int (nI i)), some (.ref (z + (4 + i))), none]) rfl ?_
  refine pm_aload_n B dX12_writeMember_15 rfl ?_
  refine pm_get B dX12_writeMember_16 fl_X12_61 hto rfl ?_
  refine pm_iconst (v := 0) B dX12_writeMember_19 (by decide) ?_
  refine pm_cV (As := [.int 0]) (mc2 := 0) (ms2 := 0) B rfl hL rfl (pm_ln0 hml hL hB hc0) mt_J4_setLength_d00df sv_X12_314 dX12_writeMember_20 rfl rfl rfl rfl rfl ?_
  refine pm_mem (M' := pm_up M 138 (.inr (12, [.ref (z + 139), .int 0, .int ml1, .int (nI 0)]))) rfl ?_
  refine pm_stk (st' := []) rfl ?_
  refine pm_aload_n B dX12_writeMember_23 rfl ?_
  refine pm_get B dX12_writeMember_24 fl_X12_61 ((pm_up_n (by omega)).trans hto) rfl ?_
  refine pm_iload_n B dX12_writeMember_27 rfl ?_
  refine pm_cV (As := [.int (nI i)]) (mc2 := 0) (ms2 := 0) B rfl pm_up_s rfl (pm_lnI (t := (f, 0)) (q := i) e1 pm_up_s ((pm_up_n (by omega)).trans hB) (by omega) b1) mt_J4_append_bf812 sv_X12_317 dX12_writeMember_28 rfl rfl rfl rfl rfl ?_
  refine pm_mem (M' := pm_up (pm_up (pm_up M 138 (.inr (12, [.ref (z + 139), .int 0, .int ml1, .int (nI 0)]))) 139 (.inl (kA 4, 16, .inl t1.1))) 138 (.inr (12, [.ref (z + 139), .int 0, .int ml1, .int (nI t1.2)]))) rfl ?_
  refine pm_mem (M' := pm_up (pm_up M 138 (.inr (12, [.ref (z + 139), .int 0, .int ml1, .int (nI t1.2)]))) 139 (.inl (kA 4, 16, .inl t1.1))) (by rw [pm_up_sw (a := 139) (b := 138) (by omega), pm_up_up (a := 138)]) ?_
  refine pm_stk (st' := [.ref (z + 138)]) rfl ?_
  refine pm_bipush (v := 58) B dX12_writeMember_31 (by decide) ?_
  refine pm_cV (As := [.int 58]) (mc2 := 0) (ms2 := 0) B rfl ((pm_up_n (by omega)).trans pm_up_s) rfl (pm_lnC (t := t1) (q := 58) e2 ((pm_up_n (by omega)).trans pm_up_s) pm_up_s (by omega) b2) mt_J4_append_cf468 sv_X12_320 dX12_writeMember_33 rfl rfl rfl rfl rfl ?_
  refine pm_mem (M' := pm_up (pm_up (pm_up (pm_up M 138 (.inr (12, [.ref (z + 139), .int 0, .int ml1, .int (nI t1.2)]))) 139 (.inl (kA 4, 16, .inl t1.1))) 139 (.inl (kA 4, 16, .inl t2.1))) 138 (.inr (12, [.ref (z + 139), .int 0, .int ml1, .int (nI t2.2)]))) rfl ?_
  refine pm_mem (M' := pm_up (pm_up (pm_up M 138 (.inr (12, [.ref (z + 139), .int 0, .int ml1, .int (nI t1.2)]))) 139 (.inl (kA 4, 16, .inl t2.1))) 138 (.inr (12, [.ref (z + 139), .int 0, .int ml1, .int (nI t2.2)]))) (by rw [pm_up_up (a := 139)]) ?_
  refine pm_mem (M' := pm_up (pm_up M 138 (.inr (12, [.ref (z + 139), .int 0, .int ml1, .int (nI t2.2)]))) 139 (.inl (kA 4, 16, .inl t2.1))) (by rw [pm_up_sw (a := 139) (b := 138) (by omega), pm_up_up (a := 138)]) ?_
  refine pm_stk (st' := [.ref (z + 138)]) rfl ?_
  refine pm_aload_n B dX12_writeMember_36 rfl ?_
  refine pm_get B dX12_writeMember_37 fl_X12_164 ((pm_up_n (by omega)).trans ((pm_up_n (by omega)).trans (hS.2.2.1 i (by omega)))) rfl ?_
  refine pm_stk (st' := [.int (nI s), .ref (z + 138)]) (by rw [show (r (7 + 6 * i + 3)) = (nI s) from hv3]) ?_
  refine pm_cV (As := [.int (nI s)]) (mc2 := 0) (ms2 := 0) B rfl ((pm_up_n (by omega)).trans pm_up_s) rfl (pm_lnI (t := t2) (q := s) e3 ((pm_up_n (by omega)).trans pm_up_s) pm_up_s (by omega) b3) mt_J4_append_bf812 sv_X12_317 dX12_writeMember_40 rfl rfl rfl rfl rfl ?_
  refine pm_mem (M' := pm_up (pm_up (pm_up (pm_up M 138 (.inr (12, [.ref (z + 139), .int 0, .int ml1, .int (nI t2.2)]))) 139 (.inl (kA 4, 16, .inl t2.1))) 139 (.inl (kA 4, 16, .inl t3.1))) 138 (.inr (12, [.ref (z + 139), .int 0, .int ml1, .int (nI t3.2)]))) rfl ?_
  refine pm_mem (M' := pm_up (pm_up (pm_up M 138 (.inr (12, [.ref (z + 139), .int 0, .int ml1, .int (nI t2.2)]))) 139 (.inl (kA 4, 16, .inl t3.1))) 138 (.inr (12, [.ref (z + 139), .int 0, .int ml1, .int (nI t3.2)]))) (by rw [pm_up_up (a := 139)]) ?_
  refine pm_mem (M' := pm_up (pm_up M 138 (.inr (12, [.ref (z + 139), .int 0, .int ml1, .int (nI t3.2)]))) 139 (.inl (kA 4, 16, .inl t3.1))) (by rw [pm_up_sw (a := 139) (b := 138) (by omega), pm_up_up (a := 138)]) ?_
  refine pm_stk (st' := [.ref (z + 138)]) rfl ?_
  refine pm_pop B dX12_writeMember_43 rfl ?_
  refine pm_aload_n B dX12_writeMember_44 rfl ?_
  refine pm_get B dX12_writeMember_45 fl_X12_61 ((pm_up_n (by omega)).trans ((pm_up_n (by omega)).trans hto)) rfl ?_
  refine pm_bipush (v := 47) B dX12_writeMember_48 (by decide) ?_
  refine pm_cV (As := [.int 47]) (mc2 := 0) (ms2 := 0) B rfl ((pm_up_n (by omega)).trans pm_up_s) rfl (pm_lnC (t := t3) (q := 47) e4 ((pm_up_n (by omega)).trans pm_up_s) pm_up_s (by omega) b4) mt_J4_append_cf468 sv_X12_320 dX12_writeMember_50 rfl rfl rfl rfl rfl ?_
  refine pm_mem (M' := pm_up (pm_up (pm_up (pm_up M 138 (.inr (12, [.ref (z + 139), .int 0, .int ml1, .int (nI t3.2)]))) 139 (.inl (kA 4, 16, .inl t3.1))) 139 (.inl (kA 4, 16, .inl t4.1))) 138 (.inr (12, [.ref (z + 139), .int 0, .int ml1, .int (nI t4.2)]))) rfl ?_
  refine pm_mem (M' := pm_up (pm_up (pm_up M 138 (.inr (12, [.ref (z + 139), .int 0, .int ml1, .int (nI t3.2)]))) 139 (.inl (kA 4, 16, .inl t4.1))) 138 (.inr (12, [.ref (z + 139), .int 0, .int ml1, .int (nI t4.2)]))) (by rw [pm_up_up (a := 139)]) ?_
  refine pm_mem (M' := pm_up (pm_up M 138 (.inr (12, [.ref (z + 139), .int 0, .int ml1, .int (nI t4.2)]))) 139 (.inl (kA 4, 16, .inl t4.1))) (by rw [pm_up_sw (a := 139) (b := 138) (by omega), pm_up_up (a := 138)]) ?_
  refine pm_stk (st' := [.ref (z + 138)]) rfl ?_
  refine pm_aload_n B dX12_writeMember_53 rfl ?_
  refine pm_get B dX12_writeMember_54 fl_X12_161 ((pm_up_n (by omega)).trans ((pm_up_n (by omega)).trans (hS.2.2.1 i (by omega)))) rfl ?_
  refine pm_stk (st' := [.int (nI qt), .ref (z + 138)]) (by rw [show (r (7 + 6 * i + 2)) = (nI qt) from hv2]) ?_
  refine pm_cV (As := [.int (nI qt)]) (mc2 := 0) (ms2 := 0) B rfl ((pm_up_n (by omega)).trans pm_up_s) rfl (pm_lnI (t := t4) (q := qt) e5 ((pm_up_n (by omega)).trans pm_up_s) pm_up_s (by omega) b5) mt_J4_append_bf812 sv_X12_317 dX12_writeMember_57 rfl rfl rfl rfl rfl ?_
  refine pm_mem (M' := pm_up (pm_up (pm_up (pm_up M 138 (.inr (12, [.ref (z + 139), .int 0, .int ml1, .int (nI t4.2)]))) 139 (.inl (kA 4, 16, .inl t4.1))) 139 (.inl (kA 4, 16, .inl t5.1))) 138 (.inr (12, [.ref (z + 139), .int 0, .int ml1, .int (nI t5.2)]))) rfl ?_
  refine pm_mem (M' := pm_up (pm_up (pm_up M 138 (.inr (12, [.ref (z + 139), .int 0, .int ml1, .int (nI t4.2)]))) 139 (.inl (kA 4, 16, .inl t5.1))) 138 (.inr (12, [.ref (z + 139), .int 0, .int ml1, .int (nI t5.2)]))) (by rw [pm_up_up (a := 139)]) ?_
  refine pm_mem (M' := pm_up (pm_up M 138 (.inr (12, [.ref (z + 139), .int 0, .int ml1, .int (nI t5.2)]))) 139 (.inl (kA 4, 16, .inl t5.1))) (by rw [pm_up_sw (a := 139) (b := 138) (by omega), pm_up_up (a := 138)]) ?_
  refine pm_stk (st' := [.ref (z + 138)]) rfl ?_
  refine pm_pop B dX12_writeMember_60 rfl ?_
  refine pm_aload_n B dX12_writeMember_61 rfl ?_
  refine pm_get B dX12_writeMember_62 fl_X12_61 ((pm_up_n (by omega)).trans ((pm_up_n (by omega)).trans hto)) rfl ?_
  refine pm_bipush (v := 47) B dX12_writeMember_65 (by decide) ?_
  refine pm_cV (As := [.int 47]) (mc2 := 0) (ms2 := 0) B rfl ((pm_up_n (by omega)).trans pm_up_s) rfl (pm_lnC (t := t5) (q := 47) e6 ((pm_up_n (by omega)).trans pm_up_s) pm_up_s (by omega) b6) mt_J4_append_cf468 sv_X12_320 dX12_writeMember_67 rfl rfl rfl rfl rfl ?_
  refine pm_mem (M' := pm_up (pm_up (pm_up (pm_up M 138 (.inr (12, [.ref (z + 139), .int 0, .int ml1, .int (nI t5.2)]))) 139 (.inl (kA 4, 16, .inl t5.1))) 139 (.inl (kA 4, 16, .inl t6.1))) 138 (.inr (12, [.ref (z + 139), .int 0, .int ml1, .int (nI t6.2)]))) rfl ?_
  refine pm_mem (M' := pm_up (pm_up (pm_up M 138 (.inr (12, [.ref (z + 139), .int 0, .int ml1, .int (nI t5.2)]))) 139 (.inl (kA 4, 16, .inl t6.1))) 138 (.inr (12, [.ref (z + 139), .int 0, .int ml1, .int (nI t6.2)]))) (by rw [pm_up_up (a := 139)]) ?_
  refine pm_mem (M' := pm_up (pm_up M 138 (.inr (12, [.ref (z + 139), .int 0, .int ml1, .int (nI t6.2)]))) 139 (.inl (kA 4, 16, .inl t6.1))) (by rw [pm_up_sw (a := 139) (b := 138) (by omega), pm_up_up (a := 138)]) ?_
  refine pm_stk (st' := [.ref (z + 138)]) rfl ?_
  refine pm_aload_n B dX12_writeMember_70 rfl ?_
  refine pm_get B dX12_writeMember_71 fl_X12_90 ((pm_up_n (by omega)).trans ((pm_up_n (by omega)).trans (hS.2.2.1 i (by omega)))) rfl ?_
  refine pm_stk (st' := [.int (nI cp), .ref (z + 138)]) (by rw [show (r (7 + 6 * i + 0)) = (nI cp) from hv0]) ?_
  refine pm_cV (As := [.int (nI cp)]) (mc2 := 0) (ms2 := 0) B rfl ((pm_up_n (by omega)).trans pm_up_s) rfl (pm_lnI (t := t6) (q := cp) e7 ((pm_up_n (by omega)).trans pm_up_s) pm_up_s (by omega) b7) mt_J4_append_bf812 sv_X12_317 dX12_writeMember_74 rfl rfl rfl rfl rfl ?_
  refine pm_mem (M' := pm_up (pm_up (pm_up (pm_up M 138 (.inr (12, [.ref (z + 139), .int 0, .int ml1, .int (nI t6.2)]))) 139 (.inl (kA 4, 16, .inl t6.1))) 139 (.inl (kA 4, 16, .inl t7.1))) 138 (.inr (12, [.ref (z + 139), .int 0, .int ml1, .int (nI t7.2)]))) rfl ?_
  refine pm_mem (M' := pm_up (pm_up (pm_up M 138 (.inr (12, [.ref (z + 139), .int 0, .int ml1, .int (nI t6.2)]))) 139 (.inl (kA 4, 16, .inl t7.1))) 138 (.inr (12, [.ref (z + 139), .int 0, .int ml1, .int (nI t7.2)]))) (by rw [pm_up_up (a := 139)]) ?_
  refine pm_mem (M' := pm_up (pm_up M 138 (.inr (12, [.ref (z + 139), .int 0, .int ml1, .int (nI t7.2)]))) 139 (.inl (kA 4, 16, .inl t7.1))) (by rw [pm_up_sw (a := 139) (b := 138) (by omega), pm_up_up (a := 138)]) ?_
  refine pm_stk (st' := [.ref (z + 138)]) rfl ?_
  refine pm_pop B dX12_writeMember_77 rfl ?_
  refine pm_aload_n B dX12_writeMember_78 rfl ?_
  refine pm_get B dX12_writeMember_79 fl_X12_61 ((pm_up_n (by omega)).trans ((pm_up_n (by omega)).trans hto)) rfl ?_
  refine pm_bipush (v := 118) B dX12_writeMember_82 (by decide) ?_
  refine pm_cV (As := [.int 118]) (mc2 := 0) (ms2 := 0) B rfl ((pm_up_n (by omega)).trans pm_up_s) rfl (pm_lnC (t := t7) (q := 118) e8 ((pm_up_n (by omega)).trans pm_up_s) pm_up_s (by omega) b8) mt_J4_append_cf468 sv_X12_320 dX12_writeMember_84 rfl rfl rfl rfl rfl ?_
  refine pm_mem (M' := pm_up (pm_up (pm_up (pm_up M 138 (.inr (12, [.ref (z + 139), .int 0, .int ml1, .int (nI t7.2)]))) 139 (.inl (kA 4, 16, .inl t7.1))) 139 (.inl (kA 4, 16, .inl t8.1))) 138 (.inr (12, [.ref (z + 139), .int 0, .int ml1, .int (nI t8.2)]))) rfl ?_
  refine pm_mem (M' := pm_up (pm_up (pm_up M 138 (.inr (12, [.ref (z + 139), .int 0, .int ml1, .int (nI t7.2)]))) 139 (.inl (kA 4, 16, .inl t8.1))) 138 (.inr (12, [.ref (z + 139), .int 0, .int ml1, .int (nI t8.2)]))) (by rw [pm_up_up (a := 139)]) ?_
  refine pm_mem (M' := pm_up (pm_up M 138 (.inr (12, [.ref (z + 139), .int 0, .int ml1, .int (nI t8.2)]))) 139 (.inl (kA 4, 16, .inl t8.1))) (by rw [pm_up_sw (a := 139) (b := 138) (by omega), pm_up_up (a := 138)]) ?_
  refine pm_stk (st' := [.ref (z + 138)]) rfl ?_
  refine pm_aload_n B dX12_writeMember_87 rfl ?_
  refine pm_get B dX12_writeMember_88 fl_X12_95 ((pm_up_n (by omega)).trans ((pm_up_n (by omega)).trans (hS.2.2.1 i (by omega)))) rfl ?_
  refine pm_stk (st' := [.int (nI vt), .ref (z + 138)]) (by rw [show (r (7 + 6 * i + 1)) = (nI vt) from hv1]) ?_
  refine pm_cV (As := [.int (nI vt)]) (mc2 := 0) (ms2 := 0) B rfl ((pm_up_n (by omega)).trans pm_up_s) rfl (pm_lnI (t := t8) (q := vt) e9 ((pm_up_n (by omega)).trans pm_up_s) pm_up_s (by omega) b9) mt_J4_append_bf812 sv_X12_317 dX12_writeMember_91 rfl rfl rfl rfl rfl ?_
  refine pm_mem (M' := pm_up (pm_up (pm_up (pm_up M 138 (.inr (12, [.ref (z + 139), .int 0, .int ml1, .int (nI t8.2)]))) 139 (.inl (kA 4, 16, .inl t8.1))) 139 (.inl (kA 4, 16, .inl t9.1))) 138 (.inr (12, [.ref (z + 139), .int 0, .int ml1, .int (nI t9.2)]))) rfl ?_
  refine pm_mem (M' := pm_up (pm_up (pm_up M 138 (.inr (12, [.ref (z + 139), .int 0, .int ml1, .int (nI t8.2)]))) 139 (.inl (kA 4, 16, .inl t9.1))) 138 (.inr (12, [.ref (z + 139), .int 0, .int ml1, .int (nI t9.2)]))) (by rw [pm_up_up (a := 139)]) ?_
  refine pm_mem (M' := pm_up (pm_up M 138 (.inr (12, [.ref (z + 139), .int 0, .int ml1, .int (nI t9.2)]))) 139 (.inl (kA 4, 16, .inl t9.1))) (by rw [pm_up_sw (a := 139) (b := 138) (by omega), pm_up_up (a := 138)]) ?_
  refine pm_stk (st' := [.ref (z + 138)]) rfl ?_
  refine pm_pop B dX12_writeMember_94 rfl ?_
  refine pm_iconst (v := 0) B dX12_writeMember_95 (by decide) ?_
  refine pm_istore_n B dX12_writeMember_96 rfl rfl ?_
  refine pm_loc (L' := [some (.ref (z + 0)), some (.int (nI i)), some (.ref (z + (4 + i))), some (.int 0)]) rfl ?_
  refine pm_iload_n B dX12_writeMember_97 rfl ?_
  refine pm_aload_n B dX12_writeMember_98 rfl ?_
  refine pm_get B dX12_writeMember_99 fl_X12_105 ((pm_up_n (by omega)).trans ((pm_up_n (by omega)).trans (hS.2.2.1 i (by omega)))) rfl ?_
  refine pm_stk (st' := [.int 1, .int 0]) (by rw [show (r (7 + 6 * i + 4)) = 1 from hv4]) ?_
  refine pm_icmp_ge (tgt := 121) B dX12_writeMember_102 (by decide) (fun hq1 => absurd hq1 (by decide)) (fun hq1 => ?_)
  refine pm_aload_n B dX12_writeMember_105 rfl ?_
  refine pm_get B dX12_writeMember_106 fl_X12_61 ((pm_up_n (by omega)).trans ((pm_up_n (by omega)).trans hto)) rfl ?_
  refine pm_bipush (v := 33) B dX12_writeMember_109 (by decide) ?_
  refine pm_cV (As := [.int 33]) (mc2 := 0) (ms2 := 0) B rfl ((pm_up_n (by omega)).trans pm_up_s) rfl (pm_lnC (t := t9) (q := 33) e10 ((pm_up_n (by omega)).trans pm_up_s) pm_up_s (by omega) b10) mt_J4_append_cf468 sv_X12_320 dX12_writeMember_111 rfl rfl rfl rfl rfl ?_
  refine pm_mem (M' := pm_up (pm_up (pm_up (pm_up M 138 (.inr (12, [.ref (z + 139), .int 0, .int ml1, .int (nI t9.2)]))) 139 (.inl (kA 4, 16, .inl t9.1))) 139 (.inl (kA 4, 16, .inl t10.1))) 138 (.inr (12, [.ref (z + 139), .int 0, .int ml1, .int (nI t10.2)]))) rfl ?_
  refine pm_mem (M' := pm_up (pm_up (pm_up M 138 (.inr (12, [.ref (z + 139), .int 0, .int ml1, .int (nI t9.2)]))) 139 (.inl (kA 4, 16, .inl t10.1))) 138 (.inr (12, [.ref (z + 139), .int 0, .int ml1, .int (nI t10.2)]))) (by rw [pm_up_up (a := 139)]) ?_
  refine pm_mem (M' := pm_up (pm_up M 138 (.inr (12, [.ref (z + 139), .int 0, .int ml1, .int (nI t10.2)]))) 139 (.inl (kA 4, 16, .inl t10.1))) (by rw [pm_up_sw (a := 139) (b := 138) (by omega), pm_up_up (a := 138)]) ?_
  refine pm_stk (st' := [.ref (z + 138)]) rfl ?_
  refine pm_pop B dX12_writeMember_114 rfl ?_
  refine pm_iinc B dX12_writeMember_115 rfl rfl rfl ?_
  refine pm_loc (L' := [some (.ref (z + 0)), some (.int (nI i)), some (.ref (z + (4 + i))), some (.int 1)]) (by rw [show (0 : Int32) + Int32.ofInt 1 = 1 from by decide]; rfl) ?_
  refine pm_goto (tgt := 97) B dX12_writeMember_118 (by decide) ?_
  refine pm_iload_n B dX12_writeMember_97 rfl ?_
  refine pm_aload_n B dX12_writeMember_98 rfl ?_
  refine pm_get B dX12_writeMember_99 fl_X12_105 ((pm_up_n (by omega)).trans ((pm_up_n (by omega)).trans (hS.2.2.1 i (by omega)))) rfl ?_
  refine pm_stk (st' := [.int 1, .int 1]) (by rw [show (r (7 + 6 * i + 4)) = 1 from hv4]) ?_
  refine pm_icmp_ge (tgt := 121) B dX12_writeMember_102 (by decide) (fun hq2 => ?_) (fun hq2 => absurd (by decide) hq2)
  refine pm_iconst (v := 0) B dX12_writeMember_121 (by decide) ?_
  refine pm_istore_n B dX12_writeMember_122 rfl rfl ?_
  refine pm_loc (L' := [some (.ref (z + 0)), some (.int (nI i)), some (.ref (z + (4 + i))), some (.int 0)]) rfl ?_
  refine pm_iload_n B dX12_writeMember_123 rfl ?_
  refine pm_aload_n B dX12_writeMember_124 rfl ?_
  refine pm_get B dX12_writeMember_125 fl_X12_115 ((pm_up_n (by omega)).trans ((pm_up_n (by omega)).trans (hS.2.2.1 i (by omega)))) rfl ?_
  refine pm_stk (st' := [.int 0, .int 0]) (by rw [show (r (7 + 6 * i + 5)) = 0 from hv5]) ?_
  refine pm_icmp_ge (tgt := 147) B dX12_writeMember_128 (by decide) (fun hq3 => ?_) (fun hq3 => absurd (by decide) hq3)
  refine pm_aload_n B dX12_writeMember_147 rfl ?_
  refine pm_get B dX12_writeMember_148 fl_X12_61 ((pm_up_n (by omega)).trans ((pm_up_n (by omega)).trans hto)) rfl ?_
  refine pm_cV (As := []) (mc2 := 0) (ms2 := 0) B rfl ((pm_up_n (by omega)).trans pm_up_s) rfl (c_J4_length_8abf5 ((pm_up_n (by omega)).trans pm_up_s)) mt_J4_length_8abf5 sv_X12_323 dX12_writeMember_151 rfl rfl rfl rfl rfl ?_
  refine pm_stk (st' := [.int (nI t10.2)]) rfl ?_
  exact pm_ireturn B dX12_writeMember_154 rfl (by first | rfl | (apply pm_nz; first | assumption | decide | exact pm_in01 _ _ _ | simp)) ⟨rfl, rfl, rfl⟩ rfl rfl
set_option maxRecDepth 100000 in
set_option maxHeartbeats 4000000 in
theorem c_X12_writeMember_20 {l : Launch} {z : Nat} {D : va_G} {kA : Nat → ClassId} {kE : Nat → Nat} {nx : Nat} {M : pm_M} {i n c cp vt qt s : Nat} {ml ml1 : Int32} {f r to : Nat → Int32} {ldv : Value} {t1 t2 t3 t4 t5 t6 t7 t8 t9 t10 t11 : (Nat → Int32) × Nat} (hS : pm_SA z kA 2 M r) (hto : M 0 = some (pm_to z to ldv)) (hn : r 0 = nI n) (h7 : n ≤ 7) (hL : M 138 = some (.inr (12, [.ref (z + 139), .int 0, .int ml, .int (nI c)]))) (hB : M 139 = some (.inl (kA 4, 16, .inl f))) (hc0 : c ≤ 16) (hml : (c = 0 ∧ ml1 = ml) ∨ (0 < c ∧ ml1 = 1)) (hm : ¬ d_X10_hasMember (nI i) n r = 0) (hi : i < n) (hcp : cp < 100) (hvt : vt < 100) (hqt : qt < 1000) (hs : s < 100) (hv0 : r (7 + 6 * i + 0) = nI cp) (hv1 : r (7 + 6 * i + 1) = nI vt) (hv2 : r (7 + 6 * i + 2) = nI qt) (hv3 : r (7 + 6 * i + 3) = nI s) (hv4 : r (7 + 6 * i + 4) = 2) (hv5 : r (7 + 6 * i + 5) = 0) (e1 : t1 = pm_aI (f, 0) i) (e2 : t2 = pm_aC t1 58) (e3 : t3 = pm_aI t2 s) (e4 : t4 = pm_aC t3 47) (e5 : t5 = pm_aI t4 qt) (e6 : t6 = pm_aC t5 47) (e7 : t7 = pm_aI t6 cp) (e8 : t8 = pm_aC t7 118) (e9 : t9 = pm_aI t8 vt) (e10 : t10 = pm_aC t9 33) (e11 : t11 = pm_aC t10 33) : pm_C l z D kA kE yX12_writeMember cX12_writeMember 4 (some .int) 20 1 6 [.ref (z + 0), .int (nI i)] nx M (pm_rt (some (.int (nI t11.2))) nx (pm_up (pm_up M 138 (.inr (12, [.ref (z + 139), .int 0, .int ml1, .int (nI t11.2)]))) 139 (.inl (kA 4, 16, .inl t11.1)))) := by
  refine pm_mk (own := RX12) (nm := "writeMember") mt_X12_writeMember rfl rfl rfl rfl fun X B => ?_
  refine pm_loc (L' := [some (.ref (z + 0)), some (.int (nI i)), none, none]) rfl ?_
  have w1 := (pm_wd1 (q := i) (by omega))
  have b1 : ((f, 0) : (Nat → Int32) × Nat).2 + pm_wd i ≤ 16 := by show 0 + pm_wd i ≤ 16; omega
  have m1 : t1.2 ≤ 1 := by rw [e1]; show 0 + pm_wd i ≤ 1; omega
  have b2 : t1.2 < 16 := by omega
  have m2 : t2.2 ≤ 2 := by rw [e2]; show t1.2 + 1 ≤ 2; omega
  have w3 := (pm_wd2 hs)
  have b3 : t2.2 + pm_wd s ≤ 16 := by omega
  have m3 : t3.2 ≤ 4 := by rw [e3]; show t2.2 + pm_wd s ≤ 4; omega
  have b4 : t3.2 < 16 := by omega
  have m4 : t4.2 ≤ 5 := by rw [e4]; show t3.2 + 1 ≤ 5; omega
  have w5 := (pm_wd3 qt)
  have b5 : t4.2 + pm_wd qt ≤ 16 := by omega
  have m5 : t5.2 ≤ 8 := by rw [e5]; show t4.2 + pm_wd qt ≤ 8; omega
  have b6 : t5.2 < 16 := by omega
  have m6 : t6.2 ≤ 9 := by rw [e6]; show t5.2 + 1 ≤ 9; omega
  have w7 := (pm_wd2 hcp)
  have b7 : t6.2 + pm_wd cp ≤ 16 := by omega
  have m7 : t7.2 ≤ 11 := by rw [e7]; show t6.2 + pm_wd cp ≤ 11; omega
  have b8 : t7.2 < 16 := by omega
  have m8 : t8.2 ≤ 12 := by rw [e8]; show t7.2 + 1 ≤ 12; omega
  have w9 := (pm_wd2 hvt)
  have b9 : t8.2 + pm_wd vt ≤ 16 := by omega
  have m9 : t9.2 ≤ 14 := by rw [e9]; show t8.2 + pm_wd vt ≤ 14; omega
  have b10 : t9.2 < 16 := by omega
  have m10 : t10.2 ≤ 15 := by rw [e10]; show t9.2 + 1 ≤ 15; omega
  have b11 : t10.2 < 16 := by omega
  have m11 : t11.2 ≤ 16 := by rw [e11]; show t10.2 + 1 ≤ 16; omega
  refine pm_aload_n B dX12_writeMember_0 rfl ?_
  refine pm_iload_n B dX12_writeMember_1 rfl ?_
  refine pm_cV (As := [.int (nI i)]) (mc2 := 1) (ms2 := 6) B rfl hto rfl (pm_C_f0 (if_neg hm) (c_X12_demandMember (ldv := ldv) hS hto hn h7)) mt_X12_demandMember sv_X12_82 dX12_writeMember_2 rfl rfl rfl rfl rfl ?_
  refine pm_stk (st' := []) rfl ?_
  refine pm_aload_n B dX12_writeMember_5 rfl ?_
  refine pm_get B dX12_writeMember_6 fl_X12_20 hto rfl ?_
  refine pm_get B dX12_writeMember_9 fl_X12_86 hS.1 rfl ?_
  refine pm_iload_n B dX12_writeMember_12 rfl ?_
  refine pm_aald_n B dX12_writeMember_13 hS.2.1 rfl i (by first | assumption | omega) (by decide) (pm_mr_at (by omega)) ?_
  refine pm_astore_n B dX12_writeMember_14 rfl rfl ?_
  refine pm_loc (L' := [some (.ref (z + 0)), some (.int (nI i)), some (.ref (z + (4 + i))), none]) rfl ?_
  refine pm_aload_n B dX12_writeMember_15 rfl ?_
  refine pm_get B dX12_writeMember_16 fl_X12_61 hto rfl ?_
  refine pm_iconst (v := 0) B dX12_writeMember_19 (by decide) ?_
  refine pm_cV (As := [.int 0]) (mc2 := 0) (ms2 := 0) B rfl hL rfl (pm_ln0 hml hL hB hc0) mt_J4_setLength_d00df sv_X12_314 dX12_writeMember_20 rfl rfl rfl rfl rfl ?_
  refine pm_mem (M' := pm_up M 138 (.inr (12, [.ref (z + 139), .int 0, .int ml1, .int (nI 0)]))) rfl ?_
  refine pm_stk (st' := []) rfl ?_
  refine pm_aload_n B dX12_writeMember_23 rfl ?_
  refine pm_get B dX12_writeMember_24 fl_X12_61 ((pm_up_n (by omega)).trans hto) rfl ?_
  refine pm_iload_n B dX12_writeMember_27 rfl ?_
  refine pm_cV (As := [.int (nI i)]) (mc2 := 0) (ms2 := 0) B rfl pm_up_s rfl (pm_lnI (t := (f, 0)) (q := i) e1 pm_up_s ((pm_up_n (by omega)).trans hB) (by omega) b1) mt_J4_append_bf812 sv_X12_317 dX12_writeMember_28 rfl rfl rfl rfl rfl ?_
  refine pm_mem (M' := pm_up (pm_up (pm_up M 138 (.inr (12, [.ref (z + 139), .int 0, .int ml1, .int (nI 0)]))) 139 (.inl (kA 4, 16, .inl t1.1))) 138 (.inr (12, [.ref (z + 139), .int 0, .int ml1, .int (nI t1.2)]))) rfl ?_
  refine pm_mem (M' := pm_up (pm_up M 138 (.inr (12, [.ref (z + 139), .int 0, .int ml1, .int (nI t1.2)]))) 139 (.inl (kA 4, 16, .inl t1.1))) (by rw [pm_up_sw (a := 139) (b := 138) (by omega), pm_up_up (a := 138)]) ?_
  refine pm_stk (st' := [.ref (z + 138)]) rfl ?_
  refine pm_bipush (v := 58) B dX12_writeMember_31 (by decide) ?_
  refine pm_cV (As := [.int 58]) (mc2 := 0) (ms2 := 0) B rfl ((pm_up_n (by omega)).trans pm_up_s) rfl (pm_lnC (t := t1) (q := 58) e2 ((pm_up_n (by omega)).trans pm_up_s) pm_up_s (by omega) b2) mt_J4_append_cf468 sv_X12_320 dX12_writeMember_33 rfl rfl rfl rfl rfl ?_
  refine pm_mem (M' := pm_up (pm_up (pm_up (pm_up M 138 (.inr (12, [.ref (z + 139), .int 0, .int ml1, .int (nI t1.2)]))) 139 (.inl (kA 4, 16, .inl t1.1))) 139 (.inl (kA 4, 16, .inl t2.1))) 138 (.inr (12, [.ref (z + 139), .int 0, .int ml1, .int (nI t2.2)]))) rfl ?_
  refine pm_mem (M' := pm_up (pm_up (pm_up M 138 (.inr (12, [.ref (z + 139), .int 0, .int ml1, .int (nI t1.2)]))) 139 (.inl (kA 4, 16, .inl t2.1))) 138 (.inr (12, [.ref (z + 139), .int 0, .int ml1, .int (nI t2.2)]))) (by rw [pm_up_up (a := 139)]) ?_
  refine pm_mem (M' := pm_up (pm_up M 138 (.inr (12, [.ref (z + 139), .int 0, .int ml1, .int (nI t2.2)]))) 139 (.inl (kA 4, 16, .inl t2.1))) (by rw [pm_up_sw (a := 139) (b := 138) (by omega), pm_up_up (a := 138)]) ?_
  refine pm_stk (st' := [.ref (z + 138)]) rfl ?_
  refine pm_aload_n B dX12_writeMember_36 rfl ?_
  refine pm_get B dX12_writeMember_37 fl_X12_164 ((pm_up_n (by omega)).trans ((pm_up_n (by omega)).trans (hS.2.2.1 i (by omega)))) rfl ?_
  refine pm_stk (st' := [.int (nI s), .ref (z + 138)]) (by rw [show (r (7 + 6 * i + 3)) = (nI s) from hv3]) ?_
  refine pm_cV (As := [.int (nI s)]) (mc2 := 0) (ms2 := 0) B rfl ((pm_up_n (by omega)).trans pm_up_s) rfl (pm_lnI (t := t2) (q := s) e3 ((pm_up_n (by omega)).trans pm_up_s) pm_up_s (by omega) b3) mt_J4_append_bf812 sv_X12_317 dX12_writeMember_40 rfl rfl rfl rfl rfl ?_
  refine pm_mem (M' := pm_up (pm_up (pm_up (pm_up M 138 (.inr (12, [.ref (z + 139), .int 0, .int ml1, .int (nI t2.2)]))) 139 (.inl (kA 4, 16, .inl t2.1))) 139 (.inl (kA 4, 16, .inl t3.1))) 138 (.inr (12, [.ref (z + 139), .int 0, .int ml1, .int (nI t3.2)]))) rfl ?_
  refine pm_mem (M' := pm_up (pm_up (pm_up M 138 (.inr (12, [.ref (z + 139), .int 0, .int ml1, .int (nI t2.2)]))) 139 (.inl (kA 4, 16, .inl t3.1))) 138 (.inr (12, [.ref (z + 139), .int 0, .int ml1, .int (nI t3.2)]))) (by rw [pm_up_up (a := 139)]) ?_
  refine pm_mem (M' := pm_up (pm_up M 138 (.inr (12, [.ref (z + 139), .int 0, .int ml1, .int (nI t3.2)]))) 139 (.inl (kA 4, 16, .inl t3.1))) (by rw [pm_up_sw (a := 139) (b := 138) (by omega), pm_up_up (a := 138)]) ?_
  refine pm_stk (st' := [.ref (z + 138)]) rfl ?_
  refine pm_pop B dX12_writeMember_43 rfl ?_
  refine pm_aload_n B dX12_writeMember_44 rfl ?_
  refine pm_get B dX12_writeMember_45 fl_X12_61 ((pm_up_n (by omega)).trans ((pm_up_n (by omega)).trans hto)) rfl ?_
  refine pm_bipush (v := 47) B dX12_writeMember_48 (by decide) ?_
  refine pm_cV (As := [.int 47]) (mc2 := 0) (ms2 := 0) B rfl ((pm_up_n (by omega)).trans pm_up_s) rfl (pm_lnC (t := t3) (q := 47) e4 ((pm_up_n (by omega)).trans pm_up_s) pm_up_s (by omega) b4) mt_J4_append_cf468 sv_X12_320 dX12_writeMember_50 rfl rfl rfl rfl rfl ?_
  refine pm_mem (M' := pm_up (pm_up (pm_up (pm_up M 138 (.inr (12, [.ref (z + 139), .int 0, .int ml1, .int (nI t3.2)]))) 139 (.inl (kA 4, 16, .inl t3.1))) 139 (.inl (kA 4, 16, .inl t4.1))) 138 (.inr (12, [.ref (z + 139), .int 0, .int ml1, .int (nI t4.2)]))) rfl ?_
  refine pm_mem (M' := pm_up (pm_up (pm_up M 138 (.inr (12, [.ref (z + 139), .int 0, .int ml1, .int (nI t3.2)]))) 139 (.inl (kA 4, 16, .inl t4.1))) 138 (.inr (12, [.ref (z + 139), .int 0, .int ml1, .int (nI t4.2)]))) (by rw [pm_up_up (a := 139)]) ?_
  refine pm_mem (M' := pm_up (pm_up M 138 (.inr (12, [.ref (z + 139), .int 0, .int ml1, .int (nI t4.2)]))) 139 (.inl (kA 4, 16, .inl t4.1))) (by rw [pm_up_sw (a := 139) (b := 138) (by omega), pm_up_up (a := 138)]) ?_
  refine pm_stk (st' := [.ref (z + 138)]) rfl ?_
  refine pm_aload_n B dX12_writeMember_53 rfl ?_
  refine pm_get B dX12_writeMember_54 fl_X12_161 ((pm_up_n (by omega)).trans ((pm_up_n (by omega)).trans (hS.2.2.1 i (by omega)))) rfl ?_
  refine pm_stk (st' := [.int (nI qt), .ref (z + 138)]) (by rw [show (r (7 + 6 * i + 2)) = (nI qt) from hv2]) ?_
  refine pm_cV (As := [.int (nI qt)]) (mc2 := 0) (ms2 := 0) B rfl ((pm_up_n (by omega)).trans pm_up_s) rfl (pm_lnI (t := t4) (q := qt) e5 ((pm_up_n (by omega)).trans pm_up_s) pm_up_s (by omega) b5) mt_J4_append_bf812 sv_X12_317 dX12_writeMember_57 rfl rfl rfl rfl rfl ?_
  refine pm_mem (M' := pm_up (pm_up (pm_up (pm_up M 138 (.inr (12, [.ref (z + 139), .int 0, .int ml1, .int (nI t4.2)]))) 139 (.inl (kA 4, 16, .inl t4.1))) 139 (.inl (kA 4, 16, .inl t5.1))) 138 (.inr (12, [.ref (z + 139), .int 0, .int ml1, .int (nI t5.2)]))) rfl ?_
  refine pm_mem (M' := pm_up (pm_up (pm_up M 138 (.inr (12, [.ref (z + 139), .int 0, .int ml1, .int (nI t4.2)]))) 139 (.inl (kA 4, 16, .inl t5.1))) 138 (.inr (12, [.ref (z + 139), .int 0, .int ml1, .int (nI t5.2)]))) (by rw [pm_up_up (a := 139)]) ?_
  refine pm_mem (M' := pm_up (pm_up M 138 (.inr (12, [.ref (z + 139), .int 0, .int ml1, .int (nI t5.2)]))) 139 (.inl (kA 4, 16, .inl t5.1))) (by rw [pm_up_sw (a := 139) (b := 138) (by omega), pm_up_up (a := 138)]) ?_
  refine pm_stk (st' := [.ref (z + 138)]) rfl ?_
  refine pm_pop B dX12_writeMember_60 rfl ?_
  refine pm_aload_n B dX12_writeMember_61 rfl ?_
  refine pm_get B dX12_writeMember_62 fl_X12_61 ((pm_up_n (by omega)).trans ((pm_up_n (by omega)).trans hto)) rfl ?_
  refine pm_bipush (v := 47) B dX12_writeMember_65 (by decide) ?_
  refine pm_cV (As := [.int 47]) (mc2 := 0) (ms2 := 0) B rfl ((pm_up_n (by omega)).trans pm_up_s) rfl (pm_lnC (t := t5) (q := 47) e6 ((pm_up_n (by omega)).trans pm_up_s) pm_up_s (by omega) b6) mt_J4_append_cf468 sv_X12_320 dX12_writeMember_67 rfl rfl rfl rfl rfl ?_
  refine pm_mem (M' := pm_up (pm_up (pm_up (pm_up M 138 (.inr (12, [.ref (z + 139), .int 0, .int ml1, .int (nI t5.2)]))) 139 (.inl (kA 4, 16, .inl t5.1))) 139 (.inl (kA 4, 16, .inl t6.1))) 138 (.inr (12, [.ref (z + 139), .int 0, .int ml1, .int (nI t6.2)]))) rfl ?_
  refine pm_mem (M' := pm_up (pm_up (pm_up M 138 (.inr (12, [.ref (z + 139), .int 0, .int ml1, .int (nI t5.2)]))) 139 (.inl (kA 4, 16, .inl t6.1))) 138 (.inr (12, [.ref (z + 139), .int 0, .int ml1, .int (nI t6.2)]))) (by rw [pm_up_up (a := 139)]) ?_
  refine pm_mem (M' := pm_up (pm_up M 138 (.inr (12, [.ref (z + 139), .int 0, .int ml1, .int (nI t6.2)]))) 139 (.inl (kA 4, 16, .inl t6.1))) (by rw [pm_up_sw (a := 139) (b := 138) (by omega), pm_up_up (a := 138)]) ?_
  refine pm_stk (st' := [.ref (z + 138)]) rfl ?_
  refine pm_aload_n B dX12_writeMember_70 rfl ?_
  refine pm_get B dX12_writeMember_71 fl_X12_90 ((pm_up_n (by omega)).trans ((pm_up_n (by omega)).trans (hS.2.2.1 i (by omega)))) rfl ?_
  refine pm_stk (st' := [.int (nI cp), .ref (z + 138)]) (by rw [show (r (7 + 6 * i + 0)) = (nI cp) from hv0]) ?_
  refine pm_cV (As := [.int (nI cp)]) (mc2 := 0) (ms2 := 0) B rfl ((pm_up_n (by omega)).trans pm_up_s) rfl (pm_lnI (t := t6) (q := cp) e7 ((pm_up_n (by omega)).trans pm_up_s) pm_up_s (by omega) b7) mt_J4_append_bf812 sv_X12_317 dX12_writeMember_74 rfl rfl rfl rfl rfl ?_
  refine pm_mem (M' := pm_up (pm_up (pm_up (pm_up M 138 (.inr (12, [.ref (z + 139), .int 0, .int ml1, .int (nI t6.2)]))) 139 (.inl (kA 4, 16, .inl t6.1))) 139 (.inl (kA 4, 16, .inl t7.1))) 138 (.inr (12, [.ref (z + 139), .int 0, .int ml1, .int (nI t7.2)]))) rfl ?_
  refine pm_mem (M' := pm_up (pm_up (pm_up M 138 (.inr (12, [.ref (z + 139), .int 0, .int ml1, .int (nI t6.2)]))) 139 (.inl (kA 4, 16, .inl t7.1))) 138 (.inr (12, [.ref (z + 139), .int 0, .int ml1, .int (nI t7.2)]))) (by rw [pm_up_up (a := 139)]) ?_
  refine pm_mem (M' := pm_up (pm_up M 138 (.inr (12, [.ref (z + 139), .int 0, .int ml1, .int (nI t7.2)]))) 139 (.inl (kA 4, 16, .inl t7.1))) (by rw [pm_up_sw (a := 139) (b := 138) (by omega), pm_up_up (a := 138)]) ?_
  refine pm_stk (st' := [.ref (z + 138)]) rfl ?_
  refine pm_pop B dX12_writeMember_77 rfl ?_
  refine pm_aload_n B dX12_writeMember_78 rfl ?_
  refine pm_get B dX12_writeMember_79 fl_X12_61 ((pm_up_n (by omega)).trans ((pm_up_n (by omega)).trans hto)) rfl ?_
  refine pm_bipush (v := 118) B dX12_writeMember_82 (by decide) ?_
  refine pm_cV (As := [.int 118]) (mc2 := 0) (ms2 := 0) B rfl ((pm_up_n (by omega)).trans pm_up_s) rfl (pm_lnC (t := t7) (q := 118) e8 ((pm_up_n (by omega)).trans pm_up_s) pm_up_s (by omega) b8) mt_J4_append_cf468 sv_X12_320 dX12_writeMember_84 rfl rfl rfl rfl rfl ?_
  refine pm_mem (M' := pm_up (pm_up (pm_up (pm_up M 138 (.inr (12, [.ref (z + 139), .int 0, .int ml1, .int (nI t7.2)]))) 139 (.inl (kA 4, 16, .inl t7.1))) 139 (.inl (kA 4, 16, .inl t8.1))) 138 (.inr (12, [.ref (z + 139), .int 0, .int ml1, .int (nI t8.2)]))) rfl ?_
  refine pm_mem (M' := pm_up (pm_up (pm_up M 138 (.inr (12, [.ref (z + 139), .int 0, .int ml1, .int (nI t7.2)]))) 139 (.inl (kA 4, 16, .inl t8.1))) 138 (.inr (12, [.ref (z + 139), .int 0, .int ml1, .int (nI t8.2)]))) (by rw [pm_up_up (a := 139)]) ?_
  refine pm_mem (M' := pm_up (pm_up M 138 (.inr (12, [.ref (z + 139), .int 0, .int ml1, .int (nI t8.2)]))) 139 (.inl (kA 4, 16, .inl t8.1))) (by rw [pm_up_sw (a := 139) (b := 138) (by omega), pm_up_up (a := 138)]) ?_
  refine pm_stk (st' := [.ref (z + 138)]) rfl ?_
  refine pm_aload_n B dX12_writeMember_87 rfl ?_
  refine pm_get B dX12_writeMember_88 fl_X12_95 ((pm_up_n (by omega)).trans ((pm_up_n (by omega)).trans (hS.2.2.1 i (by omega)))) rfl ?_
  refine pm_stk (st' := [.int (nI vt), .ref (z + 138)]) (by rw [show (r (7 + 6 * i + 1)) = (nI vt) from hv1]) ?_
  refine pm_cV (As := [.int (nI vt)]) (mc2 := 0) (ms2 := 0) B rfl ((pm_up_n (by omega)).trans pm_up_s) rfl (pm_lnI (t := t8) (q := vt) e9 ((pm_up_n (by omega)).trans pm_up_s) pm_up_s (by omega) b9) mt_J4_append_bf812 sv_X12_317 dX12_writeMember_91 rfl rfl rfl rfl rfl ?_
  refine pm_mem (M' := pm_up (pm_up (pm_up (pm_up M 138 (.inr (12, [.ref (z + 139), .int 0, .int ml1, .int (nI t8.2)]))) 139 (.inl (kA 4, 16, .inl t8.1))) 139 (.inl (kA 4, 16, .inl t9.1))) 138 (.inr (12, [.ref (z + 139), .int 0, .int ml1, .int (nI t9.2)]))) rfl ?_
  refine pm_mem (M' := pm_up (pm_up (pm_up M 138 (.inr (12, [.ref (z + 139), .int 0, .int ml1, .int (nI t8.2)]))) 139 (.inl (kA 4, 16, .inl t9.1))) 138 (.inr (12, [.ref (z + 139), .int 0, .int ml1, .int (nI t9.2)]))) (by rw [pm_up_up (a := 139)]) ?_
  refine pm_mem (M' := pm_up (pm_up M 138 (.inr (12, [.ref (z + 139), .int 0, .int ml1, .int (nI t9.2)]))) 139 (.inl (kA 4, 16, .inl t9.1))) (by rw [pm_up_sw (a := 139) (b := 138) (by omega), pm_up_up (a := 138)]) ?_
  refine pm_stk (st' := [.ref (z + 138)]) rfl ?_
  refine pm_pop B dX12_writeMember_94 rfl ?_
  refine pm_iconst (v := 0) B dX12_writeMember_95 (by decide) ?_
  refine pm_istore_n B dX12_writeMember_96 rfl rfl ?_
  refine pm_loc (L' := [some (.ref (z + 0)), some (.int (nI i)), some (.ref (z + (4 + i))), some (.int 0)]) rfl ?_
  refine pm_iload_n B dX12_writeMember_97 rfl ?_
  refine pm_aload_n B dX12_writeMember_98 rfl ?_
  refine pm_get B dX12_writeMember_99 fl_X12_105 ((pm_up_n (by omega)).trans ((pm_up_n (by omega)).trans (hS.2.2.1 i (by omega)))) rfl ?_
  refine pm_stk (st' := [.int 2, .int 0]) (by rw [show (r (7 + 6 * i + 4)) = 2 from hv4]) ?_
  refine pm_icmp_ge (tgt := 121) B dX12_writeMember_102 (by decide) (fun hq1 => absurd hq1 (by decide)) (fun hq1 => ?_)
  refine pm_aload_n B dX12_writeMember_105 rfl ?_
  refine pm_get B dX12_writeMember_106 fl_X12_61 ((pm_up_n (by omega)).trans ((pm_up_n (by omega)).trans hto)) rfl ?_
  refine pm_bipush (v := 33) B dX12_writeMember_109 (by decide) ?_
  refine pm_cV (As := [.int 33]) (mc2 := 0) (ms2 := 0) B rfl ((pm_up_n (by omega)).trans pm_up_s) rfl (pm_lnC (t := t9) (q := 33) e10 ((pm_up_n (by omega)).trans pm_up_s) pm_up_s (by omega) b10) mt_J4_append_cf468 sv_X12_320 dX12_writeMember_111 rfl rfl rfl rfl rfl ?_
  refine pm_mem (M' := pm_up (pm_up (pm_up (pm_up M 138 (.inr (12, [.ref (z + 139), .int 0, .int ml1, .int (nI t9.2)]))) 139 (.inl (kA 4, 16, .inl t9.1))) 139 (.inl (kA 4, 16, .inl t10.1))) 138 (.inr (12, [.ref (z + 139), .int 0, .int ml1, .int (nI t10.2)]))) rfl ?_
  refine pm_mem (M' := pm_up (pm_up (pm_up M 138 (.inr (12, [.ref (z + 139), .int 0, .int ml1, .int (nI t9.2)]))) 139 (.inl (kA 4, 16, .inl t10.1))) 138 (.inr (12, [.ref (z + 139), .int 0, .int ml1, .int (nI t10.2)]))) (by rw [pm_up_up (a := 139)]) ?_
  refine pm_mem (M' := pm_up (pm_up M 138 (.inr (12, [.ref (z + 139), .int 0, .int ml1, .int (nI t10.2)]))) 139 (.inl (kA 4, 16, .inl t10.1))) (by rw [pm_up_sw (a := 139) (b := 138) (by omega), pm_up_up (a := 138)]) ?_
  refine pm_stk (st' := [.ref (z + 138)]) rfl ?_
  refine pm_pop B dX12_writeMember_114 rfl ?_
  refine pm_iinc B dX12_writeMember_115 rfl rfl rfl ?_
  refine pm_loc (L' := [some (.ref (z + 0)), some (.int (nI i)), some (.ref (z + (4 + i))), some (.int 1)]) (by rw [show (0 : Int32) + Int32.ofInt 1 = 1 from by decide]; rfl) ?_
  refine pm_goto (tgt := 97) B dX12_writeMember_118 (by decide) ?_
  refine pm_iload_n B dX12_writeMember_97 rfl ?_
  refine pm_aload_n B dX12_writeMember_98 rfl ?_
  refine pm_get B dX12_writeMember_99 fl_X12_105 ((pm_up_n (by omega)).trans ((pm_up_n (by omega)).trans (hS.2.2.1 i (by omega)))) rfl ?_
  refine pm_stk (st' := [.int 2, .int 1]) (by rw [show (r (7 + 6 * i + 4)) = 2 from hv4]) ?_
  refine pm_icmp_ge (tgt := 121) B dX12_writeMember_102 (by decide) (fun hq2 => absurd hq2 (by decide)) (fun hq2 => ?_)
  refine pm_aload_n B dX12_writeMember_105 rfl ?_
  refine pm_get B dX12_writeMember_106 fl_X12_61 ((pm_up_n (by omega)).trans ((pm_up_n (by omega)).trans hto)) rfl ?_
  refine pm_bipush (v := 33) B dX12_writeMember_109 (by decide) ?_
  refine pm_cV (As := [.int 33]) (mc2 := 0) (ms2 := 0) B rfl ((pm_up_n (by omega)).trans pm_up_s) rfl (pm_lnC (t := t10) (q := 33) e11 ((pm_up_n (by omega)).trans pm_up_s) pm_up_s (by omega) b11) mt_J4_append_cf468 sv_X12_320 dX12_writeMember_111 rfl rfl rfl rfl rfl ?_
  refine pm_mem (M' := pm_up (pm_up (pm_up (pm_up M 138 (.inr (12, [.ref (z + 139), .int 0, .int ml1, .int (nI t10.2)]))) 139 (.inl (kA 4, 16, .inl t10.1))) 139 (.inl (kA 4, 16, .inl t11.1))) 138 (.inr (12, [.ref (z + 139), .int 0, .int ml1, .int (nI t11.2)]))) rfl ?_
  refine pm_mem (M' := pm_up (pm_up (pm_up M 138 (.inr (12, [.ref (z + 139), .int 0, .int ml1, .int (nI t10.2)]))) 139 (.inl (kA 4, 16, .inl t11.1))) 138 (.inr (12, [.ref (z + 139), .int 0, .int ml1, .int (nI t11.2)]))) (by rw [pm_up_up (a := 139)]) ?_
  refine pm_mem (M' := pm_up (pm_up M 138 (.inr (12, [.ref (z + 139), .int 0, .int ml1, .int (nI t11.2)]))) 139 (.inl (kA 4, 16, .inl t11.1))) (by rw [pm_up_sw (a := 139) (b := 138) (by omega), pm_up_up (a := 138)]) ?_
  refine pm_stk (st' := [.ref (z + 138)]) rfl ?_
  refine pm_pop B dX12_writeMember_114 rfl ?_
  refine pm_iinc B dX12_writeMember_115 rfl rfl rfl ?_
  refine pm_loc (L' := [some (.ref (z + 0)), some (.int (nI i)), some (.ref (z + (4 + i))), some (.int 2)]) (by rw [show (1 : Int32) + Int32.ofInt 1 = 2 from by decide]; rfl) ?_
  refine pm_goto (tgt := 97) B dX12_writeMember_118 (by decide) ?_
  refine pm_iload_n B dX12_writeMember_97 rfl ?_
  refine pm_aload_n B dX12_writeMember_98 rfl ?_
  refine pm_get B dX12_writeMember_99 fl_X12_105 ((pm_up_n (by omega)).trans ((pm_up_n (by omega)).trans (hS.2.2.1 i (by omega)))) rfl ?_
  refine pm_stk (st' := [.int 2, .int 2]) (by rw [show (r (7 + 6 * i + 4)) = 2 from hv4]) ?_
  refine pm_icmp_ge (tgt := 121) B dX12_writeMember_102 (by decide) (fun hq3 => ?_) (fun hq3 => absurd (by decide) hq3)
  refine pm_iconst (v := 0) B dX12_writeMember_121 (by decide) ?_
  refine pm_istore_n B dX12_writeMember_122 rfl rfl ?_
  refine pm_loc (L' := [some (.ref (z + 0)), some (.int (nI i)), some (.ref (z + (4 + i))), some (.int 0)]) rfl ?_
  refine pm_iload_n B dX12_writeMember_123 rfl ?_
  refine pm_aload_n B dX12_writeMember_124 rfl ?_
  refine pm_get B dX12_writeMember_125 fl_X12_115 ((pm_up_n (by omega)).trans ((pm_up_n (by omega)).trans (hS.2.2.1 i (by omega)))) rfl ?_
  refine pm_stk (st' := [.int 0, .int 0]) (by rw [show (r (7 + 6 * i + 5)) = 0 from hv5]) ?_
  refine pm_icmp_ge (tgt := 147) B dX12_writeMember_128 (by decide) (fun hq4 => ?_) (fun hq4 => absurd (by decide) hq4)
  refine pm_aload_n B dX12_writeMember_147 rfl ?_
  refine pm_get B dX12_writeMember_148 fl_X12_61 ((pm_up_n (by omega)).trans ((pm_up_n (by omega)).trans hto)) rfl ?_
  refine pm_cV (As := []) (mc2 := 0) (ms2 := 0) B rfl ((pm_up_n (by omega)).trans pm_up_s) rfl (c_J4_length_8abf5 ((pm_up_n (by omega)).trans pm_up_s)) mt_J4_length_8abf5 sv_X12_323 dX12_writeMember_151 rfl rfl rfl rfl rfl ?_
  refine pm_stk (st' := [.int (nI t11.2)]) rfl ?_
  exact pm_ireturn B dX12_writeMember_154 rfl (by first | rfl | (apply pm_nz; first | assumption | decide | exact pm_in01 _ _ _ | simp)) ⟨rfl, rfl, rfl⟩ rfl rfl
set_option maxRecDepth 100000 in
set_option maxHeartbeats 4000000 in
theorem c_X12_writeMember_01 {l : Launch} {z : Nat} {D : va_G} {kA : Nat → ClassId} {kE : Nat → Nat} {nx : Nat} {M : pm_M} {i n c cp vt qt s : Nat} {ml ml1 : Int32} {f r to : Nat → Int32} {ldv : Value} {t1 t2 t3 t4 t5 t6 t7 t8 t9 t10 : (Nat → Int32) × Nat} (hS : pm_SA z kA 2 M r) (hto : M 0 = some (pm_to z to ldv)) (hn : r 0 = nI n) (h7 : n ≤ 7) (hL : M 138 = some (.inr (12, [.ref (z + 139), .int 0, .int ml, .int (nI c)]))) (hB : M 139 = some (.inl (kA 4, 16, .inl f))) (hc0 : c ≤ 16) (hml : (c = 0 ∧ ml1 = ml) ∨ (0 < c ∧ ml1 = 1)) (hm : ¬ d_X10_hasMember (nI i) n r = 0) (hi : i < n) (hcp : cp < 100) (hvt : vt < 100) (hqt : qt < 1000) (hs : s < 100) (hv0 : r (7 + 6 * i + 0) = nI cp) (hv1 : r (7 + 6 * i + 1) = nI vt) (hv2 : r (7 + 6 * i + 2) = nI qt) (hv3 : r (7 + 6 * i + 3) = nI s) (hv4 : r (7 + 6 * i + 4) = 0) (hv5 : r (7 + 6 * i + 5) = 1) (e1 : t1 = pm_aI (f, 0) i) (e2 : t2 = pm_aC t1 58) (e3 : t3 = pm_aI t2 s) (e4 : t4 = pm_aC t3 47) (e5 : t5 = pm_aI t4 qt) (e6 : t6 = pm_aC t5 47) (e7 : t7 = pm_aI t6 cp) (e8 : t8 = pm_aC t7 118) (e9 : t9 = pm_aI t8 vt) (e10 : t10 = pm_aC t9 120) : pm_C l z D kA kE yX12_writeMember cX12_writeMember 4 (some .int) 20 1 6 [.ref (z + 0), .int (nI i)] nx M (pm_rt (some (.int (nI t10.2))) nx (pm_up (pm_up M 138 (.inr (12, [.ref (z + 139), .int 0, .int ml1, .int (nI t10.2)]))) 139 (.inl (kA 4, 16, .inl t10.1)))) := by
  refine pm_mk (own := RX12) (nm := "writeMember") mt_X12_writeMember rfl rfl rfl rfl fun X B => ?_
  refine pm_loc (L' := [some (.ref (z + 0)), some (.int (nI i)), none, none]) rfl ?_
  have w1 := (pm_wd1 (q := i) (by omega))
  have b1 : ((f, 0) : (Nat → Int32) × Nat).2 + pm_wd i ≤ 16 := by show 0 + pm_wd i ≤ 16; omega
  have m1 : t1.2 ≤ 1 := by rw [e1]; show 0 + pm_wd i ≤ 1; omega
  have b2 : t1.2 < 16 := by omega
  have m2 : t2.2 ≤ 2 := by rw [e2]; show t1.2 + 1 ≤ 2; omega
  have w3 := (pm_wd2 hs)
  have b3 : t2.2 + pm_wd s ≤ 16 := by omega
  have m3 : t3.2 ≤ 4 := by rw [e3]; show t2.2 + pm_wd s ≤ 4; omega
  have b4 : t3.2 < 16 := by omega
  have m4 : t4.2 ≤ 5 := by rw [e4]; show t3.2 + 1 ≤ 5; omega
  have w5 := (pm_wd3 qt)
  have b5 : t4.2 + pm_wd qt ≤ 16 := by omega
  have m5 : t5.2 ≤ 8 := by rw [e5]; show t4.2 + pm_wd qt ≤ 8; omega
  have b6 : t5.2 < 16 := by omega
  have m6 : t6.2 ≤ 9 := by rw [e6]; show t5.2 + 1 ≤ 9; omega
  have w7 := (pm_wd2 hcp)
  have b7 : t6.2 + pm_wd cp ≤ 16 := by omega
  have m7 : t7.2 ≤ 11 := by rw [e7]; show t6.2 + pm_wd cp ≤ 11; omega
  have b8 : t7.2 < 16 := by omega
  have m8 : t8.2 ≤ 12 := by rw [e8]; show t7.2 + 1 ≤ 12; omega
  have w9 := (pm_wd2 hvt)
  have b9 : t8.2 + pm_wd vt ≤ 16 := by omega
  have m9 : t9.2 ≤ 14 := by rw [e9]; show t8.2 + pm_wd vt ≤ 14; omega
  have b10 : t9.2 < 16 := by omega
  have m10 : t10.2 ≤ 15 := by rw [e10]; show t9.2 + 1 ≤ 15; omega
  refine pm_aload_n B dX12_writeMember_0 rfl ?_
  refine pm_iload_n B dX12_writeMember_1 rfl ?_
  refine pm_cV (As := [.int (nI i)]) (mc2 := 1) (ms2 := 6) B rfl hto rfl (pm_C_f0 (if_neg hm) (c_X12_demandMember (ldv := ldv) hS hto hn h7)) mt_X12_demandMember sv_X12_82 dX12_writeMember_2 rfl rfl rfl rfl rfl ?_
  refine pm_stk (st' := []) rfl ?_
  refine pm_aload_n B dX12_writeMember_5 rfl ?_
  refine pm_get B dX12_writeMember_6 fl_X12_20 hto rfl ?_
  refine pm_get B dX12_writeMember_9 fl_X12_86 hS.1 rfl ?_
  refine pm_iload_n B dX12_writeMember_12 rfl ?_
  refine pm_aald_n B dX12_writeMember_13 hS.2.1 rfl i (by first | assumption | omega) (by decide) (pm_mr_at (by omega)) ?_
  refine pm_astore_n B dX12_writeMember_14 rfl rfl ?_
  refine pm_loc (L' := [some (.ref (z + 0)), some (.int (nI i)), some (.ref (z + (4 + i))), none]) rfl ?_
  refine pm_aload_n B dX12_writeMember_15 rfl ?_
  refine pm_get B dX12_writeMember_16 fl_X12_61 hto rfl ?_
  refine pm_iconst (v := 0) B dX12_writeMember_19 (by decide) ?_
  refine pm_cV (As := [.int 0]) (mc2 := 0) (ms2 := 0) B rfl hL rfl (pm_ln0 hml hL hB hc0) mt_J4_setLength_d00df sv_X12_314 dX12_writeMember_20 rfl rfl rfl rfl rfl ?_
  refine pm_mem (M' := pm_up M 138 (.inr (12, [.ref (z + 139), .int 0, .int ml1, .int (nI 0)]))) rfl ?_
  refine pm_stk (st' := []) rfl ?_
  refine pm_aload_n B dX12_writeMember_23 rfl ?_
  refine pm_get B dX12_writeMember_24 fl_X12_61 ((pm_up_n (by omega)).trans hto) rfl ?_
  refine pm_iload_n B dX12_writeMember_27 rfl ?_
  refine pm_cV (As := [.int (nI i)]) (mc2 := 0) (ms2 := 0) B rfl pm_up_s rfl (pm_lnI (t := (f, 0)) (q := i) e1 pm_up_s ((pm_up_n (by omega)).trans hB) (by omega) b1) mt_J4_append_bf812 sv_X12_317 dX12_writeMember_28 rfl rfl rfl rfl rfl ?_
  refine pm_mem (M' := pm_up (pm_up (pm_up M 138 (.inr (12, [.ref (z + 139), .int 0, .int ml1, .int (nI 0)]))) 139 (.inl (kA 4, 16, .inl t1.1))) 138 (.inr (12, [.ref (z + 139), .int 0, .int ml1, .int (nI t1.2)]))) rfl ?_
  refine pm_mem (M' := pm_up (pm_up M 138 (.inr (12, [.ref (z + 139), .int 0, .int ml1, .int (nI t1.2)]))) 139 (.inl (kA 4, 16, .inl t1.1))) (by rw [pm_up_sw (a := 139) (b := 138) (by omega), pm_up_up (a := 138)]) ?_
  refine pm_stk (st' := [.ref (z + 138)]) rfl ?_
  refine pm_bipush (v := 58) B dX12_writeMember_31 (by decide) ?_
  refine pm_cV (As := [.int 58]) (mc2 := 0) (ms2 := 0) B rfl ((pm_up_n (by omega)).trans pm_up_s) rfl (pm_lnC (t := t1) (q := 58) e2 ((pm_up_n (by omega)).trans pm_up_s) pm_up_s (by omega) b2) mt_J4_append_cf468 sv_X12_320 dX12_writeMember_33 rfl rfl rfl rfl rfl ?_
  refine pm_mem (M' := pm_up (pm_up (pm_up (pm_up M 138 (.inr (12, [.ref (z + 139), .int 0, .int ml1, .int (nI t1.2)]))) 139 (.inl (kA 4, 16, .inl t1.1))) 139 (.inl (kA 4, 16, .inl t2.1))) 138 (.inr (12, [.ref (z + 139), .int 0, .int ml1, .int (nI t2.2)]))) rfl ?_
  refine pm_mem (M' := pm_up (pm_up (pm_up M 138 (.inr (12, [.ref (z + 139), .int 0, .int ml1, .int (nI t1.2)]))) 139 (.inl (kA 4, 16, .inl t2.1))) 138 (.inr (12, [.ref (z + 139), .int 0, .int ml1, .int (nI t2.2)]))) (by rw [pm_up_up (a := 139)]) ?_
  refine pm_mem (M' := pm_up (pm_up M 138 (.inr (12, [.ref (z + 139), .int 0, .int ml1, .int (nI t2.2)]))) 139 (.inl (kA 4, 16, .inl t2.1))) (by rw [pm_up_sw (a := 139) (b := 138) (by omega), pm_up_up (a := 138)]) ?_
  refine pm_stk (st' := [.ref (z + 138)]) rfl ?_
  refine pm_aload_n B dX12_writeMember_36 rfl ?_
  refine pm_get B dX12_writeMember_37 fl_X12_164 ((pm_up_n (by omega)).trans ((pm_up_n (by omega)).trans (hS.2.2.1 i (by omega)))) rfl ?_
  refine pm_stk (st' := [.int (nI s), .ref (z + 138)]) (by rw [show (r (7 + 6 * i + 3)) = (nI s) from hv3]) ?_
  refine pm_cV (As := [.int (nI s)]) (mc2 := 0) (ms2 := 0) B rfl ((pm_up_n (by omega)).trans pm_up_s) rfl (pm_lnI (t := t2) (q := s) e3 ((pm_up_n (by omega)).trans pm_up_s) pm_up_s (by omega) b3) mt_J4_append_bf812 sv_X12_317 dX12_writeMember_40 rfl rfl rfl rfl rfl ?_
  refine pm_mem (M' := pm_up (pm_up (pm_up (pm_up M 138 (.inr (12, [.ref (z + 139), .int 0, .int ml1, .int (nI t2.2)]))) 139 (.inl (kA 4, 16, .inl t2.1))) 139 (.inl (kA 4, 16, .inl t3.1))) 138 (.inr (12, [.ref (z + 139), .int 0, .int ml1, .int (nI t3.2)]))) rfl ?_
  refine pm_mem (M' := pm_up (pm_up (pm_up M 138 (.inr (12, [.ref (z + 139), .int 0, .int ml1, .int (nI t2.2)]))) 139 (.inl (kA 4, 16, .inl t3.1))) 138 (.inr (12, [.ref (z + 139), .int 0, .int ml1, .int (nI t3.2)]))) (by rw [pm_up_up (a := 139)]) ?_
  refine pm_mem (M' := pm_up (pm_up M 138 (.inr (12, [.ref (z + 139), .int 0, .int ml1, .int (nI t3.2)]))) 139 (.inl (kA 4, 16, .inl t3.1))) (by rw [pm_up_sw (a := 139) (b := 138) (by omega), pm_up_up (a := 138)]) ?_
  refine pm_stk (st' := [.ref (z + 138)]) rfl ?_
  refine pm_pop B dX12_writeMember_43 rfl ?_
  refine pm_aload_n B dX12_writeMember_44 rfl ?_
  refine pm_get B dX12_writeMember_45 fl_X12_61 ((pm_up_n (by omega)).trans ((pm_up_n (by omega)).trans hto)) rfl ?_
  refine pm_bipush (v := 47) B dX12_writeMember_48 (by decide) ?_
  refine pm_cV (As := [.int 47]) (mc2 := 0) (ms2 := 0) B rfl ((pm_up_n (by omega)).trans pm_up_s) rfl (pm_lnC (t := t3) (q := 47) e4 ((pm_up_n (by omega)).trans pm_up_s) pm_up_s (by omega) b4) mt_J4_append_cf468 sv_X12_320 dX12_writeMember_50 rfl rfl rfl rfl rfl ?_
  refine pm_mem (M' := pm_up (pm_up (pm_up (pm_up M 138 (.inr (12, [.ref (z + 139), .int 0, .int ml1, .int (nI t3.2)]))) 139 (.inl (kA 4, 16, .inl t3.1))) 139 (.inl (kA 4, 16, .inl t4.1))) 138 (.inr (12, [.ref (z + 139), .int 0, .int ml1, .int (nI t4.2)]))) rfl ?_
  refine pm_mem (M' := pm_up (pm_up (pm_up M 138 (.inr (12, [.ref (z + 139), .int 0, .int ml1, .int (nI t3.2)]))) 139 (.inl (kA 4, 16, .inl t4.1))) 138 (.inr (12, [.ref (z + 139), .int 0, .int ml1, .int (nI t4.2)]))) (by rw [pm_up_up (a := 139)]) ?_
  refine pm_mem (M' := pm_up (pm_up M 138 (.inr (12, [.ref (z + 139), .int 0, .int ml1, .int (nI t4.2)]))) 139 (.inl (kA 4, 16, .inl t4.1))) (by rw [pm_up_sw (a := 139) (b := 138) (by omega), pm_up_up (a := 138)]) ?_
  refine pm_stk (st' := [.ref (z + 138)]) rfl ?_
  refine pm_aload_n B dX12_writeMember_53 rfl ?_
  refine pm_get B dX12_writeMember_54 fl_X12_161 ((pm_up_n (by omega)).trans ((pm_up_n (by omega)).trans (hS.2.2.1 i (by omega)))) rfl ?_
  refine pm_stk (st' := [.int (nI qt), .ref (z + 138)]) (by rw [show (r (7 + 6 * i + 2)) = (nI qt) from hv2]) ?_
  refine pm_cV (As := [.int (nI qt)]) (mc2 := 0) (ms2 := 0) B rfl ((pm_up_n (by omega)).trans pm_up_s) rfl (pm_lnI (t := t4) (q := qt) e5 ((pm_up_n (by omega)).trans pm_up_s) pm_up_s (by omega) b5) mt_J4_append_bf812 sv_X12_317 dX12_writeMember_57 rfl rfl rfl rfl rfl ?_
  refine pm_mem (M' := pm_up (pm_up (pm_up (pm_up M 138 (.inr (12, [.ref (z + 139), .int 0, .int ml1, .int (nI t4.2)]))) 139 (.inl (kA 4, 16, .inl t4.1))) 139 (.inl (kA 4, 16, .inl t5.1))) 138 (.inr (12, [.ref (z + 139), .int 0, .int ml1, .int (nI t5.2)]))) rfl ?_
  refine pm_mem (M' := pm_up (pm_up (pm_up M 138 (.inr (12, [.ref (z + 139), .int 0, .int ml1, .int (nI t4.2)]))) 139 (.inl (kA 4, 16, .inl t5.1))) 138 (.inr (12, [.ref (z + 139), .int 0, .int ml1, .int (nI t5.2)]))) (by rw [pm_up_up (a := 139)]) ?_
  refine pm_mem (M' := pm_up (pm_up M 138 (.inr (12, [.ref (z + 139), .int 0, .int ml1, .int (nI t5.2)]))) 139 (.inl (kA 4, 16, .inl t5.1))) (by rw [pm_up_sw (a := 139) (b := 138) (by omega), pm_up_up (a := 138)]) ?_
  refine pm_stk (st' := [.ref (z + 138)]) rfl ?_
  refine pm_pop B dX12_writeMember_60 rfl ?_
  refine pm_aload_n B dX12_writeMember_61 rfl ?_
  refine pm_get B dX12_writeMember_62 fl_X12_61 ((pm_up_n (by omega)).trans ((pm_up_n (by omega)).trans hto)) rfl ?_
  refine pm_bipush (v := 47) B dX12_writeMember_65 (by decide) ?_
  refine pm_cV (As := [.int 47]) (mc2 := 0) (ms2 := 0) B rfl ((pm_up_n (by omega)).trans pm_up_s) rfl (pm_lnC (t := t5) (q := 47) e6 ((pm_up_n (by omega)).trans pm_up_s) pm_up_s (by omega) b6) mt_J4_append_cf468 sv_X12_320 dX12_writeMember_67 rfl rfl rfl rfl rfl ?_
  refine pm_mem (M' := pm_up (pm_up (pm_up (pm_up M 138 (.inr (12, [.ref (z + 139), .int 0, .int ml1, .int (nI t5.2)]))) 139 (.inl (kA 4, 16, .inl t5.1))) 139 (.inl (kA 4, 16, .inl t6.1))) 138 (.inr (12, [.ref (z + 139), .int 0, .int ml1, .int (nI t6.2)]))) rfl ?_
  refine pm_mem (M' := pm_up (pm_up (pm_up M 138 (.inr (12, [.ref (z + 139), .int 0, .int ml1, .int (nI t5.2)]))) 139 (.inl (kA 4, 16, .inl t6.1))) 138 (.inr (12, [.ref (z + 139), .int 0, .int ml1, .int (nI t6.2)]))) (by rw [pm_up_up (a := 139)]) ?_
  refine pm_mem (M' := pm_up (pm_up M 138 (.inr (12, [.ref (z + 139), .int 0, .int ml1, .int (nI t6.2)]))) 139 (.inl (kA 4, 16, .inl t6.1))) (by rw [pm_up_sw (a := 139) (b := 138) (by omega), pm_up_up (a := 138)]) ?_
  refine pm_stk (st' := [.ref (z + 138)]) rfl ?_
  refine pm_aload_n B dX12_writeMember_70 rfl ?_
  refine pm_get B dX12_writeMember_71 fl_X12_90 ((pm_up_n (by omega)).trans ((pm_up_n (by omega)).trans (hS.2.2.1 i (by omega)))) rfl ?_
  refine pm_stk (st' := [.int (nI cp), .ref (z + 138)]) (by rw [show (r (7 + 6 * i + 0)) = (nI cp) from hv0]) ?_
  refine pm_cV (As := [.int (nI cp)]) (mc2 := 0) (ms2 := 0) B rfl ((pm_up_n (by omega)).trans pm_up_s) rfl (pm_lnI (t := t6) (q := cp) e7 ((pm_up_n (by omega)).trans pm_up_s) pm_up_s (by omega) b7) mt_J4_append_bf812 sv_X12_317 dX12_writeMember_74 rfl rfl rfl rfl rfl ?_
  refine pm_mem (M' := pm_up (pm_up (pm_up (pm_up M 138 (.inr (12, [.ref (z + 139), .int 0, .int ml1, .int (nI t6.2)]))) 139 (.inl (kA 4, 16, .inl t6.1))) 139 (.inl (kA 4, 16, .inl t7.1))) 138 (.inr (12, [.ref (z + 139), .int 0, .int ml1, .int (nI t7.2)]))) rfl ?_
  refine pm_mem (M' := pm_up (pm_up (pm_up M 138 (.inr (12, [.ref (z + 139), .int 0, .int ml1, .int (nI t6.2)]))) 139 (.inl (kA 4, 16, .inl t7.1))) 138 (.inr (12, [.ref (z + 139), .int 0, .int ml1, .int (nI t7.2)]))) (by rw [pm_up_up (a := 139)]) ?_
  refine pm_mem (M' := pm_up (pm_up M 138 (.inr (12, [.ref (z + 139), .int 0, .int ml1, .int (nI t7.2)]))) 139 (.inl (kA 4, 16, .inl t7.1))) (by rw [pm_up_sw (a := 139) (b := 138) (by omega), pm_up_up (a := 138)]) ?_
  refine pm_stk (st' := [.ref (z + 138)]) rfl ?_
  refine pm_pop B dX12_writeMember_77 rfl ?_
  refine pm_aload_n B dX12_writeMember_78 rfl ?_
  refine pm_get B dX12_writeMember_79 fl_X12_61 ((pm_up_n (by omega)).trans ((pm_up_n (by omega)).trans hto)) rfl ?_
  refine pm_bipush (v := 118) B dX12_writeMember_82 (by decide) ?_
  refine pm_cV (As := [.int 118]) (mc2 := 0) (ms2 := 0) B rfl ((pm_up_n (by omega)).trans pm_up_s) rfl (pm_lnC (t := t7) (q := 118) e8 ((pm_up_n (by omega)).trans pm_up_s) pm_up_s (by omega) b8) mt_J4_append_cf468 sv_X12_320 dX12_writeMember_84 rfl rfl rfl rfl rfl ?_
  refine pm_mem (M' := pm_up (pm_up (pm_up (pm_up M 138 (.inr (12, [.ref (z + 139), .int 0, .int ml1, .int (nI t7.2)]))) 139 (.inl (kA 4, 16, .inl t7.1))) 139 (.inl (kA 4, 16, .inl t8.1))) 138 (.inr (12, [.ref (z + 139), .int 0, .int ml1, .int (nI t8.2)]))) rfl ?_
  refine pm_mem (M' := pm_up (pm_up (pm_up M 138 (.inr (12, [.ref (z + 139), .int 0, .int ml1, .int (nI t7.2)]))) 139 (.inl (kA 4, 16, .inl t8.1))) 138 (.inr (12, [.ref (z + 139), .int 0, .int ml1, .int (nI t8.2)]))) (by rw [pm_up_up (a := 139)]) ?_
  refine pm_mem (M' := pm_up (pm_up M 138 (.inr (12, [.ref (z + 139), .int 0, .int ml1, .int (nI t8.2)]))) 139 (.inl (kA 4, 16, .inl t8.1))) (by rw [pm_up_sw (a := 139) (b := 138) (by omega), pm_up_up (a := 138)]) ?_
  refine pm_stk (st' := [.ref (z + 138)]) rfl ?_
  refine pm_aload_n B dX12_writeMember_87 rfl ?_
  refine pm_get B dX12_writeMember_88 fl_X12_95 ((pm_up_n (by omega)).trans ((pm_up_n (by omega)).trans (hS.2.2.1 i (by omega)))) rfl ?_
  refine pm_stk (st' := [.int (nI vt), .ref (z + 138)]) (by rw [show (r (7 + 6 * i + 1)) = (nI vt) from hv1]) ?_
  refine pm_cV (As := [.int (nI vt)]) (mc2 := 0) (ms2 := 0) B rfl ((pm_up_n (by omega)).trans pm_up_s) rfl (pm_lnI (t := t8) (q := vt) e9 ((pm_up_n (by omega)).trans pm_up_s) pm_up_s (by omega) b9) mt_J4_append_bf812 sv_X12_317 dX12_writeMember_91 rfl rfl rfl rfl rfl ?_
  refine pm_mem (M' := pm_up (pm_up (pm_up (pm_up M 138 (.inr (12, [.ref (z + 139), .int 0, .int ml1, .int (nI t8.2)]))) 139 (.inl (kA 4, 16, .inl t8.1))) 139 (.inl (kA 4, 16, .inl t9.1))) 138 (.inr (12, [.ref (z + 139), .int 0, .int ml1, .int (nI t9.2)]))) rfl ?_
  refine pm_mem (M' := pm_up (pm_up (pm_up M 138 (.inr (12, [.ref (z + 139), .int 0, .int ml1, .int (nI t8.2)]))) 139 (.inl (kA 4, 16, .inl t9.1))) 138 (.inr (12, [.ref (z + 139), .int 0, .int ml1, .int (nI t9.2)]))) (by rw [pm_up_up (a := 139)]) ?_
  refine pm_mem (M' := pm_up (pm_up M 138 (.inr (12, [.ref (z + 139), .int 0, .int ml1, .int (nI t9.2)]))) 139 (.inl (kA 4, 16, .inl t9.1))) (by rw [pm_up_sw (a := 139) (b := 138) (by omega), pm_up_up (a := 138)]) ?_
  refine pm_stk (st' := [.ref (z + 138)]) rfl ?_
  refine pm_pop B dX12_writeMember_94 rfl ?_
  refine pm_iconst (v := 0) B dX12_writeMember_95 (by decide) ?_
  refine pm_istore_n B dX12_writeMember_96 rfl rfl ?_
  refine pm_loc (L' := [some (.ref (z + 0)), some (.int (nI i)), some (.ref (z + (4 + i))), some (.int 0)]) rfl ?_
  refine pm_iload_n B dX12_writeMember_97 rfl ?_
  refine pm_aload_n B dX12_writeMember_98 rfl ?_
  refine pm_get B dX12_writeMember_99 fl_X12_105 ((pm_up_n (by omega)).trans ((pm_up_n (by omega)).trans (hS.2.2.1 i (by omega)))) rfl ?_
  refine pm_stk (st' := [.int 0, .int 0]) (by rw [show (r (7 + 6 * i + 4)) = 0 from hv4]) ?_
  refine pm_icmp_ge (tgt := 121) B dX12_writeMember_102 (by decide) (fun hq1 => ?_) (fun hq1 => absurd (by decide) hq1)
  refine pm_iconst (v := 0) B dX12_writeMember_121 (by decide) ?_
  refine pm_istore_n B dX12_writeMember_122 rfl rfl ?_
  refine pm_loc (L' := [some (.ref (z + 0)), some (.int (nI i)), some (.ref (z + (4 + i))), some (.int 0)]) rfl ?_
  refine pm_iload_n B dX12_writeMember_123 rfl ?_
  refine pm_aload_n B dX12_writeMember_124 rfl ?_
  refine pm_get B dX12_writeMember_125 fl_X12_115 ((pm_up_n (by omega)).trans ((pm_up_n (by omega)).trans (hS.2.2.1 i (by omega)))) rfl ?_
  refine pm_stk (st' := [.int 1, .int 0]) (by rw [show (r (7 + 6 * i + 5)) = 1 from hv5]) ?_
  refine pm_icmp_ge (tgt := 147) B dX12_writeMember_128 (by decide) (fun hq2 => absurd hq2 (by decide)) (fun hq2 => ?_)
  refine pm_aload_n B dX12_writeMember_131 rfl ?_
  refine pm_get B dX12_writeMember_132 fl_X12_61 ((pm_up_n (by omega)).trans ((pm_up_n (by omega)).trans hto)) rfl ?_
  refine pm_bipush (v := 120) B dX12_writeMember_135 (by decide) ?_
  refine pm_cV (As := [.int 120]) (mc2 := 0) (ms2 := 0) B rfl ((pm_up_n (by omega)).trans pm_up_s) rfl (pm_lnC (t := t9) (q := 120) e10 ((pm_up_n (by omega)).trans pm_up_s) pm_up_s (by omega) b10) mt_J4_append_cf468 sv_X12_320 dX12_writeMember_137 rfl rfl rfl rfl rfl ?_
  refine pm_mem (M' := pm_up (pm_up (pm_up (pm_up M 138 (.inr (12, [.ref (z + 139), .int 0, .int ml1, .int (nI t9.2)]))) 139 (.inl (kA 4, 16, .inl t9.1))) 139 (.inl (kA 4, 16, .inl t10.1))) 138 (.inr (12, [.ref (z + 139), .int 0, .int ml1, .int (nI t10.2)]))) rfl ?_
  refine pm_mem (M' := pm_up (pm_up (pm_up M 138 (.inr (12, [.ref (z + 139), .int 0, .int ml1, .int (nI t9.2)]))) 139 (.inl (kA 4, 16, .inl t10.1))) 138 (.inr (12, [.ref (z + 139), .int 0, .int ml1, .int (nI t10.2)]))) (by rw [pm_up_up (a := 139)]) ?_
  refine pm_mem (M' := pm_up (pm_up M 138 (.inr (12, [.ref (z + 139), .int 0, .int ml1, .int (nI t10.2)]))) 139 (.inl (kA 4, 16, .inl t10.1))) (by rw [pm_up_sw (a := 139) (b := 138) (by omega), pm_up_up (a := 138)]) ?_
  refine pm_stk (st' := [.ref (z + 138)]) rfl ?_
  refine pm_pop B dX12_writeMember_140 rfl ?_
  refine pm_iinc B dX12_writeMember_141 rfl rfl rfl ?_
  refine pm_loc (L' := [some (.ref (z + 0)), some (.int (nI i)), some (.ref (z + (4 + i))), some (.int 1)]) (by rw [show (0 : Int32) + Int32.ofInt 1 = 1 from by decide]; rfl) ?_
  refine pm_goto (tgt := 123) B dX12_writeMember_144 (by decide) ?_
  refine pm_iload_n B dX12_writeMember_123 rfl ?_
  refine pm_aload_n B dX12_writeMember_124 rfl ?_
  refine pm_get B dX12_writeMember_125 fl_X12_115 ((pm_up_n (by omega)).trans ((pm_up_n (by omega)).trans (hS.2.2.1 i (by omega)))) rfl ?_
  refine pm_stk (st' := [.int 1, .int 1]) (by rw [show (r (7 + 6 * i + 5)) = 1 from hv5]) ?_
  refine pm_icmp_ge (tgt := 147) B dX12_writeMember_128 (by decide) (fun hq3 => ?_) (fun hq3 => absurd (by decide) hq3)
  refine pm_aload_n B dX12_writeMember_147 rfl ?_
  refine pm_get B dX12_writeMember_148 fl_X12_61 ((pm_up_n (by omega)).trans ((pm_up_n (by omega)).trans hto)) rfl ?_
  refine pm_cV (As := []) (mc2 := 0) (ms2 := 0) B rfl ((pm_up_n (by omega)).trans pm_up_s) rfl (c_J4_length_8abf5 ((pm_up_n (by omega)).trans pm_up_s)) mt_J4_length_8abf5 sv_X12_323 dX12_writeMember_151 rfl rfl rfl rfl rfl ?_
  refine pm_stk (st' := [.int (nI t10.2)]) rfl ?_
  exact pm_ireturn B dX12_writeMember_154 rfl (by first | rfl | (apply pm_nz; first | assumption | decide | exact pm_in01 _ _ _ | simp)) ⟨rfl, rfl, rfl⟩ rfl rfl
set_option maxRecDepth 100000 in
set_option maxHeartbeats 4000000 in
theorem c_X12_writeMember_02 {l : Launch} {z : Nat} {D : va_G} {kA : Nat → ClassId} {kE : Nat → Nat} {nx : Nat} {M : pm_M} {i n c cp vt qt s : Nat} {ml ml1 : Int32} {f r to : Nat → Int32} {ldv : Value} {t1 t2 t3 t4 t5 t6 t7 t8 t9 t10 t11 : (Nat → Int32) × Nat} (hS : pm_SA z kA 2 M r) (hto : M 0 = some (pm_to z to ldv)) (hn : r 0 = nI n) (h7 : n ≤ 7) (hL : M 138 = some (.inr (12, [.ref (z + 139), .int 0, .int ml, .int (nI c)]))) (hB : M 139 = some (.inl (kA 4, 16, .inl f))) (hc0 : c ≤ 16) (hml : (c = 0 ∧ ml1 = ml) ∨ (0 < c ∧ ml1 = 1)) (hm : ¬ d_X10_hasMember (nI i) n r = 0) (hi : i < n) (hcp : cp < 100) (hvt : vt < 100) (hqt : qt < 1000) (hs : s < 100) (hv0 : r (7 + 6 * i + 0) = nI cp) (hv1 : r (7 + 6 * i + 1) = nI vt) (hv2 : r (7 + 6 * i + 2) = nI qt) (hv3 : r (7 + 6 * i + 3) = nI s) (hv4 : r (7 + 6 * i + 4) = 0) (hv5 : r (7 + 6 * i + 5) = 2) (e1 : t1 = pm_aI (f, 0) i) (e2 : t2 = pm_aC t1 58) (e3 : t3 = pm_aI t2 s) (e4 : t4 = pm_aC t3 47) (e5 : t5 = pm_aI t4 qt) (e6 : t6 = pm_aC t5 47) (e7 : t7 = pm_aI t6 cp) (e8 : t8 = pm_aC t7 118) (e9 : t9 = pm_aI t8 vt) (e10 : t10 = pm_aC t9 120) (e11 : t11 = pm_aC t10 120) : pm_C l z D kA kE yX12_writeMember cX12_writeMember 4 (some .int) 20 1 6 [.ref (z + 0), .int (nI i)] nx M (pm_rt (some (.int (nI t11.2))) nx (pm_up (pm_up M 138 (.inr (12, [.ref (z + 139), .int 0, .int ml1, .int (nI t11.2)]))) 139 (.inl (kA 4, 16, .inl t11.1)))) := by
  refine pm_mk (own := RX12) (nm := "writeMember") mt_X12_writeMember rfl rfl rfl rfl fun X B => ?_
  refine pm_loc (L' := [some (.ref (z + 0)), some (.int (nI i)), none, none]) rfl ?_
  have w1 := (pm_wd1 (q := i) (by omega))
  have b1 : ((f, 0) : (Nat → Int32) × Nat).2 + pm_wd i ≤ 16 := by show 0 + pm_wd i ≤ 16; omega
  have m1 : t1.2 ≤ 1 := by rw [e1]; show 0 + pm_wd i ≤ 1; omega
  have b2 : t1.2 < 16 := by omega
  have m2 : t2.2 ≤ 2 := by rw [e2]; show t1.2 + 1 ≤ 2; omega
  have w3 := (pm_wd2 hs)
  have b3 : t2.2 + pm_wd s ≤ 16 := by omega
  have m3 : t3.2 ≤ 4 := by rw [e3]; show t2.2 + pm_wd s ≤ 4; omega
  have b4 : t3.2 < 16 := by omega
  have m4 : t4.2 ≤ 5 := by rw [e4]; show t3.2 + 1 ≤ 5; omega
  have w5 := (pm_wd3 qt)
  have b5 : t4.2 + pm_wd qt ≤ 16 := by omega
  have m5 : t5.2 ≤ 8 := by rw [e5]; show t4.2 + pm_wd qt ≤ 8; omega
  have b6 : t5.2 < 16 := by omega
  have m6 : t6.2 ≤ 9 := by rw [e6]; show t5.2 + 1 ≤ 9; omega
  have w7 := (pm_wd2 hcp)
  have b7 : t6.2 + pm_wd cp ≤ 16 := by omega
  have m7 : t7.2 ≤ 11 := by rw [e7]; show t6.2 + pm_wd cp ≤ 11; omega
  have b8 : t7.2 < 16 := by omega
  have m8 : t8.2 ≤ 12 := by rw [e8]; show t7.2 + 1 ≤ 12; omega
  have w9 := (pm_wd2 hvt)
  have b9 : t8.2 + pm_wd vt ≤ 16 := by omega
  have m9 : t9.2 ≤ 14 := by rw [e9]; show t8.2 + pm_wd vt ≤ 14; omega
  have b10 : t9.2 < 16 := by omega
  have m10 : t10.2 ≤ 15 := by rw [e10]; show t9.2 + 1 ≤ 15; omega
  have b11 : t10.2 < 16 := by omega
  have m11 : t11.2 ≤ 16 := by rw [e11]; show t10.2 + 1 ≤ 16; omega
  refine pm_aload_n B dX12_writeMember_0 rfl ?_
  refine pm_iload_n B dX12_writeMember_1 rfl ?_
  refine pm_cV (As := [.int (nI i)]) (mc2 := 1) (ms2 := 6) B rfl hto rfl (pm_C_f0 (if_neg hm) (c_X12_demandMember (ldv := ldv) hS hto hn h7)) mt_X12_demandMember sv_X12_82 dX12_writeMember_2 rfl rfl rfl rfl rfl ?_
  refine pm_stk (st' := []) rfl ?_
  refine pm_aload_n B dX12_writeMember_5 rfl ?_
  refine pm_get B dX12_writeMember_6 fl_X12_20 hto rfl ?_
  refine pm_get B dX12_writeMember_9 fl_X12_86 hS.1 rfl ?_
  refine pm_iload_n B dX12_writeMember_12 rfl ?_
  refine pm_aald_n B dX12_writeMember_13 hS.2.1 rfl i (by first | assumption | omega) (by decide) (pm_mr_at (by omega)) ?_
  refine pm_astore_n B dX12_writeMember_14 rfl rfl ?_
  refine pm_loc (L' := [some (.ref (z + 0)), some (.int (nI i)), some (.ref (z + (4 + i))), none]) rfl ?_
  refine pm_aload_n B dX12_writeMember_15 rfl ?_
  refine pm_get B dX12_writeMember_16 fl_X12_61 hto rfl ?_
  refine pm_iconst (v := 0) B dX12_writeMember_19 (by decide) ?_
  refine pm_cV (As := [.int 0]) (mc2 := 0) (ms2 := 0) B rfl hL rfl (pm_ln0 hml hL hB hc0) mt_J4_setLength_d00df sv_X12_314 dX12_writeMember_20 rfl rfl rfl rfl rfl ?_
  refine pm_mem (M' := pm_up M 138 (.inr (12, [.ref (z + 139), .int 0, .int ml1, .int (nI 0)]))) rfl ?_
  refine pm_stk (st' := []) rfl ?_
  refine pm_aload_n B dX12_writeMember_23 rfl ?_
  refine pm_get B dX12_writeMember_24 fl_X12_61 ((pm_up_n (by omega)).trans hto) rfl ?_
  refine pm_iload_n B dX12_writeMember_27 rfl ?_
  refine pm_cV (As := [.int (nI i)]) (mc2 := 0) (ms2 := 0) B rfl pm_up_s rfl (pm_lnI (t := (f, 0)) (q := i) e1 pm_up_s ((pm_up_n (by omega)).trans hB) (by omega) b1) mt_J4_append_bf812 sv_X12_317 dX12_writeMember_28 rfl rfl rfl rfl rfl ?_
  refine pm_mem (M' := pm_up (pm_up (pm_up M 138 (.inr (12, [.ref (z + 139), .int 0, .int ml1, .int (nI 0)]))) 139 (.inl (kA 4, 16, .inl t1.1))) 138 (.inr (12, [.ref (z + 139), .int 0, .int ml1, .int (nI t1.2)]))) rfl ?_
  refine pm_mem (M' := pm_up (pm_up M 138 (.inr (12, [.ref (z + 139), .int 0, .int ml1, .int (nI t1.2)]))) 139 (.inl (kA 4, 16, .inl t1.1))) (by rw [pm_up_sw (a := 139) (b := 138) (by omega), pm_up_up (a := 138)]) ?_
  refine pm_stk (st' := [.ref (z + 138)]) rfl ?_
  refine pm_bipush (v := 58) B dX12_writeMember_31 (by decide) ?_
  refine pm_cV (As := [.int 58]) (mc2 := 0) (ms2 := 0) B rfl ((pm_up_n (by omega)).trans pm_up_s) rfl (pm_lnC (t := t1) (q := 58) e2 ((pm_up_n (by omega)).trans pm_up_s) pm_up_s (by omega) b2) mt_J4_append_cf468 sv_X12_320 dX12_writeMember_33 rfl rfl rfl rfl rfl ?_
  refine pm_mem (M' := pm_up (pm_up (pm_up (pm_up M 138 (.inr (12, [.ref (z + 139), .int 0, .int ml1, .int (nI t1.2)]))) 139 (.inl (kA 4, 16, .inl t1.1))) 139 (.inl (kA 4, 16, .inl t2.1))) 138 (.inr (12, [.ref (z + 139), .int 0, .int ml1, .int (nI t2.2)]))) rfl ?_
  refine pm_mem (M' := pm_up (pm_up (pm_up M 138 (.inr (12, [.ref (z + 139), .int 0, .int ml1, .int (nI t1.2)]))) 139 (.inl (kA 4, 16, .inl t2.1))) 138 (.inr (12, [.ref (z + 139), .int 0, .int ml1, .int (nI t2.2)]))) (by rw [pm_up_up (a := 139)]) ?_
  refine pm_mem (M' := pm_up (pm_up M 138 (.inr (12, [.ref (z + 139), .int 0, .int ml1, .int (nI t2.2)]))) 139 (.inl (kA 4, 16, .inl t2.1))) (by rw [pm_up_sw (a := 139) (b := 138) (by omega), pm_up_up (a := 138)]) ?_
  refine pm_stk (st' := [.ref (z + 138)]) rfl ?_
  refine pm_aload_n B dX12_writeMember_36 rfl ?_
  refine pm_get B dX12_writeMember_37 fl_X12_164 ((pm_up_n (by omega)).trans ((pm_up_n (by omega)).trans (hS.2.2.1 i (by omega)))) rfl ?_
  refine pm_stk (st' := [.int (nI s), .ref (z + 138)]) (by rw [show (r (7 + 6 * i + 3)) = (nI s) from hv3]) ?_
  refine pm_cV (As := [.int (nI s)]) (mc2 := 0) (ms2 := 0) B rfl ((pm_up_n (by omega)).trans pm_up_s) rfl (pm_lnI (t := t2) (q := s) e3 ((pm_up_n (by omega)).trans pm_up_s) pm_up_s (by omega) b3) mt_J4_append_bf812 sv_X12_317 dX12_writeMember_40 rfl rfl rfl rfl rfl ?_
  refine pm_mem (M' := pm_up (pm_up (pm_up (pm_up M 138 (.inr (12, [.ref (z + 139), .int 0, .int ml1, .int (nI t2.2)]))) 139 (.inl (kA 4, 16, .inl t2.1))) 139 (.inl (kA 4, 16, .inl t3.1))) 138 (.inr (12, [.ref (z + 139), .int 0, .int ml1, .int (nI t3.2)]))) rfl ?_
  refine pm_mem (M' := pm_up (pm_up (pm_up M 138 (.inr (12, [.ref (z + 139), .int 0, .int ml1, .int (nI t2.2)]))) 139 (.inl (kA 4, 16, .inl t3.1))) 138 (.inr (12, [.ref (z + 139), .int 0, .int ml1, .int (nI t3.2)]))) (by rw [pm_up_up (a := 139)]) ?_
  refine pm_mem (M' := pm_up (pm_up M 138 (.inr (12, [.ref (z + 139), .int 0, .int ml1, .int (nI t3.2)]))) 139 (.inl (kA 4, 16, .inl t3.1))) (by rw [pm_up_sw (a := 139) (b := 138) (by omega), pm_up_up (a := 138)]) ?_
  refine pm_stk (st' := [.ref (z + 138)]) rfl ?_
  refine pm_pop B dX12_writeMember_43 rfl ?_
  refine pm_aload_n B dX12_writeMember_44 rfl ?_
  refine pm_get B dX12_writeMember_45 fl_X12_61 ((pm_up_n (by omega)).trans ((pm_up_n (by omega)).trans hto)) rfl ?_
  refine pm_bipush (v := 47) B dX12_writeMember_48 (by decide) ?_
  refine pm_cV (As := [.int 47]) (mc2 := 0) (ms2 := 0) B rfl ((pm_up_n (by omega)).trans pm_up_s) rfl (pm_lnC (t := t3) (q := 47) e4 ((pm_up_n (by omega)).trans pm_up_s) pm_up_s (by omega) b4) mt_J4_append_cf468 sv_X12_320 dX12_writeMember_50 rfl rfl rfl rfl rfl ?_
  refine pm_mem (M' := pm_up (pm_up (pm_up (pm_up M 138 (.inr (12, [.ref (z + 139), .int 0, .int ml1, .int (nI t3.2)]))) 139 (.inl (kA 4, 16, .inl t3.1))) 139 (.inl (kA 4, 16, .inl t4.1))) 138 (.inr (12, [.ref (z + 139), .int 0, .int ml1, .int (nI t4.2)]))) rfl ?_
  refine pm_mem (M' := pm_up (pm_up (pm_up M 138 (.inr (12, [.ref (z + 139), .int 0, .int ml1, .int (nI t3.2)]))) 139 (.inl (kA 4, 16, .inl t4.1))) 138 (.inr (12, [.ref (z + 139), .int 0, .int ml1, .int (nI t4.2)]))) (by rw [pm_up_up (a := 139)]) ?_
  refine pm_mem (M' := pm_up (pm_up M 138 (.inr (12, [.ref (z + 139), .int 0, .int ml1, .int (nI t4.2)]))) 139 (.inl (kA 4, 16, .inl t4.1))) (by rw [pm_up_sw (a := 139) (b := 138) (by omega), pm_up_up (a := 138)]) ?_
  refine pm_stk (st' := [.ref (z + 138)]) rfl ?_
  refine pm_aload_n B dX12_writeMember_53 rfl ?_
  refine pm_get B dX12_writeMember_54 fl_X12_161 ((pm_up_n (by omega)).trans ((pm_up_n (by omega)).trans (hS.2.2.1 i (by omega)))) rfl ?_
  refine pm_stk (st' := [.int (nI qt), .ref (z + 138)]) (by rw [show (r (7 + 6 * i + 2)) = (nI qt) from hv2]) ?_
  refine pm_cV (As := [.int (nI qt)]) (mc2 := 0) (ms2 := 0) B rfl ((pm_up_n (by omega)).trans pm_up_s) rfl (pm_lnI (t := t4) (q := qt) e5 ((pm_up_n (by omega)).trans pm_up_s) pm_up_s (by omega) b5) mt_J4_append_bf812 sv_X12_317 dX12_writeMember_57 rfl rfl rfl rfl rfl ?_
  refine pm_mem (M' := pm_up (pm_up (pm_up (pm_up M 138 (.inr (12, [.ref (z + 139), .int 0, .int ml1, .int (nI t4.2)]))) 139 (.inl (kA 4, 16, .inl t4.1))) 139 (.inl (kA 4, 16, .inl t5.1))) 138 (.inr (12, [.ref (z + 139), .int 0, .int ml1, .int (nI t5.2)]))) rfl ?_
  refine pm_mem (M' := pm_up (pm_up (pm_up M 138 (.inr (12, [.ref (z + 139), .int 0, .int ml1, .int (nI t4.2)]))) 139 (.inl (kA 4, 16, .inl t5.1))) 138 (.inr (12, [.ref (z + 139), .int 0, .int ml1, .int (nI t5.2)]))) (by rw [pm_up_up (a := 139)]) ?_
  refine pm_mem (M' := pm_up (pm_up M 138 (.inr (12, [.ref (z + 139), .int 0, .int ml1, .int (nI t5.2)]))) 139 (.inl (kA 4, 16, .inl t5.1))) (by rw [pm_up_sw (a := 139) (b := 138) (by omega), pm_up_up (a := 138)]) ?_
  refine pm_stk (st' := [.ref (z + 138)]) rfl ?_
  refine pm_pop B dX12_writeMember_60 rfl ?_
  refine pm_aload_n B dX12_writeMember_61 rfl ?_
  refine pm_get B dX12_writeMember_62 fl_X12_61 ((pm_up_n (by omega)).trans ((pm_up_n (by omega)).trans hto)) rfl ?_
  refine pm_bipush (v := 47) B dX12_writeMember_65 (by decide) ?_
  refine pm_cV (As := [.int 47]) (mc2 := 0) (ms2 := 0) B rfl ((pm_up_n (by omega)).trans pm_up_s) rfl (pm_lnC (t := t5) (q := 47) e6 ((pm_up_n (by omega)).trans pm_up_s) pm_up_s (by omega) b6) mt_J4_append_cf468 sv_X12_320 dX12_writeMember_67 rfl rfl rfl rfl rfl ?_
  refine pm_mem (M' := pm_up (pm_up (pm_up (pm_up M 138 (.inr (12, [.ref (z + 139), .int 0, .int ml1, .int (nI t5.2)]))) 139 (.inl (kA 4, 16, .inl t5.1))) 139 (.inl (kA 4, 16, .inl t6.1))) 138 (.inr (12, [.ref (z + 139), .int 0, .int ml1, .int (nI t6.2)]))) rfl ?_
  refine pm_mem (M' := pm_up (pm_up (pm_up M 138 (.inr (12, [.ref (z + 139), .int 0, .int ml1, .int (nI t5.2)]))) 139 (.inl (kA 4, 16, .inl t6.1))) 138 (.inr (12, [.ref (z + 139), .int 0, .int ml1, .int (nI t6.2)]))) (by rw [pm_up_up (a := 139)]) ?_
  refine pm_mem (M' := pm_up (pm_up M 138 (.inr (12, [.ref (z + 139), .int 0, .int ml1, .int (nI t6.2)]))) 139 (.inl (kA 4, 16, .inl t6.1))) (by rw [pm_up_sw (a := 139) (b := 138) (by omega), pm_up_up (a := 138)]) ?_
  refine pm_stk (st' := [.ref (z + 138)]) rfl ?_
  refine pm_aload_n B dX12_writeMember_70 rfl ?_
  refine pm_get B dX12_writeMember_71 fl_X12_90 ((pm_up_n (by omega)).trans ((pm_up_n (by omega)).trans (hS.2.2.1 i (by omega)))) rfl ?_
  refine pm_stk (st' := [.int (nI cp), .ref (z + 138)]) (by rw [show (r (7 + 6 * i + 0)) = (nI cp) from hv0]) ?_
  refine pm_cV (As := [.int (nI cp)]) (mc2 := 0) (ms2 := 0) B rfl ((pm_up_n (by omega)).trans pm_up_s) rfl (pm_lnI (t := t6) (q := cp) e7 ((pm_up_n (by omega)).trans pm_up_s) pm_up_s (by omega) b7) mt_J4_append_bf812 sv_X12_317 dX12_writeMember_74 rfl rfl rfl rfl rfl ?_
  refine pm_mem (M' := pm_up (pm_up (pm_up (pm_up M 138 (.inr (12, [.ref (z + 139), .int 0, .int ml1, .int (nI t6.2)]))) 139 (.inl (kA 4, 16, .inl t6.1))) 139 (.inl (kA 4, 16, .inl t7.1))) 138 (.inr (12, [.ref (z + 139), .int 0, .int ml1, .int (nI t7.2)]))) rfl ?_
  refine pm_mem (M' := pm_up (pm_up (pm_up M 138 (.inr (12, [.ref (z + 139), .int 0, .int ml1, .int (nI t6.2)]))) 139 (.inl (kA 4, 16, .inl t7.1))) 138 (.inr (12, [.ref (z + 139), .int 0, .int ml1, .int (nI t7.2)]))) (by rw [pm_up_up (a := 139)]) ?_
  refine pm_mem (M' := pm_up (pm_up M 138 (.inr (12, [.ref (z + 139), .int 0, .int ml1, .int (nI t7.2)]))) 139 (.inl (kA 4, 16, .inl t7.1))) (by rw [pm_up_sw (a := 139) (b := 138) (by omega), pm_up_up (a := 138)]) ?_
  refine pm_stk (st' := [.ref (z + 138)]) rfl ?_
  refine pm_pop B dX12_writeMember_77 rfl ?_
  refine pm_aload_n B dX12_writeMember_78 rfl ?_
  refine pm_get B dX12_writeMember_79 fl_X12_61 ((pm_up_n (by omega)).trans ((pm_up_n (by omega)).trans hto)) rfl ?_
  refine pm_bipush (v := 118) B dX12_writeMember_82 (by decide) ?_
  refine pm_cV (As := [.int 118]) (mc2 := 0) (ms2 := 0) B rfl ((pm_up_n (by omega)).trans pm_up_s) rfl (pm_lnC (t := t7) (q := 118) e8 ((pm_up_n (by omega)).trans pm_up_s) pm_up_s (by omega) b8) mt_J4_append_cf468 sv_X12_320 dX12_writeMember_84 rfl rfl rfl rfl rfl ?_
  refine pm_mem (M' := pm_up (pm_up (pm_up (pm_up M 138 (.inr (12, [.ref (z + 139), .int 0, .int ml1, .int (nI t7.2)]))) 139 (.inl (kA 4, 16, .inl t7.1))) 139 (.inl (kA 4, 16, .inl t8.1))) 138 (.inr (12, [.ref (z + 139), .int 0, .int ml1, .int (nI t8.2)]))) rfl ?_
  refine pm_mem (M' := pm_up (pm_up (pm_up M 138 (.inr (12, [.ref (z + 139), .int 0, .int ml1, .int (nI t7.2)]))) 139 (.inl (kA 4, 16, .inl t8.1))) 138 (.inr (12, [.ref (z + 139), .int 0, .int ml1, .int (nI t8.2)]))) (by rw [pm_up_up (a := 139)]) ?_
  refine pm_mem (M' := pm_up (pm_up M 138 (.inr (12, [.ref (z + 139), .int 0, .int ml1, .int (nI t8.2)]))) 139 (.inl (kA 4, 16, .inl t8.1))) (by rw [pm_up_sw (a := 139) (b := 138) (by omega), pm_up_up (a := 138)]) ?_
  refine pm_stk (st' := [.ref (z + 138)]) rfl ?_
  refine pm_aload_n B dX12_writeMember_87 rfl ?_
  refine pm_get B dX12_writeMember_88 fl_X12_95 ((pm_up_n (by omega)).trans ((pm_up_n (by omega)).trans (hS.2.2.1 i (by omega)))) rfl ?_
  refine pm_stk (st' := [.int (nI vt), .ref (z + 138)]) (by rw [show (r (7 + 6 * i + 1)) = (nI vt) from hv1]) ?_
  refine pm_cV (As := [.int (nI vt)]) (mc2 := 0) (ms2 := 0) B rfl ((pm_up_n (by omega)).trans pm_up_s) rfl (pm_lnI (t := t8) (q := vt) e9 ((pm_up_n (by omega)).trans pm_up_s) pm_up_s (by omega) b9) mt_J4_append_bf812 sv_X12_317 dX12_writeMember_91 rfl rfl rfl rfl rfl ?_
  refine pm_mem (M' := pm_up (pm_up (pm_up (pm_up M 138 (.inr (12, [.ref (z + 139), .int 0, .int ml1, .int (nI t8.2)]))) 139 (.inl (kA 4, 16, .inl t8.1))) 139 (.inl (kA 4, 16, .inl t9.1))) 138 (.inr (12, [.ref (z + 139), .int 0, .int ml1, .int (nI t9.2)]))) rfl ?_
  refine pm_mem (M' := pm_up (pm_up (pm_up M 138 (.inr (12, [.ref (z + 139), .int 0, .int ml1, .int (nI t8.2)]))) 139 (.inl (kA 4, 16, .inl t9.1))) 138 (.inr (12, [.ref (z + 139), .int 0, .int ml1, .int (nI t9.2)]))) (by rw [pm_up_up (a := 139)]) ?_
  refine pm_mem (M' := pm_up (pm_up M 138 (.inr (12, [.ref (z + 139), .int 0, .int ml1, .int (nI t9.2)]))) 139 (.inl (kA 4, 16, .inl t9.1))) (by rw [pm_up_sw (a := 139) (b := 138) (by omega), pm_up_up (a := 138)]) ?_
  refine pm_stk (st' := [.ref (z + 138)]) rfl ?_
  refine pm_pop B dX12_writeMember_94 rfl ?_
  refine pm_iconst (v := 0) B dX12_writeMember_95 (by decide) ?_
  refine pm_istore_n B dX12_writeMember_96 rfl rfl ?_
  refine pm_loc (L' := [some (.ref (z + 0)), some (.int (nI i)), some (.ref (z + (4 + i))), some (.int 0)]) rfl ?_
  refine pm_iload_n B dX12_writeMember_97 rfl ?_
  refine pm_aload_n B dX12_writeMember_98 rfl ?_
  refine pm_get B dX12_writeMember_99 fl_X12_105 ((pm_up_n (by omega)).trans ((pm_up_n (by omega)).trans (hS.2.2.1 i (by omega)))) rfl ?_
  refine pm_stk (st' := [.int 0, .int 0]) (by rw [show (r (7 + 6 * i + 4)) = 0 from hv4]) ?_
  refine pm_icmp_ge (tgt := 121) B dX12_writeMember_102 (by decide) (fun hq1 => ?_) (fun hq1 => absurd (by decide) hq1)
  refine pm_iconst (v := 0) B dX12_writeMember_121 (by decide) ?_
  refine pm_istore_n B dX12_writeMember_122 rfl rfl ?_
  refine pm_loc (L' := [some (.ref (z + 0)), some (.int (nI i)), some (.ref (z + (4 + i))), some (.int 0)]) rfl ?_
  refine pm_iload_n B dX12_writeMember_123 rfl ?_
  refine pm_aload_n B dX12_writeMember_124 rfl ?_
  refine pm_get B dX12_writeMember_125 fl_X12_115 ((pm_up_n (by omega)).trans ((pm_up_n (by omega)).trans (hS.2.2.1 i (by omega)))) rfl ?_
  refine pm_stk (st' := [.int 2, .int 0]) (by rw [show (r (7 + 6 * i + 5)) = 2 from hv5]) ?_
  refine pm_icmp_ge (tgt := 147) B dX12_writeMember_128 (by decide) (fun hq2 => absurd hq2 (by decide)) (fun hq2 => ?_)
  refine pm_aload_n B dX12_writeMember_131 rfl ?_
  refine pm_get B dX12_writeMember_132 fl_X12_61 ((pm_up_n (by omega)).trans ((pm_up_n (by omega)).trans hto)) rfl ?_
  refine pm_bipush (v := 120) B dX12_writeMember_135 (by decide) ?_
  refine pm_cV (As := [.int 120]) (mc2 := 0) (ms2 := 0) B rfl ((pm_up_n (by omega)).trans pm_up_s) rfl (pm_lnC (t := t9) (q := 120) e10 ((pm_up_n (by omega)).trans pm_up_s) pm_up_s (by omega) b10) mt_J4_append_cf468 sv_X12_320 dX12_writeMember_137 rfl rfl rfl rfl rfl ?_
  refine pm_mem (M' := pm_up (pm_up (pm_up (pm_up M 138 (.inr (12, [.ref (z + 139), .int 0, .int ml1, .int (nI t9.2)]))) 139 (.inl (kA 4, 16, .inl t9.1))) 139 (.inl (kA 4, 16, .inl t10.1))) 138 (.inr (12, [.ref (z + 139), .int 0, .int ml1, .int (nI t10.2)]))) rfl ?_
  refine pm_mem (M' := pm_up (pm_up (pm_up M 138 (.inr (12, [.ref (z + 139), .int 0, .int ml1, .int (nI t9.2)]))) 139 (.inl (kA 4, 16, .inl t10.1))) 138 (.inr (12, [.ref (z + 139), .int 0, .int ml1, .int (nI t10.2)]))) (by rw [pm_up_up (a := 139)]) ?_
  refine pm_mem (M' := pm_up (pm_up M 138 (.inr (12, [.ref (z + 139), .int 0, .int ml1, .int (nI t10.2)]))) 139 (.inl (kA 4, 16, .inl t10.1))) (by rw [pm_up_sw (a := 139) (b := 138) (by omega), pm_up_up (a := 138)]) ?_
  refine pm_stk (st' := [.ref (z + 138)]) rfl ?_
  refine pm_pop B dX12_writeMember_140 rfl ?_
  refine pm_iinc B dX12_writeMember_141 rfl rfl rfl ?_
  refine pm_loc (L' := [some (.ref (z + 0)), some (.int (nI i)), some (.ref (z + (4 + i))), some (.int 1)]) (by rw [show (0 : Int32) + Int32.ofInt 1 = 1 from by decide]; rfl) ?_
  refine pm_goto (tgt := 123) B dX12_writeMember_144 (by decide) ?_
  refine pm_iload_n B dX12_writeMember_123 rfl ?_
  refine pm_aload_n B dX12_writeMember_124 rfl ?_
  refine pm_get B dX12_writeMember_125 fl_X12_115 ((pm_up_n (by omega)).trans ((pm_up_n (by omega)).trans (hS.2.2.1 i (by omega)))) rfl ?_
  refine pm_stk (st' := [.int 2, .int 1]) (by rw [show (r (7 + 6 * i + 5)) = 2 from hv5]) ?_
  refine pm_icmp_ge (tgt := 147) B dX12_writeMember_128 (by decide) (fun hq3 => absurd hq3 (by decide)) (fun hq3 => ?_)
  refine pm_aload_n B dX12_writeMember_131 rfl ?_
  refine pm_get B dX12_writeMember_132 fl_X12_61 ((pm_up_n (by omega)).trans ((pm_up_n (by omega)).trans hto)) rfl ?_
  refine pm_bipush (v := 120) B dX12_writeMember_135 (by decide) ?_
  refine pm_cV (As := [.int 120]) (mc2 := 0) (ms2 := 0) B rfl ((pm_up_n (by omega)).trans pm_up_s) rfl (pm_lnC (t := t10) (q := 120) e11 ((pm_up_n (by omega)).trans pm_up_s) pm_up_s (by omega) b11) mt_J4_append_cf468 sv_X12_320 dX12_writeMember_137 rfl rfl rfl rfl rfl ?_
  refine pm_mem (M' := pm_up (pm_up (pm_up (pm_up M 138 (.inr (12, [.ref (z + 139), .int 0, .int ml1, .int (nI t10.2)]))) 139 (.inl (kA 4, 16, .inl t10.1))) 139 (.inl (kA 4, 16, .inl t11.1))) 138 (.inr (12, [.ref (z + 139), .int 0, .int ml1, .int (nI t11.2)]))) rfl ?_
  refine pm_mem (M' := pm_up (pm_up (pm_up M 138 (.inr (12, [.ref (z + 139), .int 0, .int ml1, .int (nI t10.2)]))) 139 (.inl (kA 4, 16, .inl t11.1))) 138 (.inr (12, [.ref (z + 139), .int 0, .int ml1, .int (nI t11.2)]))) (by rw [pm_up_up (a := 139)]) ?_
  refine pm_mem (M' := pm_up (pm_up M 138 (.inr (12, [.ref (z + 139), .int 0, .int ml1, .int (nI t11.2)]))) 139 (.inl (kA 4, 16, .inl t11.1))) (by rw [pm_up_sw (a := 139) (b := 138) (by omega), pm_up_up (a := 138)]) ?_
  refine pm_stk (st' := [.ref (z + 138)]) rfl ?_
  refine pm_pop B dX12_writeMember_140 rfl ?_
  refine pm_iinc B dX12_writeMember_141 rfl rfl rfl ?_
  refine pm_loc (L' := [some (.ref (z + 0)), some (.int (nI i)), some (.ref (z + (4 + i))), some (.int 2)]) (by rw [show (1 : Int32) + Int32.ofInt 1 = 2 from by decide]; rfl) ?_
  refine pm_goto (tgt := 123) B dX12_writeMember_144 (by decide) ?_
  refine pm_iload_n B dX12_writeMember_123 rfl ?_
  refine pm_aload_n B dX12_writeMember_124 rfl ?_
  refine pm_get B dX12_writeMember_125 fl_X12_115 ((pm_up_n (by omega)).trans ((pm_up_n (by omega)).trans (hS.2.2.1 i (by omega)))) rfl ?_
  refine pm_stk (st' := [.int 2, .int 2]) (by rw [show (r (7 + 6 * i + 5)) = 2 from hv5]) ?_
  refine pm_icmp_ge (tgt := 147) B dX12_writeMember_128 (by decide) (fun hq4 => ?_) (fun hq4 => absurd (by decide) hq4)
  refine pm_aload_n B dX12_writeMember_147 rfl ?_
  refine pm_get B dX12_writeMember_148 fl_X12_61 ((pm_up_n (by omega)).trans ((pm_up_n (by omega)).trans hto)) rfl ?_
  refine pm_cV (As := []) (mc2 := 0) (ms2 := 0) B rfl ((pm_up_n (by omega)).trans pm_up_s) rfl (c_J4_length_8abf5 ((pm_up_n (by omega)).trans pm_up_s)) mt_J4_length_8abf5 sv_X12_323 dX12_writeMember_151 rfl rfl rfl rfl rfl ?_
  refine pm_stk (st' := [.int (nI t11.2)]) rfl ?_
  exact pm_ireturn B dX12_writeMember_154 rfl (by first | rfl | (apply pm_nz; first | assumption | decide | exact pm_in01 _ _ _ | simp)) ⟨rfl, rfl, rfl⟩ rfl rfl
theorem c_X12_writeMember_i {l : Launch} {z : Nat} {D : va_G} {kA : Nat → ClassId} {kE : Nat → Nat} {nx : Nat} {M : pm_M} {i n c cp vt qt s w b : Nat} {ml ml1 : Int32} {f r to : Nat → Int32} {ldv : Value} (hS : pm_SA z kA 2 M r) (hto : M 0 = some (pm_to z to ldv)) (hn : r 0 = nI n) (h7 : n ≤ 7) (hL : M 138 = some (.inr (12, [.ref (z + 139), .int 0, .int ml, .int (nI c)]))) (hB : M 139 = some (.inl (kA 4, 16, .inl f))) (hc0 : c ≤ 16) (hml : (c = 0 ∧ ml1 = ml) ∨ (0 < c ∧ ml1 = 1)) (hm : ¬ d_X10_hasMember (nI i) n r = 0) (hi : i < n) (hcp : cp < 100) (hvt : vt < 100) (hqt : qt < 1000) (hs : s < 100) (hv0 : r (7 + 6 * i + 0) = nI cp) (hv1 : r (7 + 6 * i + 1) = nI vt) (hv2 : r (7 + 6 * i + 2) = nI qt) (hv3 : r (7 + 6 * i + 3) = nI s) (hwb : (r (7 + 6 * i + 4) = 0 ∧ r (7 + 6 * i + 5) = 0 ∧ w = 0 ∧ b = 0) ∨ (r (7 + 6 * i + 4) = 1 ∧ r (7 + 6 * i + 5) = 0 ∧ w = 1 ∧ b = 0) ∨ (r (7 + 6 * i + 4) = 2 ∧ r (7 + 6 * i + 5) = 0 ∧ w = 2 ∧ b = 0) ∨ (r (7 + 6 * i + 4) = 0 ∧ r (7 + 6 * i + 5) = 1 ∧ w = 0 ∧ b = 1) ∨ (r (7 + 6 * i + 4) = 0 ∧ r (7 + 6 * i + 5) = 2 ∧ w = 0 ∧ b = 2)) :
    pm_C l z D kA kE yX12_writeMember cX12_writeMember 4 (some .int) 20 1 6 [.ref (z + 0), .int (nI i)] nx M (pm_rt (some (.int (nI (pm_mln f i s qt cp vt w b).2))) nx (pm_up (pm_up M 138 (.inr (12, [.ref (z + 139), .int 0, .int ml1, .int (nI ((pm_mln f i s qt cp vt w b).2))]))) 139 (.inl (kA 4, 16, .inl (pm_mln f i s qt cp vt w b).1)))) := by
  rcases hwb with ⟨h4, h5, rfl, rfl⟩ | ⟨h4, h5, rfl, rfl⟩ | ⟨h4, h5, rfl, rfl⟩ | ⟨h4, h5, rfl, rfl⟩ | ⟨h4, h5, rfl, rfl⟩
  · exact c_X12_writeMember_00 hS hto hn h7 hL hB hc0 hml hm hi hcp hvt hqt hs hv0 hv1 hv2 hv3 h4 h5 rfl rfl rfl rfl rfl rfl rfl rfl rfl
  · exact c_X12_writeMember_10 hS hto hn h7 hL hB hc0 hml hm hi hcp hvt hqt hs hv0 hv1 hv2 hv3 h4 h5 rfl rfl rfl rfl rfl rfl rfl rfl rfl rfl
  · exact c_X12_writeMember_20 hS hto hn h7 hL hB hc0 hml hm hi hcp hvt hqt hs hv0 hv1 hv2 hv3 h4 h5 rfl rfl rfl rfl rfl rfl rfl rfl rfl rfl rfl
  · exact c_X12_writeMember_01 hS hto hn h7 hL hB hc0 hml hm hi hcp hvt hqt hs hv0 hv1 hv2 hv3 h4 h5 rfl rfl rfl rfl rfl rfl rfl rfl rfl rfl
  · exact c_X12_writeMember_02 hS hto hn h7 hL hB hc0 hml hm hi hcp hvt hqt hs hv0 hv1 hv2 hv3 h4 h5 rfl rfl rfl rfl rfl rfl rfl rfl rfl rfl rfl
theorem c_X12_writeMember_no {l : Launch} {z : Nat} {D : va_G} {kA : Nat → ClassId} {kE : Nat → Nat} {nx : Nat} {M : pm_M} {n : Nat} {x : Int32} {r to : Nat → Int32} {ldv : Value} (hS : pm_SA z kA 2 M r) (hto : M 0 = some (pm_to z to ldv)) (hn : r 0 = nI n) (h7 : n ≤ 7) (hm : d_X10_hasMember x n r = 0) : pm_C l z D kA kE yX12_writeMember cX12_writeMember 4 (some .int) 20 1 6 [.ref (z + 0), .int x] nx M (pm_fp 1 none nx M) := by
  refine pm_mk (own := RX12) (nm := "writeMember") mt_X12_writeMember rfl rfl rfl rfl fun X B => ?_
  refine pm_loc (L' := [some (.ref (z + 0)), some (.int x), none, none]) rfl ?_
  refine pm_aload_n B dX12_writeMember_0 rfl ?_
  refine pm_iload_n B dX12_writeMember_1 rfl ?_
  exact pm_cVt (As := [.int x]) (mc2 := 1) (ms2 := 6) B rfl rfl hto rfl (pm_C_fk (k' := 1) (if_pos hm) (c_X12_demandMember (ldv := ldv) hS hto hn h7)) (by decide) mt_X12_demandMember sv_X12_82 dX12_writeMember_2 rfl rfl rfl rfl rfl (fun n' hn => ⟨rfl, hn, Or.inr ⟨(show (0 : Nat) < 1 by decide), rfl⟩⟩)
