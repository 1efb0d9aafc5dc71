/-! a String of the memory -/
theorem c_J1_charAt_3b067_h {l : Launch} {z : Nat} {D : va_G} {kA : Nat → ClassId} {kE : Nat → Nat} {nx : Nat} {M : pm_M} {a N : Nat} {f : Nat → Int32} {i : Nat} (hB : M a = some (.inl (kA 4, N, .inl f))) (hi : i < N) (hN : N < 2147483648) {q : Nat} (hq : f i = nI q) (hq2 : q < 256) : pm_C l z D kA kE yJ1_charAt_3b067 cJ1_charAt_3b067 2 (some .char) 2 0 0 [.ref (z + a), .int (nI i)] nx M (pm_rt (some (.int (nI q))) nx M) := by
  refine pm_mk (own := RJ1) (nm := "charAt") mt_J1_charAt_3b067 rfl rfl rfl rfl fun X B => ?_
  refine pm_loc (L' := [some (.ref (z + a)), some (.int (nI i))]) rfl ?_
  refine pm_iload_n B dJ1_charAt_3b067_0 rfl ?_
  refine pm_aload_n B dJ1_charAt_3b067_1 rfl ?_
  refine pm_alen (v := nI N) B dJ1_charAt_3b067_2 hB rfl rfl ?_
  refine pm_cS (As := [.int (nI i), .int (nI N)]) (mc2 := 0) (ms2 := 0) B (c_J0_checkIndex_df160 hi hN) mt_J0_checkIndex_df160 ss_J1_9 dJ1_charAt_3b067_3 rfl rfl rfl rfl rfl ?_
  refine pm_aload_n B dJ1_charAt_3b067_6 rfl ?_
  refine pm_iload_n B dJ1_charAt_3b067_7 rfl ?_
  refine pm_bald_n B dJ1_charAt_3b067_8 hB i hi hN ?_
  refine pm_sipush (v := 255) B dJ1_charAt_3b067_9 (by decide) ?_
  refine pm_iand B dJ1_charAt_3b067_12 ?_
  refine pm_i2c B dJ1_charAt_3b067_13 ?_
  refine pm_stk (st' := [.int (nI q)]) (by rw [hq, pk_andN (by omega) 8 (by decide), pk_char, pk_tn (by omega), show q % 2 ^ 8 % 65536 = q by omega]; rfl) ?_
  exact pm_ireturn B dJ1_charAt_3b067_14 rfl (pk_charN (by omega)).1 ⟨rfl, rfl, rfl⟩ rfl rfl
theorem c_J0_coder_7d493_h {l : Launch} {z : Nat} {D : va_G} {kA : Nat → ClassId} {kE : Nat → Nat} {nx : Nat} {M : pm_M} {a v : Nat} {hx hy : Int32} (hM : M a = some (.inr (11, [.ref (z + v), .int 0, .int hx, .int hy]))) : pm_C l z D kA kE yJ0_coder_7d493 cJ0_coder_7d493 1 (some .byte) 0 0 0 [.ref (z + a)] nx M (pm_rt (some (.int 0)) nx M) := by
  refine pm_mk (own := RJ0) (nm := "coder") mt_J0_coder_7d493 rfl rfl rfl rfl fun X B => ?_
  refine pm_loc (L' := [some (.ref (z + a))]) rfl ?_
  refine pm_gets B (fun U H h => h.2.2.2.2.1) (pm_T_in 1288 (by decide +kernel) (by decide +kernel)) dJ0_coder_7d493_0 ?_
  refine pm_if_eq (tgt := 13) B dJ0_coder_7d493_3 (by decide) (fun h => absurd h (by decide)) (fun _ => ?_)
  refine pm_aload_n B dJ0_coder_7d493_6 rfl ?_
  refine pm_get B dJ0_coder_7d493_7 fl_J0_15 hM rfl ?_
  refine pm_goto (tgt := 14) B dJ0_coder_7d493_10 (by decide) ?_
  exact pm_ireturn B dJ0_coder_7d493_14 rfl rfl ⟨rfl, rfl, rfl⟩ rfl rfl
theorem c_J0_isLatin1_aae02_h {l : Launch} {z : Nat} {D : va_G} {kA : Nat → ClassId} {kE : Nat → Nat} {nx : Nat} {M : pm_M} {a v : Nat} {hx hy : Int32} (hM : M a = some (.inr (11, [.ref (z + v), .int 0, .int hx, .int hy]))) : pm_C l z D kA kE yJ0_isLatin1_aae02 cJ0_isLatin1_aae02 1 (some .boolean) 0 0 0 [.ref (z + a)] nx M (pm_rt (some (.int 1)) nx M) := by
  refine pm_mk (own := RJ0) (nm := "isLatin1") mt_J0_isLatin1_aae02 rfl rfl rfl rfl fun X B => ?_
  refine pm_loc (L' := [some (.ref (z + a))]) rfl ?_
  refine pm_gets B (fun U H h => h.2.2.2.2.1) (pm_T_in 1288 (by decide +kernel) (by decide +kernel)) dJ0_isLatin1_aae02_0 ?_
  refine pm_if_eq (tgt := 17) B dJ0_isLatin1_aae02_3 (by decide) (fun h => absurd h (by decide)) (fun _ => ?_)
  refine pm_aload_n B dJ0_isLatin1_aae02_6 rfl ?_
  refine pm_get B dJ0_isLatin1_aae02_7 fl_J0_15 hM rfl ?_
  refine pm_if_ne (tgt := 17) B dJ0_isLatin1_aae02_10 (by decide) (fun h => absurd rfl h) (fun _ => ?_)
  refine pm_iconst (v := 1) B dJ0_isLatin1_aae02_13 (by decide) ?_
  refine pm_goto (tgt := 18) B dJ0_isLatin1_aae02_14 (by decide) ?_
  exact pm_ireturn B dJ0_isLatin1_aae02_18 rfl rfl ⟨rfl, rfl, rfl⟩ rfl rfl
theorem c_J0_length_8abf5_h {l : Launch} {z : Nat} {D : va_G} {kA : Nat → ClassId} {kE : Nat → Nat} {nx : Nat} {M : pm_M} {a v N : Nat} {f : Nat → Int32} {hx hy : Int32} (hM : M a = some (.inr (11, [.ref (z + v), .int 0, .int hx, .int hy]))) (hB : M v = some (.inl (kA 4, N, .inl f))) (hN : N < 2147483648) : pm_C l z D kA kE yJ0_length_8abf5 cJ0_length_8abf5 1 (some .int) 1 0 0 [.ref (z + a)] nx M (pm_rt (some (.int (nI N))) nx M) := by
  refine pm_mk (own := RJ0) (nm := "length") mt_J0_length_8abf5 rfl rfl rfl rfl fun X B => ?_
  refine pm_loc (L' := [some (.ref (z + a))]) rfl ?_
  refine pm_aload_n B dJ0_length_8abf5_0 rfl ?_
  refine pm_get B dJ0_length_8abf5_1 fl_J0_9 hM rfl ?_
  refine pm_alen (v := nI N) B dJ0_length_8abf5_4 hB rfl rfl ?_
  refine pm_aload_n B dJ0_length_8abf5_5 rfl ?_
  refine pm_cV (As := []) (mc2 := 0) (ms2 := 0) B rfl hM rfl (c_J0_coder_7d493_h hM) mt_J0_coder_7d493 sv_J0_335 dJ0_length_8abf5_6 rfl rfl rfl rfl rfl ?_
  refine pm_ishr B dJ0_length_8abf5_9 ?_
  refine pm_stk (st' := [.int (nI N)]) (by rw [pm_shr0 _ hN]) ?_
  exact pm_ireturn B dJ0_length_8abf5_10 rfl rfl ⟨rfl, rfl, rfl⟩ rfl rfl
theorem c_J0_charAt_5068e_h {l : Launch} {z : Nat} {D : va_G} {kA : Nat → ClassId} {kE : Nat → Nat} {nx : Nat} {M : pm_M} {a v N : Nat} {f : Nat → Int32} {hx hy : Int32} (hM : M a = some (.inr (11, [.ref (z + v), .int 0, .int hx, .int hy]))) (hB : M v = some (.inl (kA 4, N, .inl f))) {i : Nat} (hi : i < N) (hN : N < 2147483648) {q : Nat} (hq : f i = nI q) (hq2 : q < 256) : pm_C l z D kA kE yJ0_charAt_5068e cJ0_charAt_5068e 2 (some .char) 3 0 0 [.ref (z + a), .int (nI i)] nx M (pm_rt (some (.int (nI q))) nx M) := by
  refine pm_mk (own := RJ0) (nm := "charAt") mt_J0_charAt_5068e rfl rfl rfl rfl fun X B => ?_
  refine pm_loc (L' := [some (.ref (z + a)), some (.int (nI i))]) rfl ?_
  refine pm_aload_n B dJ0_charAt_5068e_0 rfl ?_
  refine pm_cV (As := []) (mc2 := 0) (ms2 := 0) B rfl hM rfl (c_J0_isLatin1_aae02_h hM) mt_J0_isLatin1_aae02 sv_J0_492 dJ0_charAt_5068e_1 rfl rfl rfl rfl rfl ?_
  refine pm_if_eq (tgt := 16) B dJ0_charAt_5068e_4 (by decide) (fun h => absurd h (by decide)) (fun _ => ?_)
  refine pm_aload_n B dJ0_charAt_5068e_7 rfl ?_
  refine pm_get B dJ0_charAt_5068e_8 fl_J0_9 hM rfl ?_
  refine pm_iload_n B dJ0_charAt_5068e_11 rfl ?_
  refine pm_cS (As := [.ref (z + v), .int (nI i)]) (mc2 := 0) (ms2 := 0) B (c_J1_charAt_3b067_h hB hi hN hq hq2) mt_J1_charAt_3b067 ss_J0_495 dJ0_charAt_5068e_12 rfl rfl rfl rfl rfl ?_
  exact pm_ireturn B dJ0_charAt_5068e_15 rfl (pk_charN (by omega)).1 ⟨rfl, rfl, rfl⟩ rfl rfl
