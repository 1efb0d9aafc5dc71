/-! the law's switch -/
theorem pm_a63 (x : Int32) : ∃ v, v < 64 ∧ x &&& 63 = nI v := by
  refine ⟨x.toBitVec.toNat % 64, Nat.mod_lt _ (by decide), ?_⟩
  apply Int32.toBitVec_inj.mp
  apply BitVec.eq_of_toNat_eq
  have h1 : (x &&& 63).toBitVec.toNat = x.toBitVec.toNat &&& 63 := by
    rw [Int32.toBitVec_and, BitVec.toNat_and]
    rfl
  have h2 : (nI (x.toBitVec.toNat % 64)).toBitVec.toNat = x.toBitVec.toNat % 64 := by
    have h3 : x.toBitVec.toNat % 64 < 64 := Nat.mod_lt _ (by decide)
    generalize x.toBitVec.toNat % 64 = v at h3
    have h4 : ∀ v, v < 64 → (nI v).toBitVec.toNat = v := by decide +kernel
    exact h4 v h3
  rw [h1, h2]
  exact Nat.and_two_pow_sub_one_eq_mod _ 6
theorem pm_J_le {z : Nat} {kA : Nat → ClassId} {kE : Nat → Nat} {nx : Nat} {M : pm_M} {B C : Nat} (hB : B ≤ C) (h : pm_J z kA kE nx M B) : pm_J z kA kE nx M C := by
  obtain ⟨h1, g, h, L, fo, fd, a, b, c, d, e, f⟩ := h
  exact ⟨h1, g, h, L, fo, fd, a, b, c, d, e, pm_Rel_le hB f⟩
set_option maxHeartbeats 4000000 in
/-- the switch; what is still to be closed stands as a hypothesis -/
theorem pm_lw_all_open {l : Launch} {z : Nat} {D : va_G} {kA : Nat → ClassId} {kE : Nat → Nat} {nm : String} {tb : List ExceptionTableEntry} {mc ms : Nat} {X : pm_X} {cu su : Nat} {Q : State → Prop} {nx : Nat} {M : pm_M} {b N i Bd : Nat} {xs : Nat → Int32} (B : pm_B l z D kA kE RL code 9 ret nm tb 2048 mc ms X) (hXs : va_X b N xs X.2.2.2.1 X.2.2.2.1.heap) (hbz : b < z) (hiN : i + 4 ≤ N) (hN : N ≤ 2048) (hcu : cu + 25 ≤ mc) (hsu : su + 78 ≤ ms) (hJ : pm_J z kA kE nx M Bd) (hBd : Bd ≤ 3902976)
    (next : ∀ nx' M', nx ≤ nx' → pm_J z kA kE nx' M' (Bd + 693 * 11) → pm_G l z D X (cu + 25) (su + 78) Q nx' M' 2623 [some (.ref b), some (.ref (z + 0)), some (.ref (z + 140)), some (.ref (z + 149)), some (.ref (z + 150)), some (.int (nI i)), none, none, none] [])  : pm_G l z D X cu su Q nx M 37 [some (.ref b), some (.ref (z + 0)), some (.ref (z + 140)), some (.ref (z + 149)), some (.ref (z + 150)), some (.int (nI i)), none, none, none] [] := by
  refine pm_aload_n B dL_law_37 rfl ?_
  refine pm_iload B dL_law_38 rfl ?_
  refine pm_sld B hXs hbz i (by omega) (by omega) dL_law_40 ?_
  refine pm_bipush (v := 63) B dL_law_41 (by decide) ?_
  refine pm_iand B dL_law_43 ?_
  obtain ⟨v, hv, e⟩ := pm_a63 (xs i)
  rw [e]
  have hv2 : v = 0 ∨ v = 1 ∨ v = 2 ∨ v = 3 ∨ v = 4 ∨ v = 5 ∨ v = 6 ∨ v = 7 ∨ v = 8 ∨ v = 9 ∨ v = 10 ∨ v = 11 ∨ v = 12 ∨ v = 13 ∨ v = 14 ∨ v = 15 ∨ v = 16 ∨ v = 17 ∨ v = 18 ∨ v = 19 ∨ v = 20 ∨ v = 21 ∨ v = 22 ∨ v = 23 ∨ v = 24 ∨ v = 25 ∨ v = 26 ∨ v = 27 ∨ v = 28 ∨ v = 29 ∨ v = 30 ∨ v = 31 ∨ v = 32 ∨ v = 33 ∨ v = 34 ∨ v = 35 ∨ v = 36 ∨ v = 37 ∨ v = 38 ∨ v = 39 ∨ v = 40 ∨ v = 41 ∨ v = 42 ∨ v = 43 ∨ v = 44 ∨ v = 45 ∨ v = 46 ∨ v = 47 ∨ v = 48 ∨ v = 49 ∨ v = 50 ∨ v = 51 ∨ v = 52 ∨ v = 53 ∨ v = 54 ∨ v = 55 ∨ v = 56 ∨ v = 57 ∨ v = 58 ∨ v = 59 ∨ v = 60 ∨ v = 61 ∨ v = 62 ∨ v = 63 := by omega
  rcases hv2 with rfl | rfl | rfl | rfl | rfl | rfl | rfl | rfl | rfl | rfl | rfl | rfl | rfl | rfl | rfl | rfl | rfl | rfl | rfl | rfl | rfl | rfl | rfl | rfl | rfl | rfl | rfl | rfl | rfl | rfl | rfl | rfl | rfl | rfl | rfl | rfl | rfl | rfl | rfl | rfl | rfl | rfl | rfl | rfl | rfl | rfl | rfl | rfl | rfl | rfl | rfl | rfl | rfl | rfl | rfl | rfl | rfl | rfl | rfl | rfl | rfl | rfl | rfl | rfl
  · refine pm_stk (st' := [.int 0]) rfl ?_
    refine pm_tableIn (off := 228) (tgt := 272) B dL_law_44 (by decide) (by decide) (by decide) (by decide) ?_
    exact pm_op_0 B hXs hbz hiN hN hcu hsu hJ next
  · refine pm_stk (st' := [.int 1]) rfl ?_
    refine pm_tableIn (off := 296) (tgt := 340) B dL_law_44 (by decide) (by decide) (by decide) (by decide) ?_
    exact pm_op_1 B hXs hbz hiN hN hcu hsu hJ next
  · refine pm_stk (st' := [.int 2]) rfl ?_
    refine pm_tableIn (off := 352) (tgt := 396) B dL_law_44 (by decide) (by decide) (by decide) (by decide) ?_
    exact pm_op_2 B hXs hbz hiN hN hcu hsu hJ next
  · refine pm_stk (st' := [.int 3]) rfl ?_
    refine pm_tableIn (off := 365) (tgt := 409) B dL_law_44 (by decide) (by decide) (by decide) (by decide) ?_
    exact pm_op_3 B hXs hbz hiN hN hcu hsu hJ next
  · refine pm_stk (st' := [.int 4]) rfl ?_
    refine pm_tableIn (off := 421) (tgt := 465) B dL_law_44 (by decide) (by decide) (by decide) (by decide) ?_
    exact pm_op_4 B hXs hbz hiN hN hcu hsu hJ next
  · refine pm_stk (st' := [.int 5]) rfl ?_
    refine pm_tableIn (off := 477) (tgt := 521) B dL_law_44 (by decide) (by decide) (by decide) (by decide) ?_
    exact pm_op_5 B hXs hbz hiN hN hcu hsu hJ next
  · refine pm_stk (st' := [.int 6]) rfl ?_
    refine pm_tableIn (off := 533) (tgt := 577) B dL_law_44 (by decide) (by decide) (by decide) (by decide) ?_
    exact pm_op_6 B hXs hbz hiN hN hcu hsu hJ next
  · refine pm_stk (st' := [.int 7]) rfl ?_
    refine pm_tableIn (off := 589) (tgt := 633) B dL_law_44 (by decide) (by decide) (by decide) (by decide) ?_
    exact pm_op_7 B hXs hbz hiN hN hcu hsu hJ next
  · refine pm_stk (st' := [.int 8]) rfl ?_
    refine pm_tableIn (off := 645) (tgt := 689) B dL_law_44 (by decide) (by decide) (by decide) (by decide) ?_
    exact pm_op_8 B hXs hbz hiN hN hcu hsu hJ next
  · refine pm_stk (st' := [.int 9]) rfl ?_
    refine pm_tableIn (off := 701) (tgt := 745) B dL_law_44 (by decide) (by decide) (by decide) (by decide) ?_
    exact pm_op_9 B hXs hbz hiN hN hcu hsu hJ next
  · refine pm_stk (st' := [.int 10]) rfl ?_
    refine pm_tableIn (off := 757) (tgt := 801) B dL_law_44 (by decide) (by decide) (by decide) (by decide) ?_
    exact pm_op_10 B hXs hbz hiN hN hcu hsu hJ next
  · refine pm_stk (st' := [.int 11]) rfl ?_
    refine pm_tableIn (off := 813) (tgt := 857) B dL_law_44 (by decide) (by decide) (by decide) (by decide) ?_
    exact pm_op_11 B hXs hbz hiN hN hcu hsu hJ next
  · refine pm_stk (st' := [.int 12]) rfl ?_
    refine pm_tableIn (off := 881) (tgt := 925) B dL_law_44 (by decide) (by decide) (by decide) (by decide) ?_
    exact pm_op_12 B hXs hbz hiN hN hcu hsu hJ next
  · refine pm_stk (st' := [.int 13]) rfl ?_
    refine pm_tableIn (off := 894) (tgt := 938) B dL_law_44 (by decide) (by decide) (by decide) (by decide) ?_
    exact pm_op_13 B hXs hbz hiN hN hcu hsu hJ next
  · refine pm_stk (st' := [.int 14]) rfl ?_
    refine pm_tableIn (off := 974) (tgt := 1018) B dL_law_44 (by decide) (by decide) (by decide) (by decide) ?_
    exact pm_op_14 B hXs hbz hiN hN hcu hsu hJ next
  · refine pm_stk (st' := [.int 15]) rfl ?_
    refine pm_tableIn (off := 1030) (tgt := 1074) B dL_law_44 (by decide) (by decide) (by decide) (by decide) ?_
    exact pm_op_15 B hXs hbz hiN hN hcu hsu hJ next
  · refine pm_stk (st' := [.int 16]) rfl ?_
    refine pm_tableIn (off := 1086) (tgt := 1130) B dL_law_44 (by decide) (by decide) (by decide) (by decide) ?_
    exact pm_op_16 B hXs hbz hiN hN hcu hsu hJ next
  · refine pm_stk (st' := [.int 17]) rfl ?_
    refine pm_tableIn (off := 1142) (tgt := 1186) B dL_law_44 (by decide) (by decide) (by decide) (by decide) ?_
    exact pm_op_17 B hXs hbz hiN hN hcu hsu hJ next
  · refine pm_stk (st' := [.int 18]) rfl ?_
    refine pm_tableIn (off := 1198) (tgt := 1242) B dL_law_44 (by decide) (by decide) (by decide) (by decide) ?_
    exact pm_op_18 B hXs hbz hiN hN hcu hsu hJ next
  · refine pm_stk (st' := [.int 19]) rfl ?_
    refine pm_tableIn (off := 1254) (tgt := 1298) B dL_law_44 (by decide) (by decide) (by decide) (by decide) ?_
    exact pm_op_19 B hXs hbz hiN hN hcu hsu hJ next
  · refine pm_stk (st' := [.int 20]) rfl ?_
    refine pm_tableIn (off := 1310) (tgt := 1354) B dL_law_44 (by decide) (by decide) (by decide) (by decide) ?_
    exact pm_op_20 B hXs hbz hiN hN hcu hsu hJ next
  · refine pm_stk (st' := [.int 21]) rfl ?_
    refine pm_tableIn (off := 1378) (tgt := 1422) B dL_law_44 (by decide) (by decide) (by decide) (by decide) ?_
    exact pm_op_21 B hXs hbz hiN hN hcu hsu hJ next
  · refine pm_stk (st' := [.int 22]) rfl ?_
    refine pm_tableIn (off := 1446) (tgt := 1490) B dL_law_44 (by decide) (by decide) (by decide) (by decide) ?_
    exact pm_op_22 B hXs hbz hiN hN hcu hsu hJ next
  · refine pm_stk (st' := [.int 23]) rfl ?_
    refine pm_tableIn (off := 1459) (tgt := 1503) B dL_law_44 (by decide) (by decide) (by decide) (by decide) ?_
    exact pm_op_23 B hXs hbz hiN hN hcu hsu hJ next
  · refine pm_stk (st' := [.int 24]) rfl ?_
    refine pm_tableIn (off := 1534) (tgt := 1578) B dL_law_44 (by decide) (by decide) (by decide) (by decide) ?_
    exact pm_op_24 B hXs hbz hiN hN hcu hsu hJ next
  · refine pm_stk (st' := [.int 25]) rfl ?_
    refine pm_tableIn (off := 1547) (tgt := 1591) B dL_law_44 (by decide) (by decide) (by decide) (by decide) ?_
    exact pm_op_25 B hXs hbz hiN hN hcu hsu hJ next
  · refine pm_stk (st' := [.int 26]) rfl ?_
    refine pm_tableIn (off := 1560) (tgt := 1604) B dL_law_44 (by decide) (by decide) (by decide) (by decide) ?_
    exact pm_op_26 B hXs hbz hiN hN hcu hsu hJ next
  · refine pm_stk (st' := [.int 27]) rfl ?_
    refine pm_tableIn (off := 1616) (tgt := 1660) B dL_law_44 (by decide) (by decide) (by decide) (by decide) ?_
    exact pm_op_27 B hXs hbz hiN hN hcu hsu hJ next
  · refine pm_stk (st' := [.int 28]) rfl ?_
    refine pm_tableIn (off := 1629) (tgt := 1673) B dL_law_44 (by decide) (by decide) (by decide) (by decide) ?_
    exact pm_op_28 B hXs hbz hiN hN hcu hsu hJ next
  · refine pm_stk (st' := [.int 29]) rfl ?_
    refine pm_tableIn (off := 1685) (tgt := 1729) B dL_law_44 (by decide) (by decide) (by decide) (by decide) ?_
    exact pm_op_29 B hXs hbz hiN hN hcu hsu hJ next
  · refine pm_stk (st' := [.int 30]) rfl ?_
    refine pm_tableIn (off := 1741) (tgt := 1785) B dL_law_44 (by decide) (by decide) (by decide) (by decide) ?_
    exact pm_op_30 B hXs hbz hiN hN hcu hsu hJ next
  · refine pm_stk (st' := [.int 31]) rfl ?_
    refine pm_tableIn (off := 1754) (tgt := 1798) B dL_law_44 (by decide) (by decide) (by decide) (by decide) ?_
    exact pm_op_31 B hXs hbz hiN hN hcu hsu hJ next
  · refine pm_stk (st' := [.int 32]) rfl ?_
    refine pm_tableIn (off := 1767) (tgt := 1811) B dL_law_44 (by decide) (by decide) (by decide) (by decide) ?_
    exact pm_op_32 B hXs hbz hiN hN hcu hsu hJ next
  · refine pm_stk (st' := [.int 33]) rfl ?_
    refine pm_tableIn (off := 1823) (tgt := 1867) B dL_law_44 (by decide) (by decide) (by decide) (by decide) ?_
    exact pm_op_33 B hXs hbz hiN hN hcu hsu hJ next
  · refine pm_stk (st' := [.int 34]) rfl ?_
    refine pm_tableIn (off := 1879) (tgt := 1923) B dL_law_44 (by decide) (by decide) (by decide) (by decide) ?_
    exact pm_op_34 B hXs hbz hiN hN hcu hsu hJ next
  · refine pm_stk (st' := [.int 35]) rfl ?_
    refine pm_tableIn (off := 1892) (tgt := 1936) B dL_law_44 (by decide) (by decide) (by decide) (by decide) ?_
    exact pm_op_35 B hXs hbz hiN hN hcu hsu hJ next
  · refine pm_stk (st' := [.int 36]) rfl ?_
    refine pm_tableIn (off := 1905) (tgt := 1949) B dL_law_44 (by decide) (by decide) (by decide) (by decide) ?_
    exact pm_op_36 B hXs hbz hiN hN hcu hsu hJ next
  · refine pm_stk (st' := [.int 37]) rfl ?_
    refine pm_tableIn (off := 1918) (tgt := 1962) B dL_law_44 (by decide) (by decide) (by decide) (by decide) ?_
    exact pm_op_37 B hXs hbz hiN hN hcu hsu hJ next
  · refine pm_stk (st' := [.int 38]) rfl ?_
    refine pm_tableIn (off := 1931) (tgt := 1975) B dL_law_44 (by decide) (by decide) (by decide) (by decide) ?_
    exact pm_op_38 B hXs hbz hiN hN hcu hsu hJ next
  · refine pm_stk (st' := [.int 39]) rfl ?_
    refine pm_tableIn (off := 1944) (tgt := 1988) B dL_law_44 (by decide) (by decide) (by decide) (by decide) ?_
    exact pm_op_39 B hXs hbz hiN hN hcu hsu hJ next
  · refine pm_stk (st' := [.int 40]) rfl ?_
    refine pm_tableIn (off := 2009) (tgt := 2053) B dL_law_44 (by decide) (by decide) (by decide) (by decide) ?_
    exact pm_op_40 B hXs hbz hiN hN hcu hsu hJ hBd next
  · refine pm_stk (st' := [.int 41]) rfl ?_
    refine pm_tableIn (off := 2075) (tgt := 2119) B dL_law_44 (by decide) (by decide) (by decide) (by decide) ?_
    exact pm_op_41 B hXs hbz hiN hN hcu hsu hJ next
  · refine pm_stk (st' := [.int 42]) rfl ?_
    refine pm_tableIn (off := 2133) (tgt := 2177) B dL_law_44 (by decide) (by decide) (by decide) (by decide) ?_
    exact pm_op_42 B hXs hbz hiN hN hcu hsu hJ next
  · refine pm_stk (st' := [.int 43]) rfl ?_
    refine pm_tableIn (off := 2177) (tgt := 2221) B dL_law_44 (by decide) (by decide) (by decide) (by decide) ?_
    exact pm_op_43 B hXs hbz hiN hN hcu hsu hJ next
  · refine pm_stk (st' := [.int 44]) rfl ?_
    refine pm_tableIn (off := 2221) (tgt := 2265) B dL_law_44 (by decide) (by decide) (by decide) (by decide) ?_
    exact pm_op_44 B hXs hbz hiN hN hcu hsu hJ next
  · refine pm_stk (st' := [.int 45]) rfl ?_
    refine pm_tableIn (off := 2277) (tgt := 2321) B dL_law_44 (by decide) (by decide) (by decide) (by decide) ?_
    exact pm_op_45 B hXs hbz hiN hN hcu hsu hJ next
  · refine pm_stk (st' := [.int 46]) rfl ?_
    refine pm_tableIn (off := 2333) (tgt := 2377) B dL_law_44 (by decide) (by decide) (by decide) (by decide) ?_
    exact pm_op_46 B hXs hbz hiN hN hcu hsu hJ next
  · refine pm_stk (st' := [.int 47]) rfl ?_
    refine pm_tableIn (off := 2377) (tgt := 2421) B dL_law_44 (by decide) (by decide) (by decide) (by decide) ?_
    exact pm_op_47 B hXs hbz hiN hN hcu hsu hJ next
  · refine pm_stk (st' := [.int 48]) rfl ?_
    refine pm_tableIn (off := 2421) (tgt := 2465) B dL_law_44 (by decide) (by decide) (by decide) (by decide) ?_
    exact pm_op_48 B hXs hbz hiN hN hcu hsu hJ next
  · refine pm_stk (st' := [.int 49]) rfl ?_
    refine pm_tableIn (off := 2465) (tgt := 2509) B dL_law_44 (by decide) (by decide) (by decide) (by decide) ?_
    exact pm_op_49 B hXs hbz hiN hN hcu hsu hJ next
  · refine pm_stk (st' := [.int 50]) rfl ?_
    refine pm_tableIn (off := 2509) (tgt := 2553) B dL_law_44 (by decide) (by decide) (by decide) (by decide) ?_
    exact pm_op_50 B hXs hbz hiN hN hcu hsu hJ next
  · refine pm_stk (st' := [.int 51]) rfl ?_
    refine pm_tableIn (off := 2522) (tgt := 2566) B dL_law_44 (by decide) (by decide) (by decide) (by decide) ?_
    exact pm_op_51 B hXs hbz hiN hN hcu hsu hJ next
  · refine pm_stk (st' := [.int 52]) rfl ?_
    refine pm_tableIn (off := 2535) (tgt := 2579) B dL_law_44 (by decide) (by decide) (by decide) (by decide) ?_
    exact pm_op_52 B hXs hbz hiN hN hcu hsu hJ next
  · refine pm_stk (st' := [.int 53]) rfl ?_
    refine pm_tableOut (tgt := 2623) B dL_law_44 (by decide) (by decide) ?_
    exact pm_widen (k1 := cu + 25) (n1 := su + 78) (by omega) (by omega) (next nx M (Nat.le_refl _) (pm_J_le (by omega) hJ))
  · refine pm_stk (st' := [.int 54]) rfl ?_
    refine pm_tableOut (tgt := 2623) B dL_law_44 (by decide) (by decide) ?_
    exact pm_widen (k1 := cu + 25) (n1 := su + 78) (by omega) (by omega) (next nx M (Nat.le_refl _) (pm_J_le (by omega) hJ))
  · refine pm_stk (st' := [.int 55]) rfl ?_
    refine pm_tableOut (tgt := 2623) B dL_law_44 (by decide) (by decide) ?_
    exact pm_widen (k1 := cu + 25) (n1 := su + 78) (by omega) (by omega) (next nx M (Nat.le_refl _) (pm_J_le (by omega) hJ))
  · refine pm_stk (st' := [.int 56]) rfl ?_
    refine pm_tableOut (tgt := 2623) B dL_law_44 (by decide) (by decide) ?_
    exact pm_widen (k1 := cu + 25) (n1 := su + 78) (by omega) (by omega) (next nx M (Nat.le_refl _) (pm_J_le (by omega) hJ))
  · refine pm_stk (st' := [.int 57]) rfl ?_
    refine pm_tableOut (tgt := 2623) B dL_law_44 (by decide) (by decide) ?_
    exact pm_widen (k1 := cu + 25) (n1 := su + 78) (by omega) (by omega) (next nx M (Nat.le_refl _) (pm_J_le (by omega) hJ))
  · refine pm_stk (st' := [.int 58]) rfl ?_
    refine pm_tableOut (tgt := 2623) B dL_law_44 (by decide) (by decide) ?_
    exact pm_widen (k1 := cu + 25) (n1 := su + 78) (by omega) (by omega) (next nx M (Nat.le_refl _) (pm_J_le (by omega) hJ))
  · refine pm_stk (st' := [.int 59]) rfl ?_
    refine pm_tableOut (tgt := 2623) B dL_law_44 (by decide) (by decide) ?_
    exact pm_widen (k1 := cu + 25) (n1 := su + 78) (by omega) (by omega) (next nx M (Nat.le_refl _) (pm_J_le (by omega) hJ))
  · refine pm_stk (st' := [.int 60]) rfl ?_
    refine pm_tableOut (tgt := 2623) B dL_law_44 (by decide) (by decide) ?_
    exact pm_widen (k1 := cu + 25) (n1 := su + 78) (by omega) (by omega) (next nx M (Nat.le_refl _) (pm_J_le (by omega) hJ))
  · refine pm_stk (st' := [.int 61]) rfl ?_
    refine pm_tableOut (tgt := 2623) B dL_law_44 (by decide) (by decide) ?_
    exact pm_widen (k1 := cu + 25) (n1 := su + 78) (by omega) (by omega) (next nx M (Nat.le_refl _) (pm_J_le (by omega) hJ))
  · refine pm_stk (st' := [.int 62]) rfl ?_
    refine pm_tableOut (tgt := 2623) B dL_law_44 (by decide) (by decide) ?_
    exact pm_widen (k1 := cu + 25) (n1 := su + 78) (by omega) (by omega) (next nx M (Nat.le_refl _) (pm_J_le (by omega) hJ))
  · refine pm_stk (st' := [.int 63]) rfl ?_
    refine pm_tableOut (tgt := 2623) B dL_law_44 (by decide) (by decide) ?_
    exact pm_widen (k1 := cu + 25) (n1 := su + 78) (by omega) (by omega) (next nx M (Nat.le_refl _) (pm_J_le (by omega) hJ))
