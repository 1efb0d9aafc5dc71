def pm_ush (x y : Int32) : Int32 := (x.toUInt32 >>> (y.toUInt32 &&& Int32.toUInt32 31)).toInt32
section PJ
variable {l : Launch} {z : Nat} {D : va_G} {kA : Nat → ClassId} {kE : Nat → Nat} {own : String} {cc : ByteArray} {nL : Nat} {ret : Option FieldType} {nm : String} {tb : List ExceptionTableEntry} {d mc ms : Nat} {X : pm_X} {cu su : Nat} {Q : State → Prop} {nx : Nat} {M : pm_M} {pc : Nat} {L : List (Option Value)} {st : List Value}
variable {index : Nat}
theorem pm_iushr (B : pm_B l z D kA kE own cc nL ret nm tb d mc ms X) {x y : Int32} (hd : decode cc pc = .ok (.iushr, 1))
    (k : pm_G l z D X cu su Q nx M (pc + 1) L (.int (pm_ush x y) :: st)) : pm_G l z D X cu su Q nx M pc L (.int y :: .int x :: st) := by
  obtain ⟨hx, hb, hml, hown, hts, hr, hlk, hK, hnm, htb, ⟨hrf, hrl, hrc, hrs⟩, hz, hcs⟩ := id B
  obtain ⟨p, e, R, s, m, args, below, meth, c⟩ := X
  intro H locs ls hR hS hl
  exact lv_iushr hx hb hd rfl (k H locs ls hR hS hl)
theorem wm_acopy : Cond.native arraycopyName ∈ pm_T ∧ Cond.static arraycopyName ∈ pm_T ∧ Cond.initialized "java/lang/System" ∈ pm_T := ⟨pm_T_in 606 (by decide +kernel) (by decide +kernel), pm_T_in 605 (by decide +kernel) (by decide +kernel), pm_T_in 61 (by decide +kernel) (by decide +kernel)⟩
/-- System.arraycopy of ints -/
theorem pm_acopy (B : pm_B l z D kA kE own cc nL ret nm tb d mc ms X) {a0 a n0 n1 : Nat} {f g : Nat → Int32} (hd : decode cc pc = .ok (.invokestatic index, 3)) (hw : Cond.methodLink own index arraycopyName ∈ pm_T) (ha0 : M a0 = some (.inl (kA 0, n0, .inl f))) (ha1 : M a = some (.inl (kA 0, n1, .inl g))) {sp dp n : Int32} (sn dn nn : Nat) (hsp : sp = nI sn) (hdp : dp = nI dn) (hnn : n = nI nn) (h4 : sn + nn ≤ n0) (h5 : dn + nn ≤ n1) (hb0 : n0 < 2147483648) (hb1 : n1 < 2147483648)
    (hd1 : Nat.ble 2 d = true) (hst : Nat.ble ((st.map fun v => v.category).sum) 8 = true)
    (k : pm_G l z D X cu su Q nx (pm_up M a (.inl (kA 0, n1, .inl (va_cpy f g sn dn nn)))) (pc + 3) L st) : pm_G l z D X cu su Q nx M pc L (.int n :: .int dp :: .ref (z + a) :: .int sp :: .ref (z + a0) :: st) := by
  obtain ⟨hx, hb, hml, hown, hts, hr, hlk, hK, hnm, htb, ⟨hrf, hrl, hrc, hrs⟩, hz, hcs⟩ := id B
  obtain ⟨p, e, R, s, m, args, below, meth, c⟩ := X
  intro H locs ls hR hS hl
  have hd2 := Nat.le_of_ble_eq_true hd1
  have hst2 := Nat.le_of_ble_eq_true hst
  subst hsp; subst hdp; subst hnn
  have e1s : (nI sn).toNatClampNeg = sn := nI_clamp (by omega)
  have e1d : (nI dn).toNatClampNeg = dn := nI_clamp (by omega)
  have e1n : (nI nn).toNatClampNeg = nn := nI_clamp (by omega)
  have i1s : (nI sn).toInt = (sn : Int) := nI_toInt (by omega)
  have i1d : (nI dn).toInt = (dn : Int) := nI_toInt (by omega)
  have i1n : (nI nn).toInt = (nn : Int) := nI_toInt (by omega)
  have hc0 : H[z + a0]? = some (vp_cell (kA 0) (n0, .inl f)) := (hR.2 a0 _ ha0).2
  have hc1 : H[z + a]? = some (vp_cell (kA 0) (n1, .inl g)) := (hR.2 a _ ha1).2
  have hnf : nativeFrameWords "java/lang/System" "arraycopy" 5 ≤ 30 := by decide
  intro T hT X
  obtain ⟨-, k0, hk0, cm0, hkk0⟩ := (hK.2 0 _ rfl).1 n0 (fun j => .int (f j))
  obtain ⟨-, k1, hk1, cm1, hkk1⟩ := (hK.2 0 _ rfl).1 n1 (fun j => .int (g j))
  obtain ⟨vm', X', step⟩ := X.arraycopy hx hown (hts _ hw) (hts _ wm_acopy.1) (hts _ wm_acopy.2.1) (hts _ wm_acopy.2.2) (src := z + a0) (dst := z + a) (cs := vp_cell (kA 0) (n0, .inl f)) (cd := vp_cell (kA 0) (n1, .inl g)) (srcPos := nI sn) (destPos := nI dn) (n := nI nn) (by rw [hT]; exact hc0) (by rw [hT]; exact hc1)
    (fun _ h => by cases h) (fun _ h => by cases h) (fun h => by cases h) (fun h => by cases h) hk0 hk1 hkk0 hkk1 (by simp [refKind]) (nI_pos (by omega)) (nI_pos (by omega)) (nI_pos (by omega))
    (by rw [i1s, i1n]; show ¬ _ > ((arrV (kA 0) n0 (fun j => .int (f j))).slots.size : Int); rw [arrV_size]; omega)
    (by rw [i1d, i1n]; show ¬ _ > ((arrV (kA 0) n1 (fun j => .int (g j))).slots.size : Int); rw [arrV_size]; omega)
    (fun vm₁ _ i hi => by
      have e : (vp_cell (kA 0) (n0, .inl f)).slots.getD ((nI sn).toNatClampNeg + i) .null = .int (f ((nI sn).toNatClampNeg + i)) := by
        show (arrV (kA 0) n0 (fun j => .int (f j))).slots.getD _ _ = _
        rw [Array.getD_eq_getD_getElem?, arrV_read _ _ (by rw [e1n] at hi; rw [e1s]; omega)]
        rfl
      refine ⟨?_, ?_⟩
      · rw [e]
        rfl
      · rw [e]
        exact trivial)
    (g := F0 m pc ls (.int (nI nn) :: .int (nI dn) :: .ref (z + a) :: .int (nI sn) :: .ref (z + a0) :: st)) rfl hl.1 (rest := st) rfl (by rw [hb]; exact hd) (by simp only at hrf ⊢; omega) (by show 2 * 0 + _ + _ ≤ _; simp only at hrl ⊢; omega)
  have e1 : copied (vp_cell (kA 0) (n0, .inl f)) (vp_cell (kA 0) (n1, .inl g)) (nI sn) (nI dn) (nI nn) = vp_cell (kA 0) (n1, .inl (va_cpy f g sn dn nn)) := by
    have h9 := va_copied (sp := (nI sn).toNatClampNeg) (dp := (nI dn).toNatClampNeg) (n := (nI nn).toNatClampNeg) (n0 := n0) (n1 := n1) (fun z => Value.int z) (kA 0) (kA 0) f g (by rw [e1s, e1n]; exact h4)
    rw [e1s, e1d, e1n] at h9
    show (arrV (kA 0) n1 (fun j => Value.int (g j))).storeRun (nI dn).toNatClampNeg ((arrV (kA 0) n0 (fun j => Value.int (f j))).stretch (nI sn).toNatClampNeg (nI nn).toNatClampNeg) = _
    rw [e1s, e1d, e1n, h9]
    rfl
  rw [e1] at X' step
  have hl9 : z + a < H.size := (Array.getElem?_eq_some_iff.mp hc1).1
  have hheap : ((T.setVm vm').setCell (z + a) (vp_cell (kA 0) (n1, .inl (va_cpy f g sn dn nn)))).heap = H.setIfInBounds (z + a) (vp_cell (kA 0) (n1, .inl (va_cpy f g sn dn nn))) := by rw [← hT]; rfl
  have oq : ∀ q : Nat, q ≠ z + a → (H.setIfInBounds (z + a) (vp_cell (kA 0) (n1, .inl (va_cpy f g sn dn nn))))[q]? = H[q]? := fun q hq => by simp [Array.getElem?_setIfInBounds, Ne.symm hq]
  obtain ⟨t, a1, b1⟩ := k _ _ ls (hR.put ha1 (show (H.setIfInBounds (z + a) _)[z + a]? = some _ by simp [Array.getElem?_setIfInBounds, hl9]) (by simp) oq) ⟨by simp; exact hS.1, fun q g1 g2 => by
      rw [oq q (fun e => g2 (by rw [e]; exact Nat.le_add_right z a))]
      exact hS.2.1 q g1 g2, fun q hq => by
      rcases List.mem_append.mp hq with h | h
      · exact hS.2.2 q h
      · obtain ⟨z9, -, hz9⟩ := List.mem_map.mp h
        rw [← hz9]
        exact Nat.le_add_right z a⟩ hl _ hheap X'
  exact ⟨t, step t a1, b1⟩
end PJ
abbrev RJ6 : String := "java/lang/Integer"
abbrev cJ6_bitCount_0f7a4 : ByteArray := prog_29_method_49_code
def yJ6_bitCount_0f7a4 : MethodName := ⟨RJ6, "bitCount", "(I)I"⟩
theorem dJ6_bitCount_0f7a4_0 : decode cJ6_bitCount_0f7a4 0 = .ok (.iload_n 0, 1) := by decide +kernel
theorem dJ6_bitCount_0f7a4_1 : decode cJ6_bitCount_0f7a4 1 = .ok (.iload_n 0, 1) := by decide +kernel
theorem dJ6_bitCount_0f7a4_2 : decode cJ6_bitCount_0f7a4 2 = .ok (.iconst 1, 1) := by decide +kernel
theorem dJ6_bitCount_0f7a4_3 : decode cJ6_bitCount_0f7a4 3 = .ok (.iushr, 1) := by decide +kernel
theorem dJ6_bitCount_0f7a4_4 : decode cJ6_bitCount_0f7a4 4 = .ok (.ldc_w 265, 3) := by decide +kernel
theorem dJ6_bitCount_0f7a4_7 : decode cJ6_bitCount_0f7a4 7 = .ok (.iand, 1) := by decide +kernel
theorem dJ6_bitCount_0f7a4_8 : decode cJ6_bitCount_0f7a4 8 = .ok (.isub, 1) := by decide +kernel
theorem dJ6_bitCount_0f7a4_9 : decode cJ6_bitCount_0f7a4 9 = .ok (.istore_n 0, 1) := by decide +kernel
theorem dJ6_bitCount_0f7a4_10 : decode cJ6_bitCount_0f7a4 10 = .ok (.iload_n 0, 1) := by decide +kernel
theorem dJ6_bitCount_0f7a4_11 : decode cJ6_bitCount_0f7a4 11 = .ok (.ldc_w 266, 3) := by decide +kernel
theorem dJ6_bitCount_0f7a4_14 : decode cJ6_bitCount_0f7a4 14 = .ok (.iand, 1) := by decide +kernel
theorem dJ6_bitCount_0f7a4_15 : decode cJ6_bitCount_0f7a4 15 = .ok (.iload_n 0, 1) := by decide +kernel
theorem dJ6_bitCount_0f7a4_16 : decode cJ6_bitCount_0f7a4 16 = .ok (.iconst 2, 1) := by decide +kernel
theorem dJ6_bitCount_0f7a4_17 : decode cJ6_bitCount_0f7a4 17 = .ok (.iushr, 1) := by decide +kernel
theorem dJ6_bitCount_0f7a4_18 : decode cJ6_bitCount_0f7a4 18 = .ok (.ldc_w 266, 3) := by decide +kernel
theorem dJ6_bitCount_0f7a4_21 : decode cJ6_bitCount_0f7a4 21 = .ok (.iand, 1) := by decide +kernel
theorem dJ6_bitCount_0f7a4_22 : decode cJ6_bitCount_0f7a4 22 = .ok (.iadd, 1) := by decide +kernel
theorem dJ6_bitCount_0f7a4_23 : decode cJ6_bitCount_0f7a4 23 = .ok (.istore_n 0, 1) := by decide +kernel
theorem dJ6_bitCount_0f7a4_24 : decode cJ6_bitCount_0f7a4 24 = .ok (.iload_n 0, 1) := by decide +kernel
theorem dJ6_bitCount_0f7a4_25 : decode cJ6_bitCount_0f7a4 25 = .ok (.iload_n 0, 1) := by decide +kernel
theorem dJ6_bitCount_0f7a4_26 : decode cJ6_bitCount_0f7a4 26 = .ok (.iconst 4, 1) := by decide +kernel
theorem dJ6_bitCount_0f7a4_27 : decode cJ6_bitCount_0f7a4 27 = .ok (.iushr, 1) := by decide +kernel
theorem dJ6_bitCount_0f7a4_28 : decode cJ6_bitCount_0f7a4 28 = .ok (.iadd, 1) := by decide +kernel
theorem dJ6_bitCount_0f7a4_29 : decode cJ6_bitCount_0f7a4 29 = .ok (.ldc_w 267, 3) := by decide +kernel
theorem dJ6_bitCount_0f7a4_32 : decode cJ6_bitCount_0f7a4 32 = .ok (.iand, 1) := by decide +kernel
theorem dJ6_bitCount_0f7a4_33 : decode cJ6_bitCount_0f7a4 33 = .ok (.istore_n 0, 1) := by decide +kernel
theorem dJ6_bitCount_0f7a4_34 : decode cJ6_bitCount_0f7a4 34 = .ok (.iload_n 0, 1) := by decide +kernel
theorem dJ6_bitCount_0f7a4_35 : decode cJ6_bitCount_0f7a4 35 = .ok (.iload_n 0, 1) := by decide +kernel
theorem dJ6_bitCount_0f7a4_36 : decode cJ6_bitCount_0f7a4 36 = .ok (.bipush 8, 2) := by decide +kernel
theorem dJ6_bitCount_0f7a4_38 : decode cJ6_bitCount_0f7a4 38 = .ok (.iushr, 1) := by decide +kernel
theorem dJ6_bitCount_0f7a4_39 : decode cJ6_bitCount_0f7a4 39 = .ok (.iadd, 1) := by decide +kernel
theorem dJ6_bitCount_0f7a4_40 : decode cJ6_bitCount_0f7a4 40 = .ok (.istore_n 0, 1) := by decide +kernel
theorem dJ6_bitCount_0f7a4_41 : decode cJ6_bitCount_0f7a4 41 = .ok (.iload_n 0, 1) := by decide +kernel
theorem dJ6_bitCount_0f7a4_42 : decode cJ6_bitCount_0f7a4 42 = .ok (.iload_n 0, 1) := by decide +kernel
theorem dJ6_bitCount_0f7a4_43 : decode cJ6_bitCount_0f7a4 43 = .ok (.bipush 16, 2) := by decide +kernel
theorem dJ6_bitCount_0f7a4_45 : decode cJ6_bitCount_0f7a4 45 = .ok (.iushr, 1) := by decide +kernel
theorem dJ6_bitCount_0f7a4_46 : decode cJ6_bitCount_0f7a4 46 = .ok (.iadd, 1) := by decide +kernel
theorem dJ6_bitCount_0f7a4_47 : decode cJ6_bitCount_0f7a4 47 = .ok (.istore_n 0, 1) := by decide +kernel
theorem dJ6_bitCount_0f7a4_48 : decode cJ6_bitCount_0f7a4 48 = .ok (.iload_n 0, 1) := by decide +kernel
theorem dJ6_bitCount_0f7a4_49 : decode cJ6_bitCount_0f7a4 49 = .ok (.bipush 63, 2) := by decide +kernel
theorem dJ6_bitCount_0f7a4_51 : decode cJ6_bitCount_0f7a4 51 = .ok (.iand, 1) := by decide +kernel
theorem dJ6_bitCount_0f7a4_52 : decode cJ6_bitCount_0f7a4 52 = .ok (.ireturn, 1) := by decide +kernel
theorem mt_J6_bitCount_0f7a4 : pm_Mt yJ6_bitCount_0f7a4 cJ6_bitCount_0f7a4 1 (some .int) 1 := ⟨pm_T_in 464 (by decide +kernel) (by decide +kernel), pm_T_in 54 (by decide +kernel) (by decide +kernel), ⟨by decide +kernel, by decide +kernel, by decide +kernel⟩, by decide +kernel, by decide⟩
theorem ss_X5_21 : pm_SS RX5 21 yJ6_bitCount_0f7a4 := ⟨pm_T_in 462 (by decide +kernel) (by decide +kernel), pm_T_in 463 (by decide +kernel) (by decide +kernel)⟩
theorem ss_L_270 : pm_SS RL 270 yJ6_bitCount_0f7a4 := ⟨pm_T_in 998 (by decide +kernel) (by decide +kernel), pm_T_in 463 (by decide +kernel) (by decide +kernel)⟩
/-- Integer.bitCount, as its code computes it -/
def pm_bc (x : Int32) : Int32 :=
  let a := x - (pm_ush x 1 &&& 1431655765)
  let b := (a &&& 858993459) + (pm_ush a 2 &&& 858993459)
  let c := (b + pm_ush b 4) &&& 252645135
  let d := c + pm_ush c 8
  (d + pm_ush d 16) &&& 63
theorem pm_bc_of : ∀ n, n < 128 → pm_bc (nI n) = nI ((List.range 7).countP (fun i => n.testBit i)) := by decide +kernel
set_option maxRecDepth 100000 in
set_option maxHeartbeats 4000000 in
theorem c_J6_bitCount_0f7a4 {l : Launch} {z : Nat} {D : va_G} {kA : Nat → ClassId} {kE : Nat → Nat} {nx : Nat} {M : pm_M} {x : Int32} : pm_C l z D kA kE yJ6_bitCount_0f7a4 cJ6_bitCount_0f7a4 1 (some .int) 0 0 0 [.int x] nx M (pm_rt (some (.int (pm_bc x))) nx M) := by
  refine pm_mk (own := RJ6) (nm := "bitCount") mt_J6_bitCount_0f7a4 rfl rfl rfl rfl fun X B => ?_
  refine pm_loc (L' := [some (.int x)]) rfl ?_
  refine pm_iload_n B dJ6_bitCount_0f7a4_0 rfl ?_
  refine pm_iload_n B dJ6_bitCount_0f7a4_1 rfl ?_
  refine pm_iconst (v := 1) B dJ6_bitCount_0f7a4_2 (by decide) ?_
  refine pm_iushr B dJ6_bitCount_0f7a4_3 ?_
  refine pm_ldcw (v := 1431655765) B dJ6_bitCount_0f7a4_4 (pm_T_in 465 (by decide +kernel) (by decide +kernel)) ?_
  refine pm_iand B dJ6_bitCount_0f7a4_7 ?_
  refine pm_isub B dJ6_bitCount_0f7a4_8 ?_
  refine pm_istore_n B dJ6_bitCount_0f7a4_9 rfl rfl ?_
  refine pm_loc (L' := [some (.int (x - ((pm_ush x 1) &&& 1431655765)))]) rfl ?_
  refine pm_iload_n B dJ6_bitCount_0f7a4_10 rfl ?_
  refine pm_ldcw (v := 858993459) B dJ6_bitCount_0f7a4_11 (pm_T_in 466 (by decide +kernel) (by decide +kernel)) ?_
  refine pm_iand B dJ6_bitCount_0f7a4_14 ?_
  refine pm_iload_n B dJ6_bitCount_0f7a4_15 rfl ?_
  refine pm_iconst (v := 2) B dJ6_bitCount_0f7a4_16 (by decide) ?_
  refine pm_iushr B dJ6_bitCount_0f7a4_17 ?_
  refine pm_ldcw (v := 858993459) B dJ6_bitCount_0f7a4_18 (pm_T_in 466 (by decide +kernel) (by decide +kernel)) ?_
  refine pm_iand B dJ6_bitCount_0f7a4_21 ?_
  refine pm_iadd B dJ6_bitCount_0f7a4_22 ?_
  refine pm_istore_n B dJ6_bitCount_0f7a4_23 rfl rfl ?_
  refine pm_loc (L' := [some (.int (((x - ((pm_ush x 1) &&& 1431655765)) &&& 858993459) + ((pm_ush (x - ((pm_ush x 1) &&& 1431655765)) 2) &&& 858993459)))]) rfl ?_
  refine pm_iload_n B dJ6_bitCount_0f7a4_24 rfl ?_
  refine pm_iload_n B dJ6_bitCount_0f7a4_25 rfl ?_
  refine pm_iconst (v := 4) B dJ6_bitCount_0f7a4_26 (by decide) ?_
  refine pm_iushr B dJ6_bitCount_0f7a4_27 ?_
  refine pm_iadd B dJ6_bitCount_0f7a4_28 ?_
  refine pm_ldcw (v := 252645135) B dJ6_bitCount_0f7a4_29 (pm_T_in 467 (by decide +kernel) (by decide +kernel)) ?_
  refine pm_iand B dJ6_bitCount_0f7a4_32 ?_
  refine pm_istore_n B dJ6_bitCount_0f7a4_33 rfl rfl ?_
  refine pm_loc (L' := [some (.int (((((x - ((pm_ush x 1) &&& 1431655765)) &&& 858993459) + ((pm_ush (x - ((pm_ush x 1) &&& 1431655765)) 2) &&& 858993459)) + (pm_ush (((x - ((pm_ush x 1) &&& 1431655765)) &&& 858993459) + ((pm_ush (x - ((pm_ush x 1) &&& 1431655765)) 2) &&& 858993459)) 4)) &&& 252645135))]) rfl ?_
  refine pm_iload_n B dJ6_bitCount_0f7a4_34 rfl ?_
  refine pm_iload_n B dJ6_bitCount_0f7a4_35 rfl ?_
  refine pm_bipush (v := 8) B dJ6_bitCount_0f7a4_36 (by decide) ?_
  refine pm_iushr B dJ6_bitCount_0f7a4_38 ?_
  refine pm_iadd B dJ6_bitCount_0f7a4_39 ?_
  refine pm_istore_n B dJ6_bitCount_0f7a4_40 rfl rfl ?_
  refine pm_loc (L' := [some (.int ((((((x - ((pm_ush x 1) &&& 1431655765)) &&& 858993459) + ((pm_ush (x - ((pm_ush x 1) &&& 1431655765)) 2) &&& 858993459)) + (pm_ush (((x - ((pm_ush x 1) &&& 1431655765)) &&& 858993459) + ((pm_ush (x - ((pm_ush x 1) &&& 1431655765)) 2) &&& 858993459)) 4)) &&& 252645135) + (pm_ush (((((x - ((pm_ush x 1) &&& 1431655765)) &&& 858993459) + ((pm_ush (x - ((pm_ush x 1) &&& 1431655765)) 2) &&& 858993459)) + (pm_ush (((x - ((pm_ush x 1) &&& 1431655765)) &&& 858993459) + ((pm_ush (x - ((pm_ush x 1) &&& 1431655765)) 2) &&& 858993459)) 4)) &&& 252645135) 8)))]) rfl ?_
  refine pm_iload_n B dJ6_bitCount_0f7a4_41 rfl ?_
  refine pm_iload_n B dJ6_bitCount_0f7a4_42 rfl ?_
  refine pm_bipush (v := 16) B dJ6_bitCount_0f7a4_43 (by decide) ?_
  refine pm_iushr B dJ6_bitCount_0f7a4_45 ?_
  refine pm_iadd B dJ6_bitCount_0f7a4_46 ?_
  refine pm_istore_n B dJ6_bitCount_0f7a4_47 rfl rfl ?_
  refine pm_loc (L' := [some (.int (((((((x - ((pm_ush x 1) &&& 1431655765)) &&& 858993459) + ((pm_ush (x - ((pm_ush x 1) &&& 1431655765)) 2) &&& 858993459)) + (pm_ush (((x - ((pm_ush x 1) &&& 1431655765)) &&& 858993459) + ((pm_ush (x - ((pm_ush x 1) &&& 1431655765)) 2) &&& 858993459)) 4)) &&& 252645135) + (pm_ush (((((x - ((pm_ush x 1) &&& 1431655765)) &&& 858993459) + ((pm_ush (x - ((pm_ush x 1) &&& 1431655765)) 2) &&& 858993459)) + (pm_ush (((x - ((pm_ush x 1) &&& 1431655765)) &&& 858993459) + ((pm_ush (x - ((pm_ush x 1) &&& 1431655765)) 2) &&& 858993459)) 4)) &&& 252645135) 8)) + (pm_ush ((((((x - ((pm_ush x 1) &&& 1431655765)) &&& 858993459) + ((pm_ush (x - ((pm_ush x 1) &&& 1431655765)) 2) &&& 858993459)) + (pm_ush (((x - ((pm_ush x 1) &&& 1431655765)) &&& 858993459) + ((pm_ush (x - ((pm_ush x 1) &&& 1431655765)) 2) &&& 858993459)) 4)) &&& 252645135) + (pm_ush (((((x - ((pm_ush x 1) &&& 1431655765)) &&& 858993459) + ((pm_ush (x - ((pm_ush x 1) &&& 1431655765)) 2) &&& 858993459)) + (pm_ush (((x - ((pm_ush x 1) &&& 1431655765)) &&& 858993459) + ((pm_ush (x - ((pm_ush x 1) &&& 1431655765)) 2) &&& 858993459)) 4)) &&& 252645135) 8)) 16)))]) rfl ?_
  refine pm_iload_n B dJ6_bitCount_0f7a4_48 rfl ?_
  refine pm_bipush (v := 63) B dJ6_bitCount_0f7a4_49 (by decide) ?_
  refine pm_iand B dJ6_bitCount_0f7a4_51 ?_
  exact pm_ireturn B dJ6_bitCount_0f7a4_52 rfl (by first | rfl | (apply pm_nz; first | assumption | decide | exact pm_in01 _ _ _ | simp)) ⟨rfl, rfl, rfl⟩ rfl rfl
