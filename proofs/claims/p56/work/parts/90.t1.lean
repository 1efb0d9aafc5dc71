/-! texts -/
abbrev RJ7 : String := "java/util/Arrays"
abbrev RJ8 : String := "jdk/internal/util/ArraysSupport"
section PTX
variable {l : Launch} {z : Nat} {D : va_G} {kA : Nat → ClassId} {kE : Nat → Nat} {own : String} {cc : ByteArray} {nL : Nat} {ret : Option FieldType} {nm : String} {tb : List ExceptionTableEntry} {d mc ms : Nat} {X : pm_X} {cu su : Nat} {Q : State → Prop} {nx : Nat} {M : pm_M} {pc : Nat} {L : List (Option Value)} {st : List Value}
variable {index : Nat}
theorem pm_castA (B : pm_B l z D kA kE own cc nL ret nm tb d mc ms X) {a n : Nat} {f : Nat → Int32} (hd : decode cc pc = .ok (.checkcast index, 3)) (hw : Cond.classLink own index "[B" ∈ pm_T) (hM : M a = some (.inl (kA 4, n, .inl f)))
    (k : pm_G l z D X cu su Q nx M (pc + 3) L (.ref (z + a) :: st)) : pm_G l z D X cu su Q nx M pc L (.ref (z + a) :: st) := by
  obtain ⟨hx, hb, hml, hown, hts, hr, hlk, hK, hnm, htb, ⟨hrf, hrl, hrc, hrs⟩, hz, hcs⟩ := B
  obtain ⟨p, e, R, s, m, args, below, meth, c⟩ := X
  intro H locs ls hR hS hl
  exact va_castA (ws := [(z + a, .inl (kA 4, n, .inl f))]) hx hb hown (hts _ hw) (pm_single (hR.2 a _ hM).2) 0 rfl (hK.2 4 _ rfl).2 hd (k H locs ls hR hS hl)
end PTX
theorem pm_leN : ∀ N, N < 41 → ∀ x, x < N + 1 → nI x - nI N ≤ 0 := by decide +kernel
theorem pm_gtN : ∀ x, x < 35 → 16 < x → ¬ (nI x - nI 16 ≤ 0) ∧ pm_max (nI x - nI 16) 18 = 18 := by decide +kernel
theorem pm_shl0 : ∀ x, x < 64 → (nI x) <<< ((0 : Int32) &&& 31) = nI x := by decide +kernel
def pm_SO (own : String) (index : Nat) (C : String) (x y : MethodName) : Prop := Cond.methodLink own index x ∈ pm_T ∧ Cond.sameMethod x.cls x.cls x.name x.desc ∈ pm_T ∧ Cond.selects C x y ∈ pm_T ∧ Cond.instanceMethod y ∈ pm_T ∧ Cond.instanceMethod x ∈ pm_T ∧ (x.cls ≠ "java/lang/invoke/MethodHandle" ∧ x.cls ≠ "java/lang/invoke/VarHandle") ∧ ∃ b m r, Cond.code x b m r ∈ pm_T ∧ x.desc = y.desc ∧ True
section PUO
variable {l : Launch} {z : Nat} {D : va_G} {kA : Nat → ClassId} {kE : Nat → Nat} {own : String} {cc : ByteArray} {nL : Nat} {ret : Option FieldType} {nm : String} {tb : List ExceptionTableEntry} {d mc ms : Nat} {X : pm_X} {cu su : Nat} {Q : State → Prop} {nx : Nat} {M : pm_M} {pc : Nat} {L : List (Option Value)} {st : List Value}
variable {x y : MethodName} {cc2 : ByteArray} {nL2 n2 d2 mc2 ms2 : Nat} {ret2 : Option FieldType} {As : List Value} {index : Nat} {C owner : String}
theorem pm_cUO (B : pm_B l z D kA kE own cc nL ret nm tb d mc ms X) {ov : Option Value} {n1 : Nat} {M1 : pm_M} {a ci : Nat} {fs : List Value} (h13 : Nat.ble (ci + 1) 13 = true) (hM : M a = some (.inr (ci, fs))) (hci : (pm_ci ci).1 = C) (hC : pm_C l z D kA kE y cc2 nL2 ret2 d2 mc2 ms2 (.ref (z + a) :: As) nx M (pm_rt ov n1 M1)) (hm : pm_Mt y cc2 nL2 ret2 n2) (hs : pm_SO own index C x y) (hd : decode cc pc = .ok (.invokevirtual index, 3)) (hn : As.length = n2) (hd2 : Nat.ble (d2 + 1) d = true) (hst : Nat.ble ((st.map fun v => v.category).sum) 8 = true) (hcu : Nat.ble (cu + mc2) mc = true) (hsu : Nat.ble (su + ms2) ms = true)
    (k : pm_G l z D X (cu + mc2) (su + ms2) Q n1 M1 (pc + 3) L (ov.toList ++ st)) : pm_G l z D X cu su Q nx M pc L (As.reverse ++ .ref (z + a) :: st) := by
  obtain ⟨hx, hb, hml, hown, hts, hr, hlk, hK, hnm, htb, ⟨hrf, hrl, hrc, hrs⟩, hz, hcs⟩ := id B
  obtain ⟨p, e, R, s, m, args, below, meth, c⟩ := X
  intro H locs ls hR hS hl
  have h1 := Nat.le_of_ble_eq_true hd2
  have h2 := Nat.le_of_ble_eq_true hcu
  have h3 := Nat.le_of_ble_eq_true hsu
  have h27 := hm.2.2.2.2
  have hroom : (pm_rm d2 mc2 ms2).frames + 1 ≤ R.frames ∧ 8 + (nL2 + 11) + (pm_rm d2 mc2 ms2).locals ≤ R.locals := by
    simp only [pm_rm] at hrf hrl ⊢
    omega
  have hMet := pm_noX hC (fun E st t h => by obtain ⟨n', M', h1, -⟩ := h; exact pm_rt_no E n' M' h1)
  obtain ⟨s1, s2, s3, s4, s5, s6, b0, m0, r0, s7, s8, s9⟩ := hs
  have cw : va_CU R s args own C x.cls index x y cc2 nL2 ret2 (Cond.code y cc2 nL2 ret2 :: pm_T) (pm_rm d2 mc2 ms2) mc2 ms2 n2 := ⟨⟨rfl, rfl, hroom.1, hroom.2, pay_in hts (pm_good hm), List.mem_cons_self⟩, hts _ hm.1, hts _ hm.2.1, s6, fun sig h => (by have h8 := hm.2.2.1.2.2; rw [← s8] at h8; rw [h] at h8; exact (Option.some.inj h8).symm), hts _ s1, hts _ s2, va_Decl.of (hts _ s5) (hts _ s7), hts _ s3, hts _ s4⟩
  have hrec := va_recv (q0 := 0) (ws := [(z + a, .inr (ci, fs))]) hK (pm_single (hR.2 a _ hM).2) (pm_ci_get (Nat.le_of_ble_eq_true h13)) rfl
  rw [show ((pm_ci ci).1, (pm_ci ci).2.1, (pm_ci ci).2.2).1 = C from hci] at hrec
  exact pm_afterA (va_runU ⟨hx, hb, hml, hown, hts⟩ hMet cw ⟨pm_Pc_blind, hrec, fun U hU hW => pm_Pc_at hR hS hK hcs hU hW⟩ rfl hn (by simp only at hml ⊢; rw [← hml]; exact hl.1) rfl (pm_sum_room rfl hst) hd ⟨by simp only at hrc ⊢; omega, by simp only at hrs ⊢; omega⟩) hS hl (fun v n' M' h => by obtain ⟨h1, rfl, rfl⟩ := h; cases h1; exact k)
end PUO
set_option maxRecDepth 100000 in
set_option maxHeartbeats 4000000 in
theorem c_J5_ensureCapacityInternal_d00df_N {l : Launch} {z : Nat} {D : va_G} {kA : Nat → ClassId} {kE : Nat → Nat} {nx : Nat} {M : pm_M} {a b c : Nat} {ml : Int32} {N : Nat} {f : Nat → Int32} (hM : M a = some (.inr (12, [.ref (z + b), .int 0, .int ml, .int (nI c)]))) (hB : M b = some (.inl (kA 4, N, .inl f))) {x : Nat} (hx : x ≤ N) (hN : N ≤ 40) : pm_C l z D kA kE yJ5_ensureCapacityInternal_d00df cJ5_ensureCapacityInternal_d00df 3 none 0 0 0 [.ref (z + a), .int (nI x)] nx M (pm_rt none nx M) := by
  refine pm_mk (own := RJ5) (nm := "ensureCapacityInternal") mt_J5_ensureCapacityInternal_d00df rfl rfl rfl rfl fun X B => ?_
  refine pm_loc (L' := [some (.ref (z + a)), some (.int (nI x)), none]) rfl ?_
  refine pm_aload_n B dJ5_ensureCapacityInternal_d00df_0 rfl ?_
  refine pm_get B dJ5_ensureCapacityInternal_d00df_1 fl_J5_15 hM rfl ?_
  refine pm_alen B dJ5_ensureCapacityInternal_d00df_4 hB rfl rfl ?_
  refine pm_stk (st' := [.int (nI N)]) rfl ?_
  refine pm_aload_n B dJ5_ensureCapacityInternal_d00df_5 rfl ?_
  refine pm_get B dJ5_ensureCapacityInternal_d00df_6 fl_J5_22 hM rfl ?_
  refine pm_ishr B dJ5_ensureCapacityInternal_d00df_9 ?_
  refine pm_stk (st' := [.int (nI N)]) (by rw [show ((nI N) >>> (0 &&& 31)) = (nI N) from pm_shr0 _ (by first | omega | decide)]) ?_
  refine pm_istore_n B dJ5_ensureCapacityInternal_d00df_10 rfl rfl ?_
  refine pm_loc (L' := [some (.ref (z + a)), some (.int (nI x)), some (.int (nI N))]) rfl ?_
  refine pm_iload_n B dJ5_ensureCapacityInternal_d00df_11 rfl ?_
  refine pm_iload_n B dJ5_ensureCapacityInternal_d00df_12 rfl ?_
  refine pm_isub B dJ5_ensureCapacityInternal_d00df_13 ?_
  refine pm_if_le (tgt := 38) B dJ5_ensureCapacityInternal_d00df_14 (by decide) (fun hq1 => ?_) (fun hq1 => absurd (pm_leN N (by omega) x (by omega)) hq1)
  exact pm_return B dJ5_ensureCapacityInternal_d00df_38 rfl ⟨rfl, rfl, rfl⟩ rfl rfl
set_option maxRecDepth 100000 in
set_option maxHeartbeats 4000000 in
theorem c_J6_getChars_ba4f3_1_N {l : Launch} {z : Nat} {D : va_G} {kA : Nat → ClassId} {kE : Nat → Nat} {nx : Nat} {M : pm_M} {b c : Nat} {N : Nat} {f : Nat → Int32} (hB : M b = some (.inl (kA 4, N, .inl f))) {q : Nat} (hq : q < 1000) (hw : q < 10) (hc : c + 1 ≤ N) (hN : N ≤ 40) : pm_C l z D kA kE yJ6_getChars_ba4f3 cJ6_getChars_ba4f3 7 (some .int) 0 0 0 [.int (nI q), .int (nI (c + 1)), .ref (z + b)] nx M (pm_rt (some (.int (nI c))) nx (pm_up M b (.inl (kA 4, N, .inl (pm_d1 f c q))))) := by
  refine pm_mk (own := RJ6) (nm := "getChars") mt_J6_getChars_ba4f3 rfl rfl rfl rfl fun X B => ?_
  refine pm_loc (L' := [some (.int (nI q)), some (.int (nI (c + 1))), some (.ref (z + b)), none, none, none, none]) rfl ?_
  refine pm_iload_n B dJ6_getChars_ba4f3_0 rfl ?_
  refine pm_istore B dJ6_getChars_ba4f3_1 rfl rfl ?_
  refine pm_loc (L' := [some (.int (nI q)), some (.int (nI (c + 1))), some (.ref (z + b)), none, none, some (.int (nI (c + 1))), none]) rfl ?_
  refine pm_iload_n B dJ6_getChars_ba4f3_3 rfl ?_
  refine pm_if_ge (tgt := 11) B dJ6_getChars_ba4f3_4 (by decide) (fun hq1 => ?_) (fun hq1 => absurd (pm_ge0 (by omega)) hq1)
  refine pm_iconst (v := 0) B dJ6_getChars_ba4f3_11 (by decide) ?_
  refine pm_istore B dJ6_getChars_ba4f3_12 rfl rfl ?_
  refine pm_loc (L' := [some (.int (nI q)), some (.int (nI (c + 1))), some (.ref (z + b)), none, none, some (.int (nI (c + 1))), some (.int 0)]) rfl ?_
  refine pm_iload B dJ6_getChars_ba4f3_14 rfl ?_
  refine pm_if_ne (tgt := 22) B dJ6_getChars_ba4f3_16 (by decide) (fun hq2 => absurd (rfl) hq2) (fun hq2 => ?_)
  refine pm_iload_n B dJ6_getChars_ba4f3_19 rfl ?_
  refine pm_ineg B dJ6_getChars_ba4f3_20 ?_
  refine pm_istore_n B dJ6_getChars_ba4f3_21 rfl rfl ?_
  refine pm_loc (L' := [some (.int (-(nI q))), some (.int (nI (c + 1))), some (.ref (z + b)), none, none, some (.int (nI (c + 1))), some (.int 0)]) rfl ?_
  refine pm_iload_n B dJ6_getChars_ba4f3_22 rfl ?_
  refine pm_bipush (v := (-100)) B dJ6_getChars_ba4f3_23 (by decide) ?_
  refine pm_icmp_gt (tgt := 72) B dJ6_getChars_ba4f3_25 (by decide) (fun hq3 => ?_) (fun hq3 => absurd ((pm_n10 q hq).2.2.2.2.1.mpr (by omega)) hq3)
  refine pm_aload_n B dJ6_getChars_ba4f3_72 rfl ?_
  refine pm_iinc B dJ6_getChars_ba4f3_73 rfl rfl rfl ?_
  refine pm_loc (L' := [some (.int (-(nI q))), some (.int (nI (c + 1))), some (.ref (z + b)), none, none, some (.int (nI c)), some (.int 0)]) (by rw [show ((nI (c + 1)) : Int32) + Int32.ofInt (-1) = nI c from pm_dec _]; rfl) ?_
  refine pm_iload B dJ6_getChars_ba4f3_76 rfl ?_
  refine pm_gets B (v := .ref (kE 63)) (fun U H h => h.2.2.2.2.2.2.1.1) (pm_T_in 1230 (by decide +kernel) (by decide +kernel)) dJ6_getChars_ba4f3_78 ?_
  refine pm_iload_n B dJ6_getChars_ba4f3_81 rfl ?_
  refine pm_ineg B dJ6_getChars_ba4f3_82 ?_
  refine pm_stk (st' := [.int (nI q), .ref (kE 63), .int (nI c), .ref (z + b)]) (by rw [show (-(-(nI q))) = (nI q) from Int32.neg_neg]) ?_
  refine pm_tbL B (v := .int (nI (48 + q % 10))) (fun U H h => h.2.2.2.2.2.2.1.2) q (by omega) (by decide) rfl dJ6_getChars_ba4f3_83 ?_
  refine pm_bast_n B (v := (nI (48 + q % 10))) (pm_nb _ (by omega)) dJ6_getChars_ba4f3_84 hB c (by first | assumption | omega) (by omega) ?_
  refine pm_mem (M' := pm_up M b (.inl (kA 4, N, .inl (upd f c (nI (48 + q % 10)))))) rfl ?_
  refine pm_iload_n B dJ6_getChars_ba4f3_85 rfl ?_
  refine pm_bipush (v := (-9)) B dJ6_getChars_ba4f3_86 (by decide) ?_
  refine pm_icmp_ge (tgt := 104) B dJ6_getChars_ba4f3_88 (by decide) (fun hq4 => ?_) (fun hq4 => absurd ((pm_n10 q hq).2.2.2.1.mpr (by omega)) hq4)
  refine pm_iload B dJ6_getChars_ba4f3_104 rfl ?_
  refine pm_if_eq (tgt := 118) B dJ6_getChars_ba4f3_106 (by decide) (fun hq5 => ?_) (fun hq5 => absurd (rfl) hq5)
  refine pm_iload B dJ6_getChars_ba4f3_118 rfl ?_
  exact pm_ireturn B dJ6_getChars_ba4f3_120 rfl (by first | rfl | (apply pm_nz; first | assumption | decide | exact pm_in01 _ _ _ | simp)) ⟨rfl, rfl, rfl⟩ rfl rfl
set_option maxRecDepth 100000 in
set_option maxHeartbeats 4000000 in
theorem c_J6_getChars_ba4f3_2_N {l : Launch} {z : Nat} {D : va_G} {kA : Nat → ClassId} {kE : Nat → Nat} {nx : Nat} {M : pm_M} {b c : Nat} {N : Nat} {f : Nat → Int32} (hB : M b = some (.inl (kA 4, N, .inl f))) {q : Nat} (hq : q < 1000) (hw : 10 ≤ q) (hw2 : q < 100) (hc : c + 2 ≤ N) (hN : N ≤ 40) : pm_C l z D kA kE yJ6_getChars_ba4f3 cJ6_getChars_ba4f3 7 (some .int) 0 0 0 [.int (nI q), .int (nI (c + 2)), .ref (z + b)] nx M (pm_rt (some (.int (nI c))) nx (pm_up M b (.inl (kA 4, N, .inl (pm_d2 f c q))))) := by
  refine pm_mk (own := RJ6) (nm := "getChars") mt_J6_getChars_ba4f3 rfl rfl rfl rfl fun X B => ?_
  refine pm_loc (L' := [some (.int (nI q)), some (.int (nI (c + 2))), some (.ref (z + b)), none, none, none, none]) rfl ?_
  refine pm_iload_n B dJ6_getChars_ba4f3_0 rfl ?_
  refine pm_istore B dJ6_getChars_ba4f3_1 rfl rfl ?_
  refine pm_loc (L' := [some (.int (nI q)), some (.int (nI (c + 2))), some (.ref (z + b)), none, none, some (.int (nI (c + 2))), none]) rfl ?_
  refine pm_iload_n B dJ6_getChars_ba4f3_3 rfl ?_
  refine pm_if_ge (tgt := 11) B dJ6_getChars_ba4f3_4 (by decide) (fun hq1 => ?_) (fun hq1 => absurd (pm_ge0 (by omega)) hq1)
  refine pm_iconst (v := 0) B dJ6_getChars_ba4f3_11 (by decide) ?_
  refine pm_istore B dJ6_getChars_ba4f3_12 rfl rfl ?_
  refine pm_loc (L' := [some (.int (nI q)), some (.int (nI (c + 2))), some (.ref (z + b)), none, none, some (.int (nI (c + 2))), some (.int 0)]) rfl ?_
  refine pm_iload B dJ6_getChars_ba4f3_14 rfl ?_
  refine pm_if_ne (tgt := 22) B dJ6_getChars_ba4f3_16 (by decide) (fun hq2 => absurd (rfl) hq2) (fun hq2 => ?_)
  refine pm_iload_n B dJ6_getChars_ba4f3_19 rfl ?_
  refine pm_ineg B dJ6_getChars_ba4f3_20 ?_
  refine pm_istore_n B dJ6_getChars_ba4f3_21 rfl rfl ?_
  refine pm_loc (L' := [some (.int (-(nI q))), some (.int (nI (c + 2))), some (.ref (z + b)), none, none, some (.int (nI (c + 2))), some (.int 0)]) rfl ?_
  refine pm_iload_n B dJ6_getChars_ba4f3_22 rfl ?_
  refine pm_bipush (v := (-100)) B dJ6_getChars_ba4f3_23 (by decide) ?_
  refine pm_icmp_gt (tgt := 72) B dJ6_getChars_ba4f3_25 (by decide) (fun hq3 => ?_) (fun hq3 => absurd ((pm_n10 q hq).2.2.2.2.1.mpr (by omega)) hq3)
  refine pm_aload_n B dJ6_getChars_ba4f3_72 rfl ?_
  refine pm_iinc B dJ6_getChars_ba4f3_73 rfl rfl rfl ?_
  refine pm_loc (L' := [some (.int (-(nI q))), some (.int (nI (c + 2))), some (.ref (z + b)), none, none, some (.int (nI (c + 1))), some (.int 0)]) (by rw [show ((nI (c + 2)) : Int32) + Int32.ofInt (-1) = nI (c + 1) from pm_dec _]; rfl) ?_
  refine pm_iload B dJ6_getChars_ba4f3_76 rfl ?_
  refine pm_gets B (v := .ref (kE 63)) (fun U H h => h.2.2.2.2.2.2.1.1) (pm_T_in 1230 (by decide +kernel) (by decide +kernel)) dJ6_getChars_ba4f3_78 ?_
  refine pm_iload_n B dJ6_getChars_ba4f3_81 rfl ?_
  refine pm_ineg B dJ6_getChars_ba4f3_82 ?_
  refine pm_stk (st' := [.int (nI q), .ref (kE 63), .int (nI (c + 1)), .ref (z + b)]) (by rw [show (-(-(nI q))) = (nI q) from Int32.neg_neg]) ?_
  refine pm_tbL B (v := .int (nI (48 + q % 10))) (fun U H h => h.2.2.2.2.2.2.1.2) q (by omega) (by decide) rfl dJ6_getChars_ba4f3_83 ?_
  refine pm_bast_n B (v := (nI (48 + q % 10))) (pm_nb _ (by omega)) dJ6_getChars_ba4f3_84 hB (c + 1) (by first | assumption | omega) (by omega) ?_
  refine pm_mem (M' := pm_up M b (.inl (kA 4, N, .inl (upd f (c + 1) (nI (48 + q % 10)))))) rfl ?_
  refine pm_iload_n B dJ6_getChars_ba4f3_85 rfl ?_
  refine pm_bipush (v := (-9)) B dJ6_getChars_ba4f3_86 (by decide) ?_
  refine pm_icmp_ge (tgt := 104) B dJ6_getChars_ba4f3_88 (by decide) (fun hq4 => absurd hq4 (fun h => absurd ((pm_n10 q hq).2.2.2.1.mp h) (by omega))) (fun hq4 => ?_)
  refine pm_aload_n B dJ6_getChars_ba4f3_91 rfl ?_
  refine pm_iinc B dJ6_getChars_ba4f3_92 rfl rfl rfl ?_
  refine pm_loc (L' := [some (.int (-(nI q))), some (.int (nI (c + 2))), some (.ref (z + b)), none, none, some (.int (nI c)), some (.int 0)]) (by rw [show ((nI (c + 1)) : Int32) + Int32.ofInt (-1) = nI c from pm_dec _]; rfl) ?_
  refine pm_iload B dJ6_getChars_ba4f3_95 rfl ?_
  refine pm_gets B (v := .ref (kE 62)) (fun U H h => h.2.2.2.2.2.1.1) (pm_T_in 1232 (by decide +kernel) (by decide +kernel)) dJ6_getChars_ba4f3_97 ?_
  refine pm_iload_n B dJ6_getChars_ba4f3_100 rfl ?_
  refine pm_ineg B dJ6_getChars_ba4f3_101 ?_
  refine pm_stk (st' := [.int (nI q), .ref (kE 62), .int (nI c), .ref (z + b)]) (by rw [show (-(-(nI q))) = (nI q) from Int32.neg_neg]) ?_
  refine pm_tbL B (v := .int (nI (48 + q / 10))) (fun U H h => h.2.2.2.2.2.1.2) q (by omega) (by decide) rfl dJ6_getChars_ba4f3_102 ?_
  refine pm_bast_n B (v := (nI (48 + q / 10))) (pm_nb _ (by omega)) dJ6_getChars_ba4f3_103 pm_up_s c (by first | assumption | omega) (by omega) ?_
  refine pm_mem (M' := pm_up M b (.inl (kA 4, N, .inl (upd (upd f (c + 1) (nI (48 + q % 10))) c (nI (48 + q / 10)))))) pm_up_up ?_
  refine pm_iload B dJ6_getChars_ba4f3_104 rfl ?_
  refine pm_if_eq (tgt := 118) B dJ6_getChars_ba4f3_106 (by decide) (fun hq5 => ?_) (fun hq5 => absurd (rfl) hq5)
  refine pm_iload B dJ6_getChars_ba4f3_118 rfl ?_
  exact pm_ireturn B dJ6_getChars_ba4f3_120 rfl (by first | rfl | (apply pm_nz; first | assumption | decide | exact pm_in01 _ _ _ | simp)) ⟨rfl, rfl, rfl⟩ rfl rfl
set_option maxRecDepth 100000 in
set_option maxHeartbeats 4000000 in
theorem c_J6_getChars_ba4f3_3_N {l : Launch} {z : Nat} {D : va_G} {kA : Nat → ClassId} {kE : Nat → Nat} {nx : Nat} {M : pm_M} {b c : Nat} {N : Nat} {f : Nat → Int32} (hB : M b = some (.inl (kA 4, N, .inl f))) {q : Nat} (hq : q < 1000) (hw : 100 ≤ q) (hc : c + 3 ≤ N) (hN : N ≤ 40) : pm_C l z D kA kE yJ6_getChars_ba4f3 cJ6_getChars_ba4f3 7 (some .int) 0 0 0 [.int (nI q), .int (nI (c + 3)), .ref (z + b)] nx M (pm_rt (some (.int (nI c))) nx (pm_up M b (.inl (kA 4, N, .inl (pm_d3 f c q))))) := by
  refine pm_mk (own := RJ6) (nm := "getChars") mt_J6_getChars_ba4f3 rfl rfl rfl rfl fun X B => ?_
  refine pm_loc (L' := [some (.int (nI q)), some (.int (nI (c + 3))), some (.ref (z + b)), none, none, none, none]) rfl ?_
  refine pm_iload_n B dJ6_getChars_ba4f3_0 rfl ?_
  refine pm_istore B dJ6_getChars_ba4f3_1 rfl rfl ?_
  refine pm_loc (L' := [some (.int (nI q)), some (.int (nI (c + 3))), some (.ref (z + b)), none, none, some (.int (nI (c + 3))), none]) rfl ?_
  refine pm_iload_n B dJ6_getChars_ba4f3_3 rfl ?_
  refine pm_if_ge (tgt := 11) B dJ6_getChars_ba4f3_4 (by decide) (fun hq1 => ?_) (fun hq1 => absurd (pm_ge0 (by omega)) hq1)
  refine pm_iconst (v := 0) B dJ6_getChars_ba4f3_11 (by decide) ?_
  refine pm_istore B dJ6_getChars_ba4f3_12 rfl rfl ?_
  refine pm_loc (L' := [some (.int (nI q)), some (.int (nI (c + 3))), some (.ref (z + b)), none, none, some (.int (nI (c + 3))), some (.int 0)]) rfl ?_
  refine pm_iload B dJ6_getChars_ba4f3_14 rfl ?_
  refine pm_if_ne (tgt := 22) B dJ6_getChars_ba4f3_16 (by decide) (fun hq2 => absurd (rfl) hq2) (fun hq2 => ?_)
  refine pm_iload_n B dJ6_getChars_ba4f3_19 rfl ?_
  refine pm_ineg B dJ6_getChars_ba4f3_20 ?_
  refine pm_istore_n B dJ6_getChars_ba4f3_21 rfl rfl ?_
  refine pm_loc (L' := [some (.int (-(nI q))), some (.int (nI (c + 3))), some (.ref (z + b)), none, none, some (.int (nI (c + 3))), some (.int 0)]) rfl ?_
  refine pm_iload_n B dJ6_getChars_ba4f3_22 rfl ?_
  refine pm_bipush (v := (-100)) B dJ6_getChars_ba4f3_23 (by decide) ?_
  refine pm_icmp_gt (tgt := 72) B dJ6_getChars_ba4f3_25 (by decide) (fun hq3 => absurd hq3 (fun h => absurd ((pm_n10 q hq).2.2.2.2.1.mp h) (by omega))) (fun hq3 => ?_)
  refine pm_iload_n B dJ6_getChars_ba4f3_28 rfl ?_
  refine pm_bipush (v := 100) B dJ6_getChars_ba4f3_29 (by decide) ?_
  refine pm_idiv B dJ6_getChars_ba4f3_31 (by first | decide | assumption) ?_
  refine pm_stk (st' := [.int (-(nI (q / 100)))]) (by rw [show ((-(nI q)) / 100) = (-(nI (q / 100))) from (pm_n10 q hq).2.2.2.2.2.1]) ?_
  refine pm_istore_n B dJ6_getChars_ba4f3_32 rfl rfl ?_
  refine pm_loc (L' := [some (.int (-(nI q))), some (.int (nI (c + 3))), some (.ref (z + b)), some (.int (-(nI (q / 100)))), none, some (.int (nI (c + 3))), some (.int 0)]) rfl ?_
  refine pm_iload_n B dJ6_getChars_ba4f3_33 rfl ?_
  refine pm_bipush (v := 100) B dJ6_getChars_ba4f3_34 (by decide) ?_
  refine pm_imul B dJ6_getChars_ba4f3_36 ?_
  refine pm_iload_n B dJ6_getChars_ba4f3_37 rfl ?_
  refine pm_isub B dJ6_getChars_ba4f3_38 ?_
  refine pm_stk (st' := [.int (nI (q % 100))]) (by rw [show (((-(nI (q / 100))) * 100) - (-(nI q))) = (nI (q % 100)) from (pm_n10 q hq).2.2.2.2.2.2]) ?_
  refine pm_istore B dJ6_getChars_ba4f3_39 rfl rfl ?_
  refine pm_loc (L' := [some (.int (-(nI q))), some (.int (nI (c + 3))), some (.ref (z + b)), some (.int (-(nI (q / 100)))), some (.int (nI (q % 100))), some (.int (nI (c + 3))), some (.int 0)]) rfl ?_
  refine pm_iload_n B dJ6_getChars_ba4f3_41 rfl ?_
  refine pm_istore_n B dJ6_getChars_ba4f3_42 rfl rfl ?_
  refine pm_loc (L' := [some (.int (-(nI (q / 100)))), some (.int (nI (c + 3))), some (.ref (z + b)), some (.int (-(nI (q / 100)))), some (.int (nI (q % 100))), some (.int (nI (c + 3))), some (.int 0)]) rfl ?_
  refine pm_aload_n B dJ6_getChars_ba4f3_43 rfl ?_
  refine pm_iinc B dJ6_getChars_ba4f3_44 rfl rfl rfl ?_
  refine pm_loc (L' := [some (.int (-(nI (q / 100)))), some (.int (nI (c + 3))), some (.ref (z + b)), some (.int (-(nI (q / 100)))), some (.int (nI (q % 100))), some (.int (nI (c + 2))), some (.int 0)]) (by rw [show ((nI (c + 3)) : Int32) + Int32.ofInt (-1) = nI (c + 2) from pm_dec _]; rfl) ?_
  refine pm_iload B dJ6_getChars_ba4f3_47 rfl ?_
  refine pm_gets B (v := .ref (kE 63)) (fun U H h => h.2.2.2.2.2.2.1.1) (pm_T_in 1230 (by decide +kernel) (by decide +kernel)) dJ6_getChars_ba4f3_49 ?_
  refine pm_iload B dJ6_getChars_ba4f3_52 rfl ?_
  refine pm_tbL B (v := .int (nI (48 + (q % 100) % 10))) (fun U H h => h.2.2.2.2.2.2.1.2) (q % 100) (by omega) (by decide) rfl dJ6_getChars_ba4f3_54 ?_
  refine pm_bast_n B (v := (nI (48 + (q % 100) % 10))) (pm_nb _ (by omega)) dJ6_getChars_ba4f3_55 hB (c + 2) (by first | assumption | omega) (by omega) ?_
  refine pm_mem (M' := pm_up M b (.inl (kA 4, N, .inl (upd f (c + 2) (nI (48 + (q % 100) % 10)))))) rfl ?_
  refine pm_aload_n B dJ6_getChars_ba4f3_56 rfl ?_
  refine pm_iinc B dJ6_getChars_ba4f3_57 rfl rfl rfl ?_
  refine pm_loc (L' := [some (.int (-(nI (q / 100)))), some (.int (nI (c + 3))), some (.ref (z + b)), some (.int (-(nI (q / 100)))), some (.int (nI (q % 100))), some (.int (nI (c + 1))), some (.int 0)]) (by rw [show ((nI (c + 2)) : Int32) + Int32.ofInt (-1) = nI (c + 1) from pm_dec _]; rfl) ?_
  refine pm_iload B dJ6_getChars_ba4f3_60 rfl ?_
  refine pm_gets B (v := .ref (kE 62)) (fun U H h => h.2.2.2.2.2.1.1) (pm_T_in 1232 (by decide +kernel) (by decide +kernel)) dJ6_getChars_ba4f3_62 ?_
  refine pm_iload B dJ6_getChars_ba4f3_65 rfl ?_
  refine pm_tbL B (v := .int (nI (48 + (q % 100) / 10))) (fun U H h => h.2.2.2.2.2.1.2) (q % 100) (by omega) (by decide) rfl dJ6_getChars_ba4f3_67 ?_
  refine pm_bast_n B (v := (nI (48 + (q % 100) / 10))) (pm_nb _ (by omega)) dJ6_getChars_ba4f3_68 pm_up_s (c + 1) (by first | assumption | omega) (by omega) ?_
  refine pm_mem (M' := pm_up M b (.inl (kA 4, N, .inl (upd (upd f (c + 2) (nI (48 + (q % 100) % 10))) (c + 1) (nI (48 + (q % 100) / 10)))))) pm_up_up ?_
  refine pm_goto (tgt := 22) B dJ6_getChars_ba4f3_69 (by decide) ?_
  refine pm_iload_n B dJ6_getChars_ba4f3_22 rfl ?_
  refine pm_bipush (v := (-100)) B dJ6_getChars_ba4f3_23 (by decide) ?_
  refine pm_icmp_gt (tgt := 72) B dJ6_getChars_ba4f3_25 (by decide) (fun hq4 => ?_) (fun hq4 => absurd ((pm_n10 (q / 100) (by omega)).2.2.2.2.1.mpr (by omega)) hq4)
  refine pm_aload_n B dJ6_getChars_ba4f3_72 rfl ?_
  refine pm_iinc B dJ6_getChars_ba4f3_73 rfl rfl rfl ?_
  refine pm_loc (L' := [some (.int (-(nI (q / 100)))), some (.int (nI (c + 3))), some (.ref (z + b)), some (.int (-(nI (q / 100)))), some (.int (nI (q % 100))), some (.int (nI c)), some (.int 0)]) (by rw [show ((nI (c + 1)) : Int32) + Int32.ofInt (-1) = nI c from pm_dec _]; rfl) ?_
  refine pm_iload B dJ6_getChars_ba4f3_76 rfl ?_
  refine pm_gets B (v := .ref (kE 63)) (fun U H h => h.2.2.2.2.2.2.1.1) (pm_T_in 1230 (by decide +kernel) (by decide +kernel)) dJ6_getChars_ba4f3_78 ?_
  refine pm_iload_n B dJ6_getChars_ba4f3_81 rfl ?_
  refine pm_ineg B dJ6_getChars_ba4f3_82 ?_
  refine pm_stk (st' := [.int (nI (q / 100)), .ref (kE 63), .int (nI c), .ref (z + b)]) (by rw [show (-(-(nI (q / 100)))) = (nI (q / 100)) from Int32.neg_neg]) ?_
  refine pm_tbL B (v := .int (nI (48 + (q / 100) % 10))) (fun U H h => h.2.2.2.2.2.2.1.2) (q / 100) (by omega) (by decide) rfl dJ6_getChars_ba4f3_83 ?_
  refine pm_bast_n B (v := (nI (48 + (q / 100) % 10))) (pm_nb _ (by omega)) dJ6_getChars_ba4f3_84 pm_up_s c (by first | assumption | omega) (by omega) ?_
  refine pm_mem (M' := pm_up M b (.inl (kA 4, N, .inl (upd (upd (upd f (c + 2) (nI (48 + (q % 100) % 10))) (c + 1) (nI (48 + (q % 100) / 10))) c (nI (48 + (q / 100) % 10)))))) pm_up_up ?_
  refine pm_iload_n B dJ6_getChars_ba4f3_85 rfl ?_
  refine pm_bipush (v := (-9)) B dJ6_getChars_ba4f3_86 (by decide) ?_
  refine pm_icmp_ge (tgt := 104) B dJ6_getChars_ba4f3_88 (by decide) (fun hq5 => ?_) (fun hq5 => absurd ((pm_n10 (q / 100) (by omega)).2.2.2.1.mpr (by omega)) hq5)
  refine pm_iload B dJ6_getChars_ba4f3_104 rfl ?_
  refine pm_if_eq (tgt := 118) B dJ6_getChars_ba4f3_106 (by decide) (fun hq6 => ?_) (fun hq6 => absurd (rfl) hq6)
  refine pm_iload B dJ6_getChars_ba4f3_118 rfl ?_
  exact pm_ireturn B dJ6_getChars_ba4f3_120 rfl (by first | rfl | (apply pm_nz; first | assumption | decide | exact pm_in01 _ _ _ | simp)) ⟨rfl, rfl, rfl⟩ rfl rfl
set_option maxRecDepth 100000 in
set_option maxHeartbeats 4000000 in
theorem c_J5_append_c97b9_1_N {l : Launch} {z : Nat} {D : va_G} {kA : Nat → ClassId} {kE : Nat → Nat} {nx : Nat} {M : pm_M} {a b c : Nat} {ml : Int32} {N : Nat} {f : Nat → Int32} (hM : M a = some (.inr (12, [.ref (z + b), .int 0, .int ml, .int (nI c)]))) (hB : M b = some (.inl (kA 4, N, .inl f))) (hab : a ≠ b) {q : Nat} (hq : q < 1000) (hw : q < 10) (hc : c + 1 ≤ N) (hN : N ≤ 40) : pm_C l z D kA kE yJ5_append_c97b9 cJ5_append_c97b9 4 (some (.object "java/lang/AbstractStringBuilder")) 1 0 0 [.ref (z + a), .int (nI q)] nx M (pm_rt (some (.ref (z + a))) nx (pm_up (pm_up M b (.inl (kA 4, N, .inl (pm_d1 f c q)))) a (.inr (12, [.ref (z + b), .int 0, .int ml, .int (nI (c + 1))])))) := by
  refine pm_mk (own := RJ5) (nm := "append") mt_J5_append_c97b9 rfl rfl rfl rfl fun X B => ?_
  refine pm_loc (L' := [some (.ref (z + a)), some (.int (nI q)), none, none]) rfl ?_
  refine pm_aload_n B dJ5_append_c97b9_0 rfl ?_
  refine pm_get B dJ5_append_c97b9_1 fl_J5_79 hM rfl ?_
  refine pm_istore_n B dJ5_append_c97b9_4 rfl rfl ?_
  refine pm_loc (L' := [some (.ref (z + a)), some (.int (nI q)), some (.int (nI c)), none]) rfl ?_
  refine pm_iload_n B dJ5_append_c97b9_5 rfl ?_
  refine pm_iload_n B dJ5_append_c97b9_6 rfl ?_
  refine pm_cS (As := [.int (nI q)]) (mc2 := 0) (ms2 := 0) B (c_J6_stringSize_0f7a4_1 hq hw) mt_J6_stringSize_0f7a4 ss_J5_245 dJ5_append_c97b9_7 rfl rfl rfl rfl rfl ?_
  refine pm_stk (st' := [.int (nI 1), .int (nI c)]) rfl ?_
  refine pm_iadd B dJ5_append_c97b9_10 ?_
  refine pm_stk (st' := [.int (nI (c + 1))]) (by rw [show ((nI c) + (nI 1)) = (nI (c + 1)) from (by rw [show (nI c) = nI c from rfl, show (nI 1) = nI 1 from rfl, nI_add])]) ?_
  refine pm_istore_n B dJ5_append_c97b9_11 rfl rfl ?_
  refine pm_loc (L' := [some (.ref (z + a)), some (.int (nI q)), some (.int (nI c)), some (.int (nI (c + 1)))]) rfl ?_
  refine pm_aload_n B dJ5_append_c97b9_12 rfl ?_
  refine pm_iload_n B dJ5_append_c97b9_13 rfl ?_
  refine pm_cP (As := [.int (nI (c + 1))]) (mc2 := 0) (ms2 := 0) B rfl hM rfl (c_J5_ensureCapacityInternal_d00df_N (x := (c + 1)) hM hB (by omega) hN) mt_J5_ensureCapacityInternal_d00df sp_J5_100 dJ5_append_c97b9_14 rfl rfl rfl rfl rfl ?_
  refine pm_stk (st' := []) rfl ?_
  refine pm_aload_n B dJ5_append_c97b9_17 rfl ?_
  refine pm_cUM (As := []) (mc2 := 0) (ms2 := 0) B rfl hM rfl (c_J5_isLatin1_aae02 hM) mt_J5_isLatin1_aae02 su_J5_83 dJ5_append_c97b9_18 rfl rfl rfl rfl rfl ?_
  refine pm_stk (st' := [.int 1]) rfl ?_
  refine pm_if_eq (tgt := 37) B dJ5_append_c97b9_21 (by decide) (fun hq1 => absurd hq1 (by decide)) (fun hq1 => ?_)
  refine pm_iload_n B dJ5_append_c97b9_24 rfl ?_
  refine pm_iload_n B dJ5_append_c97b9_25 rfl ?_
  refine pm_aload_n B dJ5_append_c97b9_26 rfl ?_
  refine pm_get B dJ5_append_c97b9_27 fl_J5_15 hM rfl ?_
  refine pm_cS (As := [.int (nI q), .int (nI (c + 1)), .ref (z + b)]) (mc2 := 0) (ms2 := 0) B (c_J6_getChars_ba4f3_1_N hB hq hw (by omega) hN) mt_J6_getChars_ba4f3 ss_J5_248 dJ5_append_c97b9_30 rfl rfl rfl rfl rfl ?_
  refine pm_mem (M' := pm_up M b (.inl (kA 4, N, .inl (pm_d1 f c q)))) rfl ?_
  refine pm_stk (st' := [.int (nI c)]) rfl ?_
  refine pm_pop B dJ5_append_c97b9_33 rfl ?_
  refine pm_goto (tgt := 48) B dJ5_append_c97b9_34 (by decide) ?_
  refine pm_aload_n B dJ5_append_c97b9_48 rfl ?_
  refine pm_iload_n B dJ5_append_c97b9_49 rfl ?_
  refine pm_put B dJ5_append_c97b9_50 fs_J5_79 ((pm_up_n hab).trans hM) rfl rfl rfl ?_
  refine pm_mem (M' := pm_up (pm_up M b (.inl (kA 4, N, .inl (pm_d1 f c q)))) a (.inr (12, [.ref (z + b), .int 0, .int ml, .int (nI (c + 1))]))) rfl ?_
  refine pm_aload_n B dJ5_append_c97b9_53 rfl ?_
  exact pm_areturn B dJ5_append_c97b9_54 rfl (Or.inl ⟨_, rfl⟩) (by first | exact Or.inl rfl | exact Or.inr ⟨_, rfl⟩) ⟨rfl, rfl, rfl⟩ rfl rfl
set_option maxRecDepth 100000 in
set_option maxHeartbeats 4000000 in
theorem c_J5_append_c97b9_2_N {l : Launch} {z : Nat} {D : va_G} {kA : Nat → ClassId} {kE : Nat → Nat} {nx : Nat} {M : pm_M} {a b c : Nat} {ml : Int32} {N : Nat} {f : Nat → Int32} (hM : M a = some (.inr (12, [.ref (z + b), .int 0, .int ml, .int (nI c)]))) (hB : M b = some (.inl (kA 4, N, .inl f))) (hab : a ≠ b) {q : Nat} (hq : q < 1000) (hw : 10 ≤ q) (hw2 : q < 100) (hc : c + 2 ≤ N) (hN : N ≤ 40) : pm_C l z D kA kE yJ5_append_c97b9 cJ5_append_c97b9 4 (some (.object "java/lang/AbstractStringBuilder")) 1 0 0 [.ref (z + a), .int (nI q)] nx M (pm_rt (some (.ref (z + a))) nx (pm_up (pm_up M b (.inl (kA 4, N, .inl (pm_d2 f c q)))) a (.inr (12, [.ref (z + b), .int 0, .int ml, .int (nI (c + 2))])))) := by
  refine pm_mk (own := RJ5) (nm := "append") mt_J5_append_c97b9 rfl rfl rfl rfl fun X B => ?_
  refine pm_loc (L' := [some (.ref (z + a)), some (.int (nI q)), none, none]) rfl ?_
  refine pm_aload_n B dJ5_append_c97b9_0 rfl ?_
  refine pm_get B dJ5_append_c97b9_1 fl_J5_79 hM rfl ?_
  refine pm_istore_n B dJ5_append_c97b9_4 rfl rfl ?_
  refine pm_loc (L' := [some (.ref (z + a)), some (.int (nI q)), some (.int (nI c)), none]) rfl ?_
  refine pm_iload_n B dJ5_append_c97b9_5 rfl ?_
  refine pm_iload_n B dJ5_append_c97b9_6 rfl ?_
  refine pm_cS (As := [.int (nI q)]) (mc2 := 0) (ms2 := 0) B (c_J6_stringSize_0f7a4_2 hq hw hw2) mt_J6_stringSize_0f7a4 ss_J5_245 dJ5_append_c97b9_7 rfl rfl rfl rfl rfl ?_
  refine pm_stk (st' := [.int (nI 2), .int (nI c)]) rfl ?_
  refine pm_iadd B dJ5_append_c97b9_10 ?_
  refine pm_stk (st' := [.int (nI (c + 2))]) (by rw [show ((nI c) + (nI 2)) = (nI (c + 2)) from (by rw [show (nI c) = nI c from rfl, show (nI 2) = nI 2 from rfl, nI_add])]) ?_
  refine pm_istore_n B dJ5_append_c97b9_11 rfl rfl ?_
  refine pm_loc (L' := [some (.ref (z + a)), some (.int (nI q)), some (.int (nI c)), some (.int (nI (c + 2)))]) rfl ?_
  refine pm_aload_n B dJ5_append_c97b9_12 rfl ?_
  refine pm_iload_n B dJ5_append_c97b9_13 rfl ?_
  refine pm_cP (As := [.int (nI (c + 2))]) (mc2 := 0) (ms2 := 0) B rfl hM rfl (c_J5_ensureCapacityInternal_d00df_N (x := (c + 2)) hM hB (by omega) hN) mt_J5_ensureCapacityInternal_d00df sp_J5_100 dJ5_append_c97b9_14 rfl rfl rfl rfl rfl ?_
  refine pm_stk (st' := []) rfl ?_
  refine pm_aload_n B dJ5_append_c97b9_17 rfl ?_
  refine pm_cUM (As := []) (mc2 := 0) (ms2 := 0) B rfl hM rfl (c_J5_isLatin1_aae02 hM) mt_J5_isLatin1_aae02 su_J5_83 dJ5_append_c97b9_18 rfl rfl rfl rfl rfl ?_
  refine pm_stk (st' := [.int 1]) rfl ?_
  refine pm_if_eq (tgt := 37) B dJ5_append_c97b9_21 (by decide) (fun hq1 => absurd hq1 (by decide)) (fun hq1 => ?_)
  refine pm_iload_n B dJ5_append_c97b9_24 rfl ?_
  refine pm_iload_n B dJ5_append_c97b9_25 rfl ?_
  refine pm_aload_n B dJ5_append_c97b9_26 rfl ?_
  refine pm_get B dJ5_append_c97b9_27 fl_J5_15 hM rfl ?_
  refine pm_cS (As := [.int (nI q), .int (nI (c + 2)), .ref (z + b)]) (mc2 := 0) (ms2 := 0) B (c_J6_getChars_ba4f3_2_N hB hq hw hw2 (by omega) hN) mt_J6_getChars_ba4f3 ss_J5_248 dJ5_append_c97b9_30 rfl rfl rfl rfl rfl ?_
  refine pm_mem (M' := pm_up M b (.inl (kA 4, N, .inl (pm_d2 f c q)))) rfl ?_
  refine pm_stk (st' := [.int (nI c)]) rfl ?_
  refine pm_pop B dJ5_append_c97b9_33 rfl ?_
  refine pm_goto (tgt := 48) B dJ5_append_c97b9_34 (by decide) ?_
  refine pm_aload_n B dJ5_append_c97b9_48 rfl ?_
  refine pm_iload_n B dJ5_append_c97b9_49 rfl ?_
  refine pm_put B dJ5_append_c97b9_50 fs_J5_79 ((pm_up_n hab).trans hM) rfl rfl rfl ?_
  refine pm_mem (M' := pm_up (pm_up M b (.inl (kA 4, N, .inl (pm_d2 f c q)))) a (.inr (12, [.ref (z + b), .int 0, .int ml, .int (nI (c + 2))]))) rfl ?_
  refine pm_aload_n B dJ5_append_c97b9_53 rfl ?_
  exact pm_areturn B dJ5_append_c97b9_54 rfl (Or.inl ⟨_, rfl⟩) (by first | exact Or.inl rfl | exact Or.inr ⟨_, rfl⟩) ⟨rfl, rfl, rfl⟩ rfl rfl
set_option maxRecDepth 100000 in
set_option maxHeartbeats 4000000 in
theorem c_J5_append_c97b9_3_N {l : Launch} {z : Nat} {D : va_G} {kA : Nat → ClassId} {kE : Nat → Nat} {nx : Nat} {M : pm_M} {a b c : Nat} {ml : Int32} {N : Nat} {f : Nat → Int32} (hM : M a = some (.inr (12, [.ref (z + b), .int 0, .int ml, .int (nI c)]))) (hB : M b = some (.inl (kA 4, N, .inl f))) (hab : a ≠ b) {q : Nat} (hq : q < 1000) (hw : 100 ≤ q) (hc : c + 3 ≤ N) (hN : N ≤ 40) : pm_C l z D kA kE yJ5_append_c97b9 cJ5_append_c97b9 4 (some (.object "java/lang/AbstractStringBuilder")) 1 0 0 [.ref (z + a), .int (nI q)] nx M (pm_rt (some (.ref (z + a))) nx (pm_up (pm_up M b (.inl (kA 4, N, .inl (pm_d3 f c q)))) a (.inr (12, [.ref (z + b), .int 0, .int ml, .int (nI (c + 3))])))) := by
  refine pm_mk (own := RJ5) (nm := "append") mt_J5_append_c97b9 rfl rfl rfl rfl fun X B => ?_
  refine pm_loc (L' := [some (.ref (z + a)), some (.int (nI q)), none, none]) rfl ?_
  refine pm_aload_n B dJ5_append_c97b9_0 rfl ?_
  refine pm_get B dJ5_append_c97b9_1 fl_J5_79 hM rfl ?_
  refine pm_istore_n B dJ5_append_c97b9_4 rfl rfl ?_
  refine pm_loc (L' := [some (.ref (z + a)), some (.int (nI q)), some (.int (nI c)), none]) rfl ?_
  refine pm_iload_n B dJ5_append_c97b9_5 rfl ?_
  refine pm_iload_n B dJ5_append_c97b9_6 rfl ?_
  refine pm_cS (As := [.int (nI q)]) (mc2 := 0) (ms2 := 0) B (c_J6_stringSize_0f7a4_3 hq hw) mt_J6_stringSize_0f7a4 ss_J5_245 dJ5_append_c97b9_7 rfl rfl rfl rfl rfl ?_
  refine pm_stk (st' := [.int (nI 3), .int (nI c)]) rfl ?_
  refine pm_iadd B dJ5_append_c97b9_10 ?_
  refine pm_stk (st' := [.int (nI (c + 3))]) (by rw [show ((nI c) + (nI 3)) = (nI (c + 3)) from (by rw [show (nI c) = nI c from rfl, show (nI 3) = nI 3 from rfl, nI_add])]) ?_
  refine pm_istore_n B dJ5_append_c97b9_11 rfl rfl ?_
  refine pm_loc (L' := [some (.ref (z + a)), some (.int (nI q)), some (.int (nI c)), some (.int (nI (c + 3)))]) rfl ?_
  refine pm_aload_n B dJ5_append_c97b9_12 rfl ?_
  refine pm_iload_n B dJ5_append_c97b9_13 rfl ?_
  refine pm_cP (As := [.int (nI (c + 3))]) (mc2 := 0) (ms2 := 0) B rfl hM rfl (c_J5_ensureCapacityInternal_d00df_N (x := (c + 3)) hM hB (by omega) hN) mt_J5_ensureCapacityInternal_d00df sp_J5_100 dJ5_append_c97b9_14 rfl rfl rfl rfl rfl ?_
  refine pm_stk (st' := []) rfl ?_
  refine pm_aload_n B dJ5_append_c97b9_17 rfl ?_
  refine pm_cUM (As := []) (mc2 := 0) (ms2 := 0) B rfl hM rfl (c_J5_isLatin1_aae02 hM) mt_J5_isLatin1_aae02 su_J5_83 dJ5_append_c97b9_18 rfl rfl rfl rfl rfl ?_
  refine pm_stk (st' := [.int 1]) rfl ?_
  refine pm_if_eq (tgt := 37) B dJ5_append_c97b9_21 (by decide) (fun hq1 => absurd hq1 (by decide)) (fun hq1 => ?_)
  refine pm_iload_n B dJ5_append_c97b9_24 rfl ?_
  refine pm_iload_n B dJ5_append_c97b9_25 rfl ?_
  refine pm_aload_n B dJ5_append_c97b9_26 rfl ?_
  refine pm_get B dJ5_append_c97b9_27 fl_J5_15 hM rfl ?_
  refine pm_cS (As := [.int (nI q), .int (nI (c + 3)), .ref (z + b)]) (mc2 := 0) (ms2 := 0) B (c_J6_getChars_ba4f3_3_N hB hq hw (by omega) hN) mt_J6_getChars_ba4f3 ss_J5_248 dJ5_append_c97b9_30 rfl rfl rfl rfl rfl ?_
  refine pm_mem (M' := pm_up M b (.inl (kA 4, N, .inl (pm_d3 f c q)))) rfl ?_
  refine pm_stk (st' := [.int (nI c)]) rfl ?_
  refine pm_pop B dJ5_append_c97b9_33 rfl ?_
  refine pm_goto (tgt := 48) B dJ5_append_c97b9_34 (by decide) ?_
  refine pm_aload_n B dJ5_append_c97b9_48 rfl ?_
  refine pm_iload_n B dJ5_append_c97b9_49 rfl ?_
  refine pm_put B dJ5_append_c97b9_50 fs_J5_79 ((pm_up_n hab).trans hM) rfl rfl rfl ?_
  refine pm_mem (M' := pm_up (pm_up M b (.inl (kA 4, N, .inl (pm_d3 f c q)))) a (.inr (12, [.ref (z + b), .int 0, .int ml, .int (nI (c + 3))]))) rfl ?_
  refine pm_aload_n B dJ5_append_c97b9_53 rfl ?_
  exact pm_areturn B dJ5_append_c97b9_54 rfl (Or.inl ⟨_, rfl⟩) (by first | exact Or.inl rfl | exact Or.inr ⟨_, rfl⟩) ⟨rfl, rfl, rfl⟩ rfl rfl
set_option maxRecDepth 100000 in
set_option maxHeartbeats 4000000 in
theorem c_J4_append_bf812_1_N {l : Launch} {z : Nat} {D : va_G} {kA : Nat → ClassId} {kE : Nat → Nat} {nx : Nat} {M : pm_M} {a b c : Nat} {ml : Int32} {N : Nat} {f : Nat → Int32} (hM : M a = some (.inr (12, [.ref (z + b), .int 0, .int ml, .int (nI c)]))) (hB : M b = some (.inl (kA 4, N, .inl f))) (hab : a ≠ b) {q : Nat} (hq : q < 1000) (hw : q < 10) (hc : c + 1 ≤ N) (hN : N ≤ 40) : pm_C l z D kA kE yJ4_append_bf812 cJ4_append_bf812 2 (some (.object "java/lang/StringBuilder")) 2 0 0 [.ref (z + a), .int (nI q)] nx M (pm_rt (some (.ref (z + a))) nx (pm_up (pm_up M b (.inl (kA 4, N, .inl (pm_d1 f c q)))) a (.inr (12, [.ref (z + b), .int 0, .int ml, .int (nI (c + 1))])))) := by
  refine pm_mk (own := RJ4) (nm := "append") mt_J4_append_bf812 rfl rfl rfl rfl fun X B => ?_
  refine pm_loc (L' := [some (.ref (z + a)), some (.int (nI q))]) rfl ?_
  refine pm_aload_n B dJ4_append_bf812_0 rfl ?_
  refine pm_iload_n B dJ4_append_bf812_1 rfl ?_
  refine pm_cX (As := [.int (nI q)]) (mc2 := 0) (ms2 := 0) B rfl hM (c_J5_append_c97b9_1_N hM hB hab hq hw (by omega) hN) mt_J5_append_c97b9 sx_J4_53 dJ4_append_bf812_2 rfl rfl rfl rfl rfl ?_
  refine pm_mem (M' := pm_up (pm_up M b (.inl (kA 4, N, .inl (pm_d1 f c q)))) a (.inr (12, [.ref (z + b), .int 0, .int ml, .int (nI (c + 1))]))) rfl ?_
  refine pm_stk (st' := [.ref (z + a)]) rfl ?_
  refine pm_pop B dJ4_append_bf812_5 rfl ?_
  refine pm_aload_n B dJ4_append_bf812_6 rfl ?_
  exact pm_areturn B dJ4_append_bf812_7 rfl (Or.inl ⟨_, rfl⟩) (by first | exact Or.inl rfl | exact Or.inr ⟨_, rfl⟩) ⟨rfl, rfl, rfl⟩ rfl rfl
set_option maxRecDepth 100000 in
set_option maxHeartbeats 4000000 in
theorem c_J4_append_bf812_2_N {l : Launch} {z : Nat} {D : va_G} {kA : Nat → ClassId} {kE : Nat → Nat} {nx : Nat} {M : pm_M} {a b c : Nat} {ml : Int32} {N : Nat} {f : Nat → Int32} (hM : M a = some (.inr (12, [.ref (z + b), .int 0, .int ml, .int (nI c)]))) (hB : M b = some (.inl (kA 4, N, .inl f))) (hab : a ≠ b) {q : Nat} (hq : q < 1000) (hw : 10 ≤ q) (hw2 : q < 100) (hc : c + 2 ≤ N) (hN : N ≤ 40) : pm_C l z D kA kE yJ4_append_bf812 cJ4_append_bf812 2 (some (.object "java/lang/StringBuilder")) 2 0 0 [.ref (z + a), .int (nI q)] nx M (pm_rt (some (.ref (z + a))) nx (pm_up (pm_up M b (.inl (kA 4, N, .inl (pm_d2 f c q)))) a (.inr (12, [.ref (z + b), .int 0, .int ml, .int (nI (c + 2))])))) := by
  refine pm_mk (own := RJ4) (nm := "append") mt_J4_append_bf812 rfl rfl rfl rfl fun X B => ?_
  refine pm_loc (L' := [some (.ref (z + a)), some (.int (nI q))]) rfl ?_
  refine pm_aload_n B dJ4_append_bf812_0 rfl ?_
  refine pm_iload_n B dJ4_append_bf812_1 rfl ?_
  refine pm_cX (As := [.int (nI q)]) (mc2 := 0) (ms2 := 0) B rfl hM (c_J5_append_c97b9_2_N hM hB hab hq hw hw2 (by omega) hN) mt_J5_append_c97b9 sx_J4_53 dJ4_append_bf812_2 rfl rfl rfl rfl rfl ?_
  refine pm_mem (M' := pm_up (pm_up M b (.inl (kA 4, N, .inl (pm_d2 f c q)))) a (.inr (12, [.ref (z + b), .int 0, .int ml, .int (nI (c + 2))]))) rfl ?_
  refine pm_stk (st' := [.ref (z + a)]) rfl ?_
  refine pm_pop B dJ4_append_bf812_5 rfl ?_
  refine pm_aload_n B dJ4_append_bf812_6 rfl ?_
  exact pm_areturn B dJ4_append_bf812_7 rfl (Or.inl ⟨_, rfl⟩) (by first | exact Or.inl rfl | exact Or.inr ⟨_, rfl⟩) ⟨rfl, rfl, rfl⟩ rfl rfl
set_option maxRecDepth 100000 in
set_option maxHeartbeats 4000000 in
theorem c_J4_append_bf812_3_N {l : Launch} {z : Nat} {D : va_G} {kA : Nat → ClassId} {kE : Nat → Nat} {nx : Nat} {M : pm_M} {a b c : Nat} {ml : Int32} {N : Nat} {f : Nat → Int32} (hM : M a = some (.inr (12, [.ref (z + b), .int 0, .int ml, .int (nI c)]))) (hB : M b = some (.inl (kA 4, N, .inl f))) (hab : a ≠ b) {q : Nat} (hq : q < 1000) (hw : 100 ≤ q) (hc : c + 3 ≤ N) (hN : N ≤ 40) : pm_C l z D kA kE yJ4_append_bf812 cJ4_append_bf812 2 (some (.object "java/lang/StringBuilder")) 2 0 0 [.ref (z + a), .int (nI q)] nx M (pm_rt (some (.ref (z + a))) nx (pm_up (pm_up M b (.inl (kA 4, N, .inl (pm_d3 f c q)))) a (.inr (12, [.ref (z + b), .int 0, .int ml, .int (nI (c + 3))])))) := by
  refine pm_mk (own := RJ4) (nm := "append") mt_J4_append_bf812 rfl rfl rfl rfl fun X B => ?_
  refine pm_loc (L' := [some (.ref (z + a)), some (.int (nI q))]) rfl ?_
  refine pm_aload_n B dJ4_append_bf812_0 rfl ?_
  refine pm_iload_n B dJ4_append_bf812_1 rfl ?_
  refine pm_cX (As := [.int (nI q)]) (mc2 := 0) (ms2 := 0) B rfl hM (c_J5_append_c97b9_3_N hM hB hab hq hw (by omega) hN) mt_J5_append_c97b9 sx_J4_53 dJ4_append_bf812_2 rfl rfl rfl rfl rfl ?_
  refine pm_mem (M' := pm_up (pm_up M b (.inl (kA 4, N, .inl (pm_d3 f c q)))) a (.inr (12, [.ref (z + b), .int 0, .int ml, .int (nI (c + 3))]))) rfl ?_
  refine pm_stk (st' := [.ref (z + a)]) rfl ?_
  refine pm_pop B dJ4_append_bf812_5 rfl ?_
  refine pm_aload_n B dJ4_append_bf812_6 rfl ?_
  exact pm_areturn B dJ4_append_bf812_7 rfl (Or.inl ⟨_, rfl⟩) (by first | exact Or.inl rfl | exact Or.inr ⟨_, rfl⟩) ⟨rfl, rfl, rfl⟩ rfl rfl
abbrev cJ8_newLength_cabcc : ByteArray := prog_45_method_27_code
def yJ8_newLength_cabcc : MethodName := ⟨RJ8, "newLength", "(III)I"⟩
theorem dJ8_newLength_cabcc_0 : decode cJ8_newLength_cabcc 0 = .ok (.iload_n 0, 1) := by decide +kernel
theorem dJ8_newLength_cabcc_1 : decode cJ8_newLength_cabcc 1 = .ok (.iload_n 1, 1) := by decide +kernel
theorem dJ8_newLength_cabcc_2 : decode cJ8_newLength_cabcc 2 = .ok (.iload_n 2, 1) := by decide +kernel
theorem dJ8_newLength_cabcc_3 : decode cJ8_newLength_cabcc 3 = .ok (.invokestatic 194, 3) := by decide +kernel
theorem dJ8_newLength_cabcc_6 : decode cJ8_newLength_cabcc 6 = .ok (.iadd, 1) := by decide +kernel
theorem dJ8_newLength_cabcc_7 : decode cJ8_newLength_cabcc 7 = .ok (.istore_n 3, 1) := by decide +kernel
theorem dJ8_newLength_cabcc_8 : decode cJ8_newLength_cabcc 8 = .ok (.iconst 0, 1) := by decide +kernel
theorem dJ8_newLength_cabcc_9 : decode cJ8_newLength_cabcc 9 = .ok (.iload_n 3, 1) := by decide +kernel
theorem dJ8_newLength_cabcc_10 : decode cJ8_newLength_cabcc 10 = .ok (.if_icmp .ge 11, 3) := by decide +kernel
theorem dJ8_newLength_cabcc_13 : decode cJ8_newLength_cabcc 13 = .ok (.iload_n 3, 1) := by decide +kernel
theorem dJ8_newLength_cabcc_14 : decode cJ8_newLength_cabcc 14 = .ok (.ldc 200, 2) := by decide +kernel
theorem dJ8_newLength_cabcc_16 : decode cJ8_newLength_cabcc 16 = .ok (.if_icmp .gt 5, 3) := by decide +kernel
theorem dJ8_newLength_cabcc_19 : decode cJ8_newLength_cabcc 19 = .ok (.iload_n 3, 1) := by decide +kernel
theorem dJ8_newLength_cabcc_20 : decode cJ8_newLength_cabcc 20 = .ok (.ireturn, 1) := by decide +kernel
theorem dJ8_newLength_cabcc_21 : decode cJ8_newLength_cabcc 21 = .ok (.iload_n 0, 1) := by decide +kernel
theorem dJ8_newLength_cabcc_22 : decode cJ8_newLength_cabcc 22 = .ok (.iload_n 1, 1) := by decide +kernel
theorem dJ8_newLength_cabcc_23 : decode cJ8_newLength_cabcc 23 = .ok (.invokestatic 201, 3) := by decide +kernel
theorem dJ8_newLength_cabcc_26 : decode cJ8_newLength_cabcc 26 = .ok (.ireturn, 1) := by decide +kernel
theorem mt_J8_newLength_cabcc : pm_Mt yJ8_newLength_cabcc cJ8_newLength_cabcc 4 (some .int) 3 := ⟨pm_T_in 1203 (by decide +kernel) (by decide +kernel), pm_T_in 67 (by decide +kernel) (by decide +kernel), ⟨by decide +kernel, by decide +kernel, by decide +kernel⟩, by decide +kernel, by decide⟩
abbrev cJ5_newCapacity_0f7a4 : ByteArray := prog_17_method_10_code
def yJ5_newCapacity_0f7a4 : MethodName := ⟨RJ5, "newCapacity", "(I)I"⟩
theorem dJ5_newCapacity_0f7a4_0 : decode cJ5_newCapacity_0f7a4 0 = .ok (.aload_n 0, 1) := by decide +kernel
theorem dJ5_newCapacity_0f7a4_1 : decode cJ5_newCapacity_0f7a4 1 = .ok (.getfield 15, 3) := by decide +kernel
theorem dJ5_newCapacity_0f7a4_4 : decode cJ5_newCapacity_0f7a4 4 = .ok (.arraylength, 1) := by decide +kernel
theorem dJ5_newCapacity_0f7a4_5 : decode cJ5_newCapacity_0f7a4 5 = .ok (.istore_n 2, 1) := by decide +kernel
theorem dJ5_newCapacity_0f7a4_6 : decode cJ5_newCapacity_0f7a4 6 = .ok (.iload_n 1, 1) := by decide +kernel
theorem dJ5_newCapacity_0f7a4_7 : decode cJ5_newCapacity_0f7a4 7 = .ok (.aload_n 0, 1) := by decide +kernel
theorem dJ5_newCapacity_0f7a4_8 : decode cJ5_newCapacity_0f7a4 8 = .ok (.getfield 22, 3) := by decide +kernel
theorem dJ5_newCapacity_0f7a4_11 : decode cJ5_newCapacity_0f7a4 11 = .ok (.ishl, 1) := by decide +kernel
theorem dJ5_newCapacity_0f7a4_12 : decode cJ5_newCapacity_0f7a4 12 = .ok (.istore_n 3, 1) := by decide +kernel
theorem dJ5_newCapacity_0f7a4_13 : decode cJ5_newCapacity_0f7a4 13 = .ok (.iload_n 3, 1) := by decide +kernel
theorem dJ5_newCapacity_0f7a4_14 : decode cJ5_newCapacity_0f7a4 14 = .ok (.iload_n 2, 1) := by decide +kernel
theorem dJ5_newCapacity_0f7a4_15 : decode cJ5_newCapacity_0f7a4 15 = .ok (.isub, 1) := by decide +kernel
theorem dJ5_newCapacity_0f7a4_16 : decode cJ5_newCapacity_0f7a4 16 = .ok (.istore 4, 2) := by decide +kernel
theorem dJ5_newCapacity_0f7a4_18 : decode cJ5_newCapacity_0f7a4 18 = .ok (.iload_n 2, 1) := by decide +kernel
theorem dJ5_newCapacity_0f7a4_19 : decode cJ5_newCapacity_0f7a4 19 = .ok (.iload 4, 2) := by decide +kernel
theorem dJ5_newCapacity_0f7a4_21 : decode cJ5_newCapacity_0f7a4 21 = .ok (.iload_n 2, 1) := by decide +kernel
theorem dJ5_newCapacity_0f7a4_22 : decode cJ5_newCapacity_0f7a4 22 = .ok (.iconst 2, 1) := by decide +kernel
theorem dJ5_newCapacity_0f7a4_23 : decode cJ5_newCapacity_0f7a4 23 = .ok (.aload_n 0, 1) := by decide +kernel
theorem dJ5_newCapacity_0f7a4_24 : decode cJ5_newCapacity_0f7a4 24 = .ok (.getfield 22, 3) := by decide +kernel
theorem dJ5_newCapacity_0f7a4_27 : decode cJ5_newCapacity_0f7a4 27 = .ok (.ishl, 1) := by decide +kernel
theorem dJ5_newCapacity_0f7a4_28 : decode cJ5_newCapacity_0f7a4 28 = .ok (.iadd, 1) := by decide +kernel
theorem dJ5_newCapacity_0f7a4_29 : decode cJ5_newCapacity_0f7a4 29 = .ok (.invokestatic 114, 3) := by decide +kernel
theorem dJ5_newCapacity_0f7a4_32 : decode cJ5_newCapacity_0f7a4 32 = .ok (.istore 5, 2) := by decide +kernel
theorem dJ5_newCapacity_0f7a4_34 : decode cJ5_newCapacity_0f7a4 34 = .ok (.iload 5, 2) := by decide +kernel
theorem dJ5_newCapacity_0f7a4_36 : decode cJ5_newCapacity_0f7a4 36 = .ok (.ldc 39, 2) := by decide +kernel
theorem dJ5_newCapacity_0f7a4_38 : decode cJ5_newCapacity_0f7a4 38 = .ok (.if_icmp .ne 13, 3) := by decide +kernel
theorem dJ5_newCapacity_0f7a4_41 : decode cJ5_newCapacity_0f7a4 41 = .ok (.new 120, 3) := by decide +kernel
theorem dJ5_newCapacity_0f7a4_44 : decode cJ5_newCapacity_0f7a4 44 = .ok (.dup, 1) := by decide +kernel
theorem dJ5_newCapacity_0f7a4_45 : decode cJ5_newCapacity_0f7a4 45 = .ok (.ldc 122, 2) := by decide +kernel
theorem dJ5_newCapacity_0f7a4_47 : decode cJ5_newCapacity_0f7a4 47 = .ok (.invokespecial 124, 3) := by decide +kernel
theorem dJ5_newCapacity_0f7a4_50 : decode cJ5_newCapacity_0f7a4 50 = .ok (.athrow, 1) := by decide +kernel
theorem dJ5_newCapacity_0f7a4_51 : decode cJ5_newCapacity_0f7a4 51 = .ok (.iload 5, 2) := by decide +kernel
theorem dJ5_newCapacity_0f7a4_53 : decode cJ5_newCapacity_0f7a4 53 = .ok (.aload_n 0, 1) := by decide +kernel
theorem dJ5_newCapacity_0f7a4_54 : decode cJ5_newCapacity_0f7a4 54 = .ok (.getfield 22, 3) := by decide +kernel
theorem dJ5_newCapacity_0f7a4_57 : decode cJ5_newCapacity_0f7a4 57 = .ok (.ishr, 1) := by decide +kernel
theorem dJ5_newCapacity_0f7a4_58 : decode cJ5_newCapacity_0f7a4 58 = .ok (.ireturn, 1) := by decide +kernel
theorem mt_J5_newCapacity_0f7a4 : pm_Mt yJ5_newCapacity_0f7a4 cJ5_newCapacity_0f7a4 6 (some .int) 1 := ⟨pm_T_in 1200 (by decide +kernel) (by decide +kernel), pm_T_in 45 (by decide +kernel) (by decide +kernel), ⟨by decide +kernel, by decide +kernel, by decide +kernel⟩, by decide +kernel, by decide⟩
abbrev cJ7_copyOf_9075b : ByteArray := prog_43_method_121_code
def yJ7_copyOf_9075b : MethodName := ⟨RJ7, "copyOf", "([BI)[B"⟩
theorem dJ7_copyOf_9075b_0 : decode cJ7_copyOf_9075b 0 = .ok (.iload_n 1, 1) := by decide +kernel
theorem dJ7_copyOf_9075b_1 : decode cJ7_copyOf_9075b 1 = .ok (.aload_n 0, 1) := by decide +kernel
theorem dJ7_copyOf_9075b_2 : decode cJ7_copyOf_9075b 2 = .ok (.arraylength, 1) := by decide +kernel
theorem dJ7_copyOf_9075b_3 : decode cJ7_copyOf_9075b 3 = .ok (.if_icmp .ne 11, 3) := by decide +kernel
theorem dJ7_copyOf_9075b_6 : decode cJ7_copyOf_9075b 6 = .ok (.aload_n 0, 1) := by decide +kernel
theorem dJ7_copyOf_9075b_7 : decode cJ7_copyOf_9075b 7 = .ok (.invokevirtual 310, 3) := by decide +kernel
theorem dJ7_copyOf_9075b_10 : decode cJ7_copyOf_9075b 10 = .ok (.checkcast 311, 3) := by decide +kernel
theorem dJ7_copyOf_9075b_13 : decode cJ7_copyOf_9075b 13 = .ok (.areturn, 1) := by decide +kernel
theorem dJ7_copyOf_9075b_14 : decode cJ7_copyOf_9075b 14 = .ok (.iload_n 1, 1) := by decide +kernel
theorem dJ7_copyOf_9075b_15 : decode cJ7_copyOf_9075b 15 = .ok (.newarray .byte, 2) := by decide +kernel
theorem dJ7_copyOf_9075b_17 : decode cJ7_copyOf_9075b 17 = .ok (.astore_n 2, 1) := by decide +kernel
theorem dJ7_copyOf_9075b_18 : decode cJ7_copyOf_9075b 18 = .ok (.aload_n 0, 1) := by decide +kernel
theorem dJ7_copyOf_9075b_19 : decode cJ7_copyOf_9075b 19 = .ok (.iconst 0, 1) := by decide +kernel
theorem dJ7_copyOf_9075b_20 : decode cJ7_copyOf_9075b 20 = .ok (.aload_n 2, 1) := by decide +kernel
theorem dJ7_copyOf_9075b_21 : decode cJ7_copyOf_9075b 21 = .ok (.iconst 0, 1) := by decide +kernel
theorem dJ7_copyOf_9075b_22 : decode cJ7_copyOf_9075b 22 = .ok (.aload_n 0, 1) := by decide +kernel
theorem dJ7_copyOf_9075b_23 : decode cJ7_copyOf_9075b 23 = .ok (.arraylength, 1) := by decide +kernel
theorem dJ7_copyOf_9075b_24 : decode cJ7_copyOf_9075b 24 = .ok (.iload_n 1, 1) := by decide +kernel
theorem dJ7_copyOf_9075b_25 : decode cJ7_copyOf_9075b 25 = .ok (.invokestatic 304, 3) := by decide +kernel
theorem dJ7_copyOf_9075b_28 : decode cJ7_copyOf_9075b 28 = .ok (.invokestatic 150, 3) := by decide +kernel
theorem dJ7_copyOf_9075b_31 : decode cJ7_copyOf_9075b 31 = .ok (.aload_n 2, 1) := by decide +kernel
theorem dJ7_copyOf_9075b_32 : decode cJ7_copyOf_9075b 32 = .ok (.areturn, 1) := by decide +kernel
theorem mt_J7_copyOf_9075b : pm_Mt yJ7_copyOf_9075b cJ7_copyOf_9075b 3 (some (.array .byte)) 2 := ⟨pm_T_in 1212 (by decide +kernel) (by decide +kernel), pm_T_in 68 (by decide +kernel) (by decide +kernel), ⟨by decide +kernel, by decide +kernel, by decide +kernel⟩, by decide +kernel, by decide⟩
abbrev cJ0_getBytes_840e7 : ByteArray := prog_33_method_147_code
def yJ0_getBytes_840e7 : MethodName := ⟨RJ0, "getBytes", "([BIB)V"⟩
theorem dJ0_getBytes_840e7_0 : decode cJ0_getBytes_840e7 0 = .ok (.aload_n 0, 1) := by decide +kernel
theorem dJ0_getBytes_840e7_1 : decode cJ0_getBytes_840e7 1 = .ok (.invokevirtual 335, 3) := by decide +kernel
theorem dJ0_getBytes_840e7_4 : decode cJ0_getBytes_840e7 4 = .ok (.iload_n 3, 1) := by decide +kernel
theorem dJ0_getBytes_840e7_5 : decode cJ0_getBytes_840e7 5 = .ok (.if_icmp .ne 23, 3) := by decide +kernel
theorem dJ0_getBytes_840e7_8 : decode cJ0_getBytes_840e7 8 = .ok (.aload_n 0, 1) := by decide +kernel
theorem dJ0_getBytes_840e7_9 : decode cJ0_getBytes_840e7 9 = .ok (.getfield 9, 3) := by decide +kernel
theorem dJ0_getBytes_840e7_12 : decode cJ0_getBytes_840e7 12 = .ok (.iconst 0, 1) := by decide +kernel
theorem dJ0_getBytes_840e7_13 : decode cJ0_getBytes_840e7 13 = .ok (.aload_n 1, 1) := by decide +kernel
theorem dJ0_getBytes_840e7_14 : decode cJ0_getBytes_840e7 14 = .ok (.iload_n 2, 1) := by decide +kernel
theorem dJ0_getBytes_840e7_15 : decode cJ0_getBytes_840e7 15 = .ok (.iload_n 3, 1) := by decide +kernel
theorem dJ0_getBytes_840e7_16 : decode cJ0_getBytes_840e7 16 = .ok (.ishl, 1) := by decide +kernel
theorem dJ0_getBytes_840e7_17 : decode cJ0_getBytes_840e7 17 = .ok (.aload_n 0, 1) := by decide +kernel
theorem dJ0_getBytes_840e7_18 : decode cJ0_getBytes_840e7 18 = .ok (.getfield 9, 3) := by decide +kernel
theorem dJ0_getBytes_840e7_21 : decode cJ0_getBytes_840e7 21 = .ok (.arraylength, 1) := by decide +kernel
theorem dJ0_getBytes_840e7_22 : decode cJ0_getBytes_840e7 22 = .ok (.invokestatic 212, 3) := by decide +kernel
theorem dJ0_getBytes_840e7_25 : decode cJ0_getBytes_840e7 25 = .ok (.goto 18, 3) := by decide +kernel
theorem dJ0_getBytes_840e7_28 : decode cJ0_getBytes_840e7 28 = .ok (.aload_n 0, 1) := by decide +kernel
theorem dJ0_getBytes_840e7_29 : decode cJ0_getBytes_840e7 29 = .ok (.getfield 9, 3) := by decide +kernel
theorem dJ0_getBytes_840e7_32 : decode cJ0_getBytes_840e7 32 = .ok (.iconst 0, 1) := by decide +kernel
theorem dJ0_getBytes_840e7_33 : decode cJ0_getBytes_840e7 33 = .ok (.aload_n 1, 1) := by decide +kernel
theorem dJ0_getBytes_840e7_34 : decode cJ0_getBytes_840e7 34 = .ok (.iload_n 2, 1) := by decide +kernel
theorem dJ0_getBytes_840e7_35 : decode cJ0_getBytes_840e7 35 = .ok (.aload_n 0, 1) := by decide +kernel
theorem dJ0_getBytes_840e7_36 : decode cJ0_getBytes_840e7 36 = .ok (.getfield 9, 3) := by decide +kernel
theorem dJ0_getBytes_840e7_39 : decode cJ0_getBytes_840e7 39 = .ok (.arraylength, 1) := by decide +kernel
theorem dJ0_getBytes_840e7_40 : decode cJ0_getBytes_840e7 40 = .ok (.invokestatic 106, 3) := by decide +kernel
theorem dJ0_getBytes_840e7_43 : decode cJ0_getBytes_840e7 43 = .ok (.return_, 1) := by decide +kernel
theorem mt_J0_getBytes_840e7 : pm_Mt yJ0_getBytes_840e7 cJ0_getBytes_840e7 4 none 3 := ⟨pm_T_in 1320 (by decide +kernel) (by decide +kernel), pm_T_in 47 (by decide +kernel) (by decide +kernel), ⟨by decide +kernel, by decide +kernel, by decide +kernel⟩, by decide +kernel, by decide⟩
abbrev cJ5_inflateIfNeededFor_a7421 : ByteArray := prog_17_method_71_code
def yJ5_inflateIfNeededFor_a7421 : MethodName := ⟨RJ5, "inflateIfNeededFor", "(Ljava/lang/String;)V"⟩
theorem dJ5_inflateIfNeededFor_a7421_0 : decode cJ5_inflateIfNeededFor_a7421 0 = .ok (.getstatic 18, 3) := by decide +kernel
theorem dJ5_inflateIfNeededFor_a7421_3 : decode cJ5_inflateIfNeededFor_a7421 3 = .ok (.ifCond .eq 18, 3) := by decide +kernel
theorem dJ5_inflateIfNeededFor_a7421_6 : decode cJ5_inflateIfNeededFor_a7421 6 = .ok (.aload_n 0, 1) := by decide +kernel
theorem dJ5_inflateIfNeededFor_a7421_7 : decode cJ5_inflateIfNeededFor_a7421 7 = .ok (.getfield 22, 3) := by decide +kernel
theorem dJ5_inflateIfNeededFor_a7421_10 : decode cJ5_inflateIfNeededFor_a7421 10 = .ok (.aload_n 1, 1) := by decide +kernel
theorem dJ5_inflateIfNeededFor_a7421_11 : decode cJ5_inflateIfNeededFor_a7421 11 = .ok (.invokevirtual 40, 3) := by decide +kernel
theorem dJ5_inflateIfNeededFor_a7421_14 : decode cJ5_inflateIfNeededFor_a7421 14 = .ok (.if_icmp .eq 7, 3) := by decide +kernel
theorem dJ5_inflateIfNeededFor_a7421_17 : decode cJ5_inflateIfNeededFor_a7421 17 = .ok (.aload_n 0, 1) := by decide +kernel
theorem dJ5_inflateIfNeededFor_a7421_18 : decode cJ5_inflateIfNeededFor_a7421 18 = .ok (.invokevirtual 195, 3) := by decide +kernel
theorem dJ5_inflateIfNeededFor_a7421_21 : decode cJ5_inflateIfNeededFor_a7421 21 = .ok (.return_, 1) := by decide +kernel
theorem mt_J5_inflateIfNeededFor_a7421 : pm_Mt yJ5_inflateIfNeededFor_a7421 cJ5_inflateIfNeededFor_a7421 2 none 1 := ⟨pm_T_in 1296 (by decide +kernel) (by decide +kernel), pm_T_in 45 (by decide +kernel) (by decide +kernel), ⟨by decide +kernel, by decide +kernel, by decide +kernel⟩, by decide +kernel, by decide⟩
abbrev cJ5_putStringAt_47b60 : ByteArray := prog_17_method_73_code
def yJ5_putStringAt_47b60 : MethodName := ⟨RJ5, "putStringAt", "(ILjava/lang/String;)V"⟩
theorem dJ5_putStringAt_47b60_0 : decode cJ5_putStringAt_47b60 0 = .ok (.aload_n 0, 1) := by decide +kernel
theorem dJ5_putStringAt_47b60_1 : decode cJ5_putStringAt_47b60 1 = .ok (.aload_n 2, 1) := by decide +kernel
theorem dJ5_putStringAt_47b60_2 : decode cJ5_putStringAt_47b60 2 = .ok (.invokevirtual 397, 3) := by decide +kernel
theorem dJ5_putStringAt_47b60_5 : decode cJ5_putStringAt_47b60 5 = .ok (.aload_n 2, 1) := by decide +kernel
theorem dJ5_putStringAt_47b60_6 : decode cJ5_putStringAt_47b60 6 = .ok (.aload_n 0, 1) := by decide +kernel
theorem dJ5_putStringAt_47b60_7 : decode cJ5_putStringAt_47b60 7 = .ok (.getfield 15, 3) := by decide +kernel
theorem dJ5_putStringAt_47b60_10 : decode cJ5_putStringAt_47b60 10 = .ok (.iload_n 1, 1) := by decide +kernel
theorem dJ5_putStringAt_47b60_11 : decode cJ5_putStringAt_47b60 11 = .ok (.aload_n 0, 1) := by decide +kernel
theorem dJ5_putStringAt_47b60_12 : decode cJ5_putStringAt_47b60 12 = .ok (.getfield 22, 3) := by decide +kernel
theorem dJ5_putStringAt_47b60_15 : decode cJ5_putStringAt_47b60 15 = .ok (.invokevirtual 399, 3) := by decide +kernel
theorem dJ5_putStringAt_47b60_18 : decode cJ5_putStringAt_47b60 18 = .ok (.return_, 1) := by decide +kernel
theorem mt_J5_putStringAt_47b60 : pm_Mt yJ5_putStringAt_47b60 cJ5_putStringAt_47b60 3 none 2 := ⟨pm_T_in 1292 (by decide +kernel) (by decide +kernel), pm_T_in 45 (by decide +kernel) (by decide +kernel), ⟨by decide +kernel, by decide +kernel, by decide +kernel⟩, by decide +kernel, by decide⟩
abbrev cJ5_append_cf1ce : ByteArray := prog_17_method_22_code
def yJ5_append_cf1ce : MethodName := ⟨RJ5, "append", "(Ljava/lang/String;)Ljava/lang/AbstractStringBuilder;"⟩
theorem dJ5_append_cf1ce_0 : decode cJ5_append_cf1ce 0 = .ok (.aload_n 1, 1) := by decide +kernel
theorem dJ5_append_cf1ce_1 : decode cJ5_append_cf1ce 1 = .ok (.ifnonnull 8, 3) := by decide +kernel
theorem dJ5_append_cf1ce_4 : decode cJ5_append_cf1ce 4 = .ok (.aload_n 0, 1) := by decide +kernel
theorem dJ5_append_cf1ce_5 : decode cJ5_append_cf1ce 5 = .ok (.invokevirtual 204, 3) := by decide +kernel
theorem dJ5_append_cf1ce_8 : decode cJ5_append_cf1ce 8 = .ok (.areturn, 1) := by decide +kernel
theorem dJ5_append_cf1ce_9 : decode cJ5_append_cf1ce 9 = .ok (.aload_n 1, 1) := by decide +kernel
theorem dJ5_append_cf1ce_10 : decode cJ5_append_cf1ce 10 = .ok (.invokevirtual 32, 3) := by decide +kernel
theorem dJ5_append_cf1ce_13 : decode cJ5_append_cf1ce 13 = .ok (.istore_n 2, 1) := by decide +kernel
theorem dJ5_append_cf1ce_14 : decode cJ5_append_cf1ce 14 = .ok (.aload_n 0, 1) := by decide +kernel
theorem dJ5_append_cf1ce_15 : decode cJ5_append_cf1ce 15 = .ok (.aload_n 0, 1) := by decide +kernel
theorem dJ5_append_cf1ce_16 : decode cJ5_append_cf1ce 16 = .ok (.getfield 79, 3) := by decide +kernel
theorem dJ5_append_cf1ce_19 : decode cJ5_append_cf1ce 19 = .ok (.iload_n 2, 1) := by decide +kernel
theorem dJ5_append_cf1ce_20 : decode cJ5_append_cf1ce 20 = .ok (.iadd, 1) := by decide +kernel
theorem dJ5_append_cf1ce_21 : decode cJ5_append_cf1ce 21 = .ok (.invokevirtual 100, 3) := by decide +kernel
theorem dJ5_append_cf1ce_24 : decode cJ5_append_cf1ce 24 = .ok (.aload_n 0, 1) := by decide +kernel
theorem dJ5_append_cf1ce_25 : decode cJ5_append_cf1ce 25 = .ok (.aload_n 0, 1) := by decide +kernel
theorem dJ5_append_cf1ce_26 : decode cJ5_append_cf1ce 26 = .ok (.getfield 79, 3) := by decide +kernel
theorem dJ5_append_cf1ce_29 : decode cJ5_append_cf1ce 29 = .ok (.aload_n 1, 1) := by decide +kernel
theorem dJ5_append_cf1ce_30 : decode cJ5_append_cf1ce 30 = .ok (.invokevirtual 208, 3) := by decide +kernel
theorem dJ5_append_cf1ce_33 : decode cJ5_append_cf1ce 33 = .ok (.aload_n 0, 1) := by decide +kernel
theorem dJ5_append_cf1ce_34 : decode cJ5_append_cf1ce 34 = .ok (.dup, 1) := by decide +kernel
theorem dJ5_append_cf1ce_35 : decode cJ5_append_cf1ce 35 = .ok (.getfield 79, 3) := by decide +kernel
theorem dJ5_append_cf1ce_38 : decode cJ5_append_cf1ce 38 = .ok (.iload_n 2, 1) := by decide +kernel
theorem dJ5_append_cf1ce_39 : decode cJ5_append_cf1ce 39 = .ok (.iadd, 1) := by decide +kernel
theorem dJ5_append_cf1ce_40 : decode cJ5_append_cf1ce 40 = .ok (.putfield 79, 3) := by decide +kernel
theorem dJ5_append_cf1ce_43 : decode cJ5_append_cf1ce 43 = .ok (.aload_n 0, 1) := by decide +kernel
theorem dJ5_append_cf1ce_44 : decode cJ5_append_cf1ce 44 = .ok (.areturn, 1) := by decide +kernel
theorem mt_J5_append_cf1ce : pm_Mt yJ5_append_cf1ce cJ5_append_cf1ce 3 (some (.object "java/lang/AbstractStringBuilder")) 1 := ⟨pm_T_in 1272 (by decide +kernel) (by decide +kernel), pm_T_in 45 (by decide +kernel) (by decide +kernel), ⟨by decide +kernel, by decide +kernel, by decide +kernel⟩, by decide +kernel, by decide⟩
abbrev cJ4_append_15ec4 : ByteArray := prog_34_method_7_code
def yJ4_append_15ec4 : MethodName := ⟨RJ4, "append", "(Ljava/lang/String;)Ljava/lang/StringBuilder;"⟩
theorem dJ4_append_15ec4_0 : decode cJ4_append_15ec4 0 = .ok (.aload_n 0, 1) := by decide +kernel
theorem dJ4_append_15ec4_1 : decode cJ4_append_15ec4 1 = .ok (.aload_n 1, 1) := by decide +kernel
theorem dJ4_append_15ec4_2 : decode cJ4_append_15ec4 2 = .ok (.invokespecial 29, 3) := by decide +kernel
theorem dJ4_append_15ec4_5 : decode cJ4_append_15ec4 5 = .ok (.pop, 1) := by decide +kernel
theorem dJ4_append_15ec4_6 : decode cJ4_append_15ec4 6 = .ok (.aload_n 0, 1) := by decide +kernel
theorem dJ4_append_15ec4_7 : decode cJ4_append_15ec4 7 = .ok (.areturn, 1) := by decide +kernel
theorem mt_J4_append_15ec4 : pm_Mt yJ4_append_15ec4 cJ4_append_15ec4 2 (some (.object "java/lang/StringBuilder")) 1 := ⟨pm_T_in 1269 (by decide +kernel) (by decide +kernel), pm_T_in 46 (by decide +kernel) (by decide +kernel), ⟨by decide +kernel, by decide +kernel, by decide +kernel⟩, by decide +kernel, by decide⟩
abbrev cJ5_getValue_6d5f1 : ByteArray := prog_17_method_64_code
def yJ5_getValue_6d5f1 : MethodName := ⟨RJ5, "getValue", "()[B"⟩
theorem dJ5_getValue_6d5f1_0 : decode cJ5_getValue_6d5f1 0 = .ok (.aload_n 0, 1) := by decide +kernel
theorem dJ5_getValue_6d5f1_1 : decode cJ5_getValue_6d5f1 1 = .ok (.getfield 15, 3) := by decide +kernel
theorem dJ5_getValue_6d5f1_4 : decode cJ5_getValue_6d5f1 4 = .ok (.areturn, 1) := by decide +kernel
theorem mt_J5_getValue_6d5f1 : pm_Mt yJ5_getValue_6d5f1 cJ5_getValue_6d5f1 1 (some (.array .byte)) 0 := ⟨pm_T_in 1341 (by decide +kernel) (by decide +kernel), pm_T_in 45 (by decide +kernel) (by decide +kernel), ⟨by decide +kernel, by decide +kernel, by decide +kernel⟩, by decide +kernel, by decide⟩
abbrev cJ7_checkLength_df160 : ByteArray := prog_43_method_131_code
def yJ7_checkLength_df160 : MethodName := ⟨RJ7, "checkLength", "(II)V"⟩
theorem dJ7_checkLength_df160_0 : decode cJ7_checkLength_df160 0 = .ok (.iload_n 1, 1) := by decide +kernel
theorem dJ7_checkLength_df160_1 : decode cJ7_checkLength_df160 1 = .ok (.iload_n 0, 1) := by decide +kernel
theorem dJ7_checkLength_df160_2 : decode cJ7_checkLength_df160 2 = .ok (.if_icmp .ge 35, 3) := by decide +kernel
theorem dJ7_checkLength_df160_5 : decode cJ7_checkLength_df160 5 = .ok (.new 43, 3) := by decide +kernel
theorem dJ7_checkLength_df160_8 : decode cJ7_checkLength_df160 8 = .ok (.dup, 1) := by decide +kernel
theorem dJ7_checkLength_df160_9 : decode cJ7_checkLength_df160 9 = .ok (.new 45, 3) := by decide +kernel
theorem dJ7_checkLength_df160_12 : decode cJ7_checkLength_df160 12 = .ok (.dup, 1) := by decide +kernel
theorem dJ7_checkLength_df160_13 : decode cJ7_checkLength_df160 13 = .ok (.invokespecial 47, 3) := by decide +kernel
theorem dJ7_checkLength_df160_16 : decode cJ7_checkLength_df160 16 = .ok (.iload_n 0, 1) := by decide +kernel
theorem dJ7_checkLength_df160_17 : decode cJ7_checkLength_df160 17 = .ok (.invokevirtual 54, 3) := by decide +kernel
theorem dJ7_checkLength_df160_20 : decode cJ7_checkLength_df160 20 = .ok (.ldc_w 337, 3) := by decide +kernel
theorem dJ7_checkLength_df160_23 : decode cJ7_checkLength_df160 23 = .ok (.invokevirtual 50, 3) := by decide +kernel
theorem dJ7_checkLength_df160_26 : decode cJ7_checkLength_df160 26 = .ok (.iload_n 1, 1) := by decide +kernel
theorem dJ7_checkLength_df160_27 : decode cJ7_checkLength_df160 27 = .ok (.invokevirtual 54, 3) := by decide +kernel
theorem dJ7_checkLength_df160_30 : decode cJ7_checkLength_df160 30 = .ok (.invokevirtual 61, 3) := by decide +kernel
theorem dJ7_checkLength_df160_33 : decode cJ7_checkLength_df160 33 = .ok (.invokespecial 65, 3) := by decide +kernel
theorem dJ7_checkLength_df160_36 : decode cJ7_checkLength_df160 36 = .ok (.athrow, 1) := by decide +kernel
theorem dJ7_checkLength_df160_37 : decode cJ7_checkLength_df160 37 = .ok (.return_, 1) := by decide +kernel
theorem mt_J7_checkLength_df160 : pm_Mt yJ7_checkLength_df160 cJ7_checkLength_df160 2 none 2 := ⟨pm_T_in 1359 (by decide +kernel) (by decide +kernel), pm_T_in 68 (by decide +kernel) (by decide +kernel), ⟨by decide +kernel, by decide +kernel, by decide +kernel⟩, by decide +kernel, by decide⟩
abbrev cJ7_copyOfRangeByte_39247 : ByteArray := prog_43_method_133_code
def yJ7_copyOfRangeByte_39247 : MethodName := ⟨RJ7, "copyOfRangeByte", "([BII)[B"⟩
theorem dJ7_copyOfRangeByte_39247_0 : decode cJ7_copyOfRangeByte_39247 0 = .ok (.iload_n 1, 1) := by decide +kernel
theorem dJ7_copyOfRangeByte_39247_1 : decode cJ7_copyOfRangeByte_39247 1 = .ok (.iload_n 2, 1) := by decide +kernel
theorem dJ7_copyOfRangeByte_39247_2 : decode cJ7_copyOfRangeByte_39247 2 = .ok (.invokestatic 343, 3) := by decide +kernel
theorem dJ7_copyOfRangeByte_39247_5 : decode cJ7_copyOfRangeByte_39247 5 = .ok (.iload_n 2, 1) := by decide +kernel
theorem dJ7_copyOfRangeByte_39247_6 : decode cJ7_copyOfRangeByte_39247 6 = .ok (.iload_n 1, 1) := by decide +kernel
theorem dJ7_copyOfRangeByte_39247_7 : decode cJ7_copyOfRangeByte_39247 7 = .ok (.isub, 1) := by decide +kernel
theorem dJ7_copyOfRangeByte_39247_8 : decode cJ7_copyOfRangeByte_39247 8 = .ok (.istore_n 3, 1) := by decide +kernel
theorem dJ7_copyOfRangeByte_39247_9 : decode cJ7_copyOfRangeByte_39247 9 = .ok (.iload_n 3, 1) := by decide +kernel
theorem dJ7_copyOfRangeByte_39247_10 : decode cJ7_copyOfRangeByte_39247 10 = .ok (.newarray .byte, 2) := by decide +kernel
theorem dJ7_copyOfRangeByte_39247_12 : decode cJ7_copyOfRangeByte_39247 12 = .ok (.astore 4, 2) := by decide +kernel
theorem dJ7_copyOfRangeByte_39247_14 : decode cJ7_copyOfRangeByte_39247 14 = .ok (.aload_n 0, 1) := by decide +kernel
theorem dJ7_copyOfRangeByte_39247_15 : decode cJ7_copyOfRangeByte_39247 15 = .ok (.iload_n 1, 1) := by decide +kernel
theorem dJ7_copyOfRangeByte_39247_16 : decode cJ7_copyOfRangeByte_39247 16 = .ok (.aload 4, 2) := by decide +kernel
theorem dJ7_copyOfRangeByte_39247_18 : decode cJ7_copyOfRangeByte_39247 18 = .ok (.iconst 0, 1) := by decide +kernel
theorem dJ7_copyOfRangeByte_39247_19 : decode cJ7_copyOfRangeByte_39247 19 = .ok (.aload_n 0, 1) := by decide +kernel
theorem dJ7_copyOfRangeByte_39247_20 : decode cJ7_copyOfRangeByte_39247 20 = .ok (.arraylength, 1) := by decide +kernel
theorem dJ7_copyOfRangeByte_39247_21 : decode cJ7_copyOfRangeByte_39247 21 = .ok (.iload_n 1, 1) := by decide +kernel
theorem dJ7_copyOfRangeByte_39247_22 : decode cJ7_copyOfRangeByte_39247 22 = .ok (.isub, 1) := by decide +kernel
theorem dJ7_copyOfRangeByte_39247_23 : decode cJ7_copyOfRangeByte_39247 23 = .ok (.iload_n 3, 1) := by decide +kernel
theorem dJ7_copyOfRangeByte_39247_24 : decode cJ7_copyOfRangeByte_39247 24 = .ok (.invokestatic 304, 3) := by decide +kernel
theorem dJ7_copyOfRangeByte_39247_27 : decode cJ7_copyOfRangeByte_39247 27 = .ok (.invokestatic 150, 3) := by decide +kernel
theorem dJ7_copyOfRangeByte_39247_30 : decode cJ7_copyOfRangeByte_39247 30 = .ok (.aload 4, 2) := by decide +kernel
theorem dJ7_copyOfRangeByte_39247_32 : decode cJ7_copyOfRangeByte_39247 32 = .ok (.areturn, 1) := by decide +kernel
theorem mt_J7_copyOfRangeByte_39247 : pm_Mt yJ7_copyOfRangeByte_39247 cJ7_copyOfRangeByte_39247 5 (some (.array .byte)) 3 := ⟨pm_T_in 1356 (by decide +kernel) (by decide +kernel), pm_T_in 68 (by decide +kernel) (by decide +kernel), ⟨by decide +kernel, by decide +kernel, by decide +kernel⟩, by decide +kernel, by decide⟩
abbrev cJ7_copyOfRange_39247 : ByteArray := prog_43_method_132_code
def yJ7_copyOfRange_39247 : MethodName := ⟨RJ7, "copyOfRange", "([BII)[B"⟩
theorem dJ7_copyOfRange_39247_0 : decode cJ7_copyOfRange_39247 0 = .ok (.iload_n 1, 1) := by decide +kernel
theorem dJ7_copyOfRange_39247_1 : decode cJ7_copyOfRange_39247 1 = .ok (.ifCond .ne 9, 3) := by decide +kernel
theorem dJ7_copyOfRange_39247_4 : decode cJ7_copyOfRange_39247 4 = .ok (.iload_n 2, 1) := by decide +kernel
theorem dJ7_copyOfRange_39247_5 : decode cJ7_copyOfRange_39247 5 = .ok (.aload_n 0, 1) := by decide +kernel
theorem dJ7_copyOfRange_39247_6 : decode cJ7_copyOfRange_39247 6 = .ok (.arraylength, 1) := by decide +kernel
theorem dJ7_copyOfRange_39247_7 : decode cJ7_copyOfRange_39247 7 = .ok (.if_icmp .eq 10, 3) := by decide +kernel
theorem dJ7_copyOfRange_39247_10 : decode cJ7_copyOfRange_39247 10 = .ok (.aload_n 0, 1) := by decide +kernel
theorem dJ7_copyOfRange_39247_11 : decode cJ7_copyOfRange_39247 11 = .ok (.iload_n 1, 1) := by decide +kernel
theorem dJ7_copyOfRange_39247_12 : decode cJ7_copyOfRange_39247 12 = .ok (.iload_n 2, 1) := by decide +kernel
theorem dJ7_copyOfRange_39247_13 : decode cJ7_copyOfRange_39247 13 = .ok (.invokestatic 339, 3) := by decide +kernel
theorem dJ7_copyOfRange_39247_16 : decode cJ7_copyOfRange_39247 16 = .ok (.areturn, 1) := by decide +kernel
theorem dJ7_copyOfRange_39247_17 : decode cJ7_copyOfRange_39247 17 = .ok (.aload_n 0, 1) := by decide +kernel
theorem dJ7_copyOfRange_39247_18 : decode cJ7_copyOfRange_39247 18 = .ok (.invokevirtual 310, 3) := by decide +kernel
theorem dJ7_copyOfRange_39247_21 : decode cJ7_copyOfRange_39247 21 = .ok (.checkcast 311, 3) := by decide +kernel
theorem dJ7_copyOfRange_39247_24 : decode cJ7_copyOfRange_39247 24 = .ok (.areturn, 1) := by decide +kernel
theorem mt_J7_copyOfRange_39247 : pm_Mt yJ7_copyOfRange_39247 cJ7_copyOfRange_39247 3 (some (.array .byte)) 3 := ⟨pm_T_in 1353 (by decide +kernel) (by decide +kernel), pm_T_in 68 (by decide +kernel) (by decide +kernel), ⟨by decide +kernel, by decide +kernel, by decide +kernel⟩, by decide +kernel, by decide⟩
abbrev cJ0_init_db425 : ByteArray := prog_33_method_150_code
def yJ0_init_db425 : MethodName := ⟨RJ0, "<init>", "(Ljava/lang/AbstractStringBuilder;Ljava/lang/Void;)V"⟩
theorem dJ0_init_db425_0 : decode cJ0_init_db425 0 = .ok (.aload_n 0, 1) := by decide +kernel
theorem dJ0_init_db425_1 : decode cJ0_init_db425 1 = .ok (.invokespecial 1, 3) := by decide +kernel
theorem dJ0_init_db425_4 : decode cJ0_init_db425 4 = .ok (.aload_n 1, 1) := by decide +kernel
theorem dJ0_init_db425_5 : decode cJ0_init_db425 5 = .ok (.invokevirtual 552, 3) := by decide +kernel
theorem dJ0_init_db425_8 : decode cJ0_init_db425 8 = .ok (.astore_n 3, 1) := by decide +kernel
theorem dJ0_init_db425_9 : decode cJ0_init_db425 9 = .ok (.aload_n 1, 1) := by decide +kernel
theorem dJ0_init_db425_10 : decode cJ0_init_db425 10 = .ok (.invokevirtual 549, 3) := by decide +kernel
theorem dJ0_init_db425_13 : decode cJ0_init_db425 13 = .ok (.istore 4, 2) := by decide +kernel
theorem dJ0_init_db425_15 : decode cJ0_init_db425 15 = .ok (.aload_n 1, 1) := by decide +kernel
theorem dJ0_init_db425_16 : decode cJ0_init_db425 16 = .ok (.invokevirtual 1047, 3) := by decide +kernel
theorem dJ0_init_db425_19 : decode cJ0_init_db425 19 = .ok (.ifCond .eq 22, 3) := by decide +kernel
theorem dJ0_init_db425_22 : decode cJ0_init_db425 22 = .ok (.aload_n 0, 1) := by decide +kernel
theorem dJ0_init_db425_23 : decode cJ0_init_db425 23 = .ok (.iconst 0, 1) := by decide +kernel
theorem dJ0_init_db425_24 : decode cJ0_init_db425 24 = .ok (.putfield 15, 3) := by decide +kernel
theorem dJ0_init_db425_27 : decode cJ0_init_db425 27 = .ok (.aload_n 0, 1) := by decide +kernel
theorem dJ0_init_db425_28 : decode cJ0_init_db425 28 = .ok (.aload_n 3, 1) := by decide +kernel
theorem dJ0_init_db425_29 : decode cJ0_init_db425 29 = .ok (.iconst 0, 1) := by decide +kernel
theorem dJ0_init_db425_30 : decode cJ0_init_db425 30 = .ok (.iload 4, 2) := by decide +kernel
theorem dJ0_init_db425_32 : decode cJ0_init_db425 32 = .ok (.invokestatic 54, 3) := by decide +kernel
theorem dJ0_init_db425_35 : decode cJ0_init_db425 35 = .ok (.putfield 9, 3) := by decide +kernel
theorem dJ0_init_db425_38 : decode cJ0_init_db425 38 = .ok (.goto 59, 3) := by decide +kernel
theorem dJ0_init_db425_41 : decode cJ0_init_db425 41 = .ok (.getstatic 38, 3) := by decide +kernel
theorem dJ0_init_db425_44 : decode cJ0_init_db425 44 = .ok (.ifCond .eq 35, 3) := by decide +kernel
theorem dJ0_init_db425_47 : decode cJ0_init_db425 47 = .ok (.aload_n 1, 1) := by decide +kernel
theorem dJ0_init_db425_48 : decode cJ0_init_db425 48 = .ok (.getfield 1048, 3) := by decide +kernel
theorem dJ0_init_db425_51 : decode cJ0_init_db425 51 = .ok (.ifCond .eq 28, 3) := by decide +kernel
theorem dJ0_init_db425_54 : decode cJ0_init_db425 54 = .ok (.aload_n 0, 1) := by decide +kernel
theorem dJ0_init_db425_55 : decode cJ0_init_db425 55 = .ok (.aload_n 3, 1) := by decide +kernel
theorem dJ0_init_db425_56 : decode cJ0_init_db425 56 = .ok (.iconst 0, 1) := by decide +kernel
theorem dJ0_init_db425_57 : decode cJ0_init_db425 57 = .ok (.iload 4, 2) := by decide +kernel
theorem dJ0_init_db425_59 : decode cJ0_init_db425 59 = .ok (.invokestatic 1051, 3) := by decide +kernel
theorem dJ0_init_db425_62 : decode cJ0_init_db425 62 = .ok (.putfield 9, 3) := by decide +kernel
theorem dJ0_init_db425_65 : decode cJ0_init_db425 65 = .ok (.aload_n 0, 1) := by decide +kernel
theorem dJ0_init_db425_66 : decode cJ0_init_db425 66 = .ok (.aload_n 0, 1) := by decide +kernel
theorem dJ0_init_db425_67 : decode cJ0_init_db425 67 = .ok (.getfield 9, 3) := by decide +kernel
theorem dJ0_init_db425_70 : decode cJ0_init_db425 70 = .ok (.iload 4, 2) := by decide +kernel
theorem dJ0_init_db425_72 : decode cJ0_init_db425 72 = .ok (.invokestatic 47, 3) := by decide +kernel
theorem dJ0_init_db425_75 : decode cJ0_init_db425 75 = .ok (.putfield 15, 3) := by decide +kernel
theorem dJ0_init_db425_78 : decode cJ0_init_db425 78 = .ok (.return_, 1) := by decide +kernel
theorem dJ0_init_db425_79 : decode cJ0_init_db425 79 = .ok (.aload_n 0, 1) := by decide +kernel
theorem dJ0_init_db425_80 : decode cJ0_init_db425 80 = .ok (.iconst 1, 1) := by decide +kernel
theorem dJ0_init_db425_81 : decode cJ0_init_db425 81 = .ok (.putfield 15, 3) := by decide +kernel
theorem dJ0_init_db425_84 : decode cJ0_init_db425 84 = .ok (.aload_n 0, 1) := by decide +kernel
theorem dJ0_init_db425_85 : decode cJ0_init_db425 85 = .ok (.aload_n 3, 1) := by decide +kernel
theorem dJ0_init_db425_86 : decode cJ0_init_db425 86 = .ok (.iconst 0, 1) := by decide +kernel
theorem dJ0_init_db425_87 : decode cJ0_init_db425 87 = .ok (.iload 4, 2) := by decide +kernel
theorem dJ0_init_db425_89 : decode cJ0_init_db425 89 = .ok (.iconst 1, 1) := by decide +kernel
theorem dJ0_init_db425_90 : decode cJ0_init_db425 90 = .ok (.ishl, 1) := by decide +kernel
theorem dJ0_init_db425_91 : decode cJ0_init_db425 91 = .ok (.invokestatic 54, 3) := by decide +kernel
theorem dJ0_init_db425_94 : decode cJ0_init_db425 94 = .ok (.putfield 9, 3) := by decide +kernel
theorem dJ0_init_db425_97 : decode cJ0_init_db425 97 = .ok (.return_, 1) := by decide +kernel
theorem mt_J0_init_db425 : pm_Mt yJ0_init_db425 cJ0_init_db425 5 none 2 := ⟨pm_T_in 1335 (by decide +kernel) (by decide +kernel), pm_T_in 47 (by decide +kernel) (by decide +kernel), ⟨by decide +kernel, by decide +kernel, by decide +kernel⟩, by decide +kernel, by decide⟩
abbrev cJ0_init_81219 : ByteArray := prog_33_method_53_code
def yJ0_init_81219 : MethodName := ⟨RJ0, "<init>", "(Ljava/lang/StringBuilder;)V"⟩
theorem dJ0_init_81219_0 : decode cJ0_init_81219 0 = .ok (.aload_n 0, 1) := by decide +kernel
theorem dJ0_init_81219_1 : decode cJ0_init_81219 1 = .ok (.aload_n 1, 1) := by decide +kernel
theorem dJ0_init_81219_2 : decode cJ0_init_81219 2 = .ok (.aconst_null, 1) := by decide +kernel
theorem dJ0_init_81219_3 : decode cJ0_init_81219 3 = .ok (.invokespecial 489, 3) := by decide +kernel
theorem dJ0_init_81219_6 : decode cJ0_init_81219 6 = .ok (.return_, 1) := by decide +kernel
theorem mt_J0_init_81219 : pm_Mt yJ0_init_81219 cJ0_init_81219 2 none 1 := ⟨pm_T_in 1332 (by decide +kernel) (by decide +kernel), pm_T_in 47 (by decide +kernel) (by decide +kernel), ⟨by decide +kernel, by decide +kernel, by decide +kernel⟩, by decide +kernel, by decide⟩
abbrev cJ4_toString_0e30d : ByteArray := prog_34_method_42_code
def yJ4_toString_0e30d : MethodName := ⟨RJ4, "toString", "()Ljava/lang/String;"⟩
theorem dJ4_toString_0e30d_0 : decode cJ4_toString_0e30d 0 = .ok (.new 18, 3) := by decide +kernel
theorem dJ4_toString_0e30d_3 : decode cJ4_toString_0e30d 3 = .ok (.dup, 1) := by decide +kernel
theorem dJ4_toString_0e30d_4 : decode cJ4_toString_0e30d 4 = .ok (.aload_n 0, 1) := by decide +kernel
theorem dJ4_toString_0e30d_5 : decode cJ4_toString_0e30d 5 = .ok (.invokespecial 137, 3) := by decide +kernel
theorem dJ4_toString_0e30d_8 : decode cJ4_toString_0e30d 8 = .ok (.areturn, 1) := by decide +kernel
theorem mt_J4_toString_0e30d : pm_Mt yJ4_toString_0e30d cJ4_toString_0e30d 1 (some (.object "java/lang/String")) 0 := ⟨pm_T_in 1328 (by decide +kernel) (by decide +kernel), pm_T_in 46 (by decide +kernel) (by decide +kernel), ⟨by decide +kernel, by decide +kernel, by decide +kernel⟩, by decide +kernel, by decide⟩
set_option maxRecDepth 100000 in
set_option maxHeartbeats 4000000 in
theorem c_J8_newLength_cabcc {l : Launch} {z : Nat} {D : va_G} {kA : Nat → ClassId} {kE : Nat → Nat} {nx : Nat} {M : pm_M} {g : Int32} (hg : pm_max g 18 = 18) : pm_C l z D kA kE yJ8_newLength_cabcc cJ8_newLength_cabcc 4 (some .int) 1 0 0 [.int (nI 16), .int g, .int 18] nx M (pm_rt (some (.int 34)) nx M) := by
  refine pm_mk (own := RJ8) (nm := "newLength") mt_J8_newLength_cabcc rfl rfl rfl rfl fun X B => ?_
  refine pm_loc (L' := [some (.int (nI 16)), some (.int g), some (.int 18), none]) rfl ?_
  refine pm_iload_n B dJ8_newLength_cabcc_0 rfl ?_
  refine pm_iload_n B dJ8_newLength_cabcc_1 rfl ?_
  refine pm_iload_n B dJ8_newLength_cabcc_2 rfl ?_
  refine pm_mmax B dJ8_newLength_cabcc_3 (pm_T_in 1204 (by decide +kernel) (by decide +kernel)) rfl rfl rfl rfl ?_
  refine pm_stk (st' := [.int 18, .int (nI 16)]) (by rw [show (pm_max g 18) = 18 from hg]) ?_
  refine pm_iadd B dJ8_newLength_cabcc_6 ?_
  refine pm_stk (st' := [.int (nI (16 + 18))]) (by rw [show ((nI 16) + 18) = (nI (16 + 18)) from (by rw [show (nI 16) = nI 16 from rfl, show 18 = nI 18 from rfl, nI_add])]) ?_
  refine pm_stk (st' := [.int 34]) (by rw [show (nI (16 + 18)) = 34 from (by decide)]) ?_
  refine pm_istore_n B dJ8_newLength_cabcc_7 rfl rfl ?_
  refine pm_loc (L' := [some (.int (nI 16)), some (.int g), some (.int 18), some (.int 34)]) rfl ?_
  refine pm_iconst (v := 0) B dJ8_newLength_cabcc_8 (by decide) ?_
  refine pm_iload_n B dJ8_newLength_cabcc_9 rfl ?_
  refine pm_icmp_ge (tgt := 21) B dJ8_newLength_cabcc_10 (by decide) (fun hq1 => absurd hq1 (by decide)) (fun hq1 => ?_)
  refine pm_iload_n B dJ8_newLength_cabcc_13 rfl ?_
  refine pm_ldc (v := 2147483639) B dJ8_newLength_cabcc_14 (pm_T_in 1205 (by decide +kernel) (by decide +kernel)) ?_
  refine pm_icmp_gt (tgt := 21) B dJ8_newLength_cabcc_16 (by decide) (fun hq2 => absurd hq2 (by decide)) (fun hq2 => ?_)
  refine pm_iload_n B dJ8_newLength_cabcc_19 rfl ?_
  exact pm_ireturn B dJ8_newLength_cabcc_20 rfl (by first | rfl | (apply pm_nz; first | assumption | decide | exact pm_in01 _ _ _ | simp)) ⟨rfl, rfl, rfl⟩ rfl rfl
theorem ss_J5_114 : pm_SS RJ5 114 yJ8_newLength_cabcc := ⟨pm_T_in 1201 (by decide +kernel) (by decide +kernel), pm_T_in 1202 (by decide +kernel) (by decide +kernel)⟩
set_option maxRecDepth 100000 in
set_option maxHeartbeats 4000000 in
theorem c_J5_newCapacity_0f7a4 {l : Launch} {z : Nat} {D : va_G} {kA : Nat → ClassId} {kE : Nat → Nat} {nx : Nat} {M : pm_M} {a b c : Nat} {ml : Int32} (hM : M a = some (.inr (12, [.ref (z + b), .int 0, .int ml, .int (nI c)]))) {f : Nat → Int32} (hB : M b = some (.inl (kA 4, 16, .inl f))) {x : Nat} (hx : x < 35) (hx2 : 16 < x) : pm_C l z D kA kE yJ5_newCapacity_0f7a4 cJ5_newCapacity_0f7a4 6 (some .int) 2 0 0 [.ref (z + a), .int (nI x)] nx M (pm_rt (some (.int 34)) nx M) := by
  refine pm_mk (own := RJ5) (nm := "newCapacity") mt_J5_newCapacity_0f7a4 rfl rfl rfl rfl fun X B => ?_
  refine pm_loc (L' := [some (.ref (z + a)), some (.int (nI x)), none, none, none, none]) rfl ?_
  refine pm_aload_n B dJ5_newCapacity_0f7a4_0 rfl ?_
  refine pm_get B dJ5_newCapacity_0f7a4_1 fl_J5_15 hM rfl ?_
  refine pm_alen B dJ5_newCapacity_0f7a4_4 hB rfl rfl ?_
  refine pm_stk (st' := [.int (nI 16)]) rfl ?_
  refine pm_istore_n B dJ5_newCapacity_0f7a4_5 rfl rfl ?_
  refine pm_loc (L' := [some (.ref (z + a)), some (.int (nI x)), some (.int (nI 16)), none, none, none]) rfl ?_
  refine pm_iload_n B dJ5_newCapacity_0f7a4_6 rfl ?_
  refine pm_aload_n B dJ5_newCapacity_0f7a4_7 rfl ?_
  refine pm_get B dJ5_newCapacity_0f7a4_8 fl_J5_22 hM rfl ?_
  refine pm_ishl B dJ5_newCapacity_0f7a4_11 ?_
  refine pm_stk (st' := [.int (nI x)]) (by rw [show ((nI x) <<< (0 &&& 31)) = (nI x) from pm_shl0 _ (by omega)]) ?_
  refine pm_istore_n B dJ5_newCapacity_0f7a4_12 rfl rfl ?_
  refine pm_loc (L' := [some (.ref (z + a)), some (.int (nI x)), some (.int (nI 16)), some (.int (nI x)), none, none]) rfl ?_
  refine pm_iload_n B dJ5_newCapacity_0f7a4_13 rfl ?_
  refine pm_iload_n B dJ5_newCapacity_0f7a4_14 rfl ?_
  refine pm_isub B dJ5_newCapacity_0f7a4_15 ?_
  refine pm_istore B dJ5_newCapacity_0f7a4_16 rfl rfl ?_
  refine pm_loc (L' := [some (.ref (z + a)), some (.int (nI x)), some (.int (nI 16)), some (.int (nI x)), some (.int ((nI x) - (nI 16))), none]) rfl ?_
  refine pm_iload_n B dJ5_newCapacity_0f7a4_18 rfl ?_
  refine pm_iload B dJ5_newCapacity_0f7a4_19 rfl ?_
  refine pm_iload_n B dJ5_newCapacity_0f7a4_21 rfl ?_
  refine pm_iconst (v := 2) B dJ5_newCapacity_0f7a4_22 (by decide) ?_
  refine pm_aload_n B dJ5_newCapacity_0f7a4_23 rfl ?_
  refine pm_get B dJ5_newCapacity_0f7a4_24 fl_J5_22 hM rfl ?_
  refine pm_ishl B dJ5_newCapacity_0f7a4_27 ?_
  refine pm_stk (st' := [.int 2, .int (nI 16), .int ((nI x) - (nI 16)), .int (nI 16)]) (congrArg (fun yy : Int32 => ([.int yy, .int (nI 16), .int ((nI x) - (nI 16)), .int (nI 16)] : List Value)) (show (2 : Int32) <<< ((0 : Int32) &&& 31) = 2 from by decide)) ?_
  refine pm_iadd B dJ5_newCapacity_0f7a4_28 ?_
  refine pm_stk (st' := [.int (nI (16 + 2)), .int ((nI x) - (nI 16)), .int (nI 16)]) (by rw [show ((nI 16) + 2) = (nI (16 + 2)) from (by rw [show (nI 16) = nI 16 from rfl, show 2 = nI 2 from rfl, nI_add])]) ?_
  refine pm_stk (st' := [.int 18, .int ((nI x) - (nI 16)), .int (nI 16)]) (by rw [show (nI (16 + 2)) = 18 from (by decide)]) ?_
  refine pm_cS (As := [.int (nI 16), .int ((nI x) - (nI 16)), .int 18]) (mc2 := 0) (ms2 := 0) B (c_J8_newLength_cabcc (pm_gtN x hx hx2).2) mt_J8_newLength_cabcc ss_J5_114 dJ5_newCapacity_0f7a4_29 rfl rfl rfl rfl rfl ?_
  refine pm_stk (st' := [.int 34]) rfl ?_
  refine pm_istore B dJ5_newCapacity_0f7a4_32 rfl rfl ?_
  refine pm_loc (L' := [some (.ref (z + a)), some (.int (nI x)), some (.int (nI 16)), some (.int (nI x)), some (.int ((nI x) - (nI 16))), some (.int 34)]) rfl ?_
  refine pm_iload B dJ5_newCapacity_0f7a4_34 rfl ?_
  refine pm_ldc (v := 2147483647) B dJ5_newCapacity_0f7a4_36 (pm_T_in 1209 (by decide +kernel) (by decide +kernel)) ?_
  refine pm_icmp_ne (tgt := 51) B dJ5_newCapacity_0f7a4_38 (by decide) (fun hq1 => ?_) (fun hq1 => absurd hq1 (by decide))
  refine pm_iload B dJ5_newCapacity_0f7a4_51 rfl ?_
  refine pm_aload_n B dJ5_newCapacity_0f7a4_53 rfl ?_
  refine pm_get B dJ5_newCapacity_0f7a4_54 fl_J5_22 hM rfl ?_
  refine pm_ishr B dJ5_newCapacity_0f7a4_57 ?_
  refine pm_stk (st' := [.int 34]) (congrArg (fun yy : Int32 => ([.int yy] : List Value)) (show (34 : Int32) >>> ((0 : Int32) &&& 31) = 34 from by decide)) ?_
  exact pm_ireturn B dJ5_newCapacity_0f7a4_58 rfl (by first | rfl | (apply pm_nz; first | assumption | decide | exact pm_in01 _ _ _ | simp)) ⟨rfl, rfl, rfl⟩ rfl rfl
set_option maxRecDepth 100000 in
set_option maxHeartbeats 4000000 in
theorem c_J7_copyOf_9075b {l : Launch} {z : Nat} {D : va_G} {kA : Nat → ClassId} {kE : Nat → Nat} {nx : Nat} {M : pm_M} {b : Nat} {f : Nat → Int32} (hB : M b = some (.inl (kA 4, 16, .inl f))) (hbn : b < nx) (hfit : ∀ i, i < 16 → fits .byte (.int (f i)) = true) : pm_C l z D kA kE yJ7_copyOf_9075b cJ7_copyOf_9075b 3 (some (.array .byte)) 3 1 34 [.ref (z + b), .int 34] nx M (pm_rt (some (.ref (z + nx))) (nx + 1) (pm_up M nx (.inl (kA 4, 34, .inl (va_cpy f (fun _ => 0) 0 0 16))))) := by
  refine pm_mk (own := RJ7) (nm := "copyOf") mt_J7_copyOf_9075b rfl rfl rfl rfl fun X B => ?_
  refine pm_loc (L' := [some (.ref (z + b)), some (.int 34), none]) rfl ?_
  refine pm_iload_n B dJ7_copyOf_9075b_0 rfl ?_
  refine pm_aload_n B dJ7_copyOf_9075b_1 rfl ?_
  refine pm_alen B dJ7_copyOf_9075b_2 hB rfl rfl ?_
  refine pm_stk (st' := [.int (nI 16), .int 34]) rfl ?_
  refine pm_icmp_ne (tgt := 14) B dJ7_copyOf_9075b_3 (by decide) (fun hq1 => ?_) (fun hq1 => absurd hq1 (by decide))
  refine pm_iload_n B dJ7_copyOf_9075b_14 rfl ?_
  refine pm_newb (N := 34) B dJ7_copyOf_9075b_15 (pm_T_in 333 (by decide +kernel) (by decide +kernel)) rfl (Nat.ble_eq_true_of_le (by omega)) (by omega) (by omega) ?_
  refine pm_mem (M' := pm_up M nx (.inl (kA 4, 34, .inl (fun _ => 0)))) rfl ?_
  refine pm_astore_n B dJ7_copyOf_9075b_17 rfl rfl ?_
  refine pm_loc (L' := [some (.ref (z + b)), some (.int 34), some (.ref (z + nx))]) rfl ?_
  refine pm_aload_n B dJ7_copyOf_9075b_18 rfl ?_
  refine pm_iconst (v := 0) B dJ7_copyOf_9075b_19 (by decide) ?_
  refine pm_aload_n B dJ7_copyOf_9075b_20 rfl ?_
  refine pm_iconst (v := 0) B dJ7_copyOf_9075b_21 (by decide) ?_
  refine pm_aload_n B dJ7_copyOf_9075b_22 rfl ?_
  refine pm_alen B dJ7_copyOf_9075b_23 ((pm_up_n (by omega)).trans hB) rfl rfl ?_
  refine pm_stk (st' := [.int (nI 16), .int 0, .ref (z + nx), .int 0, .ref (z + b)]) rfl ?_
  refine pm_iload_n B dJ7_copyOf_9075b_24 rfl ?_
  refine pm_mmin B dJ7_copyOf_9075b_25 (pm_T_in 1220 (by decide +kernel) (by decide +kernel)) rfl rfl rfl rfl ?_
  refine pm_stk (st' := [.int (nI 16), .int 0, .ref (z + nx), .int 0, .ref (z + b)]) (by rw [show (pm_min (nI 16) 34) = (nI 16) from (by decide)]) ?_
  refine pm_acopyB B dJ7_copyOf_9075b_28 (pm_T_in 1221 (by decide +kernel) (by decide +kernel)) ((pm_up_n (by omega)).trans hB) pm_up_s 0 0 16 rfl rfl rfl (fun i hi => by rw [Nat.zero_add]; exact hfit i hi) (by first | decide | omega) (by first | decide | omega) (by first | decide | omega) (by first | decide | omega) rfl rfl ?_
  refine pm_mem (M' := pm_up M nx (.inl (kA 4, 34, .inl (va_cpy f (fun _ => 0) 0 0 16)))) pm_up_up ?_
  refine pm_aload_n B dJ7_copyOf_9075b_31 rfl ?_
  exact pm_areturn B dJ7_copyOf_9075b_32 rfl (by first | exact Or.inl ⟨_, rfl⟩ | exact Or.inr ⟨_, rfl⟩) (by first | exact Or.inl rfl | exact Or.inr ⟨_, rfl⟩) ⟨rfl, rfl, rfl⟩ rfl rfl
theorem sp_J5_104 : pm_SP RJ5 104 "java/lang/StringBuilder" "java/lang/AbstractStringBuilder" yJ5_newCapacity_0f7a4 := ⟨pm_T_in 1197 (by decide +kernel) (by decide +kernel), pm_T_in 1199 (by decide +kernel) (by decide +kernel), by decide +kernel, pm_T_in 332 (by decide +kernel) (by decide +kernel), pm_T_in 1611 (by decide +kernel) (by decide +kernel)⟩
theorem ss_J5_108 : pm_SS RJ5 108 yJ7_copyOf_9075b := ⟨pm_T_in 1210 (by decide +kernel) (by decide +kernel), pm_T_in 1211 (by decide +kernel) (by decide +kernel)⟩
set_option maxRecDepth 100000 in
set_option maxHeartbeats 4000000 in
theorem c_J5_ensureCapacityInternal_d00df_G {l : Launch} {z : Nat} {D : va_G} {kA : Nat → ClassId} {kE : Nat → Nat} {nx : Nat} {M : pm_M} {a b c : Nat} {ml : Int32} (hM : M a = some (.inr (12, [.ref (z + b), .int 0, .int ml, .int (nI c)]))) {f : Nat → Int32} (hB : M b = some (.inl (kA 4, 16, .inl f))) (hab : a ≠ b) (han : a < nx) (hbn : b < nx) (hfit : ∀ i, i < 16 → fits .byte (.int (f i)) = true) {x : Nat} (hx : x < 35) (hx2 : 16 < x) : pm_C l z D kA kE yJ5_ensureCapacityInternal_d00df cJ5_ensureCapacityInternal_d00df 3 none 4 1 34 [.ref (z + a), .int (nI x)] nx M (pm_rt none (nx + 1) (pm_up (pm_up M nx (.inl (kA 4, 34, .inl (va_cpy f (fun _ => 0) 0 0 16)))) a (.inr (12, [.ref (z + nx), .int 0, .int ml, .int (nI c)])))) := by
  refine pm_mk (own := RJ5) (nm := "ensureCapacityInternal") mt_J5_ensureCapacityInternal_d00df rfl rfl rfl rfl fun X B => ?_
  refine pm_loc (L' := [some (.ref (z + a)), some (.int (nI x)), none]) rfl ?_
  refine pm_aload_n B dJ5_ensureCapacityInternal_d00df_0 rfl ?_
  refine pm_get B dJ5_ensureCapacityInternal_d00df_1 fl_J5_15 hM rfl ?_
  refine pm_alen B dJ5_ensureCapacityInternal_d00df_4 hB rfl rfl ?_
  refine pm_stk (st' := [.int (nI 16)]) rfl ?_
  refine pm_aload_n B dJ5_ensureCapacityInternal_d00df_5 rfl ?_
  refine pm_get B dJ5_ensureCapacityInternal_d00df_6 fl_J5_22 hM rfl ?_
  refine pm_ishr B dJ5_ensureCapacityInternal_d00df_9 ?_
  refine pm_stk (st' := [.int (nI 16)]) (by rw [show ((nI 16) >>> (0 &&& 31)) = (nI 16) from pm_shr0 _ (by first | omega | decide)]) ?_
  refine pm_istore_n B dJ5_ensureCapacityInternal_d00df_10 rfl rfl ?_
  refine pm_loc (L' := [some (.ref (z + a)), some (.int (nI x)), some (.int (nI 16))]) rfl ?_
  refine pm_iload_n B dJ5_ensureCapacityInternal_d00df_11 rfl ?_
  refine pm_iload_n B dJ5_ensureCapacityInternal_d00df_12 rfl ?_
  refine pm_isub B dJ5_ensureCapacityInternal_d00df_13 ?_
  refine pm_if_le (tgt := 38) B dJ5_ensureCapacityInternal_d00df_14 (by decide) (fun hq1 => absurd hq1 ((pm_gtN x hx hx2).1)) (fun hq1 => ?_)
  refine pm_aload_n B dJ5_ensureCapacityInternal_d00df_17 rfl ?_
  refine pm_aload_n B dJ5_ensureCapacityInternal_d00df_18 rfl ?_
  refine pm_get B dJ5_ensureCapacityInternal_d00df_19 fl_J5_15 hM rfl ?_
  refine pm_aload_n B dJ5_ensureCapacityInternal_d00df_22 rfl ?_
  refine pm_iload_n B dJ5_ensureCapacityInternal_d00df_23 rfl ?_
  refine pm_cP (As := [.int (nI x)]) (mc2 := 0) (ms2 := 0) B rfl hM rfl (c_J5_newCapacity_0f7a4 hM hB hx hx2) mt_J5_newCapacity_0f7a4 sp_J5_104 dJ5_ensureCapacityInternal_d00df_24 rfl rfl rfl rfl rfl ?_
  refine pm_stk (st' := [.int 34, .ref (z + b), .ref (z + a)]) rfl ?_
  refine pm_aload_n B dJ5_ensureCapacityInternal_d00df_27 rfl ?_
  refine pm_get B dJ5_ensureCapacityInternal_d00df_28 fl_J5_22 hM rfl ?_
  refine pm_ishl B dJ5_ensureCapacityInternal_d00df_31 ?_
  refine pm_stk (st' := [.int 34, .ref (z + b), .ref (z + a)]) (congrArg (fun yy : Int32 => ([.int yy, .ref (z + b), .ref (z + a)] : List Value)) (show (34 : Int32) <<< ((0 : Int32) &&& 31) = 34 from by decide)) ?_
  refine pm_cS (As := [.ref (z + b), .int 34]) (mc2 := 1) (ms2 := 34) B (c_J7_copyOf_9075b hB hbn hfit) mt_J7_copyOf_9075b ss_J5_108 dJ5_ensureCapacityInternal_d00df_32 rfl rfl rfl rfl rfl ?_
  refine pm_mem (M' := pm_up M nx (.inl (kA 4, 34, .inl (va_cpy f (fun _ => 0) 0 0 16)))) rfl ?_
  refine pm_stk (st' := [.ref (z + nx), .ref (z + a)]) rfl ?_
  refine pm_put B dJ5_ensureCapacityInternal_d00df_35 fs_J5_15 ((pm_up_n (by omega)).trans hM) rfl rfl rfl ?_
  refine pm_mem (M' := pm_up (pm_up M nx (.inl (kA 4, 34, .inl (va_cpy f (fun _ => 0) 0 0 16)))) a (.inr (12, [.ref (z + nx), .int 0, .int ml, .int (nI c)]))) rfl ?_
  exact pm_return B dJ5_ensureCapacityInternal_d00df_38 rfl ⟨rfl, rfl, rfl⟩ rfl rfl
theorem pm_fit8 : ∀ k, k < 128 → fits .byte (.int (nI k)) = true := by decide +kernel
set_option maxRecDepth 100000 in
set_option maxHeartbeats 4000000 in
theorem c_J0_getBytes_840e7_T {l : Launch} {z : Nat} {D : va_G} {kA : Nat → ClassId} {kE : Nat → Nat} {nx : Nat} {M : pm_M} {s v : Nat} {bs : List Nat} (hZ : ∀ U H, pm_Kx z kE U H → pm_Str z bs s v U H) (hbs : bs.length ≤ 40) (hbf : ∀ i, i < bs.length → bs.getD i 0 < 128) {b c N : Nat} {f : Nat → Int32} (hB : M b = some (.inl (kA 4, N, .inl f))) (hN : N ≤ 40) (hc : c + bs.length ≤ N) : pm_C l z D kA kE yJ0_getBytes_840e7 cJ0_getBytes_840e7 4 none 3 0 0 [.ref s, .ref (z + b), .int (nI c), .int 0] nx M (pm_rt none nx (pm_up M b (.inl (kA 4, N, .inl (va_cpy (fun j => nI (bs.getD j 0)) f 0 c bs.length))))) := by
  refine pm_mk (own := RJ0) (nm := "getBytes") mt_J0_getBytes_840e7 rfl rfl rfl rfl fun X B => ?_
  refine pm_loc (L' := [some (.ref s), some (.ref (z + b)), some (.int (nI c)), some (.int 0)]) rfl ?_
  refine pm_aload_n B dJ0_getBytes_840e7_0 rfl ?_
  refine pm_cVL (As := []) (mc2 := 0) (ms2 := 0) B (fun U H h => (hZ U H h).1) (c_J0_coder_7d493 hZ) mt_J0_coder_7d493 sv_J0_335 dJ0_getBytes_840e7_1 rfl rfl rfl rfl rfl ?_
  refine pm_stk (st' := [.int 0]) rfl ?_
  refine pm_iload_n B dJ0_getBytes_840e7_4 rfl ?_
  refine pm_icmp_ne (tgt := 28) B dJ0_getBytes_840e7_5 (by decide) (fun hq1 => absurd (rfl) hq1) (fun hq1 => ?_)
  refine pm_aload_n B dJ0_getBytes_840e7_8 rfl ?_
  refine pm_getL B (fun U H h => (hZ U H h).2.2.1) (pm_T_in 1381 (by decide +kernel) (by decide +kernel)) dJ0_getBytes_840e7_9 ?_
  refine pm_iconst (v := 0) B dJ0_getBytes_840e7_12 (by decide) ?_
  refine pm_aload_n B dJ0_getBytes_840e7_13 rfl ?_
  refine pm_iload_n B dJ0_getBytes_840e7_14 rfl ?_
  refine pm_iload_n B dJ0_getBytes_840e7_15 rfl ?_
  refine pm_ishl B dJ0_getBytes_840e7_16 ?_
  refine pm_stk (st' := [.int (nI c), .ref (z + b), .int 0, .ref v]) (by rw [show ((nI c) <<< (0 &&& 31)) = (nI c) from pm_shl0 _ (by omega)]) ?_
  refine pm_aload_n B dJ0_getBytes_840e7_17 rfl ?_
  refine pm_getL B (fun U H h => (hZ U H h).2.2.1) (pm_T_in 1381 (by decide +kernel) (by decide +kernel)) dJ0_getBytes_840e7_18 ?_
  refine pm_lnL B (v := nI bs.length) (fun U H h => (hZ U H h).2.2.2) rfl dJ0_getBytes_840e7_21 ?_
  refine pm_acopyT B dJ0_getBytes_840e7_22 (pm_T_in 1321 (by decide +kernel) (by decide +kernel)) (fun U H h => (hZ U H h).2.2.2) hB 0 c bs.length rfl rfl rfl (fun i hi => by rw [Nat.zero_add]; exact pm_fit8 _ (hbf i hi)) (by first | decide | omega) (by first | decide | omega) (by first | decide | omega) (by first | decide | omega) rfl rfl ?_
  refine pm_mem (M' := pm_up M b (.inl (kA 4, N, .inl (va_cpy (fun j => nI (bs.getD j 0)) f 0 c bs.length)))) rfl ?_
  refine pm_goto (tgt := 43) B dJ0_getBytes_840e7_25 (by decide) ?_
  exact pm_return B dJ0_getBytes_840e7_43 rfl ⟨rfl, rfl, rfl⟩ rfl rfl
theorem sv_J5_40 : pm_SV RJ5 40 yJ0_coder_7d493 := ⟨pm_T_in 1297 (by decide +kernel) (by decide +kernel), pm_T_in 1285 (by decide +kernel) (by decide +kernel), pm_T_in 1286 (by decide +kernel) (by decide +kernel)⟩
set_option maxRecDepth 100000 in
set_option maxHeartbeats 4000000 in
theorem c_J5_inflateIfNeededFor_a7421_T {l : Launch} {z : Nat} {D : va_G} {kA : Nat → ClassId} {kE : Nat → Nat} {nx : Nat} {M : pm_M} {s v : Nat} {bs : List Nat} (hZ : ∀ U H, pm_Kx z kE U H → pm_Str z bs s v U H) (hbs : bs.length ≤ 40) (hbf : ∀ i, i < bs.length → bs.getD i 0 < 128) {a b c : Nat} {ml : Int32} (hM : M a = some (.inr (12, [.ref (z + b), .int 0, .int ml, .int (nI c)]))) : pm_C l z D kA kE yJ5_inflateIfNeededFor_a7421 cJ5_inflateIfNeededFor_a7421 2 none 2 0 0 [.ref (z + a), .ref s] nx M (pm_rt none nx M) := by
  refine pm_mk (own := RJ5) (nm := "inflateIfNeededFor") mt_J5_inflateIfNeededFor_a7421 rfl rfl rfl rfl fun X B => ?_
  refine pm_loc (L' := [some (.ref (z + a)), some (.ref s)]) rfl ?_
  refine pm_gets B (v := .int 1) (fun U H h => h.2.2.2.2.1) (pm_T_in 310 (by decide +kernel) (by decide +kernel)) dJ5_inflateIfNeededFor_a7421_0 ?_
  refine pm_if_eq (tgt := 21) B dJ5_inflateIfNeededFor_a7421_3 (by decide) (fun hq1 => absurd hq1 (by decide)) (fun hq1 => ?_)
  refine pm_aload_n B dJ5_inflateIfNeededFor_a7421_6 rfl ?_
  refine pm_get B dJ5_inflateIfNeededFor_a7421_7 fl_J5_22 hM rfl ?_
  refine pm_aload_n B dJ5_inflateIfNeededFor_a7421_10 rfl ?_
  refine pm_cVL (As := []) (mc2 := 0) (ms2 := 0) B (fun U H h => (hZ U H h).1) (c_J0_coder_7d493 hZ) mt_J0_coder_7d493 sv_J5_40 dJ5_inflateIfNeededFor_a7421_11 rfl rfl rfl rfl rfl ?_
  refine pm_stk (st' := [.int 0, .int 0]) rfl ?_
  refine pm_icmp_eq (tgt := 21) B dJ5_inflateIfNeededFor_a7421_14 (by decide) (fun hq2 => ?_) (fun hq2 => absurd (rfl) hq2)
  exact pm_return B dJ5_inflateIfNeededFor_a7421_21 rfl ⟨rfl, rfl, rfl⟩ rfl rfl
theorem sp_J5_397 : pm_SP RJ5 397 "java/lang/StringBuilder" "java/lang/AbstractStringBuilder" yJ5_inflateIfNeededFor_a7421 := ⟨pm_T_in 1293 (by decide +kernel) (by decide +kernel), pm_T_in 1295 (by decide +kernel) (by decide +kernel), by decide +kernel, pm_T_in 332 (by decide +kernel) (by decide +kernel), pm_T_in 1615 (by decide +kernel) (by decide +kernel)⟩
theorem sv_J5_399 : pm_SV RJ5 399 yJ0_getBytes_840e7 := ⟨pm_T_in 1317 (by decide +kernel) (by decide +kernel), pm_T_in 1318 (by decide +kernel) (by decide +kernel), pm_T_in 1319 (by decide +kernel) (by decide +kernel)⟩
set_option maxRecDepth 100000 in
set_option maxHeartbeats 4000000 in
theorem c_J5_putStringAt_47b60_T {l : Launch} {z : Nat} {D : va_G} {kA : Nat → ClassId} {kE : Nat → Nat} {nx : Nat} {M : pm_M} {s v : Nat} {bs : List Nat} (hZ : ∀ U H, pm_Kx z kE U H → pm_Str z bs s v U H) (hbs : bs.length ≤ 40) (hbf : ∀ i, i < bs.length → bs.getD i 0 < 128) {a b c : Nat} {ml : Int32} (hM : M a = some (.inr (12, [.ref (z + b), .int 0, .int ml, .int (nI c)]))) {N c2 : Nat} {f : Nat → Int32} (hB : M b = some (.inl (kA 4, N, .inl f))) (hN : N ≤ 40) (hc : c2 + bs.length ≤ N) : pm_C l z D kA kE yJ5_putStringAt_47b60 cJ5_putStringAt_47b60 3 none 4 0 0 [.ref (z + a), .int (nI c2), .ref s] nx M (pm_rt none nx (pm_up M b (.inl (kA 4, N, .inl (va_cpy (fun j => nI (bs.getD j 0)) f 0 c2 bs.length))))) := by
  refine pm_mk (own := RJ5) (nm := "putStringAt") mt_J5_putStringAt_47b60 rfl rfl rfl rfl fun X B => ?_
  refine pm_loc (L' := [some (.ref (z + a)), some (.int (nI c2)), some (.ref s)]) rfl ?_
  refine pm_aload_n B dJ5_putStringAt_47b60_0 rfl ?_
  refine pm_aload_n B dJ5_putStringAt_47b60_1 rfl ?_
  refine pm_cP (As := [.ref s]) (mc2 := 0) (ms2 := 0) B rfl hM rfl (c_J5_inflateIfNeededFor_a7421_T hZ hbs hbf hM) mt_J5_inflateIfNeededFor_a7421 sp_J5_397 dJ5_putStringAt_47b60_2 rfl rfl rfl rfl rfl ?_
  refine pm_stk (st' := []) rfl ?_
  refine pm_aload_n B dJ5_putStringAt_47b60_5 rfl ?_
  refine pm_aload_n B dJ5_putStringAt_47b60_6 rfl ?_
  refine pm_get B dJ5_putStringAt_47b60_7 fl_J5_15 hM rfl ?_
  refine pm_iload_n B dJ5_putStringAt_47b60_10 rfl ?_
  refine pm_aload_n B dJ5_putStringAt_47b60_11 rfl ?_
  refine pm_get B dJ5_putStringAt_47b60_12 fl_J5_22 hM rfl ?_
  refine pm_cVL (As := [.ref (z + b), .int (nI c2), .int 0]) (mc2 := 0) (ms2 := 0) B (fun U H h => (hZ U H h).1) (c_J0_getBytes_840e7_T hZ hbs hbf hB hN hc) mt_J0_getBytes_840e7 sv_J5_399 dJ5_putStringAt_47b60_15 rfl rfl rfl rfl rfl ?_
  refine pm_mem (M' := pm_up M b (.inl (kA 4, N, .inl (va_cpy (fun j => nI (bs.getD j 0)) f 0 c2 bs.length)))) rfl ?_
  refine pm_stk (st' := []) rfl ?_
  exact pm_return B dJ5_putStringAt_47b60_18 rfl ⟨rfl, rfl, rfl⟩ rfl rfl
theorem sv_J5_32 : pm_SV RJ5 32 yJ0_length_8abf5 := ⟨pm_T_in 1280 (by decide +kernel) (by decide +kernel), pm_T_in 1281 (by decide +kernel) (by decide +kernel), pm_T_in 1282 (by decide +kernel) (by decide +kernel)⟩
theorem sp_J5_208 : pm_SP RJ5 208 "java/lang/StringBuilder" "java/lang/AbstractStringBuilder" yJ5_putStringAt_47b60 := ⟨pm_T_in 1289 (by decide +kernel) (by decide +kernel), pm_T_in 1291 (by decide +kernel) (by decide +kernel), by decide +kernel, pm_T_in 332 (by decide +kernel) (by decide +kernel), pm_T_in 1614 (by decide +kernel) (by decide +kernel)⟩
set_option maxRecDepth 100000 in
set_option maxHeartbeats 4000000 in
theorem c_J5_append_cf1ce_T {l : Launch} {z : Nat} {D : va_G} {kA : Nat → ClassId} {kE : Nat → Nat} {nx : Nat} {M : pm_M} {s v : Nat} {bs : List Nat} (hZ : ∀ U H, pm_Kx z kE U H → pm_Str z bs s v U H) (hbs : bs.length ≤ 40) (hbf : ∀ i, i < bs.length → bs.getD i 0 < 128) {a b c : Nat} {ml : Int32} (hM : M a = some (.inr (12, [.ref (z + b), .int 0, .int ml, .int (nI c)]))) {N : Nat} {f : Nat → Int32} (hB : M b = some (.inl (kA 4, N, .inl f))) (hab : a ≠ b) (hN : N ≤ 40) (hc : c + bs.length ≤ N) : pm_C l z D kA kE yJ5_append_cf1ce cJ5_append_cf1ce 3 (some (.object "java/lang/AbstractStringBuilder")) 5 0 0 [.ref (z + a), .ref s] nx M (pm_rt (some (.ref (z + a))) nx (pm_up (pm_up M b (.inl (kA 4, N, .inl (va_cpy (fun j => nI (bs.getD j 0)) f 0 c bs.length)))) a (.inr (12, [.ref (z + b), .int 0, .int ml, .int (nI (c + bs.length))])))) := by
  refine pm_mk (own := RJ5) (nm := "append") mt_J5_append_cf1ce rfl rfl rfl rfl fun X B => ?_
  refine pm_loc (L' := [some (.ref (z + a)), some (.ref s), none]) rfl ?_
  refine pm_aload_n B dJ5_append_cf1ce_0 rfl ?_
  refine pm_ifnonnull (tgt := 9) B dJ5_append_cf1ce_1 (by decide) ?_
  refine pm_aload_n B dJ5_append_cf1ce_9 rfl ?_
  refine pm_cVL (As := []) (mc2 := 0) (ms2 := 0) B (fun U H h => (hZ U H h).1) (c_J0_length_8abf5 hZ (by omega)) mt_J0_length_8abf5 sv_J5_32 dJ5_append_cf1ce_10 rfl rfl rfl rfl rfl ?_
  refine pm_stk (st' := [.int (nI bs.length)]) rfl ?_
  refine pm_istore_n B dJ5_append_cf1ce_13 rfl rfl ?_
  refine pm_loc (L' := [some (.ref (z + a)), some (.ref s), some (.int (nI bs.length))]) rfl ?_
  refine pm_aload_n B dJ5_append_cf1ce_14 rfl ?_
  refine pm_aload_n B dJ5_append_cf1ce_15 rfl ?_
  refine pm_get B dJ5_append_cf1ce_16 fl_J5_79 hM rfl ?_
  refine pm_iload_n B dJ5_append_cf1ce_19 rfl ?_
  refine pm_iadd B dJ5_append_cf1ce_20 ?_
  refine pm_stk (st' := [.int (nI (c + bs.length)), .ref (z + a)]) (by rw [show ((nI c) + (nI bs.length)) = (nI (c + bs.length)) from (by rw [show (nI c) = nI c from rfl, show (nI bs.length) = nI bs.length from rfl, nI_add])]) ?_
  refine pm_cP (As := [.int (nI (c + bs.length))]) (mc2 := 0) (ms2 := 0) B rfl hM rfl (c_J5_ensureCapacityInternal_d00df_N (x := c + bs.length) hM hB hc hN) mt_J5_ensureCapacityInternal_d00df sp_J5_100 dJ5_append_cf1ce_21 rfl rfl rfl rfl rfl ?_
  refine pm_stk (st' := []) rfl ?_
  refine pm_aload_n B dJ5_append_cf1ce_24 rfl ?_
  refine pm_aload_n B dJ5_append_cf1ce_25 rfl ?_
  refine pm_get B dJ5_append_cf1ce_26 fl_J5_79 hM rfl ?_
  refine pm_aload_n B dJ5_append_cf1ce_29 rfl ?_
  refine pm_cP (As := [.int (nI c), .ref s]) (mc2 := 0) (ms2 := 0) B rfl hM rfl (c_J5_putStringAt_47b60_T hZ hbs hbf hM (c2 := c) hB (by omega) (by omega)) mt_J5_putStringAt_47b60 sp_J5_208 dJ5_append_cf1ce_30 rfl rfl rfl rfl rfl ?_
  refine pm_mem (M' := pm_up M b (.inl (kA 4, N, .inl (va_cpy (fun j => nI (bs.getD j 0)) f 0 c bs.length)))) rfl ?_
  refine pm_stk (st' := []) rfl ?_
  refine pm_aload_n B dJ5_append_cf1ce_33 rfl ?_
  refine pm_dup B dJ5_append_cf1ce_34 rfl ?_
  refine pm_get B dJ5_append_cf1ce_35 fl_J5_79 ((pm_up_n hab).trans hM) rfl ?_
  refine pm_iload_n B dJ5_append_cf1ce_38 rfl ?_
  refine pm_iadd B dJ5_append_cf1ce_39 ?_
  refine pm_stk (st' := [.int (nI (c + bs.length)), .ref (z + a)]) (by rw [show ((nI c) + (nI bs.length)) = (nI (c + bs.length)) from (by rw [show (nI c) = nI c from rfl, show (nI bs.length) = nI bs.length from rfl, nI_add])]) ?_
  refine pm_put B dJ5_append_cf1ce_40 fs_J5_79 ((pm_up_n hab).trans hM) rfl rfl rfl ?_
  refine pm_mem (M' := pm_up (pm_up M b (.inl (kA 4, N, .inl (va_cpy (fun j => nI (bs.getD j 0)) f 0 c bs.length)))) a (.inr (12, [.ref (z + b), .int 0, .int ml, .int (nI (c + bs.length))]))) rfl ?_
  refine pm_aload_n B dJ5_append_cf1ce_43 rfl ?_
  exact pm_areturn B dJ5_append_cf1ce_44 rfl (by first | exact Or.inl ⟨_, rfl⟩ | exact Or.inr ⟨_, rfl⟩) (by first | exact Or.inl rfl | exact Or.inr ⟨_, rfl⟩) ⟨rfl, rfl, rfl⟩ rfl rfl
theorem sx_J4_29 : pm_SX RJ4 29 yJ5_append_cf1ce := ⟨pm_T_in 1270 (by decide +kernel) (by decide +kernel), pm_T_in 1612 (by decide +kernel) (by decide +kernel), pm_T_in 332 (by decide +kernel) (by decide +kernel), pm_T_in 1271 (by decide +kernel) (by decide +kernel), by decide⟩
set_option maxRecDepth 100000 in
set_option maxHeartbeats 4000000 in
theorem c_J4_append_15ec4_T {l : Launch} {z : Nat} {D : va_G} {kA : Nat → ClassId} {kE : Nat → Nat} {nx : Nat} {M : pm_M} {s v : Nat} {bs : List Nat} (hZ : ∀ U H, pm_Kx z kE U H → pm_Str z bs s v U H) (hbs : bs.length ≤ 40) (hbf : ∀ i, i < bs.length → bs.getD i 0 < 128) {a b c : Nat} {ml : Int32} (hM : M a = some (.inr (12, [.ref (z + b), .int 0, .int ml, .int (nI c)]))) {N : Nat} {f : Nat → Int32} (hB : M b = some (.inl (kA 4, N, .inl f))) (hab : a ≠ b) (hN : N ≤ 40) (hc : c + bs.length ≤ N) : pm_C l z D kA kE yJ4_append_15ec4 cJ4_append_15ec4 2 (some (.object "java/lang/StringBuilder")) 6 0 0 [.ref (z + a), .ref s] nx M (pm_rt (some (.ref (z + a))) nx (pm_up (pm_up M b (.inl (kA 4, N, .inl (va_cpy (fun j => nI (bs.getD j 0)) f 0 c bs.length)))) a (.inr (12, [.ref (z + b), .int 0, .int ml, .int (nI (c + bs.length))])))) := by
  refine pm_mk (own := RJ4) (nm := "append") mt_J4_append_15ec4 rfl rfl rfl rfl fun X B => ?_
  refine pm_loc (L' := [some (.ref (z + a)), some (.ref s)]) rfl ?_
  refine pm_aload_n B dJ4_append_15ec4_0 rfl ?_
  refine pm_aload_n B dJ4_append_15ec4_1 rfl ?_
  refine pm_cX (As := [.ref s]) (mc2 := 0) (ms2 := 0) B rfl hM (c_J5_append_cf1ce_T hZ hbs hbf hM hB hab hN hc) mt_J5_append_cf1ce sx_J4_29 dJ4_append_15ec4_2 rfl rfl rfl rfl rfl ?_
  refine pm_mem (M' := pm_up (pm_up M b (.inl (kA 4, N, .inl (va_cpy (fun j => nI (bs.getD j 0)) f 0 c bs.length)))) a (.inr (12, [.ref (z + b), .int 0, .int ml, .int (nI (c + bs.length))]))) rfl ?_
  refine pm_stk (st' := [.ref (z + a)]) rfl ?_
  refine pm_pop B dJ4_append_15ec4_5 rfl ?_
  refine pm_aload_n B dJ4_append_15ec4_6 rfl ?_
  exact pm_areturn B dJ4_append_15ec4_7 rfl (by first | exact Or.inl ⟨_, rfl⟩ | exact Or.inr ⟨_, rfl⟩) (by first | exact Or.inl rfl | exact Or.inr ⟨_, rfl⟩) ⟨rfl, rfl, rfl⟩ rfl rfl
set_option maxRecDepth 100000 in
set_option maxHeartbeats 4000000 in
theorem c_J5_append_cf1ce_TG {l : Launch} {z : Nat} {D : va_G} {kA : Nat → ClassId} {kE : Nat → Nat} {nx : Nat} {M : pm_M} {s v : Nat} {bs : List Nat} (hZ : ∀ U H, pm_Kx z kE U H → pm_Str z bs s v U H) (hbs : bs.length ≤ 40) (hbf : ∀ i, i < bs.length → bs.getD i 0 < 128) {a b c : Nat} {ml : Int32} (hM : M a = some (.inr (12, [.ref (z + b), .int 0, .int ml, .int (nI c)]))) {f : Nat → Int32} (hB : M b = some (.inl (kA 4, 16, .inl f))) (hab : a ≠ b) (han : a < nx) (hbn : b < nx) (hfit : ∀ i, i < 16 → fits .byte (.int (f i)) = true) (hc : c ≤ 16) (hx : c + bs.length < 35) (hx2 : 16 < c + bs.length) : pm_C l z D kA kE yJ5_append_cf1ce cJ5_append_cf1ce 3 (some (.object "java/lang/AbstractStringBuilder")) 5 1 34 [.ref (z + a), .ref s] nx M (pm_rt (some (.ref (z + a))) (nx + 1) (pm_up (pm_up M nx (.inl (kA 4, 34, .inl (va_cpy (fun j => nI (bs.getD j 0)) (va_cpy f (fun _ => 0) 0 0 16) 0 c bs.length)))) a (.inr (12, [.ref (z + nx), .int 0, .int ml, .int (nI (c + bs.length))])))) := by
  refine pm_mk (own := RJ5) (nm := "append") mt_J5_append_cf1ce rfl rfl rfl rfl fun X B => ?_
  refine pm_loc (L' := [some (.ref (z + a)), some (.ref s), none]) rfl ?_
  refine pm_aload_n B dJ5_append_cf1ce_0 rfl ?_
  refine pm_ifnonnull (tgt := 9) B dJ5_append_cf1ce_1 (by decide) ?_
  refine pm_aload_n B dJ5_append_cf1ce_9 rfl ?_
  refine pm_cVL (As := []) (mc2 := 0) (ms2 := 0) B (fun U H h => (hZ U H h).1) (c_J0_length_8abf5 hZ (by omega)) mt_J0_length_8abf5 sv_J5_32 dJ5_append_cf1ce_10 rfl rfl rfl rfl rfl ?_
  refine pm_stk (st' := [.int (nI bs.length)]) rfl ?_
  refine pm_istore_n B dJ5_append_cf1ce_13 rfl rfl ?_
  refine pm_loc (L' := [some (.ref (z + a)), some (.ref s), some (.int (nI bs.length))]) rfl ?_
  refine pm_aload_n B dJ5_append_cf1ce_14 rfl ?_
  refine pm_aload_n B dJ5_append_cf1ce_15 rfl ?_
  refine pm_get B dJ5_append_cf1ce_16 fl_J5_79 hM rfl ?_
  refine pm_iload_n B dJ5_append_cf1ce_19 rfl ?_
  refine pm_iadd B dJ5_append_cf1ce_20 ?_
  refine pm_stk (st' := [.int (nI (c + bs.length)), .ref (z + a)]) (by rw [show ((nI c) + (nI bs.length)) = (nI (c + bs.length)) from (by rw [show (nI c) = nI c from rfl, show (nI bs.length) = nI bs.length from rfl, nI_add])]) ?_
  refine pm_cP (As := [.int (nI (c + bs.length))]) (mc2 := 1) (ms2 := 34) B rfl hM rfl (c_J5_ensureCapacityInternal_d00df_G hM hB hab han hbn hfit hx hx2) mt_J5_ensureCapacityInternal_d00df sp_J5_100 dJ5_append_cf1ce_21 rfl rfl rfl rfl rfl ?_
  refine pm_mem (M' := pm_up (pm_up M nx (.inl (kA 4, 34, .inl (va_cpy f (fun _ => 0) 0 0 16)))) a (.inr (12, [.ref (z + nx), .int 0, .int ml, .int (nI c)]))) rfl ?_
  refine pm_stk (st' := []) rfl ?_
  refine pm_aload_n B dJ5_append_cf1ce_24 rfl ?_
  refine pm_aload_n B dJ5_append_cf1ce_25 rfl ?_
  refine pm_get B dJ5_append_cf1ce_26 fl_J5_79 pm_up_s rfl ?_
  refine pm_aload_n B dJ5_append_cf1ce_29 rfl ?_
  refine pm_cP (As := [.int (nI c), .ref s]) (mc2 := 0) (ms2 := 0) B rfl pm_up_s rfl (c_J5_putStringAt_47b60_T hZ hbs hbf pm_up_s (c2 := c) ((pm_up_n (by omega)).trans pm_up_s) (by omega) (by omega)) mt_J5_putStringAt_47b60 sp_J5_208 dJ5_append_cf1ce_30 rfl rfl rfl rfl rfl ?_
  refine pm_mem (M' := pm_up (pm_up (pm_up M nx (.inl (kA 4, 34, .inl (va_cpy f (fun _ => 0) 0 0 16)))) a (.inr (12, [.ref (z + nx), .int 0, .int ml, .int (nI c)]))) nx (.inl (kA 4, 34, .inl (va_cpy (fun j => nI (bs.getD j 0)) (va_cpy f (fun _ => 0) 0 0 16) 0 c bs.length)))) rfl ?_
  refine pm_mem (M' := pm_up (pm_up M nx (.inl (kA 4, 34, .inl (va_cpy (fun j => nI (bs.getD j 0)) (va_cpy f (fun _ => 0) 0 0 16) 0 c bs.length)))) a (.inr (12, [.ref (z + nx), .int 0, .int ml, .int (nI c)]))) (by rw [pm_up_sw (a := a) (b := nx) (by omega), pm_up_up (a := nx)]) ?_
  refine pm_stk (st' := []) rfl ?_
  refine pm_aload_n B dJ5_append_cf1ce_33 rfl ?_
  refine pm_dup B dJ5_append_cf1ce_34 rfl ?_
  refine pm_get B dJ5_append_cf1ce_35 fl_J5_79 pm_up_s rfl ?_
  refine pm_iload_n B dJ5_append_cf1ce_38 rfl ?_
  refine pm_iadd B dJ5_append_cf1ce_39 ?_
  refine pm_stk (st' := [.int (nI (c + bs.length)), .ref (z + a)]) (by rw [show ((nI c) + (nI bs.length)) = (nI (c + bs.length)) from (by rw [show (nI c) = nI c from rfl, show (nI bs.length) = nI bs.length from rfl, nI_add])]) ?_
  refine pm_put B dJ5_append_cf1ce_40 fs_J5_79 pm_up_s rfl rfl rfl ?_
  refine pm_mem (M' := pm_up (pm_up M nx (.inl (kA 4, 34, .inl (va_cpy (fun j => nI (bs.getD j 0)) (va_cpy f (fun _ => 0) 0 0 16) 0 c bs.length)))) a (.inr (12, [.ref (z + nx), .int 0, .int ml, .int (nI (c + bs.length))]))) pm_up_up ?_
  refine pm_aload_n B dJ5_append_cf1ce_43 rfl ?_
  exact pm_areturn B dJ5_append_cf1ce_44 rfl (by first | exact Or.inl ⟨_, rfl⟩ | exact Or.inr ⟨_, rfl⟩) (by first | exact Or.inl rfl | exact Or.inr ⟨_, rfl⟩) ⟨rfl, rfl, rfl⟩ rfl rfl
set_option maxRecDepth 100000 in
set_option maxHeartbeats 4000000 in
theorem c_J4_append_15ec4_TG {l : Launch} {z : Nat} {D : va_G} {kA : Nat → ClassId} {kE : Nat → Nat} {nx : Nat} {M : pm_M} {s v : Nat} {bs : List Nat} (hZ : ∀ U H, pm_Kx z kE U H → pm_Str z bs s v U H) (hbs : bs.length ≤ 40) (hbf : ∀ i, i < bs.length → bs.getD i 0 < 128) {a b c : Nat} {ml : Int32} (hM : M a = some (.inr (12, [.ref (z + b), .int 0, .int ml, .int (nI c)]))) {f : Nat → Int32} (hB : M b = some (.inl (kA 4, 16, .inl f))) (hab : a ≠ b) (han : a < nx) (hbn : b < nx) (hfit : ∀ i, i < 16 → fits .byte (.int (f i)) = true) (hc : c ≤ 16) (hx : c + bs.length < 35) (hx2 : 16 < c + bs.length) : pm_C l z D kA kE yJ4_append_15ec4 cJ4_append_15ec4 2 (some (.object "java/lang/StringBuilder")) 6 1 34 [.ref (z + a), .ref s] nx M (pm_rt (some (.ref (z + a))) (nx + 1) (pm_up (pm_up M nx (.inl (kA 4, 34, .inl (va_cpy (fun j => nI (bs.getD j 0)) (va_cpy f (fun _ => 0) 0 0 16) 0 c bs.length)))) a (.inr (12, [.ref (z + nx), .int 0, .int ml, .int (nI (c + bs.length))])))) := by
  refine pm_mk (own := RJ4) (nm := "append") mt_J4_append_15ec4 rfl rfl rfl rfl fun X B => ?_
  refine pm_loc (L' := [some (.ref (z + a)), some (.ref s)]) rfl ?_
  refine pm_aload_n B dJ4_append_15ec4_0 rfl ?_
  refine pm_aload_n B dJ4_append_15ec4_1 rfl ?_
  refine pm_cX (As := [.ref s]) (mc2 := 1) (ms2 := 34) B rfl hM (c_J5_append_cf1ce_TG hZ hbs hbf hM hB hab han hbn hfit hc hx hx2) mt_J5_append_cf1ce sx_J4_29 dJ4_append_15ec4_2 rfl rfl rfl rfl rfl ?_
  refine pm_mem (M' := pm_up (pm_up M nx (.inl (kA 4, 34, .inl (va_cpy (fun j => nI (bs.getD j 0)) (va_cpy f (fun _ => 0) 0 0 16) 0 c bs.length)))) a (.inr (12, [.ref (z + nx), .int 0, .int ml, .int (nI (c + bs.length))]))) rfl ?_
  refine pm_stk (st' := [.ref (z + a)]) rfl ?_
  refine pm_pop B dJ4_append_15ec4_5 rfl ?_
  refine pm_aload_n B dJ4_append_15ec4_6 rfl ?_
  exact pm_areturn B dJ4_append_15ec4_7 rfl (by first | exact Or.inl ⟨_, rfl⟩ | exact Or.inr ⟨_, rfl⟩) (by first | exact Or.inl rfl | exact Or.inr ⟨_, rfl⟩) ⟨rfl, rfl, rfl⟩ rfl rfl
set_option maxRecDepth 100000 in
set_option maxHeartbeats 4000000 in
theorem c_J0_getBytes_840e7_M {l : Launch} {z : Nat} {D : va_G} {kA : Nat → ClassId} {kE : Nat → Nat} {nx : Nat} {M : pm_M} {s v n : Nat} {hx hy : Int32} {gg : Nat → Int32} (hS : M s = some (.inr (11, [.ref (z + v), .int 0, .int hx, .int hy]))) (hV : M v = some (.inl (kA 4, n, .inl gg))) (hn : n ≤ 40) (hgf : ∀ i, i < n → fits .byte (.int (gg i)) = true) {b c N : Nat} {f : Nat → Int32} (hB : M b = some (.inl (kA 4, N, .inl f))) (hN : N ≤ 40) (hc : c + n ≤ N) (hvb : v ≠ b) : pm_C l z D kA kE yJ0_getBytes_840e7 cJ0_getBytes_840e7 4 none 3 0 0 [.ref (z + s), .ref (z + b), .int (nI c), .int 0] nx M (pm_rt none nx (pm_up M b (.inl (kA 4, N, .inl (va_cpy gg f 0 c n))))) := by
  refine pm_mk (own := RJ0) (nm := "getBytes") mt_J0_getBytes_840e7 rfl rfl rfl rfl fun X B => ?_
  refine pm_loc (L' := [some (.ref (z + s)), some (.ref (z + b)), some (.int (nI c)), some (.int 0)]) rfl ?_
  refine pm_aload_n B dJ0_getBytes_840e7_0 rfl ?_
  refine pm_cV (As := []) (mc2 := 0) (ms2 := 0) B rfl hS rfl (c_J0_coder_7d493_h hS) mt_J0_coder_7d493 sv_J0_335 dJ0_getBytes_840e7_1 rfl rfl rfl rfl rfl ?_
  refine pm_stk (st' := [.int 0]) rfl ?_
  refine pm_iload_n B dJ0_getBytes_840e7_4 rfl ?_
  refine pm_icmp_ne (tgt := 28) B dJ0_getBytes_840e7_5 (by decide) (fun hq1 => absurd (rfl) hq1) (fun hq1 => ?_)
  refine pm_aload_n B dJ0_getBytes_840e7_8 rfl ?_
  refine pm_get B dJ0_getBytes_840e7_9 fl_J0_9 hS rfl ?_
  refine pm_iconst (v := 0) B dJ0_getBytes_840e7_12 (by decide) ?_
  refine pm_aload_n B dJ0_getBytes_840e7_13 rfl ?_
  refine pm_iload_n B dJ0_getBytes_840e7_14 rfl ?_
  refine pm_iload_n B dJ0_getBytes_840e7_15 rfl ?_
  refine pm_ishl B dJ0_getBytes_840e7_16 ?_
  refine pm_stk (st' := [.int (nI c), .ref (z + b), .int 0, .ref (z + v)]) (by rw [show ((nI c) <<< (0 &&& 31)) = (nI c) from pm_shl0 _ (by omega)]) ?_
  refine pm_aload_n B dJ0_getBytes_840e7_17 rfl ?_
  refine pm_get B dJ0_getBytes_840e7_18 fl_J0_9 hS rfl ?_
  refine pm_alen B dJ0_getBytes_840e7_21 hV rfl rfl ?_
  refine pm_stk (st' := [.int (nI n), .int (nI c), .ref (z + b), .int 0, .ref (z + v)]) rfl ?_
  refine pm_acopyB B dJ0_getBytes_840e7_22 (pm_T_in 1321 (by decide +kernel) (by decide +kernel)) hV hB 0 c n rfl rfl rfl (fun i hi => by rw [Nat.zero_add]; exact hgf i hi) (by first | decide | omega) (by first | decide | omega) (by first | decide | omega) (by first | decide | omega) rfl rfl ?_
  refine pm_mem (M' := pm_up M b (.inl (kA 4, N, .inl (va_cpy gg f 0 c n)))) rfl ?_
  refine pm_goto (tgt := 43) B dJ0_getBytes_840e7_25 (by decide) ?_
  exact pm_return B dJ0_getBytes_840e7_43 rfl ⟨rfl, rfl, rfl⟩ rfl rfl
set_option maxRecDepth 100000 in
set_option maxHeartbeats 4000000 in
theorem c_J5_inflateIfNeededFor_a7421_M {l : Launch} {z : Nat} {D : va_G} {kA : Nat → ClassId} {kE : Nat → Nat} {nx : Nat} {M : pm_M} {s v n : Nat} {hx hy : Int32} {gg : Nat → Int32} (hS : M s = some (.inr (11, [.ref (z + v), .int 0, .int hx, .int hy]))) (hV : M v = some (.inl (kA 4, n, .inl gg))) (hn : n ≤ 40) (hgf : ∀ i, i < n → fits .byte (.int (gg i)) = true) {a b c : Nat} {ml : Int32} (hM : M a = some (.inr (12, [.ref (z + b), .int 0, .int ml, .int (nI c)]))) : pm_C l z D kA kE yJ5_inflateIfNeededFor_a7421 cJ5_inflateIfNeededFor_a7421 2 none 2 0 0 [.ref (z + a), .ref (z + s)] nx M (pm_rt none nx M) := by
  refine pm_mk (own := RJ5) (nm := "inflateIfNeededFor") mt_J5_inflateIfNeededFor_a7421 rfl rfl rfl rfl fun X B => ?_
  refine pm_loc (L' := [some (.ref (z + a)), some (.ref (z + s))]) rfl ?_
  refine pm_gets B (v := .int 1) (fun U H h => h.2.2.2.2.1) (pm_T_in 310 (by decide +kernel) (by decide +kernel)) dJ5_inflateIfNeededFor_a7421_0 ?_
  refine pm_if_eq (tgt := 21) B dJ5_inflateIfNeededFor_a7421_3 (by decide) (fun hq1 => absurd hq1 (by decide)) (fun hq1 => ?_)
  refine pm_aload_n B dJ5_inflateIfNeededFor_a7421_6 rfl ?_
  refine pm_get B dJ5_inflateIfNeededFor_a7421_7 fl_J5_22 hM rfl ?_
  refine pm_aload_n B dJ5_inflateIfNeededFor_a7421_10 rfl ?_
  refine pm_cV (As := []) (mc2 := 0) (ms2 := 0) B rfl hS rfl (c_J0_coder_7d493_h hS) mt_J0_coder_7d493 sv_J5_40 dJ5_inflateIfNeededFor_a7421_11 rfl rfl rfl rfl rfl ?_
  refine pm_stk (st' := [.int 0, .int 0]) rfl ?_
  refine pm_icmp_eq (tgt := 21) B dJ5_inflateIfNeededFor_a7421_14 (by decide) (fun hq2 => ?_) (fun hq2 => absurd (rfl) hq2)
  exact pm_return B dJ5_inflateIfNeededFor_a7421_21 rfl ⟨rfl, rfl, rfl⟩ rfl rfl
set_option maxRecDepth 100000 in
set_option maxHeartbeats 4000000 in
theorem c_J5_putStringAt_47b60_M {l : Launch} {z : Nat} {D : va_G} {kA : Nat → ClassId} {kE : Nat → Nat} {nx : Nat} {M : pm_M} {s v n : Nat} {hx hy : Int32} {gg : Nat → Int32} (hS : M s = some (.inr (11, [.ref (z + v), .int 0, .int hx, .int hy]))) (hV : M v = some (.inl (kA 4, n, .inl gg))) (hn : n ≤ 40) (hgf : ∀ i, i < n → fits .byte (.int (gg i)) = true) {a b c : Nat} {ml : Int32} (hM : M a = some (.inr (12, [.ref (z + b), .int 0, .int ml, .int (nI c)]))) {N c2 : Nat} {f : Nat → Int32} (hB : M b = some (.inl (kA 4, N, .inl f))) (hN : N ≤ 40) (hc : c2 + n ≤ N) (hvb : v ≠ b) : pm_C l z D kA kE yJ5_putStringAt_47b60 cJ5_putStringAt_47b60 3 none 4 0 0 [.ref (z + a), .int (nI c2), .ref (z + s)] nx M (pm_rt none nx (pm_up M b (.inl (kA 4, N, .inl (va_cpy gg f 0 c2 n))))) := by
  refine pm_mk (own := RJ5) (nm := "putStringAt") mt_J5_putStringAt_47b60 rfl rfl rfl rfl fun X B => ?_
  refine pm_loc (L' := [some (.ref (z + a)), some (.int (nI c2)), some (.ref (z + s))]) rfl ?_
  refine pm_aload_n B dJ5_putStringAt_47b60_0 rfl ?_
  refine pm_aload_n B dJ5_putStringAt_47b60_1 rfl ?_
  refine pm_cP (As := [.ref (z + s)]) (mc2 := 0) (ms2 := 0) B rfl hM rfl (c_J5_inflateIfNeededFor_a7421_M hS hV hn hgf hM) mt_J5_inflateIfNeededFor_a7421 sp_J5_397 dJ5_putStringAt_47b60_2 rfl rfl rfl rfl rfl ?_
  refine pm_stk (st' := []) rfl ?_
  refine pm_aload_n B dJ5_putStringAt_47b60_5 rfl ?_
  refine pm_aload_n B dJ5_putStringAt_47b60_6 rfl ?_
  refine pm_get B dJ5_putStringAt_47b60_7 fl_J5_15 hM rfl ?_
  refine pm_iload_n B dJ5_putStringAt_47b60_10 rfl ?_
  refine pm_aload_n B dJ5_putStringAt_47b60_11 rfl ?_
  refine pm_get B dJ5_putStringAt_47b60_12 fl_J5_22 hM rfl ?_
  refine pm_cV (As := [.ref (z + b), .int (nI c2), .int 0]) (mc2 := 0) (ms2 := 0) B rfl hS rfl (c_J0_getBytes_840e7_M hS hV hn hgf hB hN hc hvb) mt_J0_getBytes_840e7 sv_J5_399 dJ5_putStringAt_47b60_15 rfl rfl rfl rfl rfl ?_
  refine pm_mem (M' := pm_up M b (.inl (kA 4, N, .inl (va_cpy gg f 0 c2 n)))) rfl ?_
  refine pm_stk (st' := []) rfl ?_
  exact pm_return B dJ5_putStringAt_47b60_18 rfl ⟨rfl, rfl, rfl⟩ rfl rfl
set_option maxRecDepth 100000 in
set_option maxHeartbeats 4000000 in
theorem c_J5_append_cf1ce_M {l : Launch} {z : Nat} {D : va_G} {kA : Nat → ClassId} {kE : Nat → Nat} {nx : Nat} {M : pm_M} {s v n : Nat} {hx hy : Int32} {gg : Nat → Int32} (hS : M s = some (.inr (11, [.ref (z + v), .int 0, .int hx, .int hy]))) (hV : M v = some (.inl (kA 4, n, .inl gg))) (hn : n ≤ 40) (hgf : ∀ i, i < n → fits .byte (.int (gg i)) = true) {a b c : Nat} {ml : Int32} (hM : M a = some (.inr (12, [.ref (z + b), .int 0, .int ml, .int (nI c)]))) {N : Nat} {f : Nat → Int32} (hB : M b = some (.inl (kA 4, N, .inl f))) (hab : a ≠ b) (hN : N ≤ 40) (hc : c + n ≤ N) (hvb : v ≠ b) (hva : v ≠ a) (hsa : s ≠ a) (hsb : s ≠ b) : pm_C l z D kA kE yJ5_append_cf1ce cJ5_append_cf1ce 3 (some (.object "java/lang/AbstractStringBuilder")) 5 0 0 [.ref (z + a), .ref (z + s)] nx M (pm_rt (some (.ref (z + a))) nx (pm_up (pm_up M b (.inl (kA 4, N, .inl (va_cpy gg f 0 c n)))) a (.inr (12, [.ref (z + b), .int 0, .int ml, .int (nI (c + n))])))) := by
  refine pm_mk (own := RJ5) (nm := "append") mt_J5_append_cf1ce rfl rfl rfl rfl fun X B => ?_
  refine pm_loc (L' := [some (.ref (z + a)), some (.ref (z + s)), none]) rfl ?_
  refine pm_aload_n B dJ5_append_cf1ce_0 rfl ?_
  refine pm_ifnonnull (tgt := 9) B dJ5_append_cf1ce_1 (by decide) ?_
  refine pm_aload_n B dJ5_append_cf1ce_9 rfl ?_
  refine pm_cV (As := []) (mc2 := 0) (ms2 := 0) B rfl hS rfl (c_J0_length_8abf5_h hS hV (by omega)) mt_J0_length_8abf5 sv_J5_32 dJ5_append_cf1ce_10 rfl rfl rfl rfl rfl ?_
  refine pm_stk (st' := [.int (nI n)]) rfl ?_
  refine pm_istore_n B dJ5_append_cf1ce_13 rfl rfl ?_
  refine pm_loc (L' := [some (.ref (z + a)), some (.ref (z + s)), some (.int (nI n))]) rfl ?_
  refine pm_aload_n B dJ5_append_cf1ce_14 rfl ?_
  refine pm_aload_n B dJ5_append_cf1ce_15 rfl ?_
  refine pm_get B dJ5_append_cf1ce_16 fl_J5_79 hM rfl ?_
  refine pm_iload_n B dJ5_append_cf1ce_19 rfl ?_
  refine pm_iadd B dJ5_append_cf1ce_20 ?_
  refine pm_stk (st' := [.int (nI (c + n)), .ref (z + a)]) (by rw [show ((nI c) + (nI n)) = (nI (c + n)) from (by rw [show (nI c) = nI c from rfl, show (nI n) = nI n from rfl, nI_add])]) ?_
  refine pm_cP (As := [.int (nI (c + n))]) (mc2 := 0) (ms2 := 0) B rfl hM rfl (c_J5_ensureCapacityInternal_d00df_N (x := c + n) hM hB hc hN) mt_J5_ensureCapacityInternal_d00df sp_J5_100 dJ5_append_cf1ce_21 rfl rfl rfl rfl rfl ?_
  refine pm_stk (st' := []) rfl ?_
  refine pm_aload_n B dJ5_append_cf1ce_24 rfl ?_
  refine pm_aload_n B dJ5_append_cf1ce_25 rfl ?_
  refine pm_get B dJ5_append_cf1ce_26 fl_J5_79 hM rfl ?_
  refine pm_aload_n B dJ5_append_cf1ce_29 rfl ?_
  refine pm_cP (As := [.int (nI c), .ref (z + s)]) (mc2 := 0) (ms2 := 0) B rfl hM rfl (c_J5_putStringAt_47b60_M hS hV hn hgf hM (c2 := c) hB hN hc hvb) mt_J5_putStringAt_47b60 sp_J5_208 dJ5_append_cf1ce_30 rfl rfl rfl rfl rfl ?_
  refine pm_mem (M' := pm_up M b (.inl (kA 4, N, .inl (va_cpy gg f 0 c n)))) rfl ?_
  refine pm_stk (st' := []) rfl ?_
  refine pm_aload_n B dJ5_append_cf1ce_33 rfl ?_
  refine pm_dup B dJ5_append_cf1ce_34 rfl ?_
  refine pm_get B dJ5_append_cf1ce_35 fl_J5_79 ((pm_up_n hab).trans hM) rfl ?_
  refine pm_iload_n B dJ5_append_cf1ce_38 rfl ?_
  refine pm_iadd B dJ5_append_cf1ce_39 ?_
  refine pm_stk (st' := [.int (nI (c + n)), .ref (z + a)]) (by rw [show ((nI c) + (nI n)) = (nI (c + n)) from (by rw [show (nI c) = nI c from rfl, show (nI n) = nI n from rfl, nI_add])]) ?_
  refine pm_put B dJ5_append_cf1ce_40 fs_J5_79 ((pm_up_n hab).trans hM) rfl rfl rfl ?_
  refine pm_mem (M' := pm_up (pm_up M b (.inl (kA 4, N, .inl (va_cpy gg f 0 c n)))) a (.inr (12, [.ref (z + b), .int 0, .int ml, .int (nI (c + n))]))) rfl ?_
  refine pm_aload_n B dJ5_append_cf1ce_43 rfl ?_
  exact pm_areturn B dJ5_append_cf1ce_44 rfl (by first | exact Or.inl ⟨_, rfl⟩ | exact Or.inr ⟨_, rfl⟩) (by first | exact Or.inl rfl | exact Or.inr ⟨_, rfl⟩) ⟨rfl, rfl, rfl⟩ rfl rfl
set_option maxRecDepth 100000 in
set_option maxHeartbeats 4000000 in
theorem c_J4_append_15ec4_M {l : Launch} {z : Nat} {D : va_G} {kA : Nat → ClassId} {kE : Nat → Nat} {nx : Nat} {M : pm_M} {s v n : Nat} {hx hy : Int32} {gg : Nat → Int32} (hS : M s = some (.inr (11, [.ref (z + v), .int 0, .int hx, .int hy]))) (hV : M v = some (.inl (kA 4, n, .inl gg))) (hn : n ≤ 40) (hgf : ∀ i, i < n → fits .byte (.int (gg i)) = true) {a b c : Nat} {ml : Int32} (hM : M a = some (.inr (12, [.ref (z + b), .int 0, .int ml, .int (nI c)]))) {N : Nat} {f : Nat → Int32} (hB : M b = some (.inl (kA 4, N, .inl f))) (hab : a ≠ b) (hN : N ≤ 40) (hc : c + n ≤ N) (hvb : v ≠ b) (hva : v ≠ a) (hsa : s ≠ a) (hsb : s ≠ b) : pm_C l z D kA kE yJ4_append_15ec4 cJ4_append_15ec4 2 (some (.object "java/lang/StringBuilder")) 6 0 0 [.ref (z + a), .ref (z + s)] nx M (pm_rt (some (.ref (z + a))) nx (pm_up (pm_up M b (.inl (kA 4, N, .inl (va_cpy gg f 0 c n)))) a (.inr (12, [.ref (z + b), .int 0, .int ml, .int (nI (c + n))])))) := by
  refine pm_mk (own := RJ4) (nm := "append") mt_J4_append_15ec4 rfl rfl rfl rfl fun X B => ?_
  refine pm_loc (L' := [some (.ref (z + a)), some (.ref (z + s))]) rfl ?_
  refine pm_aload_n B dJ4_append_15ec4_0 rfl ?_
  refine pm_aload_n B dJ4_append_15ec4_1 rfl ?_
  refine pm_cX (As := [.ref (z + s)]) (mc2 := 0) (ms2 := 0) B rfl hM (c_J5_append_cf1ce_M hS hV hn hgf hM hB hab hN hc hvb hva hsa hsb) mt_J5_append_cf1ce sx_J4_29 dJ4_append_15ec4_2 rfl rfl rfl rfl rfl ?_
  refine pm_mem (M' := pm_up (pm_up M b (.inl (kA 4, N, .inl (va_cpy gg f 0 c n)))) a (.inr (12, [.ref (z + b), .int 0, .int ml, .int (nI (c + n))]))) rfl ?_
  refine pm_stk (st' := [.ref (z + a)]) rfl ?_
  refine pm_pop B dJ4_append_15ec4_5 rfl ?_
  refine pm_aload_n B dJ4_append_15ec4_6 rfl ?_
  exact pm_areturn B dJ4_append_15ec4_7 rfl (by first | exact Or.inl ⟨_, rfl⟩ | exact Or.inr ⟨_, rfl⟩) (by first | exact Or.inl rfl | exact Or.inr ⟨_, rfl⟩) ⟨rfl, rfl, rfl⟩ rfl rfl
set_option maxRecDepth 100000 in
set_option maxHeartbeats 4000000 in
theorem c_J5_getValue_6d5f1 {l : Launch} {z : Nat} {D : va_G} {kA : Nat → ClassId} {kE : Nat → Nat} {nx : Nat} {M : pm_M} {a b c : Nat} {ml : Int32} (hM : M a = some (.inr (12, [.ref (z + b), .int 0, .int ml, .int (nI c)]))) : pm_C l z D kA kE yJ5_getValue_6d5f1 cJ5_getValue_6d5f1 1 (some (.array .byte)) 0 0 0 [.ref (z + a)] nx M (pm_rt (some (.ref (z + b))) nx M) := by
  refine pm_mk (own := RJ5) (nm := "getValue") mt_J5_getValue_6d5f1 rfl rfl rfl rfl fun X B => ?_
  refine pm_loc (L' := [some (.ref (z + a))]) rfl ?_
  refine pm_aload_n B dJ5_getValue_6d5f1_0 rfl ?_
  refine pm_get B dJ5_getValue_6d5f1_1 fl_J5_15 hM rfl ?_
  exact pm_areturn B dJ5_getValue_6d5f1_4 rfl (by first | exact Or.inl ⟨_, rfl⟩ | exact Or.inr ⟨_, rfl⟩) (by first | exact Or.inl rfl | exact Or.inr ⟨_, rfl⟩) ⟨rfl, rfl, rfl⟩ rfl rfl
set_option maxRecDepth 100000 in
set_option maxHeartbeats 4000000 in
theorem c_J7_checkLength_df160 {l : Launch} {z : Nat} {D : va_G} {kA : Nat → ClassId} {kE : Nat → Nat} {nx : Nat} {M : pm_M} {c : Nat} (hc : c ≤ 40) : pm_C l z D kA kE yJ7_checkLength_df160 cJ7_checkLength_df160 2 none 0 0 0 [.int 0, .int (nI c)] nx M (pm_rt none nx M) := by
  refine pm_mk (own := RJ7) (nm := "checkLength") mt_J7_checkLength_df160 rfl rfl rfl rfl fun X B => ?_
  refine pm_loc (L' := [some (.int 0), some (.int (nI c))]) rfl ?_
  refine pm_iload_n B dJ7_checkLength_df160_0 rfl ?_
  refine pm_iload_n B dJ7_checkLength_df160_1 rfl ?_
  refine pm_icmp_ge (tgt := 37) B dJ7_checkLength_df160_2 (by decide) (fun hq1 => ?_) (fun hq1 => absurd (pm_ge0 (by omega)) hq1)
  exact pm_return B dJ7_checkLength_df160_37 rfl ⟨rfl, rfl, rfl⟩ rfl rfl
theorem ss_J7_343 : pm_SS RJ7 343 yJ7_checkLength_df160 := ⟨pm_T_in 1357 (by decide +kernel) (by decide +kernel), pm_T_in 1358 (by decide +kernel) (by decide +kernel)⟩
theorem pm_minR {a b : Nat} (h : b ≤ a) (ha : a < 2147483648) : pm_min (nI a) (nI b) = nI b := by
  rw [pm_minN (by omega) (by omega), Nat.min_eq_right h]
set_option maxRecDepth 100000 in
set_option maxHeartbeats 4000000 in
theorem c_J7_copyOfRangeByte_39247 {l : Launch} {z : Nat} {D : va_G} {kA : Nat → ClassId} {kE : Nat → Nat} {nx : Nat} {M : pm_M} {b N c : Nat} {f : Nat → Int32} (hB : M b = some (.inl (kA 4, N, .inl f))) (hN : N ≤ 40) (hc : c ≤ N) (hbn : b < nx) (hfit : ∀ i, i < N → fits .byte (.int (f i)) = true) : pm_C l z D kA kE yJ7_copyOfRangeByte_39247 cJ7_copyOfRangeByte_39247 5 (some (.array .byte)) 2 1 40 [.ref (z + b), .int 0, .int (nI c)] nx M (pm_rt (some (.ref (z + nx))) (nx + 1) (pm_up M nx (.inl (kA 4, c, .inl (va_cpy f (fun _ => 0) 0 0 c))))) := by
  refine pm_mk (own := RJ7) (nm := "copyOfRangeByte") mt_J7_copyOfRangeByte_39247 rfl rfl rfl rfl fun X B => ?_
  refine pm_loc (L' := [some (.ref (z + b)), some (.int 0), some (.int (nI c)), none, none]) rfl ?_
  refine pm_iload_n B dJ7_copyOfRangeByte_39247_0 rfl ?_
  refine pm_iload_n B dJ7_copyOfRangeByte_39247_1 rfl ?_
  refine pm_cS (As := [.int 0, .int (nI c)]) (mc2 := 0) (ms2 := 0) B (c_J7_checkLength_df160 (by omega)) mt_J7_checkLength_df160 ss_J7_343 dJ7_copyOfRangeByte_39247_2 rfl rfl rfl rfl rfl ?_
  refine pm_stk (st' := []) rfl ?_
  refine pm_iload_n B dJ7_copyOfRangeByte_39247_5 rfl ?_
  refine pm_iload_n B dJ7_copyOfRangeByte_39247_6 rfl ?_
  refine pm_isub B dJ7_copyOfRangeByte_39247_7 ?_
  refine pm_stk (st' := [.int (nI c)]) (by rw [show ((nI c) - 0) = (nI c) from (Int32.sub_zero _)]) ?_
  refine pm_istore_n B dJ7_copyOfRangeByte_39247_8 rfl rfl ?_
  refine pm_loc (L' := [some (.ref (z + b)), some (.int 0), some (.int (nI c)), some (.int (nI c)), none]) rfl ?_
  refine pm_iload_n B dJ7_copyOfRangeByte_39247_9 rfl ?_
  refine pm_newb (N := c) B dJ7_copyOfRangeByte_39247_10 (pm_T_in 333 (by decide +kernel) (by decide +kernel)) rfl (Nat.ble_eq_true_of_le (by omega)) (by omega) (by omega) ?_
  refine pm_mem (M' := pm_up M nx (.inl (kA 4, c, .inl (fun _ => 0)))) rfl ?_
  refine pm_astore B dJ7_copyOfRangeByte_39247_12 rfl rfl ?_
  refine pm_loc (L' := [some (.ref (z + b)), some (.int 0), some (.int (nI c)), some (.int (nI c)), some (.ref (z + nx))]) rfl ?_
  refine pm_aload_n B dJ7_copyOfRangeByte_39247_14 rfl ?_
  refine pm_iload_n B dJ7_copyOfRangeByte_39247_15 rfl ?_
  refine pm_aload B dJ7_copyOfRangeByte_39247_16 rfl ?_
  refine pm_iconst (v := 0) B dJ7_copyOfRangeByte_39247_18 (by decide) ?_
  refine pm_aload_n B dJ7_copyOfRangeByte_39247_19 rfl ?_
  refine pm_alen B dJ7_copyOfRangeByte_39247_20 ((pm_up_n (by omega)).trans hB) rfl rfl ?_
  refine pm_stk (st' := [.int (nI N), .int 0, .ref (z + nx), .int 0, .ref (z + b)]) rfl ?_
  refine pm_iload_n B dJ7_copyOfRangeByte_39247_21 rfl ?_
  refine pm_isub B dJ7_copyOfRangeByte_39247_22 ?_
  refine pm_stk (st' := [.int (nI N), .int 0, .ref (z + nx), .int 0, .ref (z + b)]) (by rw [show ((nI N) - 0) = (nI N) from (Int32.sub_zero _)]) ?_
  refine pm_iload_n B dJ7_copyOfRangeByte_39247_23 rfl ?_
  refine pm_mmin B dJ7_copyOfRangeByte_39247_24 (pm_T_in 1220 (by decide +kernel) (by decide +kernel)) rfl rfl (Nat.ble_eq_true_of_le (by omega)) (Nat.ble_eq_true_of_le (by omega)) ?_
  refine pm_stk (st' := [.int (nI c), .int 0, .ref (z + nx), .int 0, .ref (z + b)]) (by rw [show (pm_min (nI N) (nI c)) = (nI c) from pm_minR (by omega) (by omega)]) ?_
  refine pm_acopyB B dJ7_copyOfRangeByte_39247_27 (pm_T_in 1221 (by decide +kernel) (by decide +kernel)) ((pm_up_n (by omega)).trans hB) pm_up_s 0 0 c rfl rfl rfl (fun i hi => by rw [Nat.zero_add]; exact hfit i (by omega)) (by first | decide | omega) (by first | decide | omega) (by first | decide | omega) (by first | decide | omega) rfl rfl ?_
  refine pm_mem (M' := pm_up M nx (.inl (kA 4, c, .inl (va_cpy f (fun _ => 0) 0 0 c)))) pm_up_up ?_
  refine pm_aload B dJ7_copyOfRangeByte_39247_30 rfl ?_
  exact pm_areturn B dJ7_copyOfRangeByte_39247_32 rfl (by first | exact Or.inl ⟨_, rfl⟩ | exact Or.inr ⟨_, rfl⟩) (by first | exact Or.inl rfl | exact Or.inr ⟨_, rfl⟩) ⟨rfl, rfl, rfl⟩ (Nat.ble_eq_true_of_le (by omega)) (Nat.ble_eq_true_of_le (by omega))
set_option maxRecDepth 100000 in
set_option maxHeartbeats 4000000 in
theorem c_J7_copyOfRange_39247_e {l : Launch} {z : Nat} {D : va_G} {kA : Nat → ClassId} {kE : Nat → Nat} {nx : Nat} {M : pm_M} {b N : Nat} {f : Nat → Int32} (hB : M b = some (.inl (kA 4, N, .inl f))) (hN : N ≤ 40) (hbn : b < nx) (hfit : ∀ i, i < N → fits .byte (.int (f i)) = true) : pm_C l z D kA kE yJ7_copyOfRange_39247 cJ7_copyOfRange_39247 3 (some (.array .byte)) 3 1 40 [.ref (z + b), .int 0, .int (nI N)] nx M (pm_rt (some (.ref (z + nx))) (nx + 1) (pm_up M nx (.inl (kA 4, N, .inl f)))) := by
  refine pm_mk (own := RJ7) (nm := "copyOfRange") mt_J7_copyOfRange_39247 rfl rfl rfl rfl fun X B => ?_
  refine pm_loc (L' := [some (.ref (z + b)), some (.int 0), some (.int (nI N))]) rfl ?_
  refine pm_iload_n B dJ7_copyOfRange_39247_0 rfl ?_
  refine pm_if_ne (tgt := 10) B dJ7_copyOfRange_39247_1 (by decide) (fun hq1 => absurd (rfl) hq1) (fun hq1 => ?_)
  refine pm_iload_n B dJ7_copyOfRange_39247_4 rfl ?_
  refine pm_aload_n B dJ7_copyOfRange_39247_5 rfl ?_
  refine pm_alen B dJ7_copyOfRange_39247_6 hB rfl rfl ?_
  refine pm_stk (st' := [.int (nI N), .int (nI N)]) rfl ?_
  refine pm_icmp_eq (tgt := 17) B dJ7_copyOfRange_39247_7 (by decide) (fun hq2 => ?_) (fun hq2 => absurd (rfl) hq2)
  refine pm_aload_n B dJ7_copyOfRange_39247_17 rfl ?_
  refine pm_cloneB B rfl dJ7_copyOfRange_39247_18 hB hfit (by omega) (by omega) rfl rfl ?_
  refine pm_mem (M' := pm_up M nx (.inl (kA 4, N, .inl f))) rfl ?_
  refine pm_castA B dJ7_copyOfRange_39247_21 (pm_T_in 1219 (by decide +kernel) (by decide +kernel)) pm_up_s ?_
  exact pm_areturn B dJ7_copyOfRange_39247_24 rfl (by first | exact Or.inl ⟨_, rfl⟩ | exact Or.inr ⟨_, rfl⟩) (by first | exact Or.inl rfl | exact Or.inr ⟨_, rfl⟩) ⟨rfl, rfl, rfl⟩ (Nat.ble_eq_true_of_le (by omega)) (Nat.ble_eq_true_of_le (by omega))
theorem ss_J7_339 : pm_SS RJ7 339 yJ7_copyOfRangeByte_39247 := ⟨pm_T_in 1354 (by decide +kernel) (by decide +kernel), pm_T_in 1355 (by decide +kernel) (by decide +kernel)⟩
set_option maxRecDepth 100000 in
set_option maxHeartbeats 4000000 in
theorem c_J7_copyOfRange_39247_c {l : Launch} {z : Nat} {D : va_G} {kA : Nat → ClassId} {kE : Nat → Nat} {nx : Nat} {M : pm_M} {b N c : Nat} {f : Nat → Int32} (hB : M b = some (.inl (kA 4, N, .inl f))) (hN : N ≤ 40) (hc : c < N) (hbn : b < nx) (hfit : ∀ i, i < N → fits .byte (.int (f i)) = true) : pm_C l z D kA kE yJ7_copyOfRange_39247 cJ7_copyOfRange_39247 3 (some (.array .byte)) 3 1 40 [.ref (z + b), .int 0, .int (nI c)] nx M (pm_rt (some (.ref (z + nx))) (nx + 1) (pm_up M nx (.inl (kA 4, c, .inl (va_cpy f (fun _ => 0) 0 0 c))))) := by
  refine pm_mk (own := RJ7) (nm := "copyOfRange") mt_J7_copyOfRange_39247 rfl rfl rfl rfl fun X B => ?_
  refine pm_loc (L' := [some (.ref (z + b)), some (.int 0), some (.int (nI c))]) rfl ?_
  refine pm_iload_n B dJ7_copyOfRange_39247_0 rfl ?_
  refine pm_if_ne (tgt := 10) B dJ7_copyOfRange_39247_1 (by decide) (fun hq1 => absurd (rfl) hq1) (fun hq1 => ?_)
  refine pm_iload_n B dJ7_copyOfRange_39247_4 rfl ?_
  refine pm_aload_n B dJ7_copyOfRange_39247_5 rfl ?_
  refine pm_alen B dJ7_copyOfRange_39247_6 hB rfl rfl ?_
  refine pm_stk (st' := [.int (nI N), .int (nI c)]) rfl ?_
  refine pm_icmp_eq (tgt := 17) B dJ7_copyOfRange_39247_7 (by decide) (fun hq2 => absurd hq2 (fun h => absurd ((nI_eq (by omega) (by omega)).mp h) (by omega))) (fun hq2 => ?_)
  refine pm_aload_n B dJ7_copyOfRange_39247_10 rfl ?_
  refine pm_iload_n B dJ7_copyOfRange_39247_11 rfl ?_
  refine pm_iload_n B dJ7_copyOfRange_39247_12 rfl ?_
  refine pm_cS (As := [.ref (z + b), .int 0, .int (nI c)]) (mc2 := 1) (ms2 := 40) B (c_J7_copyOfRangeByte_39247 hB hN (by omega) hbn hfit) mt_J7_copyOfRangeByte_39247 ss_J7_339 dJ7_copyOfRange_39247_13 rfl rfl rfl rfl rfl ?_
  refine pm_mem (M' := pm_up M nx (.inl (kA 4, c, .inl (va_cpy f (fun _ => 0) 0 0 c)))) rfl ?_
  refine pm_stk (st' := [.ref (z + nx)]) rfl ?_
  exact pm_areturn B dJ7_copyOfRange_39247_16 rfl (by first | exact Or.inl ⟨_, rfl⟩ | exact Or.inr ⟨_, rfl⟩) (by first | exact Or.inl rfl | exact Or.inr ⟨_, rfl⟩) ⟨rfl, rfl, rfl⟩ rfl rfl
theorem su_J0_552 : pm_SU RJ0 552 "java/lang/StringBuilder" "java/lang/AbstractStringBuilder" yJ5_getValue_6d5f1 yJ5_getValue_6d5f1 := ⟨pm_T_in 1337 (by decide +kernel) (by decide +kernel), pm_T_in 1339 (by decide +kernel) (by decide +kernel), pm_T_in 1340 (by decide +kernel) (by decide +kernel), pm_T_in 1338 (by decide +kernel) (by decide +kernel), rfl⟩
theorem so_J0_549 : pm_SO RJ0 549 "java/lang/StringBuilder" yJ5_length_8abf5 yJ4_length_8abf5 := ⟨pm_T_in 1342 (by decide +kernel) (by decide +kernel), pm_T_in 1344 (by decide +kernel) (by decide +kernel), pm_T_in 1345 (by decide +kernel) (by decide +kernel), pm_T_in 1346 (by decide +kernel) (by decide +kernel), pm_T_in 1343 (by decide +kernel) (by decide +kernel), ⟨by decide, by decide⟩, cJ5_length_8abf5, 1, some .int, pm_T_in 1349 (by decide +kernel) (by decide +kernel), rfl, trivial⟩
theorem su_J0_1047 : pm_SU RJ0 1047 "java/lang/StringBuilder" "java/lang/AbstractStringBuilder" yJ5_isLatin1_aae02 yJ5_isLatin1_aae02 := ⟨pm_T_in 1350 (by decide +kernel) (by decide +kernel), pm_T_in 1224 (by decide +kernel) (by decide +kernel), pm_T_in 1225 (by decide +kernel) (by decide +kernel), pm_T_in 1223 (by decide +kernel) (by decide +kernel), rfl⟩
theorem ss_J0_54 : pm_SS RJ0 54 yJ7_copyOfRange_39247 := ⟨pm_T_in 1351 (by decide +kernel) (by decide +kernel), pm_T_in 1352 (by decide +kernel) (by decide +kernel)⟩
set_option maxRecDepth 100000 in
set_option maxHeartbeats 4000000 in
theorem c_J0_init_db425_e {l : Launch} {z : Nat} {D : va_G} {kA : Nat → ClassId} {kE : Nat → Nat} {nx : Nat} {M : pm_M} {a b N : Nat} {ml : Int32} (hM : M a = some (.inr (12, [.ref (z + b), .int 0, .int ml, .int (nI N)]))) {f : Nat → Int32} (hB : M b = some (.inl (kA 4, N, .inl f))) (hN : N ≤ 40) (han : a < nx) (hbn : b < nx) (hfit : ∀ i, i < N → fits .byte (.int (f i)) = true) {x : Nat} (hxm : M x = some (.inr (11, [.null, .int 0, .int 0, .int 0]))) (hxn : x < nx) (hxa : x ≠ a) (hxb : x ≠ b) : pm_C l z D kA kE yJ0_init_db425 cJ0_init_db425 5 none 4 1 40 [.ref (z + x), .ref (z + a), .null] nx M (pm_rt none (nx + 1) (pm_up (pm_up M x (.inr (11, [(.ref (z + nx)), .int 0, .int 0, .int 0]))) nx (.inl (kA 4, N, .inl f)))) := by
  refine pm_mk (own := RJ0) (nm := "<init>") mt_J0_init_db425 rfl rfl rfl rfl fun X B => ?_
  refine pm_loc (L' := [some (.ref (z + x)), some (.ref (z + a)), some (.null), none, none]) rfl ?_
  refine pm_aload_n B dJ0_init_db425_0 rfl ?_
  refine pm_objInit B dJ0_init_db425_1 (pm_T_in 1336 (by decide +kernel) (by decide +kernel)) rfl rfl rfl rfl ?_
  refine pm_aload_n B dJ0_init_db425_4 rfl ?_
  refine pm_cUM (As := []) (mc2 := 0) (ms2 := 0) B rfl hM rfl (c_J5_getValue_6d5f1 hM) mt_J5_getValue_6d5f1 su_J0_552 dJ0_init_db425_5 rfl rfl rfl rfl rfl ?_
  refine pm_stk (st' := [.ref (z + b)]) rfl ?_
  refine pm_astore_n B dJ0_init_db425_8 rfl rfl ?_
  refine pm_loc (L' := [some (.ref (z + x)), some (.ref (z + a)), some (.null), some (.ref (z + b)), none]) rfl ?_
  refine pm_aload_n B dJ0_init_db425_9 rfl ?_
  refine pm_cUO (As := []) (mc2 := 0) (ms2 := 0) B rfl hM rfl (c_J4_length_8abf5 hM) mt_J4_length_8abf5 so_J0_549 dJ0_init_db425_10 rfl rfl rfl rfl rfl ?_
  refine pm_stk (st' := [.int (nI N)]) rfl ?_
  refine pm_istore B dJ0_init_db425_13 rfl rfl ?_
  refine pm_loc (L' := [some (.ref (z + x)), some (.ref (z + a)), some (.null), some (.ref (z + b)), some (.int (nI N))]) rfl ?_
  refine pm_aload_n B dJ0_init_db425_15 rfl ?_
  refine pm_cUM (As := []) (mc2 := 0) (ms2 := 0) B rfl hM rfl (c_J5_isLatin1_aae02 hM) mt_J5_isLatin1_aae02 su_J0_1047 dJ0_init_db425_16 rfl rfl rfl rfl rfl ?_
  refine pm_stk (st' := [.int 1]) rfl ?_
  refine pm_if_eq (tgt := 41) B dJ0_init_db425_19 (by decide) (fun hq1 => absurd hq1 (by decide)) (fun hq1 => ?_)
  refine pm_aload_n B dJ0_init_db425_22 rfl ?_
  refine pm_iconst (v := 0) B dJ0_init_db425_23 (by decide) ?_
  refine pm_putF B dJ0_init_db425_24 ff_J0_15 rfl hxm rfl rfl rfl ?_
  refine pm_mem (M' := pm_up M x (.inr (11, [.null, .int 0, .int 0, .int 0]))) rfl ?_
  refine pm_aload_n B dJ0_init_db425_27 rfl ?_
  refine pm_aload_n B dJ0_init_db425_28 rfl ?_
  refine pm_iconst (v := 0) B dJ0_init_db425_29 (by decide) ?_
  refine pm_iload B dJ0_init_db425_30 rfl ?_
  refine pm_cS (As := [.ref (z + b), .int 0, .int (nI N)]) (mc2 := 1) (ms2 := 40) B (c_J7_copyOfRange_39247_e ((pm_up_n (Ne.symm hxb)).trans hB) hN hbn hfit) mt_J7_copyOfRange_39247 ss_J0_54 dJ0_init_db425_32 rfl rfl rfl rfl rfl ?_
  refine pm_mem (M' := pm_up (pm_up M x (.inr (11, [.null, .int 0, .int 0, .int 0]))) nx (.inl (kA 4, N, .inl f))) rfl ?_
  refine pm_stk (st' := [.ref (z + nx), .ref (z + x)]) rfl ?_
  refine pm_putF B dJ0_init_db425_35 ff_J0_9 rfl ((pm_up_n (by omega)).trans pm_up_s) rfl rfl rfl ?_
  refine pm_mem (M' := pm_up (pm_up (pm_up M x (.inr (11, [.null, .int 0, .int 0, .int 0]))) nx (.inl (kA 4, N, .inl f))) x (.inr (11, [.ref (z + nx), .int 0, .int 0, .int 0]))) rfl ?_
  refine pm_mem (M' := pm_up (pm_up M x (.inr (11, [.ref (z + nx), .int 0, .int 0, .int 0]))) nx (.inl (kA 4, N, .inl f))) (by rw [pm_up_sw (a := nx) (b := x) (by omega), pm_up_up]) ?_
  refine pm_goto (tgt := 97) B dJ0_init_db425_38 (by decide) ?_
  exact pm_return B dJ0_init_db425_97 rfl ⟨rfl, rfl, rfl⟩ rfl rfl
theorem si_J0_489 : pm_SI RJ0 489 yJ0_init_db425 := ⟨pm_T_in 1333 (by decide +kernel) (by decide +kernel), pm_T_in 1334 (by decide +kernel) (by decide +kernel), by decide +kernel⟩
set_option maxRecDepth 100000 in
set_option maxHeartbeats 4000000 in
theorem c_J0_init_81219_e {l : Launch} {z : Nat} {D : va_G} {kA : Nat → ClassId} {kE : Nat → Nat} {nx : Nat} {M : pm_M} {a b N : Nat} {ml : Int32} (hM : M a = some (.inr (12, [.ref (z + b), .int 0, .int ml, .int (nI N)]))) {f : Nat → Int32} (hB : M b = some (.inl (kA 4, N, .inl f))) (hN : N ≤ 40) (han : a < nx) (hbn : b < nx) (hfit : ∀ i, i < N → fits .byte (.int (f i)) = true) {x : Nat} (hxm : M x = some (.inr (11, [.null, .int 0, .int 0, .int 0]))) (hxn : x < nx) (hxa : x ≠ a) (hxb : x ≠ b) : pm_C l z D kA kE yJ0_init_81219 cJ0_init_81219 2 none 5 1 40 [.ref (z + x), .ref (z + a)] nx M (pm_rt none (nx + 1) (pm_up (pm_up M x (.inr (11, [(.ref (z + nx)), .int 0, .int 0, .int 0]))) nx (.inl (kA 4, N, .inl f)))) := by
  refine pm_mk (own := RJ0) (nm := "<init>") mt_J0_init_81219 rfl rfl rfl rfl fun X B => ?_
  refine pm_loc (L' := [some (.ref (z + x)), some (.ref (z + a))]) rfl ?_
  refine pm_aload_n B dJ0_init_81219_0 rfl ?_
  refine pm_aload_n B dJ0_init_81219_1 rfl ?_
  refine pm_null B dJ0_init_81219_2 ?_
  refine pm_cI (As := [.ref (z + a), .null]) (mc2 := 1) (ms2 := 40) B rfl (c_J0_init_db425_e hM hB hN han hbn hfit hxm hxn hxa hxb) mt_J0_init_db425 si_J0_489 dJ0_init_81219_3 rfl rfl rfl rfl rfl ?_
  refine pm_stk (st' := []) rfl ?_
  exact pm_return B dJ0_init_81219_6 rfl ⟨rfl, rfl, rfl⟩ rfl rfl
theorem si_J4_137 : pm_SI RJ4 137 yJ0_init_81219 := ⟨pm_T_in 1330 (by decide +kernel) (by decide +kernel), pm_T_in 1331 (by decide +kernel) (by decide +kernel), by decide +kernel⟩
set_option maxRecDepth 100000 in
set_option maxHeartbeats 4000000 in
theorem c_J4_toString_0e30d_e {l : Launch} {z : Nat} {D : va_G} {kA : Nat → ClassId} {kE : Nat → Nat} {nx : Nat} {M : pm_M} {a b N : Nat} {ml : Int32} (hM : M a = some (.inr (12, [.ref (z + b), .int 0, .int ml, .int (nI N)]))) {f : Nat → Int32} (hB : M b = some (.inl (kA 4, N, .inl f))) (hN : N ≤ 40) (han : a < nx) (hbn : b < nx) (hfit : ∀ i, i < N → fits .byte (.int (f i)) = true) : pm_C l z D kA kE yJ4_toString_0e30d cJ4_toString_0e30d 1 (some (.object "java/lang/String")) 6 2 44 [.ref (z + a)] nx M (pm_rx (fun ov n1 M1 => ov = some (.ref (z + nx)) ∧ n1 = nx + 2 ∧ M1 nx = some (.inr (11, [(.ref (z + (nx + 1))), .int 0, .int 0, .int 0])) ∧ M1 (nx + 1) = some (.inl (kA 4, N, .inl f)) ∧ ∀ q, q < nx → M1 q = M q)) := by
  refine pm_mk (own := RJ4) (nm := "toString") mt_J4_toString_0e30d rfl rfl rfl rfl fun X B => ?_
  refine pm_loc (L' := [some (.ref (z + a))]) rfl ?_
  refine pm_new (n0 := 4) B dJ4_toString_0e30d_0 nw_J4_18 rfl (by omega) (by omega) ?_
  refine pm_dup B dJ4_toString_0e30d_3 rfl ?_
  refine pm_aload_n B dJ4_toString_0e30d_4 rfl ?_
  refine pm_cI (As := [.ref (z + a)]) (mc2 := 1) (ms2 := 40) B rfl (c_J0_init_81219_e ((pm_up_n (by omega)).trans hM) ((pm_up_n (by omega)).trans hB) hN (by omega) (by omega) hfit pm_up_s (by omega) (by omega) (by omega)) mt_J0_init_81219 si_J4_137 dJ4_toString_0e30d_5 rfl rfl rfl (Nat.ble_eq_true_of_le (by omega)) (Nat.ble_eq_true_of_le (by omega)) ?_
  refine pm_stk (st' := [.ref (z + nx)]) rfl ?_
  exact pm_areturn B dJ4_toString_0e30d_8 rfl (by first | exact Or.inl ⟨_, rfl⟩ | exact Or.inr ⟨_, rfl⟩) (by first | exact Or.inl rfl | exact Or.inr ⟨_, rfl⟩) ⟨_, rfl, rfl, rfl, (pm_up_n (by omega)).trans pm_up_s, pm_up_s, fun q hq => (pm_up_n (by omega)).trans ((pm_up_n (by omega)).trans (pm_up_n (by omega)))⟩ (Nat.ble_eq_true_of_le (by omega)) (Nat.ble_eq_true_of_le (by omega))
set_option maxRecDepth 100000 in
set_option maxHeartbeats 4000000 in
theorem c_J0_init_db425_c {l : Launch} {z : Nat} {D : va_G} {kA : Nat → ClassId} {kE : Nat → Nat} {nx : Nat} {M : pm_M} {a b c : Nat} {ml : Int32} (hM : M a = some (.inr (12, [.ref (z + b), .int 0, .int ml, .int (nI c)]))) {N : Nat} {f : Nat → Int32} (hB : M b = some (.inl (kA 4, N, .inl f))) (hN : N ≤ 40) (hc : c < N) (han : a < nx) (hbn : b < nx) (hfit : ∀ i, i < N → fits .byte (.int (f i)) = true) {x : Nat} (hxm : M x = some (.inr (11, [.null, .int 0, .int 0, .int 0]))) (hxn : x < nx) (hxa : x ≠ a) (hxb : x ≠ b) : pm_C l z D kA kE yJ0_init_db425 cJ0_init_db425 5 none 4 1 40 [.ref (z + x), .ref (z + a), .null] nx M (pm_rt none (nx + 1) (pm_up (pm_up M x (.inr (11, [(.ref (z + nx)), .int 0, .int 0, .int 0]))) nx (.inl (kA 4, c, .inl (va_cpy f (fun _ => 0) 0 0 c))))) := by
  refine pm_mk (own := RJ0) (nm := "<init>") mt_J0_init_db425 rfl rfl rfl rfl fun X B => ?_
  refine pm_loc (L' := [some (.ref (z + x)), some (.ref (z + a)), some (.null), none, none]) rfl ?_
  refine pm_aload_n B dJ0_init_db425_0 rfl ?_
  refine pm_objInit B dJ0_init_db425_1 (pm_T_in 1336 (by decide +kernel) (by decide +kernel)) rfl rfl rfl rfl ?_
  refine pm_aload_n B dJ0_init_db425_4 rfl ?_
  refine pm_cUM (As := []) (mc2 := 0) (ms2 := 0) B rfl hM rfl (c_J5_getValue_6d5f1 hM) mt_J5_getValue_6d5f1 su_J0_552 dJ0_init_db425_5 rfl rfl rfl rfl rfl ?_
  refine pm_stk (st' := [.ref (z + b)]) rfl ?_
  refine pm_astore_n B dJ0_init_db425_8 rfl rfl ?_
  refine pm_loc (L' := [some (.ref (z + x)), some (.ref (z + a)), some (.null), some (.ref (z + b)), none]) rfl ?_
  refine pm_aload_n B dJ0_init_db425_9 rfl ?_
  refine pm_cUO (As := []) (mc2 := 0) (ms2 := 0) B rfl hM rfl (c_J4_length_8abf5 hM) mt_J4_length_8abf5 so_J0_549 dJ0_init_db425_10 rfl rfl rfl rfl rfl ?_
  refine pm_stk (st' := [.int (nI c)]) rfl ?_
  refine pm_istore B dJ0_init_db425_13 rfl rfl ?_
  refine pm_loc (L' := [some (.ref (z + x)), some (.ref (z + a)), some (.null), some (.ref (z + b)), some (.int (nI c))]) rfl ?_
  refine pm_aload_n B dJ0_init_db425_15 rfl ?_
  refine pm_cUM (As := []) (mc2 := 0) (ms2 := 0) B rfl hM rfl (c_J5_isLatin1_aae02 hM) mt_J5_isLatin1_aae02 su_J0_1047 dJ0_init_db425_16 rfl rfl rfl rfl rfl ?_
  refine pm_stk (st' := [.int 1]) rfl ?_
  refine pm_if_eq (tgt := 41) B dJ0_init_db425_19 (by decide) (fun hq1 => absurd hq1 (by decide)) (fun hq1 => ?_)
  refine pm_aload_n B dJ0_init_db425_22 rfl ?_
  refine pm_iconst (v := 0) B dJ0_init_db425_23 (by decide) ?_
  refine pm_putF B dJ0_init_db425_24 ff_J0_15 rfl hxm rfl rfl rfl ?_
  refine pm_mem (M' := pm_up M x (.inr (11, [.null, .int 0, .int 0, .int 0]))) rfl ?_
  refine pm_aload_n B dJ0_init_db425_27 rfl ?_
  refine pm_aload_n B dJ0_init_db425_28 rfl ?_
  refine pm_iconst (v := 0) B dJ0_init_db425_29 (by decide) ?_
  refine pm_iload B dJ0_init_db425_30 rfl ?_
  refine pm_cS (As := [.ref (z + b), .int 0, .int (nI c)]) (mc2 := 1) (ms2 := 40) B (c_J7_copyOfRange_39247_c ((pm_up_n (Ne.symm hxb)).trans hB) hN hc hbn hfit) mt_J7_copyOfRange_39247 ss_J0_54 dJ0_init_db425_32 rfl rfl rfl rfl rfl ?_
  refine pm_mem (M' := pm_up (pm_up M x (.inr (11, [.null, .int 0, .int 0, .int 0]))) nx (.inl (kA 4, c, .inl (va_cpy f (fun _ => 0) 0 0 c)))) rfl ?_
  refine pm_stk (st' := [.ref (z + nx), .ref (z + x)]) rfl ?_
  refine pm_putF B dJ0_init_db425_35 ff_J0_9 rfl ((pm_up_n (by omega)).trans pm_up_s) rfl rfl rfl ?_
  refine pm_mem (M' := pm_up (pm_up (pm_up M x (.inr (11, [.null, .int 0, .int 0, .int 0]))) nx (.inl (kA 4, c, .inl (va_cpy f (fun _ => 0) 0 0 c)))) x (.inr (11, [.ref (z + nx), .int 0, .int 0, .int 0]))) rfl ?_
  refine pm_mem (M' := pm_up (pm_up M x (.inr (11, [.ref (z + nx), .int 0, .int 0, .int 0]))) nx (.inl (kA 4, c, .inl (va_cpy f (fun _ => 0) 0 0 c)))) (by rw [pm_up_sw (a := nx) (b := x) (by omega), pm_up_up]) ?_
  refine pm_goto (tgt := 97) B dJ0_init_db425_38 (by decide) ?_
  exact pm_return B dJ0_init_db425_97 rfl ⟨rfl, rfl, rfl⟩ rfl rfl
set_option maxRecDepth 100000 in
set_option maxHeartbeats 4000000 in
theorem c_J0_init_81219_c {l : Launch} {z : Nat} {D : va_G} {kA : Nat → ClassId} {kE : Nat → Nat} {nx : Nat} {M : pm_M} {a b c : Nat} {ml : Int32} (hM : M a = some (.inr (12, [.ref (z + b), .int 0, .int ml, .int (nI c)]))) {N : Nat} {f : Nat → Int32} (hB : M b = some (.inl (kA 4, N, .inl f))) (hN : N ≤ 40) (hc : c < N) (han : a < nx) (hbn : b < nx) (hfit : ∀ i, i < N → fits .byte (.int (f i)) = true) {x : Nat} (hxm : M x = some (.inr (11, [.null, .int 0, .int 0, .int 0]))) (hxn : x < nx) (hxa : x ≠ a) (hxb : x ≠ b) : pm_C l z D kA kE yJ0_init_81219 cJ0_init_81219 2 none 5 1 40 [.ref (z + x), .ref (z + a)] nx M (pm_rt none (nx + 1) (pm_up (pm_up M x (.inr (11, [(.ref (z + nx)), .int 0, .int 0, .int 0]))) nx (.inl (kA 4, c, .inl (va_cpy f (fun _ => 0) 0 0 c))))) := by
  refine pm_mk (own := RJ0) (nm := "<init>") mt_J0_init_81219 rfl rfl rfl rfl fun X B => ?_
  refine pm_loc (L' := [some (.ref (z + x)), some (.ref (z + a))]) rfl ?_
  refine pm_aload_n B dJ0_init_81219_0 rfl ?_
  refine pm_aload_n B dJ0_init_81219_1 rfl ?_
  refine pm_null B dJ0_init_81219_2 ?_
  refine pm_cI (As := [.ref (z + a), .null]) (mc2 := 1) (ms2 := 40) B rfl (c_J0_init_db425_c hM hB hN hc han hbn hfit hxm hxn hxa hxb) mt_J0_init_db425 si_J0_489 dJ0_init_81219_3 rfl rfl rfl rfl rfl ?_
  refine pm_stk (st' := []) rfl ?_
  exact pm_return B dJ0_init_81219_6 rfl ⟨rfl, rfl, rfl⟩ rfl rfl
set_option maxRecDepth 100000 in
set_option maxHeartbeats 4000000 in
theorem c_J4_toString_0e30d_c {l : Launch} {z : Nat} {D : va_G} {kA : Nat → ClassId} {kE : Nat → Nat} {nx : Nat} {M : pm_M} {a b c : Nat} {ml : Int32} (hM : M a = some (.inr (12, [.ref (z + b), .int 0, .int ml, .int (nI c)]))) {N : Nat} {f : Nat → Int32} (hB : M b = some (.inl (kA 4, N, .inl f))) (hN : N ≤ 40) (hc : c < N) (han : a < nx) (hbn : b < nx) (hfit : ∀ i, i < N → fits .byte (.int (f i)) = true) : pm_C l z D kA kE yJ4_toString_0e30d cJ4_toString_0e30d 1 (some (.object "java/lang/String")) 6 2 44 [.ref (z + a)] nx M (pm_rx (fun ov n1 M1 => ov = some (.ref (z + nx)) ∧ n1 = nx + 2 ∧ M1 nx = some (.inr (11, [(.ref (z + (nx + 1))), .int 0, .int 0, .int 0])) ∧ M1 (nx + 1) = some (.inl (kA 4, c, .inl (va_cpy f (fun _ => 0) 0 0 c))) ∧ ∀ q, q < nx → M1 q = M q)) := by
  refine pm_mk (own := RJ4) (nm := "toString") mt_J4_toString_0e30d rfl rfl rfl rfl fun X B => ?_
  refine pm_loc (L' := [some (.ref (z + a))]) rfl ?_
  refine pm_new (n0 := 4) B dJ4_toString_0e30d_0 nw_J4_18 rfl (by omega) (by omega) ?_
  refine pm_dup B dJ4_toString_0e30d_3 rfl ?_
  refine pm_aload_n B dJ4_toString_0e30d_4 rfl ?_
  refine pm_cI (As := [.ref (z + a)]) (mc2 := 1) (ms2 := 40) B rfl (c_J0_init_81219_c ((pm_up_n (by omega)).trans hM) ((pm_up_n (by omega)).trans hB) hN hc (by omega) (by omega) hfit pm_up_s (by omega) (by omega) (by omega)) mt_J0_init_81219 si_J4_137 dJ4_toString_0e30d_5 rfl rfl rfl (Nat.ble_eq_true_of_le (by omega)) (Nat.ble_eq_true_of_le (by omega)) ?_
  refine pm_stk (st' := [.ref (z + nx)]) rfl ?_
  exact pm_areturn B dJ4_toString_0e30d_8 rfl (by first | exact Or.inl ⟨_, rfl⟩ | exact Or.inr ⟨_, rfl⟩) (by first | exact Or.inl rfl | exact Or.inr ⟨_, rfl⟩) ⟨_, rfl, rfl, rfl, (pm_up_n (by omega)).trans pm_up_s, pm_up_s, fun q hq => (pm_up_n (by omega)).trans ((pm_up_n (by omega)).trans (pm_up_n (by omega)))⟩ (Nat.ble_eq_true_of_le (by omega)) (Nat.ble_eq_true_of_le (by omega))
