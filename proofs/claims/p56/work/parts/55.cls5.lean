/-! calls of inherited methods; why a change is refused -/
def pm_SU (own : String) (index : Nat) (C owner : String) (x y : MethodName) : Prop := Cond.methodLink own index x ∈ pm_T ∧ Cond.sameMethod x.cls owner x.name x.desc ∈ pm_T ∧ Cond.selects C x y ∈ pm_T ∧ Cond.instanceMethod y ∈ pm_T ∧ y = ⟨owner, x.name, x.desc⟩
section PU
variable {l : Launch} {z : Nat} {D : va_G} {kA : Nat → ClassId} {kE : Nat → Nat} {own : String} {cc : ByteArray} {nL : Nat} {ret : Option FieldType} {nm : String} {tb : List ExceptionTableEntry} {d mc ms : Nat} {X : pm_X} {cu su : Nat} {Q : State → Prop} {nx : Nat} {M : pm_M} {pc : Nat} {L : List (Option Value)} {st : List Value}
variable {x y : MethodName} {cc2 : ByteArray} {nL2 n2 d2 mc2 ms2 : Nat} {ret2 : Option FieldType} {As : List Value} {index : Nat} {C owner : String}
theorem pm_cUL (B : pm_B l z D kA kE own cc nL ret nm tb d mc ms X) {ov : Option Value} {n1 : Nat} {M1 : pm_M} {a : Nat} (hO : ∀ U H, pm_Kx z kE U H → va_O C a (fun q => z ≤ q) U H) (hC : pm_C l z D kA kE y cc2 nL2 ret2 d2 mc2 ms2 (.ref a :: As) nx M (pm_rt ov n1 M1)) (hm : pm_Mt y cc2 nL2 ret2 n2) (hs : pm_SU own index C owner x y) (hd : decode cc pc = .ok (.invokevirtual index, 3)) (hn : As.length = n2) (hd2 : Nat.ble (d2 + 1) d = true) (hst : Nat.ble ((st.map fun v => v.category).sum) 8 = true) (hcu : Nat.ble (cu + mc2) mc = true) (hsu : Nat.ble (su + ms2) ms = true)
    (k : pm_G l z D X (cu + mc2) (su + ms2) Q n1 M1 (pc + 3) L (ov.toList ++ st)) : pm_G l z D X cu su Q nx M pc L (As.reverse ++ .ref a :: st) := by
  obtain ⟨hx, hb, hml, hown, hts, hr, hlk, hK, hnm, htb, ⟨hrf, hrl, hrc, hrs⟩, hz, hcs⟩ := id B
  obtain ⟨p, e, R, s, m, args, below, meth, c⟩ := X
  intro H locs ls hR hS hl
  have h1 := Nat.le_of_ble_eq_true hd2
  have h2 := Nat.le_of_ble_eq_true hcu
  have h3 := Nat.le_of_ble_eq_true hsu
  have h27 := hm.2.2.2.2
  have hroom : (pm_rm d2 mc2 ms2).frames + 1 ≤ R.frames ∧ 8 + (nL2 + 11) + (pm_rm d2 mc2 ms2).locals ≤ R.locals := by
    simp only [pm_rm] at hrf hrl ⊢
    omega
  have hMet := pm_noX hC (fun E st t h => by obtain ⟨n', M', h1, -⟩ := h; exact pm_rt_no E n' M' h1)
  obtain ⟨s1, s2, s3, s4, s5⟩ := hs
  have cw : va_CU R s args own C owner index x y cc2 nL2 ret2 (Cond.code y cc2 nL2 ret2 :: pm_T) (pm_rm d2 mc2 ms2) mc2 ms2 n2 := ⟨⟨rfl, rfl, hroom.1, hroom.2, pay_in hts (pm_good hm), List.mem_cons_self⟩, hts _ hm.1, hts _ hm.2.1, (by have h8 := hm.2.2.1; rw [s5] at h8; exact ⟨h8.1, h8.2.1⟩), fun sig h => (by have h8 := hm.2.2.1.2.2; rw [s5] at h8; simp only at h8; rw [h] at h8; exact (Option.some.inj h8).symm), hts _ s1, hts _ s2, (by have h8 := va_Decl.of (hts _ s4) (hts _ hm.1); rw [s5] at h8; exact h8), hts _ s3, hts _ s4⟩
  exact pm_afterA (va_runU ⟨hx, hb, hml, hown, hts⟩ hMet cw ⟨pm_Pc_blind, va_Orecv (hO _ _ hcs.2.2.2.2.1) hS, fun U hU hW => pm_Pc_at hR hS hK hcs hU hW⟩ rfl hn (by simp only at hml ⊢; rw [← hml]; exact hl.1) rfl (pm_sum_room rfl hst) hd ⟨by simp only at hrc ⊢; omega, by simp only at hrs ⊢; omega⟩) hS hl (fun v n' M' h => by obtain ⟨h1, rfl, rfl⟩ := h; cases h1; exact k)
theorem pm_cUM (B : pm_B l z D kA kE own cc nL ret nm tb d mc ms X) {ov : Option Value} {n1 : Nat} {M1 : pm_M} {a ci : Nat} {fs : List Value} (h13 : Nat.ble (ci + 1) 13 = true) (hM : M a = some (.inr (ci, fs))) (hci : (pm_ci ci).1 = C) (hC : pm_C l z D kA kE y cc2 nL2 ret2 d2 mc2 ms2 (.ref (z + a) :: As) nx M (pm_rt ov n1 M1)) (hm : pm_Mt y cc2 nL2 ret2 n2) (hs : pm_SU own index C owner x y) (hd : decode cc pc = .ok (.invokevirtual index, 3)) (hn : As.length = n2) (hd2 : Nat.ble (d2 + 1) d = true) (hst : Nat.ble ((st.map fun v => v.category).sum) 8 = true) (hcu : Nat.ble (cu + mc2) mc = true) (hsu : Nat.ble (su + ms2) ms = true)
    (k : pm_G l z D X (cu + mc2) (su + ms2) Q n1 M1 (pc + 3) L (ov.toList ++ st)) : pm_G l z D X cu su Q nx M pc L (As.reverse ++ .ref (z + a) :: st) := by
  obtain ⟨hx, hb, hml, hown, hts, hr, hlk, hK, hnm, htb, ⟨hrf, hrl, hrc, hrs⟩, hz, hcs⟩ := id B
  obtain ⟨p, e, R, s, m, args, below, meth, c⟩ := X
  intro H locs ls hR hS hl
  have h1 := Nat.le_of_ble_eq_true hd2
  have h2 := Nat.le_of_ble_eq_true hcu
  have h3 := Nat.le_of_ble_eq_true hsu
  have h27 := hm.2.2.2.2
  have hroom : (pm_rm d2 mc2 ms2).frames + 1 ≤ R.frames ∧ 8 + (nL2 + 11) + (pm_rm d2 mc2 ms2).locals ≤ R.locals := by
    simp only [pm_rm] at hrf hrl ⊢
    omega
  have hMet := pm_noX hC (fun E st t h => by obtain ⟨n', M', h1, -⟩ := h; exact pm_rt_no E n' M' h1)
  obtain ⟨s1, s2, s3, s4, s5⟩ := hs
  have cw : va_CU R s args own C owner index x y cc2 nL2 ret2 (Cond.code y cc2 nL2 ret2 :: pm_T) (pm_rm d2 mc2 ms2) mc2 ms2 n2 := ⟨⟨rfl, rfl, hroom.1, hroom.2, pay_in hts (pm_good hm), List.mem_cons_self⟩, hts _ hm.1, hts _ hm.2.1, (by have h8 := hm.2.2.1; rw [s5] at h8; exact ⟨h8.1, h8.2.1⟩), fun sig h => (by have h8 := hm.2.2.1.2.2; rw [s5] at h8; simp only at h8; rw [h] at h8; exact (Option.some.inj h8).symm), hts _ s1, hts _ s2, (by have h8 := va_Decl.of (hts _ s4) (hts _ hm.1); rw [s5] at h8; exact h8), hts _ s3, hts _ s4⟩
  have hrec := va_recv (q0 := 0) (ws := [(z + a, .inr (ci, fs))]) hK (pm_single (hR.2 a _ hM).2) (pm_ci_get (Nat.le_of_ble_eq_true h13)) rfl
  rw [show ((pm_ci ci).1, (pm_ci ci).2.1, (pm_ci ci).2.2).1 = C from hci] at hrec
  exact pm_afterA (va_runU ⟨hx, hb, hml, hown, hts⟩ hMet cw ⟨pm_Pc_blind, hrec, fun U hU hW => pm_Pc_at hR hS hK hcs hU hW⟩ rfl hn (by simp only at hml ⊢; rw [← hml]; exact hl.1) rfl (pm_sum_room rfl hst) hd ⟨by simp only at hrc ⊢; omega, by simp only at hrs ⊢; omega⟩) hS hl (fun v n' M' h => by obtain ⟨h1, rfl, rfl⟩ := h; cases h1; exact k)
end PU
/-- null, or a Refusal that is new -/
def pm_rf (z nx : Nat) (M : pm_M) (q : Int32 × Int32) : pm_Po := if q.1 = 0 then pm_rt (some .null) nx M else pm_rt (some (.ref (z + nx))) (nx + 1) (pm_up M nx (.inr (6, [.int q.1, .int q.2, .null])))
theorem pm_rf_z {z nx : Nat} {M : pm_M} {q : Int32 × Int32} (h : q.1 = 0) : pm_rf z nx M q = pm_rt (some .null) nx M := if_pos h
theorem pm_rf_p {z nx : Nat} {M : pm_M} {q : Int32 × Int32} (h : ¬ q.1 = 0) : pm_rf z nx M q = pm_rt (some (.ref (z + nx))) (nx + 1) (pm_up M nx (.inr (6, [.int q.1, .int q.2, .null]))) := if_neg h
theorem pm_C_z {l : Launch} {z : Nat} {D : va_G} {kA : Nat → ClassId} {kE : Nat → Nat} {y : MethodName} {cc : ByteArray} {nL d mc ms nx : Nat} {ret : Option FieldType} {As : List Value} {M : pm_M} {q : Int32 × Int32} (h : q.1 = 0) (hC : pm_C l z D kA kE y cc nL ret d mc ms As nx M (pm_rf z nx M q)) : pm_C l z D kA kE y cc nL ret d mc ms As nx M (pm_rt (some .null) nx M) := pm_rf_z h ▸ hC
theorem pm_C_p {l : Launch} {z : Nat} {D : va_G} {kA : Nat → ClassId} {kE : Nat → Nat} {y : MethodName} {cc : ByteArray} {nL d mc ms nx : Nat} {ret : Option FieldType} {As : List Value} {M : pm_M} {q : Int32 × Int32} (h : ¬ q.1 = 0) (hC : pm_C l z D kA kE y cc nL ret d mc ms As nx M (pm_rf z nx M q)) : pm_C l z D kA kE y cc nL ret d mc ms As nx M (pm_rt (some (.ref (z + nx))) (nx + 1) (pm_up M nx (.inr (6, [.int q.1, .int q.2, .null])))) := pm_rf_p h ▸ hC
abbrev RJE : String := "java/lang/Enum"
abbrev cordinal : ByteArray := prog_24_method_2_code
def yordinal : MethodName := ⟨RJE, "ordinal", "()I"⟩
def xordinal : MethodName := ⟨"ThunderCartel$Command", "ordinal", "()I"⟩
theorem dordinal_0 : decode cordinal 0 = .ok (.aload_n 0, 1) := by decide +kernel
theorem dordinal_1 : decode cordinal 1 = .ok (.getfield 7, 3) := by decide +kernel
theorem dordinal_4 : decode cordinal 4 = .ok (.ireturn, 1) := by decide +kernel
theorem mt_ordinal : pm_Mt yordinal cordinal 1 (some .int) 0 := ⟨pm_T_in 403 (by decide +kernel) (by decide +kernel), pm_T_in 49 (by decide +kernel) (by decide +kernel), ⟨by decide +kernel, by decide +kernel, by decide +kernel⟩, by decide +kernel, by decide⟩
theorem su_X7_34 : pm_SU RX7 34 "ThunderCartel$Command" "java/lang/Enum" xordinal yordinal := ⟨pm_T_in 398 (by decide +kernel) (by decide +kernel), pm_T_in 399 (by decide +kernel) (by decide +kernel), pm_T_in 401 (by decide +kernel) (by decide +kernel), pm_T_in 402 (by decide +kernel) (by decide +kernel), rfl⟩
theorem c_ordinal {l : Launch} {z : Nat} {D : va_G} {kA : Nat → ClassId} {kE : Nat → Nat} {nx : Nat} {M : pm_M} {i : Nat} (hi : i < 11) : pm_C l z D kA kE yordinal cordinal 1 (some .int) 0 0 0 [.ref (kE i)] nx M (pm_rt (some (.int (nI i))) nx M) := by
  refine pm_mk (own := RJE) (nm := "ordinal") mt_ordinal rfl rfl rfl rfl fun X B => ?_
  refine pm_loc (L' := [some (.ref (kE i))]) rfl ?_
  refine pm_aload_n B dordinal_0 rfl ?_
  refine pm_getL B (fun U H h => (h.1 i hi).2.2.1) (pm_T_in 1646 (by decide +kernel) (by decide +kernel)) dordinal_1 ?_
  exact pm_ireturn B dordinal_4 rfl rfl ⟨rfl, rfl, rfl⟩ rfl rfl
set_option maxRecDepth 100000 in
set_option maxHeartbeats 4000000 in
theorem c_X8_init {l : Launch} {z : Nat} {D : va_G} {kA : Nat → ClassId} {kE : Nat → Nat} {nx : Nat} {M : pm_M} {a t : Nat} {x y p dt : Int32} {v : Value} (hM : M a = some (.inr (6, [.int x, .int y, v]))) : pm_C l z D kA kE yX8_init cX8_init 4 none 1 0 0 [.ref (z + a), .int p, .int dt, .null] nx M (pm_rt none nx (pm_up M a (.inr (6, [.int p, .int dt, .null])))) := by
  refine pm_mk (own := RX8) (nm := "<init>") mt_X8_init rfl rfl rfl rfl fun X B => ?_
  refine pm_loc (L' := [some (.ref (z + a)), some (.int p), some (.int dt), some (.null)]) rfl ?_
  refine pm_aload_n B dX8_init_0 rfl ?_
  refine pm_objInit B dX8_init_1 (pm_T_in 416 (by decide +kernel) (by decide +kernel)) rfl rfl rfl rfl ?_
  refine pm_aload_n B dX8_init_4 rfl ?_
  refine pm_iload_n B dX8_init_5 rfl ?_
  refine pm_putF B dX8_init_6 ff_X8_7 rfl hM rfl rfl rfl ?_
  refine pm_mem (M' := pm_up M a (.inr (6, [.int p, .int y, v]))) rfl ?_
  refine pm_aload_n B dX8_init_9 rfl ?_
  refine pm_iload_n B dX8_init_10 rfl ?_
  refine pm_putF B dX8_init_11 ff_X8_13 rfl pm_up_s rfl rfl rfl ?_
  refine pm_mem (M' := pm_up M a (.inr (6, [.int p, .int dt, v]))) pm_up_up ?_
  refine pm_aload_n B dX8_init_14 rfl ?_
  refine pm_aload_nN B dX8_init_15 rfl ?_
  refine pm_putF B dX8_init_16 ff_X8_16 rfl pm_up_s rfl rfl rfl ?_
  refine pm_mem (M' := pm_up M a (.inr (6, [.int p, .int dt, .null]))) pm_up_up ?_
  exact pm_return B dX8_init_19 rfl ⟨rfl, rfl, rfl⟩ rfl rfl
set_option maxRecDepth 100000 in
set_option maxHeartbeats 4000000 in
theorem c_X8_initr {l : Launch} {z : Nat} {D : va_G} {kA : Nat → ClassId} {kE : Nat → Nat} {nx : Nat} {M : pm_M} {a t : Nat} {x y p dt : Int32} {v : Value} (hM : M a = some (.inr (6, [.int x, .int y, v]))) : pm_C l z D kA kE yX8_init cX8_init 4 none 1 0 0 [.ref (z + a), .int p, .int dt, .ref (z + t)] nx M (pm_rt none nx (pm_up M a (.inr (6, [.int p, .int dt, .ref (z + t)])))) := by
  refine pm_mk (own := RX8) (nm := "<init>") mt_X8_init rfl rfl rfl rfl fun X B => ?_
  refine pm_loc (L' := [some (.ref (z + a)), some (.int p), some (.int dt), some (.ref (z + t))]) rfl ?_
  refine pm_aload_n B dX8_init_0 rfl ?_
  refine pm_objInit B dX8_init_1 (pm_T_in 416 (by decide +kernel) (by decide +kernel)) rfl rfl rfl rfl ?_
  refine pm_aload_n B dX8_init_4 rfl ?_
  refine pm_iload_n B dX8_init_5 rfl ?_
  refine pm_putF B dX8_init_6 ff_X8_7 rfl hM rfl rfl rfl ?_
  refine pm_mem (M' := pm_up M a (.inr (6, [.int p, .int y, v]))) rfl ?_
  refine pm_aload_n B dX8_init_9 rfl ?_
  refine pm_iload_n B dX8_init_10 rfl ?_
  refine pm_putF B dX8_init_11 ff_X8_13 rfl pm_up_s rfl rfl rfl ?_
  refine pm_mem (M' := pm_up M a (.inr (6, [.int p, .int dt, v]))) pm_up_up ?_
  refine pm_aload_n B dX8_init_14 rfl ?_
  refine pm_aload_n B dX8_init_15 rfl ?_
  refine pm_putF B dX8_init_16 ff_X8_16 rfl pm_up_s rfl rfl rfl ?_
  refine pm_mem (M' := pm_up M a (.inr (6, [.int p, .int dt, .ref (z + t)]))) pm_up_up ?_
  exact pm_return B dX8_init_19 rfl ⟨rfl, rfl, rfl⟩ rfl rfl
set_option maxRecDepth 100000 in
set_option maxHeartbeats 4000000 in
theorem c_X12_isWithin {l : Launch} {z : Nat} {D : va_G} {kA : Nat → ClassId} {kE : Nat → Nat} {nx : Nat} {M : pm_M} {v lo hi : Int32} : pm_C l z D kA kE yX12_isWithin cX12_isWithin 3 (some .boolean) 0 0 0 [.int v, .int lo, .int hi] nx M (pm_rt (some (.int (pm_in v lo hi))) nx M) := by
  refine pm_mk (own := RX12) (nm := "isWithin") mt_X12_isWithin rfl rfl rfl rfl fun X B => ?_
  refine pm_loc (L' := [some (.int v), some (.int lo), some (.int hi)]) rfl ?_
  refine pm_iload_n B dX12_isWithin_0 rfl ?_
  refine pm_iload_n B dX12_isWithin_1 rfl ?_
  refine pm_icmp_lt (tgt := 14) B dX12_isWithin_2 (by decide) (fun hq1 => ?_) (fun hq1 => ?_)
  · refine pm_iconst (v := 0) B dX12_isWithin_14 (by decide) ?_
    exact pm_ireturn B dX12_isWithin_15 rfl (by first | rfl | (apply pm_nz; first | assumption | decide | exact pm_in01 _ _ _ | simp)) ⟨by unfold pm_in; rw [if_pos hq1], rfl, rfl⟩ rfl rfl
  · refine pm_iload_n B dX12_isWithin_5 rfl ?_
    refine pm_iload_n B dX12_isWithin_6 rfl ?_
    refine pm_icmp_gt (tgt := 14) B dX12_isWithin_7 (by decide) (fun hq2 => ?_) (fun hq2 => ?_)
    · refine pm_iconst (v := 0) B dX12_isWithin_14 (by decide) ?_
      exact pm_ireturn B dX12_isWithin_15 rfl (by first | rfl | (apply pm_nz; first | assumption | decide | exact pm_in01 _ _ _ | simp)) ⟨by unfold pm_in; rw [if_neg hq1, if_pos hq2], rfl, rfl⟩ rfl rfl
    · refine pm_iconst (v := 1) B dX12_isWithin_10 (by decide) ?_
      refine pm_goto (tgt := 15) B dX12_isWithin_11 (by decide) ?_
      exact pm_ireturn B dX12_isWithin_15 rfl (by first | rfl | (apply pm_nz; first | assumption | decide | exact pm_in01 _ _ _ | simp)) ⟨by unfold pm_in; rw [if_neg hq1, if_neg hq2], rfl, rfl⟩ rfl rfl
def d_X7_refusalOfRange (x : Int32) (y : Int32) (w : Int32) : Int32 × Int32 := if (pm_in x y w) = 0 then ((-2), 0) else (0, 0)
set_option maxRecDepth 100000 in
set_option maxHeartbeats 8000000 in
theorem c_X7_refusalOfRange {l : Launch} {z : Nat} {D : va_G} {kA : Nat → ClassId} {kE : Nat → Nat} {nx : Nat} {M : pm_M} {x : Int32} {y : Int32} {w : Int32} (hnx : 140 ≤ nx) : pm_C l z D kA kE yX7_refusalOfRange cX7_refusalOfRange 3 (some (.object "ThunderCartel$Refusal")) 2 1 3 [.int x, .int y, .int w] nx M (pm_rf z nx M (d_X7_refusalOfRange x y w)) := by
  refine pm_mk (own := RX7) (nm := "refusalOfRange") mt_X7_refusalOfRange rfl rfl rfl rfl fun X B => ?_
  refine pm_loc (L' := [some (.int x), some (.int y), some (.int w)]) rfl ?_
  refine pm_iload_n B dX7_refusalOfRange_0 rfl ?_
  refine pm_iload_n B dX7_refusalOfRange_1 rfl ?_
  refine pm_iload_n B dX7_refusalOfRange_2 rfl ?_
  refine pm_cSN (As := [.int x, .int y, .int w]) (mc2 := 0) (ms2 := 0) B c_X12_isWithin mt_X12_isWithin ss_X7_107 dX7_refusalOfRange_3 rfl rfl rfl rfl rfl ?_
  refine pm_stk (st' := [.int (pm_in x y w)]) rfl ?_
  refine pm_if_eq (tgt := 13) B dX7_refusalOfRange_6 (by decide) (fun hq1 => ?_) (fun hq1 => ?_)
  · refine pm_new (n0 := 3) B dX7_refusalOfRange_13 nw_X7_111 rfl (by decide) (by decide) ?_
    refine pm_stk (st' := [.ref (z + nx)]) rfl ?_
    refine pm_dup B dX7_refusalOfRange_16 rfl ?_
    refine pm_bipush (v := (-2)) B dX7_refusalOfRange_17 (by decide) ?_
    refine pm_iconst (v := 0) B dX7_refusalOfRange_19 (by decide) ?_
    refine pm_null B dX7_refusalOfRange_20 ?_
    refine pm_cI (As := [.int (-2), .int 0, .null]) (mc2 := 0) (ms2 := 0) B rfl (c_X8_init (t := 0) pm_up_s) mt_X8_init si_X7_113 dX7_refusalOfRange_21 rfl rfl rfl rfl rfl ?_
    refine pm_mem (M' := pm_up M nx (.inr (6, [.int (-2), .int 0, .null]))) (by rw [pm_up_up] <;> rfl) ?_
    refine pm_stk (st' := [.ref (z + nx)]) rfl ?_
    have hDq2 : (d_X7_refusalOfRange x y w) = ((-2), 0) := by rw [d_X7_refusalOfRange, if_pos hq1]
    exact pm_areturn B dX7_refusalOfRange_24 rfl (Or.inl ⟨_, rfl⟩) (Or.inr ⟨_, rfl⟩) (by rw [hDq2, pm_rf_p (show ¬ ((-2) : Int32) = 0 by first | decide | assumption)]; exact ⟨rfl, rfl, rfl⟩) rfl rfl
  · refine pm_null B dX7_refusalOfRange_9 ?_
    refine pm_goto (tgt := 24) B dX7_refusalOfRange_10 (by decide) ?_
    have hDq3 : (d_X7_refusalOfRange x y w) = (0, 0) := by rw [d_X7_refusalOfRange, if_neg hq1]
    exact pm_areturn B dX7_refusalOfRange_24 rfl (Or.inl ⟨_, rfl⟩) (Or.inl rfl) (by rw [hDq3, pm_rf_z rfl]; exact ⟨rfl, rfl, rfl⟩) rfl rfl
def d_X7_refusalOfValue (x : Int32) (y : Int32) (w : Int32) (v : Int32) : Int32 × Int32 := if (pm_in x y w) = 0 then ((-2), 0) else (if x = v then (7, v) else (0, 0))
set_option maxRecDepth 100000 in
set_option maxHeartbeats 8000000 in
theorem c_X7_refusalOfValue {l : Launch} {z : Nat} {D : va_G} {kA : Nat → ClassId} {kE : Nat → Nat} {nx : Nat} {M : pm_M} {x : Int32} {y : Int32} {w : Int32} {v : Int32} (hnx : 140 ≤ nx) : pm_C l z D kA kE yX7_refusalOfValue cX7_refusalOfValue 4 (some (.object "ThunderCartel$Refusal")) 2 1 3 [.int x, .int y, .int w, .int v] nx M (pm_rf z nx M (d_X7_refusalOfValue x y w v)) := by
  refine pm_mk (own := RX7) (nm := "refusalOfValue") mt_X7_refusalOfValue rfl rfl rfl rfl fun X B => ?_
  refine pm_loc (L' := [some (.int x), some (.int y), some (.int w), some (.int v)]) rfl ?_
  refine pm_iload_n B dX7_refusalOfValue_0 rfl ?_
  refine pm_iload_n B dX7_refusalOfValue_1 rfl ?_
  refine pm_iload_n B dX7_refusalOfValue_2 rfl ?_
  refine pm_cSN (As := [.int x, .int y, .int w]) (mc2 := 0) (ms2 := 0) B c_X12_isWithin mt_X12_isWithin ss_X7_107 dX7_refusalOfValue_3 rfl rfl rfl rfl rfl ?_
  refine pm_stk (st' := [.int (pm_in x y w)]) rfl ?_
  refine pm_if_ne (tgt := 21) B dX7_refusalOfValue_6 (by decide) (fun hq1 => ?_) (fun hq1 => ?_)
  · refine pm_iload_n B dX7_refusalOfValue_21 rfl ?_
    refine pm_iload_n B dX7_refusalOfValue_22 rfl ?_
    refine pm_icmp_eq (tgt := 30) B dX7_refusalOfValue_23 (by decide) (fun hq2 => ?_) (fun hq2 => ?_)
    · refine pm_new (n0 := 3) B dX7_refusalOfValue_30 nw_X7_111 rfl (by decide) (by decide) ?_
      refine pm_stk (st' := [.ref (z + nx)]) rfl ?_
      refine pm_dup B dX7_refusalOfValue_33 rfl ?_
      refine pm_bipush (v := 7) B dX7_refusalOfValue_34 (by decide) ?_
      refine pm_iload_n B dX7_refusalOfValue_36 rfl ?_
      refine pm_null B dX7_refusalOfValue_37 ?_
      refine pm_cI (As := [.int 7, .int v, .null]) (mc2 := 0) (ms2 := 0) B rfl (c_X8_init (t := 0) pm_up_s) mt_X8_init si_X7_113 dX7_refusalOfValue_38 rfl rfl rfl rfl rfl ?_
      refine pm_mem (M' := pm_up M nx (.inr (6, [.int 7, .int v, .null]))) (by rw [pm_up_up] <;> rfl) ?_
      refine pm_stk (st' := [.ref (z + nx)]) rfl ?_
      have hDq3 : (d_X7_refusalOfValue x y w v) = (7, v) := by rw [d_X7_refusalOfValue, if_neg hq1, if_pos hq2]
      exact pm_areturn B dX7_refusalOfValue_41 rfl (Or.inl ⟨_, rfl⟩) (Or.inr ⟨_, rfl⟩) (by rw [hDq3, pm_rf_p (show ¬ (7 : Int32) = 0 by first | decide | assumption)]; exact ⟨rfl, rfl, rfl⟩) rfl rfl
    · refine pm_null B dX7_refusalOfValue_26 ?_
      refine pm_goto (tgt := 41) B dX7_refusalOfValue_27 (by decide) ?_
      have hDq4 : (d_X7_refusalOfValue x y w v) = (0, 0) := by rw [d_X7_refusalOfValue, if_neg hq1, if_neg hq2]
      exact pm_areturn B dX7_refusalOfValue_41 rfl (Or.inl ⟨_, rfl⟩) (Or.inl rfl) (by rw [hDq4, pm_rf_z rfl]; exact ⟨rfl, rfl, rfl⟩) rfl rfl
  · refine pm_new (n0 := 3) B dX7_refusalOfValue_9 nw_X7_111 rfl (by decide) (by decide) ?_
    refine pm_stk (st' := [.ref (z + nx)]) rfl ?_
    refine pm_dup B dX7_refusalOfValue_12 rfl ?_
    refine pm_bipush (v := (-2)) B dX7_refusalOfValue_13 (by decide) ?_
    refine pm_iconst (v := 0) B dX7_refusalOfValue_15 (by decide) ?_
    refine pm_null B dX7_refusalOfValue_16 ?_
    refine pm_cI (As := [.int (-2), .int 0, .null]) (mc2 := 0) (ms2 := 0) B rfl (c_X8_init (t := 0) pm_up_s) mt_X8_init si_X7_113 dX7_refusalOfValue_17 rfl rfl rfl rfl rfl ?_
    refine pm_mem (M' := pm_up M nx (.inr (6, [.int (-2), .int 0, .null]))) (by rw [pm_up_up] <;> rfl) ?_
    refine pm_stk (st' := [.ref (z + nx)]) rfl ?_
    have hDq5 : (d_X7_refusalOfValue x y w v) = ((-2), 0) := by rw [d_X7_refusalOfValue, if_pos hq1]
    exact pm_areturn B dX7_refusalOfValue_20 rfl (Or.inl ⟨_, rfl⟩) (Or.inr ⟨_, rfl⟩) (by rw [hDq5, pm_rf_p (show ¬ ((-2) : Int32) = 0 by first | decide | assumption)]; exact ⟨rfl, rfl, rfl⟩) rfl rfl
def d_X7_refusalOfJoin (x : Int32) (y : Int32) (n : Nat) (r : Nat → Int32) : Int32 × Int32 := if (pm_in x 1 99) = 0 then ((-2), 0) else (if (pm_in y 1 20) = 0 then ((-2), 0) else (if 7 ≤ (nI n) then (1, 7) else (0, 0)))
set_option maxRecDepth 100000 in
set_option maxHeartbeats 8000000 in
theorem c_X7_refusalOfJoin {l : Launch} {z : Nat} {D : va_G} {kA : Nat → ClassId} {kE : Nat → Nat} {nx : Nat} {M : pm_M} {x : Int32} {y : Int32} {n : Nat} {r : Nat → Int32} (hS : pm_SA z kA 2 M r) (hO1 : M 1 = some (.inr (5, [.ref (z + 2), .ref (z + 13), .ref (z + 16)]))) (hn : r 0 = nI n) (h7 : n ≤ 7) (hnx : 140 ≤ nx) : pm_C l z D kA kE yX7_refusalOfJoin cX7_refusalOfJoin 3 (some (.object "ThunderCartel$Refusal")) 2 1 3 [.ref (z + 1), .int x, .int y] nx M (pm_rf z nx M (d_X7_refusalOfJoin x y n r)) := by
  refine pm_mk (own := RX7) (nm := "refusalOfJoin") mt_X7_refusalOfJoin rfl rfl rfl rfl fun X B => ?_
  refine pm_loc (L' := [some (.ref (z + 1)), some (.int x), some (.int y)]) rfl ?_
  refine pm_iload_n B dX7_refusalOfJoin_0 rfl ?_
  refine pm_iconst (v := 1) B dX7_refusalOfJoin_1 (by decide) ?_
  refine pm_bipush (v := 99) B dX7_refusalOfJoin_2 (by decide) ?_
  refine pm_cSN (As := [.int x, .int 1, .int 99]) (mc2 := 0) (ms2 := 0) B c_X12_isWithin mt_X12_isWithin ss_X7_107 dX7_refusalOfJoin_4 rfl rfl rfl rfl rfl ?_
  refine pm_stk (st' := [.int (pm_in x 1 99)]) rfl ?_
  refine pm_if_eq (tgt := 20) B dX7_refusalOfJoin_7 (by decide) (fun hq1 => ?_) (fun hq1 => ?_)
  · refine pm_new (n0 := 3) B dX7_refusalOfJoin_20 nw_X7_111 rfl (by decide) (by decide) ?_
    refine pm_stk (st' := [.ref (z + nx)]) rfl ?_
    refine pm_dup B dX7_refusalOfJoin_23 rfl ?_
    refine pm_bipush (v := (-2)) B dX7_refusalOfJoin_24 (by decide) ?_
    refine pm_iconst (v := 0) B dX7_refusalOfJoin_26 (by decide) ?_
    refine pm_null B dX7_refusalOfJoin_27 ?_
    refine pm_cI (As := [.int (-2), .int 0, .null]) (mc2 := 0) (ms2 := 0) B rfl (c_X8_init (t := 0) pm_up_s) mt_X8_init si_X7_113 dX7_refusalOfJoin_28 rfl rfl rfl rfl rfl ?_
    refine pm_mem (M' := pm_up M nx (.inr (6, [.int (-2), .int 0, .null]))) (by rw [pm_up_up] <;> rfl) ?_
    refine pm_stk (st' := [.ref (z + nx)]) rfl ?_
    have hDq2 : (d_X7_refusalOfJoin x y n r) = ((-2), 0) := by rw [d_X7_refusalOfJoin, if_pos hq1]
    exact pm_areturn B dX7_refusalOfJoin_31 rfl (Or.inl ⟨_, rfl⟩) (Or.inr ⟨_, rfl⟩) (by rw [hDq2, pm_rf_p (show ¬ ((-2) : Int32) = 0 by first | decide | assumption)]; exact ⟨rfl, rfl, rfl⟩) rfl rfl
  · refine pm_iload_n B dX7_refusalOfJoin_10 rfl ?_
    refine pm_iconst (v := 1) B dX7_refusalOfJoin_11 (by decide) ?_
    refine pm_bipush (v := 20) B dX7_refusalOfJoin_12 (by decide) ?_
    refine pm_cSN (As := [.int y, .int 1, .int 20]) (mc2 := 0) (ms2 := 0) B c_X12_isWithin mt_X12_isWithin ss_X7_107 dX7_refusalOfJoin_14 rfl rfl rfl rfl rfl ?_
    refine pm_stk (st' := [.int (pm_in y 1 20)]) rfl ?_
    refine pm_if_ne (tgt := 32) B dX7_refusalOfJoin_17 (by decide) (fun hq3 => ?_) (fun hq3 => ?_)
    · refine pm_aload_n B dX7_refusalOfJoin_32 rfl ?_
      refine pm_get B dX7_refusalOfJoin_33 fl_X7_12 hO1 rfl ?_
      refine pm_get B dX7_refusalOfJoin_36 fl_X7_116 (hS.1) rfl ?_
      refine pm_stk (st' := [.int (nI n)]) (by rw [show (r 0) = (nI n) from by rw [hn]]) ?_
      refine pm_bipush (v := 7) B dX7_refusalOfJoin_39 (by decide) ?_
      refine pm_icmp_ge (tgt := 48) B dX7_refusalOfJoin_41 (by decide) (fun hq4 => ?_) (fun hq4 => ?_)
      · refine pm_new (n0 := 3) B dX7_refusalOfJoin_48 nw_X7_111 rfl (by decide) (by decide) ?_
        refine pm_stk (st' := [.ref (z + nx)]) rfl ?_
        refine pm_dup B dX7_refusalOfJoin_51 rfl ?_
        refine pm_iconst (v := 1) B dX7_refusalOfJoin_52 (by decide) ?_
        refine pm_bipush (v := 7) B dX7_refusalOfJoin_53 (by decide) ?_
        refine pm_null B dX7_refusalOfJoin_55 ?_
        refine pm_cI (As := [.int 1, .int 7, .null]) (mc2 := 0) (ms2 := 0) B rfl (c_X8_init (t := 0) pm_up_s) mt_X8_init si_X7_113 dX7_refusalOfJoin_56 rfl rfl rfl rfl rfl ?_
        refine pm_mem (M' := pm_up M nx (.inr (6, [.int 1, .int 7, .null]))) (by rw [pm_up_up] <;> rfl) ?_
        refine pm_stk (st' := [.ref (z + nx)]) rfl ?_
        have hDq5 : (d_X7_refusalOfJoin x y n r) = (1, 7) := by rw [d_X7_refusalOfJoin, if_neg hq1, if_neg hq3, if_pos hq4]
        exact pm_areturn B dX7_refusalOfJoin_59 rfl (Or.inl ⟨_, rfl⟩) (Or.inr ⟨_, rfl⟩) (by rw [hDq5, pm_rf_p (show ¬ (1 : Int32) = 0 by first | decide | assumption)]; exact ⟨rfl, rfl, rfl⟩) rfl rfl
      · refine pm_null B dX7_refusalOfJoin_44 ?_
        refine pm_goto (tgt := 59) B dX7_refusalOfJoin_45 (by decide) ?_
        have hDq6 : (d_X7_refusalOfJoin x y n r) = (0, 0) := by rw [d_X7_refusalOfJoin, if_neg hq1, if_neg hq3, if_neg hq4]
        exact pm_areturn B dX7_refusalOfJoin_59 rfl (Or.inl ⟨_, rfl⟩) (Or.inl rfl) (by rw [hDq6, pm_rf_z rfl]; exact ⟨rfl, rfl, rfl⟩) rfl rfl
    · refine pm_new (n0 := 3) B dX7_refusalOfJoin_20 nw_X7_111 rfl (by decide) (by decide) ?_
      refine pm_stk (st' := [.ref (z + nx)]) rfl ?_
      refine pm_dup B dX7_refusalOfJoin_23 rfl ?_
      refine pm_bipush (v := (-2)) B dX7_refusalOfJoin_24 (by decide) ?_
      refine pm_iconst (v := 0) B dX7_refusalOfJoin_26 (by decide) ?_
      refine pm_null B dX7_refusalOfJoin_27 ?_
      refine pm_cI (As := [.int (-2), .int 0, .null]) (mc2 := 0) (ms2 := 0) B rfl (c_X8_init (t := 0) pm_up_s) mt_X8_init si_X7_113 dX7_refusalOfJoin_28 rfl rfl rfl rfl rfl ?_
      refine pm_mem (M' := pm_up M nx (.inr (6, [.int (-2), .int 0, .null]))) (by rw [pm_up_up] <;> rfl) ?_
      refine pm_stk (st' := [.ref (z + nx)]) rfl ?_
      have hDq7 : (d_X7_refusalOfJoin x y n r) = ((-2), 0) := by rw [d_X7_refusalOfJoin, if_neg hq1, if_pos hq3]
      exact pm_areturn B dX7_refusalOfJoin_31 rfl (Or.inl ⟨_, rfl⟩) (Or.inr ⟨_, rfl⟩) (by rw [hDq7, pm_rf_p (show ¬ ((-2) : Int32) = 0 by first | decide | assumption)]; exact ⟨rfl, rfl, rfl⟩) rfl rfl
theorem d_X10_hasMember_in {x : Int32} {n : Nat} {r : Nat → Int32} (h7 : n ≤ 7) (h : ¬ d_X10_hasMember x n r = 0) : x = nI (pm_n x) ∧ pm_n x < n := by
  unfold d_X10_hasMember at h
  have h1 : ¬ x < 0 := fun e => h (by (repeat' split) <;> first | rfl | (exfalso; rename_i a; exact absurd e (by first | exact Int32.not_lt.mpr a | assumption)) | (exfalso; rename_i a b; exact absurd e (by first | exact Int32.not_lt.mpr a | assumption)))
  obtain ⟨j, hj, rfl⟩ := nI_of h1
  rw [pm_n_nI hj]
  refine ⟨rfl, Decidable.byContradiction fun hn => h ?_⟩
  have h2 : nI n ≤ nI j := (nI_leI (by omega) hj).mpr (by omega)
  (repeat' split) <;> first | rfl | (exfalso; rename_i a; exact absurd h2 (by first | assumption | exact Int32.not_le.mpr a)) | (exfalso; rename_i a b; exact absurd h2 (by first | assumption | exact Int32.not_le.mpr b))
def d_X7_refusalOfPardon (x : Int32) (n : Nat) (r : Nat → Int32) : Int32 × Int32 := if (d_X10_hasMember x n r) = 0 then ((-1), 0) else (if (r (7 + 6 * (pm_n x) + 5)) = 0 ∧ (r (7 + 6 * (pm_n x) + 4)) = 0 then (5, (nI (pm_n x))) else (0, 0))
set_option maxRecDepth 100000 in
set_option maxHeartbeats 8000000 in
theorem c_X7_refusalOfPardon {l : Launch} {z : Nat} {D : va_G} {kA : Nat → ClassId} {kE : Nat → Nat} {nx : Nat} {M : pm_M} {x : Int32} {n : Nat} {r : Nat → Int32} (hS : pm_SA z kA 2 M r) (hO1 : M 1 = some (.inr (5, [.ref (z + 2), .ref (z + 13), .ref (z + 16)]))) (hn : r 0 = nI n) (h7 : n ≤ 7) (hnx : 140 ≤ nx) : pm_C l z D kA kE yX7_refusalOfPardon cX7_refusalOfPardon 2 (some (.object "ThunderCartel$Refusal")) 2 1 3 [.ref (z + 1), .int x] nx M (pm_rf z nx M (d_X7_refusalOfPardon x n r)) := by
  refine pm_mk (own := RX7) (nm := "refusalOfPardon") mt_X7_refusalOfPardon rfl rfl rfl rfl fun X B => ?_
  refine pm_loc (L' := [some (.ref (z + 1)), some (.int x)]) rfl ?_
  refine pm_aload_n B dX7_refusalOfPardon_0 rfl ?_
  refine pm_get B dX7_refusalOfPardon_1 fl_X7_12 hO1 rfl ?_
  refine pm_iload_n B dX7_refusalOfPardon_4 rfl ?_
  refine pm_cV (As := [.int x]) (mc2 := 0) (ms2 := 0) B rfl (hS.1) rfl (c_X10_hasMembers (x := x) (n := n) (r := r) hS hn (by first | assumption | omega)) mt_X10_hasMember sv_X7_119 dX7_refusalOfPardon_5 rfl rfl rfl rfl rfl ?_
  refine pm_stk (st' := [.int (d_X10_hasMember x n r)]) rfl ?_
  refine pm_if_ne (tgt := 22) B dX7_refusalOfPardon_8 (by decide) (fun hq1 => ?_) (fun hq1 => ?_)
  · obtain ⟨he_x, hl_x⟩ := d_X10_hasMember_in h7 hq1
    refine pm_loc (L' := [some (.ref (z + 1)), some (.int (nI (pm_n x)))]) (congrArg (fun yy : Int32 => ([some (.ref (z + 1)), some (.int yy)] : List (Option Value))) he_x) ?_
    refine pm_aload_n B dX7_refusalOfPardon_22 rfl ?_
    refine pm_get B dX7_refusalOfPardon_23 fl_X7_12 hO1 rfl ?_
    refine pm_get B dX7_refusalOfPardon_26 fl_X7_123 (hS.1) rfl ?_
    refine pm_iload_n B dX7_refusalOfPardon_29 rfl ?_
    refine pm_aald_n B dX7_refusalOfPardon_30 (hS.2.1) rfl (pm_n x) (by first | assumption | omega) (by decide) (pm_mr_at (by first | assumption | omega)) ?_
    refine pm_cV (As := []) (mc2 := 0) (ms2 := 0) B rfl (hS.2.2.1 (pm_n x) (by first | assumption | omega)) rfl (c_X6_isLoyal (hS.2.2.1 (pm_n x) (by first | assumption | omega))) mt_X6_isLoyal sv_X7_127 dX7_refusalOfPardon_31 rfl rfl rfl rfl rfl ?_
    refine pm_stk (st' := [.int (if (r (7 + 6 * (pm_n x) + 5)) = 0 ∧ (r (7 + 6 * (pm_n x) + 4)) = 0 then 1 else 0)]) rfl ?_
    refine pm_if_eq (tgt := 50) B dX7_refusalOfPardon_34 (by decide) (fun hq2 => ?_) (fun hq2 => ?_)
    · have hq2p : ¬ ((r (7 + 6 * (pm_n x) + 5)) = 0 ∧ (r (7 + 6 * (pm_n x) + 4)) = 0) := (pm_if01 _ _).mp hq2
      refine pm_null B dX7_refusalOfPardon_50 ?_
      have hDq3 : (d_X7_refusalOfPardon x n r) = (0, 0) := by rw [d_X7_refusalOfPardon, if_neg hq1, if_neg hq2p]
      exact pm_areturn B dX7_refusalOfPardon_51 rfl (Or.inl ⟨_, rfl⟩) (Or.inl rfl) (by rw [hDq3, pm_rf_z rfl]; exact ⟨rfl, rfl, rfl⟩) rfl rfl
    · have hq2p : ((r (7 + 6 * (pm_n x) + 5)) = 0 ∧ (r (7 + 6 * (pm_n x) + 4)) = 0) := Decidable.not_not.mp (fun e => hq2 ((pm_if01 _ _).mpr e))
      refine pm_new (n0 := 3) B dX7_refusalOfPardon_37 nw_X7_111 rfl (by decide) (by decide) ?_
      refine pm_stk (st' := [.ref (z + nx)]) rfl ?_
      refine pm_dup B dX7_refusalOfPardon_40 rfl ?_
      refine pm_iconst (v := 5) B dX7_refusalOfPardon_41 (by decide) ?_
      refine pm_iload_n B dX7_refusalOfPardon_42 rfl ?_
      refine pm_null B dX7_refusalOfPardon_43 ?_
      refine pm_cI (As := [.int 5, .int (nI (pm_n x)), .null]) (mc2 := 0) (ms2 := 0) B rfl (c_X8_init (t := 0) pm_up_s) mt_X8_init si_X7_113 dX7_refusalOfPardon_44 rfl rfl rfl rfl rfl ?_
      refine pm_mem (M' := pm_up M nx (.inr (6, [.int 5, .int (nI (pm_n x)), .null]))) (by rw [pm_up_up] <;> rfl) ?_
      refine pm_stk (st' := [.ref (z + nx)]) rfl ?_
      refine pm_goto (tgt := 51) B dX7_refusalOfPardon_47 (by decide) ?_
      have hDq4 : (d_X7_refusalOfPardon x n r) = (5, (nI (pm_n x))) := by rw [d_X7_refusalOfPardon, if_neg hq1, if_pos hq2p]
      exact pm_areturn B dX7_refusalOfPardon_51 rfl (Or.inl ⟨_, rfl⟩) (Or.inr ⟨_, rfl⟩) (by rw [hDq4, pm_rf_p (show ¬ (5 : Int32) = 0 by first | decide | assumption)]; exact ⟨rfl, rfl, rfl⟩) rfl rfl
  · refine pm_new (n0 := 3) B dX7_refusalOfPardon_11 nw_X7_111 rfl (by decide) (by decide) ?_
    refine pm_stk (st' := [.ref (z + nx)]) rfl ?_
    refine pm_dup B dX7_refusalOfPardon_14 rfl ?_
    refine pm_iconst (v := (-1)) B dX7_refusalOfPardon_15 (by decide) ?_
    refine pm_iconst (v := 0) B dX7_refusalOfPardon_16 (by decide) ?_
    refine pm_null B dX7_refusalOfPardon_17 ?_
    refine pm_cI (As := [.int (-1), .int 0, .null]) (mc2 := 0) (ms2 := 0) B rfl (c_X8_init (t := 0) pm_up_s) mt_X8_init si_X7_113 dX7_refusalOfPardon_18 rfl rfl rfl rfl rfl ?_
    refine pm_mem (M' := pm_up M nx (.inr (6, [.int (-1), .int 0, .null]))) (by rw [pm_up_up] <;> rfl) ?_
    refine pm_stk (st' := [.ref (z + nx)]) rfl ?_
    have hDq5 : (d_X7_refusalOfPardon x n r) = ((-1), 0) := by rw [d_X7_refusalOfPardon, if_pos hq1]
    exact pm_areturn B dX7_refusalOfPardon_21 rfl (Or.inl ⟨_, rfl⟩) (Or.inr ⟨_, rfl⟩) (by rw [hDq5, pm_rf_p (show ¬ ((-1) : Int32) = 0 by first | decide | assumption)]; exact ⟨rfl, rfl, rfl⟩) rfl rfl
def d_X7_refusalOfSale (x : Int32) (y : Int32) (n : Nat) (r : Nat → Int32) : Int32 × Int32 := if (d_X10_hasMember x n r) = 0 then ((-1), 0) else (if (pm_in y 1 99) = 0 then ((-2), 0) else (if (r (7 + 6 * (pm_n x) + 5)) = 0 then (if ((r (7 + 6 * (pm_n x) + 0)) - (r (7 + 6 * (pm_n x) + 3))) < y then (3, ((r (7 + 6 * (pm_n x) + 0)) - (r (7 + 6 * (pm_n x) + 3)))) else (0, 0)) else (2, (r (7 + 6 * (pm_n x) + 5)))))
set_option maxRecDepth 100000 in
set_option maxHeartbeats 8000000 in
theorem c_X7_refusalOfSale {l : Launch} {z : Nat} {D : va_G} {kA : Nat → ClassId} {kE : Nat → Nat} {nx : Nat} {M : pm_M} {x : Int32} {y : Int32} {n : Nat} {r : Nat → Int32} (hS : pm_SA z kA 2 M r) (hO1 : M 1 = some (.inr (5, [.ref (z + 2), .ref (z + 13), .ref (z + 16)]))) (hn : r 0 = nI n) (h7 : n ≤ 7) (hnx : 140 ≤ nx) : pm_C l z D kA kE yX7_refusalOfSale cX7_refusalOfSale 5 (some (.object "ThunderCartel$Refusal")) 2 1 3 [.ref (z + 1), .int x, .int y] nx M (pm_rf z nx M (d_X7_refusalOfSale x y n r)) := by
  refine pm_mk (own := RX7) (nm := "refusalOfSale") mt_X7_refusalOfSale rfl rfl rfl rfl fun X B => ?_
  refine pm_loc (L' := [some (.ref (z + 1)), some (.int x), some (.int y), none, none]) rfl ?_
  refine pm_aload_n B dX7_refusalOfSale_0 rfl ?_
  refine pm_get B dX7_refusalOfSale_1 fl_X7_12 hO1 rfl ?_
  refine pm_iload_n B dX7_refusalOfSale_4 rfl ?_
  refine pm_cV (As := [.int x]) (mc2 := 0) (ms2 := 0) B rfl (hS.1) rfl (c_X10_hasMembers (x := x) (n := n) (r := r) hS hn (by first | assumption | omega)) mt_X10_hasMember sv_X7_119 dX7_refusalOfSale_5 rfl rfl rfl rfl rfl ?_
  refine pm_stk (st' := [.int (d_X10_hasMember x n r)]) rfl ?_
  refine pm_if_ne (tgt := 22) B dX7_refusalOfSale_8 (by decide) (fun hq1 => ?_) (fun hq1 => ?_)
  · obtain ⟨he_x, hl_x⟩ := d_X10_hasMember_in h7 hq1
    refine pm_loc (L' := [some (.ref (z + 1)), some (.int (nI (pm_n x))), some (.int y), none, none]) (congrArg (fun yy : Int32 => ([some (.ref (z + 1)), some (.int yy), some (.int y), none, none] : List (Option Value))) he_x) ?_
    refine pm_iload_n B dX7_refusalOfSale_22 rfl ?_
    refine pm_iconst (v := 1) B dX7_refusalOfSale_23 (by decide) ?_
    refine pm_bipush (v := 99) B dX7_refusalOfSale_24 (by decide) ?_
    refine pm_cSN (As := [.int y, .int 1, .int 99]) (mc2 := 0) (ms2 := 0) B c_X12_isWithin mt_X12_isWithin ss_X7_107 dX7_refusalOfSale_26 rfl rfl rfl rfl rfl ?_
    refine pm_stk (st' := [.int (pm_in y 1 99)]) rfl ?_
    refine pm_if_ne (tgt := 44) B dX7_refusalOfSale_29 (by decide) (fun hq2 => ?_) (fun hq2 => ?_)
    · refine pm_aload_n B dX7_refusalOfSale_44 rfl ?_
      refine pm_get B dX7_refusalOfSale_45 fl_X7_12 hO1 rfl ?_
      refine pm_get B dX7_refusalOfSale_48 fl_X7_123 (hS.1) rfl ?_
      refine pm_iload_n B dX7_refusalOfSale_51 rfl ?_
      refine pm_aald_n B dX7_refusalOfSale_52 (hS.2.1) rfl (pm_n x) (by first | assumption | omega) (by decide) (pm_mr_at (by first | assumption | omega)) ?_
      refine pm_astore_n B dX7_refusalOfSale_53 rfl rfl ?_
      refine pm_loc (L' := [some (.ref (z + 1)), some (.int (nI (pm_n x))), some (.int y), some (.ref (z + (4 + (pm_n x)))), none]) rfl ?_
      refine pm_aload_n B dX7_refusalOfSale_54 rfl ?_
      refine pm_cV (As := []) (mc2 := 0) (ms2 := 0) B rfl (hS.2.2.1 (pm_n x) (by first | assumption | omega)) rfl (c_X6_isActive (hS.2.2.1 (pm_n x) (by first | assumption | omega))) mt_X6_isActive sv_X7_133 dX7_refusalOfSale_55 rfl rfl rfl rfl rfl ?_
      refine pm_stk (st' := [.int (if (r (7 + 6 * (pm_n x) + 5)) = 0 then 1 else 0)]) rfl ?_
      refine pm_if_ne (tgt := 75) B dX7_refusalOfSale_58 (by decide) (fun hq3 => ?_) (fun hq3 => ?_)
      · have hq3p : ((r (7 + 6 * (pm_n x) + 5)) = 0) := Decidable.not_not.mp (fun e => hq3 ((pm_if01 _ _).mpr e))
        refine pm_aload_n B dX7_refusalOfSale_75 rfl ?_
        refine pm_get B dX7_refusalOfSale_76 fl_X7_139 (hS.2.2.1 (pm_n x) (by first | assumption | omega)) rfl ?_
        refine pm_aload_n B dX7_refusalOfSale_79 rfl ?_
        refine pm_get B dX7_refusalOfSale_80 fl_X7_142 (hS.2.2.1 (pm_n x) (by first | assumption | omega)) rfl ?_
        refine pm_isub B dX7_refusalOfSale_83 ?_
        refine pm_istore B dX7_refusalOfSale_84 rfl rfl ?_
        refine pm_loc (L' := [some (.ref (z + 1)), some (.int (nI (pm_n x))), some (.int y), some (.ref (z + (4 + (pm_n x)))), some (.int ((r (7 + 6 * (pm_n x) + 0)) - (r (7 + 6 * (pm_n x) + 3))))]) rfl ?_
        refine pm_iload_n B dX7_refusalOfSale_86 rfl ?_
        refine pm_iload B dX7_refusalOfSale_87 rfl ?_
        refine pm_icmp_gt (tgt := 96) B dX7_refusalOfSale_89 (by decide) (fun hq4 => ?_) (fun hq4 => ?_)
        · refine pm_new (n0 := 3) B dX7_refusalOfSale_96 nw_X7_111 rfl (by decide) (by decide) ?_
          refine pm_stk (st' := [.ref (z + nx)]) rfl ?_
          refine pm_dup B dX7_refusalOfSale_99 rfl ?_
          refine pm_iconst (v := 3) B dX7_refusalOfSale_100 (by decide) ?_
          refine pm_iload B dX7_refusalOfSale_101 rfl ?_
          refine pm_null B dX7_refusalOfSale_103 ?_
          refine pm_cI (As := [.int 3, .int ((r (7 + 6 * (pm_n x) + 0)) - (r (7 + 6 * (pm_n x) + 3))), .null]) (mc2 := 0) (ms2 := 0) B rfl (c_X8_init (t := 0) pm_up_s) mt_X8_init si_X7_113 dX7_refusalOfSale_104 rfl rfl rfl rfl rfl ?_
          refine pm_mem (M' := pm_up M nx (.inr (6, [.int 3, .int ((r (7 + 6 * (pm_n x) + 0)) - (r (7 + 6 * (pm_n x) + 3))), .null]))) (by rw [pm_up_up] <;> rfl) ?_
          refine pm_stk (st' := [.ref (z + nx)]) rfl ?_
          have hDq5 : (d_X7_refusalOfSale x y n r) = (3, ((r (7 + 6 * (pm_n x) + 0)) - (r (7 + 6 * (pm_n x) + 3)))) := by rw [d_X7_refusalOfSale, if_neg hq1, if_neg hq2, if_pos hq3p, if_pos hq4]
          exact pm_areturn B dX7_refusalOfSale_107 rfl (Or.inl ⟨_, rfl⟩) (Or.inr ⟨_, rfl⟩) (by rw [hDq5, pm_rf_p (show ¬ (3 : Int32) = 0 by first | decide | assumption)]; exact ⟨rfl, rfl, rfl⟩) rfl rfl
        · refine pm_null B dX7_refusalOfSale_92 ?_
          refine pm_goto (tgt := 107) B dX7_refusalOfSale_93 (by decide) ?_
          have hDq6 : (d_X7_refusalOfSale x y n r) = (0, 0) := by rw [d_X7_refusalOfSale, if_neg hq1, if_neg hq2, if_pos hq3p, if_neg hq4]
          exact pm_areturn B dX7_refusalOfSale_107 rfl (Or.inl ⟨_, rfl⟩) (Or.inl rfl) (by rw [hDq6, pm_rf_z rfl]; exact ⟨rfl, rfl, rfl⟩) rfl rfl
      · have hq3p : ¬ ((r (7 + 6 * (pm_n x) + 5)) = 0) := (pm_if01 _ _).mp hq3
        refine pm_new (n0 := 3) B dX7_refusalOfSale_61 nw_X7_111 rfl (by decide) (by decide) ?_
        refine pm_stk (st' := [.ref (z + nx)]) rfl ?_
        refine pm_dup B dX7_refusalOfSale_64 rfl ?_
        refine pm_iconst (v := 2) B dX7_refusalOfSale_65 (by decide) ?_
        refine pm_aload_n B dX7_refusalOfSale_66 rfl ?_
        refine pm_get B dX7_refusalOfSale_67 fl_X7_136 ((pm_up_n (by omega)).trans (hS.2.2.1 (pm_n x) (by first | assumption | omega))) rfl ?_
        refine pm_null B dX7_refusalOfSale_70 ?_
        refine pm_cI (As := [.int 2, .int (r (7 + 6 * (pm_n x) + 5)), .null]) (mc2 := 0) (ms2 := 0) B rfl (c_X8_init (t := 0) pm_up_s) mt_X8_init si_X7_113 dX7_refusalOfSale_71 rfl rfl rfl rfl rfl ?_
        refine pm_mem (M' := pm_up M nx (.inr (6, [.int 2, .int (r (7 + 6 * (pm_n x) + 5)), .null]))) (by rw [pm_up_up] <;> rfl) ?_
        refine pm_stk (st' := [.ref (z + nx)]) rfl ?_
        have hDq7 : (d_X7_refusalOfSale x y n r) = (2, (r (7 + 6 * (pm_n x) + 5))) := by rw [d_X7_refusalOfSale, if_neg hq1, if_neg hq2, if_neg hq3p]
        exact pm_areturn B dX7_refusalOfSale_74 rfl (Or.inl ⟨_, rfl⟩) (Or.inr ⟨_, rfl⟩) (by rw [hDq7, pm_rf_p (show ¬ (2 : Int32) = 0 by first | decide | assumption)]; exact ⟨rfl, rfl, rfl⟩) rfl rfl
    · refine pm_new (n0 := 3) B dX7_refusalOfSale_32 nw_X7_111 rfl (by decide) (by decide) ?_
      refine pm_stk (st' := [.ref (z + nx)]) rfl ?_
      refine pm_dup B dX7_refusalOfSale_35 rfl ?_
      refine pm_bipush (v := (-2)) B dX7_refusalOfSale_36 (by decide) ?_
      refine pm_iconst (v := 0) B dX7_refusalOfSale_38 (by decide) ?_
      refine pm_null B dX7_refusalOfSale_39 ?_
      refine pm_cI (As := [.int (-2), .int 0, .null]) (mc2 := 0) (ms2 := 0) B rfl (c_X8_init (t := 0) pm_up_s) mt_X8_init si_X7_113 dX7_refusalOfSale_40 rfl rfl rfl rfl rfl ?_
      refine pm_mem (M' := pm_up M nx (.inr (6, [.int (-2), .int 0, .null]))) (by rw [pm_up_up] <;> rfl) ?_
      refine pm_stk (st' := [.ref (z + nx)]) rfl ?_
      have hDq8 : (d_X7_refusalOfSale x y n r) = ((-2), 0) := by rw [d_X7_refusalOfSale, if_neg hq1, if_pos hq2]
      exact pm_areturn B dX7_refusalOfSale_43 rfl (Or.inl ⟨_, rfl⟩) (Or.inr ⟨_, rfl⟩) (by rw [hDq8, pm_rf_p (show ¬ ((-2) : Int32) = 0 by first | decide | assumption)]; exact ⟨rfl, rfl, rfl⟩) rfl rfl
  · refine pm_new (n0 := 3) B dX7_refusalOfSale_11 nw_X7_111 rfl (by decide) (by decide) ?_
    refine pm_stk (st' := [.ref (z + nx)]) rfl ?_
    refine pm_dup B dX7_refusalOfSale_14 rfl ?_
    refine pm_iconst (v := (-1)) B dX7_refusalOfSale_15 (by decide) ?_
    refine pm_iconst (v := 0) B dX7_refusalOfSale_16 (by decide) ?_
    refine pm_null B dX7_refusalOfSale_17 ?_
    refine pm_cI (As := [.int (-1), .int 0, .null]) (mc2 := 0) (ms2 := 0) B rfl (c_X8_init (t := 0) pm_up_s) mt_X8_init si_X7_113 dX7_refusalOfSale_18 rfl rfl rfl rfl rfl ?_
    refine pm_mem (M' := pm_up M nx (.inr (6, [.int (-1), .int 0, .null]))) (by rw [pm_up_up] <;> rfl) ?_
    refine pm_stk (st' := [.ref (z + nx)]) rfl ?_
    have hDq9 : (d_X7_refusalOfSale x y n r) = ((-1), 0) := by rw [d_X7_refusalOfSale, if_pos hq1]
    exact pm_areturn B dX7_refusalOfSale_21 rfl (Or.inl ⟨_, rfl⟩) (Or.inr ⟨_, rfl⟩) (by rw [hDq9, pm_rf_p (show ¬ ((-1) : Int32) = 0 by first | decide | assumption)]; exact ⟨rfl, rfl, rfl⟩) rfl rfl
def d_X7_refusalOfAudit (x : Int32) (n : Nat) (r : Nat → Int32) : Int32 × Int32 := if (pm_in x 1 7) = 0 then ((-2), 0) else (if (nI n) < x then (6, (nI n)) else (0, 0))
set_option maxRecDepth 100000 in
set_option maxHeartbeats 8000000 in
theorem c_X7_refusalOfAudit {l : Launch} {z : Nat} {D : va_G} {kA : Nat → ClassId} {kE : Nat → Nat} {nx : Nat} {M : pm_M} {x : Int32} {n : Nat} {r : Nat → Int32} (hS : pm_SA z kA 2 M r) (hO1 : M 1 = some (.inr (5, [.ref (z + 2), .ref (z + 13), .ref (z + 16)]))) (hn : r 0 = nI n) (h7 : n ≤ 7) (hnx : 140 ≤ nx) : pm_C l z D kA kE yX7_refusalOfAudit cX7_refusalOfAudit 2 (some (.object "ThunderCartel$Refusal")) 2 1 3 [.ref (z + 1), .int x] nx M (pm_rf z nx M (d_X7_refusalOfAudit x n r)) := by
  refine pm_mk (own := RX7) (nm := "refusalOfAudit") mt_X7_refusalOfAudit rfl rfl rfl rfl fun X B => ?_
  refine pm_loc (L' := [some (.ref (z + 1)), some (.int x)]) rfl ?_
  refine pm_iload_n B dX7_refusalOfAudit_0 rfl ?_
  refine pm_iconst (v := 1) B dX7_refusalOfAudit_1 (by decide) ?_
  refine pm_bipush (v := 7) B dX7_refusalOfAudit_2 (by decide) ?_
  refine pm_cSN (As := [.int x, .int 1, .int 7]) (mc2 := 0) (ms2 := 0) B c_X12_isWithin mt_X12_isWithin ss_X7_107 dX7_refusalOfAudit_4 rfl rfl rfl rfl rfl ?_
  refine pm_stk (st' := [.int (pm_in x 1 7)]) rfl ?_
  refine pm_if_ne (tgt := 22) B dX7_refusalOfAudit_7 (by decide) (fun hq1 => ?_) (fun hq1 => ?_)
  · refine pm_iload_n B dX7_refusalOfAudit_22 rfl ?_
    refine pm_aload_n B dX7_refusalOfAudit_23 rfl ?_
    refine pm_get B dX7_refusalOfAudit_24 fl_X7_12 hO1 rfl ?_
    refine pm_get B dX7_refusalOfAudit_27 fl_X7_116 (hS.1) rfl ?_
    refine pm_stk (st' := [.int (nI n), .int x]) (by rw [show (r 0) = (nI n) from by rw [hn]]) ?_
    refine pm_icmp_gt (tgt := 37) B dX7_refusalOfAudit_30 (by decide) (fun hq2 => ?_) (fun hq2 => ?_)
    · refine pm_new (n0 := 3) B dX7_refusalOfAudit_37 nw_X7_111 rfl (by decide) (by decide) ?_
      refine pm_stk (st' := [.ref (z + nx)]) rfl ?_
      refine pm_dup B dX7_refusalOfAudit_40 rfl ?_
      refine pm_bipush (v := 6) B dX7_refusalOfAudit_41 (by decide) ?_
      refine pm_aload_n B dX7_refusalOfAudit_43 rfl ?_
      refine pm_get B dX7_refusalOfAudit_44 fl_X7_12 ((pm_up_n (by omega)).trans hO1) rfl ?_
      refine pm_get B dX7_refusalOfAudit_47 fl_X7_116 ((pm_up_n (by omega)).trans (hS.1)) rfl ?_
      refine pm_stk (st' := [.int (nI n), .int 6, .ref (z + nx), .ref (z + nx)]) (by rw [show (r 0) = (nI n) from by rw [hn]]) ?_
      refine pm_null B dX7_refusalOfAudit_50 ?_
      refine pm_cI (As := [.int 6, .int (nI n), .null]) (mc2 := 0) (ms2 := 0) B rfl (c_X8_init (t := 0) pm_up_s) mt_X8_init si_X7_113 dX7_refusalOfAudit_51 rfl rfl rfl rfl rfl ?_
      refine pm_mem (M' := pm_up M nx (.inr (6, [.int 6, .int (nI n), .null]))) (by rw [pm_up_up] <;> rfl) ?_
      refine pm_stk (st' := [.ref (z + nx)]) rfl ?_
      have hDq3 : (d_X7_refusalOfAudit x n r) = (6, (nI n)) := by rw [d_X7_refusalOfAudit, if_neg hq1, if_pos hq2]
      exact pm_areturn B dX7_refusalOfAudit_54 rfl (Or.inl ⟨_, rfl⟩) (Or.inr ⟨_, rfl⟩) (by rw [hDq3, pm_rf_p (show ¬ (6 : Int32) = 0 by first | decide | assumption)]; exact ⟨rfl, rfl, rfl⟩) rfl rfl
    · refine pm_null B dX7_refusalOfAudit_33 ?_
      refine pm_goto (tgt := 54) B dX7_refusalOfAudit_34 (by decide) ?_
      have hDq4 : (d_X7_refusalOfAudit x n r) = (0, 0) := by rw [d_X7_refusalOfAudit, if_neg hq1, if_neg hq2]
      exact pm_areturn B dX7_refusalOfAudit_54 rfl (Or.inl ⟨_, rfl⟩) (Or.inl rfl) (by rw [hDq4, pm_rf_z rfl]; exact ⟨rfl, rfl, rfl⟩) rfl rfl
  · refine pm_new (n0 := 3) B dX7_refusalOfAudit_10 nw_X7_111 rfl (by decide) (by decide) ?_
    refine pm_stk (st' := [.ref (z + nx)]) rfl ?_
    refine pm_dup B dX7_refusalOfAudit_13 rfl ?_
    refine pm_bipush (v := (-2)) B dX7_refusalOfAudit_14 (by decide) ?_
    refine pm_iconst (v := 0) B dX7_refusalOfAudit_16 (by decide) ?_
    refine pm_null B dX7_refusalOfAudit_17 ?_
    refine pm_cI (As := [.int (-2), .int 0, .null]) (mc2 := 0) (ms2 := 0) B rfl (c_X8_init (t := 0) pm_up_s) mt_X8_init si_X7_113 dX7_refusalOfAudit_18 rfl rfl rfl rfl rfl ?_
    refine pm_mem (M' := pm_up M nx (.inr (6, [.int (-2), .int 0, .null]))) (by rw [pm_up_up] <;> rfl) ?_
    refine pm_stk (st' := [.ref (z + nx)]) rfl ?_
    have hDq5 : (d_X7_refusalOfAudit x n r) = ((-2), 0) := by rw [d_X7_refusalOfAudit, if_pos hq1]
    exact pm_areturn B dX7_refusalOfAudit_21 rfl (Or.inl ⟨_, rfl⟩) (Or.inr ⟨_, rfl⟩) (by rw [hDq5, pm_rf_p (show ¬ ((-2) : Int32) = 0 by first | decide | assumption)]; exact ⟨rfl, rfl, rfl⟩) rfl rfl
def d_X7_refusalOfPair (x : Int32) (y : Int32) (n : Nat) (r : Nat → Int32) : Int32 × Int32 := if (d_X10_hasMember x n r) = 0 then ((-1), 0) else (if (d_X10_hasMember y n r) = 0 then ((-1), 0) else (if (nI (pm_n x)) = (nI (pm_n y)) then ((-2), 0) else (0, 0)))
set_option maxRecDepth 100000 in
set_option maxHeartbeats 8000000 in
theorem c_X7_refusalOfPair {l : Launch} {z : Nat} {D : va_G} {kA : Nat → ClassId} {kE : Nat → Nat} {nx : Nat} {M : pm_M} {x : Int32} {y : Int32} {n : Nat} {r : Nat → Int32} (hS : pm_SA z kA 2 M r) (hO1 : M 1 = some (.inr (5, [.ref (z + 2), .ref (z + 13), .ref (z + 16)]))) (hn : r 0 = nI n) (h7 : n ≤ 7) (hnx : 140 ≤ nx) : pm_C l z D kA kE yX7_refusalOfPair cX7_refusalOfPair 3 (some (.object "ThunderCartel$Refusal")) 2 1 3 [.ref (z + 1), .int x, .int y] nx M (pm_rf z nx M (d_X7_refusalOfPair x y n r)) := by
  refine pm_mk (own := RX7) (nm := "refusalOfPair") mt_X7_refusalOfPair rfl rfl rfl rfl fun X B => ?_
  refine pm_loc (L' := [some (.ref (z + 1)), some (.int x), some (.int y)]) rfl ?_
  refine pm_aload_n B dX7_refusalOfPair_0 rfl ?_
  refine pm_get B dX7_refusalOfPair_1 fl_X7_12 hO1 rfl ?_
  refine pm_iload_n B dX7_refusalOfPair_4 rfl ?_
  refine pm_cV (As := [.int x]) (mc2 := 0) (ms2 := 0) B rfl (hS.1) rfl (c_X10_hasMembers (x := x) (n := n) (r := r) hS hn (by first | assumption | omega)) mt_X10_hasMember sv_X7_119 dX7_refusalOfPair_5 rfl rfl rfl rfl rfl ?_
  refine pm_stk (st' := [.int (d_X10_hasMember x n r)]) rfl ?_
  refine pm_if_eq (tgt := 22) B dX7_refusalOfPair_8 (by decide) (fun hq1 => ?_) (fun hq1 => ?_)
  · refine pm_new (n0 := 3) B dX7_refusalOfPair_22 nw_X7_111 rfl (by decide) (by decide) ?_
    refine pm_stk (st' := [.ref (z + nx)]) rfl ?_
    refine pm_dup B dX7_refusalOfPair_25 rfl ?_
    refine pm_iconst (v := (-1)) B dX7_refusalOfPair_26 (by decide) ?_
    refine pm_iconst (v := 0) B dX7_refusalOfPair_27 (by decide) ?_
    refine pm_null B dX7_refusalOfPair_28 ?_
    refine pm_cI (As := [.int (-1), .int 0, .null]) (mc2 := 0) (ms2 := 0) B rfl (c_X8_init (t := 0) pm_up_s) mt_X8_init si_X7_113 dX7_refusalOfPair_29 rfl rfl rfl rfl rfl ?_
    refine pm_mem (M' := pm_up M nx (.inr (6, [.int (-1), .int 0, .null]))) (by rw [pm_up_up] <;> rfl) ?_
    refine pm_stk (st' := [.ref (z + nx)]) rfl ?_
    have hDq2 : (d_X7_refusalOfPair x y n r) = ((-1), 0) := by rw [d_X7_refusalOfPair, if_pos hq1]
    exact pm_areturn B dX7_refusalOfPair_32 rfl (Or.inl ⟨_, rfl⟩) (Or.inr ⟨_, rfl⟩) (by rw [hDq2, pm_rf_p (show ¬ ((-1) : Int32) = 0 by first | decide | assumption)]; exact ⟨rfl, rfl, rfl⟩) rfl rfl
  · obtain ⟨he_x, hl_x⟩ := d_X10_hasMember_in h7 hq1
    refine pm_loc (L' := [some (.ref (z + 1)), some (.int (nI (pm_n x))), some (.int y)]) (congrArg (fun yy : Int32 => ([some (.ref (z + 1)), some (.int yy), some (.int y)] : List (Option Value))) he_x) ?_
    refine pm_aload_n B dX7_refusalOfPair_11 rfl ?_
    refine pm_get B dX7_refusalOfPair_12 fl_X7_12 hO1 rfl ?_
    refine pm_iload_n B dX7_refusalOfPair_15 rfl ?_
    refine pm_cV (As := [.int y]) (mc2 := 0) (ms2 := 0) B rfl (hS.1) rfl (c_X10_hasMembers (x := y) (n := n) (r := r) hS hn (by first | assumption | omega)) mt_X10_hasMember sv_X7_119 dX7_refusalOfPair_16 rfl rfl rfl rfl rfl ?_
    refine pm_stk (st' := [.int (d_X10_hasMember y n r)]) rfl ?_
    refine pm_if_ne (tgt := 33) B dX7_refusalOfPair_19 (by decide) (fun hq3 => ?_) (fun hq3 => ?_)
    · obtain ⟨he_y, hl_y⟩ := d_X10_hasMember_in h7 hq3
      refine pm_loc (L' := [some (.ref (z + 1)), some (.int (nI (pm_n x))), some (.int (nI (pm_n y)))]) (congrArg (fun yy : Int32 => ([some (.ref (z + 1)), some (.int (nI (pm_n x))), some (.int yy)] : List (Option Value))) he_y) ?_
      refine pm_iload_n B dX7_refusalOfPair_33 rfl ?_
      refine pm_iload_n B dX7_refusalOfPair_34 rfl ?_
      refine pm_icmp_eq (tgt := 42) B dX7_refusalOfPair_35 (by decide) (fun hq4 => ?_) (fun hq4 => ?_)
      · refine pm_new (n0 := 3) B dX7_refusalOfPair_42 nw_X7_111 rfl (by decide) (by decide) ?_
        refine pm_stk (st' := [.ref (z + nx)]) rfl ?_
        refine pm_dup B dX7_refusalOfPair_45 rfl ?_
        refine pm_bipush (v := (-2)) B dX7_refusalOfPair_46 (by decide) ?_
        refine pm_iconst (v := 0) B dX7_refusalOfPair_48 (by decide) ?_
        refine pm_null B dX7_refusalOfPair_49 ?_
        refine pm_cI (As := [.int (-2), .int 0, .null]) (mc2 := 0) (ms2 := 0) B rfl (c_X8_init (t := 0) pm_up_s) mt_X8_init si_X7_113 dX7_refusalOfPair_50 rfl rfl rfl rfl rfl ?_
        refine pm_mem (M' := pm_up M nx (.inr (6, [.int (-2), .int 0, .null]))) (by rw [pm_up_up] <;> rfl) ?_
        refine pm_stk (st' := [.ref (z + nx)]) rfl ?_
        have hDq5 : (d_X7_refusalOfPair x y n r) = ((-2), 0) := by rw [d_X7_refusalOfPair, if_neg hq1, if_neg hq3, if_pos hq4]
        exact pm_areturn B dX7_refusalOfPair_53 rfl (Or.inl ⟨_, rfl⟩) (Or.inr ⟨_, rfl⟩) (by rw [hDq5, pm_rf_p (show ¬ ((-2) : Int32) = 0 by first | decide | assumption)]; exact ⟨rfl, rfl, rfl⟩) rfl rfl
      · refine pm_null B dX7_refusalOfPair_38 ?_
        refine pm_goto (tgt := 53) B dX7_refusalOfPair_39 (by decide) ?_
        have hDq6 : (d_X7_refusalOfPair x y n r) = (0, 0) := by rw [d_X7_refusalOfPair, if_neg hq1, if_neg hq3, if_neg hq4]
        exact pm_areturn B dX7_refusalOfPair_53 rfl (Or.inl ⟨_, rfl⟩) (Or.inl rfl) (by rw [hDq6, pm_rf_z rfl]; exact ⟨rfl, rfl, rfl⟩) rfl rfl
    · refine pm_new (n0 := 3) B dX7_refusalOfPair_22 nw_X7_111 rfl (by decide) (by decide) ?_
      refine pm_stk (st' := [.ref (z + nx)]) rfl ?_
      refine pm_dup B dX7_refusalOfPair_25 rfl ?_
      refine pm_iconst (v := (-1)) B dX7_refusalOfPair_26 (by decide) ?_
      refine pm_iconst (v := 0) B dX7_refusalOfPair_27 (by decide) ?_
      refine pm_null B dX7_refusalOfPair_28 ?_
      refine pm_cI (As := [.int (-1), .int 0, .null]) (mc2 := 0) (ms2 := 0) B rfl (c_X8_init (t := 0) pm_up_s) mt_X8_init si_X7_113 dX7_refusalOfPair_29 rfl rfl rfl rfl rfl ?_
      refine pm_mem (M' := pm_up M nx (.inr (6, [.int (-1), .int 0, .null]))) (by rw [pm_up_up] <;> rfl) ?_
      refine pm_stk (st' := [.ref (z + nx)]) rfl ?_
      have hDq7 : (d_X7_refusalOfPair x y n r) = ((-1), 0) := by rw [d_X7_refusalOfPair, if_neg hq1, if_pos hq3]
      exact pm_areturn B dX7_refusalOfPair_32 rfl (Or.inl ⟨_, rfl⟩) (Or.inr ⟨_, rfl⟩) (by rw [hDq7, pm_rf_p (show ¬ ((-1) : Int32) = 0 by first | decide | assumption)]; exact ⟨rfl, rfl, rfl⟩) rfl rfl
theorem d_X7_refusalOfPair_in {x y : Int32} {n : Nat} {r : Nat → Int32} (h7 : n ≤ 7) (h : (d_X7_refusalOfPair x y n r).1 = 0) : (x = nI (pm_n x) ∧ pm_n x < n) ∧ (y = nI (pm_n y) ∧ pm_n y < n) := by
  constructor
  · exact d_X10_hasMember_in (r := r) h7 (fun e => by
      unfold d_X7_refusalOfPair at h
      rw [if_pos e] at h
      exact absurd h (show ¬ (-1 : Int32) = 0 by decide))
  · exact d_X10_hasMember_in (r := r) h7 (fun e => by
      unfold d_X7_refusalOfPair at h
      by_cases e2 : d_X10_hasMember x n r = 0
      · rw [if_pos e2] at h
        exact absurd h (show ¬ (-1 : Int32) = 0 by decide)
      · rw [if_neg e2, if_pos e] at h
        exact absurd h (show ¬ (-1 : Int32) = 0 by decide))
def d_X7_refusalOfLink (x : Int32) (y : Int32) (n : Nat) (r : Nat → Int32) : Int32 × Int32 := if (d_X7_refusalOfPair x y n r).1 = 0 then (if (r (49 + (pm_n x)) >>> (nI (pm_n y) &&& 31)) &&& 1 = 1 then (4, (pm_lt (fun j => r (49 + j)) 7 / 2)) else (if 12 ≤ (pm_lt (fun j => r (49 + j)) 7 / 2) then (1, 12) else (0, 0))) else (((d_X7_refusalOfPair x y n r).1), ((d_X7_refusalOfPair x y n r).2))
set_option maxRecDepth 100000 in
set_option maxHeartbeats 8000000 in
theorem c_X7_refusalOfLink {l : Launch} {z : Nat} {D : va_G} {kA : Nat → ClassId} {kE : Nat → Nat} {nx : Nat} {M : pm_M} {x : Int32} {y : Int32} {n : Nat} {r : Nat → Int32} (hS : pm_SA z kA 2 M r) (hO1 : M 1 = some (.inr (5, [.ref (z + 2), .ref (z + 13), .ref (z + 16)]))) (hn : r 0 = nI n) (h7 : n ≤ 7) (hnx : 140 ≤ nx) : pm_C l z D kA kE yX7_refusalOfLink cX7_refusalOfLink 5 (some (.object "ThunderCartel$Refusal")) 3 2 6 [.ref (z + 1), .int x, .int y] nx M (pm_rf z nx M (d_X7_refusalOfLink x y n r)) := by
  refine pm_mk (own := RX7) (nm := "refusalOfLink") mt_X7_refusalOfLink rfl rfl rfl rfl fun X B => ?_
  refine pm_loc (L' := [some (.ref (z + 1)), some (.int x), some (.int y), none, none]) rfl ?_
  refine pm_aload_n B dX7_refusalOfLink_0 rfl ?_
  refine pm_iload_n B dX7_refusalOfLink_1 rfl ?_
  refine pm_iload_n B dX7_refusalOfLink_2 rfl ?_
  by_cases hq1 : (d_X7_refusalOfPair x y n r).1 = 0
  · refine pm_cV (As := [.int x, .int y]) (mc2 := 1) (ms2 := 3) B rfl hO1 rfl (pm_C_z hq1 (c_X7_refusalOfPair (x := x) (y := y) (n := n) (r := r) hS hO1 hn (by first | assumption | omega) (by first | assumption | omega))) mt_X7_refusalOfPair sv_X7_145 dX7_refusalOfLink_3 rfl rfl rfl rfl rfl ?_
    refine pm_stk (st' := [.null]) rfl ?_
    refine pm_astore_nN B dX7_refusalOfLink_6 rfl rfl ?_
    refine pm_loc (L' := [some (.ref (z + 1)), some (.int x), some (.int y), some (.null), none]) rfl ?_
    refine pm_aload_nN B dX7_refusalOfLink_7 rfl ?_
    refine pm_ifnullN (tgt := 13) B dX7_refusalOfLink_8 (by decide) ?_
    obtain ⟨⟨he_x, hl_x⟩, he_y, hl_y⟩ := d_X7_refusalOfPair_in h7 hq1
    refine pm_loc (L' := [some (.ref (z + 1)), some (.int (nI (pm_n x))), some (.int y), some (.null), none]) (congrArg (fun yy : Int32 => ([some (.ref (z + 1)), some (.int yy), some (.int y), some (.null), none] : List (Option Value))) he_x) ?_
    refine pm_loc (L' := [some (.ref (z + 1)), some (.int (nI (pm_n x))), some (.int (nI (pm_n y))), some (.null), none]) (congrArg (fun yy : Int32 => ([some (.ref (z + 1)), some (.int (nI (pm_n x))), some (.int yy), some (.null), none] : List (Option Value))) he_y) ?_
    refine pm_aload_n B dX7_refusalOfLink_13 rfl ?_
    refine pm_get B dX7_refusalOfLink_14 fl_X7_12 hO1 rfl ?_
    refine pm_get B dX7_refusalOfLink_17 fl_X7_148 (hS.1) rfl ?_
    refine pm_cV (As := []) (mc2 := 0) (ms2 := 0) B rfl (hS.2.2.2.1) rfl (c_X5_total (g := (fun j => r (49 + j))) (hS.2.2.2.1) (hS.2.2.2.2)) mt_X5_total sv_X7_152 dX7_refusalOfLink_20 rfl rfl rfl rfl rfl ?_
    refine pm_stk (st' := [.int (pm_lt (fun j => r (49 + j)) 7 / 2)]) rfl ?_
    refine pm_istore B dX7_refusalOfLink_23 rfl rfl ?_
    refine pm_loc (L' := [some (.ref (z + 1)), some (.int (nI (pm_n x))), some (.int (nI (pm_n y))), some (.null), some (.int (pm_lt (fun j => r (49 + j)) 7 / 2))]) rfl ?_
    refine pm_aload_n B dX7_refusalOfLink_25 rfl ?_
    refine pm_get B dX7_refusalOfLink_26 fl_X7_12 hO1 rfl ?_
    refine pm_get B dX7_refusalOfLink_29 fl_X7_148 (hS.1) rfl ?_
    refine pm_iload_n B dX7_refusalOfLink_32 rfl ?_
    refine pm_iload_n B dX7_refusalOfLink_33 rfl ?_
    refine pm_cV (As := [.int (nI (pm_n x)), .int (nI (pm_n y))]) (mc2 := 0) (ms2 := 0) B rfl (hS.2.2.2.1) rfl (c_X5_connects (g := (fun j => r (49 + j))) (i := pm_n x) (k := pm_n y) (hS.2.2.2.1) (hS.2.2.2.2) (by first | assumption | omega)) mt_X5_connects sv_X7_157 dX7_refusalOfLink_34 rfl rfl rfl rfl rfl ?_
    refine pm_stk (st' := [.int (if (r (49 + (pm_n x)) >>> (nI (pm_n y) &&& 31)) &&& 1 = 1 then 1 else 0)]) rfl ?_
    refine pm_if_eq (tgt := 52) B dX7_refusalOfLink_37 (by decide) (fun hq2 => ?_) (fun hq2 => ?_)
    · have hq2p : ¬ ((r (49 + (pm_n x)) >>> (nI (pm_n y) &&& 31)) &&& 1 = 1) := (pm_if01 _ _).mp hq2
      refine pm_iload B dX7_refusalOfLink_52 rfl ?_
      refine pm_bipush (v := 12) B dX7_refusalOfLink_54 (by decide) ?_
      refine pm_icmp_ge (tgt := 63) B dX7_refusalOfLink_56 (by decide) (fun hq3 => ?_) (fun hq3 => ?_)
      · refine pm_new (n0 := 3) B dX7_refusalOfLink_63 nw_X7_111 rfl (by decide) (by decide) ?_
        refine pm_stk (st' := [.ref (z + nx)]) rfl ?_
        refine pm_dup B dX7_refusalOfLink_66 rfl ?_
        refine pm_iconst (v := 1) B dX7_refusalOfLink_67 (by decide) ?_
        refine pm_bipush (v := 12) B dX7_refusalOfLink_68 (by decide) ?_
        refine pm_null B dX7_refusalOfLink_70 ?_
        refine pm_cI (As := [.int 1, .int 12, .null]) (mc2 := 0) (ms2 := 0) B rfl (c_X8_init (t := 0) pm_up_s) mt_X8_init si_X7_113 dX7_refusalOfLink_71 rfl rfl rfl rfl rfl ?_
        refine pm_mem (M' := pm_up M nx (.inr (6, [.int 1, .int 12, .null]))) (by rw [pm_up_up] <;> rfl) ?_
        refine pm_stk (st' := [.ref (z + nx)]) rfl ?_
        have hDq4 : (d_X7_refusalOfLink x y n r) = (1, 12) := by rw [d_X7_refusalOfLink, if_pos hq1, if_neg hq2p, if_pos hq3]
        exact pm_areturn B dX7_refusalOfLink_74 rfl (Or.inl ⟨_, rfl⟩) (Or.inr ⟨_, rfl⟩) (by rw [hDq4, pm_rf_p (show ¬ (1 : Int32) = 0 by first | decide | assumption)]; exact ⟨rfl, rfl, rfl⟩) rfl rfl
      · refine pm_null B dX7_refusalOfLink_59 ?_
        refine pm_goto (tgt := 74) B dX7_refusalOfLink_60 (by decide) ?_
        have hDq5 : (d_X7_refusalOfLink x y n r) = (0, 0) := by rw [d_X7_refusalOfLink, if_pos hq1, if_neg hq2p, if_neg hq3]
        exact pm_areturn B dX7_refusalOfLink_74 rfl (Or.inl ⟨_, rfl⟩) (Or.inl rfl) (by rw [hDq5, pm_rf_z rfl]; exact ⟨rfl, rfl, rfl⟩) rfl rfl
    · have hq2p : ((r (49 + (pm_n x)) >>> (nI (pm_n y) &&& 31)) &&& 1 = 1) := Decidable.not_not.mp (fun e => hq2 ((pm_if01 _ _).mpr e))
      refine pm_new (n0 := 3) B dX7_refusalOfLink_40 nw_X7_111 rfl (by decide) (by decide) ?_
      refine pm_stk (st' := [.ref (z + nx)]) rfl ?_
      refine pm_dup B dX7_refusalOfLink_43 rfl ?_
      refine pm_iconst (v := 4) B dX7_refusalOfLink_44 (by decide) ?_
      refine pm_iload B dX7_refusalOfLink_45 rfl ?_
      refine pm_null B dX7_refusalOfLink_47 ?_
      refine pm_cI (As := [.int 4, .int (pm_lt (fun j => r (49 + j)) 7 / 2), .null]) (mc2 := 0) (ms2 := 0) B rfl (c_X8_init (t := 0) pm_up_s) mt_X8_init si_X7_113 dX7_refusalOfLink_48 rfl rfl rfl rfl rfl ?_
      refine pm_mem (M' := pm_up M nx (.inr (6, [.int 4, .int (pm_lt (fun j => r (49 + j)) 7 / 2), .null]))) (by rw [pm_up_up] <;> rfl) ?_
      refine pm_stk (st' := [.ref (z + nx)]) rfl ?_
      have hDq6 : (d_X7_refusalOfLink x y n r) = (4, (pm_lt (fun j => r (49 + j)) 7 / 2)) := by rw [d_X7_refusalOfLink, if_pos hq1, if_pos hq2p]
      exact pm_areturn B dX7_refusalOfLink_51 rfl (Or.inl ⟨_, rfl⟩) (Or.inr ⟨_, rfl⟩) (by rw [hDq6, pm_rf_p (show ¬ (4 : Int32) = 0 by first | decide | assumption)]; exact ⟨rfl, rfl, rfl⟩) rfl rfl
  · refine pm_cV (As := [.int x, .int y]) (mc2 := 1) (ms2 := 3) B rfl hO1 rfl (pm_C_p hq1 (c_X7_refusalOfPair (x := x) (y := y) (n := n) (r := r) hS hO1 hn (by first | assumption | omega) (by first | assumption | omega))) mt_X7_refusalOfPair sv_X7_145 dX7_refusalOfLink_3 rfl rfl rfl rfl rfl ?_
    refine pm_stk (st' := [.ref (z + nx)]) rfl ?_
    refine pm_astore_n B dX7_refusalOfLink_6 rfl rfl ?_
    refine pm_loc (L' := [some (.ref (z + 1)), some (.int x), some (.int y), some (.ref (z + nx)), none]) rfl ?_
    refine pm_aload_n B dX7_refusalOfLink_7 rfl ?_
    refine pm_ifnull B dX7_refusalOfLink_8 ?_
    refine pm_aload_n B dX7_refusalOfLink_11 rfl ?_
    have hDq7 : (d_X7_refusalOfLink x y n r) = (((d_X7_refusalOfPair x y n r).1), ((d_X7_refusalOfPair x y n r).2)) := by rw [d_X7_refusalOfLink, if_neg hq1]
    exact pm_areturn B dX7_refusalOfLink_12 rfl (Or.inl ⟨_, rfl⟩) (Or.inr ⟨_, rfl⟩) (by rw [hDq7, pm_rf_p (show ¬ (((d_X7_refusalOfPair x y n r).1) : Int32) = 0 by first | decide | assumption)]; exact ⟨rfl, rfl, rfl⟩) rfl rfl
def d_X7_refusalOfCut (x : Int32) (y : Int32) (n : Nat) (r : Nat → Int32) : Int32 × Int32 := if (d_X7_refusalOfPair x y n r).1 = 0 then (if (r (49 + (pm_n x)) >>> (nI (pm_n y) &&& 31)) &&& 1 = 1 then (0, 0) else (4, (pm_lt (fun j => r (49 + j)) 7 / 2))) else (((d_X7_refusalOfPair x y n r).1), ((d_X7_refusalOfPair x y n r).2))
set_option maxRecDepth 100000 in
set_option maxHeartbeats 8000000 in
theorem c_X7_refusalOfCut {l : Launch} {z : Nat} {D : va_G} {kA : Nat → ClassId} {kE : Nat → Nat} {nx : Nat} {M : pm_M} {x : Int32} {y : Int32} {n : Nat} {r : Nat → Int32} (hS : pm_SA z kA 2 M r) (hO1 : M 1 = some (.inr (5, [.ref (z + 2), .ref (z + 13), .ref (z + 16)]))) (hn : r 0 = nI n) (h7 : n ≤ 7) (hnx : 140 ≤ nx) : pm_C l z D kA kE yX7_refusalOfCut cX7_refusalOfCut 5 (some (.object "ThunderCartel$Refusal")) 3 2 6 [.ref (z + 1), .int x, .int y] nx M (pm_rf z nx M (d_X7_refusalOfCut x y n r)) := by
  refine pm_mk (own := RX7) (nm := "refusalOfCut") mt_X7_refusalOfCut rfl rfl rfl rfl fun X B => ?_
  refine pm_loc (L' := [some (.ref (z + 1)), some (.int x), some (.int y), none, none]) rfl ?_
  refine pm_aload_n B dX7_refusalOfCut_0 rfl ?_
  refine pm_iload_n B dX7_refusalOfCut_1 rfl ?_
  refine pm_iload_n B dX7_refusalOfCut_2 rfl ?_
  by_cases hq1 : (d_X7_refusalOfPair x y n r).1 = 0
  · refine pm_cV (As := [.int x, .int y]) (mc2 := 1) (ms2 := 3) B rfl hO1 rfl (pm_C_z hq1 (c_X7_refusalOfPair (x := x) (y := y) (n := n) (r := r) hS hO1 hn (by first | assumption | omega) (by first | assumption | omega))) mt_X7_refusalOfPair sv_X7_145 dX7_refusalOfCut_3 rfl rfl rfl rfl rfl ?_
    refine pm_stk (st' := [.null]) rfl ?_
    refine pm_astore_nN B dX7_refusalOfCut_6 rfl rfl ?_
    refine pm_loc (L' := [some (.ref (z + 1)), some (.int x), some (.int y), some (.null), none]) rfl ?_
    refine pm_aload_nN B dX7_refusalOfCut_7 rfl ?_
    refine pm_ifnullN (tgt := 13) B dX7_refusalOfCut_8 (by decide) ?_
    obtain ⟨⟨he_x, hl_x⟩, he_y, hl_y⟩ := d_X7_refusalOfPair_in h7 hq1
    refine pm_loc (L' := [some (.ref (z + 1)), some (.int (nI (pm_n x))), some (.int y), some (.null), none]) (congrArg (fun yy : Int32 => ([some (.ref (z + 1)), some (.int yy), some (.int y), some (.null), none] : List (Option Value))) he_x) ?_
    refine pm_loc (L' := [some (.ref (z + 1)), some (.int (nI (pm_n x))), some (.int (nI (pm_n y))), some (.null), none]) (congrArg (fun yy : Int32 => ([some (.ref (z + 1)), some (.int (nI (pm_n x))), some (.int yy), some (.null), none] : List (Option Value))) he_y) ?_
    refine pm_aload_n B dX7_refusalOfCut_13 rfl ?_
    refine pm_get B dX7_refusalOfCut_14 fl_X7_12 hO1 rfl ?_
    refine pm_get B dX7_refusalOfCut_17 fl_X7_148 (hS.1) rfl ?_
    refine pm_iload_n B dX7_refusalOfCut_20 rfl ?_
    refine pm_iload_n B dX7_refusalOfCut_21 rfl ?_
    refine pm_cV (As := [.int (nI (pm_n x)), .int (nI (pm_n y))]) (mc2 := 0) (ms2 := 0) B rfl (hS.2.2.2.1) rfl (c_X5_connects (g := (fun j => r (49 + j))) (i := pm_n x) (k := pm_n y) (hS.2.2.2.1) (hS.2.2.2.2) (by first | assumption | omega)) mt_X5_connects sv_X7_157 dX7_refusalOfCut_22 rfl rfl rfl rfl rfl ?_
    refine pm_stk (st' := [.int (if (r (49 + (pm_n x)) >>> (nI (pm_n y) &&& 31)) &&& 1 = 1 then 1 else 0)]) rfl ?_
    refine pm_istore B dX7_refusalOfCut_25 rfl rfl ?_
    refine pm_loc (L' := [some (.ref (z + 1)), some (.int (nI (pm_n x))), some (.int (nI (pm_n y))), some (.null), some (.int (if (r (49 + (pm_n x)) >>> (nI (pm_n y) &&& 31)) &&& 1 = 1 then 1 else 0))]) rfl ?_
    refine pm_iload B dX7_refusalOfCut_27 rfl ?_
    refine pm_if_eq (tgt := 36) B dX7_refusalOfCut_29 (by decide) (fun hq2 => ?_) (fun hq2 => ?_)
    · have hq2p : ¬ ((r (49 + (pm_n x)) >>> (nI (pm_n y) &&& 31)) &&& 1 = 1) := (pm_if01 _ _).mp hq2
      refine pm_new (n0 := 3) B dX7_refusalOfCut_36 nw_X7_111 rfl (by decide) (by decide) ?_
      refine pm_stk (st' := [.ref (z + nx)]) rfl ?_
      refine pm_dup B dX7_refusalOfCut_39 rfl ?_
      refine pm_iconst (v := 4) B dX7_refusalOfCut_40 (by decide) ?_
      refine pm_aload_n B dX7_refusalOfCut_41 rfl ?_
      refine pm_get B dX7_refusalOfCut_42 fl_X7_12 ((pm_up_n (by omega)).trans hO1) rfl ?_
      refine pm_get B dX7_refusalOfCut_45 fl_X7_148 ((pm_up_n (by omega)).trans (hS.1)) rfl ?_
      refine pm_cV (As := []) (mc2 := 0) (ms2 := 0) B rfl ((pm_up_n (by omega)).trans (hS.2.2.2.1)) rfl (c_X5_total (g := (fun j => r (49 + j))) ((pm_up_n (by omega)).trans (hS.2.2.2.1)) ((pm_up_n (by omega)).trans (hS.2.2.2.2))) mt_X5_total sv_X7_152 dX7_refusalOfCut_48 rfl rfl rfl rfl rfl ?_
      refine pm_stk (st' := [.int (pm_lt (fun j => r (49 + j)) 7 / 2), .int 4, .ref (z + nx), .ref (z + nx)]) rfl ?_
      refine pm_null B dX7_refusalOfCut_51 ?_
      refine pm_cI (As := [.int 4, .int (pm_lt (fun j => r (49 + j)) 7 / 2), .null]) (mc2 := 0) (ms2 := 0) B rfl (c_X8_init (t := 0) pm_up_s) mt_X8_init si_X7_113 dX7_refusalOfCut_52 rfl rfl rfl rfl rfl ?_
      refine pm_mem (M' := pm_up M nx (.inr (6, [.int 4, .int (pm_lt (fun j => r (49 + j)) 7 / 2), .null]))) (by rw [pm_up_up] <;> rfl) ?_
      refine pm_stk (st' := [.ref (z + nx)]) rfl ?_
      have hDq3 : (d_X7_refusalOfCut x y n r) = (4, (pm_lt (fun j => r (49 + j)) 7 / 2)) := by rw [d_X7_refusalOfCut, if_pos hq1, if_neg hq2p]
      exact pm_areturn B dX7_refusalOfCut_55 rfl (Or.inl ⟨_, rfl⟩) (Or.inr ⟨_, rfl⟩) (by rw [hDq3, pm_rf_p (show ¬ (4 : Int32) = 0 by first | decide | assumption)]; exact ⟨rfl, rfl, rfl⟩) rfl rfl
    · have hq2p : ((r (49 + (pm_n x)) >>> (nI (pm_n y) &&& 31)) &&& 1 = 1) := Decidable.not_not.mp (fun e => hq2 ((pm_if01 _ _).mpr e))
      refine pm_null B dX7_refusalOfCut_32 ?_
      refine pm_goto (tgt := 55) B dX7_refusalOfCut_33 (by decide) ?_
      have hDq4 : (d_X7_refusalOfCut x y n r) = (0, 0) := by rw [d_X7_refusalOfCut, if_pos hq1, if_pos hq2p]
      exact pm_areturn B dX7_refusalOfCut_55 rfl (Or.inl ⟨_, rfl⟩) (Or.inl rfl) (by rw [hDq4, pm_rf_z rfl]; exact ⟨rfl, rfl, rfl⟩) rfl rfl
  · refine pm_cV (As := [.int x, .int y]) (mc2 := 1) (ms2 := 3) B rfl hO1 rfl (pm_C_p hq1 (c_X7_refusalOfPair (x := x) (y := y) (n := n) (r := r) hS hO1 hn (by first | assumption | omega) (by first | assumption | omega))) mt_X7_refusalOfPair sv_X7_145 dX7_refusalOfCut_3 rfl rfl rfl rfl rfl ?_
    refine pm_stk (st' := [.ref (z + nx)]) rfl ?_
    refine pm_astore_n B dX7_refusalOfCut_6 rfl rfl ?_
    refine pm_loc (L' := [some (.ref (z + 1)), some (.int x), some (.int y), some (.ref (z + nx)), none]) rfl ?_
    refine pm_aload_n B dX7_refusalOfCut_7 rfl ?_
    refine pm_ifnull B dX7_refusalOfCut_8 ?_
    refine pm_aload_n B dX7_refusalOfCut_11 rfl ?_
    have hDq5 : (d_X7_refusalOfCut x y n r) = (((d_X7_refusalOfPair x y n r).1), ((d_X7_refusalOfPair x y n r).2)) := by rw [d_X7_refusalOfCut, if_neg hq1]
    exact pm_areturn B dX7_refusalOfCut_12 rfl (Or.inl ⟨_, rfl⟩) (Or.inr ⟨_, rfl⟩) (by rw [hDq5, pm_rf_p (show ¬ (((d_X7_refusalOfPair x y n r).1) : Int32) = 0 by first | decide | assumption)]; exact ⟨rfl, rfl, rfl⟩) rfl rfl
