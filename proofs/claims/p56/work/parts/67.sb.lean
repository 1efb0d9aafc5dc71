/-! the StringBuilder: bytes, a private method of a class above, a method of the class above -/
/-- a private method is the one that is chosen, for objects of any class -/
theorem pm_selP {s : State} {args : Array Value} {C : String} {y : MethodName} {c : ClassId} {k : Class} (hc : s.vm.findClass C = some c) (hk : s.vm.classes[c]? = some k) (hni : k.isInterface = false) (hsm : (Cond.sameMethod y.cls y.cls y.name y.desc).before args s = true) (hpriv : s.PrivateAt y)
    (hinst : (Cond.instanceMethod y).before args s = true) (hy : y.cls ≠ "java/lang/invoke/MethodHandle" ∧ y.cls ≠ "java/lang/invoke/VarHandle") : (Cond.selects C y y).before args s = true := by
  obtain ⟨mk, methM, hnamed, hmethM, -, -⟩ := Cond.instanceMethod_spec hinst
  have hfound : s.methodFound? y.cls y.name y.desc = some mk := State.methodFound?_of_named hnamed hy
  have hsel : selectMethod {} s.vm c mk = .method mk := selectMethod_private hmethM (hpriv mk methM hnamed hmethM)
  obtain ⟨c2, k2, hc2, hk2, hni2⟩ := Cond.sameMethod_class hsm
  cases (findClass_of_methodNamed hnamed).symm.trans hc2
  simp only [Cond.before, Cond.holds, Cond.value, hc, hfound, hnamed, hsel, hk2]
  simp; exact hni2
def pm_SP (own : String) (index : Nat) (C D : String) (y : MethodName) : Prop := Cond.methodLink own index y ∈ pm_T ∧ Cond.instanceMethod y ∈ pm_T ∧ Cond.privateMethod y ∈ pm_nest ∧ Cond.superclass C D ∈ pm_T ∧ Cond.sameMethod y.cls y.cls y.name y.desc ∈ pm_T
def pm_SX (own : String) (index : Nat) (y : MethodName) : Prop := Cond.methodLink own index y ∈ pm_T ∧ Cond.sameMethod y.cls y.cls y.name y.desc ∈ pm_T ∧ Cond.superclass own y.cls ∈ pm_T ∧ Cond.instanceMethod y ∈ pm_T ∧ y.name ≠ "<init>"
section PSB
variable {l : Launch} {z : Nat} {D : va_G} {kA : Nat → ClassId} {kE : Nat → Nat} {own : String} {cc : ByteArray} {nL : Nat} {ret : Option FieldType} {nm : String} {tb : List ExceptionTableEntry} {d mc ms : Nat} {X : pm_X} {cu su : Nat} {Q : State → Prop} {nx : Nat} {M : pm_M} {pc : Nat} {L : List (Option Value)} {st : List Value}
variable {x y : MethodName} {cc2 : ByteArray} {nL2 n2 d2 mc2 ms2 : Nat} {ret2 : Option FieldType} {As : List Value} {index : Nat} {C D2 : String}
theorem pm_cP (B : pm_B l z D kA kE own cc nL ret nm tb d mc ms X) {ov : Option Value} {n1 : Nat} {M1 : pm_M} {a ci : Nat} {fs : List Value} (h13 : Nat.ble (ci + 1) 13 = true) (hM : M a = some (.inr (ci, fs))) (hci : (pm_ci ci).1 = C) (hC : pm_C l z D kA kE y cc2 nL2 ret2 d2 mc2 ms2 (.ref (z + a) :: As) nx M (pm_rt ov n1 M1)) (hm : pm_Mt y cc2 nL2 ret2 n2) (hs : pm_SP own index C D2 y) (hd : decode cc pc = .ok (.invokevirtual index, 3)) (hn : As.length = n2) (hd2 : Nat.ble (d2 + 1) d = true) (hst : Nat.ble ((st.map fun v => v.category).sum) 8 = true) (hcu : Nat.ble (cu + mc2) mc = true) (hsu : Nat.ble (su + ms2) ms = true)
    (k : pm_G l z D X (cu + mc2) (su + ms2) Q n1 M1 (pc + 3) L (ov.toList ++ st)) : pm_G l z D X cu su Q nx M pc L (As.reverse ++ .ref (z + a) :: st) := by
  obtain ⟨hx, hb, hml, hown, hts, hr, hlk, hK, hnm, htb, ⟨hrf, hrl, hrc, hrs⟩, hz, hcs⟩ := id B
  obtain ⟨p, e, R, s, m, args, below, meth, c⟩ := X
  intro H locs ls hR hS hl
  have h1 := Nat.le_of_ble_eq_true hd2
  have h2 := Nat.le_of_ble_eq_true hcu
  have h3 := Nat.le_of_ble_eq_true hsu
  have h27 := hm.2.2.2.2
  have hroom : (pm_rm d2 mc2 ms2).frames + 1 ≤ R.frames ∧ 8 + (nL2 + 11) + (pm_rm d2 mc2 ms2).locals ≤ R.locals := by
    simp only [pm_rm] at hrf hrl ⊢
    omega
  have hrec := va_recv (q0 := 0) (ws := [(z + a, .inr (ci, fs))]) hK (pm_single (hR.2 a _ hM).2) (pm_ci_get (Nat.le_of_ble_eq_true h13)) rfl
  rw [show ((pm_ci ci).1, (pm_ci ci).2.1, (pm_ci ci).2.2).1 = C from hci] at hrec
  obtain ⟨cell, -, -, hcl⟩ := id hrec
  obtain ⟨ps, kk, kp, -, hkk, -, -, -, -, hni⟩ := Cond.superclass_spec hcl (hts _ hs.2.2.2.1)
  have hse : (Cond.selects C y y).before args s = true := pm_selP hcl hkk hni (hts _ hs.2.2.2.2) (Cond.privateMethod_at (hcs.2.2.2.2.2 _ hs.2.2.1)) (hts _ hs.2.1) ⟨hm.2.2.1.1, hm.2.2.1.2.1⟩
  have cw : CallW R s args own C index y cc2 nL2 ret2 (Cond.code y cc2 nL2 ret2 :: pm_T) (pm_rm d2 mc2 ms2) mc2 ms2 n2 := ⟨callB_of n2 hts (pm_good hm) rfl rfl rfl (hts _ hm.2.1) (hts _ hs.1) hm.2.2.1 hroom, hts _ hs.2.1, hse⟩
  exact pm_after (vx_runV ⟨hx, hb, hml, hown, hts⟩ hC cw ⟨pm_Pc_blind, hrec, fun U hU hW => pm_Pc_at hR hS hK hcs hU hW⟩ rfl hn (by simp only at hml ⊢; rw [← hml]; exact hl.1) rfl (pm_sum_room rfl hst) hd ⟨by simp only at hrc ⊢; omega, by simp only at hrs ⊢; omega⟩) hz hR hS hl (fun E n' M' h => (pm_rt_no E n' M' h).elim) (fun v n' M' h => by obtain ⟨h1, rfl, rfl⟩ := h; cases h1; exact k)
theorem pm_cX (B : pm_B l z D kA kE own cc nL ret nm tb d mc ms X) {ov : Option Value} {n1 : Nat} {M1 : pm_M} {a ci : Nat} {fs : List Value} (h13 : Nat.ble (ci + 1) 13 = true) (hM : M a = some (.inr (ci, fs))) (hC : pm_C l z D kA kE y cc2 nL2 ret2 d2 mc2 ms2 (.ref (z + a) :: As) nx M (pm_rt ov n1 M1)) (hm : pm_Mt y cc2 nL2 ret2 n2) (hs : pm_SX own index y) (hd : decode cc pc = .ok (.invokespecial index, 3)) (hn : As.length = n2) (hd2 : Nat.ble (d2 + 1) d = true) (hst : Nat.ble ((st.map fun v => v.category).sum) 8 = true) (hcu : Nat.ble (cu + mc2) mc = true) (hsu : Nat.ble (su + ms2) ms = true)
    (k : pm_G l z D X (cu + mc2) (su + ms2) Q n1 M1 (pc + 3) L (ov.toList ++ st)) : pm_G l z D X cu su Q nx M pc L (As.reverse ++ .ref (z + a) :: st) := by
  obtain ⟨hx, hb, hml, hown, hts, hr, hlk, hK, hnm, htb, ⟨hrf, hrl, hrc, hrs⟩, hz, hcs⟩ := id B
  obtain ⟨p, e, R, s, m, args, below, meth, c⟩ := X
  intro H locs ls hR hS hl
  have h1 := Nat.le_of_ble_eq_true hd2
  have h2 := Nat.le_of_ble_eq_true hcu
  have h3 := Nat.le_of_ble_eq_true hsu
  have h27 := hm.2.2.2.2
  have hroom : (pm_rm d2 mc2 ms2).frames + 1 ≤ R.frames ∧ 8 + (nL2 + 11) + (pm_rm d2 mc2 ms2).locals ≤ R.locals := by
    simp only [pm_rm] at hrf hrl ⊢
    omega
  have hrec := va_recv (q0 := 0) (ws := [(z + a, .inr (ci, fs))]) hK (pm_single (hR.2 a _ hM).2) (pm_ci_get (Nat.le_of_ble_eq_true h13)) rfl
  obtain ⟨s1, s2, s3, s4, s5⟩ := hs
  have cw : va_CS R s args own index y cc2 nL2 ret2 (Cond.code y cc2 nL2 ret2 :: pm_T) (pm_rm d2 mc2 ms2) mc2 ms2 n2 := ⟨⟨rfl, rfl, hroom.1, hroom.2, pay_in hts (pm_good hm), List.mem_cons_self⟩, hts _ s1, hts _ s2, hts _ s3, hts _ s4, hts _ hm.2.1, hts _ hm.1, s5, fun sig h => (by have h8 := hm.2.2.1.2.2; rw [h] at h8; exact (Option.some.inj h8).symm)⟩
  exact pm_afterA (va_runSU (hK.1 ci _ (pm_ci_get (Nat.le_of_ble_eq_true h13))).2 ⟨hx, hb, hml, hown, hts⟩ (pm_noX hC (fun E st t h => by obtain ⟨n', M', h1, -⟩ := h; exact pm_rt_no E n' M' h1)) cw ⟨pm_Pc_blind, hrec, fun U hU hW => pm_Pc_at hR hS hK hcs hU hW⟩ rfl hn (by simp only at hml ⊢; rw [← hml]; exact hl.1) rfl (pm_sum_room rfl hst) hd ⟨by simp only at hrc ⊢; omega, by simp only at hrs ⊢; omega⟩) hS hl (fun v n' M' h => by obtain ⟨h1, rfl, rfl⟩ := h; cases h1; exact k)
theorem pm_bald_n (B : pm_B l z D kA kE own cc nL ret nm tb d mc ms X) {a n : Nat} {f : Nat → Int32} (hd : decode cc pc = .ok (.baload, 1)) (hM : M a = some (.inl (kA 4, n, .inl f))) (i : Nat) (hi : i < n) (hn : n < 2147483648)
    (k : pm_G l z D X cu su Q nx M (pc + 1) L (.int (f i) :: st)) : pm_G l z D X cu su Q nx M pc L (.int (nI i) :: .ref (z + a) :: st) := by
  obtain ⟨hx, hb, hml, hown, hts, hr, hlk, hK, hnm, htb, ⟨hrf, hrl, hrc, hrs⟩, hz, hcs⟩ := id B
  obtain ⟨p, e, R, s, m, args, below, meth, c⟩ := X
  intro H locs ls hR hS hl
  have hin := pm_inj hi hn
  refine W.bald (v := .int (f i)) hx hb (hR.2 a _ hM).2 ((hK.2 4 _ rfl).1 n (fun j => .int (f j))) (fun q => by cases q) (by show ¬ (nI i < 0 ∨ (arrV _ _ _).slots.size ≤ _); rw [arrV_size]; exact hin) (by show (arrV _ _ _).slots[_]? = _; rw [pm_cln hi hn, arrV_read _ _ hi]) rfl rfl hd (k H locs ls hR hS hl)
theorem pm_bast_n (B : pm_B l z D kA kE own cc nL ret nm tb d mc ms X) {a n : Nat} {f : Nat → Int32} {x v : Int32} (hv : vp_nar .byte x = v) (hd : decode cc pc = .ok (.bastore, 1)) (hM : M a = some (.inl (kA 4, n, .inl f))) (i : Nat) (hi : i < n) (hn : n < 2147483648)
    (k : pm_G l z D X cu su Q nx (pm_up M a (.inl (kA 4, n, .inl (upd f i v)))) (pc + 1) L st) : pm_G l z D X cu su Q nx M pc L (.int x :: .int (nI i) :: .ref (z + a) :: st) := by
  obtain ⟨hx, hb, hml, hown, hts, hr, hlk, hK, hnm, htb, ⟨hrf, hrl, hrc, hrs⟩, hz, hcs⟩ := id B
  obtain ⟨p, e, R, s, m, args, below, meth, c⟩ := X
  intro H locs ls hR hS hl
  have hin := pm_inj hi hn
  subst hv
  refine W.bast hx hb (hR.2 a _ hM).2 ((hK.2 4 _ rfl).1 n (fun j => .int (f j))) (fun q => by cases q) (by show ¬ (nI i < 0 ∨ (arrV _ _ _).slots.size ≤ _); rw [arrV_size]; exact hin) rfl rfl hd fun H1 e z1 oq => ?_
  refine k H1 _ ls (hR.put hM ?_ z1 oq) (hS.put z1 oq (Nat.le_add_right z a)) hl
  show H1[z + a]? = some (vp_cell _ _)
  rw [e, pm_cln hi hn]
  show some (Cell.setSlot (vp_cell _ _) _ _) = _
  rw [vp_cell_i, vp_cell_i, arrV_store]
  congr 2
  funext q
  by_cases hq : q = i
  · subst hq
    simp [updV, upd, vp_nar]
    try rfl
  · simp [updV, upd, hq]
theorem pm_i2b (B : pm_B l z D kA kE own cc nL ret nm tb d mc ms X) {x v : Int32} (hd : decode cc pc = .ok (.i2b, 1)) (hv : x.toInt8.toInt32 = v)
    (k : pm_G l z D X cu su Q nx M (pc + 1) L (.int v :: st)) : pm_G l z D X cu su Q nx M pc L (.int x :: st) := by
  obtain ⟨hx, hb, hml, hown, hts, hr, hlk, hK, hnm, htb, ⟨hrf, hrl, hrc, hrs⟩, hz, hcs⟩ := id B
  obtain ⟨p, e, R, s, m, args, below, meth, c⟩ := X
  intro H locs ls hR hS hl
  exact lv_i2b hx hb hd hv (k H locs ls hR hS hl)
end PSB
abbrev RJ5 : String := "java/lang/AbstractStringBuilder"
abbrev cJ5_isLatin1_aae02 : ByteArray := prog_17_method_68_code
def yJ5_isLatin1_aae02 : MethodName := ⟨RJ5, "isLatin1", "()Z"⟩
theorem dJ5_isLatin1_aae02_0 : decode cJ5_isLatin1_aae02 0 = .ok (.getstatic 18, 3) := by decide +kernel
theorem dJ5_isLatin1_aae02_3 : decode cJ5_isLatin1_aae02 3 = .ok (.ifCond .eq 14, 3) := by decide +kernel
theorem dJ5_isLatin1_aae02_6 : decode cJ5_isLatin1_aae02 6 = .ok (.aload_n 0, 1) := by decide +kernel
theorem dJ5_isLatin1_aae02_7 : decode cJ5_isLatin1_aae02 7 = .ok (.getfield 22, 3) := by decide +kernel
theorem dJ5_isLatin1_aae02_10 : decode cJ5_isLatin1_aae02 10 = .ok (.ifCond .ne 7, 3) := by decide +kernel
theorem dJ5_isLatin1_aae02_13 : decode cJ5_isLatin1_aae02 13 = .ok (.iconst 1, 1) := by decide +kernel
theorem dJ5_isLatin1_aae02_14 : decode cJ5_isLatin1_aae02 14 = .ok (.goto 4, 3) := by decide +kernel
theorem dJ5_isLatin1_aae02_17 : decode cJ5_isLatin1_aae02 17 = .ok (.iconst 0, 1) := by decide +kernel
theorem dJ5_isLatin1_aae02_18 : decode cJ5_isLatin1_aae02 18 = .ok (.ireturn, 1) := by decide +kernel
theorem mt_J5_isLatin1_aae02 : pm_Mt yJ5_isLatin1_aae02 cJ5_isLatin1_aae02 1 (some .boolean) 0 := ⟨pm_T_in 1226 (by decide +kernel) (by decide +kernel), pm_T_in 45 (by decide +kernel) (by decide +kernel), ⟨by decide +kernel, by decide +kernel, by decide +kernel⟩, by decide +kernel, by decide⟩
abbrev cJ5_ensureCapacityInternal_d00df : ByteArray := prog_17_method_9_code
def yJ5_ensureCapacityInternal_d00df : MethodName := ⟨RJ5, "ensureCapacityInternal", "(I)V"⟩
theorem dJ5_ensureCapacityInternal_d00df_0 : decode cJ5_ensureCapacityInternal_d00df 0 = .ok (.aload_n 0, 1) := by decide +kernel
theorem dJ5_ensureCapacityInternal_d00df_1 : decode cJ5_ensureCapacityInternal_d00df 1 = .ok (.getfield 15, 3) := by decide +kernel
theorem dJ5_ensureCapacityInternal_d00df_4 : decode cJ5_ensureCapacityInternal_d00df 4 = .ok (.arraylength, 1) := by decide +kernel
theorem dJ5_ensureCapacityInternal_d00df_5 : decode cJ5_ensureCapacityInternal_d00df 5 = .ok (.aload_n 0, 1) := by decide +kernel
theorem dJ5_ensureCapacityInternal_d00df_6 : decode cJ5_ensureCapacityInternal_d00df 6 = .ok (.getfield 22, 3) := by decide +kernel
theorem dJ5_ensureCapacityInternal_d00df_9 : decode cJ5_ensureCapacityInternal_d00df 9 = .ok (.ishr, 1) := by decide +kernel
theorem dJ5_ensureCapacityInternal_d00df_10 : decode cJ5_ensureCapacityInternal_d00df 10 = .ok (.istore_n 2, 1) := by decide +kernel
theorem dJ5_ensureCapacityInternal_d00df_11 : decode cJ5_ensureCapacityInternal_d00df 11 = .ok (.iload_n 1, 1) := by decide +kernel
theorem dJ5_ensureCapacityInternal_d00df_12 : decode cJ5_ensureCapacityInternal_d00df 12 = .ok (.iload_n 2, 1) := by decide +kernel
theorem dJ5_ensureCapacityInternal_d00df_13 : decode cJ5_ensureCapacityInternal_d00df 13 = .ok (.isub, 1) := by decide +kernel
theorem dJ5_ensureCapacityInternal_d00df_14 : decode cJ5_ensureCapacityInternal_d00df 14 = .ok (.ifCond .le 24, 3) := by decide +kernel
theorem dJ5_ensureCapacityInternal_d00df_17 : decode cJ5_ensureCapacityInternal_d00df 17 = .ok (.aload_n 0, 1) := by decide +kernel
theorem dJ5_ensureCapacityInternal_d00df_18 : decode cJ5_ensureCapacityInternal_d00df 18 = .ok (.aload_n 0, 1) := by decide +kernel
theorem dJ5_ensureCapacityInternal_d00df_19 : decode cJ5_ensureCapacityInternal_d00df 19 = .ok (.getfield 15, 3) := by decide +kernel
theorem dJ5_ensureCapacityInternal_d00df_22 : decode cJ5_ensureCapacityInternal_d00df 22 = .ok (.aload_n 0, 1) := by decide +kernel
theorem dJ5_ensureCapacityInternal_d00df_23 : decode cJ5_ensureCapacityInternal_d00df 23 = .ok (.iload_n 1, 1) := by decide +kernel
theorem dJ5_ensureCapacityInternal_d00df_24 : decode cJ5_ensureCapacityInternal_d00df 24 = .ok (.invokevirtual 104, 3) := by decide +kernel
theorem dJ5_ensureCapacityInternal_d00df_27 : decode cJ5_ensureCapacityInternal_d00df 27 = .ok (.aload_n 0, 1) := by decide +kernel
theorem dJ5_ensureCapacityInternal_d00df_28 : decode cJ5_ensureCapacityInternal_d00df 28 = .ok (.getfield 22, 3) := by decide +kernel
theorem dJ5_ensureCapacityInternal_d00df_31 : decode cJ5_ensureCapacityInternal_d00df 31 = .ok (.ishl, 1) := by decide +kernel
theorem dJ5_ensureCapacityInternal_d00df_32 : decode cJ5_ensureCapacityInternal_d00df 32 = .ok (.invokestatic 108, 3) := by decide +kernel
theorem dJ5_ensureCapacityInternal_d00df_35 : decode cJ5_ensureCapacityInternal_d00df 35 = .ok (.putfield 15, 3) := by decide +kernel
theorem dJ5_ensureCapacityInternal_d00df_38 : decode cJ5_ensureCapacityInternal_d00df 38 = .ok (.return_, 1) := by decide +kernel
theorem mt_J5_ensureCapacityInternal_d00df : pm_Mt yJ5_ensureCapacityInternal_d00df cJ5_ensureCapacityInternal_d00df 3 none 1 := ⟨pm_T_in 1196 (by decide +kernel) (by decide +kernel), pm_T_in 45 (by decide +kernel) (by decide +kernel), ⟨by decide +kernel, by decide +kernel, by decide +kernel⟩, by decide +kernel, by decide⟩
abbrev cJ1_canEncode_fc78d : ByteArray := prog_36_method_3_code
def yJ1_canEncode_fc78d : MethodName := ⟨RJ1, "canEncode", "(C)Z"⟩
theorem dJ1_canEncode_fc78d_0 : decode cJ1_canEncode_fc78d 0 = .ok (.iload_n 0, 1) := by decide +kernel
theorem dJ1_canEncode_fc78d_1 : decode cJ1_canEncode_fc78d 1 = .ok (.sipush 255, 3) := by decide +kernel
theorem dJ1_canEncode_fc78d_4 : decode cJ1_canEncode_fc78d 4 = .ok (.if_icmp .gt 7, 3) := by decide +kernel
theorem dJ1_canEncode_fc78d_7 : decode cJ1_canEncode_fc78d 7 = .ok (.iconst 1, 1) := by decide +kernel
theorem dJ1_canEncode_fc78d_8 : decode cJ1_canEncode_fc78d 8 = .ok (.goto 4, 3) := by decide +kernel
theorem dJ1_canEncode_fc78d_11 : decode cJ1_canEncode_fc78d 11 = .ok (.iconst 0, 1) := by decide +kernel
theorem dJ1_canEncode_fc78d_12 : decode cJ1_canEncode_fc78d 12 = .ok (.ireturn, 1) := by decide +kernel
theorem mt_J1_canEncode_fc78d : pm_Mt yJ1_canEncode_fc78d cJ1_canEncode_fc78d 1 (some .boolean) 1 := ⟨pm_T_in 1459 (by decide +kernel) (by decide +kernel), pm_T_in 70 (by decide +kernel) (by decide +kernel), ⟨by decide +kernel, by decide +kernel, by decide +kernel⟩, by decide +kernel, by decide⟩
abbrev cJ5_append_3fe6f : ByteArray := prog_17_method_31_code
def yJ5_append_3fe6f : MethodName := ⟨RJ5, "append", "(C)Ljava/lang/AbstractStringBuilder;"⟩
theorem dJ5_append_3fe6f_0 : decode cJ5_append_3fe6f 0 = .ok (.aload_n 0, 1) := by decide +kernel
theorem dJ5_append_3fe6f_1 : decode cJ5_append_3fe6f 1 = .ok (.aload_n 0, 1) := by decide +kernel
theorem dJ5_append_3fe6f_2 : decode cJ5_append_3fe6f 2 = .ok (.getfield 79, 3) := by decide +kernel
theorem dJ5_append_3fe6f_5 : decode cJ5_append_3fe6f 5 = .ok (.iconst 1, 1) := by decide +kernel
theorem dJ5_append_3fe6f_6 : decode cJ5_append_3fe6f 6 = .ok (.iadd, 1) := by decide +kernel
theorem dJ5_append_3fe6f_7 : decode cJ5_append_3fe6f 7 = .ok (.invokevirtual 100, 3) := by decide +kernel
theorem dJ5_append_3fe6f_10 : decode cJ5_append_3fe6f 10 = .ok (.aload_n 0, 1) := by decide +kernel
theorem dJ5_append_3fe6f_11 : decode cJ5_append_3fe6f 11 = .ok (.invokevirtual 83, 3) := by decide +kernel
theorem dJ5_append_3fe6f_14 : decode cJ5_append_3fe6f 14 = .ok (.ifCond .eq 31, 3) := by decide +kernel
theorem dJ5_append_3fe6f_17 : decode cJ5_append_3fe6f 17 = .ok (.iload_n 1, 1) := by decide +kernel
theorem dJ5_append_3fe6f_18 : decode cJ5_append_3fe6f 18 = .ok (.invokestatic 191, 3) := by decide +kernel
theorem dJ5_append_3fe6f_21 : decode cJ5_append_3fe6f 21 = .ok (.ifCond .eq 24, 3) := by decide +kernel
theorem dJ5_append_3fe6f_24 : decode cJ5_append_3fe6f 24 = .ok (.aload_n 0, 1) := by decide +kernel
theorem dJ5_append_3fe6f_25 : decode cJ5_append_3fe6f 25 = .ok (.getfield 15, 3) := by decide +kernel
theorem dJ5_append_3fe6f_28 : decode cJ5_append_3fe6f 28 = .ok (.aload_n 0, 1) := by decide +kernel
theorem dJ5_append_3fe6f_29 : decode cJ5_append_3fe6f 29 = .ok (.dup, 1) := by decide +kernel
theorem dJ5_append_3fe6f_30 : decode cJ5_append_3fe6f 30 = .ok (.getfield 79, 3) := by decide +kernel
theorem dJ5_append_3fe6f_33 : decode cJ5_append_3fe6f 33 = .ok (.dup_x1, 1) := by decide +kernel
theorem dJ5_append_3fe6f_34 : decode cJ5_append_3fe6f 34 = .ok (.iconst 1, 1) := by decide +kernel
theorem dJ5_append_3fe6f_35 : decode cJ5_append_3fe6f 35 = .ok (.iadd, 1) := by decide +kernel
theorem dJ5_append_3fe6f_36 : decode cJ5_append_3fe6f 36 = .ok (.putfield 79, 3) := by decide +kernel
theorem dJ5_append_3fe6f_39 : decode cJ5_append_3fe6f 39 = .ok (.iload_n 1, 1) := by decide +kernel
theorem dJ5_append_3fe6f_40 : decode cJ5_append_3fe6f 40 = .ok (.i2b, 1) := by decide +kernel
theorem dJ5_append_3fe6f_41 : decode cJ5_append_3fe6f 41 = .ok (.bastore, 1) := by decide +kernel
theorem dJ5_append_3fe6f_42 : decode cJ5_append_3fe6f 42 = .ok (.goto 33, 3) := by decide +kernel
theorem dJ5_append_3fe6f_45 : decode cJ5_append_3fe6f 45 = .ok (.aload_n 0, 1) := by decide +kernel
theorem dJ5_append_3fe6f_46 : decode cJ5_append_3fe6f 46 = .ok (.invokevirtual 83, 3) := by decide +kernel
theorem dJ5_append_3fe6f_49 : decode cJ5_append_3fe6f 49 = .ok (.ifCond .eq 7, 3) := by decide +kernel
theorem dJ5_append_3fe6f_52 : decode cJ5_append_3fe6f 52 = .ok (.aload_n 0, 1) := by decide +kernel
theorem dJ5_append_3fe6f_53 : decode cJ5_append_3fe6f 53 = .ok (.invokevirtual 195, 3) := by decide +kernel
theorem dJ5_append_3fe6f_56 : decode cJ5_append_3fe6f 56 = .ok (.aload_n 0, 1) := by decide +kernel
theorem dJ5_append_3fe6f_57 : decode cJ5_append_3fe6f 57 = .ok (.getfield 15, 3) := by decide +kernel
theorem dJ5_append_3fe6f_60 : decode cJ5_append_3fe6f 60 = .ok (.aload_n 0, 1) := by decide +kernel
theorem dJ5_append_3fe6f_61 : decode cJ5_append_3fe6f 61 = .ok (.dup, 1) := by decide +kernel
theorem dJ5_append_3fe6f_62 : decode cJ5_append_3fe6f 62 = .ok (.getfield 79, 3) := by decide +kernel
theorem dJ5_append_3fe6f_65 : decode cJ5_append_3fe6f 65 = .ok (.dup_x1, 1) := by decide +kernel
theorem dJ5_append_3fe6f_66 : decode cJ5_append_3fe6f 66 = .ok (.iconst 1, 1) := by decide +kernel
theorem dJ5_append_3fe6f_67 : decode cJ5_append_3fe6f 67 = .ok (.iadd, 1) := by decide +kernel
theorem dJ5_append_3fe6f_68 : decode cJ5_append_3fe6f 68 = .ok (.putfield 79, 3) := by decide +kernel
theorem dJ5_append_3fe6f_71 : decode cJ5_append_3fe6f 71 = .ok (.iload_n 1, 1) := by decide +kernel
theorem dJ5_append_3fe6f_72 : decode cJ5_append_3fe6f 72 = .ok (.invokestatic 197, 3) := by decide +kernel
theorem dJ5_append_3fe6f_75 : decode cJ5_append_3fe6f 75 = .ok (.aload_n 0, 1) := by decide +kernel
theorem dJ5_append_3fe6f_76 : decode cJ5_append_3fe6f 76 = .ok (.areturn, 1) := by decide +kernel
theorem mt_J5_append_3fe6f : pm_Mt yJ5_append_3fe6f cJ5_append_3fe6f 2 (some (.object "java/lang/AbstractStringBuilder")) 1 := ⟨pm_T_in 1456 (by decide +kernel) (by decide +kernel), pm_T_in 45 (by decide +kernel) (by decide +kernel), ⟨by decide +kernel, by decide +kernel, by decide +kernel⟩, by decide +kernel, by decide⟩
abbrev cJ6_stringSize_0f7a4 : ByteArray := prog_29_method_13_code
def yJ6_stringSize_0f7a4 : MethodName := ⟨RJ6, "stringSize", "(I)I"⟩
theorem dJ6_stringSize_0f7a4_0 : decode cJ6_stringSize_0f7a4 0 = .ok (.iconst 1, 1) := by decide +kernel
theorem dJ6_stringSize_0f7a4_1 : decode cJ6_stringSize_0f7a4 1 = .ok (.istore_n 1, 1) := by decide +kernel
theorem dJ6_stringSize_0f7a4_2 : decode cJ6_stringSize_0f7a4 2 = .ok (.iload_n 0, 1) := by decide +kernel
theorem dJ6_stringSize_0f7a4_3 : decode cJ6_stringSize_0f7a4 3 = .ok (.ifCond .lt 8, 3) := by decide +kernel
theorem dJ6_stringSize_0f7a4_6 : decode cJ6_stringSize_0f7a4 6 = .ok (.iconst 0, 1) := by decide +kernel
theorem dJ6_stringSize_0f7a4_7 : decode cJ6_stringSize_0f7a4 7 = .ok (.istore_n 1, 1) := by decide +kernel
theorem dJ6_stringSize_0f7a4_8 : decode cJ6_stringSize_0f7a4 8 = .ok (.iload_n 0, 1) := by decide +kernel
theorem dJ6_stringSize_0f7a4_9 : decode cJ6_stringSize_0f7a4 9 = .ok (.ineg, 1) := by decide +kernel
theorem dJ6_stringSize_0f7a4_10 : decode cJ6_stringSize_0f7a4 10 = .ok (.istore_n 0, 1) := by decide +kernel
theorem dJ6_stringSize_0f7a4_11 : decode cJ6_stringSize_0f7a4 11 = .ok (.bipush (-10), 2) := by decide +kernel
theorem dJ6_stringSize_0f7a4_13 : decode cJ6_stringSize_0f7a4 13 = .ok (.istore_n 2, 1) := by decide +kernel
theorem dJ6_stringSize_0f7a4_14 : decode cJ6_stringSize_0f7a4 14 = .ok (.iconst 1, 1) := by decide +kernel
theorem dJ6_stringSize_0f7a4_15 : decode cJ6_stringSize_0f7a4 15 = .ok (.istore_n 3, 1) := by decide +kernel
theorem dJ6_stringSize_0f7a4_16 : decode cJ6_stringSize_0f7a4 16 = .ok (.iload_n 3, 1) := by decide +kernel
theorem dJ6_stringSize_0f7a4_17 : decode cJ6_stringSize_0f7a4 17 = .ok (.bipush 10, 2) := by decide +kernel
theorem dJ6_stringSize_0f7a4_19 : decode cJ6_stringSize_0f7a4 19 = .ok (.if_icmp .ge 23, 3) := by decide +kernel
theorem dJ6_stringSize_0f7a4_22 : decode cJ6_stringSize_0f7a4 22 = .ok (.iload_n 0, 1) := by decide +kernel
theorem dJ6_stringSize_0f7a4_23 : decode cJ6_stringSize_0f7a4 23 = .ok (.iload_n 2, 1) := by decide +kernel
theorem dJ6_stringSize_0f7a4_24 : decode cJ6_stringSize_0f7a4 24 = .ok (.if_icmp .le 7, 3) := by decide +kernel
theorem dJ6_stringSize_0f7a4_27 : decode cJ6_stringSize_0f7a4 27 = .ok (.iload_n 3, 1) := by decide +kernel
theorem dJ6_stringSize_0f7a4_28 : decode cJ6_stringSize_0f7a4 28 = .ok (.iload_n 1, 1) := by decide +kernel
theorem dJ6_stringSize_0f7a4_29 : decode cJ6_stringSize_0f7a4 29 = .ok (.iadd, 1) := by decide +kernel
theorem dJ6_stringSize_0f7a4_30 : decode cJ6_stringSize_0f7a4 30 = .ok (.ireturn, 1) := by decide +kernel
theorem dJ6_stringSize_0f7a4_31 : decode cJ6_stringSize_0f7a4 31 = .ok (.bipush 10, 2) := by decide +kernel
theorem dJ6_stringSize_0f7a4_33 : decode cJ6_stringSize_0f7a4 33 = .ok (.iload_n 2, 1) := by decide +kernel
theorem dJ6_stringSize_0f7a4_34 : decode cJ6_stringSize_0f7a4 34 = .ok (.imul, 1) := by decide +kernel
theorem dJ6_stringSize_0f7a4_35 : decode cJ6_stringSize_0f7a4 35 = .ok (.istore_n 2, 1) := by decide +kernel
theorem dJ6_stringSize_0f7a4_36 : decode cJ6_stringSize_0f7a4 36 = .ok (.iinc 3 1, 3) := by decide +kernel
theorem dJ6_stringSize_0f7a4_39 : decode cJ6_stringSize_0f7a4 39 = .ok (.goto (-23), 3) := by decide +kernel
theorem dJ6_stringSize_0f7a4_42 : decode cJ6_stringSize_0f7a4 42 = .ok (.bipush 10, 2) := by decide +kernel
theorem dJ6_stringSize_0f7a4_44 : decode cJ6_stringSize_0f7a4 44 = .ok (.iload_n 1, 1) := by decide +kernel
theorem dJ6_stringSize_0f7a4_45 : decode cJ6_stringSize_0f7a4 45 = .ok (.iadd, 1) := by decide +kernel
theorem dJ6_stringSize_0f7a4_46 : decode cJ6_stringSize_0f7a4 46 = .ok (.ireturn, 1) := by decide +kernel
theorem mt_J6_stringSize_0f7a4 : pm_Mt yJ6_stringSize_0f7a4 cJ6_stringSize_0f7a4 4 (some .int) 1 := ⟨pm_T_in 1192 (by decide +kernel) (by decide +kernel), pm_T_in 54 (by decide +kernel) (by decide +kernel), ⟨by decide +kernel, by decide +kernel, by decide +kernel⟩, by decide +kernel, by decide⟩
abbrev cJ6_getChars_ba4f3 : ByteArray := prog_29_method_12_code
def yJ6_getChars_ba4f3 : MethodName := ⟨RJ6, "getChars", "(II[B)I"⟩
theorem dJ6_getChars_ba4f3_0 : decode cJ6_getChars_ba4f3 0 = .ok (.iload_n 1, 1) := by decide +kernel
theorem dJ6_getChars_ba4f3_1 : decode cJ6_getChars_ba4f3 1 = .ok (.istore 5, 2) := by decide +kernel
theorem dJ6_getChars_ba4f3_3 : decode cJ6_getChars_ba4f3 3 = .ok (.iload_n 0, 1) := by decide +kernel
theorem dJ6_getChars_ba4f3_4 : decode cJ6_getChars_ba4f3 4 = .ok (.ifCond .ge 7, 3) := by decide +kernel
theorem dJ6_getChars_ba4f3_7 : decode cJ6_getChars_ba4f3 7 = .ok (.iconst 1, 1) := by decide +kernel
theorem dJ6_getChars_ba4f3_8 : decode cJ6_getChars_ba4f3 8 = .ok (.goto 4, 3) := by decide +kernel
theorem dJ6_getChars_ba4f3_11 : decode cJ6_getChars_ba4f3 11 = .ok (.iconst 0, 1) := by decide +kernel
theorem dJ6_getChars_ba4f3_12 : decode cJ6_getChars_ba4f3 12 = .ok (.istore 6, 2) := by decide +kernel
theorem dJ6_getChars_ba4f3_14 : decode cJ6_getChars_ba4f3 14 = .ok (.iload 6, 2) := by decide +kernel
theorem dJ6_getChars_ba4f3_16 : decode cJ6_getChars_ba4f3 16 = .ok (.ifCond .ne 6, 3) := by decide +kernel
theorem dJ6_getChars_ba4f3_19 : decode cJ6_getChars_ba4f3 19 = .ok (.iload_n 0, 1) := by decide +kernel
theorem dJ6_getChars_ba4f3_20 : decode cJ6_getChars_ba4f3 20 = .ok (.ineg, 1) := by decide +kernel
theorem dJ6_getChars_ba4f3_21 : decode cJ6_getChars_ba4f3 21 = .ok (.istore_n 0, 1) := by decide +kernel
theorem dJ6_getChars_ba4f3_22 : decode cJ6_getChars_ba4f3 22 = .ok (.iload_n 0, 1) := by decide +kernel
theorem dJ6_getChars_ba4f3_23 : decode cJ6_getChars_ba4f3 23 = .ok (.bipush (-100), 2) := by decide +kernel
theorem dJ6_getChars_ba4f3_25 : decode cJ6_getChars_ba4f3 25 = .ok (.if_icmp .gt 47, 3) := by decide +kernel
theorem dJ6_getChars_ba4f3_28 : decode cJ6_getChars_ba4f3 28 = .ok (.iload_n 0, 1) := by decide +kernel
theorem dJ6_getChars_ba4f3_29 : decode cJ6_getChars_ba4f3 29 = .ok (.bipush 100, 2) := by decide +kernel
theorem dJ6_getChars_ba4f3_31 : decode cJ6_getChars_ba4f3 31 = .ok (.idiv, 1) := by decide +kernel
theorem dJ6_getChars_ba4f3_32 : decode cJ6_getChars_ba4f3 32 = .ok (.istore_n 3, 1) := by decide +kernel
theorem dJ6_getChars_ba4f3_33 : decode cJ6_getChars_ba4f3 33 = .ok (.iload_n 3, 1) := by decide +kernel
theorem dJ6_getChars_ba4f3_34 : decode cJ6_getChars_ba4f3 34 = .ok (.bipush 100, 2) := by decide +kernel
theorem dJ6_getChars_ba4f3_36 : decode cJ6_getChars_ba4f3 36 = .ok (.imul, 1) := by decide +kernel
theorem dJ6_getChars_ba4f3_37 : decode cJ6_getChars_ba4f3 37 = .ok (.iload_n 0, 1) := by decide +kernel
theorem dJ6_getChars_ba4f3_38 : decode cJ6_getChars_ba4f3 38 = .ok (.isub, 1) := by decide +kernel
theorem dJ6_getChars_ba4f3_39 : decode cJ6_getChars_ba4f3 39 = .ok (.istore 4, 2) := by decide +kernel
theorem dJ6_getChars_ba4f3_41 : decode cJ6_getChars_ba4f3 41 = .ok (.iload_n 3, 1) := by decide +kernel
theorem dJ6_getChars_ba4f3_42 : decode cJ6_getChars_ba4f3 42 = .ok (.istore_n 0, 1) := by decide +kernel
theorem dJ6_getChars_ba4f3_43 : decode cJ6_getChars_ba4f3 43 = .ok (.aload_n 2, 1) := by decide +kernel
theorem dJ6_getChars_ba4f3_44 : decode cJ6_getChars_ba4f3 44 = .ok (.iinc 5 (-1), 3) := by decide +kernel
theorem dJ6_getChars_ba4f3_47 : decode cJ6_getChars_ba4f3 47 = .ok (.iload 5, 2) := by decide +kernel
theorem dJ6_getChars_ba4f3_49 : decode cJ6_getChars_ba4f3 49 = .ok (.getstatic 83, 3) := by decide +kernel
theorem dJ6_getChars_ba4f3_52 : decode cJ6_getChars_ba4f3 52 = .ok (.iload 4, 2) := by decide +kernel
theorem dJ6_getChars_ba4f3_54 : decode cJ6_getChars_ba4f3 54 = .ok (.baload, 1) := by decide +kernel
theorem dJ6_getChars_ba4f3_55 : decode cJ6_getChars_ba4f3 55 = .ok (.bastore, 1) := by decide +kernel
theorem dJ6_getChars_ba4f3_56 : decode cJ6_getChars_ba4f3 56 = .ok (.aload_n 2, 1) := by decide +kernel
theorem dJ6_getChars_ba4f3_57 : decode cJ6_getChars_ba4f3 57 = .ok (.iinc 5 (-1), 3) := by decide +kernel
theorem dJ6_getChars_ba4f3_60 : decode cJ6_getChars_ba4f3 60 = .ok (.iload 5, 2) := by decide +kernel
theorem dJ6_getChars_ba4f3_62 : decode cJ6_getChars_ba4f3 62 = .ok (.getstatic 87, 3) := by decide +kernel
theorem dJ6_getChars_ba4f3_65 : decode cJ6_getChars_ba4f3 65 = .ok (.iload 4, 2) := by decide +kernel
theorem dJ6_getChars_ba4f3_67 : decode cJ6_getChars_ba4f3 67 = .ok (.baload, 1) := by decide +kernel
theorem dJ6_getChars_ba4f3_68 : decode cJ6_getChars_ba4f3 68 = .ok (.bastore, 1) := by decide +kernel
theorem dJ6_getChars_ba4f3_69 : decode cJ6_getChars_ba4f3 69 = .ok (.goto (-47), 3) := by decide +kernel
theorem dJ6_getChars_ba4f3_72 : decode cJ6_getChars_ba4f3 72 = .ok (.aload_n 2, 1) := by decide +kernel
theorem dJ6_getChars_ba4f3_73 : decode cJ6_getChars_ba4f3 73 = .ok (.iinc 5 (-1), 3) := by decide +kernel
theorem dJ6_getChars_ba4f3_76 : decode cJ6_getChars_ba4f3 76 = .ok (.iload 5, 2) := by decide +kernel
theorem dJ6_getChars_ba4f3_78 : decode cJ6_getChars_ba4f3 78 = .ok (.getstatic 83, 3) := by decide +kernel
theorem dJ6_getChars_ba4f3_81 : decode cJ6_getChars_ba4f3 81 = .ok (.iload_n 0, 1) := by decide +kernel
theorem dJ6_getChars_ba4f3_82 : decode cJ6_getChars_ba4f3 82 = .ok (.ineg, 1) := by decide +kernel
theorem dJ6_getChars_ba4f3_83 : decode cJ6_getChars_ba4f3 83 = .ok (.baload, 1) := by decide +kernel
theorem dJ6_getChars_ba4f3_84 : decode cJ6_getChars_ba4f3 84 = .ok (.bastore, 1) := by decide +kernel
theorem dJ6_getChars_ba4f3_85 : decode cJ6_getChars_ba4f3 85 = .ok (.iload_n 0, 1) := by decide +kernel
theorem dJ6_getChars_ba4f3_86 : decode cJ6_getChars_ba4f3 86 = .ok (.bipush (-9), 2) := by decide +kernel
theorem dJ6_getChars_ba4f3_88 : decode cJ6_getChars_ba4f3 88 = .ok (.if_icmp .ge 16, 3) := by decide +kernel
theorem dJ6_getChars_ba4f3_91 : decode cJ6_getChars_ba4f3 91 = .ok (.aload_n 2, 1) := by decide +kernel
theorem dJ6_getChars_ba4f3_92 : decode cJ6_getChars_ba4f3 92 = .ok (.iinc 5 (-1), 3) := by decide +kernel
theorem dJ6_getChars_ba4f3_95 : decode cJ6_getChars_ba4f3 95 = .ok (.iload 5, 2) := by decide +kernel
theorem dJ6_getChars_ba4f3_97 : decode cJ6_getChars_ba4f3 97 = .ok (.getstatic 87, 3) := by decide +kernel
theorem dJ6_getChars_ba4f3_100 : decode cJ6_getChars_ba4f3 100 = .ok (.iload_n 0, 1) := by decide +kernel
theorem dJ6_getChars_ba4f3_101 : decode cJ6_getChars_ba4f3 101 = .ok (.ineg, 1) := by decide +kernel
theorem dJ6_getChars_ba4f3_102 : decode cJ6_getChars_ba4f3 102 = .ok (.baload, 1) := by decide +kernel
theorem dJ6_getChars_ba4f3_103 : decode cJ6_getChars_ba4f3 103 = .ok (.bastore, 1) := by decide +kernel
theorem dJ6_getChars_ba4f3_104 : decode cJ6_getChars_ba4f3 104 = .ok (.iload 6, 2) := by decide +kernel
theorem dJ6_getChars_ba4f3_106 : decode cJ6_getChars_ba4f3 106 = .ok (.ifCond .eq 12, 3) := by decide +kernel
theorem dJ6_getChars_ba4f3_109 : decode cJ6_getChars_ba4f3 109 = .ok (.aload_n 2, 1) := by decide +kernel
theorem dJ6_getChars_ba4f3_110 : decode cJ6_getChars_ba4f3 110 = .ok (.iinc 5 (-1), 3) := by decide +kernel
theorem dJ6_getChars_ba4f3_113 : decode cJ6_getChars_ba4f3 113 = .ok (.iload 5, 2) := by decide +kernel
theorem dJ6_getChars_ba4f3_115 : decode cJ6_getChars_ba4f3 115 = .ok (.bipush 45, 2) := by decide +kernel
theorem dJ6_getChars_ba4f3_117 : decode cJ6_getChars_ba4f3 117 = .ok (.bastore, 1) := by decide +kernel
theorem dJ6_getChars_ba4f3_118 : decode cJ6_getChars_ba4f3 118 = .ok (.iload 5, 2) := by decide +kernel
theorem dJ6_getChars_ba4f3_120 : decode cJ6_getChars_ba4f3 120 = .ok (.ireturn, 1) := by decide +kernel
theorem mt_J6_getChars_ba4f3 : pm_Mt yJ6_getChars_ba4f3 cJ6_getChars_ba4f3 7 (some .int) 3 := ⟨pm_T_in 1229 (by decide +kernel) (by decide +kernel), pm_T_in 54 (by decide +kernel) (by decide +kernel), ⟨by decide +kernel, by decide +kernel, by decide +kernel⟩, by decide +kernel, by decide⟩
abbrev cJ5_append_c97b9 : ByteArray := prog_17_method_32_code
def yJ5_append_c97b9 : MethodName := ⟨RJ5, "append", "(I)Ljava/lang/AbstractStringBuilder;"⟩
theorem dJ5_append_c97b9_0 : decode cJ5_append_c97b9 0 = .ok (.aload_n 0, 1) := by decide +kernel
theorem dJ5_append_c97b9_1 : decode cJ5_append_c97b9 1 = .ok (.getfield 79, 3) := by decide +kernel
theorem dJ5_append_c97b9_4 : decode cJ5_append_c97b9 4 = .ok (.istore_n 2, 1) := by decide +kernel
theorem dJ5_append_c97b9_5 : decode cJ5_append_c97b9 5 = .ok (.iload_n 2, 1) := by decide +kernel
theorem dJ5_append_c97b9_6 : decode cJ5_append_c97b9 6 = .ok (.iload_n 1, 1) := by decide +kernel
theorem dJ5_append_c97b9_7 : decode cJ5_append_c97b9 7 = .ok (.invokestatic 245, 3) := by decide +kernel
theorem dJ5_append_c97b9_10 : decode cJ5_append_c97b9 10 = .ok (.iadd, 1) := by decide +kernel
theorem dJ5_append_c97b9_11 : decode cJ5_append_c97b9 11 = .ok (.istore_n 3, 1) := by decide +kernel
theorem dJ5_append_c97b9_12 : decode cJ5_append_c97b9 12 = .ok (.aload_n 0, 1) := by decide +kernel
theorem dJ5_append_c97b9_13 : decode cJ5_append_c97b9 13 = .ok (.iload_n 3, 1) := by decide +kernel
theorem dJ5_append_c97b9_14 : decode cJ5_append_c97b9 14 = .ok (.invokevirtual 100, 3) := by decide +kernel
theorem dJ5_append_c97b9_17 : decode cJ5_append_c97b9 17 = .ok (.aload_n 0, 1) := by decide +kernel
theorem dJ5_append_c97b9_18 : decode cJ5_append_c97b9 18 = .ok (.invokevirtual 83, 3) := by decide +kernel
theorem dJ5_append_c97b9_21 : decode cJ5_append_c97b9 21 = .ok (.ifCond .eq 16, 3) := by decide +kernel
theorem dJ5_append_c97b9_24 : decode cJ5_append_c97b9 24 = .ok (.iload_n 1, 1) := by decide +kernel
theorem dJ5_append_c97b9_25 : decode cJ5_append_c97b9 25 = .ok (.iload_n 3, 1) := by decide +kernel
theorem dJ5_append_c97b9_26 : decode cJ5_append_c97b9 26 = .ok (.aload_n 0, 1) := by decide +kernel
theorem dJ5_append_c97b9_27 : decode cJ5_append_c97b9 27 = .ok (.getfield 15, 3) := by decide +kernel
theorem dJ5_append_c97b9_30 : decode cJ5_append_c97b9 30 = .ok (.invokestatic 248, 3) := by decide +kernel
theorem dJ5_append_c97b9_33 : decode cJ5_append_c97b9 33 = .ok (.pop, 1) := by decide +kernel
theorem dJ5_append_c97b9_34 : decode cJ5_append_c97b9 34 = .ok (.goto 14, 3) := by decide +kernel
theorem dJ5_append_c97b9_37 : decode cJ5_append_c97b9 37 = .ok (.iload_n 1, 1) := by decide +kernel
theorem dJ5_append_c97b9_38 : decode cJ5_append_c97b9 38 = .ok (.iload_n 2, 1) := by decide +kernel
theorem dJ5_append_c97b9_39 : decode cJ5_append_c97b9 39 = .ok (.iload_n 3, 1) := by decide +kernel
theorem dJ5_append_c97b9_40 : decode cJ5_append_c97b9 40 = .ok (.aload_n 0, 1) := by decide +kernel
theorem dJ5_append_c97b9_41 : decode cJ5_append_c97b9 41 = .ok (.getfield 15, 3) := by decide +kernel
theorem dJ5_append_c97b9_44 : decode cJ5_append_c97b9 44 = .ok (.invokestatic 251, 3) := by decide +kernel
theorem dJ5_append_c97b9_47 : decode cJ5_append_c97b9 47 = .ok (.pop, 1) := by decide +kernel
theorem dJ5_append_c97b9_48 : decode cJ5_append_c97b9 48 = .ok (.aload_n 0, 1) := by decide +kernel
theorem dJ5_append_c97b9_49 : decode cJ5_append_c97b9 49 = .ok (.iload_n 3, 1) := by decide +kernel
theorem dJ5_append_c97b9_50 : decode cJ5_append_c97b9 50 = .ok (.putfield 79, 3) := by decide +kernel
theorem dJ5_append_c97b9_53 : decode cJ5_append_c97b9 53 = .ok (.aload_n 0, 1) := by decide +kernel
theorem dJ5_append_c97b9_54 : decode cJ5_append_c97b9 54 = .ok (.areturn, 1) := by decide +kernel
theorem mt_J5_append_c97b9 : pm_Mt yJ5_append_c97b9 cJ5_append_c97b9 4 (some (.object "java/lang/AbstractStringBuilder")) 1 := ⟨pm_T_in 1189 (by decide +kernel) (by decide +kernel), pm_T_in 45 (by decide +kernel) (by decide +kernel), ⟨by decide +kernel, by decide +kernel, by decide +kernel⟩, by decide +kernel, by decide⟩
abbrev cJ5_setLength_d00df : ByteArray := prog_17_method_13_code
def yJ5_setLength_d00df : MethodName := ⟨RJ5, "setLength", "(I)V"⟩
theorem dJ5_setLength_d00df_0 : decode cJ5_setLength_d00df 0 = .ok (.iload_n 1, 1) := by decide +kernel
theorem dJ5_setLength_d00df_1 : decode cJ5_setLength_d00df 1 = .ok (.ifCond .ge 12, 3) := by decide +kernel
theorem dJ5_setLength_d00df_4 : decode cJ5_setLength_d00df 4 = .ok (.new 129, 3) := by decide +kernel
theorem dJ5_setLength_d00df_7 : decode cJ5_setLength_d00df 7 = .ok (.dup, 1) := by decide +kernel
theorem dJ5_setLength_d00df_8 : decode cJ5_setLength_d00df 8 = .ok (.iload_n 1, 1) := by decide +kernel
theorem dJ5_setLength_d00df_9 : decode cJ5_setLength_d00df 9 = .ok (.invokespecial 131, 3) := by decide +kernel
theorem dJ5_setLength_d00df_12 : decode cJ5_setLength_d00df 12 = .ok (.athrow, 1) := by decide +kernel
theorem dJ5_setLength_d00df_13 : decode cJ5_setLength_d00df 13 = .ok (.aload_n 0, 1) := by decide +kernel
theorem dJ5_setLength_d00df_14 : decode cJ5_setLength_d00df 14 = .ok (.iload_n 1, 1) := by decide +kernel
theorem dJ5_setLength_d00df_15 : decode cJ5_setLength_d00df 15 = .ok (.invokevirtual 100, 3) := by decide +kernel
theorem dJ5_setLength_d00df_18 : decode cJ5_setLength_d00df 18 = .ok (.aload_n 0, 1) := by decide +kernel
theorem dJ5_setLength_d00df_19 : decode cJ5_setLength_d00df 19 = .ok (.getfield 79, 3) := by decide +kernel
theorem dJ5_setLength_d00df_22 : decode cJ5_setLength_d00df 22 = .ok (.iload_n 1, 1) := by decide +kernel
theorem dJ5_setLength_d00df_23 : decode cJ5_setLength_d00df 23 = .ok (.if_icmp .ge 40, 3) := by decide +kernel
theorem dJ5_setLength_d00df_26 : decode cJ5_setLength_d00df 26 = .ok (.aload_n 0, 1) := by decide +kernel
theorem dJ5_setLength_d00df_27 : decode cJ5_setLength_d00df 27 = .ok (.invokevirtual 83, 3) := by decide +kernel
theorem dJ5_setLength_d00df_30 : decode cJ5_setLength_d00df 30 = .ok (.ifCond .eq 18, 3) := by decide +kernel
theorem dJ5_setLength_d00df_33 : decode cJ5_setLength_d00df 33 = .ok (.aload_n 0, 1) := by decide +kernel
theorem dJ5_setLength_d00df_34 : decode cJ5_setLength_d00df 34 = .ok (.getfield 15, 3) := by decide +kernel
theorem dJ5_setLength_d00df_37 : decode cJ5_setLength_d00df 37 = .ok (.aload_n 0, 1) := by decide +kernel
theorem dJ5_setLength_d00df_38 : decode cJ5_setLength_d00df 38 = .ok (.getfield 79, 3) := by decide +kernel
theorem dJ5_setLength_d00df_41 : decode cJ5_setLength_d00df 41 = .ok (.iload_n 1, 1) := by decide +kernel
theorem dJ5_setLength_d00df_42 : decode cJ5_setLength_d00df 42 = .ok (.invokestatic 133, 3) := by decide +kernel
theorem dJ5_setLength_d00df_45 : decode cJ5_setLength_d00df 45 = .ok (.goto 31, 3) := by decide +kernel
theorem dJ5_setLength_d00df_48 : decode cJ5_setLength_d00df 48 = .ok (.aload_n 0, 1) := by decide +kernel
theorem dJ5_setLength_d00df_49 : decode cJ5_setLength_d00df 49 = .ok (.getfield 15, 3) := by decide +kernel
theorem dJ5_setLength_d00df_52 : decode cJ5_setLength_d00df 52 = .ok (.aload_n 0, 1) := by decide +kernel
theorem dJ5_setLength_d00df_53 : decode cJ5_setLength_d00df 53 = .ok (.getfield 79, 3) := by decide +kernel
theorem dJ5_setLength_d00df_56 : decode cJ5_setLength_d00df 56 = .ok (.iload_n 1, 1) := by decide +kernel
theorem dJ5_setLength_d00df_57 : decode cJ5_setLength_d00df 57 = .ok (.invokestatic 137, 3) := by decide +kernel
theorem dJ5_setLength_d00df_60 : decode cJ5_setLength_d00df 60 = .ok (.goto 16, 3) := by decide +kernel
theorem dJ5_setLength_d00df_63 : decode cJ5_setLength_d00df 63 = .ok (.aload_n 0, 1) := by decide +kernel
theorem dJ5_setLength_d00df_64 : decode cJ5_setLength_d00df 64 = .ok (.getfield 79, 3) := by decide +kernel
theorem dJ5_setLength_d00df_67 : decode cJ5_setLength_d00df 67 = .ok (.iload_n 1, 1) := by decide +kernel
theorem dJ5_setLength_d00df_68 : decode cJ5_setLength_d00df 68 = .ok (.if_icmp .le 8, 3) := by decide +kernel
theorem dJ5_setLength_d00df_71 : decode cJ5_setLength_d00df 71 = .ok (.aload_n 0, 1) := by decide +kernel
theorem dJ5_setLength_d00df_72 : decode cJ5_setLength_d00df 72 = .ok (.iconst 1, 1) := by decide +kernel
theorem dJ5_setLength_d00df_73 : decode cJ5_setLength_d00df 73 = .ok (.putfield 73, 3) := by decide +kernel
theorem dJ5_setLength_d00df_76 : decode cJ5_setLength_d00df 76 = .ok (.aload_n 0, 1) := by decide +kernel
theorem dJ5_setLength_d00df_77 : decode cJ5_setLength_d00df 77 = .ok (.iload_n 1, 1) := by decide +kernel
theorem dJ5_setLength_d00df_78 : decode cJ5_setLength_d00df 78 = .ok (.putfield 79, 3) := by decide +kernel
theorem dJ5_setLength_d00df_81 : decode cJ5_setLength_d00df 81 = .ok (.return_, 1) := by decide +kernel
theorem mt_J5_setLength_d00df : pm_Mt yJ5_setLength_d00df cJ5_setLength_d00df 2 none 1 := ⟨pm_T_in 1403 (by decide +kernel) (by decide +kernel), pm_T_in 45 (by decide +kernel) (by decide +kernel), ⟨by decide +kernel, by decide +kernel, by decide +kernel⟩, by decide +kernel, by decide⟩
abbrev cJ5_length_8abf5 : ByteArray := prog_17_method_6_code
def yJ5_length_8abf5 : MethodName := ⟨RJ5, "length", "()I"⟩
theorem dJ5_length_8abf5_0 : decode cJ5_length_8abf5 0 = .ok (.aload_n 0, 1) := by decide +kernel
theorem dJ5_length_8abf5_1 : decode cJ5_length_8abf5 1 = .ok (.getfield 79, 3) := by decide +kernel
theorem dJ5_length_8abf5_4 : decode cJ5_length_8abf5 4 = .ok (.ireturn, 1) := by decide +kernel
theorem mt_J5_length_8abf5 : pm_Mt yJ5_length_8abf5 cJ5_length_8abf5 1 (some .int) 0 := ⟨pm_T_in 1349 (by decide +kernel) (by decide +kernel), pm_T_in 45 (by decide +kernel) (by decide +kernel), ⟨by decide +kernel, by decide +kernel, by decide +kernel⟩, by decide +kernel, by decide⟩
abbrev cJ5_charAt_5068e : ByteArray := prog_17_method_14_code
def yJ5_charAt_5068e : MethodName := ⟨RJ5, "charAt", "(I)C"⟩
theorem dJ5_charAt_5068e_0 : decode cJ5_charAt_5068e 0 = .ok (.aload_n 0, 1) := by decide +kernel
theorem dJ5_charAt_5068e_1 : decode cJ5_charAt_5068e 1 = .ok (.getfield 22, 3) := by decide +kernel
theorem dJ5_charAt_5068e_4 : decode cJ5_charAt_5068e 4 = .ok (.istore_n 2, 1) := by decide +kernel
theorem dJ5_charAt_5068e_5 : decode cJ5_charAt_5068e 5 = .ok (.aload_n 0, 1) := by decide +kernel
theorem dJ5_charAt_5068e_6 : decode cJ5_charAt_5068e 6 = .ok (.getfield 15, 3) := by decide +kernel
theorem dJ5_charAt_5068e_9 : decode cJ5_charAt_5068e 9 = .ok (.astore_n 3, 1) := by decide +kernel
theorem dJ5_charAt_5068e_10 : decode cJ5_charAt_5068e 10 = .ok (.aload_n 0, 1) := by decide +kernel
theorem dJ5_charAt_5068e_11 : decode cJ5_charAt_5068e 11 = .ok (.getfield 79, 3) := by decide +kernel
theorem dJ5_charAt_5068e_14 : decode cJ5_charAt_5068e 14 = .ok (.aload_n 3, 1) := by decide +kernel
theorem dJ5_charAt_5068e_15 : decode cJ5_charAt_5068e 15 = .ok (.arraylength, 1) := by decide +kernel
theorem dJ5_charAt_5068e_16 : decode cJ5_charAt_5068e 16 = .ok (.iload_n 2, 1) := by decide +kernel
theorem dJ5_charAt_5068e_17 : decode cJ5_charAt_5068e 17 = .ok (.ishr, 1) := by decide +kernel
theorem dJ5_charAt_5068e_18 : decode cJ5_charAt_5068e 18 = .ok (.invokestatic 138, 3) := by decide +kernel
theorem dJ5_charAt_5068e_21 : decode cJ5_charAt_5068e 21 = .ok (.istore 4, 2) := by decide +kernel
theorem dJ5_charAt_5068e_23 : decode cJ5_charAt_5068e 23 = .ok (.iload_n 1, 1) := by decide +kernel
theorem dJ5_charAt_5068e_24 : decode cJ5_charAt_5068e 24 = .ok (.iload 4, 2) := by decide +kernel
theorem dJ5_charAt_5068e_26 : decode cJ5_charAt_5068e 26 = .ok (.invokestatic 144, 3) := by decide +kernel
theorem dJ5_charAt_5068e_29 : decode cJ5_charAt_5068e 29 = .ok (.iload_n 2, 1) := by decide +kernel
theorem dJ5_charAt_5068e_30 : decode cJ5_charAt_5068e 30 = .ok (.ifCond .ne 12, 3) := by decide +kernel
theorem dJ5_charAt_5068e_33 : decode cJ5_charAt_5068e 33 = .ok (.aload_n 3, 1) := by decide +kernel
theorem dJ5_charAt_5068e_34 : decode cJ5_charAt_5068e 34 = .ok (.iload_n 1, 1) := by decide +kernel
theorem dJ5_charAt_5068e_35 : decode cJ5_charAt_5068e 35 = .ok (.baload, 1) := by decide +kernel
theorem dJ5_charAt_5068e_36 : decode cJ5_charAt_5068e 36 = .ok (.sipush 255, 3) := by decide +kernel
theorem dJ5_charAt_5068e_39 : decode cJ5_charAt_5068e 39 = .ok (.iand, 1) := by decide +kernel
theorem dJ5_charAt_5068e_40 : decode cJ5_charAt_5068e 40 = .ok (.i2c, 1) := by decide +kernel
theorem dJ5_charAt_5068e_41 : decode cJ5_charAt_5068e 41 = .ok (.ireturn, 1) := by decide +kernel
theorem dJ5_charAt_5068e_42 : decode cJ5_charAt_5068e 42 = .ok (.aload_n 3, 1) := by decide +kernel
theorem dJ5_charAt_5068e_43 : decode cJ5_charAt_5068e 43 = .ok (.iload_n 1, 1) := by decide +kernel
theorem dJ5_charAt_5068e_44 : decode cJ5_charAt_5068e 44 = .ok (.invokestatic 148, 3) := by decide +kernel
theorem dJ5_charAt_5068e_47 : decode cJ5_charAt_5068e 47 = .ok (.ireturn, 1) := by decide +kernel
theorem mt_J5_charAt_5068e : pm_Mt yJ5_charAt_5068e cJ5_charAt_5068e 5 (some .char) 1 := ⟨pm_T_in 1491 (by decide +kernel) (by decide +kernel), pm_T_in 45 (by decide +kernel) (by decide +kernel), ⟨by decide +kernel, by decide +kernel, by decide +kernel⟩, by decide +kernel, by decide⟩
abbrev cJ4_append_cf468 : ByteArray := prog_34_method_14_code
def yJ4_append_cf468 : MethodName := ⟨RJ4, "append", "(C)Ljava/lang/StringBuilder;"⟩
theorem dJ4_append_cf468_0 : decode cJ4_append_cf468 0 = .ok (.aload_n 0, 1) := by decide +kernel
theorem dJ4_append_cf468_1 : decode cJ4_append_cf468 1 = .ok (.iload_n 1, 1) := by decide +kernel
theorem dJ4_append_cf468_2 : decode cJ4_append_cf468 2 = .ok (.invokespecial 50, 3) := by decide +kernel
theorem dJ4_append_cf468_5 : decode cJ4_append_cf468 5 = .ok (.pop, 1) := by decide +kernel
theorem dJ4_append_cf468_6 : decode cJ4_append_cf468 6 = .ok (.aload_n 0, 1) := by decide +kernel
theorem dJ4_append_cf468_7 : decode cJ4_append_cf468 7 = .ok (.areturn, 1) := by decide +kernel
theorem mt_J4_append_cf468 : pm_Mt yJ4_append_cf468 cJ4_append_cf468 2 (some (.object "java/lang/StringBuilder")) 1 := ⟨pm_T_in 1453 (by decide +kernel) (by decide +kernel), pm_T_in 46 (by decide +kernel) (by decide +kernel), ⟨by decide +kernel, by decide +kernel, by decide +kernel⟩, by decide +kernel, by decide⟩
abbrev cJ4_append_bf812 : ByteArray := prog_34_method_15_code
def yJ4_append_bf812 : MethodName := ⟨RJ4, "append", "(I)Ljava/lang/StringBuilder;"⟩
theorem dJ4_append_bf812_0 : decode cJ4_append_bf812 0 = .ok (.aload_n 0, 1) := by decide +kernel
theorem dJ4_append_bf812_1 : decode cJ4_append_bf812 1 = .ok (.iload_n 1, 1) := by decide +kernel
theorem dJ4_append_bf812_2 : decode cJ4_append_bf812 2 = .ok (.invokespecial 53, 3) := by decide +kernel
theorem dJ4_append_bf812_5 : decode cJ4_append_bf812 5 = .ok (.pop, 1) := by decide +kernel
theorem dJ4_append_bf812_6 : decode cJ4_append_bf812 6 = .ok (.aload_n 0, 1) := by decide +kernel
theorem dJ4_append_bf812_7 : decode cJ4_append_bf812 7 = .ok (.areturn, 1) := by decide +kernel
theorem mt_J4_append_bf812 : pm_Mt yJ4_append_bf812 cJ4_append_bf812 2 (some (.object "java/lang/StringBuilder")) 1 := ⟨pm_T_in 1186 (by decide +kernel) (by decide +kernel), pm_T_in 46 (by decide +kernel) (by decide +kernel), ⟨by decide +kernel, by decide +kernel, by decide +kernel⟩, by decide +kernel, by decide⟩
abbrev cJ4_setLength_d00df : ByteArray := prog_34_method_89_code
def yJ4_setLength_d00df : MethodName := ⟨RJ4, "setLength", "(I)V"⟩
theorem dJ4_setLength_d00df_0 : decode cJ4_setLength_d00df 0 = .ok (.aload_n 0, 1) := by decide +kernel
theorem dJ4_setLength_d00df_1 : decode cJ4_setLength_d00df 1 = .ok (.iload_n 1, 1) := by decide +kernel
theorem dJ4_setLength_d00df_2 : decode cJ4_setLength_d00df 2 = .ok (.invokespecial 333, 3) := by decide +kernel
theorem dJ4_setLength_d00df_5 : decode cJ4_setLength_d00df 5 = .ok (.return_, 1) := by decide +kernel
theorem mt_J4_setLength_d00df : pm_Mt yJ4_setLength_d00df cJ4_setLength_d00df 2 none 1 := ⟨pm_T_in 1400 (by decide +kernel) (by decide +kernel), pm_T_in 46 (by decide +kernel) (by decide +kernel), ⟨by decide +kernel, by decide +kernel, by decide +kernel⟩, by decide +kernel, by decide⟩
abbrev cJ4_length_8abf5 : ByteArray := prog_34_method_93_code
def yJ4_length_8abf5 : MethodName := ⟨RJ4, "length", "()I"⟩
theorem dJ4_length_8abf5_0 : decode cJ4_length_8abf5 0 = .ok (.aload_n 0, 1) := by decide +kernel
theorem dJ4_length_8abf5_1 : decode cJ4_length_8abf5 1 = .ok (.invokespecial 343, 3) := by decide +kernel
theorem dJ4_length_8abf5_4 : decode cJ4_length_8abf5 4 = .ok (.ireturn, 1) := by decide +kernel
theorem mt_J4_length_8abf5 : pm_Mt yJ4_length_8abf5 cJ4_length_8abf5 1 (some .int) 0 := ⟨pm_T_in 1347 (by decide +kernel) (by decide +kernel), pm_T_in 46 (by decide +kernel) (by decide +kernel), ⟨by decide +kernel, by decide +kernel, by decide +kernel⟩, by decide +kernel, by decide⟩
abbrev cJ4_charAt_5068e : ByteArray := prog_34_method_88_code
def yJ4_charAt_5068e : MethodName := ⟨RJ4, "charAt", "(I)C"⟩
theorem dJ4_charAt_5068e_0 : decode cJ4_charAt_5068e 0 = .ok (.aload_n 0, 1) := by decide +kernel
theorem dJ4_charAt_5068e_1 : decode cJ4_charAt_5068e 1 = .ok (.iload_n 1, 1) := by decide +kernel
theorem dJ4_charAt_5068e_2 : decode cJ4_charAt_5068e 2 = .ok (.invokespecial 329, 3) := by decide +kernel
theorem dJ4_charAt_5068e_5 : decode cJ4_charAt_5068e 5 = .ok (.ireturn, 1) := by decide +kernel
theorem mt_J4_charAt_5068e : pm_Mt yJ4_charAt_5068e cJ4_charAt_5068e 2 (some .char) 1 := ⟨pm_T_in 1488 (by decide +kernel) (by decide +kernel), pm_T_in 46 (by decide +kernel) (by decide +kernel), ⟨by decide +kernel, by decide +kernel, by decide +kernel⟩, by decide +kernel, by decide⟩
theorem fl_J5_15 : pm_Fl RJ5 15 12 0 := ⟨by decide, co_J4, by decide +kernel, pm_T_in 319 (by decide +kernel) (by decide +kernel)⟩
theorem fl_J5_22 : pm_Fl RJ5 22 12 1 := ⟨by decide, co_J4, by decide +kernel, pm_T_in 320 (by decide +kernel) (by decide +kernel)⟩
theorem fl_J5_73 : pm_Fl RJ5 73 12 2 := ⟨by decide, co_J4, by decide +kernel, pm_T_in 321 (by decide +kernel) (by decide +kernel)⟩
theorem fs_J5_73 : pm_Fs RJ5 73 12 2 (.boolean) := ⟨fl_J5_73, rfl, by decide +kernel⟩
theorem fl_J5_79 : pm_Fl RJ5 79 12 3 := ⟨by decide, co_J4, by decide +kernel, pm_T_in 323 (by decide +kernel) (by decide +kernel)⟩
theorem fs_J5_79 : pm_Fs RJ5 79 12 3 (.int) := ⟨fl_J5_79, rfl, by decide +kernel⟩
theorem pm_nb : ∀ k, k < 128 → vp_nar .byte (nI k) = nI k := by decide +kernel
theorem pm_tb8 : ∀ k, k < 128 → (nI k).toInt8.toInt32 = nI k := by decide +kernel
theorem pm_dec (n : Nat) : nI (n + 1) + Int32.ofInt (-1) = nI n := by
  rw [nI_add n 1 |>.symm, show nI 1 = (1 : Int32) from rfl, show (Int32.ofInt (-1)) = (-1 : Int32) from rfl, Int32.add_assoc, show (1 : Int32) + (-1) = 0 from rfl, Int32.add_zero]
theorem pm_n10 : ∀ q, q < 1000 → (-(nI q) ≤ (-10 : Int32) ↔ 10 ≤ q) ∧ (-(nI q) ≤ (-100 : Int32) ↔ 100 ≤ q) ∧ ¬ (-(nI q) ≤ (-1000 : Int32)) ∧ ((-9 : Int32) ≤ -(nI q) ↔ q < 10) ∧ ((-100 : Int32) < -(nI q) ↔ q < 100) ∧ -(nI q) / 100 = -(nI (q / 100)) ∧ -(nI (q / 100)) * 100 - -(nI q) = nI (q % 100) := by decide +kernel
set_option maxRecDepth 100000 in
set_option maxHeartbeats 4000000 in
theorem c_J5_isLatin1_aae02 {l : Launch} {z : Nat} {D : va_G} {kA : Nat → ClassId} {kE : Nat → Nat} {nx : Nat} {M : pm_M} {a b c : Nat} {ml : Int32} (hM : M a = some (.inr (12, [.ref (z + b), .int 0, .int ml, .int (nI c)]))) : pm_C l z D kA kE yJ5_isLatin1_aae02 cJ5_isLatin1_aae02 1 (some .boolean) 0 0 0 [.ref (z + a)] nx M (pm_rt (some (.int 1)) nx M) := by
  refine pm_mk (own := RJ5) (nm := "isLatin1") mt_J5_isLatin1_aae02 rfl rfl rfl rfl fun X B => ?_
  refine pm_loc (L' := [some (.ref (z + a))]) rfl ?_
  refine pm_gets B (v := .int 1) (fun U H h => h.2.2.2.2.1) (pm_T_in 310 (by decide +kernel) (by decide +kernel)) dJ5_isLatin1_aae02_0 ?_
  refine pm_if_eq (tgt := 17) B dJ5_isLatin1_aae02_3 (by decide) (fun hq1 => absurd hq1 (by decide)) (fun hq1 => ?_)
  refine pm_aload_n B dJ5_isLatin1_aae02_6 rfl ?_
  refine pm_get B dJ5_isLatin1_aae02_7 fl_J5_22 hM rfl ?_
  refine pm_if_ne (tgt := 17) B dJ5_isLatin1_aae02_10 (by decide) (fun hq2 => absurd (by decide) hq2) (fun hq2 => ?_)
  refine pm_iconst (v := 1) B dJ5_isLatin1_aae02_13 (by decide) ?_
  refine pm_goto (tgt := 18) B dJ5_isLatin1_aae02_14 (by decide) ?_
  exact pm_ireturn B dJ5_isLatin1_aae02_18 rfl (by first | rfl | (apply pm_nz; first | assumption | decide | exact pm_in01 _ _ _ | simp)) ⟨rfl, rfl, rfl⟩ rfl rfl
theorem pm_le16 : ∀ x, x ≤ 16 → nI x - nI 16 ≤ 0 := fun x hx => (by decide +kernel : ∀ x, x < 17 → nI x - nI 16 ≤ 0) x (by omega)
theorem pm_le255 : ∀ q, q < 128 → ¬ 255 < nI q := by decide +kernel
theorem pm_lt0 {x : Nat} (h : x < 2147483648) : ¬ nI x < 0 := nI_pos (by omega)
set_option maxRecDepth 100000 in
set_option maxHeartbeats 4000000 in
theorem c_J5_ensureCapacityInternal_d00df {l : Launch} {z : Nat} {D : va_G} {kA : Nat → ClassId} {kE : Nat → Nat} {nx : Nat} {M : pm_M} {a b c : Nat} {ml : Int32} {f : Nat → Int32} (hM : M a = some (.inr (12, [.ref (z + b), .int 0, .int ml, .int (nI c)]))) (hB : M b = some (.inl (kA 4, 16, .inl f))) {x : Nat} (hx : x ≤ 16) : pm_C l z D kA kE yJ5_ensureCapacityInternal_d00df cJ5_ensureCapacityInternal_d00df 3 none 0 0 0 [.ref (z + a), .int (nI x)] nx M (pm_rt none nx M) := by
  refine pm_mk (own := RJ5) (nm := "ensureCapacityInternal") mt_J5_ensureCapacityInternal_d00df rfl rfl rfl rfl fun X B => ?_
  refine pm_loc (L' := [some (.ref (z + a)), some (.int (nI x)), none]) rfl ?_
  refine pm_aload_n B dJ5_ensureCapacityInternal_d00df_0 rfl ?_
  refine pm_get B dJ5_ensureCapacityInternal_d00df_1 fl_J5_15 hM rfl ?_
  refine pm_alen B dJ5_ensureCapacityInternal_d00df_4 hB rfl rfl ?_
  refine pm_stk (st' := [.int (nI 16)]) rfl ?_
  refine pm_aload_n B dJ5_ensureCapacityInternal_d00df_5 rfl ?_
  refine pm_get B dJ5_ensureCapacityInternal_d00df_6 fl_J5_22 hM rfl ?_
  refine pm_ishr B dJ5_ensureCapacityInternal_d00df_9 ?_
  refine pm_stk (st' := [.int (nI 16)]) (by rw [show ((nI 16) >>> (0 &&& 31)) = (nI 16) from pm_shr0 _ (by first | omega | decide)]) ?_
  refine pm_istore_n B dJ5_ensureCapacityInternal_d00df_10 rfl rfl ?_
  refine pm_loc (L' := [some (.ref (z + a)), some (.int (nI x)), some (.int (nI 16))]) rfl ?_
  refine pm_iload_n B dJ5_ensureCapacityInternal_d00df_11 rfl ?_
  refine pm_iload_n B dJ5_ensureCapacityInternal_d00df_12 rfl ?_
  refine pm_isub B dJ5_ensureCapacityInternal_d00df_13 ?_
  refine pm_if_le (tgt := 38) B dJ5_ensureCapacityInternal_d00df_14 (by decide) (fun hq1 => ?_) (fun hq1 => absurd (pm_le16 x hx) hq1)
  exact pm_return B dJ5_ensureCapacityInternal_d00df_38 rfl ⟨rfl, rfl, rfl⟩ rfl rfl
set_option maxRecDepth 100000 in
set_option maxHeartbeats 4000000 in
theorem c_J1_canEncode_fc78d {l : Launch} {z : Nat} {D : va_G} {kA : Nat → ClassId} {kE : Nat → Nat} {nx : Nat} {M : pm_M} {q : Nat} (hq : q < 128) : pm_C l z D kA kE yJ1_canEncode_fc78d cJ1_canEncode_fc78d 1 (some .boolean) 0 0 0 [.int (nI q)] nx M (pm_rt (some (.int 1)) nx M) := by
  refine pm_mk (own := RJ1) (nm := "canEncode") mt_J1_canEncode_fc78d rfl rfl rfl rfl fun X B => ?_
  refine pm_loc (L' := [some (.int (nI q))]) rfl ?_
  refine pm_iload_n B dJ1_canEncode_fc78d_0 rfl ?_
  refine pm_sipush (v := 255) B dJ1_canEncode_fc78d_1 (by decide) ?_
  refine pm_icmp_gt (tgt := 11) B dJ1_canEncode_fc78d_4 (by decide) (fun hq1 => absurd hq1 (pm_le255 q hq)) (fun hq1 => ?_)
  refine pm_iconst (v := 1) B dJ1_canEncode_fc78d_7 (by decide) ?_
  refine pm_goto (tgt := 12) B dJ1_canEncode_fc78d_8 (by decide) ?_
  exact pm_ireturn B dJ1_canEncode_fc78d_12 rfl (by first | rfl | (apply pm_nz; first | assumption | decide | exact pm_in01 _ _ _ | simp)) ⟨rfl, rfl, rfl⟩ rfl rfl
theorem sp_J5_100 : pm_SP RJ5 100 "java/lang/StringBuilder" "java/lang/AbstractStringBuilder" yJ5_ensureCapacityInternal_d00df := ⟨pm_T_in 1193 (by decide +kernel) (by decide +kernel), pm_T_in 1195 (by decide +kernel) (by decide +kernel), by decide +kernel, pm_T_in 332 (by decide +kernel) (by decide +kernel), pm_T_in 1610 (by decide +kernel) (by decide +kernel)⟩
theorem su_J5_83 : pm_SU RJ5 83 "java/lang/StringBuilder" "java/lang/AbstractStringBuilder" yJ5_isLatin1_aae02 yJ5_isLatin1_aae02 := ⟨pm_T_in 1222 (by decide +kernel) (by decide +kernel), pm_T_in 1224 (by decide +kernel) (by decide +kernel), pm_T_in 1225 (by decide +kernel) (by decide +kernel), pm_T_in 1223 (by decide +kernel) (by decide +kernel), rfl⟩
theorem ss_J5_191 : pm_SS RJ5 191 yJ1_canEncode_fc78d := ⟨pm_T_in 1457 (by decide +kernel) (by decide +kernel), pm_T_in 1458 (by decide +kernel) (by decide +kernel)⟩
set_option maxRecDepth 100000 in
set_option maxHeartbeats 4000000 in
theorem c_J5_append_3fe6f {l : Launch} {z : Nat} {D : va_G} {kA : Nat → ClassId} {kE : Nat → Nat} {nx : Nat} {M : pm_M} {a b c : Nat} {ml : Int32} {f : Nat → Int32} (hM : M a = some (.inr (12, [.ref (z + b), .int 0, .int ml, .int (nI c)]))) (hB : M b = some (.inl (kA 4, 16, .inl f))) (hab : a ≠ b) {q : Nat} (hq : q < 128) (hc : c < 16) : pm_C l z D kA kE yJ5_append_3fe6f cJ5_append_3fe6f 2 (some (.object "java/lang/AbstractStringBuilder")) 1 0 0 [.ref (z + a), .int (nI q)] nx M (pm_rt (some (.ref (z + a))) nx (pm_up (pm_up M a (.inr (12, [.ref (z + b), .int 0, .int ml, .int (nI (c + 1))]))) b (.inl (kA 4, 16, .inl (upd f c (nI q)))))) := by
  refine pm_mk (own := RJ5) (nm := "append") mt_J5_append_3fe6f rfl rfl rfl rfl fun X B => ?_
  refine pm_loc (L' := [some (.ref (z + a)), some (.int (nI q))]) rfl ?_
  refine pm_aload_n B dJ5_append_3fe6f_0 rfl ?_
  refine pm_aload_n B dJ5_append_3fe6f_1 rfl ?_
  refine pm_get B dJ5_append_3fe6f_2 fl_J5_79 hM rfl ?_
  refine pm_iconst (v := 1) B dJ5_append_3fe6f_5 (by decide) ?_
  refine pm_iadd B dJ5_append_3fe6f_6 ?_
  refine pm_stk (st' := [.int (nI (c + 1)), .ref (z + a)]) (by rw [show ((nI c) + 1) = (nI (c + 1)) from (by rw [show (nI c) = nI c from rfl, show 1 = nI 1 from rfl, nI_add])]) ?_
  refine pm_cP (As := [.int (nI (c + 1))]) (mc2 := 0) (ms2 := 0) B rfl hM rfl (c_J5_ensureCapacityInternal_d00df (x := (c + 1)) hM hB (by omega)) mt_J5_ensureCapacityInternal_d00df sp_J5_100 dJ5_append_3fe6f_7 rfl rfl rfl rfl rfl ?_
  refine pm_stk (st' := []) rfl ?_
  refine pm_aload_n B dJ5_append_3fe6f_10 rfl ?_
  refine pm_cUM (As := []) (mc2 := 0) (ms2 := 0) B rfl hM rfl (c_J5_isLatin1_aae02 hM) mt_J5_isLatin1_aae02 su_J5_83 dJ5_append_3fe6f_11 rfl rfl rfl rfl rfl ?_
  refine pm_stk (st' := [.int 1]) rfl ?_
  refine pm_if_eq (tgt := 45) B dJ5_append_3fe6f_14 (by decide) (fun hq1 => absurd hq1 (by decide)) (fun hq1 => ?_)
  refine pm_iload_n B dJ5_append_3fe6f_17 rfl ?_
  refine pm_cS (As := [.int (nI q)]) (mc2 := 0) (ms2 := 0) B (c_J1_canEncode_fc78d (by omega)) mt_J1_canEncode_fc78d ss_J5_191 dJ5_append_3fe6f_18 rfl rfl rfl rfl rfl ?_
  refine pm_stk (st' := [.int 1]) rfl ?_
  refine pm_if_eq (tgt := 45) B dJ5_append_3fe6f_21 (by decide) (fun hq2 => absurd hq2 (by decide)) (fun hq2 => ?_)
  refine pm_aload_n B dJ5_append_3fe6f_24 rfl ?_
  refine pm_get B dJ5_append_3fe6f_25 fl_J5_15 hM rfl ?_
  refine pm_aload_n B dJ5_append_3fe6f_28 rfl ?_
  refine pm_dup B dJ5_append_3fe6f_29 rfl ?_
  refine pm_get B dJ5_append_3fe6f_30 fl_J5_79 hM rfl ?_
  refine pm_dup_x1 B dJ5_append_3fe6f_33 rfl rfl ?_
  refine pm_iconst (v := 1) B dJ5_append_3fe6f_34 (by decide) ?_
  refine pm_iadd B dJ5_append_3fe6f_35 ?_
  refine pm_stk (st' := [.int (nI (c + 1)), .ref (z + a), .int (nI c), .ref (z + b)]) (by rw [show ((nI c) + 1) = (nI (c + 1)) from (by rw [show (nI c) = nI c from rfl, show 1 = nI 1 from rfl, nI_add])]) ?_
  refine pm_put B dJ5_append_3fe6f_36 fs_J5_79 hM rfl rfl rfl ?_
  refine pm_mem (M' := pm_up M a (.inr (12, [.ref (z + b), .int 0, .int ml, .int (nI (c + 1))]))) rfl ?_
  refine pm_iload_n B dJ5_append_3fe6f_39 rfl ?_
  refine pm_i2b B (v := (nI q)) dJ5_append_3fe6f_40 (pm_tb8 _ (by omega)) ?_
  refine pm_bast_n B (v := (nI q)) (pm_nb _ (by omega)) dJ5_append_3fe6f_41 ((pm_up_n (Ne.symm hab)).trans hB) c (by first | assumption | omega) (by decide) ?_
  refine pm_mem (M' := pm_up (pm_up M a (.inr (12, [.ref (z + b), .int 0, .int ml, .int (nI (c + 1))]))) b (.inl (kA 4, 16, .inl (upd f c (nI q))))) rfl ?_
  refine pm_goto (tgt := 75) B dJ5_append_3fe6f_42 (by decide) ?_
  refine pm_aload_n B dJ5_append_3fe6f_75 rfl ?_
  exact pm_areturn B dJ5_append_3fe6f_76 rfl (Or.inl ⟨_, rfl⟩) (by first | exact Or.inl rfl | exact Or.inr ⟨_, rfl⟩) ⟨rfl, rfl, rfl⟩ rfl rfl
theorem pm_ge0 {x : Nat} (h : x < 2147483648) : (0 : Int32) ≤ nI x := Int32.not_lt.mp (nI_pos (by omega))
theorem pm_min16 : ∀ c, c < 17 → pm_min (nI c) (nI 16) = nI c := by decide +kernel
theorem pm_c255 : ∀ q, q < 128 → (((nI q) &&& 255).toUInt32 % 65536).toInt32 = nI q := by decide +kernel
/-- a number's digits, written from place c on -/
def pm_d1 (f : Nat → Int32) (c q : Nat) : Nat → Int32 := upd f c (nI (48 + q % 10))
def pm_d2 (f : Nat → Int32) (c q : Nat) : Nat → Int32 := upd (upd f (c + 1) (nI (48 + q % 10))) c (nI (48 + q / 10))
def pm_d3 (f : Nat → Int32) (c q : Nat) : Nat → Int32 := upd (upd (upd f (c + 2) (nI (48 + (q % 100) % 10))) (c + 1) (nI (48 + (q % 100) / 10))) c (nI (48 + (q / 100) % 10))
set_option maxRecDepth 100000 in
set_option maxHeartbeats 4000000 in
theorem c_J6_stringSize_0f7a4_1 {l : Launch} {z : Nat} {D : va_G} {kA : Nat → ClassId} {kE : Nat → Nat} {nx : Nat} {M : pm_M} {q : Nat} (hq : q < 1000) (hw : q < 10) : pm_C l z D kA kE yJ6_stringSize_0f7a4 cJ6_stringSize_0f7a4 4 (some .int) 0 0 0 [.int (nI q)] nx M (pm_rt (some (.int (nI 1))) nx M) := by
  refine pm_mk (own := RJ6) (nm := "stringSize") mt_J6_stringSize_0f7a4 rfl rfl rfl rfl fun X B => ?_
  refine pm_loc (L' := [some (.int (nI q)), none, none, none]) rfl ?_
  refine pm_iconst (v := 1) B dJ6_stringSize_0f7a4_0 (by decide) ?_
  refine pm_istore_n B dJ6_stringSize_0f7a4_1 rfl rfl ?_
  refine pm_loc (L' := [some (.int (nI q)), some (.int 1), none, none]) rfl ?_
  refine pm_iload_n B dJ6_stringSize_0f7a4_2 rfl ?_
  refine pm_if_lt (tgt := 11) B dJ6_stringSize_0f7a4_3 (by decide) (fun hq1 => absurd hq1 (pm_lt0 (by omega))) (fun hq1 => ?_)
  refine pm_iconst (v := 0) B dJ6_stringSize_0f7a4_6 (by decide) ?_
  refine pm_istore_n B dJ6_stringSize_0f7a4_7 rfl rfl ?_
  refine pm_loc (L' := [some (.int (nI q)), some (.int 0), none, none]) rfl ?_
  refine pm_iload_n B dJ6_stringSize_0f7a4_8 rfl ?_
  refine pm_ineg B dJ6_stringSize_0f7a4_9 ?_
  refine pm_istore_n B dJ6_stringSize_0f7a4_10 rfl rfl ?_
  refine pm_loc (L' := [some (.int (-(nI q))), some (.int 0), none, none]) rfl ?_
  refine pm_bipush (v := (-10)) B dJ6_stringSize_0f7a4_11 (by decide) ?_
  refine pm_istore_n B dJ6_stringSize_0f7a4_13 rfl rfl ?_
  refine pm_loc (L' := [some (.int (-(nI q))), some (.int 0), some (.int (-10)), none]) rfl ?_
  refine pm_iconst (v := 1) B dJ6_stringSize_0f7a4_14 (by decide) ?_
  refine pm_istore_n B dJ6_stringSize_0f7a4_15 rfl rfl ?_
  refine pm_loc (L' := [some (.int (-(nI q))), some (.int 0), some (.int (-10)), some (.int 1)]) rfl ?_
  refine pm_iload_n B dJ6_stringSize_0f7a4_16 rfl ?_
  refine pm_bipush (v := 10) B dJ6_stringSize_0f7a4_17 (by decide) ?_
  refine pm_icmp_ge (tgt := 42) B dJ6_stringSize_0f7a4_19 (by decide) (fun hq2 => absurd hq2 (by decide)) (fun hq2 => ?_)
  refine pm_iload_n B dJ6_stringSize_0f7a4_22 rfl ?_
  refine pm_iload_n B dJ6_stringSize_0f7a4_23 rfl ?_
  refine pm_icmp_le (tgt := 31) B dJ6_stringSize_0f7a4_24 (by decide) (fun hq3 => absurd hq3 (fun h => absurd ((pm_n10 q hq).1.mp h) (by omega))) (fun hq3 => ?_)
  refine pm_iload_n B dJ6_stringSize_0f7a4_27 rfl ?_
  refine pm_iload_n B dJ6_stringSize_0f7a4_28 rfl ?_
  refine pm_iadd B dJ6_stringSize_0f7a4_29 ?_
  refine pm_stk (st' := [.int (nI (1 + 0))]) (congrArg (fun yy : Int32 => ([.int yy] : List Value)) (show (1 + 0) = (nI (1 + 0)) from (by rw [show 1 = nI 1 from rfl, show 0 = nI 0 from rfl, nI_add]))) ?_
  exact pm_ireturn B dJ6_stringSize_0f7a4_30 rfl (by first | rfl | (apply pm_nz; first | assumption | decide | exact pm_in01 _ _ _ | simp)) ⟨rfl, rfl, rfl⟩ rfl rfl
set_option maxRecDepth 100000 in
set_option maxHeartbeats 4000000 in
theorem c_J6_getChars_ba4f3_1 {l : Launch} {z : Nat} {D : va_G} {kA : Nat → ClassId} {kE : Nat → Nat} {nx : Nat} {M : pm_M} {b c : Nat} {f : Nat → Int32} (hB : M b = some (.inl (kA 4, 16, .inl f))) {q : Nat} (hq : q < 1000) (hw : q < 10) (hc : c + 1 ≤ 16) : pm_C l z D kA kE yJ6_getChars_ba4f3 cJ6_getChars_ba4f3 7 (some .int) 0 0 0 [.int (nI q), .int (nI (c + 1)), .ref (z + b)] nx M (pm_rt (some (.int (nI c))) nx (pm_up M b (.inl (kA 4, 16, .inl (pm_d1 f c q))))) := by
  refine pm_mk (own := RJ6) (nm := "getChars") mt_J6_getChars_ba4f3 rfl rfl rfl rfl fun X B => ?_
  refine pm_loc (L' := [some (.int (nI q)), some (.int (nI (c + 1))), some (.ref (z + b)), none, none, none, none]) rfl ?_
  refine pm_iload_n B dJ6_getChars_ba4f3_0 rfl ?_
  refine pm_istore B dJ6_getChars_ba4f3_1 rfl rfl ?_
  refine pm_loc (L' := [some (.int (nI q)), some (.int (nI (c + 1))), some (.ref (z + b)), none, none, some (.int (nI (c + 1))), none]) rfl ?_
  refine pm_iload_n B dJ6_getChars_ba4f3_3 rfl ?_
  refine pm_if_ge (tgt := 11) B dJ6_getChars_ba4f3_4 (by decide) (fun hq1 => ?_) (fun hq1 => absurd (pm_ge0 (by omega)) hq1)
  refine pm_iconst (v := 0) B dJ6_getChars_ba4f3_11 (by decide) ?_
  refine pm_istore B dJ6_getChars_ba4f3_12 rfl rfl ?_
  refine pm_loc (L' := [some (.int (nI q)), some (.int (nI (c + 1))), some (.ref (z + b)), none, none, some (.int (nI (c + 1))), some (.int 0)]) rfl ?_
  refine pm_iload B dJ6_getChars_ba4f3_14 rfl ?_
  refine pm_if_ne (tgt := 22) B dJ6_getChars_ba4f3_16 (by decide) (fun hq2 => absurd (rfl) hq2) (fun hq2 => ?_)
  refine pm_iload_n B dJ6_getChars_ba4f3_19 rfl ?_
  refine pm_ineg B dJ6_getChars_ba4f3_20 ?_
  refine pm_istore_n B dJ6_getChars_ba4f3_21 rfl rfl ?_
  refine pm_loc (L' := [some (.int (-(nI q))), some (.int (nI (c + 1))), some (.ref (z + b)), none, none, some (.int (nI (c + 1))), some (.int 0)]) rfl ?_
  refine pm_iload_n B dJ6_getChars_ba4f3_22 rfl ?_
  refine pm_bipush (v := (-100)) B dJ6_getChars_ba4f3_23 (by decide) ?_
  refine pm_icmp_gt (tgt := 72) B dJ6_getChars_ba4f3_25 (by decide) (fun hq3 => ?_) (fun hq3 => absurd ((pm_n10 q hq).2.2.2.2.1.mpr (by omega)) hq3)
  refine pm_aload_n B dJ6_getChars_ba4f3_72 rfl ?_
  refine pm_iinc B dJ6_getChars_ba4f3_73 rfl rfl rfl ?_
  refine pm_loc (L' := [some (.int (-(nI q))), some (.int (nI (c + 1))), some (.ref (z + b)), none, none, some (.int (nI c)), some (.int 0)]) (by rw [show ((nI (c + 1)) : Int32) + Int32.ofInt (-1) = nI c from pm_dec _]; rfl) ?_
  refine pm_iload B dJ6_getChars_ba4f3_76 rfl ?_
  refine pm_gets B (v := .ref (kE 63)) (fun U H h => h.2.2.2.2.2.2.1.1) (pm_T_in 1230 (by decide +kernel) (by decide +kernel)) dJ6_getChars_ba4f3_78 ?_
  refine pm_iload_n B dJ6_getChars_ba4f3_81 rfl ?_
  refine pm_ineg B dJ6_getChars_ba4f3_82 ?_
  refine pm_stk (st' := [.int (nI q), .ref (kE 63), .int (nI c), .ref (z + b)]) (by rw [show (-(-(nI q))) = (nI q) from Int32.neg_neg]) ?_
  refine pm_tbL B (v := .int (nI (48 + q % 10))) (fun U H h => h.2.2.2.2.2.2.1.2) q (by omega) (by decide) rfl dJ6_getChars_ba4f3_83 ?_
  refine pm_bast_n B (v := (nI (48 + q % 10))) (pm_nb _ (by omega)) dJ6_getChars_ba4f3_84 hB c (by first | assumption | omega) (by decide) ?_
  refine pm_mem (M' := pm_up M b (.inl (kA 4, 16, .inl (upd f c (nI (48 + q % 10)))))) rfl ?_
  refine pm_iload_n B dJ6_getChars_ba4f3_85 rfl ?_
  refine pm_bipush (v := (-9)) B dJ6_getChars_ba4f3_86 (by decide) ?_
  refine pm_icmp_ge (tgt := 104) B dJ6_getChars_ba4f3_88 (by decide) (fun hq4 => ?_) (fun hq4 => absurd ((pm_n10 q hq).2.2.2.1.mpr (by omega)) hq4)
  refine pm_iload B dJ6_getChars_ba4f3_104 rfl ?_
  refine pm_if_eq (tgt := 118) B dJ6_getChars_ba4f3_106 (by decide) (fun hq5 => ?_) (fun hq5 => absurd (rfl) hq5)
  refine pm_iload B dJ6_getChars_ba4f3_118 rfl ?_
  exact pm_ireturn B dJ6_getChars_ba4f3_120 rfl (by first | rfl | (apply pm_nz; first | assumption | decide | exact pm_in01 _ _ _ | simp)) ⟨rfl, rfl, rfl⟩ rfl rfl
theorem ss_J5_245 : pm_SS RJ5 245 yJ6_stringSize_0f7a4 := ⟨pm_T_in 1190 (by decide +kernel) (by decide +kernel), pm_T_in 1191 (by decide +kernel) (by decide +kernel)⟩
theorem ss_J5_248 : pm_SS RJ5 248 yJ6_getChars_ba4f3 := ⟨pm_T_in 1227 (by decide +kernel) (by decide +kernel), pm_T_in 1228 (by decide +kernel) (by decide +kernel)⟩
set_option maxRecDepth 100000 in
set_option maxHeartbeats 4000000 in
theorem c_J5_append_c97b9_1 {l : Launch} {z : Nat} {D : va_G} {kA : Nat → ClassId} {kE : Nat → Nat} {nx : Nat} {M : pm_M} {a b c : Nat} {ml : Int32} {f : Nat → Int32} (hM : M a = some (.inr (12, [.ref (z + b), .int 0, .int ml, .int (nI c)]))) (hB : M b = some (.inl (kA 4, 16, .inl f))) (hab : a ≠ b) {q : Nat} (hq : q < 1000) (hw : q < 10) (hc : c + 1 ≤ 16) : pm_C l z D kA kE yJ5_append_c97b9 cJ5_append_c97b9 4 (some (.object "java/lang/AbstractStringBuilder")) 1 0 0 [.ref (z + a), .int (nI q)] nx M (pm_rt (some (.ref (z + a))) nx (pm_up (pm_up M b (.inl (kA 4, 16, .inl (pm_d1 f c q)))) a (.inr (12, [.ref (z + b), .int 0, .int ml, .int (nI (c + 1))])))) := by
  refine pm_mk (own := RJ5) (nm := "append") mt_J5_append_c97b9 rfl rfl rfl rfl fun X B => ?_
  refine pm_loc (L' := [some (.ref (z + a)), some (.int (nI q)), none, none]) rfl ?_
  refine pm_aload_n B dJ5_append_c97b9_0 rfl ?_
  refine pm_get B dJ5_append_c97b9_1 fl_J5_79 hM rfl ?_
  refine pm_istore_n B dJ5_append_c97b9_4 rfl rfl ?_
  refine pm_loc (L' := [some (.ref (z + a)), some (.int (nI q)), some (.int (nI c)), none]) rfl ?_
  refine pm_iload_n B dJ5_append_c97b9_5 rfl ?_
  refine pm_iload_n B dJ5_append_c97b9_6 rfl ?_
  refine pm_cS (As := [.int (nI q)]) (mc2 := 0) (ms2 := 0) B (c_J6_stringSize_0f7a4_1 hq hw) mt_J6_stringSize_0f7a4 ss_J5_245 dJ5_append_c97b9_7 rfl rfl rfl rfl rfl ?_
  refine pm_stk (st' := [.int (nI 1), .int (nI c)]) rfl ?_
  refine pm_iadd B dJ5_append_c97b9_10 ?_
  refine pm_stk (st' := [.int (nI (c + 1))]) (by rw [show ((nI c) + (nI 1)) = (nI (c + 1)) from (by rw [show (nI c) = nI c from rfl, show (nI 1) = nI 1 from rfl, nI_add])]) ?_
  refine pm_istore_n B dJ5_append_c97b9_11 rfl rfl ?_
  refine pm_loc (L' := [some (.ref (z + a)), some (.int (nI q)), some (.int (nI c)), some (.int (nI (c + 1)))]) rfl ?_
  refine pm_aload_n B dJ5_append_c97b9_12 rfl ?_
  refine pm_iload_n B dJ5_append_c97b9_13 rfl ?_
  refine pm_cP (As := [.int (nI (c + 1))]) (mc2 := 0) (ms2 := 0) B rfl hM rfl (c_J5_ensureCapacityInternal_d00df (x := (c + 1)) hM hB (by omega)) mt_J5_ensureCapacityInternal_d00df sp_J5_100 dJ5_append_c97b9_14 rfl rfl rfl rfl rfl ?_
  refine pm_stk (st' := []) rfl ?_
  refine pm_aload_n B dJ5_append_c97b9_17 rfl ?_
  refine pm_cUM (As := []) (mc2 := 0) (ms2 := 0) B rfl hM rfl (c_J5_isLatin1_aae02 hM) mt_J5_isLatin1_aae02 su_J5_83 dJ5_append_c97b9_18 rfl rfl rfl rfl rfl ?_
  refine pm_stk (st' := [.int 1]) rfl ?_
  refine pm_if_eq (tgt := 37) B dJ5_append_c97b9_21 (by decide) (fun hq1 => absurd hq1 (by decide)) (fun hq1 => ?_)
  refine pm_iload_n B dJ5_append_c97b9_24 rfl ?_
  refine pm_iload_n B dJ5_append_c97b9_25 rfl ?_
  refine pm_aload_n B dJ5_append_c97b9_26 rfl ?_
  refine pm_get B dJ5_append_c97b9_27 fl_J5_15 hM rfl ?_
  refine pm_cS (As := [.int (nI q), .int (nI (c + 1)), .ref (z + b)]) (mc2 := 0) (ms2 := 0) B (c_J6_getChars_ba4f3_1 hB hq hw (by omega)) mt_J6_getChars_ba4f3 ss_J5_248 dJ5_append_c97b9_30 rfl rfl rfl rfl rfl ?_
  refine pm_mem (M' := pm_up M b (.inl (kA 4, 16, .inl (pm_d1 f c q)))) rfl ?_
  refine pm_stk (st' := [.int (nI c)]) rfl ?_
  refine pm_pop B dJ5_append_c97b9_33 rfl ?_
  refine pm_goto (tgt := 48) B dJ5_append_c97b9_34 (by decide) ?_
  refine pm_aload_n B dJ5_append_c97b9_48 rfl ?_
  refine pm_iload_n B dJ5_append_c97b9_49 rfl ?_
  refine pm_put B dJ5_append_c97b9_50 fs_J5_79 ((pm_up_n hab).trans hM) rfl rfl rfl ?_
  refine pm_mem (M' := pm_up (pm_up M b (.inl (kA 4, 16, .inl (pm_d1 f c q)))) a (.inr (12, [.ref (z + b), .int 0, .int ml, .int (nI (c + 1))]))) rfl ?_
  refine pm_aload_n B dJ5_append_c97b9_53 rfl ?_
  exact pm_areturn B dJ5_append_c97b9_54 rfl (Or.inl ⟨_, rfl⟩) (by first | exact Or.inl rfl | exact Or.inr ⟨_, rfl⟩) ⟨rfl, rfl, rfl⟩ rfl rfl
theorem sx_J4_53 : pm_SX RJ4 53 yJ5_append_c97b9 := ⟨pm_T_in 1187 (by decide +kernel) (by decide +kernel), pm_T_in 1609 (by decide +kernel) (by decide +kernel), pm_T_in 332 (by decide +kernel) (by decide +kernel), pm_T_in 1188 (by decide +kernel) (by decide +kernel), by decide⟩
set_option maxRecDepth 100000 in
set_option maxHeartbeats 4000000 in
theorem c_J4_append_bf812_1 {l : Launch} {z : Nat} {D : va_G} {kA : Nat → ClassId} {kE : Nat → Nat} {nx : Nat} {M : pm_M} {a b c : Nat} {ml : Int32} {f : Nat → Int32} (hM : M a = some (.inr (12, [.ref (z + b), .int 0, .int ml, .int (nI c)]))) (hB : M b = some (.inl (kA 4, 16, .inl f))) (hab : a ≠ b) {q : Nat} (hq : q < 1000) (hw : q < 10) (hc : c + 1 ≤ 16) : pm_C l z D kA kE yJ4_append_bf812 cJ4_append_bf812 2 (some (.object "java/lang/StringBuilder")) 2 0 0 [.ref (z + a), .int (nI q)] nx M (pm_rt (some (.ref (z + a))) nx (pm_up (pm_up M b (.inl (kA 4, 16, .inl (pm_d1 f c q)))) a (.inr (12, [.ref (z + b), .int 0, .int ml, .int (nI (c + 1))])))) := by
  refine pm_mk (own := RJ4) (nm := "append") mt_J4_append_bf812 rfl rfl rfl rfl fun X B => ?_
  refine pm_loc (L' := [some (.ref (z + a)), some (.int (nI q))]) rfl ?_
  refine pm_aload_n B dJ4_append_bf812_0 rfl ?_
  refine pm_iload_n B dJ4_append_bf812_1 rfl ?_
  refine pm_cX (As := [.int (nI q)]) (mc2 := 0) (ms2 := 0) B rfl hM (c_J5_append_c97b9_1 hM hB hab hq hw (by omega)) mt_J5_append_c97b9 sx_J4_53 dJ4_append_bf812_2 rfl rfl rfl rfl rfl ?_
  refine pm_mem (M' := pm_up (pm_up M b (.inl (kA 4, 16, .inl (pm_d1 f c q)))) a (.inr (12, [.ref (z + b), .int 0, .int ml, .int (nI (c + 1))]))) rfl ?_
  refine pm_stk (st' := [.ref (z + a)]) rfl ?_
  refine pm_pop B dJ4_append_bf812_5 rfl ?_
  refine pm_aload_n B dJ4_append_bf812_6 rfl ?_
  exact pm_areturn B dJ4_append_bf812_7 rfl (Or.inl ⟨_, rfl⟩) (by first | exact Or.inl rfl | exact Or.inr ⟨_, rfl⟩) ⟨rfl, rfl, rfl⟩ rfl rfl
set_option maxRecDepth 100000 in
set_option maxHeartbeats 4000000 in
theorem c_J6_stringSize_0f7a4_2 {l : Launch} {z : Nat} {D : va_G} {kA : Nat → ClassId} {kE : Nat → Nat} {nx : Nat} {M : pm_M} {q : Nat} (hq : q < 1000) (hw : 10 ≤ q) (hw2 : q < 100) : pm_C l z D kA kE yJ6_stringSize_0f7a4 cJ6_stringSize_0f7a4 4 (some .int) 0 0 0 [.int (nI q)] nx M (pm_rt (some (.int (nI 2))) nx M) := by
  refine pm_mk (own := RJ6) (nm := "stringSize") mt_J6_stringSize_0f7a4 rfl rfl rfl rfl fun X B => ?_
  refine pm_loc (L' := [some (.int (nI q)), none, none, none]) rfl ?_
  refine pm_iconst (v := 1) B dJ6_stringSize_0f7a4_0 (by decide) ?_
  refine pm_istore_n B dJ6_stringSize_0f7a4_1 rfl rfl ?_
  refine pm_loc (L' := [some (.int (nI q)), some (.int 1), none, none]) rfl ?_
  refine pm_iload_n B dJ6_stringSize_0f7a4_2 rfl ?_
  refine pm_if_lt (tgt := 11) B dJ6_stringSize_0f7a4_3 (by decide) (fun hq1 => absurd hq1 (pm_lt0 (by omega))) (fun hq1 => ?_)
  refine pm_iconst (v := 0) B dJ6_stringSize_0f7a4_6 (by decide) ?_
  refine pm_istore_n B dJ6_stringSize_0f7a4_7 rfl rfl ?_
  refine pm_loc (L' := [some (.int (nI q)), some (.int 0), none, none]) rfl ?_
  refine pm_iload_n B dJ6_stringSize_0f7a4_8 rfl ?_
  refine pm_ineg B dJ6_stringSize_0f7a4_9 ?_
  refine pm_istore_n B dJ6_stringSize_0f7a4_10 rfl rfl ?_
  refine pm_loc (L' := [some (.int (-(nI q))), some (.int 0), none, none]) rfl ?_
  refine pm_bipush (v := (-10)) B dJ6_stringSize_0f7a4_11 (by decide) ?_
  refine pm_istore_n B dJ6_stringSize_0f7a4_13 rfl rfl ?_
  refine pm_loc (L' := [some (.int (-(nI q))), some (.int 0), some (.int (-10)), none]) rfl ?_
  refine pm_iconst (v := 1) B dJ6_stringSize_0f7a4_14 (by decide) ?_
  refine pm_istore_n B dJ6_stringSize_0f7a4_15 rfl rfl ?_
  refine pm_loc (L' := [some (.int (-(nI q))), some (.int 0), some (.int (-10)), some (.int 1)]) rfl ?_
  refine pm_iload_n B dJ6_stringSize_0f7a4_16 rfl ?_
  refine pm_bipush (v := 10) B dJ6_stringSize_0f7a4_17 (by decide) ?_
  refine pm_icmp_ge (tgt := 42) B dJ6_stringSize_0f7a4_19 (by decide) (fun hq2 => absurd hq2 (by decide)) (fun hq2 => ?_)
  refine pm_iload_n B dJ6_stringSize_0f7a4_22 rfl ?_
  refine pm_iload_n B dJ6_stringSize_0f7a4_23 rfl ?_
  refine pm_icmp_le (tgt := 31) B dJ6_stringSize_0f7a4_24 (by decide) (fun hq3 => ?_) (fun hq3 => absurd ((pm_n10 q hq).1.mpr (by omega)) hq3)
  refine pm_bipush (v := 10) B dJ6_stringSize_0f7a4_31 (by decide) ?_
  refine pm_iload_n B dJ6_stringSize_0f7a4_33 rfl ?_
  refine pm_imul B dJ6_stringSize_0f7a4_34 ?_
  refine pm_stk (st' := [.int (-100)]) (congrArg (fun yy : Int32 => ([.int yy] : List Value)) (show ((10 : Int32) * (-10)) = (-100) from by decide)) ?_
  refine pm_istore_n B dJ6_stringSize_0f7a4_35 rfl rfl ?_
  refine pm_loc (L' := [some (.int (-(nI q))), some (.int 0), some (.int (-100)), some (.int 1)]) rfl ?_
  refine pm_iinc B dJ6_stringSize_0f7a4_36 rfl rfl rfl ?_
  refine pm_loc (L' := [some (.int (-(nI q))), some (.int 0), some (.int (-100)), some (.int 2)]) (by rw [show (1 : Int32) + Int32.ofInt 1 = 2 from by decide]; rfl) ?_
  refine pm_goto (tgt := 16) B dJ6_stringSize_0f7a4_39 (by decide) ?_
  refine pm_iload_n B dJ6_stringSize_0f7a4_16 rfl ?_
  refine pm_bipush (v := 10) B dJ6_stringSize_0f7a4_17 (by decide) ?_
  refine pm_icmp_ge (tgt := 42) B dJ6_stringSize_0f7a4_19 (by decide) (fun hq4 => absurd hq4 (by decide)) (fun hq4 => ?_)
  refine pm_iload_n B dJ6_stringSize_0f7a4_22 rfl ?_
  refine pm_iload_n B dJ6_stringSize_0f7a4_23 rfl ?_
  refine pm_icmp_le (tgt := 31) B dJ6_stringSize_0f7a4_24 (by decide) (fun hq5 => absurd hq5 (fun h => absurd ((pm_n10 q hq).2.1.mp h) (by omega))) (fun hq5 => ?_)
  refine pm_iload_n B dJ6_stringSize_0f7a4_27 rfl ?_
  refine pm_iload_n B dJ6_stringSize_0f7a4_28 rfl ?_
  refine pm_iadd B dJ6_stringSize_0f7a4_29 ?_
  refine pm_stk (st' := [.int (nI (2 + 0))]) (congrArg (fun yy : Int32 => ([.int yy] : List Value)) (show (2 + 0) = (nI (2 + 0)) from (by rw [show 2 = nI 2 from rfl, show 0 = nI 0 from rfl, nI_add]))) ?_
  exact pm_ireturn B dJ6_stringSize_0f7a4_30 rfl (by first | rfl | (apply pm_nz; first | assumption | decide | exact pm_in01 _ _ _ | simp)) ⟨rfl, rfl, rfl⟩ rfl rfl
set_option maxRecDepth 100000 in
set_option maxHeartbeats 4000000 in
theorem c_J6_getChars_ba4f3_2 {l : Launch} {z : Nat} {D : va_G} {kA : Nat → ClassId} {kE : Nat → Nat} {nx : Nat} {M : pm_M} {b c : Nat} {f : Nat → Int32} (hB : M b = some (.inl (kA 4, 16, .inl f))) {q : Nat} (hq : q < 1000) (hw : 10 ≤ q) (hw2 : q < 100) (hc : c + 2 ≤ 16) : pm_C l z D kA kE yJ6_getChars_ba4f3 cJ6_getChars_ba4f3 7 (some .int) 0 0 0 [.int (nI q), .int (nI (c + 2)), .ref (z + b)] nx M (pm_rt (some (.int (nI c))) nx (pm_up M b (.inl (kA 4, 16, .inl (pm_d2 f c q))))) := by
  refine pm_mk (own := RJ6) (nm := "getChars") mt_J6_getChars_ba4f3 rfl rfl rfl rfl fun X B => ?_
  refine pm_loc (L' := [some (.int (nI q)), some (.int (nI (c + 2))), some (.ref (z + b)), none, none, none, none]) rfl ?_
  refine pm_iload_n B dJ6_getChars_ba4f3_0 rfl ?_
  refine pm_istore B dJ6_getChars_ba4f3_1 rfl rfl ?_
  refine pm_loc (L' := [some (.int (nI q)), some (.int (nI (c + 2))), some (.ref (z + b)), none, none, some (.int (nI (c + 2))), none]) rfl ?_
  refine pm_iload_n B dJ6_getChars_ba4f3_3 rfl ?_
  refine pm_if_ge (tgt := 11) B dJ6_getChars_ba4f3_4 (by decide) (fun hq1 => ?_) (fun hq1 => absurd (pm_ge0 (by omega)) hq1)
  refine pm_iconst (v := 0) B dJ6_getChars_ba4f3_11 (by decide) ?_
  refine pm_istore B dJ6_getChars_ba4f3_12 rfl rfl ?_
  refine pm_loc (L' := [some (.int (nI q)), some (.int (nI (c + 2))), some (.ref (z + b)), none, none, some (.int (nI (c + 2))), some (.int 0)]) rfl ?_
  refine pm_iload B dJ6_getChars_ba4f3_14 rfl ?_
  refine pm_if_ne (tgt := 22) B dJ6_getChars_ba4f3_16 (by decide) (fun hq2 => absurd (rfl) hq2) (fun hq2 => ?_)
  refine pm_iload_n B dJ6_getChars_ba4f3_19 rfl ?_
  refine pm_ineg B dJ6_getChars_ba4f3_20 ?_
  refine pm_istore_n B dJ6_getChars_ba4f3_21 rfl rfl ?_
  refine pm_loc (L' := [some (.int (-(nI q))), some (.int (nI (c + 2))), some (.ref (z + b)), none, none, some (.int (nI (c + 2))), some (.int 0)]) rfl ?_
  refine pm_iload_n B dJ6_getChars_ba4f3_22 rfl ?_
  refine pm_bipush (v := (-100)) B dJ6_getChars_ba4f3_23 (by decide) ?_
  refine pm_icmp_gt (tgt := 72) B dJ6_getChars_ba4f3_25 (by decide) (fun hq3 => ?_) (fun hq3 => absurd ((pm_n10 q hq).2.2.2.2.1.mpr (by omega)) hq3)
  refine pm_aload_n B dJ6_getChars_ba4f3_72 rfl ?_
  refine pm_iinc B dJ6_getChars_ba4f3_73 rfl rfl rfl ?_
  refine pm_loc (L' := [some (.int (-(nI q))), some (.int (nI (c + 2))), some (.ref (z + b)), none, none, some (.int (nI (c + 1))), some (.int 0)]) (by rw [show ((nI (c + 2)) : Int32) + Int32.ofInt (-1) = nI (c + 1) from pm_dec _]; rfl) ?_
  refine pm_iload B dJ6_getChars_ba4f3_76 rfl ?_
  refine pm_gets B (v := .ref (kE 63)) (fun U H h => h.2.2.2.2.2.2.1.1) (pm_T_in 1230 (by decide +kernel) (by decide +kernel)) dJ6_getChars_ba4f3_78 ?_
  refine pm_iload_n B dJ6_getChars_ba4f3_81 rfl ?_
  refine pm_ineg B dJ6_getChars_ba4f3_82 ?_
  refine pm_stk (st' := [.int (nI q), .ref (kE 63), .int (nI (c + 1)), .ref (z + b)]) (by rw [show (-(-(nI q))) = (nI q) from Int32.neg_neg]) ?_
  refine pm_tbL B (v := .int (nI (48 + q % 10))) (fun U H h => h.2.2.2.2.2.2.1.2) q (by omega) (by decide) rfl dJ6_getChars_ba4f3_83 ?_
  refine pm_bast_n B (v := (nI (48 + q % 10))) (pm_nb _ (by omega)) dJ6_getChars_ba4f3_84 hB (c + 1) (by first | assumption | omega) (by decide) ?_
  refine pm_mem (M' := pm_up M b (.inl (kA 4, 16, .inl (upd f (c + 1) (nI (48 + q % 10)))))) rfl ?_
  refine pm_iload_n B dJ6_getChars_ba4f3_85 rfl ?_
  refine pm_bipush (v := (-9)) B dJ6_getChars_ba4f3_86 (by decide) ?_
  refine pm_icmp_ge (tgt := 104) B dJ6_getChars_ba4f3_88 (by decide) (fun hq4 => absurd hq4 (fun h => absurd ((pm_n10 q hq).2.2.2.1.mp h) (by omega))) (fun hq4 => ?_)
  refine pm_aload_n B dJ6_getChars_ba4f3_91 rfl ?_
  refine pm_iinc B dJ6_getChars_ba4f3_92 rfl rfl rfl ?_
  refine pm_loc (L' := [some (.int (-(nI q))), some (.int (nI (c + 2))), some (.ref (z + b)), none, none, some (.int (nI c)), some (.int 0)]) (by rw [show ((nI (c + 1)) : Int32) + Int32.ofInt (-1) = nI c from pm_dec _]; rfl) ?_
  refine pm_iload B dJ6_getChars_ba4f3_95 rfl ?_
  refine pm_gets B (v := .ref (kE 62)) (fun U H h => h.2.2.2.2.2.1.1) (pm_T_in 1232 (by decide +kernel) (by decide +kernel)) dJ6_getChars_ba4f3_97 ?_
  refine pm_iload_n B dJ6_getChars_ba4f3_100 rfl ?_
  refine pm_ineg B dJ6_getChars_ba4f3_101 ?_
  refine pm_stk (st' := [.int (nI q), .ref (kE 62), .int (nI c), .ref (z + b)]) (by rw [show (-(-(nI q))) = (nI q) from Int32.neg_neg]) ?_
  refine pm_tbL B (v := .int (nI (48 + q / 10))) (fun U H h => h.2.2.2.2.2.1.2) q (by omega) (by decide) rfl dJ6_getChars_ba4f3_102 ?_
  refine pm_bast_n B (v := (nI (48 + q / 10))) (pm_nb _ (by omega)) dJ6_getChars_ba4f3_103 pm_up_s c (by first | assumption | omega) (by decide) ?_
  refine pm_mem (M' := pm_up M b (.inl (kA 4, 16, .inl (upd (upd f (c + 1) (nI (48 + q % 10))) c (nI (48 + q / 10)))))) pm_up_up ?_
  refine pm_iload B dJ6_getChars_ba4f3_104 rfl ?_
  refine pm_if_eq (tgt := 118) B dJ6_getChars_ba4f3_106 (by decide) (fun hq5 => ?_) (fun hq5 => absurd (rfl) hq5)
  refine pm_iload B dJ6_getChars_ba4f3_118 rfl ?_
  exact pm_ireturn B dJ6_getChars_ba4f3_120 rfl (by first | rfl | (apply pm_nz; first | assumption | decide | exact pm_in01 _ _ _ | simp)) ⟨rfl, rfl, rfl⟩ rfl rfl
set_option maxRecDepth 100000 in
set_option maxHeartbeats 4000000 in
theorem c_J5_append_c97b9_2 {l : Launch} {z : Nat} {D : va_G} {kA : Nat → ClassId} {kE : Nat → Nat} {nx : Nat} {M : pm_M} {a b c : Nat} {ml : Int32} {f : Nat → Int32} (hM : M a = some (.inr (12, [.ref (z + b), .int 0, .int ml, .int (nI c)]))) (hB : M b = some (.inl (kA 4, 16, .inl f))) (hab : a ≠ b) {q : Nat} (hq : q < 1000) (hw : 10 ≤ q) (hw2 : q < 100) (hc : c + 2 ≤ 16) : pm_C l z D kA kE yJ5_append_c97b9 cJ5_append_c97b9 4 (some (.object "java/lang/AbstractStringBuilder")) 1 0 0 [.ref (z + a), .int (nI q)] nx M (pm_rt (some (.ref (z + a))) nx (pm_up (pm_up M b (.inl (kA 4, 16, .inl (pm_d2 f c q)))) a (.inr (12, [.ref (z + b), .int 0, .int ml, .int (nI (c + 2))])))) := by
  refine pm_mk (own := RJ5) (nm := "append") mt_J5_append_c97b9 rfl rfl rfl rfl fun X B => ?_
  refine pm_loc (L' := [some (.ref (z + a)), some (.int (nI q)), none, none]) rfl ?_
  refine pm_aload_n B dJ5_append_c97b9_0 rfl ?_
  refine pm_get B dJ5_append_c97b9_1 fl_J5_79 hM rfl ?_
  refine pm_istore_n B dJ5_append_c97b9_4 rfl rfl ?_
  refine pm_loc (L' := [some (.ref (z + a)), some (.int (nI q)), some (.int (nI c)), none]) rfl ?_
  refine pm_iload_n B dJ5_append_c97b9_5 rfl ?_
  refine pm_iload_n B dJ5_append_c97b9_6 rfl ?_
  refine pm_cS (As := [.int (nI q)]) (mc2 := 0) (ms2 := 0) B (c_J6_stringSize_0f7a4_2 hq hw hw2) mt_J6_stringSize_0f7a4 ss_J5_245 dJ5_append_c97b9_7 rfl rfl rfl rfl rfl ?_
  refine pm_stk (st' := [.int (nI 2), .int (nI c)]) rfl ?_
  refine pm_iadd B dJ5_append_c97b9_10 ?_
  refine pm_stk (st' := [.int (nI (c + 2))]) (by rw [show ((nI c) + (nI 2)) = (nI (c + 2)) from (by rw [show (nI c) = nI c from rfl, show (nI 2) = nI 2 from rfl, nI_add])]) ?_
  refine pm_istore_n B dJ5_append_c97b9_11 rfl rfl ?_
  refine pm_loc (L' := [some (.ref (z + a)), some (.int (nI q)), some (.int (nI c)), some (.int (nI (c + 2)))]) rfl ?_
  refine pm_aload_n B dJ5_append_c97b9_12 rfl ?_
  refine pm_iload_n B dJ5_append_c97b9_13 rfl ?_
  refine pm_cP (As := [.int (nI (c + 2))]) (mc2 := 0) (ms2 := 0) B rfl hM rfl (c_J5_ensureCapacityInternal_d00df (x := (c + 2)) hM hB (by omega)) mt_J5_ensureCapacityInternal_d00df sp_J5_100 dJ5_append_c97b9_14 rfl rfl rfl rfl rfl ?_
  refine pm_stk (st' := []) rfl ?_
  refine pm_aload_n B dJ5_append_c97b9_17 rfl ?_
  refine pm_cUM (As := []) (mc2 := 0) (ms2 := 0) B rfl hM rfl (c_J5_isLatin1_aae02 hM) mt_J5_isLatin1_aae02 su_J5_83 dJ5_append_c97b9_18 rfl rfl rfl rfl rfl ?_
  refine pm_stk (st' := [.int 1]) rfl ?_
  refine pm_if_eq (tgt := 37) B dJ5_append_c97b9_21 (by decide) (fun hq1 => absurd hq1 (by decide)) (fun hq1 => ?_)
  refine pm_iload_n B dJ5_append_c97b9_24 rfl ?_
  refine pm_iload_n B dJ5_append_c97b9_25 rfl ?_
  refine pm_aload_n B dJ5_append_c97b9_26 rfl ?_
  refine pm_get B dJ5_append_c97b9_27 fl_J5_15 hM rfl ?_
  refine pm_cS (As := [.int (nI q), .int (nI (c + 2)), .ref (z + b)]) (mc2 := 0) (ms2 := 0) B (c_J6_getChars_ba4f3_2 hB hq hw hw2 (by omega)) mt_J6_getChars_ba4f3 ss_J5_248 dJ5_append_c97b9_30 rfl rfl rfl rfl rfl ?_
  refine pm_mem (M' := pm_up M b (.inl (kA 4, 16, .inl (pm_d2 f c q)))) rfl ?_
  refine pm_stk (st' := [.int (nI c)]) rfl ?_
  refine pm_pop B dJ5_append_c97b9_33 rfl ?_
  refine pm_goto (tgt := 48) B dJ5_append_c97b9_34 (by decide) ?_
  refine pm_aload_n B dJ5_append_c97b9_48 rfl ?_
  refine pm_iload_n B dJ5_append_c97b9_49 rfl ?_
  refine pm_put B dJ5_append_c97b9_50 fs_J5_79 ((pm_up_n hab).trans hM) rfl rfl rfl ?_
  refine pm_mem (M' := pm_up (pm_up M b (.inl (kA 4, 16, .inl (pm_d2 f c q)))) a (.inr (12, [.ref (z + b), .int 0, .int ml, .int (nI (c + 2))]))) rfl ?_
  refine pm_aload_n B dJ5_append_c97b9_53 rfl ?_
  exact pm_areturn B dJ5_append_c97b9_54 rfl (Or.inl ⟨_, rfl⟩) (by first | exact Or.inl rfl | exact Or.inr ⟨_, rfl⟩) ⟨rfl, rfl, rfl⟩ rfl rfl
set_option maxRecDepth 100000 in
set_option maxHeartbeats 4000000 in
theorem c_J4_append_bf812_2 {l : Launch} {z : Nat} {D : va_G} {kA : Nat → ClassId} {kE : Nat → Nat} {nx : Nat} {M : pm_M} {a b c : Nat} {ml : Int32} {f : Nat → Int32} (hM : M a = some (.inr (12, [.ref (z + b), .int 0, .int ml, .int (nI c)]))) (hB : M b = some (.inl (kA 4, 16, .inl f))) (hab : a ≠ b) {q : Nat} (hq : q < 1000) (hw : 10 ≤ q) (hw2 : q < 100) (hc : c + 2 ≤ 16) : pm_C l z D kA kE yJ4_append_bf812 cJ4_append_bf812 2 (some (.object "java/lang/StringBuilder")) 2 0 0 [.ref (z + a), .int (nI q)] nx M (pm_rt (some (.ref (z + a))) nx (pm_up (pm_up M b (.inl (kA 4, 16, .inl (pm_d2 f c q)))) a (.inr (12, [.ref (z + b), .int 0, .int ml, .int (nI (c + 2))])))) := by
  refine pm_mk (own := RJ4) (nm := "append") mt_J4_append_bf812 rfl rfl rfl rfl fun X B => ?_
  refine pm_loc (L' := [some (.ref (z + a)), some (.int (nI q))]) rfl ?_
  refine pm_aload_n B dJ4_append_bf812_0 rfl ?_
  refine pm_iload_n B dJ4_append_bf812_1 rfl ?_
  refine pm_cX (As := [.int (nI q)]) (mc2 := 0) (ms2 := 0) B rfl hM (c_J5_append_c97b9_2 hM hB hab hq hw hw2 (by omega)) mt_J5_append_c97b9 sx_J4_53 dJ4_append_bf812_2 rfl rfl rfl rfl rfl ?_
  refine pm_mem (M' := pm_up (pm_up M b (.inl (kA 4, 16, .inl (pm_d2 f c q)))) a (.inr (12, [.ref (z + b), .int 0, .int ml, .int (nI (c + 2))]))) rfl ?_
  refine pm_stk (st' := [.ref (z + a)]) rfl ?_
  refine pm_pop B dJ4_append_bf812_5 rfl ?_
  refine pm_aload_n B dJ4_append_bf812_6 rfl ?_
  exact pm_areturn B dJ4_append_bf812_7 rfl (Or.inl ⟨_, rfl⟩) (by first | exact Or.inl rfl | exact Or.inr ⟨_, rfl⟩) ⟨rfl, rfl, rfl⟩ rfl rfl
set_option maxRecDepth 100000 in
set_option maxHeartbeats 4000000 in
theorem c_J6_stringSize_0f7a4_3 {l : Launch} {z : Nat} {D : va_G} {kA : Nat → ClassId} {kE : Nat → Nat} {nx : Nat} {M : pm_M} {q : Nat} (hq : q < 1000) (hw : 100 ≤ q) : pm_C l z D kA kE yJ6_stringSize_0f7a4 cJ6_stringSize_0f7a4 4 (some .int) 0 0 0 [.int (nI q)] nx M (pm_rt (some (.int (nI 3))) nx M) := by
  refine pm_mk (own := RJ6) (nm := "stringSize") mt_J6_stringSize_0f7a4 rfl rfl rfl rfl fun X B => ?_
  refine pm_loc (L' := [some (.int (nI q)), none, none, none]) rfl ?_
  refine pm_iconst (v := 1) B dJ6_stringSize_0f7a4_0 (by decide) ?_
  refine pm_istore_n B dJ6_stringSize_0f7a4_1 rfl rfl ?_
  refine pm_loc (L' := [some (.int (nI q)), some (.int 1), none, none]) rfl ?_
  refine pm_iload_n B dJ6_stringSize_0f7a4_2 rfl ?_
  refine pm_if_lt (tgt := 11) B dJ6_stringSize_0f7a4_3 (by decide) (fun hq1 => absurd hq1 (pm_lt0 (by omega))) (fun hq1 => ?_)
  refine pm_iconst (v := 0) B dJ6_stringSize_0f7a4_6 (by decide) ?_
  refine pm_istore_n B dJ6_stringSize_0f7a4_7 rfl rfl ?_
  refine pm_loc (L' := [some (.int (nI q)), some (.int 0), none, none]) rfl ?_
  refine pm_iload_n B dJ6_stringSize_0f7a4_8 rfl ?_
  refine pm_ineg B dJ6_stringSize_0f7a4_9 ?_
  refine pm_istore_n B dJ6_stringSize_0f7a4_10 rfl rfl ?_
  refine pm_loc (L' := [some (.int (-(nI q))), some (.int 0), none, none]) rfl ?_
  refine pm_bipush (v := (-10)) B dJ6_stringSize_0f7a4_11 (by decide) ?_
  refine pm_istore_n B dJ6_stringSize_0f7a4_13 rfl rfl ?_
  refine pm_loc (L' := [some (.int (-(nI q))), some (.int 0), some (.int (-10)), none]) rfl ?_
  refine pm_iconst (v := 1) B dJ6_stringSize_0f7a4_14 (by decide) ?_
  refine pm_istore_n B dJ6_stringSize_0f7a4_15 rfl rfl ?_
  refine pm_loc (L' := [some (.int (-(nI q))), some (.int 0), some (.int (-10)), some (.int 1)]) rfl ?_
  refine pm_iload_n B dJ6_stringSize_0f7a4_16 rfl ?_
  refine pm_bipush (v := 10) B dJ6_stringSize_0f7a4_17 (by decide) ?_
  refine pm_icmp_ge (tgt := 42) B dJ6_stringSize_0f7a4_19 (by decide) (fun hq2 => absurd hq2 (by decide)) (fun hq2 => ?_)
  refine pm_iload_n B dJ6_stringSize_0f7a4_22 rfl ?_
  refine pm_iload_n B dJ6_stringSize_0f7a4_23 rfl ?_
  refine pm_icmp_le (tgt := 31) B dJ6_stringSize_0f7a4_24 (by decide) (fun hq3 => ?_) (fun hq3 => absurd ((pm_n10 q hq).1.mpr (by omega)) hq3)
  refine pm_bipush (v := 10) B dJ6_stringSize_0f7a4_31 (by decide) ?_
  refine pm_iload_n B dJ6_stringSize_0f7a4_33 rfl ?_
  refine pm_imul B dJ6_stringSize_0f7a4_34 ?_
  refine pm_stk (st' := [.int (-100)]) (congrArg (fun yy : Int32 => ([.int yy] : List Value)) (show ((10 : Int32) * (-10)) = (-100) from by decide)) ?_
  refine pm_istore_n B dJ6_stringSize_0f7a4_35 rfl rfl ?_
  refine pm_loc (L' := [some (.int (-(nI q))), some (.int 0), some (.int (-100)), some (.int 1)]) rfl ?_
  refine pm_iinc B dJ6_stringSize_0f7a4_36 rfl rfl rfl ?_
  refine pm_loc (L' := [some (.int (-(nI q))), some (.int 0), some (.int (-100)), some (.int 2)]) (by rw [show (1 : Int32) + Int32.ofInt 1 = 2 from by decide]; rfl) ?_
  refine pm_goto (tgt := 16) B dJ6_stringSize_0f7a4_39 (by decide) ?_
  refine pm_iload_n B dJ6_stringSize_0f7a4_16 rfl ?_
  refine pm_bipush (v := 10) B dJ6_stringSize_0f7a4_17 (by decide) ?_
  refine pm_icmp_ge (tgt := 42) B dJ6_stringSize_0f7a4_19 (by decide) (fun hq4 => absurd hq4 (by decide)) (fun hq4 => ?_)
  refine pm_iload_n B dJ6_stringSize_0f7a4_22 rfl ?_
  refine pm_iload_n B dJ6_stringSize_0f7a4_23 rfl ?_
  refine pm_icmp_le (tgt := 31) B dJ6_stringSize_0f7a4_24 (by decide) (fun hq5 => ?_) (fun hq5 => absurd ((pm_n10 q hq).2.1.mpr (by omega)) hq5)
  refine pm_bipush (v := 10) B dJ6_stringSize_0f7a4_31 (by decide) ?_
  refine pm_iload_n B dJ6_stringSize_0f7a4_33 rfl ?_
  refine pm_imul B dJ6_stringSize_0f7a4_34 ?_
  refine pm_stk (st' := [.int (-1000)]) (congrArg (fun yy : Int32 => ([.int yy] : List Value)) (show ((10 : Int32) * (-100)) = (-1000) from by decide)) ?_
  refine pm_istore_n B dJ6_stringSize_0f7a4_35 rfl rfl ?_
  refine pm_loc (L' := [some (.int (-(nI q))), some (.int 0), some (.int (-1000)), some (.int 2)]) rfl ?_
  refine pm_iinc B dJ6_stringSize_0f7a4_36 rfl rfl rfl ?_
  refine pm_loc (L' := [some (.int (-(nI q))), some (.int 0), some (.int (-1000)), some (.int 3)]) (by rw [show (2 : Int32) + Int32.ofInt 1 = 3 from by decide]; rfl) ?_
  refine pm_goto (tgt := 16) B dJ6_stringSize_0f7a4_39 (by decide) ?_
  refine pm_iload_n B dJ6_stringSize_0f7a4_16 rfl ?_
  refine pm_bipush (v := 10) B dJ6_stringSize_0f7a4_17 (by decide) ?_
  refine pm_icmp_ge (tgt := 42) B dJ6_stringSize_0f7a4_19 (by decide) (fun hq6 => absurd hq6 (by decide)) (fun hq6 => ?_)
  refine pm_iload_n B dJ6_stringSize_0f7a4_22 rfl ?_
  refine pm_iload_n B dJ6_stringSize_0f7a4_23 rfl ?_
  refine pm_icmp_le (tgt := 31) B dJ6_stringSize_0f7a4_24 (by decide) (fun hq7 => absurd hq7 ((pm_n10 q hq).2.2.1)) (fun hq7 => ?_)
  refine pm_iload_n B dJ6_stringSize_0f7a4_27 rfl ?_
  refine pm_iload_n B dJ6_stringSize_0f7a4_28 rfl ?_
  refine pm_iadd B dJ6_stringSize_0f7a4_29 ?_
  refine pm_stk (st' := [.int (nI (3 + 0))]) (congrArg (fun yy : Int32 => ([.int yy] : List Value)) (show (3 + 0) = (nI (3 + 0)) from (by rw [show 3 = nI 3 from rfl, show 0 = nI 0 from rfl, nI_add]))) ?_
  exact pm_ireturn B dJ6_stringSize_0f7a4_30 rfl (by first | rfl | (apply pm_nz; first | assumption | decide | exact pm_in01 _ _ _ | simp)) ⟨rfl, rfl, rfl⟩ rfl rfl
set_option maxRecDepth 100000 in
set_option maxHeartbeats 4000000 in
theorem c_J6_getChars_ba4f3_3 {l : Launch} {z : Nat} {D : va_G} {kA : Nat → ClassId} {kE : Nat → Nat} {nx : Nat} {M : pm_M} {b c : Nat} {f : Nat → Int32} (hB : M b = some (.inl (kA 4, 16, .inl f))) {q : Nat} (hq : q < 1000) (hw : 100 ≤ q) (hc : c + 3 ≤ 16) : pm_C l z D kA kE yJ6_getChars_ba4f3 cJ6_getChars_ba4f3 7 (some .int) 0 0 0 [.int (nI q), .int (nI (c + 3)), .ref (z + b)] nx M (pm_rt (some (.int (nI c))) nx (pm_up M b (.inl (kA 4, 16, .inl (pm_d3 f c q))))) := by
  refine pm_mk (own := RJ6) (nm := "getChars") mt_J6_getChars_ba4f3 rfl rfl rfl rfl fun X B => ?_
  refine pm_loc (L' := [some (.int (nI q)), some (.int (nI (c + 3))), some (.ref (z + b)), none, none, none, none]) rfl ?_
  refine pm_iload_n B dJ6_getChars_ba4f3_0 rfl ?_
  refine pm_istore B dJ6_getChars_ba4f3_1 rfl rfl ?_
  refine pm_loc (L' := [some (.int (nI q)), some (.int (nI (c + 3))), some (.ref (z + b)), none, none, some (.int (nI (c + 3))), none]) rfl ?_
  refine pm_iload_n B dJ6_getChars_ba4f3_3 rfl ?_
  refine pm_if_ge (tgt := 11) B dJ6_getChars_ba4f3_4 (by decide) (fun hq1 => ?_) (fun hq1 => absurd (pm_ge0 (by omega)) hq1)
  refine pm_iconst (v := 0) B dJ6_getChars_ba4f3_11 (by decide) ?_
  refine pm_istore B dJ6_getChars_ba4f3_12 rfl rfl ?_
  refine pm_loc (L' := [some (.int (nI q)), some (.int (nI (c + 3))), some (.ref (z + b)), none, none, some (.int (nI (c + 3))), some (.int 0)]) rfl ?_
  refine pm_iload B dJ6_getChars_ba4f3_14 rfl ?_
  refine pm_if_ne (tgt := 22) B dJ6_getChars_ba4f3_16 (by decide) (fun hq2 => absurd (rfl) hq2) (fun hq2 => ?_)
  refine pm_iload_n B dJ6_getChars_ba4f3_19 rfl ?_
  refine pm_ineg B dJ6_getChars_ba4f3_20 ?_
  refine pm_istore_n B dJ6_getChars_ba4f3_21 rfl rfl ?_
  refine pm_loc (L' := [some (.int (-(nI q))), some (.int (nI (c + 3))), some (.ref (z + b)), none, none, some (.int (nI (c + 3))), some (.int 0)]) rfl ?_
  refine pm_iload_n B dJ6_getChars_ba4f3_22 rfl ?_
  refine pm_bipush (v := (-100)) B dJ6_getChars_ba4f3_23 (by decide) ?_
  refine pm_icmp_gt (tgt := 72) B dJ6_getChars_ba4f3_25 (by decide) (fun hq3 => absurd hq3 (fun h => absurd ((pm_n10 q hq).2.2.2.2.1.mp h) (by omega))) (fun hq3 => ?_)
  refine pm_iload_n B dJ6_getChars_ba4f3_28 rfl ?_
  refine pm_bipush (v := 100) B dJ6_getChars_ba4f3_29 (by decide) ?_
  refine pm_idiv B dJ6_getChars_ba4f3_31 (by first | decide | assumption) ?_
  refine pm_stk (st' := [.int (-(nI (q / 100)))]) (by rw [show ((-(nI q)) / 100) = (-(nI (q / 100))) from (pm_n10 q hq).2.2.2.2.2.1]) ?_
  refine pm_istore_n B dJ6_getChars_ba4f3_32 rfl rfl ?_
  refine pm_loc (L' := [some (.int (-(nI q))), some (.int (nI (c + 3))), some (.ref (z + b)), some (.int (-(nI (q / 100)))), none, some (.int (nI (c + 3))), some (.int 0)]) rfl ?_
  refine pm_iload_n B dJ6_getChars_ba4f3_33 rfl ?_
  refine pm_bipush (v := 100) B dJ6_getChars_ba4f3_34 (by decide) ?_
  refine pm_imul B dJ6_getChars_ba4f3_36 ?_
  refine pm_iload_n B dJ6_getChars_ba4f3_37 rfl ?_
  refine pm_isub B dJ6_getChars_ba4f3_38 ?_
  refine pm_stk (st' := [.int (nI (q % 100))]) (by rw [show (((-(nI (q / 100))) * 100) - (-(nI q))) = (nI (q % 100)) from (pm_n10 q hq).2.2.2.2.2.2]) ?_
  refine pm_istore B dJ6_getChars_ba4f3_39 rfl rfl ?_
  refine pm_loc (L' := [some (.int (-(nI q))), some (.int (nI (c + 3))), some (.ref (z + b)), some (.int (-(nI (q / 100)))), some (.int (nI (q % 100))), some (.int (nI (c + 3))), some (.int 0)]) rfl ?_
  refine pm_iload_n B dJ6_getChars_ba4f3_41 rfl ?_
  refine pm_istore_n B dJ6_getChars_ba4f3_42 rfl rfl ?_
  refine pm_loc (L' := [some (.int (-(nI (q / 100)))), some (.int (nI (c + 3))), some (.ref (z + b)), some (.int (-(nI (q / 100)))), some (.int (nI (q % 100))), some (.int (nI (c + 3))), some (.int 0)]) rfl ?_
  refine pm_aload_n B dJ6_getChars_ba4f3_43 rfl ?_
  refine pm_iinc B dJ6_getChars_ba4f3_44 rfl rfl rfl ?_
  refine pm_loc (L' := [some (.int (-(nI (q / 100)))), some (.int (nI (c + 3))), some (.ref (z + b)), some (.int (-(nI (q / 100)))), some (.int (nI (q % 100))), some (.int (nI (c + 2))), some (.int 0)]) (by rw [show ((nI (c + 3)) : Int32) + Int32.ofInt (-1) = nI (c + 2) from pm_dec _]; rfl) ?_
  refine pm_iload B dJ6_getChars_ba4f3_47 rfl ?_
  refine pm_gets B (v := .ref (kE 63)) (fun U H h => h.2.2.2.2.2.2.1.1) (pm_T_in 1230 (by decide +kernel) (by decide +kernel)) dJ6_getChars_ba4f3_49 ?_
  refine pm_iload B dJ6_getChars_ba4f3_52 rfl ?_
  refine pm_tbL B (v := .int (nI (48 + (q % 100) % 10))) (fun U H h => h.2.2.2.2.2.2.1.2) (q % 100) (by omega) (by decide) rfl dJ6_getChars_ba4f3_54 ?_
  refine pm_bast_n B (v := (nI (48 + (q % 100) % 10))) (pm_nb _ (by omega)) dJ6_getChars_ba4f3_55 hB (c + 2) (by first | assumption | omega) (by decide) ?_
  refine pm_mem (M' := pm_up M b (.inl (kA 4, 16, .inl (upd f (c + 2) (nI (48 + (q % 100) % 10)))))) rfl ?_
  refine pm_aload_n B dJ6_getChars_ba4f3_56 rfl ?_
  refine pm_iinc B dJ6_getChars_ba4f3_57 rfl rfl rfl ?_
  refine pm_loc (L' := [some (.int (-(nI (q / 100)))), some (.int (nI (c + 3))), some (.ref (z + b)), some (.int (-(nI (q / 100)))), some (.int (nI (q % 100))), some (.int (nI (c + 1))), some (.int 0)]) (by rw [show ((nI (c + 2)) : Int32) + Int32.ofInt (-1) = nI (c + 1) from pm_dec _]; rfl) ?_
  refine pm_iload B dJ6_getChars_ba4f3_60 rfl ?_
  refine pm_gets B (v := .ref (kE 62)) (fun U H h => h.2.2.2.2.2.1.1) (pm_T_in 1232 (by decide +kernel) (by decide +kernel)) dJ6_getChars_ba4f3_62 ?_
  refine pm_iload B dJ6_getChars_ba4f3_65 rfl ?_
  refine pm_tbL B (v := .int (nI (48 + (q % 100) / 10))) (fun U H h => h.2.2.2.2.2.1.2) (q % 100) (by omega) (by decide) rfl dJ6_getChars_ba4f3_67 ?_
  refine pm_bast_n B (v := (nI (48 + (q % 100) / 10))) (pm_nb _ (by omega)) dJ6_getChars_ba4f3_68 pm_up_s (c + 1) (by first | assumption | omega) (by decide) ?_
  refine pm_mem (M' := pm_up M b (.inl (kA 4, 16, .inl (upd (upd f (c + 2) (nI (48 + (q % 100) % 10))) (c + 1) (nI (48 + (q % 100) / 10)))))) pm_up_up ?_
  refine pm_goto (tgt := 22) B dJ6_getChars_ba4f3_69 (by decide) ?_
  refine pm_iload_n B dJ6_getChars_ba4f3_22 rfl ?_
  refine pm_bipush (v := (-100)) B dJ6_getChars_ba4f3_23 (by decide) ?_
  refine pm_icmp_gt (tgt := 72) B dJ6_getChars_ba4f3_25 (by decide) (fun hq4 => ?_) (fun hq4 => absurd ((pm_n10 (q / 100) (by omega)).2.2.2.2.1.mpr (by omega)) hq4)
  refine pm_aload_n B dJ6_getChars_ba4f3_72 rfl ?_
  refine pm_iinc B dJ6_getChars_ba4f3_73 rfl rfl rfl ?_
  refine pm_loc (L' := [some (.int (-(nI (q / 100)))), some (.int (nI (c + 3))), some (.ref (z + b)), some (.int (-(nI (q / 100)))), some (.int (nI (q % 100))), some (.int (nI c)), some (.int 0)]) (by rw [show ((nI (c + 1)) : Int32) + Int32.ofInt (-1) = nI c from pm_dec _]; rfl) ?_
  refine pm_iload B dJ6_getChars_ba4f3_76 rfl ?_
  refine pm_gets B (v := .ref (kE 63)) (fun U H h => h.2.2.2.2.2.2.1.1) (pm_T_in 1230 (by decide +kernel) (by decide +kernel)) dJ6_getChars_ba4f3_78 ?_
  refine pm_iload_n B dJ6_getChars_ba4f3_81 rfl ?_
  refine pm_ineg B dJ6_getChars_ba4f3_82 ?_
  refine pm_stk (st' := [.int (nI (q / 100)), .ref (kE 63), .int (nI c), .ref (z + b)]) (by rw [show (-(-(nI (q / 100)))) = (nI (q / 100)) from Int32.neg_neg]) ?_
  refine pm_tbL B (v := .int (nI (48 + (q / 100) % 10))) (fun U H h => h.2.2.2.2.2.2.1.2) (q / 100) (by omega) (by decide) rfl dJ6_getChars_ba4f3_83 ?_
  refine pm_bast_n B (v := (nI (48 + (q / 100) % 10))) (pm_nb _ (by omega)) dJ6_getChars_ba4f3_84 pm_up_s c (by first | assumption | omega) (by decide) ?_
  refine pm_mem (M' := pm_up M b (.inl (kA 4, 16, .inl (upd (upd (upd f (c + 2) (nI (48 + (q % 100) % 10))) (c + 1) (nI (48 + (q % 100) / 10))) c (nI (48 + (q / 100) % 10)))))) pm_up_up ?_
  refine pm_iload_n B dJ6_getChars_ba4f3_85 rfl ?_
  refine pm_bipush (v := (-9)) B dJ6_getChars_ba4f3_86 (by decide) ?_
  refine pm_icmp_ge (tgt := 104) B dJ6_getChars_ba4f3_88 (by decide) (fun hq5 => ?_) (fun hq5 => absurd ((pm_n10 (q / 100) (by omega)).2.2.2.1.mpr (by omega)) hq5)
  refine pm_iload B dJ6_getChars_ba4f3_104 rfl ?_
  refine pm_if_eq (tgt := 118) B dJ6_getChars_ba4f3_106 (by decide) (fun hq6 => ?_) (fun hq6 => absurd (rfl) hq6)
  refine pm_iload B dJ6_getChars_ba4f3_118 rfl ?_
  exact pm_ireturn B dJ6_getChars_ba4f3_120 rfl (by first | rfl | (apply pm_nz; first | assumption | decide | exact pm_in01 _ _ _ | simp)) ⟨rfl, rfl, rfl⟩ rfl rfl
set_option maxRecDepth 100000 in
set_option maxHeartbeats 4000000 in
theorem c_J5_append_c97b9_3 {l : Launch} {z : Nat} {D : va_G} {kA : Nat → ClassId} {kE : Nat → Nat} {nx : Nat} {M : pm_M} {a b c : Nat} {ml : Int32} {f : Nat → Int32} (hM : M a = some (.inr (12, [.ref (z + b), .int 0, .int ml, .int (nI c)]))) (hB : M b = some (.inl (kA 4, 16, .inl f))) (hab : a ≠ b) {q : Nat} (hq : q < 1000) (hw : 100 ≤ q) (hc : c + 3 ≤ 16) : pm_C l z D kA kE yJ5_append_c97b9 cJ5_append_c97b9 4 (some (.object "java/lang/AbstractStringBuilder")) 1 0 0 [.ref (z + a), .int (nI q)] nx M (pm_rt (some (.ref (z + a))) nx (pm_up (pm_up M b (.inl (kA 4, 16, .inl (pm_d3 f c q)))) a (.inr (12, [.ref (z + b), .int 0, .int ml, .int (nI (c + 3))])))) := by
  refine pm_mk (own := RJ5) (nm := "append") mt_J5_append_c97b9 rfl rfl rfl rfl fun X B => ?_
  refine pm_loc (L' := [some (.ref (z + a)), some (.int (nI q)), none, none]) rfl ?_
  refine pm_aload_n B dJ5_append_c97b9_0 rfl ?_
  refine pm_get B dJ5_append_c97b9_1 fl_J5_79 hM rfl ?_
  refine pm_istore_n B dJ5_append_c97b9_4 rfl rfl ?_
  refine pm_loc (L' := [some (.ref (z + a)), some (.int (nI q)), some (.int (nI c)), none]) rfl ?_
  refine pm_iload_n B dJ5_append_c97b9_5 rfl ?_
  refine pm_iload_n B dJ5_append_c97b9_6 rfl ?_
  refine pm_cS (As := [.int (nI q)]) (mc2 := 0) (ms2 := 0) B (c_J6_stringSize_0f7a4_3 hq hw) mt_J6_stringSize_0f7a4 ss_J5_245 dJ5_append_c97b9_7 rfl rfl rfl rfl rfl ?_
  refine pm_stk (st' := [.int (nI 3), .int (nI c)]) rfl ?_
  refine pm_iadd B dJ5_append_c97b9_10 ?_
  refine pm_stk (st' := [.int (nI (c + 3))]) (by rw [show ((nI c) + (nI 3)) = (nI (c + 3)) from (by rw [show (nI c) = nI c from rfl, show (nI 3) = nI 3 from rfl, nI_add])]) ?_
  refine pm_istore_n B dJ5_append_c97b9_11 rfl rfl ?_
  refine pm_loc (L' := [some (.ref (z + a)), some (.int (nI q)), some (.int (nI c)), some (.int (nI (c + 3)))]) rfl ?_
  refine pm_aload_n B dJ5_append_c97b9_12 rfl ?_
  refine pm_iload_n B dJ5_append_c97b9_13 rfl ?_
  refine pm_cP (As := [.int (nI (c + 3))]) (mc2 := 0) (ms2 := 0) B rfl hM rfl (c_J5_ensureCapacityInternal_d00df (x := (c + 3)) hM hB (by omega)) mt_J5_ensureCapacityInternal_d00df sp_J5_100 dJ5_append_c97b9_14 rfl rfl rfl rfl rfl ?_
  refine pm_stk (st' := []) rfl ?_
  refine pm_aload_n B dJ5_append_c97b9_17 rfl ?_
  refine pm_cUM (As := []) (mc2 := 0) (ms2 := 0) B rfl hM rfl (c_J5_isLatin1_aae02 hM) mt_J5_isLatin1_aae02 su_J5_83 dJ5_append_c97b9_18 rfl rfl rfl rfl rfl ?_
  refine pm_stk (st' := [.int 1]) rfl ?_
  refine pm_if_eq (tgt := 37) B dJ5_append_c97b9_21 (by decide) (fun hq1 => absurd hq1 (by decide)) (fun hq1 => ?_)
  refine pm_iload_n B dJ5_append_c97b9_24 rfl ?_
  refine pm_iload_n B dJ5_append_c97b9_25 rfl ?_
  refine pm_aload_n B dJ5_append_c97b9_26 rfl ?_
  refine pm_get B dJ5_append_c97b9_27 fl_J5_15 hM rfl ?_
  refine pm_cS (As := [.int (nI q), .int (nI (c + 3)), .ref (z + b)]) (mc2 := 0) (ms2 := 0) B (c_J6_getChars_ba4f3_3 hB hq hw (by omega)) mt_J6_getChars_ba4f3 ss_J5_248 dJ5_append_c97b9_30 rfl rfl rfl rfl rfl ?_
  refine pm_mem (M' := pm_up M b (.inl (kA 4, 16, .inl (pm_d3 f c q)))) rfl ?_
  refine pm_stk (st' := [.int (nI c)]) rfl ?_
  refine pm_pop B dJ5_append_c97b9_33 rfl ?_
  refine pm_goto (tgt := 48) B dJ5_append_c97b9_34 (by decide) ?_
  refine pm_aload_n B dJ5_append_c97b9_48 rfl ?_
  refine pm_iload_n B dJ5_append_c97b9_49 rfl ?_
  refine pm_put B dJ5_append_c97b9_50 fs_J5_79 ((pm_up_n hab).trans hM) rfl rfl rfl ?_
  refine pm_mem (M' := pm_up (pm_up M b (.inl (kA 4, 16, .inl (pm_d3 f c q)))) a (.inr (12, [.ref (z + b), .int 0, .int ml, .int (nI (c + 3))]))) rfl ?_
  refine pm_aload_n B dJ5_append_c97b9_53 rfl ?_
  exact pm_areturn B dJ5_append_c97b9_54 rfl (Or.inl ⟨_, rfl⟩) (by first | exact Or.inl rfl | exact Or.inr ⟨_, rfl⟩) ⟨rfl, rfl, rfl⟩ rfl rfl
set_option maxRecDepth 100000 in
set_option maxHeartbeats 4000000 in
theorem c_J4_append_bf812_3 {l : Launch} {z : Nat} {D : va_G} {kA : Nat → ClassId} {kE : Nat → Nat} {nx : Nat} {M : pm_M} {a b c : Nat} {ml : Int32} {f : Nat → Int32} (hM : M a = some (.inr (12, [.ref (z + b), .int 0, .int ml, .int (nI c)]))) (hB : M b = some (.inl (kA 4, 16, .inl f))) (hab : a ≠ b) {q : Nat} (hq : q < 1000) (hw : 100 ≤ q) (hc : c + 3 ≤ 16) : pm_C l z D kA kE yJ4_append_bf812 cJ4_append_bf812 2 (some (.object "java/lang/StringBuilder")) 2 0 0 [.ref (z + a), .int (nI q)] nx M (pm_rt (some (.ref (z + a))) nx (pm_up (pm_up M b (.inl (kA 4, 16, .inl (pm_d3 f c q)))) a (.inr (12, [.ref (z + b), .int 0, .int ml, .int (nI (c + 3))])))) := by
  refine pm_mk (own := RJ4) (nm := "append") mt_J4_append_bf812 rfl rfl rfl rfl fun X B => ?_
  refine pm_loc (L' := [some (.ref (z + a)), some (.int (nI q))]) rfl ?_
  refine pm_aload_n B dJ4_append_bf812_0 rfl ?_
  refine pm_iload_n B dJ4_append_bf812_1 rfl ?_
  refine pm_cX (As := [.int (nI q)]) (mc2 := 0) (ms2 := 0) B rfl hM (c_J5_append_c97b9_3 hM hB hab hq hw (by omega)) mt_J5_append_c97b9 sx_J4_53 dJ4_append_bf812_2 rfl rfl rfl rfl rfl ?_
  refine pm_mem (M' := pm_up (pm_up M b (.inl (kA 4, 16, .inl (pm_d3 f c q)))) a (.inr (12, [.ref (z + b), .int 0, .int ml, .int (nI (c + 3))]))) rfl ?_
  refine pm_stk (st' := [.ref (z + a)]) rfl ?_
  refine pm_pop B dJ4_append_bf812_5 rfl ?_
  refine pm_aload_n B dJ4_append_bf812_6 rfl ?_
  exact pm_areturn B dJ4_append_bf812_7 rfl (Or.inl ⟨_, rfl⟩) (by first | exact Or.inl rfl | exact Or.inr ⟨_, rfl⟩) ⟨rfl, rfl, rfl⟩ rfl rfl
theorem sx_J4_50 : pm_SX RJ4 50 yJ5_append_3fe6f := ⟨pm_T_in 1454 (by decide +kernel) (by decide +kernel), pm_T_in 1618 (by decide +kernel) (by decide +kernel), pm_T_in 332 (by decide +kernel) (by decide +kernel), pm_T_in 1455 (by decide +kernel) (by decide +kernel), by decide⟩
set_option maxRecDepth 100000 in
set_option maxHeartbeats 4000000 in
theorem c_J4_append_cf468 {l : Launch} {z : Nat} {D : va_G} {kA : Nat → ClassId} {kE : Nat → Nat} {nx : Nat} {M : pm_M} {a b c : Nat} {ml : Int32} {f : Nat → Int32} (hM : M a = some (.inr (12, [.ref (z + b), .int 0, .int ml, .int (nI c)]))) (hB : M b = some (.inl (kA 4, 16, .inl f))) (hab : a ≠ b) {q : Nat} (hq : q < 128) (hc : c < 16) : pm_C l z D kA kE yJ4_append_cf468 cJ4_append_cf468 2 (some (.object "java/lang/StringBuilder")) 2 0 0 [.ref (z + a), .int (nI q)] nx M (pm_rt (some (.ref (z + a))) nx (pm_up (pm_up M a (.inr (12, [.ref (z + b), .int 0, .int ml, .int (nI (c + 1))]))) b (.inl (kA 4, 16, .inl (upd f c (nI q)))))) := by
  refine pm_mk (own := RJ4) (nm := "append") mt_J4_append_cf468 rfl rfl rfl rfl fun X B => ?_
  refine pm_loc (L' := [some (.ref (z + a)), some (.int (nI q))]) rfl ?_
  refine pm_aload_n B dJ4_append_cf468_0 rfl ?_
  refine pm_iload_n B dJ4_append_cf468_1 rfl ?_
  refine pm_cX (As := [.int (nI q)]) (mc2 := 0) (ms2 := 0) B rfl hM (c_J5_append_3fe6f (q := q) hM hB hab (by omega) (by omega)) mt_J5_append_3fe6f sx_J4_50 dJ4_append_cf468_2 rfl rfl rfl rfl rfl ?_
  refine pm_mem (M' := pm_up (pm_up M a (.inr (12, [.ref (z + b), .int 0, .int ml, .int (nI (c + 1))]))) b (.inl (kA 4, 16, .inl (upd f c (nI q))))) rfl ?_
  refine pm_stk (st' := [.ref (z + a)]) rfl ?_
  refine pm_pop B dJ4_append_cf468_5 rfl ?_
  refine pm_aload_n B dJ4_append_cf468_6 rfl ?_
  exact pm_areturn B dJ4_append_cf468_7 rfl (Or.inl ⟨_, rfl⟩) (by first | exact Or.inl rfl | exact Or.inr ⟨_, rfl⟩) ⟨rfl, rfl, rfl⟩ rfl rfl
set_option maxRecDepth 100000 in
set_option maxHeartbeats 4000000 in
theorem c_J5_setLength_d00df_z {l : Launch} {z : Nat} {D : va_G} {kA : Nat → ClassId} {kE : Nat → Nat} {nx : Nat} {M : pm_M} {a b c : Nat} {ml : Int32} {f : Nat → Int32} (hM : M a = some (.inr (12, [.ref (z + b), .int 0, .int ml, .int (nI c)]))) (hB : M b = some (.inl (kA 4, 16, .inl f))) (hc : c ≤ 16) (hc0 : c = 0) : pm_C l z D kA kE yJ5_setLength_d00df cJ5_setLength_d00df 2 none 1 0 0 [.ref (z + a), .int 0] nx M (pm_rt none nx (pm_up M a (.inr (12, [.ref (z + b), .int 0, .int ml, .int 0])))) := by
  refine pm_mk (own := RJ5) (nm := "setLength") mt_J5_setLength_d00df rfl rfl rfl rfl fun X B => ?_
  refine pm_loc (L' := [some (.ref (z + a)), some (.int 0)]) rfl ?_
  refine pm_iload_n B dJ5_setLength_d00df_0 rfl ?_
  refine pm_if_ge (tgt := 13) B dJ5_setLength_d00df_1 (by decide) (fun hq1 => ?_) (fun hq1 => absurd (by decide) hq1)
  refine pm_aload_n B dJ5_setLength_d00df_13 rfl ?_
  refine pm_iload_n B dJ5_setLength_d00df_14 rfl ?_
  refine pm_cP (As := [.int 0]) (mc2 := 0) (ms2 := 0) B rfl hM rfl (c_J5_ensureCapacityInternal_d00df (x := 0) hM hB (by omega)) mt_J5_ensureCapacityInternal_d00df sp_J5_100 dJ5_setLength_d00df_15 rfl rfl rfl rfl rfl ?_
  refine pm_stk (st' := []) rfl ?_
  refine pm_aload_n B dJ5_setLength_d00df_18 rfl ?_
  refine pm_get B dJ5_setLength_d00df_19 fl_J5_79 hM rfl ?_
  refine pm_iload_n B dJ5_setLength_d00df_22 rfl ?_
  refine pm_icmp_ge (tgt := 63) B dJ5_setLength_d00df_23 (by decide) (fun hq2 => ?_) (fun hq2 => absurd (pm_ge0 (by omega)) hq2)
  refine pm_aload_n B dJ5_setLength_d00df_63 rfl ?_
  refine pm_get B dJ5_setLength_d00df_64 fl_J5_79 hM rfl ?_
  refine pm_iload_n B dJ5_setLength_d00df_67 rfl ?_
  refine pm_icmp_le (tgt := 76) B dJ5_setLength_d00df_68 (by decide) (fun hq3 => ?_) (fun hq3 => absurd (by subst hc0; decide) hq3)
  refine pm_aload_n B dJ5_setLength_d00df_76 rfl ?_
  refine pm_iload_n B dJ5_setLength_d00df_77 rfl ?_
  refine pm_put B dJ5_setLength_d00df_78 fs_J5_79 hM rfl rfl rfl ?_
  refine pm_mem (M' := pm_up M a (.inr (12, [.ref (z + b), .int 0, .int ml, .int 0]))) rfl ?_
  exact pm_return B dJ5_setLength_d00df_81 rfl ⟨rfl, rfl, rfl⟩ rfl rfl
theorem sx_J4_333 : pm_SX RJ4 333 yJ5_setLength_d00df := ⟨pm_T_in 1401 (by decide +kernel) (by decide +kernel), pm_T_in 1617 (by decide +kernel) (by decide +kernel), pm_T_in 332 (by decide +kernel) (by decide +kernel), pm_T_in 1402 (by decide +kernel) (by decide +kernel), by decide⟩
set_option maxRecDepth 100000 in
set_option maxHeartbeats 4000000 in
theorem c_J4_setLength_d00df_z {l : Launch} {z : Nat} {D : va_G} {kA : Nat → ClassId} {kE : Nat → Nat} {nx : Nat} {M : pm_M} {a b c : Nat} {ml : Int32} {f : Nat → Int32} (hM : M a = some (.inr (12, [.ref (z + b), .int 0, .int ml, .int (nI c)]))) (hB : M b = some (.inl (kA 4, 16, .inl f))) (hc : c ≤ 16) (hc0 : c = 0) : pm_C l z D kA kE yJ4_setLength_d00df cJ4_setLength_d00df 2 none 2 0 0 [.ref (z + a), .int 0] nx M (pm_rt none nx (pm_up M a (.inr (12, [.ref (z + b), .int 0, .int ml, .int 0])))) := by
  refine pm_mk (own := RJ4) (nm := "setLength") mt_J4_setLength_d00df rfl rfl rfl rfl fun X B => ?_
  refine pm_loc (L' := [some (.ref (z + a)), some (.int 0)]) rfl ?_
  refine pm_aload_n B dJ4_setLength_d00df_0 rfl ?_
  refine pm_iload_n B dJ4_setLength_d00df_1 rfl ?_
  refine pm_cX (As := [.int 0]) (mc2 := 0) (ms2 := 0) B rfl hM (c_J5_setLength_d00df_z hM hB hc hc0) mt_J5_setLength_d00df sx_J4_333 dJ4_setLength_d00df_2 rfl rfl rfl rfl rfl ?_
  refine pm_mem (M' := pm_up M a (.inr (12, [.ref (z + b), .int 0, .int ml, .int 0]))) rfl ?_
  refine pm_stk (st' := []) rfl ?_
  exact pm_return B dJ4_setLength_d00df_5 rfl ⟨rfl, rfl, rfl⟩ rfl rfl
set_option maxRecDepth 100000 in
set_option maxHeartbeats 4000000 in
theorem c_J5_setLength_d00df_p {l : Launch} {z : Nat} {D : va_G} {kA : Nat → ClassId} {kE : Nat → Nat} {nx : Nat} {M : pm_M} {a b c : Nat} {ml : Int32} {f : Nat → Int32} (hM : M a = some (.inr (12, [.ref (z + b), .int 0, .int ml, .int (nI c)]))) (hB : M b = some (.inl (kA 4, 16, .inl f))) (hc : c ≤ 16) (hc0 : 0 < c) : pm_C l z D kA kE yJ5_setLength_d00df cJ5_setLength_d00df 2 none 1 0 0 [.ref (z + a), .int 0] nx M (pm_rt none nx (pm_up M a (.inr (12, [.ref (z + b), .int 0, .int 1, .int 0])))) := by
  refine pm_mk (own := RJ5) (nm := "setLength") mt_J5_setLength_d00df rfl rfl rfl rfl fun X B => ?_
  refine pm_loc (L' := [some (.ref (z + a)), some (.int 0)]) rfl ?_
  refine pm_iload_n B dJ5_setLength_d00df_0 rfl ?_
  refine pm_if_ge (tgt := 13) B dJ5_setLength_d00df_1 (by decide) (fun hq1 => ?_) (fun hq1 => absurd (by decide) hq1)
  refine pm_aload_n B dJ5_setLength_d00df_13 rfl ?_
  refine pm_iload_n B dJ5_setLength_d00df_14 rfl ?_
  refine pm_cP (As := [.int 0]) (mc2 := 0) (ms2 := 0) B rfl hM rfl (c_J5_ensureCapacityInternal_d00df (x := 0) hM hB (by omega)) mt_J5_ensureCapacityInternal_d00df sp_J5_100 dJ5_setLength_d00df_15 rfl rfl rfl rfl rfl ?_
  refine pm_stk (st' := []) rfl ?_
  refine pm_aload_n B dJ5_setLength_d00df_18 rfl ?_
  refine pm_get B dJ5_setLength_d00df_19 fl_J5_79 hM rfl ?_
  refine pm_iload_n B dJ5_setLength_d00df_22 rfl ?_
  refine pm_icmp_ge (tgt := 63) B dJ5_setLength_d00df_23 (by decide) (fun hq2 => ?_) (fun hq2 => absurd (pm_ge0 (by omega)) hq2)
  refine pm_aload_n B dJ5_setLength_d00df_63 rfl ?_
  refine pm_get B dJ5_setLength_d00df_64 fl_J5_79 hM rfl ?_
  refine pm_iload_n B dJ5_setLength_d00df_67 rfl ?_
  refine pm_icmp_le (tgt := 76) B dJ5_setLength_d00df_68 (by decide) (fun hq3 => absurd hq3 (nI_nle (by omega) (by omega))) (fun hq3 => ?_)
  refine pm_aload_n B dJ5_setLength_d00df_71 rfl ?_
  refine pm_iconst (v := 1) B dJ5_setLength_d00df_72 (by decide) ?_
  refine pm_put B dJ5_setLength_d00df_73 fs_J5_73 hM rfl rfl rfl ?_
  refine pm_mem (M' := pm_up M a (.inr (12, [.ref (z + b), .int 0, .int 1, .int (nI c)]))) rfl ?_
  refine pm_aload_n B dJ5_setLength_d00df_76 rfl ?_
  refine pm_iload_n B dJ5_setLength_d00df_77 rfl ?_
  refine pm_put B dJ5_setLength_d00df_78 fs_J5_79 pm_up_s rfl rfl rfl ?_
  refine pm_mem (M' := pm_up M a (.inr (12, [.ref (z + b), .int 0, .int 1, .int 0]))) pm_up_up ?_
  exact pm_return B dJ5_setLength_d00df_81 rfl ⟨rfl, rfl, rfl⟩ rfl rfl
set_option maxRecDepth 100000 in
set_option maxHeartbeats 4000000 in
theorem c_J4_setLength_d00df_p {l : Launch} {z : Nat} {D : va_G} {kA : Nat → ClassId} {kE : Nat → Nat} {nx : Nat} {M : pm_M} {a b c : Nat} {ml : Int32} {f : Nat → Int32} (hM : M a = some (.inr (12, [.ref (z + b), .int 0, .int ml, .int (nI c)]))) (hB : M b = some (.inl (kA 4, 16, .inl f))) (hc : c ≤ 16) (hc0 : 0 < c) : pm_C l z D kA kE yJ4_setLength_d00df cJ4_setLength_d00df 2 none 2 0 0 [.ref (z + a), .int 0] nx M (pm_rt none nx (pm_up M a (.inr (12, [.ref (z + b), .int 0, .int 1, .int 0])))) := by
  refine pm_mk (own := RJ4) (nm := "setLength") mt_J4_setLength_d00df rfl rfl rfl rfl fun X B => ?_
  refine pm_loc (L' := [some (.ref (z + a)), some (.int 0)]) rfl ?_
  refine pm_aload_n B dJ4_setLength_d00df_0 rfl ?_
  refine pm_iload_n B dJ4_setLength_d00df_1 rfl ?_
  refine pm_cX (As := [.int 0]) (mc2 := 0) (ms2 := 0) B rfl hM (c_J5_setLength_d00df_p hM hB hc hc0) mt_J5_setLength_d00df sx_J4_333 dJ4_setLength_d00df_2 rfl rfl rfl rfl rfl ?_
  refine pm_mem (M' := pm_up M a (.inr (12, [.ref (z + b), .int 0, .int 1, .int 0]))) rfl ?_
  refine pm_stk (st' := []) rfl ?_
  exact pm_return B dJ4_setLength_d00df_5 rfl ⟨rfl, rfl, rfl⟩ rfl rfl
set_option maxRecDepth 100000 in
set_option maxHeartbeats 4000000 in
theorem c_J5_length_8abf5 {l : Launch} {z : Nat} {D : va_G} {kA : Nat → ClassId} {kE : Nat → Nat} {nx : Nat} {M : pm_M} {a b c : Nat} {ml : Int32} (hM : M a = some (.inr (12, [.ref (z + b), .int 0, .int ml, .int (nI c)]))) : pm_C l z D kA kE yJ5_length_8abf5 cJ5_length_8abf5 1 (some .int) 0 0 0 [.ref (z + a)] nx M (pm_rt (some (.int (nI c))) nx M) := by
  refine pm_mk (own := RJ5) (nm := "length") mt_J5_length_8abf5 rfl rfl rfl rfl fun X B => ?_
  refine pm_loc (L' := [some (.ref (z + a))]) rfl ?_
  refine pm_aload_n B dJ5_length_8abf5_0 rfl ?_
  refine pm_get B dJ5_length_8abf5_1 fl_J5_79 hM rfl ?_
  exact pm_ireturn B dJ5_length_8abf5_4 rfl (by first | rfl | (apply pm_nz; first | assumption | decide | exact pm_in01 _ _ _ | simp)) ⟨rfl, rfl, rfl⟩ rfl rfl
theorem sx_J4_343 : pm_SX RJ4 343 yJ5_length_8abf5 := ⟨pm_T_in 1348 (by decide +kernel) (by decide +kernel), pm_T_in 1344 (by decide +kernel) (by decide +kernel), pm_T_in 332 (by decide +kernel) (by decide +kernel), pm_T_in 1343 (by decide +kernel) (by decide +kernel), by decide⟩
set_option maxRecDepth 100000 in
set_option maxHeartbeats 4000000 in
theorem c_J4_length_8abf5 {l : Launch} {z : Nat} {D : va_G} {kA : Nat → ClassId} {kE : Nat → Nat} {nx : Nat} {M : pm_M} {a b c : Nat} {ml : Int32} (hM : M a = some (.inr (12, [.ref (z + b), .int 0, .int ml, .int (nI c)]))) : pm_C l z D kA kE yJ4_length_8abf5 cJ4_length_8abf5 1 (some .int) 1 0 0 [.ref (z + a)] nx M (pm_rt (some (.int (nI c))) nx M) := by
  refine pm_mk (own := RJ4) (nm := "length") mt_J4_length_8abf5 rfl rfl rfl rfl fun X B => ?_
  refine pm_loc (L' := [some (.ref (z + a))]) rfl ?_
  refine pm_aload_n B dJ4_length_8abf5_0 rfl ?_
  refine pm_cX (As := []) (mc2 := 0) (ms2 := 0) B rfl hM (c_J5_length_8abf5 hM) mt_J5_length_8abf5 sx_J4_343 dJ4_length_8abf5_1 rfl rfl rfl rfl rfl ?_
  refine pm_stk (st' := [.int (nI c)]) rfl ?_
  exact pm_ireturn B dJ4_length_8abf5_4 rfl (by first | rfl | (apply pm_nz; first | assumption | decide | exact pm_in01 _ _ _ | simp)) ⟨rfl, rfl, rfl⟩ rfl rfl
