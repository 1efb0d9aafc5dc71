/-! what lies below z: constants, texts -/
section PLO
variable {l : Launch} {z : Nat} {D : va_G} {kA : Nat → ClassId} {kE : Nat → Nat} {own : String} {cc : ByteArray} {nL : Nat} {ret : Option FieldType} {nm : String} {tb : List ExceptionTableEntry} {d mc ms : Nat} {X : pm_X} {cu su : Nat} {Q : State → Prop} {nx : Nat} {M : pm_M} {pc : Nat} {L : List (Option Value)} {st : List Value}
variable {index : Nat} {y : MethodName} {cc2 : ByteArray} {nL2 n2 d2 mc2 ms2 : Nat} {ret2 : Option FieldType} {As : List Value} {post : pm_Po}
theorem pm_kx (B : pm_B l z D kA kE own cc nL ret nm tb d mc ms X) : pm_Kx z kE X.2.2.2.1 X.2.2.2.1.heap := by
  obtain ⟨hx, hb, hml, hown, hts, hr, hlk, hK, hnm, htb, hrm, hz, hcs⟩ := B
  exact hcs.2.2.2.2.1
/-- a static that is known -/
theorem pm_gets (B : pm_B l z D kA kE own cc nL ret nm tb d mc ms X) {C n d1 : String} {v : Value} (hZ : ∀ U H, pm_Kx z kE U H → va_Z C n d1 v (fun q => z ≤ q) U H) (hw : Cond.fieldLink own index C n d1 ∈ pm_T) (hd : decode cc pc = .ok (.getstatic index, 3))
    (k : pm_G l z D X cu su Q nx M (pc + 3) L (v :: st)) : pm_G l z D X cu su Q nx M pc L st := by
  obtain ⟨hx, hb, hml, hown, hts, hr, hlk, hK, hnm, htb, ⟨hrf, hrl, hrc, hrs⟩, hz, hcs⟩ := id B
  obtain ⟨p, e, R, s, m, args, below, meth, c⟩ := X
  intro H locs ls hR hS hl
  exact va_gets hx hb (hZ _ _ hcs.2.2.2.2.1) hS hown (hts _ hw) (fun _ h => h) hd (k H locs ls hR hS hl)
/-- a static of which only this is known, that it is a reference or null -/
theorem pm_getsq (B : pm_B l z D kA kE own cc nL ret nm tb d mc ms X) {C n d1 : String} (hZ : ∀ U H, pm_Kx z kE U H → va_Zq C n d1 (fun q => z ≤ q) U H) (hw : Cond.fieldLink own index C n d1 ∈ pm_T) (hd : decode cc pc = .ok (.getstatic index, 3))
    (k : ∀ v : Value, v = .null ∨ (∃ t : Nat, v = .ref t) → pm_G l z D X cu su Q nx M (pc + 3) L (v :: st)) : pm_G l z D X cu su Q nx M pc L st := by
  obtain ⟨hx, hb, hml, hown, hts, hr, hlk, hK, hnm, htb, ⟨hrf, hrl, hrc, hrs⟩, hz, hcs⟩ := id B
  obtain ⟨p, e, R, s, m, args, below, meth, c⟩ := X
  intro H locs ls hR hS hl
  rcases hZ _ _ hcs.2.2.2.2.1 with h | ⟨t, h⟩
  · exact va_gets hx hb h hS hown (hts _ hw) (fun _ h => h) hd (k _ (Or.inl rfl) H locs ls hR hS hl)
  · exact va_gets hx hb h hS hown (hts _ hw) (fun _ h => h) hd (k _ (Or.inr ⟨t, rfl⟩) H locs ls hR hS hl)
/-- a field of an object below z -/
theorem pm_getL (B : pm_B l z D kA kE own cc nL ret nm tb d mc ms X) {C n d1 : String} {v : Value} {a : Nat} (hZ : ∀ U H, pm_Kx z kE U H → va_OF C n d1 v a (fun q => z ≤ q) U H) (hw : Cond.fieldLink own index C n d1 ∈ pm_T) (hd : decode cc pc = .ok (.getfield index, 3))
    (k : pm_G l z D X cu su Q nx M (pc + 3) L (v :: st)) : pm_G l z D X cu su Q nx M pc L (.ref a :: st) := by
  obtain ⟨hx, hb, hml, hown, hts, hr, hlk, hK, hnm, htb, ⟨hrf, hrl, hrc, hrs⟩, hz, hcs⟩ := id B
  obtain ⟨p, e, R, s, m, args, below, meth, c⟩ := X
  intro H locs ls hR hS hl
  exact vk_getf hx hb (hZ _ _ hcs.2.2.2.2.1) hS hown (hts _ hw) (fun _ h => h) hd (k H locs ls hR hS hl)
theorem pm_lnL (B : pm_B l z D kA kE own cc nL ret nm tb d mc ms X) {ty : FieldType} {a N : Nat} {f : Nat → Value} {v : Int32} (hZ : ∀ U H, pm_Kx z kE U H → va_T ty a N f (fun q => z ≤ q) U H) (hv : Int32.ofNat N = v) (hd : decode cc pc = .ok (.arraylength, 1))
    (k : pm_G l z D X cu su Q nx M (pc + 1) L (.int v :: st)) : pm_G l z D X cu su Q nx M pc L (.ref a :: st) := by
  obtain ⟨hx, hb, hml, hown, hts, hr, hlk, hK, hnm, htb, ⟨hrf, hrl, hrc, hrs⟩, hz, hcs⟩ := id B
  obtain ⟨p, e, R, s, m, args, below, meth, c⟩ := X
  intro H locs ls hR hS hl
  exact va_tlen hx hb (hZ _ _ hcs.2.2.2.2.1) hS hv hd (k H locs ls hR hS hl)
theorem pm_tiL (B : pm_B l z D kA kE own cc nL ret nm tb d mc ms X) {a N : Nat} {f : Nat → Value} (hZ : ∀ U H, pm_Kx z kE U H → va_T .int a N f (fun q => z ≤ q) U H) (i : Nat) {v : Value} (hi : i < N) (hN : N < 2147483648) (hv : f i = v) (hd : decode cc pc = .ok (.iaload, 1))
    (k : pm_G l z D X cu su Q nx M (pc + 1) L (v :: st)) : pm_G l z D X cu su Q nx M pc L (.int (nI i) :: .ref a :: st) := by
  obtain ⟨hx, hb, hml, hown, hts, hr, hlk, hK, hnm, htb, ⟨hrf, hrl, hrc, hrs⟩, hz, hcs⟩ := id B
  obtain ⟨p, e, R, s, m, args, below, meth, c⟩ := X
  intro H locs ls hR hS hl
  exact va_ti hx hb (hZ _ _ hcs.2.2.2.2.1) hS (pm_inj hi hN) (by rw [pm_cln hi hN]; exact hv) hd (k H locs ls hR hS hl)
theorem pm_tbL (B : pm_B l z D kA kE own cc nL ret nm tb d mc ms X) {a N : Nat} {f : Nat → Value} (hZ : ∀ U H, pm_Kx z kE U H → va_T .byte a N f (fun q => z ≤ q) U H) (i : Nat) {v : Value} (hi : i < N) (hN : N < 2147483648) (hv : f i = v) (hd : decode cc pc = .ok (.baload, 1))
    (k : pm_G l z D X cu su Q nx M (pc + 1) L (v :: st)) : pm_G l z D X cu su Q nx M pc L (.int (nI i) :: .ref a :: st) := by
  obtain ⟨hx, hb, hml, hown, hts, hr, hlk, hK, hnm, htb, ⟨hrf, hrl, hrc, hrs⟩, hz, hcs⟩ := id B
  obtain ⟨p, e, R, s, m, args, below, meth, c⟩ := X
  intro H locs ls hR hS hl
  exact va_tb hx hb (hZ _ _ hcs.2.2.2.2.1) hS (pm_inj hi hN) (by rw [pm_cln hi hN]; exact hv) hd (k H locs ls hR hS hl)
theorem pm_taL (B : pm_B l z D kA kE own cc nL ret nm tb d mc ms X) {a N : Nat} {C : String} {f : Nat → Value} (hZ : ∀ U H, pm_Kx z kE U H → va_T (.object C) a N f (fun q => z ≤ q) U H) (i : Nat) {v : Value} (hi : i < N) (hN : N < 2147483648) (hv : f i = v) (hd : decode cc pc = .ok (.aaload, 1))
    (k : pm_G l z D X cu su Q nx M (pc + 1) L (v :: st)) : pm_G l z D X cu su Q nx M pc L (.int (nI i) :: .ref a :: st) := by
  obtain ⟨hx, hb, hml, hown, hts, hr, hlk, hK, hnm, htb, ⟨hrf, hrl, hrc, hrs⟩, hz, hcs⟩ := id B
  obtain ⟨p, e, R, s, m, args, below, meth, c⟩ := X
  intro H locs ls hR hS hl
  exact vb_tq hx hb (hZ _ _ hcs.2.2.2.2.1) hS (pm_inj hi hN) (by rw [pm_cln hi hN]; exact hv) hd (k H locs ls hR hS hl)
/-- a text -/
theorem pm_ldcS (B : pm_B l z D kA kE own cc nL ret nm tb d mc ms X) {tx : String} {a : Nat} (hZ : ∀ U H, pm_Kx z kE U H → vk_R own index tx a U) (hd : decode cc pc = .ok (.ldc index, 2))
    (k : pm_G l z D X cu su Q nx M (pc + 2) L (.ref a :: st)) : pm_G l z D X cu su Q nx M pc L st := by
  obtain ⟨hx, hb, hml, hown, hts, hr, hlk, hK, hnm, htb, ⟨hrf, hrl, hrc, hrs⟩, hz, hcs⟩ := id B
  obtain ⟨p, e, R, s, m, args, below, meth, c⟩ := X
  intro H locs ls hR hS hl
  exact va_ldcS hx hb hown (hZ _ _ hcs.2.2.2.2.1) hd (k H locs ls hR hS hl)
/-- a call on an object below z -/
theorem pm_callVL (B : pm_B l z D kA kE own cc nL ret nm tb d mc ms X) {a : Nat} (hO : ∀ U H, pm_Kx z kE U H → va_O y.cls a (fun q => z ≤ q) U H) (hC : pm_C l z D kA kE y cc2 nL2 ret2 d2 mc2 ms2 (.ref a :: As) nx M post) (hm : pm_Mt y cc2 nL2 ret2 n2) (hs : pm_SV own index y) (hd : decode cc pc = .ok (.invokevirtual index, 3)) (hn : As.length = n2) (hd2 : Nat.ble (d2 + 1) d = true) (hst : Nat.ble ((st.map fun v => v.category).sum) 8 = true) (hcu : Nat.ble (cu + mc2) mc = true) (hsu : Nat.ble (su + ms2) ms = true)
    (kx : ∀ (E : String) (n' : Nat) (M' : pm_M), post (.inr E) n' M' → pm_GX l z D X (cu + mc2) (su + ms2) Q n' M' pc L E)
    (k : ∀ (v : Option Value) (n' : Nat) (M' : pm_M), post (.inl v) n' M' → pm_G l z D X (cu + mc2) (su + ms2) Q n' M' (pc + 3) L (v.toList ++ st)) : pm_G l z D X cu su Q nx M pc L (As.reverse ++ .ref a :: st) := by
  obtain ⟨hx, hb, hml, hown, hts, hr, hlk, hK, hnm, htb, ⟨hrf, hrl, hrc, hrs⟩, hz, hcs⟩ := id B
  obtain ⟨p, e, R, s, m, args, below, meth, c⟩ := X
  intro H locs ls hR hS hl
  have h1 := Nat.le_of_ble_eq_true hd2
  have h2 := Nat.le_of_ble_eq_true hcu
  have h3 := Nat.le_of_ble_eq_true hsu
  have h27 := hm.2.2.2.2
  have hroom : (pm_rm d2 mc2 ms2).frames + 1 ≤ R.frames ∧ 8 + (nL2 + 11) + (pm_rm d2 mc2 ms2).locals ≤ R.locals := by
    simp only [pm_rm] at hrf hrl ⊢
    omega
  have cw : CallW R s args own y.cls index y cc2 nL2 ret2 (Cond.code y cc2 nL2 ret2 :: pm_T) (pm_rm d2 mc2 ms2) mc2 ms2 n2 := ⟨callB_of n2 hts (pm_good hm) rfl rfl rfl (hts _ hm.2.1) (hts _ hs.1) hm.2.2.1 hroom, hts _ hs.2.1, hts _ hs.2.2⟩
  exact pm_after (vx_runV ⟨hx, hb, hml, hown, hts⟩ hC cw ⟨pm_Pc_blind, va_Orecv (hO _ _ hcs.2.2.2.2.1) hS, fun U hU hW => pm_Pc_at hR hS hK hcs hU hW⟩ rfl hn (by simp only at hml ⊢; rw [← hml]; exact hl.1) rfl (pm_sum_room rfl hst) hd ⟨by simp only at hrc ⊢; omega, by simp only at hrs ⊢; omega⟩) hz hR hS hl kx k
theorem pm_cVL (B : pm_B l z D kA kE own cc nL ret nm tb d mc ms X) {ov : Option Value} {n1 : Nat} {M1 : pm_M} {a : Nat} (hO : ∀ U H, pm_Kx z kE U H → va_O y.cls a (fun q => z ≤ q) U H) (hC : pm_C l z D kA kE y cc2 nL2 ret2 d2 mc2 ms2 (.ref a :: As) nx M (pm_rt ov n1 M1)) (hm : pm_Mt y cc2 nL2 ret2 n2) (hs : pm_SV own index y) (hd : decode cc pc = .ok (.invokevirtual index, 3)) (hn : As.length = n2) (hd2 : Nat.ble (d2 + 1) d = true) (hst : Nat.ble ((st.map fun v => v.category).sum) 8 = true) (hcu : Nat.ble (cu + mc2) mc = true) (hsu : Nat.ble (su + ms2) ms = true)
    (k : pm_G l z D X (cu + mc2) (su + ms2) Q n1 M1 (pc + 3) L (ov.toList ++ st)) : pm_G l z D X cu su Q nx M pc L (As.reverse ++ .ref a :: st) :=
  pm_callVL B hO hC hm hs hd hn hd2 hst hcu hsu (fun E n' M' h => (pm_rt_no E n' M' h).elim) (fun v n' M' h => by obtain ⟨h1, rfl, rfl⟩ := h; cases h1; exact k)
end PLO
abbrev RJ3 : String := "jdk/internal/util/Preconditions"
abbrev cJ3_checkIndex_8e157 : ByteArray := prog_46_method_11_code
def yJ3_checkIndex_8e157 : MethodName := ⟨RJ3, "checkIndex", "(IILjava/util/function/BiFunction;)I"⟩
theorem dJ3_checkIndex_8e157_0 : decode cJ3_checkIndex_8e157 0 = .ok (.iload_n 0, 1) := by decide +kernel
theorem dJ3_checkIndex_8e157_1 : decode cJ3_checkIndex_8e157 1 = .ok (.ifCond .lt 8, 3) := by decide +kernel
theorem dJ3_checkIndex_8e157_4 : decode cJ3_checkIndex_8e157 4 = .ok (.iload_n 0, 1) := by decide +kernel
theorem dJ3_checkIndex_8e157_5 : decode cJ3_checkIndex_8e157 5 = .ok (.iload_n 1, 1) := by decide +kernel
theorem dJ3_checkIndex_8e157_6 : decode cJ3_checkIndex_8e157 6 = .ok (.if_icmp .lt 10, 3) := by decide +kernel
theorem dJ3_checkIndex_8e157_9 : decode cJ3_checkIndex_8e157 9 = .ok (.aload_n 2, 1) := by decide +kernel
theorem dJ3_checkIndex_8e157_10 : decode cJ3_checkIndex_8e157 10 = .ok (.iload_n 0, 1) := by decide +kernel
theorem dJ3_checkIndex_8e157_11 : decode cJ3_checkIndex_8e157 11 = .ok (.iload_n 1, 1) := by decide +kernel
theorem dJ3_checkIndex_8e157_12 : decode cJ3_checkIndex_8e157 12 = .ok (.invokestatic 95, 3) := by decide +kernel
theorem dJ3_checkIndex_8e157_15 : decode cJ3_checkIndex_8e157 15 = .ok (.athrow, 1) := by decide +kernel
theorem dJ3_checkIndex_8e157_16 : decode cJ3_checkIndex_8e157 16 = .ok (.iload_n 0, 1) := by decide +kernel
theorem dJ3_checkIndex_8e157_17 : decode cJ3_checkIndex_8e157 17 = .ok (.ireturn, 1) := by decide +kernel
theorem mt_J3_checkIndex_8e157 : pm_Mt yJ3_checkIndex_8e157 cJ3_checkIndex_8e157 3 (some .int) 3 := ⟨pm_T_in 1471 (by decide +kernel) (by decide +kernel), pm_T_in 69 (by decide +kernel) (by decide +kernel), ⟨by decide +kernel, by decide +kernel, by decide +kernel⟩, by decide +kernel, by decide⟩
abbrev cJ0_checkIndex_df160 : ByteArray := prog_33_method_155_code
def yJ0_checkIndex_df160 : MethodName := ⟨RJ0, "checkIndex", "(II)V"⟩
theorem dJ0_checkIndex_df160_0 : decode cJ0_checkIndex_df160 0 = .ok (.iload_n 0, 1) := by decide +kernel
theorem dJ0_checkIndex_df160_1 : decode cJ0_checkIndex_df160 1 = .ok (.iload_n 1, 1) := by decide +kernel
theorem dJ0_checkIndex_df160_2 : decode cJ0_checkIndex_df160 2 = .ok (.getstatic 1053, 3) := by decide +kernel
theorem dJ0_checkIndex_df160_5 : decode cJ0_checkIndex_df160 5 = .ok (.invokestatic 1059, 3) := by decide +kernel
theorem dJ0_checkIndex_df160_8 : decode cJ0_checkIndex_df160 8 = .ok (.pop, 1) := by decide +kernel
theorem dJ0_checkIndex_df160_9 : decode cJ0_checkIndex_df160 9 = .ok (.return_, 1) := by decide +kernel
theorem mt_J0_checkIndex_df160 : pm_Mt yJ0_checkIndex_df160 cJ0_checkIndex_df160 2 none 2 := ⟨pm_T_in 1468 (by decide +kernel) (by decide +kernel), pm_T_in 47 (by decide +kernel) (by decide +kernel), ⟨by decide +kernel, by decide +kernel, by decide +kernel⟩, by decide +kernel, by decide⟩
abbrev RJ1 : String := "java/lang/StringLatin1"
abbrev cJ1_charAt_3b067 : ByteArray := prog_36_method_2_code
def yJ1_charAt_3b067 : MethodName := ⟨RJ1, "charAt", "([BI)C"⟩
theorem dJ1_charAt_3b067_0 : decode cJ1_charAt_3b067 0 = .ok (.iload_n 1, 1) := by decide +kernel
theorem dJ1_charAt_3b067_1 : decode cJ1_charAt_3b067 1 = .ok (.aload_n 0, 1) := by decide +kernel
theorem dJ1_charAt_3b067_2 : decode cJ1_charAt_3b067 2 = .ok (.arraylength, 1) := by decide +kernel
theorem dJ1_charAt_3b067_3 : decode cJ1_charAt_3b067 3 = .ok (.invokestatic 9, 3) := by decide +kernel
theorem dJ1_charAt_3b067_6 : decode cJ1_charAt_3b067 6 = .ok (.aload_n 0, 1) := by decide +kernel
theorem dJ1_charAt_3b067_7 : decode cJ1_charAt_3b067 7 = .ok (.iload_n 1, 1) := by decide +kernel
theorem dJ1_charAt_3b067_8 : decode cJ1_charAt_3b067 8 = .ok (.baload, 1) := by decide +kernel
theorem dJ1_charAt_3b067_9 : decode cJ1_charAt_3b067 9 = .ok (.sipush 255, 3) := by decide +kernel
theorem dJ1_charAt_3b067_12 : decode cJ1_charAt_3b067 12 = .ok (.iand, 1) := by decide +kernel
theorem dJ1_charAt_3b067_13 : decode cJ1_charAt_3b067 13 = .ok (.i2c, 1) := by decide +kernel
theorem dJ1_charAt_3b067_14 : decode cJ1_charAt_3b067 14 = .ok (.ireturn, 1) := by decide +kernel
theorem mt_J1_charAt_3b067 : pm_Mt yJ1_charAt_3b067 cJ1_charAt_3b067 2 (some .char) 2 := ⟨pm_T_in 1505 (by decide +kernel) (by decide +kernel), pm_T_in 70 (by decide +kernel) (by decide +kernel), ⟨by decide +kernel, by decide +kernel, by decide +kernel⟩, by decide +kernel, by decide⟩
abbrev cJ0_coder_7d493 : ByteArray := prog_33_method_152_code
def yJ0_coder_7d493 : MethodName := ⟨RJ0, "coder", "()B"⟩
theorem dJ0_coder_7d493_0 : decode cJ0_coder_7d493 0 = .ok (.getstatic 38, 3) := by decide +kernel
theorem dJ0_coder_7d493_3 : decode cJ0_coder_7d493 3 = .ok (.ifCond .eq 10, 3) := by decide +kernel
theorem dJ0_coder_7d493_6 : decode cJ0_coder_7d493 6 = .ok (.aload_n 0, 1) := by decide +kernel
theorem dJ0_coder_7d493_7 : decode cJ0_coder_7d493 7 = .ok (.getfield 15, 3) := by decide +kernel
theorem dJ0_coder_7d493_10 : decode cJ0_coder_7d493 10 = .ok (.goto 4, 3) := by decide +kernel
theorem dJ0_coder_7d493_13 : decode cJ0_coder_7d493 13 = .ok (.iconst 1, 1) := by decide +kernel
theorem dJ0_coder_7d493_14 : decode cJ0_coder_7d493 14 = .ok (.ireturn, 1) := by decide +kernel
theorem mt_J0_coder_7d493 : pm_Mt yJ0_coder_7d493 cJ0_coder_7d493 1 (some .byte) 0 := ⟨pm_T_in 1287 (by decide +kernel) (by decide +kernel), pm_T_in 47 (by decide +kernel) (by decide +kernel), ⟨by decide +kernel, by decide +kernel, by decide +kernel⟩, by decide +kernel, by decide⟩
abbrev cJ0_isLatin1_aae02 : ByteArray := prog_33_method_154_code
def yJ0_isLatin1_aae02 : MethodName := ⟨RJ0, "isLatin1", "()Z"⟩
theorem dJ0_isLatin1_aae02_0 : decode cJ0_isLatin1_aae02 0 = .ok (.getstatic 38, 3) := by decide +kernel
theorem dJ0_isLatin1_aae02_3 : decode cJ0_isLatin1_aae02 3 = .ok (.ifCond .eq 14, 3) := by decide +kernel
theorem dJ0_isLatin1_aae02_6 : decode cJ0_isLatin1_aae02 6 = .ok (.aload_n 0, 1) := by decide +kernel
theorem dJ0_isLatin1_aae02_7 : decode cJ0_isLatin1_aae02 7 = .ok (.getfield 15, 3) := by decide +kernel
theorem dJ0_isLatin1_aae02_10 : decode cJ0_isLatin1_aae02 10 = .ok (.ifCond .ne 7, 3) := by decide +kernel
theorem dJ0_isLatin1_aae02_13 : decode cJ0_isLatin1_aae02 13 = .ok (.iconst 1, 1) := by decide +kernel
theorem dJ0_isLatin1_aae02_14 : decode cJ0_isLatin1_aae02 14 = .ok (.goto 4, 3) := by decide +kernel
theorem dJ0_isLatin1_aae02_17 : decode cJ0_isLatin1_aae02 17 = .ok (.iconst 0, 1) := by decide +kernel
theorem dJ0_isLatin1_aae02_18 : decode cJ0_isLatin1_aae02 18 = .ok (.ireturn, 1) := by decide +kernel
theorem mt_J0_isLatin1_aae02 : pm_Mt yJ0_isLatin1_aae02 cJ0_isLatin1_aae02 1 (some .boolean) 0 := ⟨pm_T_in 1502 (by decide +kernel) (by decide +kernel), pm_T_in 47 (by decide +kernel) (by decide +kernel), ⟨by decide +kernel, by decide +kernel, by decide +kernel⟩, by decide +kernel, by decide⟩
abbrev cJ0_length_8abf5 : ByteArray := prog_33_method_54_code
def yJ0_length_8abf5 : MethodName := ⟨RJ0, "length", "()I"⟩
theorem dJ0_length_8abf5_0 : decode cJ0_length_8abf5 0 = .ok (.aload_n 0, 1) := by decide +kernel
theorem dJ0_length_8abf5_1 : decode cJ0_length_8abf5 1 = .ok (.getfield 9, 3) := by decide +kernel
theorem dJ0_length_8abf5_4 : decode cJ0_length_8abf5 4 = .ok (.arraylength, 1) := by decide +kernel
theorem dJ0_length_8abf5_5 : decode cJ0_length_8abf5 5 = .ok (.aload_n 0, 1) := by decide +kernel
theorem dJ0_length_8abf5_6 : decode cJ0_length_8abf5 6 = .ok (.invokevirtual 335, 3) := by decide +kernel
theorem dJ0_length_8abf5_9 : decode cJ0_length_8abf5 9 = .ok (.ishr, 1) := by decide +kernel
theorem dJ0_length_8abf5_10 : decode cJ0_length_8abf5 10 = .ok (.ireturn, 1) := by decide +kernel
theorem mt_J0_length_8abf5 : pm_Mt yJ0_length_8abf5 cJ0_length_8abf5 1 (some .int) 0 := ⟨pm_T_in 1283 (by decide +kernel) (by decide +kernel), pm_T_in 47 (by decide +kernel) (by decide +kernel), ⟨by decide +kernel, by decide +kernel, by decide +kernel⟩, by decide +kernel, by decide⟩
abbrev cJ0_charAt_5068e : ByteArray := prog_33_method_56_code
def yJ0_charAt_5068e : MethodName := ⟨RJ0, "charAt", "(I)C"⟩
theorem dJ0_charAt_5068e_0 : decode cJ0_charAt_5068e 0 = .ok (.aload_n 0, 1) := by decide +kernel
theorem dJ0_charAt_5068e_1 : decode cJ0_charAt_5068e 1 = .ok (.invokevirtual 492, 3) := by decide +kernel
theorem dJ0_charAt_5068e_4 : decode cJ0_charAt_5068e 4 = .ok (.ifCond .eq 12, 3) := by decide +kernel
theorem dJ0_charAt_5068e_7 : decode cJ0_charAt_5068e 7 = .ok (.aload_n 0, 1) := by decide +kernel
theorem dJ0_charAt_5068e_8 : decode cJ0_charAt_5068e 8 = .ok (.getfield 9, 3) := by decide +kernel
theorem dJ0_charAt_5068e_11 : decode cJ0_charAt_5068e 11 = .ok (.iload_n 1, 1) := by decide +kernel
theorem dJ0_charAt_5068e_12 : decode cJ0_charAt_5068e 12 = .ok (.invokestatic 495, 3) := by decide +kernel
theorem dJ0_charAt_5068e_15 : decode cJ0_charAt_5068e 15 = .ok (.ireturn, 1) := by decide +kernel
theorem dJ0_charAt_5068e_16 : decode cJ0_charAt_5068e 16 = .ok (.aload_n 0, 1) := by decide +kernel
theorem dJ0_charAt_5068e_17 : decode cJ0_charAt_5068e 17 = .ok (.getfield 9, 3) := by decide +kernel
theorem dJ0_charAt_5068e_20 : decode cJ0_charAt_5068e 20 = .ok (.iload_n 1, 1) := by decide +kernel
theorem dJ0_charAt_5068e_21 : decode cJ0_charAt_5068e 21 = .ok (.invokestatic 498, 3) := by decide +kernel
theorem dJ0_charAt_5068e_24 : decode cJ0_charAt_5068e 24 = .ok (.ireturn, 1) := by decide +kernel
theorem mt_J0_charAt_5068e : pm_Mt yJ0_charAt_5068e cJ0_charAt_5068e 2 (some .char) 1 := ⟨pm_T_in 1498 (by decide +kernel) (by decide +kernel), pm_T_in 47 (by decide +kernel) (by decide +kernel), ⟨by decide +kernel, by decide +kernel, by decide +kernel⟩, by decide +kernel, by decide⟩
theorem ss_J0_1059 : pm_SS RJ0 1059 yJ3_checkIndex_8e157 := ⟨pm_T_in 1469 (by decide +kernel) (by decide +kernel), pm_T_in 1470 (by decide +kernel) (by decide +kernel)⟩
theorem ss_J1_9 : pm_SS RJ1 9 yJ0_checkIndex_df160 := ⟨pm_T_in 1506 (by decide +kernel) (by decide +kernel), pm_T_in 1467 (by decide +kernel) (by decide +kernel)⟩
theorem ss_J0_495 : pm_SS RJ0 495 yJ1_charAt_3b067 := ⟨pm_T_in 1503 (by decide +kernel) (by decide +kernel), pm_T_in 1504 (by decide +kernel) (by decide +kernel)⟩
theorem sv_J0_335 : pm_SV RJ0 335 yJ0_coder_7d493 := ⟨pm_T_in 1284 (by decide +kernel) (by decide +kernel), pm_T_in 1285 (by decide +kernel) (by decide +kernel), pm_T_in 1286 (by decide +kernel) (by decide +kernel)⟩
theorem sv_J0_492 : pm_SV RJ0 492 yJ0_isLatin1_aae02 := ⟨pm_T_in 1499 (by decide +kernel) (by decide +kernel), pm_T_in 1500 (by decide +kernel) (by decide +kernel), pm_T_in 1501 (by decide +kernel) (by decide +kernel)⟩
theorem c_J3_checkIndex_8e157 {l : Launch} {z : Nat} {D : va_G} {kA : Nat → ClassId} {kE : Nat → Nat} {nx : Nat} {M : pm_M} {i n : Nat} {v : Value} (hv : v = .null ∨ (∃ t : Nat, v = .ref t)) (hi : i < n) (hn : n < 2147483648) : pm_C l z D kA kE yJ3_checkIndex_8e157 cJ3_checkIndex_8e157 3 (some .int) 0 0 0 [.int (nI i), .int (nI n), v] nx M (pm_rt (some (.int (nI i))) nx M) := by
  have hc : v.category = 1 := by rcases hv with rfl | ⟨t, rfl⟩ <;> rfl
  refine pm_mk (own := RJ3) (nm := "checkIndex") mt_J3_checkIndex_8e157 rfl rfl (by rcases hv with rfl | ⟨t, rfl⟩ <;> rfl) rfl fun X B => ?_
  refine pm_loc (L' := [some (.int (nI i)), some (.int (nI n)), some v]) rfl ?_
  refine pm_iload_n B dJ3_checkIndex_8e157_0 rfl ?_
  refine pm_if_lt (tgt := 9) B dJ3_checkIndex_8e157_1 (by decide) (fun h => absurd h (nI_pos (by omega))) (fun _ => ?_)
  refine pm_iload_n B dJ3_checkIndex_8e157_4 rfl ?_
  refine pm_iload_n B dJ3_checkIndex_8e157_5 rfl ?_
  refine pm_icmp_lt (tgt := 16) B dJ3_checkIndex_8e157_6 (by decide) (fun _ => ?_) (fun h => absurd (nI_lt hi (by omega)) h)
  refine pm_iload_n B dJ3_checkIndex_8e157_16 rfl ?_
  exact pm_ireturn B dJ3_checkIndex_8e157_17 rfl rfl ⟨rfl, rfl, rfl⟩ rfl rfl
theorem c_J0_checkIndex_df160 {l : Launch} {z : Nat} {D : va_G} {kA : Nat → ClassId} {kE : Nat → Nat} {nx : Nat} {M : pm_M} {i n : Nat} (hi : i < n) (hn : n < 2147483648) : pm_C l z D kA kE yJ0_checkIndex_df160 cJ0_checkIndex_df160 2 none 1 0 0 [.int (nI i), .int (nI n)] nx M (pm_rt none nx M) := by
  refine pm_mk (own := RJ0) (nm := "checkIndex") mt_J0_checkIndex_df160 rfl rfl rfl rfl fun X B => ?_
  refine pm_loc (L' := [some (.int (nI i)), some (.int (nI n))]) rfl ?_
  refine pm_iload_n B dJ0_checkIndex_df160_0 rfl ?_
  refine pm_iload_n B dJ0_checkIndex_df160_1 rfl ?_
  refine pm_getsq B (fun U H h => h.2.2.2.2.2.2.2) (pm_T_in 1246 (by decide +kernel) (by decide +kernel)) dJ0_checkIndex_df160_2 (fun v hv => ?_)
  refine pm_cS (As := [.int (nI i), .int (nI n), v]) (mc2 := 0) (ms2 := 0) B (c_J3_checkIndex_8e157 hv hi hn) mt_J3_checkIndex_8e157 ss_J0_1059 dJ0_checkIndex_df160_5 rfl rfl rfl rfl rfl ?_
  refine pm_pop B dJ0_checkIndex_df160_8 rfl ?_
  exact pm_return B dJ0_checkIndex_df160_9 rfl ⟨rfl, rfl, rfl⟩ rfl rfl
theorem c_J1_charAt_3b067 {l : Launch} {z : Nat} {D : va_G} {kA : Nat → ClassId} {kE : Nat → Nat} {nx : Nat} {M : pm_M} {a N : Nat} {f : Nat → Int32} {i : Nat} (hZ : ∀ U H, pm_Kx z kE U H → va_T .byte a N (fun j => .int (f j)) (fun q => z ≤ q) U H) (hi : i < N) (hN : N < 2147483648) {q : Nat} (hq : f i = nI q) (hq2 : q < 256) : pm_C l z D kA kE yJ1_charAt_3b067 cJ1_charAt_3b067 2 (some .char) 2 0 0 [.ref a, .int (nI i)] nx M (pm_rt (some (.int (nI q))) nx M) := by
  refine pm_mk (own := RJ1) (nm := "charAt") mt_J1_charAt_3b067 rfl rfl rfl rfl fun X B => ?_
  refine pm_loc (L' := [some (.ref a), some (.int (nI i))]) rfl ?_
  refine pm_iload_n B dJ1_charAt_3b067_0 rfl ?_
  refine pm_aload_n B dJ1_charAt_3b067_1 rfl ?_
  refine pm_lnL B (v := nI N) hZ rfl dJ1_charAt_3b067_2 ?_
  refine pm_cS (As := [.int (nI i), .int (nI N)]) (mc2 := 0) (ms2 := 0) B (c_J0_checkIndex_df160 hi hN) mt_J0_checkIndex_df160 ss_J1_9 dJ1_charAt_3b067_3 rfl rfl rfl rfl rfl ?_
  refine pm_aload_n B dJ1_charAt_3b067_6 rfl ?_
  refine pm_iload_n B dJ1_charAt_3b067_7 rfl ?_
  refine pm_tbL B hZ i hi hN rfl dJ1_charAt_3b067_8 ?_
  refine pm_sipush (v := 255) B dJ1_charAt_3b067_9 (by decide) ?_
  refine pm_iand B dJ1_charAt_3b067_12 ?_
  refine pm_i2c B dJ1_charAt_3b067_13 ?_
  refine pm_stk (st' := [.int (nI q)]) (by rw [hq, pk_andN (by omega) 8 (by decide), pk_char, pk_tn (by omega), show q % 2 ^ 8 % 65536 = q by omega]; rfl) ?_
  exact pm_ireturn B dJ1_charAt_3b067_14 rfl (pk_charN (by omega)).1 ⟨rfl, rfl, rfl⟩ rfl rfl
theorem c_J0_coder_7d493 {l : Launch} {z : Nat} {D : va_G} {kA : Nat → ClassId} {kE : Nat → Nat} {nx : Nat} {M : pm_M} {a v : Nat} {bs : List Nat} (hZ : ∀ U H, pm_Kx z kE U H → pm_Str z bs a v U H) : pm_C l z D kA kE yJ0_coder_7d493 cJ0_coder_7d493 1 (some .byte) 0 0 0 [.ref a] nx M (pm_rt (some (.int 0)) nx M) := by
  refine pm_mk (own := RJ0) (nm := "coder") mt_J0_coder_7d493 rfl rfl rfl rfl fun X B => ?_
  refine pm_loc (L' := [some (.ref a)]) rfl ?_
  refine pm_gets B (fun U H h => h.2.2.2.2.1) (pm_T_in 1288 (by decide +kernel) (by decide +kernel)) dJ0_coder_7d493_0 ?_
  refine pm_if_eq (tgt := 13) B dJ0_coder_7d493_3 (by decide) (fun h => absurd h (by decide)) (fun _ => ?_)
  refine pm_aload_n B dJ0_coder_7d493_6 rfl ?_
  refine pm_getL B (fun U H h => (hZ U H h).2.1) (pm_T_in 1382 (by decide +kernel) (by decide +kernel)) dJ0_coder_7d493_7 ?_
  refine pm_goto (tgt := 14) B dJ0_coder_7d493_10 (by decide) ?_
  exact pm_ireturn B dJ0_coder_7d493_14 rfl rfl ⟨rfl, rfl, rfl⟩ rfl rfl
theorem c_J0_isLatin1_aae02 {l : Launch} {z : Nat} {D : va_G} {kA : Nat → ClassId} {kE : Nat → Nat} {nx : Nat} {M : pm_M} {a v : Nat} {bs : List Nat} (hZ : ∀ U H, pm_Kx z kE U H → pm_Str z bs a v U H) : pm_C l z D kA kE yJ0_isLatin1_aae02 cJ0_isLatin1_aae02 1 (some .boolean) 0 0 0 [.ref a] nx M (pm_rt (some (.int 1)) nx M) := by
  refine pm_mk (own := RJ0) (nm := "isLatin1") mt_J0_isLatin1_aae02 rfl rfl rfl rfl fun X B => ?_
  refine pm_loc (L' := [some (.ref a)]) rfl ?_
  refine pm_gets B (fun U H h => h.2.2.2.2.1) (pm_T_in 1288 (by decide +kernel) (by decide +kernel)) dJ0_isLatin1_aae02_0 ?_
  refine pm_if_eq (tgt := 17) B dJ0_isLatin1_aae02_3 (by decide) (fun h => absurd h (by decide)) (fun _ => ?_)
  refine pm_aload_n B dJ0_isLatin1_aae02_6 rfl ?_
  refine pm_getL B (fun U H h => (hZ U H h).2.1) (pm_T_in 1382 (by decide +kernel) (by decide +kernel)) dJ0_isLatin1_aae02_7 ?_
  refine pm_if_ne (tgt := 17) B dJ0_isLatin1_aae02_10 (by decide) (fun h => absurd rfl h) (fun _ => ?_)
  refine pm_iconst (v := 1) B dJ0_isLatin1_aae02_13 (by decide) ?_
  refine pm_goto (tgt := 18) B dJ0_isLatin1_aae02_14 (by decide) ?_
  exact pm_ireturn B dJ0_isLatin1_aae02_18 rfl rfl ⟨rfl, rfl, rfl⟩ rfl rfl
theorem pm_shr0 (n : Nat) (h : n < 2147483648) : nI n >>> ((0 : Int32) &&& 31) = nI n := by
  rw [pk_shrN h _ 0 (by decide)]; simp
/-- a text's length -/
theorem c_J0_length_8abf5 {l : Launch} {z : Nat} {D : va_G} {kA : Nat → ClassId} {kE : Nat → Nat} {nx : Nat} {M : pm_M} {a v : Nat} {bs : List Nat} (hZ : ∀ U H, pm_Kx z kE U H → pm_Str z bs a v U H) (hN : bs.length < 2147483648) : pm_C l z D kA kE yJ0_length_8abf5 cJ0_length_8abf5 1 (some .int) 1 0 0 [.ref a] nx M (pm_rt (some (.int (nI bs.length))) nx M) := by
  refine pm_mk (own := RJ0) (nm := "length") mt_J0_length_8abf5 rfl rfl rfl rfl fun X B => ?_
  refine pm_loc (L' := [some (.ref a)]) rfl ?_
  refine pm_aload_n B dJ0_length_8abf5_0 rfl ?_
  refine pm_getL B (fun U H h => (hZ U H h).2.2.1) (pm_T_in 1381 (by decide +kernel) (by decide +kernel)) dJ0_length_8abf5_1 ?_
  refine pm_lnL B (v := nI bs.length) (fun U H h => (hZ U H h).2.2.2) rfl dJ0_length_8abf5_4 ?_
  refine pm_aload_n B dJ0_length_8abf5_5 rfl ?_
  refine pm_cVL (As := []) (mc2 := 0) (ms2 := 0) B (fun U H h => (hZ U H h).1) (c_J0_coder_7d493 hZ) mt_J0_coder_7d493 sv_J0_335 dJ0_length_8abf5_6 rfl rfl rfl rfl rfl ?_
  refine pm_ishr B dJ0_length_8abf5_9 ?_
  refine pm_stk (st' := [.int (nI bs.length)]) (by rw [pm_shr0 _ hN]) ?_
  exact pm_ireturn B dJ0_length_8abf5_10 rfl rfl ⟨rfl, rfl, rfl⟩ rfl rfl
/-- a text's char -/
theorem c_J0_charAt_5068e {l : Launch} {z : Nat} {D : va_G} {kA : Nat → ClassId} {kE : Nat → Nat} {nx : Nat} {M : pm_M} {a v : Nat} {bs : List Nat} (hZ : ∀ U H, pm_Kx z kE U H → pm_Str z bs a v U H) {i : Nat} (hi : i < bs.length) (hN : bs.length < 2147483648) (hq : bs.getD i 0 < 256) : pm_C l z D kA kE yJ0_charAt_5068e cJ0_charAt_5068e 2 (some .char) 3 0 0 [.ref a, .int (nI i)] nx M (pm_rt (some (.int (nI (bs.getD i 0)))) nx M) := by
  refine pm_mk (own := RJ0) (nm := "charAt") mt_J0_charAt_5068e rfl rfl rfl rfl fun X B => ?_
  refine pm_loc (L' := [some (.ref a), some (.int (nI i))]) rfl ?_
  refine pm_aload_n B dJ0_charAt_5068e_0 rfl ?_
  refine pm_cVL (As := []) (mc2 := 0) (ms2 := 0) B (fun U H h => (hZ U H h).1) (c_J0_isLatin1_aae02 hZ) mt_J0_isLatin1_aae02 sv_J0_492 dJ0_charAt_5068e_1 rfl rfl rfl rfl rfl ?_
  refine pm_if_eq (tgt := 16) B dJ0_charAt_5068e_4 (by decide) (fun h => absurd h (by decide)) (fun _ => ?_)
  refine pm_aload_n B dJ0_charAt_5068e_7 rfl ?_
  refine pm_getL B (fun U H h => (hZ U H h).2.2.1) (pm_T_in 1381 (by decide +kernel) (by decide +kernel)) dJ0_charAt_5068e_8 ?_
  refine pm_iload_n B dJ0_charAt_5068e_11 rfl ?_
  refine pm_cS (As := [.ref v, .int (nI i)]) (mc2 := 0) (ms2 := 0) B (c_J1_charAt_3b067 (f := fun j => nI (bs.getD j 0)) (fun U H h => (hZ U H h).2.2.2) hi hN rfl hq) mt_J1_charAt_3b067 ss_J0_495 dJ0_charAt_5068e_12 rfl rfl rfl rfl rfl ?_
  exact pm_ireturn B dJ0_charAt_5068e_15 rfl (pk_charN (by omega)).1 ⟨rfl, rfl, rfl⟩ rfl rfl
theorem sv_X9_73 : pm_SV RX9 73 yJ0_length_8abf5 := ⟨pm_T_in 1579 (by decide +kernel) (by decide +kernel), pm_T_in 1281 (by decide +kernel) (by decide +kernel), pm_T_in 1282 (by decide +kernel) (by decide +kernel)⟩
theorem sv_X9_78 : pm_SV RX9 78 yJ0_charAt_5068e := ⟨pm_T_in 1580 (by decide +kernel) (by decide +kernel), pm_T_in 1496 (by decide +kernel) (by decide +kernel), pm_T_in 1497 (by decide +kernel) (by decide +kernel)⟩
