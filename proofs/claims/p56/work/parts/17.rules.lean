/-! derived rows -/
theorem pm_mk {l : Launch} {z : Nat} {D : va_G} {kA : Nat → ClassId} {kE : Nat → Nat} {y : MethodName} {cc : ByteArray} {nL n : Nat} {ret : Option FieldType} {d mc ms : Nat} {As : List Value} {nx : Nat} {M : pm_M} {post : pm_Po} {own nm : String} (hm : pm_Mt y cc nL ret n) (ho : y.cls = own) (hnm : y.name = nm) (h1 : As.all (fun v => v.category == 1) = true) (hlen : Nat.ble As.length nL = true)
    (body : ∀ X : pm_X, pm_B l z D kA kE own cc nL ret nm [] d mc ms X → pm_G l z D X 0 0 (pm_Q z D post mc ms X) nx M 0 (pm_ent As nL) []) : pm_C l z D kA kE y cc nL ret d mc ms As nx M post := by
  subst ho; subst hnm
  exact pm_C.mk hm h1 hlen body
def pm_rt (ov : Option Value) (n1 : Nat) (M1 : pm_M) : pm_Po := fun o n' M' => o = .inl ov ∧ n' = n1 ∧ M' = M1
/-- a contract that returns, with what it says of the answer and the memory -/
def pm_rx (P : Option Value → Nat → pm_M → Prop) : pm_Po := fun o n' M' => ∃ ov, o = .inl ov ∧ P ov n' M'
theorem pm_rt_no {ov : Option Value} {n1 : Nat} {M1 : pm_M} : ∀ E n' M', ¬ pm_rt ov n1 M1 (.inr E) n' M' := fun E n' M' h => by cases h.1
theorem pm_rx_no {P : Option Value → Nat → pm_M → Prop} : ∀ E n' M', ¬ pm_rx P (.inr E) n' M' := fun E n' M' h => by obtain ⟨ov, h, -⟩ := h; cases h
theorem pm_up_up {M : pm_M} {a : Nat} {e e' : va_E} : pm_up (pm_up M a e) a e' = pm_up M a e' := by
  funext x
  by_cases h : x = a <;> simp [pm_up, h]
theorem pm_up_sw {M : pm_M} {a b : Nat} {e f : va_E} (h : a ≠ b) : pm_up (pm_up M a e) b f = pm_up (pm_up M b f) a e := by
  funext x
  by_cases h1 : x = a
  · subst h1; simp [pm_up, h]
  · by_cases h2 : x = b <;> simp [pm_up, h1, h2, Ne.symm h]
theorem pm_nz {x : Int32} (h : x = 0 ∨ x = 1) : narrow .boolean (.int x) = .int x := by
  rcases h with rfl | rfl <;> rfl
def pm_in (v lo hi : Int32) : Int32 := if v < lo then 0 else if hi < v then 0 else 1
theorem pm_in01 (v lo hi : Int32) : pm_in v lo hi = 0 ∨ pm_in v lo hi = 1 := by unfold pm_in; split <;> (try split) <;> simp
def pm_max (x y : Int32) : Int32 := if x < y then y else x
def pm_min (x y : Int32) : Int32 := if y < x then y else x
def pm_abs (x : Int32) : Int32 := if 0 ≤ x then x else 0 - x
section PR
variable {l : Launch} {z : Nat} {D : va_G} {kA : Nat → ClassId} {kE : Nat → Nat} {own : String} {cc : ByteArray} {nL : Nat} {ret : Option FieldType} {nm : String} {tb : List ExceptionTableEntry} {d mc ms : Nat} {X : pm_X} {cu su : Nat} {Q : State → Prop} {nx : Nat} {M : pm_M} {pc : Nat} {L : List (Option Value)} {st : List Value}
variable {y : MethodName} {cc2 : ByteArray} {nL2 n2 d2 mc2 ms2 : Nat} {ret2 : Option FieldType} {As : List Value} {index : Nat}
theorem pm_stk {st' : List Value} (h : st = st') (k : pm_G l z D X cu su Q nx M pc L st') : pm_G l z D X cu su Q nx M pc L st := by subst h; exact k
theorem pm_cV (B : pm_B l z D kA kE own cc nL ret nm tb d mc ms X) {ov : Option Value} {n1 : Nat} {M1 : pm_M} {a ci : Nat} {fs : List Value} (h13 : Nat.ble (ci + 1) 13 = true) (hM : M a = some (.inr (ci, fs))) (hci : (pm_ci ci).1 = y.cls) (hC : pm_C l z D kA kE y cc2 nL2 ret2 d2 mc2 ms2 (.ref (z + a) :: As) nx M (pm_rt ov n1 M1)) (hm : pm_Mt y cc2 nL2 ret2 n2) (hs : pm_SV own index y) (hd : decode cc pc = .ok (.invokevirtual index, 3)) (hn : As.length = n2) (hd2 : Nat.ble (d2 + 1) d = true) (hst : Nat.ble ((st.map fun v => v.category).sum) 8 = true) (hcu : Nat.ble (cu + mc2) mc = true) (hsu : Nat.ble (su + ms2) ms = true)
    (k : pm_G l z D X (cu + mc2) (su + ms2) Q n1 M1 (pc + 3) L (ov.toList ++ st)) : pm_G l z D X cu su Q nx M pc L (As.reverse ++ .ref (z + a) :: st) :=
  pm_callV B h13 hM hci hC  hm hs hd hn hd2 hst hcu hsu (fun E n' M' h => (pm_rt_no E n' M' h).elim) (fun v n' M' h => by obtain ⟨h1, rfl, rfl⟩ := h; cases h1; exact k)
theorem pm_cVx (B : pm_B l z D kA kE own cc nL ret nm tb d mc ms X) {P : Option Value → Nat → pm_M → Prop} {a ci : Nat} {fs : List Value} (h13 : Nat.ble (ci + 1) 13 = true) (hM : M a = some (.inr (ci, fs))) (hci : (pm_ci ci).1 = y.cls) (hC : pm_C l z D kA kE y cc2 nL2 ret2 d2 mc2 ms2 (.ref (z + a) :: As) nx M (pm_rx P)) (hm : pm_Mt y cc2 nL2 ret2 n2) (hs : pm_SV own index y) (hd : decode cc pc = .ok (.invokevirtual index, 3)) (hn : As.length = n2) (hd2 : Nat.ble (d2 + 1) d = true) (hst : Nat.ble ((st.map fun v => v.category).sum) 8 = true) (hcu : Nat.ble (cu + mc2) mc = true) (hsu : Nat.ble (su + ms2) ms = true)
    (k : ∀ (ov : Option Value) (n' : Nat) (M' : pm_M), P ov n' M' → pm_G l z D X (cu + mc2) (su + ms2) Q n' M' (pc + 3) L (ov.toList ++ st)) : pm_G l z D X cu su Q nx M pc L (As.reverse ++ .ref (z + a) :: st) :=
  pm_callV B h13 hM hci hC  hm hs hd hn hd2 hst hcu hsu (fun E n' M' h => (pm_rx_no E n' M' h).elim) (fun v n' M' h => by obtain ⟨ov, h1, h2⟩ := h; cases h1; exact k _ _ _ h2)
theorem pm_cS (B : pm_B l z D kA kE own cc nL ret nm tb d mc ms X) {ov : Option Value} {n1 : Nat} {M1 : pm_M}  (hC : pm_C l z D kA kE y cc2 nL2 ret2 d2 mc2 ms2 As nx M (pm_rt ov n1 M1)) (hm : pm_Mt y cc2 nL2 ret2 n2) (hs : pm_SS own index y) (hd : decode cc pc = .ok (.invokestatic index, 3)) (hn : As.length = n2) (hd2 : Nat.ble (d2 + 1) d = true) (hst : Nat.ble ((st.map fun v => v.category).sum) 8 = true) (hcu : Nat.ble (cu + mc2) mc = true) (hsu : Nat.ble (su + ms2) ms = true)
    (k : pm_G l z D X (cu + mc2) (su + ms2) Q n1 M1 (pc + 3) L (ov.toList ++ st)) : pm_G l z D X cu su Q nx M pc L (As.reverse ++ st) :=
  pm_callS B  hC  hm hs hd hn hd2 hst hcu hsu (fun E n' M' h => (pm_rt_no E n' M' h).elim) (fun v n' M' h => by obtain ⟨h1, rfl, rfl⟩ := h; cases h1; exact k)
theorem pm_cSx (B : pm_B l z D kA kE own cc nL ret nm tb d mc ms X) {P : Option Value → Nat → pm_M → Prop}  (hC : pm_C l z D kA kE y cc2 nL2 ret2 d2 mc2 ms2 As nx M (pm_rx P)) (hm : pm_Mt y cc2 nL2 ret2 n2) (hs : pm_SS own index y) (hd : decode cc pc = .ok (.invokestatic index, 3)) (hn : As.length = n2) (hd2 : Nat.ble (d2 + 1) d = true) (hst : Nat.ble ((st.map fun v => v.category).sum) 8 = true) (hcu : Nat.ble (cu + mc2) mc = true) (hsu : Nat.ble (su + ms2) ms = true)
    (k : ∀ (ov : Option Value) (n' : Nat) (M' : pm_M), P ov n' M' → pm_G l z D X (cu + mc2) (su + ms2) Q n' M' (pc + 3) L (ov.toList ++ st)) : pm_G l z D X cu su Q nx M pc L (As.reverse ++ st) :=
  pm_callS B  hC  hm hs hd hn hd2 hst hcu hsu (fun E n' M' h => (pm_rx_no E n' M' h).elim) (fun v n' M' h => by obtain ⟨ov, h1, h2⟩ := h; cases h1; exact k _ _ _ h2)
theorem pm_cSN (B : pm_B l z D kA kE own cc nL ret nm tb d mc ms X) {ov : Option Value} {n1 : Nat} {M1 : pm_M}  (hC : pm_C l z D kA kE y cc2 nL2 ret2 d2 mc2 ms2 As nx M (pm_rt ov n1 M1)) (hm : pm_Mt y cc2 nL2 ret2 n2) (hs : pm_SSN own index y) (hd : decode cc pc = .ok (.invokestatic index, 3)) (hn : As.length = n2) (hd2 : Nat.ble (d2 + 1) d = true) (hst : Nat.ble ((st.map fun v => v.category).sum) 8 = true) (hcu : Nat.ble (cu + mc2) mc = true) (hsu : Nat.ble (su + ms2) ms = true)
    (k : pm_G l z D X (cu + mc2) (su + ms2) Q n1 M1 (pc + 3) L (ov.toList ++ st)) : pm_G l z D X cu su Q nx M pc L (As.reverse ++ st) :=
  pm_callSN B  hC pm_rt_no hm hs hd hn hd2 hst hcu hsu  (fun v n' M' h => by obtain ⟨h1, rfl, rfl⟩ := h; cases h1; exact k)
theorem pm_cSNx (B : pm_B l z D kA kE own cc nL ret nm tb d mc ms X) {P : Option Value → Nat → pm_M → Prop}  (hC : pm_C l z D kA kE y cc2 nL2 ret2 d2 mc2 ms2 As nx M (pm_rx P)) (hm : pm_Mt y cc2 nL2 ret2 n2) (hs : pm_SSN own index y) (hd : decode cc pc = .ok (.invokestatic index, 3)) (hn : As.length = n2) (hd2 : Nat.ble (d2 + 1) d = true) (hst : Nat.ble ((st.map fun v => v.category).sum) 8 = true) (hcu : Nat.ble (cu + mc2) mc = true) (hsu : Nat.ble (su + ms2) ms = true)
    (k : ∀ (ov : Option Value) (n' : Nat) (M' : pm_M), P ov n' M' → pm_G l z D X (cu + mc2) (su + ms2) Q n' M' (pc + 3) L (ov.toList ++ st)) : pm_G l z D X cu su Q nx M pc L (As.reverse ++ st) :=
  pm_callSN B  hC pm_rx_no hm hs hd hn hd2 hst hcu hsu  (fun v n' M' h => by obtain ⟨ov, h1, h2⟩ := h; cases h1; exact k _ _ _ h2)
theorem pm_cI (B : pm_B l z D kA kE own cc nL ret nm tb d mc ms X) {ov : Option Value} {n1 : Nat} {M1 : pm_M} {a : Nat} (hr2 : ret2 = none) (hC : pm_C l z D kA kE y cc2 nL2 ret2 d2 mc2 ms2 (.ref (z + a) :: As) nx M (pm_rt ov n1 M1)) (hm : pm_Mt y cc2 nL2 ret2 n2) (hs : pm_SI own index y) (hd : decode cc pc = .ok (.invokespecial index, 3)) (hn : As.length = n2) (hd2 : Nat.ble (d2 + 1) d = true) (hst : Nat.ble ((st.map fun v => v.category).sum) 8 = true) (hcu : Nat.ble (cu + mc2) mc = true) (hsu : Nat.ble (su + ms2) ms = true)
    (k : pm_G l z D X (cu + mc2) (su + ms2) Q n1 M1 (pc + 3) L (ov.toList ++ st)) : pm_G l z D X cu su Q nx M pc L (As.reverse ++ .ref (z + a) :: st) :=
  pm_callI B hr2 hC pm_rt_no hm hs hd hn hd2 hst hcu hsu  (fun v n' M' h => by obtain ⟨h1, rfl, rfl⟩ := h; cases h1; exact k)
theorem pm_cIx (B : pm_B l z D kA kE own cc nL ret nm tb d mc ms X) {P : Option Value → Nat → pm_M → Prop} {a : Nat} (hr2 : ret2 = none) (hC : pm_C l z D kA kE y cc2 nL2 ret2 d2 mc2 ms2 (.ref (z + a) :: As) nx M (pm_rx P)) (hm : pm_Mt y cc2 nL2 ret2 n2) (hs : pm_SI own index y) (hd : decode cc pc = .ok (.invokespecial index, 3)) (hn : As.length = n2) (hd2 : Nat.ble (d2 + 1) d = true) (hst : Nat.ble ((st.map fun v => v.category).sum) 8 = true) (hcu : Nat.ble (cu + mc2) mc = true) (hsu : Nat.ble (su + ms2) ms = true)
    (k : ∀ (ov : Option Value) (n' : Nat) (M' : pm_M), P ov n' M' → pm_G l z D X (cu + mc2) (su + ms2) Q n' M' (pc + 3) L (ov.toList ++ st)) : pm_G l z D X cu su Q nx M pc L (As.reverse ++ .ref (z + a) :: st) :=
  pm_callI B hr2 hC pm_rx_no hm hs hd hn hd2 hst hcu hsu  (fun v n' M' h => by obtain ⟨ov, h1, h2⟩ := h; cases h1; exact k _ _ _ h2)
theorem pm_cIN (B : pm_B l z D kA kE own cc nL ret nm tb d mc ms X) {ov : Option Value} {n1 : Nat} {M1 : pm_M} {a : Nat} (hr2 : ret2 = none) (hC : pm_C l z D kA kE y cc2 nL2 ret2 d2 mc2 ms2 (.ref (z + a) :: As) nx M (pm_rt ov n1 M1)) (hm : pm_Mt y cc2 nL2 ret2 n2) (hs : pm_SIN own index y) (hd : decode cc pc = .ok (.invokespecial index, 3)) (hn : As.length = n2) (hd2 : Nat.ble (d2 + 1) d = true) (hst : Nat.ble ((st.map fun v => v.category).sum) 8 = true) (hcu : Nat.ble (cu + mc2) mc = true) (hsu : Nat.ble (su + ms2) ms = true)
    (k : pm_G l z D X (cu + mc2) (su + ms2) Q n1 M1 (pc + 3) L (ov.toList ++ st)) : pm_G l z D X cu su Q nx M pc L (As.reverse ++ .ref (z + a) :: st) :=
  pm_callIN B hr2 hC pm_rt_no hm hs hd hn hd2 hst hcu hsu  (fun v n' M' h => by obtain ⟨h1, rfl, rfl⟩ := h; cases h1; exact k)
theorem pm_cINx (B : pm_B l z D kA kE own cc nL ret nm tb d mc ms X) {P : Option Value → Nat → pm_M → Prop} {a : Nat} (hr2 : ret2 = none) (hC : pm_C l z D kA kE y cc2 nL2 ret2 d2 mc2 ms2 (.ref (z + a) :: As) nx M (pm_rx P)) (hm : pm_Mt y cc2 nL2 ret2 n2) (hs : pm_SIN own index y) (hd : decode cc pc = .ok (.invokespecial index, 3)) (hn : As.length = n2) (hd2 : Nat.ble (d2 + 1) d = true) (hst : Nat.ble ((st.map fun v => v.category).sum) 8 = true) (hcu : Nat.ble (cu + mc2) mc = true) (hsu : Nat.ble (su + ms2) ms = true)
    (k : ∀ (ov : Option Value) (n' : Nat) (M' : pm_M), P ov n' M' → pm_G l z D X (cu + mc2) (su + ms2) Q n' M' (pc + 3) L (ov.toList ++ st)) : pm_G l z D X cu su Q nx M pc L (As.reverse ++ .ref (z + a) :: st) :=
  pm_callIN B hr2 hC pm_rx_no hm hs hd hn hd2 hst hcu hsu  (fun v n' M' h => by obtain ⟨ov, h1, h2⟩ := h; cases h1; exact k _ _ _ h2)
theorem pm_inj {i n : Nat} (h : i < n) (hn : n < 2147483648) : vp_in (nI i) n := vp_in_nI h (by omega)
theorem pm_cln {i n : Nat} (h : i < n) (hn : n < 2147483648) : (nI i).toNatClampNeg = i := nI_clamp (by omega)
theorem pm_iald_n (B : pm_B l z D kA kE own cc nL ret nm tb d mc ms X) {a n : Nat} {f : Nat → Int32} (hd : decode cc pc = .ok (.iaload, 1)) (hM : M a = some (.inl (kA 0, n, .inl f))) (i : Nat) (hi : i < n) (hn : n < 2147483648)
    (k : pm_G l z D X cu su Q nx M (pc + 1) L (.int (f i) :: st)) : pm_G l z D X cu su Q nx M pc L (.int (nI i) :: .ref (z + a) :: st) :=
  pm_iald B hd hM (pm_inj hi hn) (by rw [pm_cln hi hn]; exact k)
theorem pm_lald_n (B : pm_B l z D kA kE own cc nL ret nm tb d mc ms X) {a n : Nat} {f : Nat → Int64} (hd : decode cc pc = .ok (.laload, 1)) (hM : M a = some (.inl (kA 1, n, .inr (.inl f)))) (i : Nat) (hi : i < n) (hn : n < 2147483648)
    (k : pm_G l z D X cu su Q nx M (pc + 1) L (.long (f i) :: st)) : pm_G l z D X cu su Q nx M pc L (.int (nI i) :: .ref (z + a) :: st) :=
  pm_lald B hd hM (pm_inj hi hn) (by rw [pm_cln hi hn]; exact k)
theorem pm_cald_n (B : pm_B l z D kA kE own cc nL ret nm tb d mc ms X) {a n : Nat} {f : Nat → Int32} (hd : decode cc pc = .ok (.caload, 1)) (hM : M a = some (.inl (kA 3, n, .inl f))) (i : Nat) (hi : i < n) (hn : n < 2147483648)
    (k : pm_G l z D X cu su Q nx M (pc + 1) L (.int (f i) :: st)) : pm_G l z D X cu su Q nx M pc L (.int (nI i) :: .ref (z + a) :: st) :=
  pm_cald B hd hM (pm_inj hi hn) (by rw [pm_cln hi hn]; exact k)
theorem pm_aald_n (B : pm_B l z D kA kE own cc nL ret nm tb d mc ms X) {a n t0 : Nat} {C : String} {f : Nat → Option Nat} {v : Value} (hd : decode cc pc = .ok (.aaload, 1)) (hM : M a = some (.inl (kA t0, n, .inr (.inr (.inr (.inr f)))))) (ht : (pm_tys kA)[t0]? = some (kA t0, .object C)) (i : Nat) (hi : i < n) (hn : n < 2147483648) (hv : va_rf (f i) = v)
    (k : pm_G l z D X cu su Q nx M (pc + 1) L (v :: st)) : pm_G l z D X cu su Q nx M pc L (.int (nI i) :: .ref (z + a) :: st) :=
  pm_aald B hd hM ht (pm_inj hi hn) (by rw [pm_cln hi hn, hv]; exact k)
theorem pm_iast_n (B : pm_B l z D kA kE own cc nL ret nm tb d mc ms X) {a n : Nat} {f : Nat → Int32} {x : Int32} (hd : decode cc pc = .ok (.iastore, 1)) (hM : M a = some (.inl (kA 0, n, .inl f))) (i : Nat) (hi : i < n) (hn : n < 2147483648)
    (k : pm_G l z D X cu su Q nx (pm_up M a (.inl (kA 0, n, .inl (upd f i x)))) (pc + 1) L st) : pm_G l z D X cu su Q nx M pc L (.int x :: .int (nI i) :: .ref (z + a) :: st) :=
  pm_iast B hd hM (pm_inj hi hn) (by rw [pm_cln hi hn]; exact k)
theorem pm_last_n (B : pm_B l z D kA kE own cc nL ret nm tb d mc ms X) {a n : Nat} {f : Nat → Int64} {x : Int64} (hd : decode cc pc = .ok (.lastore, 1)) (hM : M a = some (.inl (kA 1, n, .inr (.inl f)))) (i : Nat) (hi : i < n) (hn : n < 2147483648)
    (k : pm_G l z D X cu su Q nx (pm_up M a (.inl (kA 1, n, .inr (.inl (vp_updL f i x))))) (pc + 1) L st) : pm_G l z D X cu su Q nx M pc L (.long x :: .int (nI i) :: .ref (z + a) :: st) :=
  pm_last B hd hM (pm_inj hi hn) (by rw [pm_cln hi hn]; exact k)
theorem wm_max : Cond.static Lib.Math.max.name ∈ pm_T ∧ Cond.initialized "java/lang/Math" ∈ pm_T ∧ Cond.code Lib.Math.max.name Lib.Math.max.code 2 (some .int) ∈ pm_T := ⟨pm_T_in 669 (by decide +kernel) (by decide +kernel), pm_T_in 62 (by decide +kernel) (by decide +kernel), pm_T_in 670 (by decide +kernel) (by decide +kernel)⟩
theorem pm_mmax (B : pm_B l z D kA kE own cc nL ret nm tb d mc ms X) {x y : Int32} (hd : decode cc pc = .ok (.invokestatic index, 3)) (hw : Cond.methodLink own index Lib.Math.max.name ∈ pm_T) (hd1 : Nat.ble 1 d = true) (hst : Nat.ble ((st.map fun v => v.category).sum) 8 = true) (hcu : Nat.ble cu mc = true) (hsu : Nat.ble su ms = true)
    (k : pm_G l z D X cu su Q nx M (pc + 3) L (.int (pm_max x y) :: st)) : pm_G l z D X cu su Q nx M pc L (.int y :: .int x :: st) := by
  obtain ⟨hx, hb, hml, hown, hts, hr, hlk, hK, hnm, htb, ⟨hrf, hrl, hrc, hrs⟩, hz, hcs⟩ := id B
  obtain ⟨p, e, R, s, m, args, below, meth, c⟩ := X
  intro H locs ls hR hS hl
  have h1 := Nat.le_of_ble_eq_true hd1
  have h2 := Nat.le_of_ble_eq_true hcu
  have h3 := Nat.le_of_ble_eq_true hsu
  have h4 := Nat.le_of_ble_eq_true hst
  exact va_mmax hx hb hl.1.symm hown (hts _ hw) (hts _ wm_max.1) (hts _ wm_max.2.1) (hts _ wm_max.2.2) (by simp only at hrf ⊢; omega) (by simp only at hrl ⊢; omega) (by simp only at hrc ⊢; omega) (by simp only at hrs ⊢; omega) hd (k H locs ls hR hS hl)
theorem wm_min : Cond.static Lib.Math.min.name ∈ pm_T ∧ Cond.initialized "java/lang/Math" ∈ pm_T ∧ Cond.code Lib.Math.min.name Lib.Math.min.code 2 (some .int) ∈ pm_T := ⟨pm_T_in 1000 (by decide +kernel) (by decide +kernel), pm_T_in 62 (by decide +kernel) (by decide +kernel), pm_T_in 1001 (by decide +kernel) (by decide +kernel)⟩
theorem pm_mmin (B : pm_B l z D kA kE own cc nL ret nm tb d mc ms X) {x y : Int32} (hd : decode cc pc = .ok (.invokestatic index, 3)) (hw : Cond.methodLink own index Lib.Math.min.name ∈ pm_T) (hd1 : Nat.ble 1 d = true) (hst : Nat.ble ((st.map fun v => v.category).sum) 8 = true) (hcu : Nat.ble cu mc = true) (hsu : Nat.ble su ms = true)
    (k : pm_G l z D X cu su Q nx M (pc + 3) L (.int (pm_min x y) :: st)) : pm_G l z D X cu su Q nx M pc L (.int y :: .int x :: st) := by
  obtain ⟨hx, hb, hml, hown, hts, hr, hlk, hK, hnm, htb, ⟨hrf, hrl, hrc, hrs⟩, hz, hcs⟩ := id B
  obtain ⟨p, e, R, s, m, args, below, meth, c⟩ := X
  intro H locs ls hR hS hl
  have h1 := Nat.le_of_ble_eq_true hd1
  have h2 := Nat.le_of_ble_eq_true hcu
  have h3 := Nat.le_of_ble_eq_true hsu
  have h4 := Nat.le_of_ble_eq_true hst
  exact va_mmin hx hb hl.1.symm hown (hts _ hw) (hts _ wm_min.1) (hts _ wm_min.2.1) (hts _ wm_min.2.2) (by simp only at hrf ⊢; omega) (by simp only at hrl ⊢; omega) (by simp only at hrc ⊢; omega) (by simp only at hrs ⊢; omega) hd (k H locs ls hR hS hl)
theorem wm_abs : Cond.static Lib.Math.abs.name ∈ pm_T ∧ Cond.initialized "java/lang/Math" ∈ pm_T ∧ Cond.code Lib.Math.abs.name Lib.Math.abs.code 1 (some .int) ∈ pm_T := ⟨pm_T_in 1066 (by decide +kernel) (by decide +kernel), pm_T_in 62 (by decide +kernel) (by decide +kernel), pm_T_in 1067 (by decide +kernel) (by decide +kernel)⟩
theorem pm_mabs (B : pm_B l z D kA kE own cc nL ret nm tb d mc ms X) {x : Int32} (hd : decode cc pc = .ok (.invokestatic index, 3)) (hw : Cond.methodLink own index Lib.Math.abs.name ∈ pm_T) (hd1 : Nat.ble 1 d = true) (hst : Nat.ble ((st.map fun v => v.category).sum) 8 = true) (hcu : Nat.ble cu mc = true) (hsu : Nat.ble su ms = true)
    (k : pm_G l z D X cu su Q nx M (pc + 3) L (.int (pm_abs x) :: st)) : pm_G l z D X cu su Q nx M pc L (.int x :: st) := by
  obtain ⟨hx, hb, hml, hown, hts, hr, hlk, hK, hnm, htb, ⟨hrf, hrl, hrc, hrs⟩, hz, hcs⟩ := id B
  obtain ⟨p, e, R, s, m, args, below, meth, c⟩ := X
  intro H locs ls hR hS hl
  have h1 := Nat.le_of_ble_eq_true hd1
  have h2 := Nat.le_of_ble_eq_true hcu
  have h3 := Nat.le_of_ble_eq_true hsu
  have h4 := Nat.le_of_ble_eq_true hst
  exact va_mabs hx hb hl.1.symm hown (hts _ hw) (hts _ wm_abs.1) (hts _ wm_abs.2.1) (hts _ wm_abs.2.2) (by simp only at hrf ⊢; omega) (by simp only at hrl ⊢; omega) (by simp only at hrc ⊢; omega) (by simp only at hrs ⊢; omega) hd (k H locs ls hR hS hl)
theorem wm_obj : Cond.instanceMethod Lib.objectInit ∈ pm_T ∧ Cond.code Lib.objectInit ⟨#[0xb1]⟩ 1 none ∈ pm_T := ⟨pm_T_in 81 (by decide +kernel) (by decide +kernel), pm_T_in 82 (by decide +kernel) (by decide +kernel)⟩
theorem pm_objInit (B : pm_B l z D kA kE own cc nL ret nm tb d mc ms X) {a : Nat} (hd : decode cc pc = .ok (.invokespecial index, 3)) (hw : Cond.methodLink own index Lib.objectInit ∈ pm_T) (hd1 : Nat.ble 1 d = true) (hst : Nat.ble ((st.map fun v => v.category).sum) 8 = true) (hcu : Nat.ble cu mc = true) (hsu : Nat.ble su ms = true)
    (k : pm_G l z D X cu su Q nx M (pc + 3) L st) : pm_G l z D X cu su Q nx M pc L (.ref (z + a) :: st) := by
  obtain ⟨hx, hb, hml, hown, hts, hr, hlk, hK, hnm, htb, ⟨hrf, hrl, hrc, hrs⟩, hz, hcs⟩ := id B
  obtain ⟨p, e, R, s, m, args, below, meth, c⟩ := X
  intro H locs ls hR hS hl
  have h1 := Nat.le_of_ble_eq_true hd1
  have h4 := Nat.le_of_ble_eq_true hst
  exact W.objInit hx hb hown (hts _ hw) (hts _ wm_obj.1) (hts _ wm_obj.2) rfl hl.1 rfl hd (by simp only at hrf ⊢; omega) (by show 2 * 0 + _ + 12 ≤ _; simp only at hrl ⊢; omega) (k H locs ls hR hS hl)
end PR
