/-! the law: methods with handlers -/
def pm_Cw (l : Launch) (z : Nat) (D : va_G) (kA : Nat → ClassId) (kE : Nat → Nat) (y : MethodName) (cc : ByteArray) (nL : Nat) (ret : Option FieldType) (hh : List (Nat × Nat × Nat × Nat)) (d mc ms : Nat) (As : List Value) (nx : Nat) (M : pm_M) (post : pm_Po) : Prop :=
  vx_Met l y (Cond.codeWith y cc nL ret hh :: pm_T) (pm_rm d mc ms) (pm_Pc l z D kA kE As nx M) (pm_Qc z D post) (pm_XC z D post) mc ms (fun q => z ≤ q)
def pm_MtW (y : MethodName) (cc : ByteArray) (nL : Nat) (ret : Option FieldType) (hh : List (Nat × Nat × Nat × Nat)) (n : Nat) : Prop :=
  Cond.codeWith y cc nL ret hh ∈ pm_T ∧ Cond.initialized y.cls ∈ pm_T ∧ (y.cls ≠ "java/lang/invoke/MethodHandle" ∧ y.cls ≠ "java/lang/invoke/VarHandle" ∧ (parseMethodDescriptor y.desc).map (fun d => d.parameters.length) = some n) ∧ plainName y.cls = true ∧ nL ≤ 27
theorem pm_goodW {y : MethodName} {cc : ByteArray} {nL : Nat} {ret : Option FieldType} {hh : List (Nat × Nat × Nat × Nat)} {n : Nat} (h : pm_MtW y cc nL ret hh n) : GoodIn pm_T (Cond.codeWith y cc nL ret hh :: pm_T) := by
  intro w hw
  have hm : w ∈ pm_T := by
    rcases List.mem_cons.mp hw with rfl | hw
    · exact h.1
    · exact hw
  exact ⟨hm, good_of_word (List.mem_filter.mp hm).2⟩
theorem pm_Cw.mk {l : Launch} {z : Nat} {D : va_G} {kA : Nat → ClassId} {kE : Nat → Nat} {y : MethodName} {cc : ByteArray} {nL n : Nat} {ret : Option FieldType} {hh : List (Nat × Nat × Nat × Nat)} {d mc ms : Nat} {As : List Value} {nx : Nat} {M : pm_M} {post : pm_Po} (hm : pm_MtW y cc nL ret hh n) (h1 : As.all (fun v => v.category == 1) = true) (hlen : Nat.ble As.length nL = true)
    (body : ∀ X : pm_X, pm_B l z D kA kE y.cls cc nL ret y.name (tableOf hh) d mc ms X → pm_G l z D X 0 0 (pm_Q z D post mc ms X) nx M 0 (pm_ent As nL) []) : pm_Cw l z D kA kE y cc nL ret hh d mc ms As nx M post := by
  have h2 : ∀ v ∈ As, v.category = 1 := fun v hv => by simpa using List.all_eq_true.mp h1 v hv
  refine vx_ofWH (cc := cc) (maxL := nL) (ret := ret) (hh := hh) hm.2.2.2.1 rfl ?_
  intro p e s m args below meth c s₁ B hml hP
  obtain ⟨rfl, hR, hK, hcs⟩ := hP
  have hts := atoms_spec (ws := Cond.codeWith y cc nL ret hh :: pm_T) B.pre
  have hB : pm_B l z D kA kE y.cls cc nL ret y.name (tableOf hh) d mc ms (p, e, (headSpec (Cond.codeWith y cc nL ret hh :: pm_T) (pm_rm d mc ms)).room, s, m, As.toArray, below, meth, c) :=
    ⟨B.exec, B.bytes, hml, findClass_of_methodNamed B.named, fun w hw => hts w (List.mem_cons_of_mem _ hw), B.returns, B.notSynchronized, hK, (name_of_methodNamed B.named B.method).1, vx_table (x := y) (y := y) B (hts _ List.mem_cons_self), ⟨Nat.le_refl _, Nat.le_refl _, rfl, rfl⟩, by rw [hR.1]; omega, hcs⟩
  have hl := lv_entry As (n := nL) (by rw [pm_sl_len As h2]; exact Nat.le_of_ble_eq_true hlen)
  have h9 := body _ hB s.heap [] _ hR va_S.rf (by
    show lv_has _ c.maxLocals _
    rw [hml, pm_ent, pm_lv_app, pm_lv_nones, List.append_nil, ← pm_args_lv As 0 h2]
    exact hl)
  rw [lg_entry_eq]
  exact h9
theorem pm_mkW {l : Launch} {z : Nat} {D : va_G} {kA : Nat → ClassId} {kE : Nat → Nat} {y : MethodName} {cc : ByteArray} {nL n : Nat} {ret : Option FieldType} {hh : List (Nat × Nat × Nat × Nat)} {d mc ms : Nat} {As : List Value} {nx : Nat} {M : pm_M} {post : pm_Po} {own nm : String} {tb : List ExceptionTableEntry} (hm : pm_MtW y cc nL ret hh n) (ho : y.cls = own) (hnm : y.name = nm) (htb : tableOf hh = tb) (h1 : As.all (fun v => v.category == 1) = true) (hlen : Nat.ble As.length nL = true)
    (body : ∀ X : pm_X, pm_B l z D kA kE own cc nL ret nm tb d mc ms X → pm_G l z D X 0 0 (pm_Q z D post mc ms X) nx M 0 (pm_ent As nL) []) : pm_Cw l z D kA kE y cc nL ret hh d mc ms As nx M post := by
  subst ho; subst hnm; subst htb
  exact pm_Cw.mk hm h1 hlen body
section PCW
variable {l : Launch} {z : Nat} {D : va_G} {kA : Nat → ClassId} {kE : Nat → Nat} {own : String} {cc : ByteArray} {nL : Nat} {ret : Option FieldType} {nm : String} {tb : List ExceptionTableEntry} {d mc ms : Nat} {X : pm_X} {cu su : Nat} {Q : State → Prop} {nx : Nat} {M : pm_M} {pc : Nat} {L : List (Option Value)} {st : List Value}
variable {y : MethodName} {cc2 : ByteArray} {nL2 n2 d2 mc2 ms2 : Nat} {ret2 : Option FieldType} {hh : List (Nat × Nat × Nat × Nat)} {As : List Value} {index : Nat}
theorem pm_cSW (B : pm_B l z D kA kE own cc nL ret nm tb d mc ms X) {post : pm_Po} (hC : pm_Cw l z D kA kE y cc2 nL2 ret2 hh d2 mc2 ms2 As nx M post) (hm : pm_MtW y cc2 nL2 ret2 hh n2) (hs : pm_SS own index y) (hd : decode cc pc = .ok (.invokestatic index, 3)) (hn : As.length = n2) (hd2 : Nat.ble (d2 + 1) d = true) (hst : Nat.ble ((st.map fun v => v.category).sum) 8 = true) (hcu : Nat.ble (cu + mc2) mc = true) (hsu : Nat.ble (su + ms2) ms = true)
    (kx : ∀ (E : String) (n' : Nat) (M' : pm_M), post (.inr E) n' M' → pm_GX l z D X (cu + mc2) (su + ms2) Q n' M' pc L E)
    (k : ∀ (v : Option Value) (n' : Nat) (M' : pm_M), post (.inl v) n' M' → pm_G l z D X (cu + mc2) (su + ms2) Q n' M' (pc + 3) L (v.toList ++ st)) : pm_G l z D X cu su Q nx M pc L (As.reverse ++ st) := by
  obtain ⟨hx, hb, hml, hown, hts, hr, hlk, hK, hnm, htb, ⟨hrf, hrl, hrc, hrs⟩, hz, hcs⟩ := id B
  obtain ⟨p, e, R, s, m, args, below, meth, c⟩ := X
  intro H locs ls hR hS hl
  have h1 := Nat.le_of_ble_eq_true hd2
  have h2 := Nat.le_of_ble_eq_true hcu
  have h3 := Nat.le_of_ble_eq_true hsu
  have h27 := hm.2.2.2.2
  have hroom : (pm_rm d2 mc2 ms2).frames + 1 ≤ R.frames ∧ 8 + (nL2 + 11) + (pm_rm d2 mc2 ms2).locals ≤ R.locals := by
    simp only [pm_rm] at hrf hrl ⊢
    omega
  have cw : vx_CSW R s args own index y cc2 nL2 ret2 hh (Cond.codeWith y cc2 nL2 ret2 hh :: pm_T) (pm_rm d2 mc2 ms2) mc2 ms2 n2 := ⟨⟨rfl, rfl, hroom.1, hroom.2, pay_in hts (pm_goodW hm), List.mem_cons_self⟩, hts _ hm.1, hts _ hm.2.1, ⟨hm.2.2.1.1, hm.2.2.1.2.1⟩, fun sig h => (by have h8 := hm.2.2.1.2.2; rw [h] at h8; exact (Option.some.inj h8).symm), hts _ hs.1, hts _ hs.2⟩
  exact pm_after (vx_runSX ⟨hx, hb, hml, hown, hts⟩ hC cw ⟨pm_Pc_blind, fun U hU hW => pm_Pc_at hR hS hK hcs hU hW⟩ rfl hn (by simp only at hml ⊢; rw [← hml]; exact hl.1) rfl (pm_sum_room rfl hst) hd ⟨by simp only at hrc ⊢; omega, by simp only at hrs ⊢; omega⟩) hz hR hS hl kx k
/-- caught here: by the row x of the table -/
theorem pm_catch (B : pm_B l z D kA kE own cc nL ret nm tb d mc ms X) {E : String} (pre : List ExceptionTableEntry) (x : ExceptionTableEntry) (suf : List ExceptionTableEntry) (hsp : tb = pre ++ x :: suf)
    (hpass : ∀ w ∈ pre, covers w pc = false ∨ (w.catchType ≠ 0 ∧ ∃ n9 : String, Cond.classLink own w.catchType n9 ∈ pm_T ∧ Cond.not (.castable E n9) ∈ pm_nest)) (hcov : covers x pc = true) (h0 : x.catchType ≠ 0) (hlink : Cond.classLink own x.catchType E ∈ pm_T) (hini : Cond.initialized E ∈ pm_T) {tgt : Nat} (ht : x.handlerPc = tgt)
    (k : ∀ q : Nat, pm_G l z D X cu su Q nx M tgt L [.ref q]) : pm_GX l z D X cu su Q nx M pc L E := by
  obtain ⟨hx, hb, hml, hown, hts, hr, hlk, hK, hnm, htb, ⟨hrf, hrl, hrc, hrs⟩, hz, hcs⟩ := id B
  obtain ⟨p, e, R, s, m, args, below, meth, c⟩ := X
  intro H locs ls q ce st hR hS hl hce hcv hcl
  subst ht
  exact vx_catch hown pre x suf (by simp only at htb; rw [htb, hsp]) (fun w hw => by
    rcases hpass w hw with h | ⟨h1, n9, h2, h3⟩
    · exact Or.inl h
    · exact Or.inr ⟨h1, n9, hts _ h2, va_Nc.of (hcs.2.2.2.2.2 _ h3)⟩) hcov h0 (hts _ hlink) (px_castable (hts _ hini)) hce hcv hcl (k q H locs ls hR hS hl)
end PCW
