/-! exceptions that the class throws -/
abbrev px_nm : List String := ["java/lang/RuntimeException", "java/lang/Exception"]
theorem px_castable {args : Array Value} {s : State} {X : String} (h : (Cond.initialized X).before args s = true) : (Cond.castable X X).before args s = true := by
  have h' : (Cond.initialized X).holds args s none s [] = true := h
  show (Cond.castable X X).holds args s none s [] = true
  simp only [Cond.holds, Cond.value] at h' ⊢
  cases hc : s.vm.findClass X with
  | none => simp [hc] at h'
  | some c => simp [va_asg]
theorem px_declares {args : Array Value} {s : State} {x : MethodName} {b : ByteArray} {m : Nat} {ret : Option FieldType} (hi : (Cond.instanceMethod x).before args s = true) (hc : (Cond.code x b m ret).before args s = true) : (Cond.declares x).before args s = true := by
  obtain ⟨r0, r, h1, h2, h3, h4⟩ := va_Decl.of hi hc
  show (Cond.declares x).holds args s none s [] = true
  simp only [Cond.holds, Cond.value, h1, Option.bind_some, h2, Option.map_some, h3, h4]
  decide
/-- what the tables say of an exception's class, made at ik, its constructor at ic -/
def px_E (own : String) (ik ic : Nat) (cls : String) : Prop := Bundle.fit cls = true ∧ Cond.classLink own ik cls ∈ pm_T ∧ Cond.initialized cls ∈ pm_T ∧
  (∀ w ∈ vx_atS own ic cls px_nm, goodWord w = true → w ∈ lw_tbl) ∧
  (∀ w ∈ vx_atS own ic cls px_nm, goodWord w = false → w ∈ [Cond.castable cls cls, Cond.declares (Bundle.initS "java/lang/RuntimeException"), Cond.declares (Bundle.initS "java/lang/Exception"), Cond.declares (Bundle.initS Bundle.tN)]) ∧
  (∀ w ∈ Cond.classLink own ik cls :: Cond.initialized cls :: vx_atS own ic cls px_nm, vx_ot w = true)
theorem px_Eof {own cls : String} {ik ic : Nat} (h1 : Bundle.fit cls = true) (h2 : Cond.classLink own ik cls ∈ pm_T) (h3 : Cond.initialized cls ∈ pm_T)
    (h4 : (vx_atS own ic cls px_nm).all (fun w => if goodWord w then decide (w ∈ lw_tbl) else decide (w ∈ [Cond.castable cls cls, Cond.declares (Bundle.initS "java/lang/RuntimeException"), Cond.declares (Bundle.initS "java/lang/Exception"), Cond.declares (Bundle.initS Bundle.tN)])) = true)
    (h5 : (Cond.classLink own ik cls :: Cond.initialized cls :: vx_atS own ic cls px_nm).all vx_ot = true) : px_E own ik ic cls := by
  refine ⟨h1, h2, h3, fun w hw g => ?_, fun w hw g => ?_, fun w hw => List.all_eq_true.mp h5 w hw⟩
  · have := List.all_eq_true.mp h4 w hw
    rw [if_pos g] at this
    exact of_decide_eq_true this
  · have := List.all_eq_true.mp h4 w hw
    rw [if_neg (by rw [g]; decide)] at this
    exact of_decide_eq_true this
theorem px_hat {own cls : String} {ik ic : Nat} {args : Array Value} {s : State} (h : px_E own ik ic cls) (hts : ∀ w ∈ pm_T, w.before args s = true) : ∀ w ∈ vx_atS own ic cls px_nm, w.before args s = true := by
  obtain ⟨-, -, h3, h4, h5, -⟩ := h
  intro w hw
  cases hg : goodWord w with
  | true => exact hts _ (List.mem_filter.mpr ⟨h4 w hw hg, hg⟩)
  | false =>
    have h6 := h5 w hw hg
    simp only [List.mem_cons, List.not_mem_nil, or_false] at h6
    rcases h6 with rfl | rfl | rfl | rfl
    · exact px_castable (hts _ h3)
    · exact px_declares (b := prog_32_method_2_code) (m := 2) (ret := none) (hts _ (pm_T_in 535 (by decide +kernel) (by decide +kernel))) (hts _ (pm_T_in 536 (by decide +kernel) (by decide +kernel)))
    · exact px_declares (b := prog_25_method_2_code) (m := 2) (ret := none) (hts _ (pm_T_in 538 (by decide +kernel) (by decide +kernel))) (hts _ (pm_T_in 539 (by decide +kernel) (by decide +kernel)))
    · exact px_declares (b := prog_39_method_2_code) (m := 2) (ret := none) (hts _ (pm_T_in 541 (by decide +kernel) (by decide +kernel))) (hts _ (pm_T_in 542 (by decide +kernel) (by decide +kernel)))
section PT
variable {l : Launch} {z : Nat} {D : va_G} {kA : Nat → ClassId} {kE : Nat → Nat} {own : String} {cc : ByteArray} {nL : Nat} {ret : Option FieldType} {nm : String} {tb : List ExceptionTableEntry} {d mc ms : Nat} {X : pm_X} {cu su : Nat} {Q : State → Prop} {nx : Nat} {M : pm_M} {pc : Nat} {L : List (Option Value)} {st : List Value}
/-- 'throw new E("text")' -/
theorem pm_throwW (B : pm_B l z D kA kE own cc nL ret nm tb d mc ms X) {cls text : String} {ik is ic : Nat} {post : pm_Po} (ht0 : tb = []) (hE : px_E own ik ic cls) (hq : (own, is, text) ∈ pm_strs)
    (d0 : decode cc pc = .ok (.new ik, 3)) (d3 : decode cc (pc + 3) = .ok (.dup, 1)) (d4 : decode cc (pc + 4) = .ok (.ldc_w is, 3)) (d7 : decode cc (pc + 7) = .ok (.invokespecial ic, 3)) (d10 : decode cc (pc + 10) = .ok (.athrow, 1))
    (hd : Nat.ble 6 d = true) (hst : Nat.ble ((st.map fun v => v.category).sum) 8 = true) (hcu : Nat.ble (cu + 1) mc = true) (hsu : Nat.ble (su + 6) ms = true) (hp : ∀ n', nx ≤ n' → post (.inr cls) n' M) : pm_G l z D X cu su (pm_Q z D post mc ms X) nx M pc L st := by
  obtain ⟨hx, hb, hml, hown, hts, hr, hlk, hK, hnm, htb, ⟨hrf, hrl, hrc, hrs⟩, hz, hcs⟩ := id B
  obtain ⟨p, e, R, s, m, args, below, meth, c⟩ := X
  intro H locs ls hR hS hl
  subst ht0
  have h1 := Nat.le_of_ble_eq_true hd
  have h2 := Nat.le_of_ble_eq_true hst
  have h3 := Nat.le_of_ble_eq_true hcu
  have h4 := Nat.le_of_ble_eq_true hsu
  obtain ⟨sa, hsa⟩ := hcs.2.2.2.1 _ hq
  have hout : ∀ x ∈ c.exceptionTable.toList, covers x (pc + 10) = false := fun x h => by simp only at htb; rw [htb] at h; cases h
  exact vx_throwSW hx hb hcs.1 hown hE.1 (by decide) (hts _ hE.2.1) (hts _ hE.2.2.1) hsa (px_hat hE hts) hE.2.2.2.2.2 hcs.2.1 hcs.2.2.1 hS hl.1 d0 d3 d4 d7 d10 hout
    (by show 2 + 3 < R.frames; simp only at hrf; omega) (by show _ + 82 ≤ R.locals; simp only at hrl; omega) (by simp only at hrc ⊢; omega) (by simp only at hrs ⊢; omega) hlk
    (fun t _ h5 h6 => ⟨t.heap.size - z, M, hp _ (by have := hR.1; omega), hR.grow h5 h6, ⟨Nat.le_trans hS.1 h5, fun q g1 g2 => (h6 q (Nat.lt_of_lt_of_le g1 hS.1)).trans (hS.2.1 q g1 g2)⟩⟩)
    (fun q hq => hS.2.2 q hq) (by omega) (by omega)
/-- .. the text by a narrow place -/
theorem pm_throwS (B : pm_B l z D kA kE own cc nL ret nm tb d mc ms X) {cls text : String} {ik is ic : Nat} {post : pm_Po} (ht0 : tb = []) (hE : px_E own ik ic cls) (hq : (own, is, text) ∈ pm_strs)
    (d0 : decode cc pc = .ok (.new ik, 3)) (d3 : decode cc (pc + 3) = .ok (.dup, 1)) (d4 : decode cc (pc + 4) = .ok (.ldc is, 2)) (d6 : decode cc (pc + 6) = .ok (.invokespecial ic, 3)) (d9 : decode cc (pc + 9) = .ok (.athrow, 1))
    (hd : Nat.ble 6 d = true) (hst : Nat.ble ((st.map fun v => v.category).sum) 8 = true) (hcu : Nat.ble (cu + 1) mc = true) (hsu : Nat.ble (su + 6) ms = true) (hp : ∀ n', nx ≤ n' → post (.inr cls) n' M) : pm_G l z D X cu su (pm_Q z D post mc ms X) nx M pc L st := by
  obtain ⟨hx, hb, hml, hown, hts, hr, hlk, hK, hnm, htb, ⟨hrf, hrl, hrc, hrs⟩, hz, hcs⟩ := id B
  obtain ⟨p, e, R, s, m, args, below, meth, c⟩ := X
  intro H locs ls hR hS hl
  subst ht0
  have h1 := Nat.le_of_ble_eq_true hd
  have h2 := Nat.le_of_ble_eq_true hst
  have h3 := Nat.le_of_ble_eq_true hcu
  have h4 := Nat.le_of_ble_eq_true hsu
  obtain ⟨sa, hsa⟩ := hcs.2.2.2.1 _ hq
  have hout : ∀ x ∈ c.exceptionTable.toList, covers x (pc + 9) = false := fun x h => by simp only at htb; rw [htb] at h; cases h
  exact vx_throwS hx hb hcs.1 hown hE.1 (by decide) (hts _ hE.2.1) (hts _ hE.2.2.1) hsa (px_hat hE hts) hE.2.2.2.2.2 hcs.2.1 hcs.2.2.1 hS hl.1 d0 d3 d4 d6 d9 hout
    (by show 2 + 3 < R.frames; simp only at hrf; omega) (by show _ + 82 ≤ R.locals; simp only at hrl; omega) (by simp only at hrc ⊢; omega) (by simp only at hrs ⊢; omega) hlk
    (fun t _ h5 h6 => ⟨t.heap.size - z, M, hp _ (by have := hR.1; omega), hR.grow h5 h6, ⟨Nat.le_trans hS.1 h5, fun q g1 g2 => (h6 q (Nat.lt_of_lt_of_le g1 hS.1)).trans (hS.2.1 q g1 g2)⟩⟩)
    (fun q hq => hS.2.2 q hq) (by omega) (by omega)
end PT
theorem px_IndexOutOfBounds : px_E RX12 326 330 "java/lang/IndexOutOfBoundsException" := px_Eof (by decide) (pm_T_in 484 (by decide +kernel) (by decide +kernel)) (pm_T_in 58 (by decide +kernel) (by decide +kernel)) (by decide +kernel) (by decide +kernel)
theorem px_IllegalArgument : px_E RX12 142 146 "java/lang/IllegalArgumentException" := px_Eof (by decide) (pm_T_in 556 (by decide +kernel) (by decide +kernel)) (pm_T_in 59 (by decide +kernel) (by decide +kernel)) (by decide +kernel) (by decide +kernel)
theorem px_UnsupportedOperation : px_E RX12 301 305 "java/lang/UnsupportedOperationException" := px_Eof (by decide) (pm_T_in 572 (by decide +kernel) (by decide +kernel)) (pm_T_in 60 (by decide +kernel) (by decide +kernel)) (by decide +kernel) (by decide +kernel)
theorem px_IllegalState : px_E RX12 262 266 "java/lang/IllegalStateException" := px_Eof (by decide) (pm_T_in 1045 (by decide +kernel) (by decide +kernel)) (pm_T_in 66 (by decide +kernel) (by decide +kernel)) (by decide +kernel) (by decide +kernel)
theorem px_Arithmetic : px_E RX12 252 256 "java/lang/ArithmeticException" := px_Eof (by decide) (pm_T_in 937 (by decide +kernel) (by decide +kernel)) (pm_T_in 65 (by decide +kernel) (by decide +kernel)) (by decide +kernel) (by decide +kernel)
