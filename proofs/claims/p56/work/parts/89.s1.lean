/-! bytes copied -/
section PSA
variable {l : Launch} {z : Nat} {D : va_G} {kA : Nat → ClassId} {kE : Nat → Nat} {own : String} {cc : ByteArray} {nL : Nat} {ret : Option FieldType} {nm : String} {tb : List ExceptionTableEntry} {d mc ms : Nat} {X : pm_X} {cu su : Nat} {Q : State → Prop} {nx : Nat} {M : pm_M} {pc : Nat} {L : List (Option Value)} {st : List Value}
variable {index : Nat}
theorem pm_acopyB (B : pm_B l z D kA kE own cc nL ret nm tb d mc ms X) {a0 a n0 n1 : Nat} {f g : Nat → Int32} (hd : decode cc pc = .ok (.invokestatic index, 3)) (hw : Cond.methodLink own index arraycopyName ∈ pm_T) (ha0 : M a0 = some (.inl (kA 4, n0, .inl f))) (ha1 : M a = some (.inl (kA 4, n1, .inl g))) {sp dp n : Int32} (sn dn nn : Nat) (hsp : sp = nI sn) (hdp : dp = nI dn) (hnn : n = nI nn) (hfit : ∀ i, i < nn → fits .byte (.int (f (sn + i))) = true) (h4 : sn + nn ≤ n0) (h5 : dn + nn ≤ n1) (hb0 : n0 < 2147483648) (hb1 : n1 < 2147483648)
    (hd1 : Nat.ble 2 d = true) (hst : Nat.ble ((st.map fun v => v.category).sum) 8 = true)
    (k : pm_G l z D X cu su Q nx (pm_up M a (.inl (kA 4, n1, .inl (va_cpy f g sn dn nn)))) (pc + 3) L st) : pm_G l z D X cu su Q nx M pc L (.int n :: .int dp :: .ref (z + a) :: .int sp :: .ref (z + a0) :: st) := by
  obtain ⟨hx, hb, hml, hown, hts, hr, hlk, hK, hnm, htb, ⟨hrf, hrl, hrc, hrs⟩, hz, hcs⟩ := id B
  obtain ⟨p, e, R, s, m, args, below, meth, c⟩ := X
  intro H locs ls hR hS hl
  have hd2 := Nat.le_of_ble_eq_true hd1
  have hst2 := Nat.le_of_ble_eq_true hst
  subst hsp; subst hdp; subst hnn
  have e1s : (nI sn).toNatClampNeg = sn := nI_clamp (by omega)
  have e1d : (nI dn).toNatClampNeg = dn := nI_clamp (by omega)
  have e1n : (nI nn).toNatClampNeg = nn := nI_clamp (by omega)
  have i1s : (nI sn).toInt = (sn : Int) := nI_toInt (by omega)
  have i1d : (nI dn).toInt = (dn : Int) := nI_toInt (by omega)
  have i1n : (nI nn).toInt = (nn : Int) := nI_toInt (by omega)
  have hc0 : H[z + a0]? = some (vp_cell (kA 4) (n0, .inl f)) := (hR.2 a0 _ ha0).2
  have hc1 : H[z + a]? = some (vp_cell (kA 4) (n1, .inl g)) := (hR.2 a _ ha1).2
  have hnf : nativeFrameWords "java/lang/System" "arraycopy" 5 ≤ 30 := by decide
  intro T hT X
  obtain ⟨-, k0, hk0, cm0, hkk0⟩ := (hK.2 4 _ rfl).1 n0 (fun j => .int (f j))
  obtain ⟨-, k1, hk1, cm1, hkk1⟩ := (hK.2 4 _ rfl).1 n1 (fun j => .int (g j))
  obtain ⟨vm', X', step⟩ := X.arraycopy hx hown (hts _ hw) (hts _ wm_acopy.1) (hts _ wm_acopy.2.1) (hts _ wm_acopy.2.2) (src := z + a0) (dst := z + a) (cs := vp_cell (kA 4) (n0, .inl f)) (cd := vp_cell (kA 4) (n1, .inl g)) (srcPos := nI sn) (destPos := nI dn) (n := nI nn) (by rw [hT]; exact hc0) (by rw [hT]; exact hc1)
    (fun _ h => by cases h) (fun _ h => by cases h) (fun h => by cases h) (fun h => by cases h) hk0 hk1 hkk0 hkk1 (by simp [refKind]) (nI_pos (by omega)) (nI_pos (by omega)) (nI_pos (by omega))
    (by rw [i1s, i1n]; show ¬ _ > ((arrV (kA 4) n0 (fun j => .int (f j))).slots.size : Int); rw [arrV_size]; omega)
    (by rw [i1d, i1n]; show ¬ _ > ((arrV (kA 4) n1 (fun j => .int (g j))).slots.size : Int); rw [arrV_size]; omega)
    (fun vm₁ _ i hi => by
      have e : (vp_cell (kA 4) (n0, .inl f)).slots.getD ((nI sn).toNatClampNeg + i) .null = .int (f ((nI sn).toNatClampNeg + i)) := by
        show (arrV (kA 4) n0 (fun j => .int (f j))).slots.getD _ _ = _
        rw [Array.getD_eq_getD_getElem?, arrV_read _ _ (by rw [e1n] at hi; rw [e1s]; omega)]
        rfl
      refine ⟨?_, ?_⟩
      · rw [e, e1s]
        exact hfit i (by rw [e1n] at hi; exact hi)
      · rw [e]
        exact trivial)
    (g := F0 m pc ls (.int (nI nn) :: .int (nI dn) :: .ref (z + a) :: .int (nI sn) :: .ref (z + a0) :: st)) rfl hl.1 (rest := st) rfl (by rw [hb]; exact hd) (by simp only at hrf ⊢; omega) (by show 2 * 0 + _ + _ ≤ _; simp only at hrl ⊢; omega)
  have e1 : copied (vp_cell (kA 4) (n0, .inl f)) (vp_cell (kA 4) (n1, .inl g)) (nI sn) (nI dn) (nI nn) = vp_cell (kA 4) (n1, .inl (va_cpy f g sn dn nn)) := by
    have h9 := va_copied (sp := (nI sn).toNatClampNeg) (dp := (nI dn).toNatClampNeg) (n := (nI nn).toNatClampNeg) (n0 := n0) (n1 := n1) (fun z => Value.int z) (kA 4) (kA 4) f g (by rw [e1s, e1n]; exact h4)
    rw [e1s, e1d, e1n] at h9
    show (arrV (kA 4) n1 (fun j => Value.int (g j))).storeRun (nI dn).toNatClampNeg ((arrV (kA 4) n0 (fun j => Value.int (f j))).stretch (nI sn).toNatClampNeg (nI nn).toNatClampNeg) = _
    rw [e1s, e1d, e1n, h9]
    rfl
  rw [e1] at X' step
  have hl9 : z + a < H.size := (Array.getElem?_eq_some_iff.mp hc1).1
  have hheap : ((T.setVm vm').setCell (z + a) (vp_cell (kA 4) (n1, .inl (va_cpy f g sn dn nn)))).heap = H.setIfInBounds (z + a) (vp_cell (kA 4) (n1, .inl (va_cpy f g sn dn nn))) := by rw [← hT]; rfl
  have oq : ∀ q : Nat, q ≠ z + a → (H.setIfInBounds (z + a) (vp_cell (kA 4) (n1, .inl (va_cpy f g sn dn nn))))[q]? = H[q]? := fun q hq => by simp [Array.getElem?_setIfInBounds, Ne.symm hq]
  obtain ⟨t, a1, b1⟩ := k _ _ ls (hR.put ha1 (show (H.setIfInBounds (z + a) _)[z + a]? = some _ by simp [Array.getElem?_setIfInBounds, hl9]) (by simp) oq) ⟨by simp; exact hS.1, fun q g1 g2 => by
      rw [oq q (fun e => g2 (by rw [e]; exact Nat.le_add_right z a))]
      exact hS.2.1 q g1 g2, fun q hq => by
      rcases List.mem_append.mp hq with h | h
      · exact hS.2.2 q h
      · obtain ⟨z9, -, hz9⟩ := List.mem_map.mp h
        rw [← hz9]
        exact Nat.le_add_right z a⟩ hl _ hheap X'
  exact ⟨t, step t a1, b1⟩
/-- out of a text of the tables -/
theorem pm_acopyT (B : pm_B l z D kA kE own cc nL ret nm tb d mc ms X) {a0 a n0 n1 : Nat} {f g : Nat → Int32} (hd : decode cc pc = .ok (.invokestatic index, 3)) (hw : Cond.methodLink own index arraycopyName ∈ pm_T) (hZ : ∀ U H, pm_Kx z kE U H → va_T .byte a0 n0 (fun j => .int (f j)) (fun q => z ≤ q) U H) (ha1 : M a = some (.inl (kA 4, n1, .inl g))) {sp dp n : Int32} (sn dn nn : Nat) (hsp : sp = nI sn) (hdp : dp = nI dn) (hnn : n = nI nn) (hfit : ∀ i, i < nn → fits .byte (.int (f (sn + i))) = true) (h4 : sn + nn ≤ n0) (h5 : dn + nn ≤ n1) (hb0 : n0 < 2147483648) (hb1 : n1 < 2147483648)
    (hd1 : Nat.ble 2 d = true) (hst : Nat.ble ((st.map fun v => v.category).sum) 8 = true)
    (k : pm_G l z D X cu su Q nx (pm_up M a (.inl (kA 4, n1, .inl (va_cpy f g sn dn nn)))) (pc + 3) L st) : pm_G l z D X cu su Q nx M pc L (.int n :: .int dp :: .ref (z + a) :: .int sp :: .ref a0 :: st) := by
  obtain ⟨hx, hb, hml, hown, hts, hr, hlk, hK, hnm, htb, ⟨hrf, hrl, hrc, hrs⟩, hz, hcs⟩ := id B
  obtain ⟨p, e, R, s, m, args, below, meth, c⟩ := X
  intro H locs ls hR hS hl
  have hd2 := Nat.le_of_ble_eq_true hd1
  have hst2 := Nat.le_of_ble_eq_true hst
  subst hsp; subst hdp; subst hnn
  have e1s : (nI sn).toNatClampNeg = sn := nI_clamp (by omega)
  have e1d : (nI dn).toNatClampNeg = dn := nI_clamp (by omega)
  have e1n : (nI nn).toNatClampNeg = nn := nI_clamp (by omega)
  have i1s : (nI sn).toInt = (sn : Int) := nI_toInt (by omega)
  have i1d : (nI dn).toInt = (dn : Int) := nI_toInt (by omega)
  have i1n : (nI nn).toInt = (nn : Int) := nI_toInt (by omega)
  obtain ⟨scr, u1, ⟨u6, k0, hk0, cm0, hkk0⟩, u3, u4, -, u5, u7⟩ := hZ _ _ hcs.2.2.2.2.1
  have hc0 : H[a0]? = some scr := by rw [hS.2.1 a0 (Array.getElem?_eq_some_iff.mp u1).1 u7]; exact u1
  have hc1 : H[z + a]? = some (vp_cell (kA 4) (n1, .inl g)) := (hR.2 a _ ha1).2
  have hnf : nativeFrameWords "java/lang/System" "arraycopy" 5 ≤ 30 := by decide
  intro T hT X
  obtain ⟨-, k1, hk1, cm1, hkk1⟩ := (hK.2 4 _ rfl).1 n1 (fun j => .int (g j))
  obtain ⟨vm', X', step⟩ := X.arraycopy hx hown (hts _ hw) (hts _ wm_acopy.1) (hts _ wm_acopy.2.1) (hts _ wm_acopy.2.2) (src := a0) (dst := z + a) (cs := scr) (cd := vp_cell (kA 4) (n1, .inl g)) (srcPos := nI sn) (destPos := nI dn) (n := nI nn) (by rw [hT]; exact hc0) (by rw [hT]; exact hc1)
    u6 (fun _ h => by cases h) u3 (fun h => by cases h) hk0 hk1 hkk0 hkk1 (by simp [refKind]) (nI_pos (by omega)) (nI_pos (by omega)) (nI_pos (by omega))
    (by rw [i1s, i1n]; omega)
    (by rw [i1d, i1n]; show ¬ _ > ((arrV (kA 4) n1 (fun j => .int (g j))).slots.size : Int); rw [arrV_size]; omega)
    (fun vm₁ _ i hi => by
      have e : scr.slots.getD ((nI sn).toNatClampNeg + i) .null = .int (f ((nI sn).toNatClampNeg + i)) := by
        rw [Array.getD_eq_getD_getElem?, u5 _ (by rw [e1n] at hi; rw [e1s]; omega)]
        rfl
      refine ⟨?_, ?_⟩
      · rw [e, e1s]
        exact hfit i (by rw [e1n] at hi; exact hi)
      · rw [e]
        exact trivial)
    (g := F0 m pc ls (.int (nI nn) :: .int (nI dn) :: .ref (z + a) :: .int (nI sn) :: .ref a0 :: st)) rfl hl.1 (rest := st) rfl (by rw [hb]; exact hd) (by simp only at hrf ⊢; omega) (by show 2 * 0 + _ + _ ≤ _; simp only at hrl ⊢; omega)
  have e1 : copied scr (vp_cell (kA 4) (n1, .inl g)) (nI sn) (nI dn) (nI nn) = vp_cell (kA 4) (n1, .inl (va_cpy f g sn dn nn)) := by
    have h9 := va_copiedX (sp := (nI sn).toNatClampNeg) (dp := (nI dn).toNatClampNeg) (n := (nI nn).toNatClampNeg) (n1 := n1) (fun z => Value.int z) scr (kA 4) f g u5 (by rw [e1s, e1n]; exact h4)
    rw [e1s, e1d, e1n] at h9
    show (arrV (kA 4) n1 (fun j => Value.int (g j))).storeRun (nI dn).toNatClampNeg (scr.stretch (nI sn).toNatClampNeg (nI nn).toNatClampNeg) = _
    rw [e1s, e1d, e1n, h9]
    rfl
  rw [e1] at X' step
  have hl9 : z + a < H.size := (Array.getElem?_eq_some_iff.mp hc1).1
  have hheap : ((T.setVm vm').setCell (z + a) (vp_cell (kA 4) (n1, .inl (va_cpy f g sn dn nn)))).heap = H.setIfInBounds (z + a) (vp_cell (kA 4) (n1, .inl (va_cpy f g sn dn nn))) := by rw [← hT]; rfl
  have oq : ∀ q : Nat, q ≠ z + a → (H.setIfInBounds (z + a) (vp_cell (kA 4) (n1, .inl (va_cpy f g sn dn nn))))[q]? = H[q]? := fun q hq => by simp [Array.getElem?_setIfInBounds, Ne.symm hq]
  obtain ⟨t, a1, b1⟩ := k _ _ ls (hR.put ha1 (show (H.setIfInBounds (z + a) _)[z + a]? = some _ by simp [Array.getElem?_setIfInBounds, hl9]) (by simp) oq) ⟨by simp; exact hS.1, fun q g1 g2 => by
      rw [oq q (fun e => g2 (by rw [e]; exact Nat.le_add_right z a))]
      exact hS.2.1 q g1 g2, fun q hq => by
      rcases List.mem_append.mp hq with h | h
      · exact hS.2.2 q h
      · obtain ⟨z9, -, hz9⟩ := List.mem_map.mp h
        rw [← hz9]
        exact Nat.le_add_right z a⟩ hl _ hheap X'
  exact ⟨t, step t a1, b1⟩
/-- a row of bytes cloned -/
theorem pm_cloneB (B : pm_B l z D kA kE own cc nL ret nm tb d mc ms X) {a n : Nat} {f : Nat → Int32} (ho : own = "java/util/Arrays") (hd : decode cc pc = .ok (.invokevirtual 310, 3)) (ha : M a = some (.inl (kA 4, n, .inl f))) (hfit : ∀ i, i < n → fits .byte (.int (f i)) = true) (hcu : cu + 1 ≤ mc) (hsu : su + n ≤ ms)
    (hd1 : Nat.ble 2 d = true) (hst : Nat.ble ((st.map fun v => v.category).sum) 8 = true)
    (k : pm_G l z D X (cu + 1) (su + n) Q (nx + 1) (pm_up M nx (.inl (kA 4, n, .inl f))) (pc + 3) L (.ref (z + nx) :: st)) : pm_G l z D X cu su Q nx M pc L (.ref (z + a) :: st) := by
  obtain ⟨hx, hb, hml, hown, hts, hr, hlk, hK, hnm, htb, ⟨hrf, hrl, hrc, hrs⟩, hz, hcs⟩ := id B
  obtain ⟨p, e, R, s, m, args, below, meth, c⟩ := X
  intro H locs ls hR hS hl
  subst ho
  have hd2 := Nat.le_of_ble_eq_true hd1
  have hst2 := Nat.le_of_ble_eq_true hst
  have hc0 : H[z + a]? = some (vp_cell (kA 4) (n, .inl f)) := (hR.2 a _ ha).2
  have hsz9 : (vp_cell (kA 4) (n, .inl f)).slots.size = n := arrV_size _ _ _
  have hK4 := hK.2 4 _ rfl
  obtain ⟨c9, t9, f1, f2, f3⟩ := Cond.castable_spec (va_Nw.use (A := args) rfl (hcs.2.2.2.2.2 (Cond.castable "[B" "java/lang/Cloneable") (by decide +kernel)))
  have hnm9 : s.vm.findClass "[B" = some (kA 4) := hK4.2
  cases hnm9.symm.trans f1
  intro T hT X9
  obtain ⟨-, kS, hkS, compS, hkindS⟩ := hK4.1 0 (fun _ => .null)
  obtain ⟨-, kT, hkT, compT, hkindT⟩ := State.isArrayOf_alike X9.warmed.alike (hK4.1 0 (fun _ => .null))
  have hsz1 : z + nx = H.size := hR.1.symm
  obtain ⟨vm', X', st9⟩ := X9.cloneArray (index := 310) hx hown (hts _ (pm_T_in 1213 (by decide +kernel) (by decide +kernel))) (hts _ (pm_T_in 1214 (by decide +kernel) (by decide +kernel))) (hts _ (pm_T_in 1215 (by decide +kernel) (by decide +kernel))) (hts _ (pm_T_in 1216 (by decide +kernel) (by decide +kernel))) (hts _ (pm_T_in 1217 (by decide +kernel) (by decide +kernel))) (a := z + a) (cell := vp_cell (kA 4) (n, .inl f)) (by rw [hT]; exact hc0) (fun _ h => by cases h) (fun h => by cases h) hnm9 f2 f3
    (fun i v hv => by
      have hk9 : T.vm.classes[kA 4]? = some kT := hkT
      have hin : i < n := by
        have := (Array.getElem?_eq_some_iff.mp hv).1
        rw [hsz9] at this
        exact this
      have hv2 : v = .int (f i) := by
        have h9 := arrV_read (kA 4) (fun j => Value.int (f j)) hin
        exact Option.some.inj (hv.symm.trans h9)
      rw [hv2]
      show T.fitsSlot (kA 4) _ i (.int (f i)) = true
      simpa [State.fitsSlot, State.slotType?, hk9, hkindT] using hfit i hin)
    (g := F0 m pc ls (.ref (z + a) :: st)) rfl hl.1 rfl (by rw [hb]; exact hd) (by simp only at hrf ⊢; omega) (by show 2 * 0 + _ + 14 ≤ _; simp only at hrl ⊢; omega) (by rw [hrc]; exact hcu) (by rw [hsz9, hrs]; exact hsu) (hloader := Vm.clonesLoader_of_array hkS hkindS)
  rw [hsz9] at X'
  have hat : va_at D pm_cl (z + nx, .inl (kA 4, n, .inl f)) (H.push (vp_cell (kA 4) (n, .inl f))) := by
    rw [hsz1]
    show (H.push _)[H.size]? = _
    rw [Array.getElem?_push_size]
  have o1 : ∀ q : Nat, q < H.size → (H.push (vp_cell (kA 4) (n, .inl f)))[q]? = H[q]? := fun q hq => by rw [Array.getElem?_push, if_neg (Nat.ne_of_lt hq)]
  have z1 : (H.push (vp_cell (kA 4) (n, .inl f))).size = H.size + 1 := Array.size_push _
  obtain ⟨t, b1, b2⟩ := k _ locs ls (hR.push hat z1 o1) ⟨Nat.le_trans hS.1 (by omega), fun x h1 h2 => (o1 x (Nat.lt_of_lt_of_le h1 hS.1)).trans (hS.2.1 x h1 h2), hS.2.2⟩ hl ((T.setVm vm').pushCell (vp_cell (kA 4) (n, .inl f))) (by rw [← hT]; rfl) X'
  refine ⟨t, st9 t ?_, b2⟩
  rw [hsz1] at b1
  rw [hT]
  exact b1
end PSA
