section PN
variable {l : Launch} {z : Nat} {D : va_G} {kA : Nat → ClassId} {kE : Nat → Nat} {own : String} {cc : ByteArray} {nL : Nat} {ret : Option FieldType} {nm : String} {tb : List ExceptionTableEntry} {d mc ms : Nat} {X : pm_X} {cu su : Nat} {Q : State → Prop} {nx : Nat} {M : pm_M} {pc : Nat} {L : List (Option Value)} {st : List Value}
theorem pm_newi (B : pm_B l z D kA kE own cc nL ret nm tb d mc ms X) {n : Int32} {N : Nat} (hd : decode cc pc = .ok (.newarray .int, 2)) (hw : Cond.arrayClass .int ∈ pm_T) (hn : n = nI N) (hN : Nat.ble N 10000 = true) (hcu : cu + 1 ≤ mc) (hsu : su + N ≤ ms)
    (k : pm_G l z D X (cu + 1) (su + N) Q (nx + 1) (pm_up M nx (.inl (kA 0, N, .inl (fun _ => 0)))) (pc + 2) L (.ref (z + nx) :: st)) : pm_G l z D X cu su Q nx M pc L (.int n :: st) := by
  obtain ⟨hx, hb, hml, hown, hts, hr, hlk, hK, hnm, htb, ⟨hrf, hrl, hrc, hrs⟩, hz, hcs⟩ := B
  obtain ⟨p, e, R, s, m, args, below, meth, c⟩ := X
  intro H locs ls hR hS hl
  subst hn
  have hN9 : N ≤ 10000 := Nat.le_of_ble_eq_true hN
  refine va_newaK (atype := .int) hx hb (hts _ hw) rfl hd rfl (nI_pos (by omega)) (nI_clamp (by omega)) (Nat.le_trans (Nat.mul_le_mul hN9 (show componentBytes .int ≤ 8 from by decide)) (by decide)) (by rw [hrc]; exact hcu) (by rw [hrs]; exact hsu) rfl fun H1 cA e1 z1 o1 hAr hNm => ?_
  have hsz : z + nx = H.size := hR.1.symm
  have hcA : cA = kA 0 := Option.some.inj (hNm.symm.trans (hK.2 0 _ rfl).2)
  subst hcA
  have hat : va_at D pm_cl (z + nx, .inl (kA 0, N, .inl (fun _ => 0))) H1 := by
    rw [hsz]
    exact e1
  have h9 := k H1 locs ls (hR.push hat z1 o1) ⟨Nat.le_trans hS.1 (by omega), fun x h1 h2 => (o1 x (Nat.lt_of_lt_of_le h1 hS.1)).trans (hS.2.1 x h1 h2), hS.2.2⟩ hl
  rw [hsz] at h9
  exact h9
theorem pm_newl (B : pm_B l z D kA kE own cc nL ret nm tb d mc ms X) {n : Int32} {N : Nat} (hd : decode cc pc = .ok (.newarray .long, 2)) (hw : Cond.arrayClass .long ∈ pm_T) (hn : n = nI N) (hN : Nat.ble N 10000 = true) (hcu : cu + 1 ≤ mc) (hsu : su + N ≤ ms)
    (k : pm_G l z D X (cu + 1) (su + N) Q (nx + 1) (pm_up M nx (.inl (kA 1, N, .inr (.inl (fun _ => 0))))) (pc + 2) L (.ref (z + nx) :: st)) : pm_G l z D X cu su Q nx M pc L (.int n :: st) := by
  obtain ⟨hx, hb, hml, hown, hts, hr, hlk, hK, hnm, htb, ⟨hrf, hrl, hrc, hrs⟩, hz, hcs⟩ := B
  obtain ⟨p, e, R, s, m, args, below, meth, c⟩ := X
  intro H locs ls hR hS hl
  subst hn
  have hN9 : N ≤ 10000 := Nat.le_of_ble_eq_true hN
  refine va_newaK (atype := .long) hx hb (hts _ hw) rfl hd rfl (nI_pos (by omega)) (nI_clamp (by omega)) (Nat.le_trans (Nat.mul_le_mul hN9 (show componentBytes .long ≤ 8 from by decide)) (by decide)) (by rw [hrc]; exact hcu) (by rw [hrs]; exact hsu) rfl fun H1 cA e1 z1 o1 hAr hNm => ?_
  have hsz : z + nx = H.size := hR.1.symm
  have hcA : cA = kA 1 := Option.some.inj (hNm.symm.trans (hK.2 1 _ rfl).2)
  subst hcA
  have hat : va_at D pm_cl (z + nx, .inl (kA 1, N, .inr (.inl (fun _ => 0)))) H1 := by
    rw [hsz]
    exact e1
  have h9 := k H1 locs ls (hR.push hat z1 o1) ⟨Nat.le_trans hS.1 (by omega), fun x h1 h2 => (o1 x (Nat.lt_of_lt_of_le h1 hS.1)).trans (hS.2.1 x h1 h2), hS.2.2⟩ hl
  rw [hsz] at h9
  exact h9
theorem pm_newc (B : pm_B l z D kA kE own cc nL ret nm tb d mc ms X) {n : Int32} {N : Nat} (hd : decode cc pc = .ok (.newarray .char, 2)) (hw : Cond.arrayClass .char ∈ pm_T) (hn : n = nI N) (hN : Nat.ble N 10000 = true) (hcu : cu + 1 ≤ mc) (hsu : su + N ≤ ms)
    (k : pm_G l z D X (cu + 1) (su + N) Q (nx + 1) (pm_up M nx (.inl (kA 3, N, .inl (fun _ => 0)))) (pc + 2) L (.ref (z + nx) :: st)) : pm_G l z D X cu su Q nx M pc L (.int n :: st) := by
  obtain ⟨hx, hb, hml, hown, hts, hr, hlk, hK, hnm, htb, ⟨hrf, hrl, hrc, hrs⟩, hz, hcs⟩ := B
  obtain ⟨p, e, R, s, m, args, below, meth, c⟩ := X
  intro H locs ls hR hS hl
  subst hn
  have hN9 : N ≤ 10000 := Nat.le_of_ble_eq_true hN
  refine va_newaK (atype := .char) hx hb (hts _ hw) rfl hd rfl (nI_pos (by omega)) (nI_clamp (by omega)) (Nat.le_trans (Nat.mul_le_mul hN9 (show componentBytes .char ≤ 8 from by decide)) (by decide)) (by rw [hrc]; exact hcu) (by rw [hrs]; exact hsu) rfl fun H1 cA e1 z1 o1 hAr hNm => ?_
  have hsz : z + nx = H.size := hR.1.symm
  have hcA : cA = kA 3 := Option.some.inj (hNm.symm.trans (hK.2 3 _ rfl).2)
  subst hcA
  have hat : va_at D pm_cl (z + nx, .inl (kA 3, N, .inl (fun _ => 0))) H1 := by
    rw [hsz]
    exact e1
  have h9 := k H1 locs ls (hR.push hat z1 o1) ⟨Nat.le_trans hS.1 (by omega), fun x h1 h2 => (o1 x (Nat.lt_of_lt_of_le h1 hS.1)).trans (hS.2.1 x h1 h2), hS.2.2⟩ hl
  rw [hsz] at h9
  exact h9
end PN
