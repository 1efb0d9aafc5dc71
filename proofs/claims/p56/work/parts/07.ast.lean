section PN
variable {l : Launch} {z : Nat} {D : va_G} {kA : Nat → ClassId} {kE : Nat → Nat} {own : String} {cc : ByteArray} {nL : Nat} {ret : Option FieldType} {nm : String} {tb : List ExceptionTableEntry} {d mc ms : Nat} {X : pm_X} {cu su : Nat} {Q : State → Prop} {nx : Nat} {M : pm_M} {pc : Nat} {L : List (Option Value)} {st : List Value}
theorem pm_iast (B : pm_B l z D kA kE own cc nL ret nm tb d mc ms X) {a n : Nat} {f : Nat → Int32} {i : Int32} {x : Int32} (hd : decode cc pc = .ok (.iastore, 1)) (hM : M a = some (.inl (kA 0, n, .inl f))) (hin : vp_in i n)
    (k : pm_G l z D X cu su Q nx (pm_up M a (.inl (kA 0, n, .inl (upd f i.toNatClampNeg x)))) (pc + 1) L st) : pm_G l z D X cu su Q nx M pc L (.int x :: .int i :: .ref (z + a) :: st) := by
  obtain ⟨hx, hb, hml, hown, hts, hr, hlk, hK, hnm, htb, ⟨hrf, hrl, hrc, hrs⟩, hz, hcs⟩ := B
  obtain ⟨p, e, R, s, m, args, below, meth, c⟩ := X
  intro H locs ls hR hS hl
  refine W.iast hx hb (hR.2 a _ hM).2 ((hK.2 0 _ rfl).1 n (fun j => .int (f j))) (fun q => by cases q) (by show ¬ (i < 0 ∨ (arrV _ _ _).slots.size ≤ _); rw [arrV_size]; exact hin) rfl rfl hd fun H1 e z1 oq => ?_
  refine k H1 _ ls (hR.put hM ?_ z1 oq) (hS.put z1 oq (Nat.le_add_right z a)) hl
  show H1[z + a]? = some (vp_cell _ _)
  rw [e]
  show some (Cell.setSlot (vp_cell _ _) _ _) = _
  rw [vp_cell_i, vp_cell_i, arrV_store]
  congr 2
  funext q
  by_cases hq : q = i.toNatClampNeg
  · subst hq; simp [updV, upd]
  · simp [updV, upd, hq]
theorem pm_last (B : pm_B l z D kA kE own cc nL ret nm tb d mc ms X) {a n : Nat} {f : Nat → Int64} {i : Int32} {x : Int64} (hd : decode cc pc = .ok (.lastore, 1)) (hM : M a = some (.inl (kA 1, n, .inr (.inl f)))) (hin : vp_in i n)
    (k : pm_G l z D X cu su Q nx (pm_up M a (.inl (kA 1, n, .inr (.inl (vp_updL f i.toNatClampNeg x))))) (pc + 1) L st) : pm_G l z D X cu su Q nx M pc L (.long x :: .int i :: .ref (z + a) :: st) := by
  obtain ⟨hx, hb, hml, hown, hts, hr, hlk, hK, hnm, htb, ⟨hrf, hrl, hrc, hrs⟩, hz, hcs⟩ := B
  obtain ⟨p, e, R, s, m, args, below, meth, c⟩ := X
  intro H locs ls hR hS hl
  refine W.last hx hb (hR.2 a _ hM).2 ((hK.2 1 _ rfl).1 n (fun j => .long (f j))) (fun q => by cases q) (by show ¬ (i < 0 ∨ (arrV _ _ _).slots.size ≤ _); rw [arrV_size]; exact hin) rfl rfl hd fun H1 e z1 oq => ?_
  refine k H1 _ ls (hR.put hM ?_ z1 oq) (hS.put z1 oq (Nat.le_add_right z a)) hl
  show H1[z + a]? = some (vp_cell _ _)
  rw [e]
  show some (Cell.setSlot (vp_cell _ _) _ _) = _
  rw [vp_cell_l, vp_cell_l, arrV_store]
  congr 2
  funext q
  by_cases hq : q = i.toNatClampNeg
  · subst hq; simp [updV, vp_updL]
  · simp [updV, vp_updL, hq]
theorem pm_aast (B : pm_B l z D kA kE own cc nL ret nm tb d mc ms X) {a n t0 ci : Nat} {f : Nat → Option Nat} {i : Int32} {v : Nat} {vs : List Value} (hd : decode cc pc = .ok (.aastore, 1)) (hM : M a = some (.inl (kA t0, n, .inr (.inr (.inr (.inr f)))))) (h13 : Nat.ble (ci + 1) 13 = true) (ht : (pm_tys kA)[t0]? = some (kA t0, .object (pm_ci ci).1)) (hin : vp_in i n) (hv : M v = some (.inr (ci, vs)))
    (k : pm_G l z D X cu su Q nx (pm_up M a (.inl (kA t0, n, .inr (.inr (.inr (.inr (va_up f i.toNatClampNeg (some (z + v))))))))) (pc + 1) L st) : pm_G l z D X cu su Q nx M pc L (.ref (z + v) :: .int i :: .ref (z + a) :: st) := by
  obtain ⟨hx, hb, hml, hown, hts, hr, hlk, hK, hnm, htb, ⟨hrf, hrl, hrc, hrs⟩, hz, hcs⟩ := B
  obtain ⟨p, e, R, s, m, args, below, meth, c⟩ := X
  intro H locs ls hR hS hl
  have hlt : i.toNatClampNeg < n := Nat.not_le.mp fun q => hin (Or.inr q)
  have h0 : ¬ i < 0 := fun q => hin (Or.inl q)
  have hc := pm_ci_get (Nat.le_of_ble_eq_true h13)
  obtain ⟨r', hr', cellV, g1, g2, g3, -⟩ := (hR.2 v _ hv).2
  have hcls := (hK.1 ci _ hc).2
  obtain ⟨kA9, comp, k1, k2, k3, -⟩ := (hK.2 t0 _ ht).2
  have hcomp : comp = D.1 ci := Option.some.inj (k3.symm.trans hcls.1)
  subst hcomp
  obtain ⟨kC, hkC, -⟩ := hcls.2
  refine W.aast hx hb (hR.2 a _ hM).2 (fun q h => by cases h) (fun h => by cases h) k1 k2 rfl hkC ⟨h0, by show _ < (arrV _ _ _).slots.size; rw [arrV_size]; exact hlt⟩ g1 (fun q h => by rw [g3] at h; cases h) (by rw [g2]; exact hkC) (by rw [g2]; exact va_assign hcls) rfl rfl hd fun H1 e z1 oq => ?_
  refine k H1 _ ls (hR.put hM ?_ z1 oq) (hS.put z1 oq (Nat.le_add_right z a)) hl
  show H1[z + a]? = some (vp_cell _ _)
  rw [e]
  show some (Cell.setSlot (vp_cell _ _) _ _) = _
  rw [vp_cell_q, vp_cell_q, arrV_store]
  congr 2
  funext q
  by_cases hq : q = i.toNatClampNeg
  · subst hq; simp [updV, va_up, va_rf]
  · simp [updV, va_up, hq]
end PN
