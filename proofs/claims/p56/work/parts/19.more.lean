/-! char writes, and more -/
section PM9
variable {l : Launch} {z : Nat} {D : va_G} {kA : Nat → ClassId} {kE : Nat → Nat} {own : String} {cc : ByteArray} {nL : Nat} {ret : Option FieldType} {nm : String} {tb : List ExceptionTableEntry} {d mc ms : Nat} {X : pm_X} {cu su : Nat} {Q : State → Prop} {nx : Nat} {M : pm_M} {pc : Nat} {L : List (Option Value)} {st : List Value}
theorem pm_cast (B : pm_B l z D kA kE own cc nL ret nm tb d mc ms X) {a n : Nat} {f : Nat → Int32} {i : Int32} {x : Int32} (hd : decode cc pc = .ok (.castore, 1)) (hM : M a = some (.inl (kA 3, n, .inl f))) (hin : vp_in i n)
    (k : pm_G l z D X cu su Q nx (pm_up M a (.inl (kA 3, n, .inl (upd f i.toNatClampNeg (vp_nar .char x))))) (pc + 1) L st) : pm_G l z D X cu su Q nx M pc L (.int x :: .int i :: .ref (z + a) :: st) := by
  obtain ⟨hx, hb, hml, hown, hts, hr, hlk, hK, hnm, htb, ⟨hrf, hrl, hrc, hrs⟩, hz, hcs⟩ := B
  obtain ⟨p, e, R, s, m, args, below, meth, c⟩ := X
  intro H locs ls hR hS hl
  refine W.cast hx hb (hR.2 a _ hM).2 ((hK.2 3 _ rfl).1 n (fun j => .int (f j))) (fun q => by cases q) (by show ¬ (i < 0 ∨ (arrV _ _ _).slots.size ≤ _); rw [arrV_size]; exact hin) rfl rfl hd fun H1 e z1 oq => ?_
  refine k H1 _ ls (hR.put hM ?_ z1 oq) (hS.put z1 oq (Nat.le_add_right z a)) hl
  show H1[z + a]? = some (vp_cell _ _)
  rw [e]
  show some (Cell.setSlot (vp_cell _ _) _ _) = _
  rw [vp_cell_i, vp_cell_i, arrV_store]
  congr 2
  funext q
  by_cases hq : q = i.toNatClampNeg
  · subst hq
    simp [updV, upd, vp_nar]
    try rfl
  · simp [updV, upd, hq]
theorem pm_cast_n (B : pm_B l z D kA kE own cc nL ret nm tb d mc ms X) {a n : Nat} {f : Nat → Int32} {x : Int32} (hd : decode cc pc = .ok (.castore, 1)) (hM : M a = some (.inl (kA 3, n, .inl f))) (i : Nat) (hi : i < n) (hn : n < 2147483648)
    (k : pm_G l z D X cu su Q nx (pm_up M a (.inl (kA 3, n, .inl (upd f i (vp_nar .char x))))) (pc + 1) L st) : pm_G l z D X cu su Q nx M pc L (.int x :: .int (nI i) :: .ref (z + a) :: st) :=
  pm_cast B hd hM (pm_inj hi hn) (by rw [pm_cln hi hn]; exact k)
end PM9
theorem pm_mv_abs (x : Int32) : True := trivial
