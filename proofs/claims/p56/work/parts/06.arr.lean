section PN
variable {l : Launch} {z : Nat} {D : va_G} {kA : Nat → ClassId} {kE : Nat → Nat} {own : String} {cc : ByteArray} {nL : Nat} {ret : Option FieldType} {nm : String} {tb : List ExceptionTableEntry} {d mc ms : Nat} {X : pm_X} {cu su : Nat} {Q : State → Prop} {nx : Nat} {M : pm_M} {pc : Nat} {L : List (Option Value)} {st : List Value}
theorem pm_iald (B : pm_B l z D kA kE own cc nL ret nm tb d mc ms X) {a n : Nat} {f : Nat → Int32} {i : Int32} (hd : decode cc pc = .ok (.iaload, 1)) (hM : M a = some (.inl (kA 0, n, .inl f))) (hin : vp_in i n)
    (k : pm_G l z D X cu su Q nx M (pc + 1) L (.int (f i.toNatClampNeg) :: st)) : pm_G l z D X cu su Q nx M pc L (.int i :: .ref (z + a) :: st) := by
  obtain ⟨hx, hb, hml, hown, hts, hr, hlk, hK, hnm, htb, ⟨hrf, hrl, hrc, hrs⟩, hz, hcs⟩ := B
  obtain ⟨p, e, R, s, m, args, below, meth, c⟩ := X
  intro H locs ls hR hS hl
  exact va_iald (ws := [(z + a, .inl (kA 0, n, .inl f))]) hx hb hK (pm_single (hR.2 a _ hM).2) 0 0 rfl rfl hin hd (k H locs ls hR hS hl)
theorem pm_lald (B : pm_B l z D kA kE own cc nL ret nm tb d mc ms X) {a n : Nat} {f : Nat → Int64} {i : Int32} (hd : decode cc pc = .ok (.laload, 1)) (hM : M a = some (.inl (kA 1, n, .inr (.inl f)))) (hin : vp_in i n)
    (k : pm_G l z D X cu su Q nx M (pc + 1) L (.long (f i.toNatClampNeg) :: st)) : pm_G l z D X cu su Q nx M pc L (.int i :: .ref (z + a) :: st) := by
  obtain ⟨hx, hb, hml, hown, hts, hr, hlk, hK, hnm, htb, ⟨hrf, hrl, hrc, hrs⟩, hz, hcs⟩ := B
  obtain ⟨p, e, R, s, m, args, below, meth, c⟩ := X
  intro H locs ls hR hS hl
  exact va_lald (ws := [(z + a, .inl (kA 1, n, .inr (.inl f)))]) hx hb hK (pm_single (hR.2 a _ hM).2) 0 1 rfl rfl hin hd (k H locs ls hR hS hl)
theorem pm_cald (B : pm_B l z D kA kE own cc nL ret nm tb d mc ms X) {a n : Nat} {f : Nat → Int32} {i : Int32} (hd : decode cc pc = .ok (.caload, 1)) (hM : M a = some (.inl (kA 3, n, .inl f))) (hin : vp_in i n)
    (k : pm_G l z D X cu su Q nx M (pc + 1) L (.int (f i.toNatClampNeg) :: st)) : pm_G l z D X cu su Q nx M pc L (.int i :: .ref (z + a) :: st) := by
  obtain ⟨hx, hb, hml, hown, hts, hr, hlk, hK, hnm, htb, ⟨hrf, hrl, hrc, hrs⟩, hz, hcs⟩ := B
  obtain ⟨p, e, R, s, m, args, below, meth, c⟩ := X
  intro H locs ls hR hS hl
  exact va_cald (ws := [(z + a, .inl (kA 3, n, .inl f))]) hx hb hK (pm_single (hR.2 a _ hM).2) 0 3 rfl rfl hin hd (k H locs ls hR hS hl)
theorem pm_aald (B : pm_B l z D kA kE own cc nL ret nm tb d mc ms X) {a n t0 : Nat} {C : String} {f : Nat → Option Nat} {i : Int32} (hd : decode cc pc = .ok (.aaload, 1)) (hM : M a = some (.inl (kA t0, n, .inr (.inr (.inr (.inr f)))))) (ht : (pm_tys kA)[t0]? = some (kA t0, .object C)) (hin : vp_in i n)
    (k : pm_G l z D X cu su Q nx M (pc + 1) L (va_rf (f i.toNatClampNeg) :: st)) : pm_G l z D X cu su Q nx M pc L (.int i :: .ref (z + a) :: st) := by
  obtain ⟨hx, hb, hml, hown, hts, hr, hlk, hK, hnm, htb, ⟨hrf, hrl, hrc, hrs⟩, hz, hcs⟩ := B
  obtain ⟨p, e, R, s, m, args, below, meth, c⟩ := X
  intro H locs ls hR hS hl
  exact va_aldq (ws := [(z + a, .inl (kA t0, n, .inr (.inr (.inr (.inr f)))))]) hx hb hK (pm_single (hR.2 a _ hM).2) 0 t0 rfl ht hin hd (k H locs ls hR hS hl)
theorem pm_alen (B : pm_B l z D kA kE own cc nL ret nm tb d mc ms X) {a t0 : Nat} {x : vp_A} {ty : FieldType} {v : Int32} (hd : decode cc pc = .ok (.arraylength, 1)) (hM : M a = some (.inl (kA t0, x))) (ht : (pm_tys kA)[t0]? = some (kA t0, ty)) (hv : Int32.ofNat x.1 = v)
    (k : pm_G l z D X cu su Q nx M (pc + 1) L (.int v :: st)) : pm_G l z D X cu su Q nx M pc L (.ref (z + a) :: st) := by
  obtain ⟨hx, hb, hml, hown, hts, hr, hlk, hK, hnm, htb, ⟨hrf, hrl, hrc, hrs⟩, hz, hcs⟩ := B
  obtain ⟨p, e, R, s, m, args, below, meth, c⟩ := X
  intro H locs ls hR hS hl
  exact va_alen (ws := [(z + a, .inl (kA t0, x))]) hx hb hK (pm_single (hR.2 a _ hM).2) 0 t0 rfl ht hv hd (k H locs ls hR hS hl)
end PN
