section PN
variable {l : Launch} {z : Nat} {D : va_G} {kA : Nat → ClassId} {kE : Nat → Nat} {own : String} {cc : ByteArray} {nL : Nat} {ret : Option FieldType} {nm : String} {tb : List ExceptionTableEntry} {d mc ms : Nat} {X : pm_X} {cu su : Nat} {Q : State → Prop} {nx : Nat} {M : pm_M} {pc : Nat} {L : List (Option Value)} {st : List Value}
/-- class number ci: name, fields, how many -/
abbrev pm_ci (ci : Nat) : vw_C := pm_cl.getD ci ("", TX0, 0)
def pm_ty (ci k : Nat) : FieldType := (parseFieldDescriptor ((pm_ci ci).2.1 k).2.2.1).getD .int
def pm_Co (ci : Nat) : Prop := (∀ w ∈ u_ws (pm_ci ci).1 (pm_ci ci).2.1 (pm_ci ci).2.2, w ∈ pm_T) ∧ (∀ k, k < (pm_ci ci).2.2 → parseFieldDescriptor ((pm_ci ci).2.1 k).2.2.1 = some (pm_ty ci k)) ∧ ∀ a, a < (pm_ci ci).2.2 → ∀ b, b < (pm_ci ci).2.2 → a ≠ b → ((pm_ci ci).2.1 a).2.1 ≠ ((pm_ci ci).2.1 b).2.1
theorem pm_ci_get {ci : Nat} (h : ci < 13) : pm_cl[ci]? = some ((pm_ci ci).1, (pm_ci ci).2.1, (pm_ci ci).2.2) := by
  have h2 : ci < pm_cl.length := h
  rw [List.getElem?_eq_getElem h2]
  simp [pm_ci, List.getD_eq_getElem?_getD, List.getElem?_eq_getElem h2]
def pm_Fl (own : String) (index ci k : Nat) : Prop := ci < 13 ∧ pm_Co ci ∧ k < (pm_ci ci).2.2 ∧ Cond.fieldLink own index ((pm_ci ci).2.1 k).1 ((pm_ci ci).2.1 k).2.1 ((pm_ci ci).2.1 k).2.2.1 ∈ pm_T
/-- a field that may be written, of this type -/
def pm_Fs (own : String) (index ci k : Nat) (ty : FieldType) : Prop := pm_Fl own index ci k ∧ ((pm_ci ci).2.1 k).2.2.2 = false ∧ parseFieldDescriptor ((pm_ci ci).2.1 k).2.2.1 = some ty
def pm_Ff (own : String) (index ci k : Nat) (ty : FieldType) : Prop := pm_Fl own index ci k ∧ ((pm_ci ci).2.1 k).2.2.2 = true ∧ parseFieldDescriptor ((pm_ci ci).2.1 k).2.2.1 = some ty ∧ ((pm_ci ci).2.1 k).1 = own
theorem pm_single {z a : Nat} {e : va_E} {D : va_G} {H : Heap} (h : va_at D pm_cl (z + a, e) H) : va_P D pm_cl [(z + a, e)] H := fun k q hk => by
  cases k with
  | zero => cases hk; exact h
  | succ k => cases hk
theorem pm_get (B : pm_B l z D kA kE own cc nL ret nm tb d mc ms X) {index ci k0 a : Nat} {fs : List Value} {v : Value} (hd : decode cc pc = .ok (.getfield index, 3)) (hf : pm_Fl own index ci k0) (hM : M a = some (.inr (ci, fs))) (hv : fs[k0]? = some v)
    (k : pm_G l z D X cu su Q nx M (pc + 3) L (v :: st)) : pm_G l z D X cu su Q nx M pc L (.ref (z + a) :: st) := by
  obtain ⟨hx, hb, hml, hown, hts, hr, hlk, hK, hnm, htb, ⟨hrf, hrl, hrc, hrs⟩, hz, hcs⟩ := B
  obtain ⟨p, e, R, s, m, args, below, meth, c⟩ := X
  intro H locs ls hR hS hl
  obtain ⟨h13, ⟨hin, -, -⟩, hk, hw⟩ := hf
  exact va_get (ws := [(z + a, .inr (ci, fs))]) hx hb hts hin hown hK (pm_single (hR.2 a _ hM).2) 0 rfl (pm_ci_get h13) k0 hk (hts _ hw) (fun _ h => h) hv hd (k H locs ls hR hS hl)
theorem pm_put (B : pm_B l z D kA kE own cc nL ret nm tb d mc ms X) {index ci k0 a : Nat} {fs : List Value} {v : Value} {ty : FieldType} (hd : decode cc pc = .ok (.putfield index, 3)) (hf : pm_Fs own index ci k0 ty) (hM : M a = some (.inr (ci, fs))) (hn : narrow ty v = v) (hfit : fits ty v = true) (hl0 : Nat.ble (k0 + 1) fs.length = true)
    (k : pm_G l z D X cu su Q nx (pm_up M a (.inr (ci, fs.set k0 v))) (pc + 3) L st) : pm_G l z D X cu su Q nx M pc L (v :: .ref (z + a) :: st) := by
  obtain ⟨hx, hb, hml, hown, hts, hr, hlk, hK, hnm, htb, ⟨hrf, hrl, hrc, hrs⟩, hz, hcs⟩ := B
  obtain ⟨p, e, R, s, m, args, below, meth, c⟩ := X
  intro H locs ls hR hS hl
  obtain ⟨⟨h13, ⟨hin, hty, hap0⟩, hk, hw⟩, hfin, hp⟩ := hf
  have hc := pm_ci_get h13
  have hap := va_apart (own := own) hts hin (pm_ty ci) hty hap0 hK hc
  obtain ⟨r, h1, cell, q1, q2, q3, q4⟩ := (hR.2 a _ hM).2
  have hr2 : r = ((pm_ci ci).1, (pm_ci ci).2.1, (pm_ci ci).2.2) := Option.some.inj (h1.symm.trans hc)
  subst hr2
  obtain ⟨hSl, hfc, kC, hkC, hkind⟩ := hK.1 ci _ hc
  obtain ⟨cf, kf, fi, f, hi, hsl⟩ := hSl k0 hk
  have hlay := hts _ (hin _ (u_in_lay hk))
  unfold u_lay at hlay
  rw [if_neg (by rw [hfin]; decide)] at hlay
  have hst := (u_facts hfc hkC (u_lays hts hin hk) hi).1
  have h6 := u_store hfc hkC hkind hlay hi hp hn hfit
  refine W.putK hx hb (f := f) ⟨hown, hts _ hw, ⟨_, _, _, hi⟩, hst⟩ (by rw [q2]; exact h6) q1 q3 (by rw [hsl]; exact k2_hasslot (q4 k0 hk)) rfl rfl hd fun H' e1 e2 e3 => ?_
  rw [hsl] at e1 ⊢
  exact k H' _ ls (hR.put hM ⟨_, hc, t_OB.to (V := updV (vp_V fs) k0 v) ⟨_, e1, q2, q3, t_set q4 hap hk v⟩ (fun j _ => vp_updV_set (Nat.le_of_ble_eq_true hl0) v j)⟩ e2 e3) (hS.put e2 e3 (Nat.le_add_right z a)) hl
theorem pm_putF (B : pm_B l z D kA kE own cc nL ret nm tb d mc ms X) {index ci k0 a : Nat} {fs : List Value} {v : Value} {ty : FieldType} (hd : decode cc pc = .ok (.putfield index, 3)) (hf : pm_Ff own index ci k0 ty) (hi0 : nm = "<init>") (hM : M a = some (.inr (ci, fs))) (hn : narrow ty v = v) (hfit : fits ty v = true) (hl0 : Nat.ble (k0 + 1) fs.length = true)
    (k : pm_G l z D X cu su Q nx (pm_up M a (.inr (ci, fs.set k0 v))) (pc + 3) L st) : pm_G l z D X cu su Q nx M pc L (v :: .ref (z + a) :: st) := by
  obtain ⟨hx, hb, hml, hown, hts, hr, hlk, hK, hnm, htb, ⟨hrf, hrl, hrc, hrs⟩, hz, hcs⟩ := B
  obtain ⟨p, e, R, s, m, args, below, meth, c⟩ := X
  intro H locs ls hR hS hl
  obtain ⟨⟨h13, ⟨hin, hty, hap0⟩, hk, hw⟩, hfin, hp, hdecl⟩ := hf
  have hc := pm_ci_get h13
  have hap := va_apart (own := own) hts hin (pm_ty ci) hty hap0 hK hc
  obtain ⟨r, h1, cell, q1, q2, q3, q4⟩ := (hR.2 a _ hM).2
  have hr2 : r = ((pm_ci ci).1, (pm_ci ci).2.1, (pm_ci ci).2.2) := Option.some.inj (h1.symm.trans hc)
  subst hr2
  obtain ⟨hSl, hfc, kC, hkC, hkind⟩ := hK.1 ci _ hc
  obtain ⟨cf, kf, fi, f, hi, hsl⟩ := hSl k0 hk
  have hlay := hts _ (hin _ (u_in_lay hk))
  unfold u_lay at hlay
  rw [if_pos hfin] at hlay
  have hst := (u_facts hfc hkC (u_lays hts hin hk) hi).1
  have hcf : m.cls = cf := by
    obtain ⟨_, _, c', _, _, _, -, -, hf', -, -, -, hown2, -⟩ := Cond.laysFinal_spec hlay
    have e1 : c' = cf := by have := hi.symm.trans hf'; simp at this; exact this.1.symm
    rw [hdecl] at hown2
    rw [← e1]; exact Option.some.inj (hown.symm.trans hown2)
  have h6 := u_fits hfc hkC hkind (Or.inr hlay) hi hp hn hfit
  refine W.putFinK hx hb hown (hts _ hw) hi hst hcf (hnm.trans hi0) (by rw [q2]; exact h6) q1 q3 (by rw [hsl]; exact k2_hasslot (q4 k0 hk)) rfl rfl hd fun H' e1 e2 e3 => ?_
  rw [hsl] at e1 ⊢
  exact k H' _ ls (hR.put hM ⟨_, hc, t_OB.to (V := updV (vp_V fs) k0 v) ⟨_, e1, q2, q3, t_set q4 hap hk v⟩ (fun j _ => vp_updV_set (Nat.le_of_ble_eq_true hl0) v j)⟩ e2 e3) (hS.put e2 e3 (Nat.le_add_right z a)) hl
def pm_Nw (own : String) (index ci : Nat) (fs : List Value) : Prop := ci < 13 ∧ pm_Co ci ∧ Cond.classLink own index (pm_ci ci).1 ∈ pm_T ∧ Cond.instantiable (pm_ci ci).1 (pm_ci ci).2.2 ∈ pm_T ∧ Cond.initialized (pm_ci ci).1 ∈ pm_T ∧ ∀ j, j < (pm_ci ci).2.2 → defaultValue (pm_ty ci j) = vp_V fs j
theorem pm_new (B : pm_B l z D kA kE own cc nL ret nm tb d mc ms X) {index ci n0 : Nat} {fs : List Value} (hd : decode cc pc = .ok (.new index, 3)) (hf : pm_Nw own index ci fs) (hn0 : (pm_ci ci).2.2 = n0) (hcu : cu + 1 ≤ mc) (hsu : su + n0 ≤ ms)
    (k : pm_G l z D X (cu + 1) (su + n0) Q (nx + 1) (pm_up M nx (.inr (ci, fs))) (pc + 3) L (.ref (z + nx) :: st)) : pm_G l z D X cu su Q nx M pc L st := by
  obtain ⟨hx, hb, hml, hown, hts, hr, hlk, hK, hnm, htb, ⟨hrf, hrl, hrc, hrs⟩, hz, hcs⟩ := B
  obtain ⟨p, e, R, s, m, args, below, meth, c⟩ := X
  intro H locs ls hR hS hl
  subst hn0
  obtain ⟨h13, ⟨hin, hty, hap0⟩, hcl, hinst, hini, hfs⟩ := hf
  have hc := pm_ci_get h13
  have hKn := hK.1 ci _ hc
  refine W.newcK hx hb hown (hts _ hcl) (hts _ hinst) (hts _ hini) rfl hd (by rw [hrc]; exact hcu) (by rw [hrs]; exact hsu) hKn.2.1 rfl fun H1 kC hkC e1 z1 o1 => ?_
  have hsz : z + nx = H.size := hR.1.symm
  have hat : va_at D pm_cl (z + nx, .inr (ci, fs)) H1 := by
    rw [hsz]
    exact ⟨_, hc, (u_born (pm_ty ci) hts hin hKn hkC e1 hty).to hfs⟩
  have h9 := k H1 locs ls (hR.push hat z1 o1) ⟨Nat.le_trans hS.1 (by omega), fun x h1 h2 => (o1 x (Nat.lt_of_lt_of_le h1 hS.1)).trans (hS.2.1 x h1 h2), hS.2.2⟩ hl
  rw [hsz] at h9
  exact h9
end PN
