/-! what is made -/
section PNQ
variable {l : Launch} {z : Nat} {D : va_G} {kA : Nat → ClassId} {kE : Nat → Nat} {own : String} {cc : ByteArray} {nL : Nat} {ret : Option FieldType} {nm : String} {tb : List ExceptionTableEntry} {d mc ms : Nat} {X : pm_X} {cu su : Nat} {Q : State → Prop} {nx : Nat} {M : pm_M} {pc : Nat} {L : List (Option Value)} {st : List Value}
variable {index : Nat} {C : String}
theorem pm_newq (B : pm_B l z D kA kE own cc nL ret nm tb d mc ms X) {n : Int32} {N t0 : Nat} (hd : decode cc pc = .ok (.anewarray index, 3)) (hcl : Cond.classLink own index C ∈ pm_T) (hao : Cond.arrayOver (.object C) ∈ pm_nest) (ht : (pm_tys kA)[t0]? = some (kA t0, .object C)) (hn : n = nI N) (hN : Nat.ble N 10000 = true) (hcu : cu + 1 ≤ mc) (hsu : su + N ≤ ms)
    (k : pm_G l z D X (cu + 1) (su + N) Q (nx + 1) (pm_up M nx (.inl (kA t0, N, .inr (.inr (.inr (.inr (fun _ => none))))))) (pc + 3) L (.ref (z + nx) :: st)) : pm_G l z D X cu su Q nx M pc L (.int n :: st) := by
  obtain ⟨hx, hb, hml, hown, hts, hr, hlk, hK, hnm, htb, ⟨hrf, hrl, hrc, hrs⟩, hz, hcs⟩ := id B
  obtain ⟨p, e, R, s, m, args, below, meth, c⟩ := X
  intro H locs ls hR hS hl
  subst hn
  have hN9 : N ≤ 10000 := Nat.le_of_ble_eq_true hN
  have ecl : (nI N).toNatClampNeg = N := nI_clamp (by omega)
  refine W.anew hx hb hown (hts _ hcl) (va_AO.use (hcs.2.2.2.2.2 _ hao)) rfl hd rfl (nI_pos (by omega)) (by rw [ecl]; exact Nat.le_trans (Nat.mul_le_mul_right 4 hN9) (by decide)) (by simp only at hrc ⊢; omega) (by rw [ecl]; simp only at hrs ⊢; omega) fun cA kA2 comp f1 f2 f3 f4 => ?_
  rw [ecl]
  generalize hH1 : H.push ({ cls := cA, slots := Array.replicate N .null, vm := .none } : Cell) = H1
  have z1 : H1.size = H.size + 1 := by rw [← hH1, Array.size_push]
  have e1 : H1[H.size]? = some (arrV cA N (fun _ => .null)) := by rw [← hH1, Array.getElem?_push_size, ← arrV_new]
  have o1 : ∀ q : Nat, q < H.size → H1[q]? = H[q]? := fun q hq => by rw [← hH1, Array.getElem?_push, if_neg (Nat.ne_of_lt hq)]
  have hsz : z + nx = H.size := hR.1.symm
  obtain ⟨kB, cB, -, -, -, hcB⟩ := (hK.2 t0 _ ht).2
  have hcA : cA = kA t0 := Option.some.inj (f1.symm.trans hcB)
  subst hcA
  have hat : va_at D pm_cl (z + nx, .inl (kA t0, N, .inr (.inr (.inr (.inr (fun _ => none)))))) H1 := by
    rw [hsz]
    show H1[H.size]? = some (vp_cell _ _)
    rw [vp_cell_q]
    exact e1
  have h9 := k H1 locs ls (hR.push hat z1 o1) ⟨Nat.le_trans hS.1 (by omega), fun x h1 h2 => (o1 x (Nat.lt_of_lt_of_le h1 hS.1)).trans (hS.2.1 x h1 h2), hS.2.2⟩ hl
  rw [hsz] at h9
  exact h9
end PNQ
theorem ao_X6 : Cond.arrayOver (.object "ThunderCartel$Member") ∈ pm_nest := by decide +kernel
theorem ao_X10 : Cond.arrayOver (.object "ThunderCartel$State") ∈ pm_nest := by decide +kernel
theorem ao_X2 : Cond.arrayOver (.object "ThunderCartel$Command") ∈ pm_nest := by decide +kernel
