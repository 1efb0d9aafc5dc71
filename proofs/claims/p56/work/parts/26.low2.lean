/-! wide texts, switches -/
theorem pm_ldcwStr {p : Program} {l : Launch} {e : Env} {R : Room} {s : State} {m : MethodId} {args : Array Value} {below : List Frame} {meth : Method} {c : Code} {T : State} {locs : List Loc} {cells slots : Nat}
    (X : Stand p l e R s m args below meth c T locs cells slots) (hexec : p.tables.exec = Jvm.exec) {own text : String} {index : Nat} {a : Addr} (hown : s.vm.findClass own = some m.cls)
    (hconst : (Cond.stringRef own index text).before args s = true) (hev : (Term.string own index).eval args s none [] s = some (.ref a)) {g : JFrame} (hg : g.method = m) (hdg : decode c.code g.pc = .ok (.ldc_w index, 3)) :
    ∀ target, Steps p.tables e below (T.setTop { g with pc := g.pc + 3, stack := .ref a :: g.stack }) target → Steps p.tables e below (T.setTop g) target := by
  obtain ⟨k, cf, i, a', hk, hcf, hcp, -, hr, hev'⟩ := Cond.stringRef_spec hown hconst
  cases hev.symm.trans hev'
  obtain ⟨k', hk', he⟩ := X.warmed.alike.2.2 _ _ hk
  have hr' : k'.resolved[index]? = some (some (.string a)) := by
    rcases X.warmed.entry hk hk' index with h | ⟨h, -⟩
    · rw [h]; exact hr
    · rw [hr] at h; cases h
  intro target hrest
  subst hg
  jvm_step X.here [hexec, hdg, ldc_w.wp_string (e := e) (s := T) (f := g) X.here.top hk' (by rw [he]; exact hcf) hcp hr']
  exact hrest
section PLO2
variable {l : Launch} {z : Nat} {D : va_G} {kA : Nat → ClassId} {kE : Nat → Nat} {own : String} {cc : ByteArray} {nL : Nat} {ret : Option FieldType} {nm : String} {tb : List ExceptionTableEntry} {d mc ms : Nat} {X : pm_X} {cu su : Nat} {Q : State → Prop} {nx : Nat} {M : pm_M} {pc : Nat} {L : List (Option Value)} {st : List Value}
variable {index : Nat}
theorem pm_ldcwS (B : pm_B l z D kA kE own cc nL ret nm tb d mc ms X) {tx : String} {a : Nat} (hZ : ∀ U H, pm_Kx z kE U H → vk_R own index tx a U) (hd : decode cc pc = .ok (.ldc_w index, 3))
    (k : pm_G l z D X cu su Q nx M (pc + 3) L (.ref a :: st)) : pm_G l z D X cu su Q nx M pc L st := by
  obtain ⟨hx, hb, hml, hown, hts, hr, hlk, hK, hnm, htb, ⟨hrf, hrl, hrc, hrs⟩, hz, hcs⟩ := id B
  obtain ⟨p, e, R, s, m, args, below, meth, c⟩ := X
  intro H locs ls hR hS hl
  have hZ' := hZ _ _ hcs.2.2.2.2.1
  intro T hT Y
  obtain ⟨t, a1, b1⟩ := k H locs ls hR hS hl T hT Y
  exact ⟨t, pm_ldcwStr Y hx hown (text := tx) (a := a) hZ'.1 hZ'.2 (g := F0 m pc ls st) rfl (by rw [hb]; exact hd) t a1, b1⟩
/-- a switch that goes to its default -/
theorem pm_tableD (B : pm_B l z D kA kE own cc nL ret nm tb d mc ms X) {dflt lo hi : Int} {offs : Array Int} {len : Nat} {x : Int32} {tgt : Nat} (hd : decode cc pc = .ok (.tableswitch dflt lo hi offs, len)) (ht : (pc : Int) + dflt = (tgt : Int)) (ex : List Int) (hs : hi + 1 = lo + offs.size) (h : (List.range offs.size).all (fun i => decide (offs[i]? = some dflt) || ex.contains (lo + i)) = true) (hne : ∀ c ∈ ex, x.toInt ≠ c)
    (k : pm_G l z D X cu su Q nx M tgt L st) : pm_G l z D X cu su Q nx M pc L (.int x :: st) := by
  by_cases h1 : x.toInt < lo ∨ hi < x.toInt
  · exact pm_tableOut B hd h1 ht k
  · have h2 : ¬ x.toInt < lo := fun e => h1 (Or.inl e)
    have h3 : ¬ hi < x.toInt := fun e => h1 (Or.inr e)
    have h4 : (x.toInt - lo).toNat < offs.size := by omega
    have h5 := List.all_eq_true.mp h _ (List.mem_range.mpr h4)
    rw [Bool.or_eq_true] at h5
    rcases h5 with h5 | h5
    · exact pm_tableIn B hd h2 h3 (of_decide_eq_true h5) ht k
    · exact absurd (by omega) (hne _ (List.contains_iff_mem.mp h5))
end PLO2
theorem pm_neI {x : Int32} {c : Nat} (hc : c < 2 ^ 31) (h : ¬ x = nI c) : x.toInt ≠ (c : Int) := fun e => h (by
  apply Int32.toInt_inj.mp
  rw [e, nI_toInt hc])
