/-! contracts, calls, returns, throws -/
/-- an outcome: a value or none, or the class of what was thrown -/
abbrev pm_O : Type := Option Value ⊕ String
abbrev pm_Po : Type := pm_O → Nat → pm_M → Prop
def pm_rm (d mc ms : Nat) : Room := { frames := d, cells := mc, slots := ms, locals := 46 * d }
def pm_Pc (l : Launch) (z : Nat) (D : va_G) (kA : Nat → ClassId) (kE : Nat → Nat) (As : List Value) (nx : Nat) (M : pm_M) : Array Value → State → Prop := fun v U => v = As.toArray ∧ pm_R z D nx M U.heap ∧ va_K D pm_cl (pm_tys kA) U ∧ pm_Kc l z kA kE U U.heap
def pm_Qc (z : Nat) (D : va_G) (post : pm_Po) : Array Value → State → Outcome → State → Prop := fun _ st oc t => ∃ (v : Option Value) (n' : Nat) (M' : pm_M), oc = .returned v ∧ post (.inl v) n' M' ∧ pm_R z D n' M' t.heap ∧ va_F (fun q => z ≤ q) st t
def pm_XC (z : Nat) (D : va_G) (post : pm_Po) : String → State → State → Prop := fun E st t => ∃ (n' : Nat) (M' : pm_M), post (.inr E) n' M' ∧ pm_R z D n' M' t.heap ∧ va_F (fun q => z ≤ q) st t
def pm_Q (z : Nat) (D : va_G) (post : pm_Po) (mc ms : Nat) (X : pm_X) : State → Prop := vx_MQ X.2.2.2.2.2.2.1 (pm_Qc z D post) (pm_XC z D post) X.2.2.2.2.2.1 X.2.2.2.1 mc ms (fun q => z ≤ q)
/-- the contract of a method without handlers, at these arguments and this memory -/
def pm_C (l : Launch) (z : Nat) (D : va_G) (kA : Nat → ClassId) (kE : Nat → Nat) (y : MethodName) (cc : ByteArray) (nL : Nat) (ret : Option FieldType) (d mc ms : Nat) (As : List Value) (nx : Nat) (M : pm_M) (post : pm_Po) : Prop :=
  vx_Met l y (Cond.code y cc nL ret :: pm_T) (pm_rm d mc ms) (pm_Pc l z D kA kE As nx M) (pm_Qc z D post) (pm_XC z D post) mc ms (fun q => z ≤ q)
/-- what the tables say of a method: its code is there, its class is up -/
def pm_Mt (y : MethodName) (cc : ByteArray) (nL : Nat) (ret : Option FieldType) (n : Nat) : Prop :=
  Cond.code y cc nL ret ∈ pm_T ∧ Cond.initialized y.cls ∈ pm_T ∧ (y.cls ≠ "java/lang/invoke/MethodHandle" ∧ y.cls ≠ "java/lang/invoke/VarHandle" ∧ (parseMethodDescriptor y.desc).map (fun d => d.parameters.length) = some n) ∧ plainName y.cls = true ∧ nL ≤ 27
theorem pm_good {y : MethodName} {cc : ByteArray} {nL : Nat} {ret : Option FieldType} {n : Nat} (h : pm_Mt y cc nL ret n) : GoodIn pm_T (Cond.code y cc nL ret :: pm_T) := by
  intro w hw
  have hm : w ∈ pm_T := by
    rcases List.mem_cons.mp hw with rfl | hw
    · exact h.1
    · exact hw
  exact ⟨hm, good_of_word (pm_T_good w hm)⟩
theorem pm_c1_app {vs : List Value} {L : List (Option Value)} (h1 : ∀ v ∈ vs, v.category = 1) (h2 : pm_c1 L = true) : pm_c1 (vs.map some ++ L) = true := by
  unfold pm_c1 at h2 ⊢
  rw [List.all_append, h2, Bool.and_true, List.all_map, List.all_eq_true]
  intro v hv
  simp [h1 v hv]
theorem pm_args_lv : ∀ (vs : List Value) (i : Nat), (∀ v ∈ vs, v.category = 1) → lv_args i vs = pm_lv i (vs.map some)
  | [], i, _ => rfl
  | v :: vs, i, h => by
    have h1 : v.category = 1 := h v List.mem_cons_self
    simp only [lv_args, List.map_cons, pm_lv, h1]
    rw [if_neg (by decide), pm_args_lv vs (i + 1) (fun w hw => h w (List.mem_cons_of_mem _ hw))]
theorem pm_lv_nones : ∀ (k i : Nat), pm_lv i (List.replicate k none) = []
  | 0, i => rfl
  | k + 1, i => by rw [List.replicate_succ]; exact pm_lv_nones k (i + 1)
theorem pm_lv_app : ∀ (A B : List (Option Value)) (i : Nat), pm_lv i (A ++ B) = pm_lv i A ++ pm_lv (i + A.length) B
  | [], B, i => by simp [pm_lv]
  | none :: t, B, i => by
    show pm_lv (i + 1) (t ++ B) = pm_lv (i + 1) t ++ _
    rw [pm_lv_app t B (i + 1), List.length_cons, show i + (t.length + 1) = i + 1 + t.length by omega]
  | some v :: t, B, i => by
    show (i, v) :: pm_lv (i + 1) (t ++ B) = (i, v) :: pm_lv (i + 1) t ++ _
    rw [pm_lv_app t B (i + 1), List.length_cons, show i + (t.length + 1) = i + 1 + t.length by omega]
    rfl
theorem pm_sl_len : ∀ (vs : List Value), (∀ v ∈ vs, v.category = 1) → (lg_sl vs).length = vs.length
  | [], _ => rfl
  | v :: vs, h => by
    have h1 : v.category = 1 := h v List.mem_cons_self
    have h2 := pm_sl_len vs (fun w hw => h w (List.mem_cons_of_mem _ hw))
    simp only [lg_sl, List.flatMap_cons, List.length_append] at h2 ⊢
    rw [h2, if_neg (by rw [h1]; decide)]
    simp only [List.length_cons, List.length_nil]
    omega
def pm_ent (vs : List Value) (nL : Nat) : List (Option Value) := vs.map some ++ List.replicate (nL - vs.length) none
/-- a contract out of its body -/
theorem pm_C.mk {l : Launch} {z : Nat} {D : va_G} {kA : Nat → ClassId} {kE : Nat → Nat} {y : MethodName} {cc : ByteArray} {nL n : Nat} {ret : Option FieldType} {d mc ms : Nat} {As : List Value} {nx : Nat} {M : pm_M} {post : pm_Po} (hm : pm_Mt y cc nL ret n) (h1 : As.all (fun v => v.category == 1) = true) (hlen : Nat.ble As.length nL = true)
    (body : ∀ X : pm_X, pm_B l z D kA kE y.cls cc nL ret y.name [] d mc ms X → pm_G l z D X 0 0 (pm_Q z D post mc ms X) nx M 0 (pm_ent As nL) []) : pm_C l z D kA kE y cc nL ret d mc ms As nx M post := by
  have h2 : ∀ v ∈ As, v.category = 1 := fun v hv => by simpa using List.all_eq_true.mp h1 v hv
  refine vx_ofW (cc := cc) (maxL := nL) (ret := ret) hm.2.2.2.1 rfl ?_
  intro p e s m args below meth c s₁ B hml ht hP
  obtain ⟨rfl, hR, hK, hcs⟩ := hP
  have hts := atoms_spec (ws := Cond.code y cc nL ret :: pm_T) B.pre
  have hB : pm_B l z D kA kE y.cls cc nL ret y.name [] d mc ms (p, e, (headSpec (Cond.code y cc nL ret :: pm_T) (pm_rm d mc ms)).room, s, m, As.toArray, below, meth, c) :=
    ⟨B.exec, B.bytes, hml, findClass_of_methodNamed B.named, fun w hw => hts w (List.mem_cons_of_mem _ hw), B.returns, B.notSynchronized, hK, (name_of_methodNamed B.named B.method).1, by
      cases h : c.exceptionTable.toList with
      | nil => rfl
      | cons a t => exact (ht a (by rw [h]; exact List.mem_cons_self)).elim, ⟨Nat.le_refl _, Nat.le_refl _, rfl, rfl⟩, by rw [hR.1]; omega, hcs⟩
  have hl := lv_entry As (n := nL) (by rw [pm_sl_len As h2]; exact Nat.le_of_ble_eq_true hlen)
  have h9 := body _ hB s.heap [] _ hR va_S.rf (by
    show lv_has _ c.maxLocals _
    rw [hml, pm_ent, pm_lv_app, pm_lv_nones, List.append_nil, ← pm_args_lv As 0 h2]
    exact hl)
  rw [lg_entry_eq]
  exact h9
section PC
variable {l : Launch} {z : Nat} {D : va_G} {kA : Nat → ClassId} {kE : Nat → Nat} {own : String} {cc : ByteArray} {nL : Nat} {ret : Option FieldType} {nm : String} {tb : List ExceptionTableEntry} {d mc ms : Nat} {X : pm_X} {cu su : Nat} {Q : State → Prop} {nx : Nat} {M : pm_M} {pc : Nat} {L : List (Option Value)} {st : List Value}
/-- the frame with something thrown over it -/
def pm_GX (l : Launch) (z : Nat) (D : va_G) (X : pm_X) (cu su : Nat) (Q : State → Prop) (nx : Nat) (M : pm_M) (pc : Nat) (L : List (Option Value)) (E : String) : Prop :=
  ∀ (H : Heap) (locs : List Loc) (ls : Array Slot) (q : Addr) (ce : Cell) (st : List Value), pm_R z D nx M H → va_S (fun q => z ≤ q) X.2.2.2.1.heap H locs → lv_has ls X.2.2.2.2.2.2.2.2.maxLocals (pm_lv 0 L) → H[q]? = some ce → ce.vm = .none → X.2.2.2.1.vm.findClass E = some ce.cls →
    vx_W X.1 l X.2.1 X.2.2.1 X.2.2.2.1 X.2.2.2.2.1 X.2.2.2.2.2.1 X.2.2.2.2.2.2.1 X.2.2.2.2.2.2.2.1 X.2.2.2.2.2.2.2.2 H locs cu su Q (F0 X.2.2.2.2.1 pc ls st) q
theorem pm_Pc_blind {As : List Value} {nx : Nat} {M : pm_M} : FrameBlind (pm_Pc l z D kA kE As nx M) := fun a U g mk h => ⟨h.1, h.2.1, va_K.moved (u := U) (U := U.calling g mk a) (Vm.Alike.refl U.vm) h.2.2.1, pm_Kc.same (u := U) (U := U.calling g mk a) rfl h.2.2.2⟩
theorem pm_Pc_at {s U : State} {H : Heap} {As : List Value} {nx : Nat} {M : pm_M} {locs : List Loc} (hR : pm_R z D nx M H) (hS : va_S (fun q => z ≤ q) s.heap H locs) (hK : va_K D pm_cl (pm_tys kA) s) (hcs : pm_Kc l z kA kE s s.heap) (hU : U.heap = H) (hW : s.WarmedH U.vm) : pm_Pc l z D kA kE As nx M As.toArray U :=
  ⟨rfl, by rw [hU]; exact hR, va_K.moved hW.alike hK, by rw [hU]; exact (pm_Kc.kept (hcs.warm hW) (fun a h1 h2 => hS.2.1 a h1 h2))⟩
/-- behind a run: the callee's outcome, by its contract -/
theorem pm_after {p : Program} {e : Env} {R : Room} {s : State} {m : MethodId} {args : Array Value} {below : List Frame} {meth : Method} {c : Code} {H : Heap} {locs : List Loc} {ls : Array Slot} {mc2 ms2 : Nat} {post : pm_Po} {av : Array Value} {rest : List Value}
    (hr : vx_Run p l e R s m args below meth c H locs cu su mc2 ms2 (F0 m pc ls st) rest (pm_Qc z D post av) (pm_XC z D post) (fun q => z ≤ q)) (hz : z ≤ s.heap.size) (hR : pm_R z D nx M H) (hS : va_S (fun q => z ≤ q) s.heap H locs) (hl : lv_has ls c.maxLocals (pm_lv 0 L))
    (kx : ∀ (E : String) (n' : Nat) (M' : pm_M), post (.inr E) n' M' → pm_GX l z D (p, e, R, s, m, args, below, meth, c) (cu + mc2) (su + ms2) Q n' M' pc L E)
    (k : ∀ (v : Option Value) (n' : Nat) (M' : pm_M), post (.inl v) n' M' → pm_G l z D (p, e, R, s, m, args, below, meth, c) (cu + mc2) (su + ms2) Q n' M' (pc + 3) L (v.toList ++ rest)) :
    W p l e R s m args below meth c H locs cu su Q (F0 m pc ls st) := by
  intro T hT Y
  rcases hr T hT Y with ⟨v, st₀, t, T', L9, h0, X', hL, e1, e2, ⟨v2, n', M', hv, hp, hR', hF⟩, go⟩ | ⟨q, st₀, t, T', L9, E, ce, h0, X', hL, e1, e2, ⟨n', M', hp, hR', hF⟩, hce, hcv, hcl, go⟩
  · cases hv
    obtain ⟨k1, k2, k3⟩ := vx_keep h0 e1 hS (fun _ _ h => h) (fun _ h => h) hL hF
    obtain ⟨t2, a1, b1⟩ := k v n' M' hp T'.heap (locs ++ L9) ls (by rw [e1]; exact hR') k3 hl T' rfl X'
    exact ⟨t2, go t2 a1, b1⟩
  · obtain ⟨k1, k2, k3⟩ := vx_keep h0 e1 hS (fun _ _ h => h) (fun _ h => h) hL hF
    obtain ⟨t2, a1, b1⟩ := kx E n' M' hp T'.heap (locs ++ L9) ls q ce rest (by rw [e1]; exact hR') k3 hl (by rw [e1]; exact hce) hcv hcl T' rfl X'
    exact ⟨t2, go.trans a1, b1⟩
def pm_SV (own : String) (index : Nat) (y : MethodName) : Prop := Cond.methodLink own index y ∈ pm_T ∧ Cond.instanceMethod y ∈ pm_T ∧ Cond.selects y.cls y y ∈ pm_T
def pm_SS (own : String) (index : Nat) (y : MethodName) : Prop := Cond.methodLink own index y ∈ pm_T ∧ Cond.static y ∈ pm_T
def pm_SI (own : String) (index : Nat) (y : MethodName) : Prop := Cond.methodLink own index y ∈ pm_T ∧ Cond.instanceMethod y ∈ pm_T ∧ y.name = "<init>"
def pm_SSN (own : String) (index : Nat) (y : MethodName) : Prop := Cond.methodLinkNest own index y "ThunderCartel" ∈ pm_nest ∧ Cond.static y ∈ pm_T
def pm_SIN (own : String) (index : Nat) (y : MethodName) : Prop := Cond.methodLinkNest own index y "ThunderCartel" ∈ pm_nest ∧ Cond.instanceMethod y ∈ pm_T ∧ y.name = "<init>"
variable {y : MethodName} {cc2 : ByteArray} {nL2 n2 d2 mc2 ms2 : Nat} {ret2 : Option FieldType} {As : List Value} {post : pm_Po} {index : Nat}
theorem pm_sum_room {g : JFrame} (h : g.monitorRoom = 0) (hs : Nat.ble ((st.map fun v => v.category).sum) 8 = true) : 2 * g.monitorRoom + (st.map fun v => v.category).sum ≤ 8 := by
  have := Nat.le_of_ble_eq_true hs
  omega

theorem pm_callV (B : pm_B l z D kA kE own cc nL ret nm tb d mc ms X) {a ci : Nat} {fs : List Value} (h13 : Nat.ble (ci + 1) 13 = true) (hM : M a = some (.inr (ci, fs))) (hci : (pm_ci ci).1 = y.cls) (hC : pm_C l z D kA kE y cc2 nL2 ret2 d2 mc2 ms2 (.ref (z + a) :: As) nx M post) (hm : pm_Mt y cc2 nL2 ret2 n2) (hs : pm_SV own index y) (hd : decode cc pc = .ok (.invokevirtual index, 3)) (hn : As.length = n2) (hd2 : Nat.ble (d2 + 1) d = true) (hst : Nat.ble ((st.map fun v => v.category).sum) 8 = true) (hcu : Nat.ble (cu + mc2) mc = true) (hsu : Nat.ble (su + ms2) ms = true)
    (kx : ∀ (E : String) (n' : Nat) (M' : pm_M), post (.inr E) n' M' → pm_GX l z D X (cu + mc2) (su + ms2) Q n' M' pc L E)
    (k : ∀ (v : Option Value) (n' : Nat) (M' : pm_M), post (.inl v) n' M' → pm_G l z D X (cu + mc2) (su + ms2) Q n' M' (pc + 3) L (v.toList ++ st)) : pm_G l z D X cu su Q nx M pc L (As.reverse ++ .ref (z + a) :: st) := by
  obtain ⟨hx, hb, hml, hown, hts, hr, hlk, hK, hnm, htb, ⟨hrf, hrl, hrc, hrs⟩, hz, hcs⟩ := id B
  obtain ⟨p, e, R, s, m, args, below, meth, c⟩ := X
  intro H locs ls hR hS hl
  have h1 := Nat.le_of_ble_eq_true hd2
  have h2 := Nat.le_of_ble_eq_true hcu
  have h3 := Nat.le_of_ble_eq_true hsu
  have h27 := hm.2.2.2.2
  have hroom : (pm_rm d2 mc2 ms2).frames + 1 ≤ R.frames ∧ 8 + (nL2 + 11) + (pm_rm d2 mc2 ms2).locals ≤ R.locals := by
    simp only [pm_rm] at hrf hrl ⊢
    omega
  have cw : CallW R s args own y.cls index y cc2 nL2 ret2 (Cond.code y cc2 nL2 ret2 :: pm_T) (pm_rm d2 mc2 ms2) mc2 ms2 n2 := ⟨callB_of n2 hts (pm_good hm) rfl rfl rfl (hts _ hm.2.1) (hts _ hs.1) hm.2.2.1 hroom, hts _ hs.2.1, hts _ hs.2.2⟩
  have hrec := va_recv (q0 := 0) (ws := [(z + a, .inr (ci, fs))]) hK (pm_single (hR.2 a _ hM).2) (pm_ci_get (Nat.le_of_ble_eq_true h13)) rfl
  rw [show ((pm_ci ci).1, (pm_ci ci).2.1, (pm_ci ci).2.2).1 = y.cls from hci] at hrec
  exact pm_after (vx_runV ⟨hx, hb, hml, hown, hts⟩ hC cw ⟨pm_Pc_blind, hrec, fun U hU hW => pm_Pc_at hR hS hK hcs hU hW⟩ rfl hn (by simp only at hml ⊢; rw [← hml]; exact hl.1) rfl (pm_sum_room rfl hst) hd ⟨by simp only at hrc ⊢; omega, by simp only at hrs ⊢; omega⟩) hz hR hS hl kx k
theorem pm_callS (B : pm_B l z D kA kE own cc nL ret nm tb d mc ms X)  (hC : pm_C l z D kA kE y cc2 nL2 ret2 d2 mc2 ms2 As nx M post) (hm : pm_Mt y cc2 nL2 ret2 n2) (hs : pm_SS own index y) (hd : decode cc pc = .ok (.invokestatic index, 3)) (hn : As.length = n2) (hd2 : Nat.ble (d2 + 1) d = true) (hst : Nat.ble ((st.map fun v => v.category).sum) 8 = true) (hcu : Nat.ble (cu + mc2) mc = true) (hsu : Nat.ble (su + ms2) ms = true)
    (kx : ∀ (E : String) (n' : Nat) (M' : pm_M), post (.inr E) n' M' → pm_GX l z D X (cu + mc2) (su + ms2) Q n' M' pc L E)
    (k : ∀ (v : Option Value) (n' : Nat) (M' : pm_M), post (.inl v) n' M' → pm_G l z D X (cu + mc2) (su + ms2) Q n' M' (pc + 3) L (v.toList ++ st)) : pm_G l z D X cu su Q nx M pc L (As.reverse ++ st) := by
  obtain ⟨hx, hb, hml, hown, hts, hr, hlk, hK, hnm, htb, ⟨hrf, hrl, hrc, hrs⟩, hz, hcs⟩ := id B
  obtain ⟨p, e, R, s, m, args, below, meth, c⟩ := X
  intro H locs ls hR hS hl
  have h1 := Nat.le_of_ble_eq_true hd2
  have h2 := Nat.le_of_ble_eq_true hcu
  have h3 := Nat.le_of_ble_eq_true hsu
  have h27 := hm.2.2.2.2
  have hroom : (pm_rm d2 mc2 ms2).frames + 1 ≤ R.frames ∧ 8 + (nL2 + 11) + (pm_rm d2 mc2 ms2).locals ≤ R.locals := by
    simp only [pm_rm] at hrf hrl ⊢
    omega
  have cw : CallB R s args own index y cc2 nL2 ret2 (Cond.code y cc2 nL2 ret2 :: pm_T) (pm_rm d2 mc2 ms2) mc2 ms2 n2 ∧ (Cond.static y).before args s = true := ⟨callB_of n2 hts (pm_good hm) rfl rfl rfl (hts _ hm.2.1) (hts _ hs.1) hm.2.2.1 hroom, hts _ hs.2⟩
  exact pm_after (vx_runS ⟨hx, hb, hml, hown, hts⟩ hC cw ⟨pm_Pc_blind, fun U hU hW => pm_Pc_at hR hS hK hcs hU hW⟩ rfl hn (by simp only at hml ⊢; rw [← hml]; exact hl.1) rfl (pm_sum_room rfl hst) hd ⟨by simp only at hrc ⊢; omega, by simp only at hrs ⊢; omega⟩) hz hR hS hl kx k
theorem pm_noX {l : Launch} {y : MethodName} {ws : List Cond} {rm : Room} {Pc : Array Value → State → Prop} {Qc : Array Value → State → Outcome → State → Prop} {XC : String → State → State → Prop} {mc ms : Nat} {free : Addr → Prop} (h : vx_Met l y ws rm Pc Qc XC mc ms free) (hn : ∀ E st t, ¬ XC E st t) : Met l y ws rm Pc Qc mc ms free := by
  refine MetFree.mono h (fun _ _ h => h) (fun _ _ _ _ _ h => h) fun a st o t _ hq => ?_
  rcases hq with hq | ⟨q, -, E, ce, L, hx, -⟩
  · exact hq
  · exact (hn E st t hx).elim
theorem pm_afterA {p : Program} {e : Env} {R : Room} {s : State} {m : MethodId} {args : Array Value} {below : List Frame} {meth : Method} {c : Code} {H : Heap} {locs : List Loc} {ls : Array Slot} {av : Array Value} {rest : List Value}
    (hr : va_Run p l e R s m args below meth c H locs cu su mc2 ms2 (F0 m pc ls st) rest (pm_Qc z D post av) (fun q => z ≤ q)) (hS : va_S (fun q => z ≤ q) s.heap H locs) (hl : lv_has ls c.maxLocals (pm_lv 0 L))
    (k : ∀ (v : Option Value) (n' : Nat) (M' : pm_M), post (.inl v) n' M' → pm_G l z D (p, e, R, s, m, args, below, meth, c) (cu + mc2) (su + ms2) Q n' M' (pc + 3) L (v.toList ++ rest)) :
    W p l e R s m args below meth c H locs cu su Q (F0 m pc ls st) := by
  intro T hT Y
  obtain ⟨v, st₀, t, T', L9, h0, X', hL, e1, e2, ⟨v2, n', M', hv, hp, hR', hF⟩, go⟩ := hr T hT Y
  cases hv
  obtain ⟨k1, k2, k3⟩ := vx_keep h0 e1 hS (fun _ _ h => h) (fun _ h => h) hL hF
  obtain ⟨t2, a1, b1⟩ := k v n' M' hp T'.heap (locs ++ L9) ls (by rw [e1]; exact hR') k3 hl T' rfl X'
  exact ⟨t2, go t2 a1, b1⟩

theorem pm_callI (B : pm_B l z D kA kE own cc nL ret nm tb d mc ms X) {a : Nat} (hr2 : ret2 = none) (hC : pm_C l z D kA kE y cc2 nL2 ret2 d2 mc2 ms2 (.ref (z + a) :: As) nx M post) (hno : ∀ E n' M', ¬ post (.inr E) n' M') (hm : pm_Mt y cc2 nL2 ret2 n2) (hs : pm_SI own index y) (hd : decode cc pc = .ok (.invokespecial index, 3)) (hn : As.length = n2) (hd2 : Nat.ble (d2 + 1) d = true) (hst : Nat.ble ((st.map fun v => v.category).sum) 8 = true) (hcu : Nat.ble (cu + mc2) mc = true) (hsu : Nat.ble (su + ms2) ms = true)
    (k : ∀ (v : Option Value) (n' : Nat) (M' : pm_M), post (.inl v) n' M' → pm_G l z D X (cu + mc2) (su + ms2) Q n' M' (pc + 3) L (v.toList ++ st)) : pm_G l z D X cu su Q nx M pc L (As.reverse ++ .ref (z + a) :: st) := by
  obtain ⟨hx, hb, hml, hown, hts, hr, hlk, hK, hnm, htb, ⟨hrf, hrl, hrc, hrs⟩, hz, hcs⟩ := id B
  obtain ⟨p, e, R, s, m, args, below, meth, c⟩ := X
  intro H locs ls hR hS hl
  have h1 := Nat.le_of_ble_eq_true hd2
  have h2 := Nat.le_of_ble_eq_true hcu
  have h3 := Nat.le_of_ble_eq_true hsu
  have h27 := hm.2.2.2.2
  have hroom : (pm_rm d2 mc2 ms2).frames + 1 ≤ R.frames ∧ 8 + (nL2 + 11) + (pm_rm d2 mc2 ms2).locals ≤ R.locals := by
    simp only [pm_rm] at hrf hrl ⊢
    omega
  have hMet := pm_noX hC (fun E st t h => by obtain ⟨n', M', h1, -⟩ := h; exact hno E n' M' h1)
  subst hr2
  have cw : CallB R s args own index y cc2 nL2 none (Cond.code y cc2 nL2 none :: pm_T) (pm_rm d2 mc2 ms2) mc2 ms2 n2 ∧ y.name = "<init>" ∧ (Cond.instanceMethod y).before args s = true := ⟨callB_of n2 hts (pm_good hm) rfl rfl rfl (hts _ hm.2.1) (hts _ hs.1) hm.2.2.1 hroom, hs.2.2, hts _ hs.2.1⟩
  exact pm_afterA (va_runI ⟨hx, hb, hml, hown, hts⟩ hMet cw ⟨pm_Pc_blind, fun U hU hW => pm_Pc_at hR hS hK hcs hU hW⟩ rfl hn (by simp only at hml ⊢; rw [← hml]; exact hl.1) rfl (pm_sum_room rfl hst) hd ⟨by simp only at hrc ⊢; omega, by simp only at hrs ⊢; omega⟩) hS hl k
theorem pm_callSN (B : pm_B l z D kA kE own cc nL ret nm tb d mc ms X)  (hC : pm_C l z D kA kE y cc2 nL2 ret2 d2 mc2 ms2 As nx M post) (hno : ∀ E n' M', ¬ post (.inr E) n' M') (hm : pm_Mt y cc2 nL2 ret2 n2) (hs : pm_SSN own index y) (hd : decode cc pc = .ok (.invokestatic index, 3)) (hn : As.length = n2) (hd2 : Nat.ble (d2 + 1) d = true) (hst : Nat.ble ((st.map fun v => v.category).sum) 8 = true) (hcu : Nat.ble (cu + mc2) mc = true) (hsu : Nat.ble (su + ms2) ms = true)
    (k : ∀ (v : Option Value) (n' : Nat) (M' : pm_M), post (.inl v) n' M' → pm_G l z D X (cu + mc2) (su + ms2) Q n' M' (pc + 3) L (v.toList ++ st)) : pm_G l z D X cu su Q nx M pc L (As.reverse ++ st) := by
  obtain ⟨hx, hb, hml, hown, hts, hr, hlk, hK, hnm, htb, ⟨hrf, hrl, hrc, hrs⟩, hz, hcs⟩ := id B
  obtain ⟨p, e, R, s, m, args, below, meth, c⟩ := X
  intro H locs ls hR hS hl
  have h1 := Nat.le_of_ble_eq_true hd2
  have h2 := Nat.le_of_ble_eq_true hcu
  have h3 := Nat.le_of_ble_eq_true hsu
  have h27 := hm.2.2.2.2
  have hroom : (pm_rm d2 mc2 ms2).frames + 1 ≤ R.frames ∧ 8 + (nL2 + 11) + (pm_rm d2 mc2 ms2).locals ≤ R.locals := by
    simp only [pm_rm] at hrf hrl ⊢
    omega
  have hMet := pm_noX hC (fun E st t h => by obtain ⟨n', M', h1, -⟩ := h; exact hno E n' M' h1)
  have cw : va_CN R s args own index y "ThunderCartel" cc2 nL2 ret2 (Cond.code y cc2 nL2 ret2 :: pm_T) (pm_rm d2 mc2 ms2) mc2 ms2 n2 ∧ (Cond.static y).before args s = true ∧ True := ⟨⟨⟨rfl, rfl, hroom.1, hroom.2, pay_in hts (pm_good hm), List.mem_cons_self⟩, hts _ hm.1, hts _ hm.2.1, ⟨hm.2.2.1.1, hm.2.2.1.2.1⟩, fun sig h => (by have h2 := hm.2.2.1.2.2; rw [h] at h2; exact (Option.some.inj h2).symm), va_Nw.use rfl (hcs.2.2.2.2.2 _ hs.1)⟩, hts _ hs.2, trivial⟩
  exact pm_afterA (va_runSN ⟨hx, hb, hml, hown, hts⟩ hMet cw ⟨pm_Pc_blind, fun U hU hW => pm_Pc_at hR hS hK hcs hU hW⟩ rfl hn (by simp only at hml ⊢; rw [← hml]; exact hl.1) rfl (pm_sum_room rfl hst) hd ⟨by simp only at hrc ⊢; omega, by simp only at hrs ⊢; omega⟩) hS hl k
theorem pm_callIN (B : pm_B l z D kA kE own cc nL ret nm tb d mc ms X) {a : Nat} (hr2 : ret2 = none) (hC : pm_C l z D kA kE y cc2 nL2 ret2 d2 mc2 ms2 (.ref (z + a) :: As) nx M post) (hno : ∀ E n' M', ¬ post (.inr E) n' M') (hm : pm_Mt y cc2 nL2 ret2 n2) (hs : pm_SIN own index y) (hd : decode cc pc = .ok (.invokespecial index, 3)) (hn : As.length = n2) (hd2 : Nat.ble (d2 + 1) d = true) (hst : Nat.ble ((st.map fun v => v.category).sum) 8 = true) (hcu : Nat.ble (cu + mc2) mc = true) (hsu : Nat.ble (su + ms2) ms = true)
    (k : ∀ (v : Option Value) (n' : Nat) (M' : pm_M), post (.inl v) n' M' → pm_G l z D X (cu + mc2) (su + ms2) Q n' M' (pc + 3) L (v.toList ++ st)) : pm_G l z D X cu su Q nx M pc L (As.reverse ++ .ref (z + a) :: st) := by
  obtain ⟨hx, hb, hml, hown, hts, hr, hlk, hK, hnm, htb, ⟨hrf, hrl, hrc, hrs⟩, hz, hcs⟩ := id B
  obtain ⟨p, e, R, s, m, args, below, meth, c⟩ := X
  intro H locs ls hR hS hl
  have h1 := Nat.le_of_ble_eq_true hd2
  have h2 := Nat.le_of_ble_eq_true hcu
  have h3 := Nat.le_of_ble_eq_true hsu
  have h27 := hm.2.2.2.2
  have hroom : (pm_rm d2 mc2 ms2).frames + 1 ≤ R.frames ∧ 8 + (nL2 + 11) + (pm_rm d2 mc2 ms2).locals ≤ R.locals := by
    simp only [pm_rm] at hrf hrl ⊢
    omega
  have hMet := pm_noX hC (fun E st t h => by obtain ⟨n', M', h1, -⟩ := h; exact hno E n' M' h1)
  subst hr2
  have cw : va_CN R s args own index y "ThunderCartel" cc2 nL2 none (Cond.code y cc2 nL2 none :: pm_T) (pm_rm d2 mc2 ms2) mc2 ms2 n2 ∧ y.name = "<init>" ∧ (Cond.instanceMethod y).before args s = true := ⟨⟨⟨rfl, rfl, hroom.1, hroom.2, pay_in hts (pm_good hm), List.mem_cons_self⟩, hts _ hm.1, hts _ hm.2.1, ⟨hm.2.2.1.1, hm.2.2.1.2.1⟩, fun sig h => (by have h2 := hm.2.2.1.2.2; rw [h] at h2; exact (Option.some.inj h2).symm), va_Nw.use rfl (hcs.2.2.2.2.2 _ hs.1)⟩, hs.2.2, hts _ hs.2.1⟩
  exact pm_afterA (va_runIN ⟨hx, hb, hml, hown, hts⟩ hMet cw ⟨pm_Pc_blind, fun U hU hW => pm_Pc_at hR hS hK hcs hU hW⟩ rfl hn (by simp only at hml ⊢; rw [← hml]; exact hl.1) rfl (pm_sum_room rfl hst) hd ⟨by simp only at hrc ⊢; omega, by simp only at hrs ⊢; omega⟩) hS hl k
theorem pm_ireturn (B : pm_B l z D kA kE own cc nL ret nm tb d mc ms X) {x : Int32} {ty : FieldType} (hd : decode cc pc = .ok (.ireturn, 1)) (hr0 : ret = some ty) (hn : narrow ty (.int x) = .int x) (hp : post (.inl (some (.int x))) nx M) (hcu : Nat.ble cu mc = true) (hsu : Nat.ble su ms = true) : pm_G l z D X cu su (pm_Q z D post mc ms X) nx M pc L [.int x] := by
  obtain ⟨hx, hb, hml, hown, hts, hr, hlk, hK, hnm, htb, ⟨hrf, hrl, hrc, hrs⟩, hz, hcs⟩ := id B
  obtain ⟨p, e, R, s, m, args, below, meth, c⟩ := X
  intro H locs ls hR hS hl
  refine W.widen (Nat.le_of_ble_eq_true hcu) (Nat.le_of_ble_eq_true hsu) (vx_ret ?_)
  exact W.zret hx hb (hr.trans hr0) hn (fun t ht hW => ⟨_, nx, M, rfl, hp, by rw [ht]; exact hR, hS.F ht⟩) (fun q hq => hS.2.2 q hq) hd hlk
theorem pm_return (B : pm_B l z D kA kE own cc nL ret nm tb d mc ms X)  (hd : decode cc pc = .ok (.return_, 1)) (hr0 : ret = none) (hp : post (.inl none) nx M) (hcu : Nat.ble cu mc = true) (hsu : Nat.ble su ms = true) : pm_G l z D X cu su (pm_Q z D post mc ms X) nx M pc L [] := by
  obtain ⟨hx, hb, hml, hown, hts, hr, hlk, hK, hnm, htb, ⟨hrf, hrl, hrc, hrs⟩, hz, hcs⟩ := id B
  obtain ⟨p, e, R, s, m, args, below, meth, c⟩ := X
  intro H locs ls hR hS hl
  refine W.widen (Nat.le_of_ble_eq_true hcu) (Nat.le_of_ble_eq_true hsu) (vx_ret ?_)
  exact W.vret hx hb (hr.trans hr0) (fun t ht hW => ⟨_, nx, M, rfl, hp, by rw [ht]; exact hR, hS.F ht⟩) (fun q hq => hS.2.2 q hq) hd hlk
theorem pm_areturn (B : pm_B l z D kA kE own cc nL ret nm tb d mc ms X) {v : Value} {rt : FieldType} (hd : decode cc pc = .ok (.areturn, 1)) (hr0 : ret = some rt) (hrt : (∃ n, rt = .object n) ∨ ∃ t, rt = .array t) (hv : v = .null ∨ ∃ a, v = .ref a) (hp : post (.inl (some v)) nx M) (hcu : Nat.ble cu mc = true) (hsu : Nat.ble su ms = true) : pm_G l z D X cu su (pm_Q z D post mc ms X) nx M pc L [v] := by
  obtain ⟨hx, hb, hml, hown, hts, hr, hlk, hK, hnm, htb, ⟨hrf, hrl, hrc, hrs⟩, hz, hcs⟩ := id B
  obtain ⟨p, e, R, s, m, args, below, meth, c⟩ := X
  intro H locs ls hR hS hl
  refine W.widen (Nat.le_of_ble_eq_true hcu) (Nat.le_of_ble_eq_true hsu) (vx_ret ?_)
  exact W.aret hx hb (hr.trans hr0) hrt hv (fun t ht hW => ⟨_, nx, M, rfl, hp, by rw [ht]; exact hR, hS.F ht⟩) (fun q hq => hS.2.2 q hq) hd hlk
theorem pm_dreturn (B : pm_B l z D kA kE own cc nL ret nm tb d mc ms X) {x : UInt64} (hd : decode cc pc = .ok (.dreturn, 1)) (hr0 : ret = some .double) (hp : post (.inl (some (.double x))) nx M) (hcu : Nat.ble cu mc = true) (hsu : Nat.ble su ms = true) : pm_G l z D X cu su (pm_Q z D post mc ms X) nx M pc L [.double x] := by
  obtain ⟨hx, hb, hml, hown, hts, hr, hlk, hK, hnm, htb, ⟨hrf, hrl, hrc, hrs⟩, hz, hcs⟩ := id B
  obtain ⟨p, e, R, s, m, args, below, meth, c⟩ := X
  intro H locs ls hR hS hl
  refine W.widen (Nat.le_of_ble_eq_true hcu) (Nat.le_of_ble_eq_true hsu) (vx_ret ?_)
  exact W.dret hx hb (hr.trans hr0) (fun t ht hW => ⟨_, nx, M, rfl, hp, by rw [ht]; exact hR, hS.F ht⟩) (fun q hq => hS.2.2 q hq) hd hlk
theorem pm_freturn (B : pm_B l z D kA kE own cc nL ret nm tb d mc ms X) {x : UInt32} (hd : decode cc pc = .ok (.freturn, 1)) (hr0 : ret = some .float) (hp : post (.inl (some (.float x))) nx M) (hcu : Nat.ble cu mc = true) (hsu : Nat.ble su ms = true) : pm_G l z D X cu su (pm_Q z D post mc ms X) nx M pc L [.float x] := by
  obtain ⟨hx, hb, hml, hown, hts, hr, hlk, hK, hnm, htb, ⟨hrf, hrl, hrc, hrs⟩, hz, hcs⟩ := id B
  obtain ⟨p, e, R, s, m, args, below, meth, c⟩ := X
  intro H locs ls hR hS hl
  refine W.widen (Nat.le_of_ble_eq_true hcu) (Nat.le_of_ble_eq_true hsu) (vx_ret ?_)
  exact W.fret hx hb (hr.trans hr0) (fun t ht hW => ⟨_, nx, M, rfl, hp, by rw [ht]; exact hR, hS.F ht⟩) (fun q hq => hS.2.2 q hq) hd hlk
/-- what was thrown below goes on to the caller -/
theorem pm_out (B : pm_B l z D kA kE own cc nL ret nm tb d mc ms X) {E : String} (ht0 : tb = []) (hp : post (.inr E) nx M) (hcu : Nat.ble cu mc = true) (hsu : Nat.ble su ms = true) : pm_GX l z D X cu su (pm_Q z D post mc ms X) nx M pc L E := by
  obtain ⟨hx, hb, hml, hown, hts, hr, hlk, hK, hnm, htb, ⟨hrf, hrl, hrc, hrs⟩, hz, hcs⟩ := id B
  obtain ⟨p, e, R, s, m, args, below, meth, c⟩ := X
  intro H locs ls q ce st hR hS hl hce hcv hcl
  subst ht0
  exact vx_out (fun x hx9 => by simp only at htb; rw [htb] at hx9; cases hx9) hlk hce hcv hcl (fun t ht hal => ⟨nx, M, hp, by rw [ht]; exact hR, hS.F ht⟩) (fun q hq => hS.2.2 q hq) (Nat.le_of_ble_eq_true hcu) (Nat.le_of_ble_eq_true hsu)
theorem pm_Cpost {d5 mc5 ms5 : Nat} {post2 : pm_Po} (h : pm_C l z D kA kE y cc2 nL2 ret2 d5 mc5 ms5 As nx M post) (hp : ∀ o n' M', post o n' M' → post2 o n' M') : pm_C l z D kA kE y cc2 nL2 ret2 d5 mc5 ms5 As nx M post2 := by
  refine MetFree.mono h (fun _ _ h => h) (fun _ _ _ _ _ h => h) fun a st o t _ hq => ?_
  rcases hq with ⟨⟨v, n', M', h1, h2, h3⟩, h4⟩ | ⟨q, h0, E, ce, L9, ⟨n', M', h1, h2⟩, h3⟩
  · exact Or.inl ⟨⟨v, n', M', h1, hp _ _ _ h2, h3⟩, h4⟩
  · exact Or.inr ⟨q, h0, E, ce, L9, ⟨n', M', hp _ _ _ h1, h2⟩, h3⟩
end PC
