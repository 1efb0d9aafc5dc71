/-! what is made -/

section PNQ
variable {l : Launch} {z : Nat} {D : va_G} {kA : Nat → ClassId} {kE : Nat → Nat} {own : String} {cc : ByteArray} {nL : Nat} {ret : Option FieldType} {nm : String} {tb : List ExceptionTableEntry} {d mc ms : Nat} {X : pm_X} {cu su : Nat} {Q : State → Prop} {nx : Nat} {M : pm_M} {pc : Nat} {L : List (Option Value)} {st : List Value}
variable {index : Nat} {C : String}
theorem pm_newq (B : pm_B l z D kA kE own cc nL ret nm tb d mc ms X) {n : Int32} {N t0 : Nat} (hd : decode cc pc = .ok (.anewarray index, 3)) (hcl : Cond.classLink own index C ∈ pm_T) (hao : Cond.arrayOver (.object C) ∈ pm_nest) (ht : (pm_tys kA)[t0]? = some (kA t0, .object C)) (hn : n = nI N) (hN : Nat.ble N 10000 = true) (hcu : cu + 1 ≤ mc) (hsu : su + N ≤ ms)
    (k : pm_G l z D X (cu + 1) (su + N) Q (nx + 1) (pm_up M nx (.inl (kA t0, N, .inr (.inr (.inr (.inr (fun _ => none))))))) (pc + 3) L (.ref (z + nx) :: st)) : pm_G l z D X cu su Q nx M pc L (.int n :: st) := by
  obtain ⟨hx, hb, hml, hown, hts, hr, hlk, hK, hnm, htb, ⟨hrf, hrl, hrc, hrs⟩, hz, hcs⟩ := id B
  obtain ⟨p, e, R, s, m, args, below, meth, c⟩ := X
  intro H locs ls hR hS hl
  subst hn
  have hN9 : N ≤ 10000 := Nat.le_of_ble_eq_true hN
  have ecl : (nI N).toNatClampNeg = N := nI_clamp (by omega)
  refine W.anew hx hb hown (hts _ hcl) (va_AO.use (hcs.2.2.2.2.2 _ hao)) rfl hd rfl (nI_pos (by omega)) (by rw [ecl]; exact Nat.le_trans (Nat.mul_le_mul_right 4 hN9) (by decide)) (by simp only at hrc ⊢; omega) (by rw [ecl]; simp only at hrs ⊢; omega) fun cA kA2 comp f1 f2 f3 f4 => ?_
  rw [ecl]
  generalize hH1 : H.push ({ cls := cA, slots := Array.replicate N .null, vm := .none } : Cell) = H1
  have z1 : H1.size = H.size + 1 := by rw [← hH1, Array.size_push]
  have e1 : H1[H.size]? = some (arrV cA N (fun _ => .null)) := by rw [← hH1, Array.getElem?_push_size, ← arrV_new]
  have o1 : ∀ q : Nat, q < H.size → H1[q]? = H[q]? := fun q hq => by rw [← hH1, Array.getElem?_push, if_neg (Nat.ne_of_lt hq)]
  have hsz : z + nx = H.size := hR.1.symm
  obtain ⟨kB, cB, -, -, -, hcB⟩ := (hK.2 t0 _ ht).2
  have hcA : cA = kA t0 := Option.some.inj (f1.symm.trans hcB)
  subst hcA
  have hat : va_at D pm_cl (z + nx, .inl (kA t0, N, .inr (.inr (.inr (.inr (fun _ => none)))))) H1 := by
    rw [hsz]
    show H1[H.size]? = some (vp_cell _ _)
    rw [vp_cell_q]
    exact e1
  have h9 := k H1 locs ls (hR.push hat z1 o1) ⟨Nat.le_trans hS.1 (by omega), fun x h1 h2 => (o1 x (Nat.lt_of_lt_of_le h1 hS.1)).trans (hS.2.1 x h1 h2), hS.2.2⟩ hl
  rw [hsz] at h9
  exact h9
end PNQ
theorem ao_X6 : Cond.arrayOver (.object "ThunderCartel$Member") ∈ pm_nest := by decide +kernel
theorem ao_X10 : Cond.arrayOver (.object "ThunderCartel$State") ∈ pm_nest := by decide +kernel
theorem ao_X2 : Cond.arrayOver (.object "ThunderCartel$Command") ∈ pm_nest := by decide +kernel
section PNB
variable {l : Launch} {z : Nat} {D : va_G} {kA : Nat → ClassId} {kE : Nat → Nat} {own : String} {cc : ByteArray} {nL : Nat} {ret : Option FieldType} {nm : String} {tb : List ExceptionTableEntry} {d mc ms : Nat} {X : pm_X} {cu su : Nat} {Q : State → Prop} {nx : Nat} {M : pm_M} {pc : Nat} {L : List (Option Value)} {st : List Value}
theorem pm_newb (B : pm_B l z D kA kE own cc nL ret nm tb d mc ms X) {n : Int32} {N : Nat} (hd : decode cc pc = .ok (.newarray .byte, 2)) (hw : Cond.arrayClass .byte ∈ pm_T) (hn : n = nI N) (hN : Nat.ble N 10000 = true) (hcu : cu + 1 ≤ mc) (hsu : su + N ≤ ms)
    (k : pm_G l z D X (cu + 1) (su + N) Q (nx + 1) (pm_up M nx (.inl (kA 4, N, .inl (fun _ => 0)))) (pc + 2) L (.ref (z + nx) :: st)) : pm_G l z D X cu su Q nx M pc L (.int n :: st) := by
  obtain ⟨hx, hb, hml, hown, hts, hr, hlk, hK, hnm, htb, ⟨hrf, hrl, hrc, hrs⟩, hz, hcs⟩ := B
  obtain ⟨p, e, R, s, m, args, below, meth, c⟩ := X
  intro H locs ls hR hS hl
  subst hn
  have hN9 : N ≤ 10000 := Nat.le_of_ble_eq_true hN
  refine va_newaK (atype := .byte) hx hb (hts _ hw) rfl hd rfl (nI_pos (by omega)) (nI_clamp (by omega)) (Nat.le_trans (Nat.mul_le_mul hN9 (show componentBytes .byte ≤ 8 from by decide)) (by decide)) (by rw [hrc]; exact hcu) (by rw [hrs]; exact hsu) rfl fun H1 cA e1 z1 o1 hAr hNm => ?_
  have hsz : z + nx = H.size := hR.1.symm
  have hcA : cA = kA 4 := Option.some.inj (hNm.symm.trans (hK.2 4 _ rfl).2)
  subst hcA
  have hat : va_at D pm_cl (z + nx, .inl (kA 4, N, .inl (fun _ => 0))) H1 := by
    rw [hsz]
    exact e1
  have h9 := k H1 locs ls (hR.push hat z1 o1) ⟨Nat.le_trans hS.1 (by omega), fun x h1 h2 => (o1 x (Nat.lt_of_lt_of_le h1 hS.1)).trans (hS.2.1 x h1 h2), hS.2.2⟩ hl
  rw [hsz] at h9
  exact h9
theorem pm_aast_n (B : pm_B l z D kA kE own cc nL ret nm tb d mc ms X) {a n t0 ci : Nat} {f : Nat → Option Nat} {v : Nat} {vs : List Value} (hd : decode cc pc = .ok (.aastore, 1)) (hM : M a = some (.inl (kA t0, n, .inr (.inr (.inr (.inr f)))))) (h13 : Nat.ble (ci + 1) 13 = true) (ht : (pm_tys kA)[t0]? = some (kA t0, .object (pm_ci ci).1)) (i : Nat) (hi : i < n) (hn : n < 2147483648) (hv : M v = some (.inr (ci, vs)))
    (k : pm_G l z D X cu su Q nx (pm_up M a (.inl (kA t0, n, .inr (.inr (.inr (.inr (va_up f i (some (z + v))))))))) (pc + 1) L st) : pm_G l z D X cu su Q nx M pc L (.ref (z + v) :: .int (nI i) :: .ref (z + a) :: st) :=
  pm_aast B hd hM h13 ht (pm_inj hi hn) hv (by rw [pm_cln hi hn]; exact k)
end PNB
def pm_r0 (k : Nat) : Int32 := if k = 3 then 10 else 0
theorem pm_r0_49 : (fun j => pm_r0 (49 + j)) = fun _ => (0 : Int32) := by
  funext j
  exact if_neg (by omega)
theorem pm_mr_v {z b : Nat} : (va_up (va_up (va_up (va_up (va_up (va_up (va_up (fun _ => none) 0 (some (z + (b + 2)))) 1 (some (z + (b + 3)))) 2 (some (z + (b + 4)))) 3 (some (z + (b + 5)))) 4 (some (z + (b + 6)))) 5 (some (z + (b + 7)))) 6 (some (z + (b + 8))) : Nat → Option Nat) = pm_mr z b := by
  funext j
  simp only [va_up, pm_mr]
  (repeat' split) <;> first | (exfalso; omega) | (congr 1; omega) | rfl
set_option maxRecDepth 100000 in
set_option maxHeartbeats 4000000 in
theorem c_X6_init {l : Launch} {z : Nat} {D : va_G} {kA : Nat → ClassId} {kE : Nat → Nat} {nx : Nat} {M : pm_M} {a : Nat} : pm_C l z D kA kE yX6_init cX6_init 1 none 1 0 0 [.ref (z + a)] nx M (pm_rt none nx M) := by
  refine pm_mk (own := RX6) (nm := "<init>") mt_X6_init rfl rfl rfl rfl fun X B => ?_
  refine pm_loc (L' := [some (.ref (z + a))]) rfl ?_
  refine pm_aload_n B dX6_init_0 rfl ?_
  refine pm_objInit B dX6_init_1 (pm_T_in 101 (by decide +kernel) (by decide +kernel)) rfl rfl rfl rfl ?_
  exact pm_return B dX6_init_4 rfl ⟨rfl, rfl, rfl⟩ rfl rfl
set_option maxRecDepth 100000 in
set_option maxHeartbeats 4000000 in
theorem c_X5_init {l : Launch} {z : Nat} {D : va_G} {kA : Nat → ClassId} {kE : Nat → Nat} {M : pm_M} {a : Nat} (hM : M a = some (.inr (3, [.null]))) : pm_C l z D kA kE yX5_init cX5_init 1 none 1 1 7 [.ref (z + a)] (a + 1) M (pm_rx (fun ov n' M' => ov = none ∧ n' = a + 2 ∧ M' (a) = some (.inr (3, [.ref (z + (a + 1))])) ∧ M' (a + 1) = some (.inl (kA 0, 7, .inl (fun _ => 0))) ∧ ∀ x, x < a → M' x = M x)) := by
  refine pm_mk (own := RX5) (nm := "<init>") mt_X5_init rfl rfl rfl rfl fun X B => ?_
  refine pm_loc (L' := [some (.ref (z + a))]) rfl ?_
  refine pm_aload_n B dX5_init_0 rfl ?_
  refine pm_objInit B dX5_init_1 (pm_T_in 139 (by decide +kernel) (by decide +kernel)) rfl rfl rfl rfl ?_
  refine pm_aload_n B dX5_init_4 rfl ?_
  refine pm_bipush (v := 7) B dX5_init_5 (by decide) ?_
  refine pm_newi (N := 7) B dX5_init_7 (pm_T_in 144 (by decide +kernel) (by decide +kernel)) rfl rfl (by decide) (by decide) ?_
  refine pm_mem (M' := pm_up M (a + 1) (.inl (kA 0, 7, .inl (fun _ => 0)))) rfl ?_
  refine pm_stk (st' := [.ref (z + (a + 1)), .ref (z + a)]) rfl ?_
  refine pm_putF B dX5_init_9 ff_X5_9 rfl ((pm_up_n (by omega)).trans hM) rfl rfl rfl ?_
  refine pm_mem (M' := pm_up (pm_up M (a + 1) (.inl (kA 0, 7, .inl (fun _ => 0)))) a (.inr (3, [.ref (z + (a + 1))]))) rfl ?_
  exact pm_return B dX5_init_12 rfl ⟨none, rfl, rfl, rfl, pm_up_s, ((pm_up_n (by omega)).trans pm_up_s), fun x hx => ((pm_up_n (by omega)).trans ((pm_up_n (by omega)).trans rfl))⟩ rfl rfl
set_option maxRecDepth 100000 in
set_option maxHeartbeats 4000000 in
theorem c_X1_init {l : Launch} {z : Nat} {D : va_G} {kA : Nat → ClassId} {kE : Nat → Nat} {M : pm_M} {a : Nat} (hM : M a = some (.inr (0, [.null, .null]))) : pm_C l z D kA kE yX1_init cX1_init 1 none 1 2 14 [.ref (z + a)] (a + 1) M (pm_rx (fun ov n' M' => ov = none ∧ n' = a + 3 ∧ M' (a) = some (.inr (0, [.ref (z + (a + 1)), .ref (z + (a + 2))])) ∧ M' (a + 1) = some (.inl (kA 0, 7, .inl (fun _ => 0))) ∧ M' (a + 2) = some (.inl (kA 0, 7, .inl (fun _ => 0))) ∧ ∀ x, x < a → M' x = M x)) := by
  refine pm_mk (own := RX1) (nm := "<init>") mt_X1_init rfl rfl rfl rfl fun X B => ?_
  refine pm_loc (L' := [some (.ref (z + a))]) rfl ?_
  refine pm_aload_n B dX1_init_0 rfl ?_
  refine pm_objInit B dX1_init_1 (pm_T_in 200 (by decide +kernel) (by decide +kernel)) rfl rfl rfl rfl ?_
  refine pm_aload_n B dX1_init_4 rfl ?_
  refine pm_bipush (v := 7) B dX1_init_5 (by decide) ?_
  refine pm_newi (N := 7) B dX1_init_7 (pm_T_in 144 (by decide +kernel) (by decide +kernel)) rfl rfl (by decide) (by decide) ?_
  refine pm_mem (M' := pm_up M (a + 1) (.inl (kA 0, 7, .inl (fun _ => 0)))) rfl ?_
  refine pm_stk (st' := [.ref (z + (a + 1)), .ref (z + a)]) rfl ?_
  refine pm_putF B dX1_init_9 ff_X1_9 rfl ((pm_up_n (by omega)).trans hM) rfl rfl rfl ?_
  refine pm_mem (M' := pm_up (pm_up M (a + 1) (.inl (kA 0, 7, .inl (fun _ => 0)))) a (.inr (0, [.ref (z + (a + 1)), .null]))) rfl ?_
  refine pm_aload_n B dX1_init_12 rfl ?_
  refine pm_bipush (v := 7) B dX1_init_13 (by decide) ?_
  refine pm_newi (N := 7) B dX1_init_15 (pm_T_in 144 (by decide +kernel) (by decide +kernel)) rfl rfl (by decide) (by decide) ?_
  refine pm_mem (M' := pm_up (pm_up (pm_up M (a + 1) (.inl (kA 0, 7, .inl (fun _ => 0)))) a (.inr (0, [.ref (z + (a + 1)), .null]))) (a + 2) (.inl (kA 0, 7, .inl (fun _ => 0)))) rfl ?_
  refine pm_stk (st' := [.ref (z + (a + 2)), .ref (z + a)]) rfl ?_
  refine pm_putF B dX1_init_17 ff_X1_15 rfl ((pm_up_n (by omega)).trans pm_up_s) rfl rfl rfl ?_
  refine pm_mem (M' := pm_up (pm_up (pm_up (pm_up M (a + 1) (.inl (kA 0, 7, .inl (fun _ => 0)))) a (.inr (0, [.ref (z + (a + 1)), .null]))) (a + 2) (.inl (kA 0, 7, .inl (fun _ => 0)))) a (.inr (0, [.ref (z + (a + 1)), .ref (z + (a + 2))]))) rfl ?_
  refine pm_mem (M' := pm_up (pm_up (pm_up M (a + 1) (.inl (kA 0, 7, .inl (fun _ => 0)))) a (.inr (0, [.ref (z + (a + 1)), .ref (z + (a + 2))]))) (a + 2) (.inl (kA 0, 7, .inl (fun _ => 0)))) (by rw [pm_up_sw (a := a + 2) (b := a) (by omega), pm_up_up]) ?_
  exact pm_return B dX1_init_20 rfl ⟨none, rfl, rfl, rfl, ((pm_up_n (by omega)).trans pm_up_s), ((pm_up_n (by omega)).trans ((pm_up_n (by omega)).trans pm_up_s)), pm_up_s, fun x hx => ((pm_up_n (by omega)).trans ((pm_up_n (by omega)).trans ((pm_up_n (by omega)).trans rfl)))⟩ rfl rfl
set_option maxRecDepth 100000 in
set_option maxHeartbeats 4000000 in
theorem c_X11_init {l : Launch} {z : Nat} {D : va_G} {kA : Nat → ClassId} {kE : Nat → Nat} {M : pm_M} {a : Nat} (hM : M a = some (.inr (9, [.null]))) : pm_C l z D kA kE yX11_init cX11_init 1 none 1 1 141 [.ref (z + a)] (a + 1) M (pm_rx (fun ov n' M' => ov = none ∧ n' = a + 2 ∧ M' (a) = some (.inr (9, [.ref (z + (a + 1))])) ∧ M' (a + 1) = some (.inl (kA 0, 141, .inl (fun _ => 0))) ∧ ∀ x, x < a → M' x = M x)) := by
  refine pm_mk (own := RX11) (nm := "<init>") mt_X11_init rfl rfl rfl rfl fun X B => ?_
  refine pm_loc (L' := [some (.ref (z + a))]) rfl ?_
  refine pm_aload_n B dX11_init_0 rfl ?_
  refine pm_objInit B dX11_init_1 (pm_T_in 250 (by decide +kernel) (by decide +kernel)) rfl rfl rfl rfl ?_
  refine pm_aload_n B dX11_init_4 rfl ?_
  refine pm_sipush (v := 141) B dX11_init_5 (by decide) ?_
  refine pm_newi (N := 141) B dX11_init_8 (pm_T_in 144 (by decide +kernel) (by decide +kernel)) rfl rfl (by decide) (by decide) ?_
  refine pm_mem (M' := pm_up M (a + 1) (.inl (kA 0, 141, .inl (fun _ => 0)))) rfl ?_
  refine pm_stk (st' := [.ref (z + (a + 1)), .ref (z + a)]) rfl ?_
  refine pm_putF B dX11_init_10 ff_X11_9 rfl ((pm_up_n (by omega)).trans hM) rfl rfl rfl ?_
  refine pm_mem (M' := pm_up (pm_up M (a + 1) (.inl (kA 0, 141, .inl (fun _ => 0)))) a (.inr (9, [.ref (z + (a + 1))]))) rfl ?_
  exact pm_return B dX11_init_13 rfl ⟨none, rfl, rfl, rfl, pm_up_s, ((pm_up_n (by omega)).trans pm_up_s), fun x hx => ((pm_up_n (by omega)).trans ((pm_up_n (by omega)).trans rfl))⟩ rfl rfl
set_option maxRecDepth 100000 in
set_option maxHeartbeats 4000000 in
theorem c_X3_init {l : Launch} {z : Nat} {D : va_G} {kA : Nat → ClassId} {kE : Nat → Nat} {M : pm_M} {a : Nat} (hM : M a = some (.inr (1, [.null, .int 0]))) : pm_C l z D kA kE yX3_init cX3_init 1 none 1 1 7 [.ref (z + a)] (a + 1) M (pm_rx (fun ov n' M' => ov = none ∧ n' = a + 2 ∧ M' (a) = some (.inr (1, [.ref (z + (a + 1)), .int 0])) ∧ M' (a + 1) = some (.inl (kA 0, 7, .inl (fun _ => 0))) ∧ ∀ x, x < a → M' x = M x)) := by
  refine pm_mk (own := RX3) (nm := "<init>") mt_X3_init rfl rfl rfl rfl fun X B => ?_
  refine pm_loc (L' := [some (.ref (z + a))]) rfl ?_
  refine pm_aload_n B dX3_init_0 rfl ?_
  refine pm_objInit B dX3_init_1 (pm_T_in 260 (by decide +kernel) (by decide +kernel)) rfl rfl rfl rfl ?_
  refine pm_aload_n B dX3_init_4 rfl ?_
  refine pm_bipush (v := 7) B dX3_init_5 (by decide) ?_
  refine pm_newi (N := 7) B dX3_init_7 (pm_T_in 144 (by decide +kernel) (by decide +kernel)) rfl rfl (by decide) (by decide) ?_
  refine pm_mem (M' := pm_up M (a + 1) (.inl (kA 0, 7, .inl (fun _ => 0)))) rfl ?_
  refine pm_stk (st' := [.ref (z + (a + 1)), .ref (z + a)]) rfl ?_
  refine pm_putF B dX3_init_9 ff_X3_9 rfl ((pm_up_n (by omega)).trans hM) rfl rfl rfl ?_
  refine pm_mem (M' := pm_up (pm_up M (a + 1) (.inl (kA 0, 7, .inl (fun _ => 0)))) a (.inr (1, [.ref (z + (a + 1)), .int 0]))) rfl ?_
  exact pm_return B dX3_init_12 rfl ⟨none, rfl, rfl, rfl, pm_up_s, ((pm_up_n (by omega)).trans pm_up_s), fun x hx => ((pm_up_n (by omega)).trans ((pm_up_n (by omega)).trans rfl))⟩ rfl rfl
set_option maxRecDepth 100000 in
set_option maxHeartbeats 4000000 in
theorem c_X9_init {l : Launch} {z : Nat} {D : va_G} {kA : Nat → ClassId} {kE : Nat → Nat} {M : pm_M} {a : Nat} (hM : M a = some (.inr (7, [.null, .null, .null, .null, .int 0, .int 0, .int 0]))) : pm_C l z D kA kE yX9_init cX9_init 1 none 1 4 93 [.ref (z + a)] (a + 1) M (pm_rx (fun ov n' M' => ov = none ∧ n' = a + 5 ∧ M' (a) = some (.inr (7, [.ref (z + (a + 1)), .ref (z + (a + 2)), .ref (z + (a + 3)), .ref (z + (a + 4)), .int 0, .int 0, .int 0])) ∧ M' (a + 1) = some (.inl (kA 3, 60, .inl (fun _ => 0))) ∧ M' (a + 2) = some (.inl (kA 7, 11, .inr (.inr (.inr (.inr (fun _ => none)))))) ∧ M' (a + 3) = some (.inl (kA 0, 11, .inl (fun _ => 0))) ∧ M' (a + 4) = some (.inl (kA 0, 11, .inl (fun _ => 0))) ∧ ∀ x, x < a → M' x = M x)) := by
  refine pm_mk (own := RX9) (nm := "<init>") mt_X9_init rfl rfl rfl rfl fun X B => ?_
  refine pm_loc (L' := [some (.ref (z + a))]) rfl ?_
  refine pm_aload_n B dX9_init_0 rfl ?_
  refine pm_objInit B dX9_init_1 (pm_T_in 273 (by decide +kernel) (by decide +kernel)) rfl rfl rfl rfl ?_
  refine pm_aload_n B dX9_init_4 rfl ?_
  refine pm_bipush (v := 60) B dX9_init_5 (by decide) ?_
  refine pm_newc (N := 60) B dX9_init_7 (pm_T_in 300 (by decide +kernel) (by decide +kernel)) rfl rfl (by decide) (by decide) ?_
  refine pm_mem (M' := pm_up M (a + 1) (.inl (kA 3, 60, .inl (fun _ => 0)))) rfl ?_
  refine pm_stk (st' := [.ref (z + (a + 1)), .ref (z + a)]) rfl ?_
  refine pm_putF B dX9_init_9 ff_X9_9 rfl ((pm_up_n (by omega)).trans hM) rfl rfl rfl ?_
  refine pm_mem (M' := pm_up (pm_up M (a + 1) (.inl (kA 3, 60, .inl (fun _ => 0)))) a (.inr (7, [.ref (z + (a + 1)), .null, .null, .null, .int 0, .int 0, .int 0]))) rfl ?_
  refine pm_aload_n B dX9_init_12 rfl ?_
  refine pm_bipush (v := 11) B dX9_init_13 (by decide) ?_
  refine pm_newq (N := 11) (t0 := 7) B dX9_init_15 (pm_T_in 274 (by decide +kernel) (by decide +kernel)) ao_X2 rfl rfl rfl (by decide) (by decide) ?_
  refine pm_mem (M' := pm_up (pm_up (pm_up M (a + 1) (.inl (kA 3, 60, .inl (fun _ => 0)))) a (.inr (7, [.ref (z + (a + 1)), .null, .null, .null, .int 0, .int 0, .int 0]))) (a + 2) (.inl (kA 7, 11, .inr (.inr (.inr (.inr (fun _ => none))))))) rfl ?_
  refine pm_stk (st' := [.ref (z + (a + 2)), .ref (z + a)]) rfl ?_
  refine pm_putF B dX9_init_18 ff_X9_15 rfl ((pm_up_n (by omega)).trans pm_up_s) rfl rfl rfl ?_
  refine pm_mem (M' := pm_up (pm_up (pm_up (pm_up M (a + 1) (.inl (kA 3, 60, .inl (fun _ => 0)))) a (.inr (7, [.ref (z + (a + 1)), .null, .null, .null, .int 0, .int 0, .int 0]))) (a + 2) (.inl (kA 7, 11, .inr (.inr (.inr (.inr (fun _ => none))))))) a (.inr (7, [.ref (z + (a + 1)), .ref (z + (a + 2)), .null, .null, .int 0, .int 0, .int 0]))) rfl ?_
  refine pm_mem (M' := pm_up (pm_up (pm_up M (a + 1) (.inl (kA 3, 60, .inl (fun _ => 0)))) a (.inr (7, [.ref (z + (a + 1)), .ref (z + (a + 2)), .null, .null, .int 0, .int 0, .int 0]))) (a + 2) (.inl (kA 7, 11, .inr (.inr (.inr (.inr (fun _ => none))))))) (by rw [pm_up_sw (a := a + 2) (b := a) (by omega), pm_up_up]) ?_
  refine pm_aload_n B dX9_init_21 rfl ?_
  refine pm_bipush (v := 11) B dX9_init_22 (by decide) ?_
  refine pm_newi (N := 11) B dX9_init_24 (pm_T_in 144 (by decide +kernel) (by decide +kernel)) rfl rfl (by decide) (by decide) ?_
  refine pm_mem (M' := pm_up (pm_up (pm_up (pm_up M (a + 1) (.inl (kA 3, 60, .inl (fun _ => 0)))) a (.inr (7, [.ref (z + (a + 1)), .ref (z + (a + 2)), .null, .null, .int 0, .int 0, .int 0]))) (a + 2) (.inl (kA 7, 11, .inr (.inr (.inr (.inr (fun _ => none))))))) (a + 3) (.inl (kA 0, 11, .inl (fun _ => 0)))) rfl ?_
  refine pm_stk (st' := [.ref (z + (a + 3)), .ref (z + a)]) rfl ?_
  refine pm_putF B dX9_init_26 ff_X9_19 rfl ((pm_up_n (by omega)).trans ((pm_up_n (by omega)).trans pm_up_s)) rfl rfl rfl ?_
  refine pm_mem (M' := pm_up (pm_up (pm_up (pm_up (pm_up M (a + 1) (.inl (kA 3, 60, .inl (fun _ => 0)))) a (.inr (7, [.ref (z + (a + 1)), .ref (z + (a + 2)), .null, .null, .int 0, .int 0, .int 0]))) (a + 2) (.inl (kA 7, 11, .inr (.inr (.inr (.inr (fun _ => none))))))) (a + 3) (.inl (kA 0, 11, .inl (fun _ => 0)))) a (.inr (7, [.ref (z + (a + 1)), .ref (z + (a + 2)), .ref (z + (a + 3)), .null, .int 0, .int 0, .int 0]))) rfl ?_
  refine pm_mem (M' := pm_up (pm_up (pm_up (pm_up M (a + 1) (.inl (kA 3, 60, .inl (fun _ => 0)))) a (.inr (7, [.ref (z + (a + 1)), .ref (z + (a + 2)), .ref (z + (a + 3)), .null, .int 0, .int 0, .int 0]))) (a + 2) (.inl (kA 7, 11, .inr (.inr (.inr (.inr (fun _ => none))))))) (a + 3) (.inl (kA 0, 11, .inl (fun _ => 0)))) (by rw [pm_up_sw (a := a + 3) (b := a) (by omega), pm_up_sw (a := a + 2) (b := a) (by omega), pm_up_up]) ?_
  refine pm_aload_n B dX9_init_29 rfl ?_
  refine pm_bipush (v := 11) B dX9_init_30 (by decide) ?_
  refine pm_newi (N := 11) B dX9_init_32 (pm_T_in 144 (by decide +kernel) (by decide +kernel)) rfl rfl (by decide) (by decide) ?_
  refine pm_mem (M' := pm_up (pm_up (pm_up (pm_up (pm_up M (a + 1) (.inl (kA 3, 60, .inl (fun _ => 0)))) a (.inr (7, [.ref (z + (a + 1)), .ref (z + (a + 2)), .ref (z + (a + 3)), .null, .int 0, .int 0, .int 0]))) (a + 2) (.inl (kA 7, 11, .inr (.inr (.inr (.inr (fun _ => none))))))) (a + 3) (.inl (kA 0, 11, .inl (fun _ => 0)))) (a + 4) (.inl (kA 0, 11, .inl (fun _ => 0)))) rfl ?_
  refine pm_stk (st' := [.ref (z + (a + 4)), .ref (z + a)]) rfl ?_
  refine pm_putF B dX9_init_34 ff_X9_23 rfl ((pm_up_n (by omega)).trans ((pm_up_n (by omega)).trans ((pm_up_n (by omega)).trans pm_up_s))) rfl rfl rfl ?_
  refine pm_mem (M' := pm_up (pm_up (pm_up (pm_up (pm_up (pm_up M (a + 1) (.inl (kA 3, 60, .inl (fun _ => 0)))) a (.inr (7, [.ref (z + (a + 1)), .ref (z + (a + 2)), .ref (z + (a + 3)), .null, .int 0, .int 0, .int 0]))) (a + 2) (.inl (kA 7, 11, .inr (.inr (.inr (.inr (fun _ => none))))))) (a + 3) (.inl (kA 0, 11, .inl (fun _ => 0)))) (a + 4) (.inl (kA 0, 11, .inl (fun _ => 0)))) a (.inr (7, [.ref (z + (a + 1)), .ref (z + (a + 2)), .ref (z + (a + 3)), .ref (z + (a + 4)), .int 0, .int 0, .int 0]))) rfl ?_
  refine pm_mem (M' := pm_up (pm_up (pm_up (pm_up (pm_up M (a + 1) (.inl (kA 3, 60, .inl (fun _ => 0)))) a (.inr (7, [.ref (z + (a + 1)), .ref (z + (a + 2)), .ref (z + (a + 3)), .ref (z + (a + 4)), .int 0, .int 0, .int 0]))) (a + 2) (.inl (kA 7, 11, .inr (.inr (.inr (.inr (fun _ => none))))))) (a + 3) (.inl (kA 0, 11, .inl (fun _ => 0)))) (a + 4) (.inl (kA 0, 11, .inl (fun _ => 0)))) (by rw [pm_up_sw (a := a + 4) (b := a) (by omega), pm_up_sw (a := a + 3) (b := a) (by omega), pm_up_sw (a := a + 2) (b := a) (by omega), pm_up_up]) ?_
  exact pm_return B dX9_init_37 rfl ⟨none, rfl, rfl, rfl, ((pm_up_n (by omega)).trans ((pm_up_n (by omega)).trans ((pm_up_n (by omega)).trans pm_up_s))), ((pm_up_n (by omega)).trans ((pm_up_n (by omega)).trans ((pm_up_n (by omega)).trans ((pm_up_n (by omega)).trans pm_up_s)))), ((pm_up_n (by omega)).trans ((pm_up_n (by omega)).trans pm_up_s)), ((pm_up_n (by omega)).trans pm_up_s), pm_up_s, fun x hx => ((pm_up_n (by omega)).trans ((pm_up_n (by omega)).trans ((pm_up_n (by omega)).trans ((pm_up_n (by omega)).trans ((pm_up_n (by omega)).trans rfl)))))⟩ rfl rfl
set_option maxRecDepth 100000 in
set_option maxHeartbeats 4000000 in
theorem c_X10_init {l : Launch} {z : Nat} {D : va_G} {kA : Nat → ClassId} {kE : Nat → Nat} {M : pm_M} {a : Nat} (hM : M a = some (.inr (8, [.null, .null, .int 0, .int 0, .int 0, .int 0, .int 0, .int 0, .int 0]))) : pm_C l z D kA kE yX10_init cX10_init 2 none 2 10 61 [.ref (z + a)] (a + 1) M (pm_rx (fun ov n' M' => ov = none ∧ n' = a + 11 ∧ pm_SA z kA a M' pm_r0 ∧ ∀ x, x < a → M' x = M x)) := by
  refine pm_mk (own := RX10) (nm := "<init>") mt_X10_init rfl rfl rfl rfl fun X B => ?_
  refine pm_loc (L' := [some (.ref (z + a)), none]) rfl ?_
  refine pm_aload_n B dX10_init_0 rfl ?_
  refine pm_objInit B dX10_init_1 (pm_T_in 94 (by decide +kernel) (by decide +kernel)) rfl rfl rfl rfl ?_
  refine pm_aload_n B dX10_init_4 rfl ?_
  refine pm_bipush (v := 7) B dX10_init_5 (by decide) ?_
  refine pm_newq (N := 7) (t0 := 6) B dX10_init_7 (pm_T_in 95 (by decide +kernel) (by decide +kernel)) ao_X6 rfl rfl rfl (by decide) (by decide) ?_
  refine pm_mem (M' := pm_up M (a + 1) (.inl (kA 6, 7, .inr (.inr (.inr (.inr (fun _ => none))))))) rfl ?_
  refine pm_stk (st' := [.ref (z + (a + 1)), .ref (z + a)]) rfl ?_
  refine pm_putF B dX10_init_10 ff_X10_11 rfl ((pm_up_n (by omega)).trans hM) rfl rfl rfl ?_
  refine pm_mem (M' := pm_up (pm_up M (a + 1) (.inl (kA 6, 7, .inr (.inr (.inr (.inr (fun _ => none))))))) a (.inr (8, [.ref (z + (a + 1)), .null, .int 0, .int 0, .int 0, .int 0, .int 0, .int 0, .int 0]))) rfl ?_
  refine pm_iconst (v := 0) B dX10_init_13 (by decide) ?_
  refine pm_istore_n B dX10_init_14 rfl rfl ?_
  refine pm_loc (L' := [some (.ref (z + a)), some (.int 0)]) rfl ?_
  refine pm_iload_n B dX10_init_15 rfl ?_
  refine pm_aload_n B dX10_init_16 rfl ?_
  refine pm_get B dX10_init_17 fl_X10_11 pm_up_s rfl ?_
  refine pm_alen B dX10_init_20 ((pm_up_n (by omega)).trans pm_up_s) rfl rfl ?_
  refine pm_stk (st' := [.int (nI 7), .int 0]) rfl ?_
  refine pm_icmp_ge (tgt := 43) B dX10_init_21 (by decide) (fun hq1 => absurd hq1 (by decide)) (fun hq1 => ?_)
  refine pm_aload_n B dX10_init_24 rfl ?_
  refine pm_get B dX10_init_25 fl_X10_11 pm_up_s rfl ?_
  refine pm_iload_n B dX10_init_28 rfl ?_
  refine pm_new (n0 := 6) B dX10_init_29 nw_X10_9 rfl (by decide) (by decide) ?_
  refine pm_mem (M' := pm_up (pm_up (pm_up M (a + 1) (.inl (kA 6, 7, .inr (.inr (.inr (.inr (fun _ => none))))))) a (.inr (8, [.ref (z + (a + 1)), .null, .int 0, .int 0, .int 0, .int 0, .int 0, .int 0, .int 0]))) (a + 2) (.inr (4, [.int 0, .int 0, .int 0, .int 0, .int 0, .int 0]))) rfl ?_
  refine pm_stk (st' := [.ref (z + (a + 2)), .int 0, .ref (z + (a + 1))]) rfl ?_
  refine pm_dup B dX10_init_32 rfl ?_
  refine pm_cIN (As := []) (mc2 := 0) (ms2 := 0) B rfl c_X6_init mt_X6_init si_X10_17 dX10_init_33 rfl rfl rfl rfl rfl ?_
  refine pm_stk (st' := [.ref (z + (a + 2)), .int 0, .ref (z + (a + 1))]) rfl ?_
  refine pm_aast_n (t0 := 6) B dX10_init_36 ((pm_up_n (by omega)).trans ((pm_up_n (by omega)).trans pm_up_s)) rfl rfl 0 (by decide) (by decide) pm_up_s ?_
  refine pm_mem (M' := pm_up (pm_up (pm_up (pm_up M (a + 1) (.inl (kA 6, 7, .inr (.inr (.inr (.inr (fun _ => none))))))) a (.inr (8, [.ref (z + (a + 1)), .null, .int 0, .int 0, .int 0, .int 0, .int 0, .int 0, .int 0]))) (a + 2) (.inr (4, [.int 0, .int 0, .int 0, .int 0, .int 0, .int 0]))) (a + 1) (.inl (kA 6, 7, .inr (.inr (.inr (.inr (va_up (fun _ => none) 0 (some (z + (a + 2)))))))))) rfl ?_
  refine pm_mem (M' := pm_up (pm_up (pm_up M (a + 1) (.inl (kA 6, 7, .inr (.inr (.inr (.inr (va_up (fun _ => none) 0 (some (z + (a + 2)))))))))) a (.inr (8, [.ref (z + (a + 1)), .null, .int 0, .int 0, .int 0, .int 0, .int 0, .int 0, .int 0]))) (a + 2) (.inr (4, [.int 0, .int 0, .int 0, .int 0, .int 0, .int 0]))) (by rw [pm_up_sw (a := a + 2) (b := a + 1) (by omega), pm_up_sw (a := a) (b := a + 1) (by omega), pm_up_up]) ?_
  refine pm_iinc B dX10_init_37 rfl rfl rfl ?_
  refine pm_loc (L' := [some (.ref (z + a)), some (.int 1)]) (by rw [show (0 : Int32) + Int32.ofInt 1 = 1 from by decide]; rfl) ?_
  refine pm_goto (tgt := 15) B dX10_init_40 (by decide) ?_
  refine pm_iload_n B dX10_init_15 rfl ?_
  refine pm_aload_n B dX10_init_16 rfl ?_
  refine pm_get B dX10_init_17 fl_X10_11 ((pm_up_n (by omega)).trans pm_up_s) rfl ?_
  refine pm_alen B dX10_init_20 ((pm_up_n (by omega)).trans ((pm_up_n (by omega)).trans pm_up_s)) rfl rfl ?_
  refine pm_stk (st' := [.int (nI 7), .int 1]) rfl ?_
  refine pm_icmp_ge (tgt := 43) B dX10_init_21 (by decide) (fun hq2 => absurd hq2 (by decide)) (fun hq2 => ?_)
  refine pm_aload_n B dX10_init_24 rfl ?_
  refine pm_get B dX10_init_25 fl_X10_11 ((pm_up_n (by omega)).trans pm_up_s) rfl ?_
  refine pm_iload_n B dX10_init_28 rfl ?_
  refine pm_new (n0 := 6) B dX10_init_29 nw_X10_9 rfl (by decide) (by decide) ?_
  refine pm_mem (M' := pm_up (pm_up (pm_up (pm_up M (a + 1) (.inl (kA 6, 7, .inr (.inr (.inr (.inr (va_up (fun _ => none) 0 (some (z + (a + 2)))))))))) a (.inr (8, [.ref (z + (a + 1)), .null, .int 0, .int 0, .int 0, .int 0, .int 0, .int 0, .int 0]))) (a + 2) (.inr (4, [.int 0, .int 0, .int 0, .int 0, .int 0, .int 0]))) (a + 3) (.inr (4, [.int 0, .int 0, .int 0, .int 0, .int 0, .int 0]))) rfl ?_
  refine pm_stk (st' := [.ref (z + (a + 3)), .int 1, .ref (z + (a + 1))]) rfl ?_
  refine pm_dup B dX10_init_32 rfl ?_
  refine pm_cIN (As := []) (mc2 := 0) (ms2 := 0) B rfl c_X6_init mt_X6_init si_X10_17 dX10_init_33 rfl rfl rfl rfl rfl ?_
  refine pm_stk (st' := [.ref (z + (a + 3)), .int 1, .ref (z + (a + 1))]) rfl ?_
  refine pm_aast_n (t0 := 6) B dX10_init_36 ((pm_up_n (by omega)).trans ((pm_up_n (by omega)).trans ((pm_up_n (by omega)).trans pm_up_s))) rfl rfl 1 (by decide) (by decide) pm_up_s ?_
  refine pm_mem (M' := pm_up (pm_up (pm_up (pm_up (pm_up M (a + 1) (.inl (kA 6, 7, .inr (.inr (.inr (.inr (va_up (fun _ => none) 0 (some (z + (a + 2)))))))))) a (.inr (8, [.ref (z + (a + 1)), .null, .int 0, .int 0, .int 0, .int 0, .int 0, .int 0, .int 0]))) (a + 2) (.inr (4, [.int 0, .int 0, .int 0, .int 0, .int 0, .int 0]))) (a + 3) (.inr (4, [.int 0, .int 0, .int 0, .int 0, .int 0, .int 0]))) (a + 1) (.inl (kA 6, 7, .inr (.inr (.inr (.inr (va_up (va_up (fun _ => none) 0 (some (z + (a + 2)))) 1 (some (z + (a + 3)))))))))) rfl ?_
  refine pm_mem (M' := pm_up (pm_up (pm_up (pm_up M (a + 1) (.inl (kA 6, 7, .inr (.inr (.inr (.inr (va_up (va_up (fun _ => none) 0 (some (z + (a + 2)))) 1 (some (z + (a + 3)))))))))) a (.inr (8, [.ref (z + (a + 1)), .null, .int 0, .int 0, .int 0, .int 0, .int 0, .int 0, .int 0]))) (a + 2) (.inr (4, [.int 0, .int 0, .int 0, .int 0, .int 0, .int 0]))) (a + 3) (.inr (4, [.int 0, .int 0, .int 0, .int 0, .int 0, .int 0]))) (by rw [pm_up_sw (a := a + 3) (b := a + 1) (by omega), pm_up_sw (a := a + 2) (b := a + 1) (by omega), pm_up_sw (a := a) (b := a + 1) (by omega), pm_up_up]) ?_
  refine pm_iinc B dX10_init_37 rfl rfl rfl ?_
  refine pm_loc (L' := [some (.ref (z + a)), some (.int 2)]) (by rw [show (1 : Int32) + Int32.ofInt 1 = 2 from by decide]; rfl) ?_
  refine pm_goto (tgt := 15) B dX10_init_40 (by decide) ?_
  refine pm_iload_n B dX10_init_15 rfl ?_
  refine pm_aload_n B dX10_init_16 rfl ?_
  refine pm_get B dX10_init_17 fl_X10_11 ((pm_up_n (by omega)).trans ((pm_up_n (by omega)).trans pm_up_s)) rfl ?_
  refine pm_alen B dX10_init_20 ((pm_up_n (by omega)).trans ((pm_up_n (by omega)).trans ((pm_up_n (by omega)).trans pm_up_s))) rfl rfl ?_
  refine pm_stk (st' := [.int (nI 7), .int 2]) rfl ?_
  refine pm_icmp_ge (tgt := 43) B dX10_init_21 (by decide) (fun hq3 => absurd hq3 (by decide)) (fun hq3 => ?_)
  refine pm_aload_n B dX10_init_24 rfl ?_
  refine pm_get B dX10_init_25 fl_X10_11 ((pm_up_n (by omega)).trans ((pm_up_n (by omega)).trans pm_up_s)) rfl ?_
  refine pm_iload_n B dX10_init_28 rfl ?_
  refine pm_new (n0 := 6) B dX10_init_29 nw_X10_9 rfl (by decide) (by decide) ?_
  refine pm_mem (M' := pm_up (pm_up (pm_up (pm_up (pm_up M (a + 1) (.inl (kA 6, 7, .inr (.inr (.inr (.inr (va_up (va_up (fun _ => none) 0 (some (z + (a + 2)))) 1 (some (z + (a + 3)))))))))) a (.inr (8, [.ref (z + (a + 1)), .null, .int 0, .int 0, .int 0, .int 0, .int 0, .int 0, .int 0]))) (a + 2) (.inr (4, [.int 0, .int 0, .int 0, .int 0, .int 0, .int 0]))) (a + 3) (.inr (4, [.int 0, .int 0, .int 0, .int 0, .int 0, .int 0]))) (a + 4) (.inr (4, [.int 0, .int 0, .int 0, .int 0, .int 0, .int 0]))) rfl ?_
  refine pm_stk (st' := [.ref (z + (a + 4)), .int 2, .ref (z + (a + 1))]) rfl ?_
  refine pm_dup B dX10_init_32 rfl ?_
  refine pm_cIN (As := []) (mc2 := 0) (ms2 := 0) B rfl c_X6_init mt_X6_init si_X10_17 dX10_init_33 rfl rfl rfl rfl rfl ?_
  refine pm_stk (st' := [.ref (z + (a + 4)), .int 2, .ref (z + (a + 1))]) rfl ?_
  refine pm_aast_n (t0 := 6) B dX10_init_36 ((pm_up_n (by omega)).trans ((pm_up_n (by omega)).trans ((pm_up_n (by omega)).trans ((pm_up_n (by omega)).trans pm_up_s)))) rfl rfl 2 (by decide) (by decide) pm_up_s ?_
  refine pm_mem (M' := pm_up (pm_up (pm_up (pm_up (pm_up (pm_up M (a + 1) (.inl (kA 6, 7, .inr (.inr (.inr (.inr (va_up (va_up (fun _ => none) 0 (some (z + (a + 2)))) 1 (some (z + (a + 3)))))))))) a (.inr (8, [.ref (z + (a + 1)), .null, .int 0, .int 0, .int 0, .int 0, .int 0, .int 0, .int 0]))) (a + 2) (.inr (4, [.int 0, .int 0, .int 0, .int 0, .int 0, .int 0]))) (a + 3) (.inr (4, [.int 0, .int 0, .int 0, .int 0, .int 0, .int 0]))) (a + 4) (.inr (4, [.int 0, .int 0, .int 0, .int 0, .int 0, .int 0]))) (a + 1) (.inl (kA 6, 7, .inr (.inr (.inr (.inr (va_up (va_up (va_up (fun _ => none) 0 (some (z + (a + 2)))) 1 (some (z + (a + 3)))) 2 (some (z + (a + 4)))))))))) rfl ?_
  refine pm_mem (M' := pm_up (pm_up (pm_up (pm_up (pm_up M (a + 1) (.inl (kA 6, 7, .inr (.inr (.inr (.inr (va_up (va_up (va_up (fun _ => none) 0 (some (z + (a + 2)))) 1 (some (z + (a + 3)))) 2 (some (z + (a + 4)))))))))) a (.inr (8, [.ref (z + (a + 1)), .null, .int 0, .int 0, .int 0, .int 0, .int 0, .int 0, .int 0]))) (a + 2) (.inr (4, [.int 0, .int 0, .int 0, .int 0, .int 0, .int 0]))) (a + 3) (.inr (4, [.int 0, .int 0, .int 0, .int 0, .int 0, .int 0]))) (a + 4) (.inr (4, [.int 0, .int 0, .int 0, .int 0, .int 0, .int 0]))) (by rw [pm_up_sw (a := a + 4) (b := a + 1) (by omega), pm_up_sw (a := a + 3) (b := a + 1) (by omega), pm_up_sw (a := a + 2) (b := a + 1) (by omega), pm_up_sw (a := a) (b := a + 1) (by omega), pm_up_up]) ?_
  refine pm_iinc B dX10_init_37 rfl rfl rfl ?_
  refine pm_loc (L' := [some (.ref (z + a)), some (.int 3)]) (by rw [show (2 : Int32) + Int32.ofInt 1 = 3 from by decide]; rfl) ?_
  refine pm_goto (tgt := 15) B dX10_init_40 (by decide) ?_
  refine pm_iload_n B dX10_init_15 rfl ?_
  refine pm_aload_n B dX10_init_16 rfl ?_
  refine pm_get B dX10_init_17 fl_X10_11 ((pm_up_n (by omega)).trans ((pm_up_n (by omega)).trans ((pm_up_n (by omega)).trans pm_up_s))) rfl ?_
  refine pm_alen B dX10_init_20 ((pm_up_n (by omega)).trans ((pm_up_n (by omega)).trans ((pm_up_n (by omega)).trans ((pm_up_n (by omega)).trans pm_up_s)))) rfl rfl ?_
  refine pm_stk (st' := [.int (nI 7), .int 3]) rfl ?_
  refine pm_icmp_ge (tgt := 43) B dX10_init_21 (by decide) (fun hq4 => absurd hq4 (by decide)) (fun hq4 => ?_)
  refine pm_aload_n B dX10_init_24 rfl ?_
  refine pm_get B dX10_init_25 fl_X10_11 ((pm_up_n (by omega)).trans ((pm_up_n (by omega)).trans ((pm_up_n (by omega)).trans pm_up_s))) rfl ?_
  refine pm_iload_n B dX10_init_28 rfl ?_
  refine pm_new (n0 := 6) B dX10_init_29 nw_X10_9 rfl (by decide) (by decide) ?_
  refine pm_mem (M' := pm_up (pm_up (pm_up (pm_up (pm_up (pm_up M (a + 1) (.inl (kA 6, 7, .inr (.inr (.inr (.inr (va_up (va_up (va_up (fun _ => none) 0 (some (z + (a + 2)))) 1 (some (z + (a + 3)))) 2 (some (z + (a + 4)))))))))) a (.inr (8, [.ref (z + (a + 1)), .null, .int 0, .int 0, .int 0, .int 0, .int 0, .int 0, .int 0]))) (a + 2) (.inr (4, [.int 0, .int 0, .int 0, .int 0, .int 0, .int 0]))) (a + 3) (.inr (4, [.int 0, .int 0, .int 0, .int 0, .int 0, .int 0]))) (a + 4) (.inr (4, [.int 0, .int 0, .int 0, .int 0, .int 0, .int 0]))) (a + 5) (.inr (4, [.int 0, .int 0, .int 0, .int 0, .int 0, .int 0]))) rfl ?_
  refine pm_stk (st' := [.ref (z + (a + 5)), .int 3, .ref (z + (a + 1))]) rfl ?_
  refine pm_dup B dX10_init_32 rfl ?_
  refine pm_cIN (As := []) (mc2 := 0) (ms2 := 0) B rfl c_X6_init mt_X6_init si_X10_17 dX10_init_33 rfl rfl rfl rfl rfl ?_
  refine pm_stk (st' := [.ref (z + (a + 5)), .int 3, .ref (z + (a + 1))]) rfl ?_
  refine pm_aast_n (t0 := 6) B dX10_init_36 ((pm_up_n (by omega)).trans ((pm_up_n (by omega)).trans ((pm_up_n (by omega)).trans ((pm_up_n (by omega)).trans ((pm_up_n (by omega)).trans pm_up_s))))) rfl rfl 3 (by decide) (by decide) pm_up_s ?_
  refine pm_mem (M' := pm_up (pm_up (pm_up (pm_up (pm_up (pm_up (pm_up M (a + 1) (.inl (kA 6, 7, .inr (.inr (.inr (.inr (va_up (va_up (va_up (fun _ => none) 0 (some (z + (a + 2)))) 1 (some (z + (a + 3)))) 2 (some (z + (a + 4)))))))))) a (.inr (8, [.ref (z + (a + 1)), .null, .int 0, .int 0, .int 0, .int 0, .int 0, .int 0, .int 0]))) (a + 2) (.inr (4, [.int 0, .int 0, .int 0, .int 0, .int 0, .int 0]))) (a + 3) (.inr (4, [.int 0, .int 0, .int 0, .int 0, .int 0, .int 0]))) (a + 4) (.inr (4, [.int 0, .int 0, .int 0, .int 0, .int 0, .int 0]))) (a + 5) (.inr (4, [.int 0, .int 0, .int 0, .int 0, .int 0, .int 0]))) (a + 1) (.inl (kA 6, 7, .inr (.inr (.inr (.inr (va_up (va_up (va_up (va_up (fun _ => none) 0 (some (z + (a + 2)))) 1 (some (z + (a + 3)))) 2 (some (z + (a + 4)))) 3 (some (z + (a + 5)))))))))) rfl ?_
  refine pm_mem (M' := pm_up (pm_up (pm_up (pm_up (pm_up (pm_up M (a + 1) (.inl (kA 6, 7, .inr (.inr (.inr (.inr (va_up (va_up (va_up (va_up (fun _ => none) 0 (some (z + (a + 2)))) 1 (some (z + (a + 3)))) 2 (some (z + (a + 4)))) 3 (some (z + (a + 5)))))))))) a (.inr (8, [.ref (z + (a + 1)), .null, .int 0, .int 0, .int 0, .int 0, .int 0, .int 0, .int 0]))) (a + 2) (.inr (4, [.int 0, .int 0, .int 0, .int 0, .int 0, .int 0]))) (a + 3) (.inr (4, [.int 0, .int 0, .int 0, .int 0, .int 0, .int 0]))) (a + 4) (.inr (4, [.int 0, .int 0, .int 0, .int 0, .int 0, .int 0]))) (a + 5) (.inr (4, [.int 0, .int 0, .int 0, .int 0, .int 0, .int 0]))) (by rw [pm_up_sw (a := a + 5) (b := a + 1) (by omega), pm_up_sw (a := a + 4) (b := a + 1) (by omega), pm_up_sw (a := a + 3) (b := a + 1) (by omega), pm_up_sw (a := a + 2) (b := a + 1) (by omega), pm_up_sw (a := a) (b := a + 1) (by omega), pm_up_up]) ?_
  refine pm_iinc B dX10_init_37 rfl rfl rfl ?_
  refine pm_loc (L' := [some (.ref (z + a)), some (.int 4)]) (by rw [show (3 : Int32) + Int32.ofInt 1 = 4 from by decide]; rfl) ?_
  refine pm_goto (tgt := 15) B dX10_init_40 (by decide) ?_
  refine pm_iload_n B dX10_init_15 rfl ?_
  refine pm_aload_n B dX10_init_16 rfl ?_
  refine pm_get B dX10_init_17 fl_X10_11 ((pm_up_n (by omega)).trans ((pm_up_n (by omega)).trans ((pm_up_n (by omega)).trans ((pm_up_n (by omega)).trans pm_up_s)))) rfl ?_
  refine pm_alen B dX10_init_20 ((pm_up_n (by omega)).trans ((pm_up_n (by omega)).trans ((pm_up_n (by omega)).trans ((pm_up_n (by omega)).trans ((pm_up_n (by omega)).trans pm_up_s))))) rfl rfl ?_
  refine pm_stk (st' := [.int (nI 7), .int 4]) rfl ?_
  refine pm_icmp_ge (tgt := 43) B dX10_init_21 (by decide) (fun hq5 => absurd hq5 (by decide)) (fun hq5 => ?_)
  refine pm_aload_n B dX10_init_24 rfl ?_
  refine pm_get B dX10_init_25 fl_X10_11 ((pm_up_n (by omega)).trans ((pm_up_n (by omega)).trans ((pm_up_n (by omega)).trans ((pm_up_n (by omega)).trans pm_up_s)))) rfl ?_
  refine pm_iload_n B dX10_init_28 rfl ?_
  refine pm_new (n0 := 6) B dX10_init_29 nw_X10_9 rfl (by decide) (by decide) ?_
  refine pm_mem (M' := pm_up (pm_up (pm_up (pm_up (pm_up (pm_up (pm_up M (a + 1) (.inl (kA 6, 7, .inr (.inr (.inr (.inr (va_up (va_up (va_up (va_up (fun _ => none) 0 (some (z + (a + 2)))) 1 (some (z + (a + 3)))) 2 (some (z + (a + 4)))) 3 (some (z + (a + 5)))))))))) a (.inr (8, [.ref (z + (a + 1)), .null, .int 0, .int 0, .int 0, .int 0, .int 0, .int 0, .int 0]))) (a + 2) (.inr (4, [.int 0, .int 0, .int 0, .int 0, .int 0, .int 0]))) (a + 3) (.inr (4, [.int 0, .int 0, .int 0, .int 0, .int 0, .int 0]))) (a + 4) (.inr (4, [.int 0, .int 0, .int 0, .int 0, .int 0, .int 0]))) (a + 5) (.inr (4, [.int 0, .int 0, .int 0, .int 0, .int 0, .int 0]))) (a + 6) (.inr (4, [.int 0, .int 0, .int 0, .int 0, .int 0, .int 0]))) rfl ?_
  refine pm_stk (st' := [.ref (z + (a + 6)), .int 4, .ref (z + (a + 1))]) rfl ?_
  refine pm_dup B dX10_init_32 rfl ?_
  refine pm_cIN (As := []) (mc2 := 0) (ms2 := 0) B rfl c_X6_init mt_X6_init si_X10_17 dX10_init_33 rfl rfl rfl rfl rfl ?_
  refine pm_stk (st' := [.ref (z + (a + 6)), .int 4, .ref (z + (a + 1))]) rfl ?_
  refine pm_aast_n (t0 := 6) B dX10_init_36 ((pm_up_n (by omega)).trans ((pm_up_n (by omega)).trans ((pm_up_n (by omega)).trans ((pm_up_n (by omega)).trans ((pm_up_n (by omega)).trans ((pm_up_n (by omega)).trans pm_up_s)))))) rfl rfl 4 (by decide) (by decide) pm_up_s ?_
  refine pm_mem (M' := pm_up (pm_up (pm_up (pm_up (pm_up (pm_up (pm_up (pm_up M (a + 1) (.inl (kA 6, 7, .inr (.inr (.inr (.inr (va_up (va_up (va_up (va_up (fun _ => none) 0 (some (z + (a + 2)))) 1 (some (z + (a + 3)))) 2 (some (z + (a + 4)))) 3 (some (z + (a + 5)))))))))) a (.inr (8, [.ref (z + (a + 1)), .null, .int 0, .int 0, .int 0, .int 0, .int 0, .int 0, .int 0]))) (a + 2) (.inr (4, [.int 0, .int 0, .int 0, .int 0, .int 0, .int 0]))) (a + 3) (.inr (4, [.int 0, .int 0, .int 0, .int 0, .int 0, .int 0]))) (a + 4) (.inr (4, [.int 0, .int 0, .int 0, .int 0, .int 0, .int 0]))) (a + 5) (.inr (4, [.int 0, .int 0, .int 0, .int 0, .int 0, .int 0]))) (a + 6) (.inr (4, [.int 0, .int 0, .int 0, .int 0, .int 0, .int 0]))) (a + 1) (.inl (kA 6, 7, .inr (.inr (.inr (.inr (va_up (va_up (va_up (va_up (va_up (fun _ => none) 0 (some (z + (a + 2)))) 1 (some (z + (a + 3)))) 2 (some (z + (a + 4)))) 3 (some (z + (a + 5)))) 4 (some (z + (a + 6)))))))))) rfl ?_
  refine pm_mem (M' := pm_up (pm_up (pm_up (pm_up (pm_up (pm_up (pm_up M (a + 1) (.inl (kA 6, 7, .inr (.inr (.inr (.inr (va_up (va_up (va_up (va_up (va_up (fun _ => none) 0 (some (z + (a + 2)))) 1 (some (z + (a + 3)))) 2 (some (z + (a + 4)))) 3 (some (z + (a + 5)))) 4 (some (z + (a + 6)))))))))) a (.inr (8, [.ref (z + (a + 1)), .null, .int 0, .int 0, .int 0, .int 0, .int 0, .int 0, .int 0]))) (a + 2) (.inr (4, [.int 0, .int 0, .int 0, .int 0, .int 0, .int 0]))) (a + 3) (.inr (4, [.int 0, .int 0, .int 0, .int 0, .int 0, .int 0]))) (a + 4) (.inr (4, [.int 0, .int 0, .int 0, .int 0, .int 0, .int 0]))) (a + 5) (.inr (4, [.int 0, .int 0, .int 0, .int 0, .int 0, .int 0]))) (a + 6) (.inr (4, [.int 0, .int 0, .int 0, .int 0, .int 0, .int 0]))) (by rw [pm_up_sw (a := a + 6) (b := a + 1) (by omega), pm_up_sw (a := a + 5) (b := a + 1) (by omega), pm_up_sw (a := a + 4) (b := a + 1) (by omega), pm_up_sw (a := a + 3) (b := a + 1) (by omega), pm_up_sw (a := a + 2) (b := a + 1) (by omega), pm_up_sw (a := a) (b := a + 1) (by omega), pm_up_up]) ?_
  refine pm_iinc B dX10_init_37 rfl rfl rfl ?_
  refine pm_loc (L' := [some (.ref (z + a)), some (.int 5)]) (by rw [show (4 : Int32) + Int32.ofInt 1 = 5 from by decide]; rfl) ?_
  refine pm_goto (tgt := 15) B dX10_init_40 (by decide) ?_
  refine pm_iload_n B dX10_init_15 rfl ?_
  refine pm_aload_n B dX10_init_16 rfl ?_
  refine pm_get B dX10_init_17 fl_X10_11 ((pm_up_n (by omega)).trans ((pm_up_n (by omega)).trans ((pm_up_n (by omega)).trans ((pm_up_n (by omega)).trans ((pm_up_n (by omega)).trans pm_up_s))))) rfl ?_
  refine pm_alen B dX10_init_20 ((pm_up_n (by omega)).trans ((pm_up_n (by omega)).trans ((pm_up_n (by omega)).trans ((pm_up_n (by omega)).trans ((pm_up_n (by omega)).trans ((pm_up_n (by omega)).trans pm_up_s)))))) rfl rfl ?_
  refine pm_stk (st' := [.int (nI 7), .int 5]) rfl ?_
  refine pm_icmp_ge (tgt := 43) B dX10_init_21 (by decide) (fun hq6 => absurd hq6 (by decide)) (fun hq6 => ?_)
  refine pm_aload_n B dX10_init_24 rfl ?_
  refine pm_get B dX10_init_25 fl_X10_11 ((pm_up_n (by omega)).trans ((pm_up_n (by omega)).trans ((pm_up_n (by omega)).trans ((pm_up_n (by omega)).trans ((pm_up_n (by omega)).trans pm_up_s))))) rfl ?_
  refine pm_iload_n B dX10_init_28 rfl ?_
  refine pm_new (n0 := 6) B dX10_init_29 nw_X10_9 rfl (by decide) (by decide) ?_
  refine pm_mem (M' := pm_up (pm_up (pm_up (pm_up (pm_up (pm_up (pm_up (pm_up M (a + 1) (.inl (kA 6, 7, .inr (.inr (.inr (.inr (va_up (va_up (va_up (va_up (va_up (fun _ => none) 0 (some (z + (a + 2)))) 1 (some (z + (a + 3)))) 2 (some (z + (a + 4)))) 3 (some (z + (a + 5)))) 4 (some (z + (a + 6)))))))))) a (.inr (8, [.ref (z + (a + 1)), .null, .int 0, .int 0, .int 0, .int 0, .int 0, .int 0, .int 0]))) (a + 2) (.inr (4, [.int 0, .int 0, .int 0, .int 0, .int 0, .int 0]))) (a + 3) (.inr (4, [.int 0, .int 0, .int 0, .int 0, .int 0, .int 0]))) (a + 4) (.inr (4, [.int 0, .int 0, .int 0, .int 0, .int 0, .int 0]))) (a + 5) (.inr (4, [.int 0, .int 0, .int 0, .int 0, .int 0, .int 0]))) (a + 6) (.inr (4, [.int 0, .int 0, .int 0, .int 0, .int 0, .int 0]))) (a + 7) (.inr (4, [.int 0, .int 0, .int 0, .int 0, .int 0, .int 0]))) rfl ?_
  refine pm_stk (st' := [.ref (z + (a + 7)), .int 5, .ref (z + (a + 1))]) rfl ?_
  refine pm_dup B dX10_init_32 rfl ?_
  refine pm_cIN (As := []) (mc2 := 0) (ms2 := 0) B rfl c_X6_init mt_X6_init si_X10_17 dX10_init_33 rfl rfl rfl rfl rfl ?_
  refine pm_stk (st' := [.ref (z + (a + 7)), .int 5, .ref (z + (a + 1))]) rfl ?_
  refine pm_aast_n (t0 := 6) B dX10_init_36 ((pm_up_n (by omega)).trans ((pm_up_n (by omega)).trans ((pm_up_n (by omega)).trans ((pm_up_n (by omega)).trans ((pm_up_n (by omega)).trans ((pm_up_n (by omega)).trans ((pm_up_n (by omega)).trans pm_up_s))))))) rfl rfl 5 (by decide) (by decide) pm_up_s ?_
  refine pm_mem (M' := pm_up (pm_up (pm_up (pm_up (pm_up (pm_up (pm_up (pm_up (pm_up M (a + 1) (.inl (kA 6, 7, .inr (.inr (.inr (.inr (va_up (va_up (va_up (va_up (va_up (fun _ => none) 0 (some (z + (a + 2)))) 1 (some (z + (a + 3)))) 2 (some (z + (a + 4)))) 3 (some (z + (a + 5)))) 4 (some (z + (a + 6)))))))))) a (.inr (8, [.ref (z + (a + 1)), .null, .int 0, .int 0, .int 0, .int 0, .int 0, .int 0, .int 0]))) (a + 2) (.inr (4, [.int 0, .int 0, .int 0, .int 0, .int 0, .int 0]))) (a + 3) (.inr (4, [.int 0, .int 0, .int 0, .int 0, .int 0, .int 0]))) (a + 4) (.inr (4, [.int 0, .int 0, .int 0, .int 0, .int 0, .int 0]))) (a + 5) (.inr (4, [.int 0, .int 0, .int 0, .int 0, .int 0, .int 0]))) (a + 6) (.inr (4, [.int 0, .int 0, .int 0, .int 0, .int 0, .int 0]))) (a + 7) (.inr (4, [.int 0, .int 0, .int 0, .int 0, .int 0, .int 0]))) (a + 1) (.inl (kA 6, 7, .inr (.inr (.inr (.inr (va_up (va_up (va_up (va_up (va_up (va_up (fun _ => none) 0 (some (z + (a + 2)))) 1 (some (z + (a + 3)))) 2 (some (z + (a + 4)))) 3 (some (z + (a + 5)))) 4 (some (z + (a + 6)))) 5 (some (z + (a + 7)))))))))) rfl ?_
  refine pm_mem (M' := pm_up (pm_up (pm_up (pm_up (pm_up (pm_up (pm_up (pm_up M (a + 1) (.inl (kA 6, 7, .inr (.inr (.inr (.inr (va_up (va_up (va_up (va_up (va_up (va_up (fun _ => none) 0 (some (z + (a + 2)))) 1 (some (z + (a + 3)))) 2 (some (z + (a + 4)))) 3 (some (z + (a + 5)))) 4 (some (z + (a + 6)))) 5 (some (z + (a + 7)))))))))) a (.inr (8, [.ref (z + (a + 1)), .null, .int 0, .int 0, .int 0, .int 0, .int 0, .int 0, .int 0]))) (a + 2) (.inr (4, [.int 0, .int 0, .int 0, .int 0, .int 0, .int 0]))) (a + 3) (.inr (4, [.int 0, .int 0, .int 0, .int 0, .int 0, .int 0]))) (a + 4) (.inr (4, [.int 0, .int 0, .int 0, .int 0, .int 0, .int 0]))) (a + 5) (.inr (4, [.int 0, .int 0, .int 0, .int 0, .int 0, .int 0]))) (a + 6) (.inr (4, [.int 0, .int 0, .int 0, .int 0, .int 0, .int 0]))) (a + 7) (.inr (4, [.int 0, .int 0, .int 0, .int 0, .int 0, .int 0]))) (by rw [pm_up_sw (a := a + 7) (b := a + 1) (by omega), pm_up_sw (a := a + 6) (b := a + 1) (by omega), pm_up_sw (a := a + 5) (b := a + 1) (by omega), pm_up_sw (a := a + 4) (b := a + 1) (by omega), pm_up_sw (a := a + 3) (b := a + 1) (by omega), pm_up_sw (a := a + 2) (b := a + 1) (by omega), pm_up_sw (a := a) (b := a + 1) (by omega), pm_up_up]) ?_
  refine pm_iinc B dX10_init_37 rfl rfl rfl ?_
  refine pm_loc (L' := [some (.ref (z + a)), some (.int 6)]) (by rw [show (5 : Int32) + Int32.ofInt 1 = 6 from by decide]; rfl) ?_
  refine pm_goto (tgt := 15) B dX10_init_40 (by decide) ?_
  refine pm_iload_n B dX10_init_15 rfl ?_
  refine pm_aload_n B dX10_init_16 rfl ?_
  refine pm_get B dX10_init_17 fl_X10_11 ((pm_up_n (by omega)).trans ((pm_up_n (by omega)).trans ((pm_up_n (by omega)).trans ((pm_up_n (by omega)).trans ((pm_up_n (by omega)).trans ((pm_up_n (by omega)).trans pm_up_s)))))) rfl ?_
  refine pm_alen B dX10_init_20 ((pm_up_n (by omega)).trans ((pm_up_n (by omega)).trans ((pm_up_n (by omega)).trans ((pm_up_n (by omega)).trans ((pm_up_n (by omega)).trans ((pm_up_n (by omega)).trans ((pm_up_n (by omega)).trans pm_up_s))))))) rfl rfl ?_
  refine pm_stk (st' := [.int (nI 7), .int 6]) rfl ?_
  refine pm_icmp_ge (tgt := 43) B dX10_init_21 (by decide) (fun hq7 => absurd hq7 (by decide)) (fun hq7 => ?_)
  refine pm_aload_n B dX10_init_24 rfl ?_
  refine pm_get B dX10_init_25 fl_X10_11 ((pm_up_n (by omega)).trans ((pm_up_n (by omega)).trans ((pm_up_n (by omega)).trans ((pm_up_n (by omega)).trans ((pm_up_n (by omega)).trans ((pm_up_n (by omega)).trans pm_up_s)))))) rfl ?_
  refine pm_iload_n B dX10_init_28 rfl ?_
  refine pm_new (n0 := 6) B dX10_init_29 nw_X10_9 rfl (by decide) (by decide) ?_
  refine pm_mem (M' := pm_up (pm_up (pm_up (pm_up (pm_up (pm_up (pm_up (pm_up (pm_up M (a + 1) (.inl (kA 6, 7, .inr (.inr (.inr (.inr (va_up (va_up (va_up (va_up (va_up (va_up (fun _ => none) 0 (some (z + (a + 2)))) 1 (some (z + (a + 3)))) 2 (some (z + (a + 4)))) 3 (some (z + (a + 5)))) 4 (some (z + (a + 6)))) 5 (some (z + (a + 7)))))))))) a (.inr (8, [.ref (z + (a + 1)), .null, .int 0, .int 0, .int 0, .int 0, .int 0, .int 0, .int 0]))) (a + 2) (.inr (4, [.int 0, .int 0, .int 0, .int 0, .int 0, .int 0]))) (a + 3) (.inr (4, [.int 0, .int 0, .int 0, .int 0, .int 0, .int 0]))) (a + 4) (.inr (4, [.int 0, .int 0, .int 0, .int 0, .int 0, .int 0]))) (a + 5) (.inr (4, [.int 0, .int 0, .int 0, .int 0, .int 0, .int 0]))) (a + 6) (.inr (4, [.int 0, .int 0, .int 0, .int 0, .int 0, .int 0]))) (a + 7) (.inr (4, [.int 0, .int 0, .int 0, .int 0, .int 0, .int 0]))) (a + 8) (.inr (4, [.int 0, .int 0, .int 0, .int 0, .int 0, .int 0]))) rfl ?_
  refine pm_stk (st' := [.ref (z + (a + 8)), .int 6, .ref (z + (a + 1))]) rfl ?_
  refine pm_dup B dX10_init_32 rfl ?_
  refine pm_cIN (As := []) (mc2 := 0) (ms2 := 0) B rfl c_X6_init mt_X6_init si_X10_17 dX10_init_33 rfl rfl rfl rfl rfl ?_
  refine pm_stk (st' := [.ref (z + (a + 8)), .int 6, .ref (z + (a + 1))]) rfl ?_
  refine pm_aast_n (t0 := 6) B dX10_init_36 ((pm_up_n (by omega)).trans ((pm_up_n (by omega)).trans ((pm_up_n (by omega)).trans ((pm_up_n (by omega)).trans ((pm_up_n (by omega)).trans ((pm_up_n (by omega)).trans ((pm_up_n (by omega)).trans ((pm_up_n (by omega)).trans pm_up_s)))))))) rfl rfl 6 (by decide) (by decide) pm_up_s ?_
  refine pm_mem (M' := pm_up (pm_up (pm_up (pm_up (pm_up (pm_up (pm_up (pm_up (pm_up (pm_up M (a + 1) (.inl (kA 6, 7, .inr (.inr (.inr (.inr (va_up (va_up (va_up (va_up (va_up (va_up (fun _ => none) 0 (some (z + (a + 2)))) 1 (some (z + (a + 3)))) 2 (some (z + (a + 4)))) 3 (some (z + (a + 5)))) 4 (some (z + (a + 6)))) 5 (some (z + (a + 7)))))))))) a (.inr (8, [.ref (z + (a + 1)), .null, .int 0, .int 0, .int 0, .int 0, .int 0, .int 0, .int 0]))) (a + 2) (.inr (4, [.int 0, .int 0, .int 0, .int 0, .int 0, .int 0]))) (a + 3) (.inr (4, [.int 0, .int 0, .int 0, .int 0, .int 0, .int 0]))) (a + 4) (.inr (4, [.int 0, .int 0, .int 0, .int 0, .int 0, .int 0]))) (a + 5) (.inr (4, [.int 0, .int 0, .int 0, .int 0, .int 0, .int 0]))) (a + 6) (.inr (4, [.int 0, .int 0, .int 0, .int 0, .int 0, .int 0]))) (a + 7) (.inr (4, [.int 0, .int 0, .int 0, .int 0, .int 0, .int 0]))) (a + 8) (.inr (4, [.int 0, .int 0, .int 0, .int 0, .int 0, .int 0]))) (a + 1) (.inl (kA 6, 7, .inr (.inr (.inr (.inr (va_up (va_up (va_up (va_up (va_up (va_up (va_up (fun _ => none) 0 (some (z + (a + 2)))) 1 (some (z + (a + 3)))) 2 (some (z + (a + 4)))) 3 (some (z + (a + 5)))) 4 (some (z + (a + 6)))) 5 (some (z + (a + 7)))) 6 (some (z + (a + 8)))))))))) rfl ?_
  refine pm_mem (M' := pm_up (pm_up (pm_up (pm_up (pm_up (pm_up (pm_up (pm_up (pm_up M (a + 1) (.inl (kA 6, 7, .inr (.inr (.inr (.inr (va_up (va_up (va_up (va_up (va_up (va_up (va_up (fun _ => none) 0 (some (z + (a + 2)))) 1 (some (z + (a + 3)))) 2 (some (z + (a + 4)))) 3 (some (z + (a + 5)))) 4 (some (z + (a + 6)))) 5 (some (z + (a + 7)))) 6 (some (z + (a + 8)))))))))) a (.inr (8, [.ref (z + (a + 1)), .null, .int 0, .int 0, .int 0, .int 0, .int 0, .int 0, .int 0]))) (a + 2) (.inr (4, [.int 0, .int 0, .int 0, .int 0, .int 0, .int 0]))) (a + 3) (.inr (4, [.int 0, .int 0, .int 0, .int 0, .int 0, .int 0]))) (a + 4) (.inr (4, [.int 0, .int 0, .int 0, .int 0, .int 0, .int 0]))) (a + 5) (.inr (4, [.int 0, .int 0, .int 0, .int 0, .int 0, .int 0]))) (a + 6) (.inr (4, [.int 0, .int 0, .int 0, .int 0, .int 0, .int 0]))) (a + 7) (.inr (4, [.int 0, .int 0, .int 0, .int 0, .int 0, .int 0]))) (a + 8) (.inr (4, [.int 0, .int 0, .int 0, .int 0, .int 0, .int 0]))) (by rw [pm_up_sw (a := a + 8) (b := a + 1) (by omega), pm_up_sw (a := a + 7) (b := a + 1) (by omega), pm_up_sw (a := a + 6) (b := a + 1) (by omega), pm_up_sw (a := a + 5) (b := a + 1) (by omega), pm_up_sw (a := a + 4) (b := a + 1) (by omega), pm_up_sw (a := a + 3) (b := a + 1) (by omega), pm_up_sw (a := a + 2) (b := a + 1) (by omega), pm_up_sw (a := a) (b := a + 1) (by omega), pm_up_up]) ?_
  refine pm_iinc B dX10_init_37 rfl rfl rfl ?_
  refine pm_loc (L' := [some (.ref (z + a)), some (.int 7)]) (by rw [show (6 : Int32) + Int32.ofInt 1 = 7 from by decide]; rfl) ?_
  refine pm_goto (tgt := 15) B dX10_init_40 (by decide) ?_
  refine pm_iload_n B dX10_init_15 rfl ?_
  refine pm_aload_n B dX10_init_16 rfl ?_
  refine pm_get B dX10_init_17 fl_X10_11 ((pm_up_n (by omega)).trans ((pm_up_n (by omega)).trans ((pm_up_n (by omega)).trans ((pm_up_n (by omega)).trans ((pm_up_n (by omega)).trans ((pm_up_n (by omega)).trans ((pm_up_n (by omega)).trans pm_up_s))))))) rfl ?_
  refine pm_alen B dX10_init_20 ((pm_up_n (by omega)).trans ((pm_up_n (by omega)).trans ((pm_up_n (by omega)).trans ((pm_up_n (by omega)).trans ((pm_up_n (by omega)).trans ((pm_up_n (by omega)).trans ((pm_up_n (by omega)).trans ((pm_up_n (by omega)).trans pm_up_s)))))))) rfl rfl ?_
  refine pm_stk (st' := [.int (nI 7), .int 7]) rfl ?_
  refine pm_icmp_ge (tgt := 43) B dX10_init_21 (by decide) (fun hq8 => ?_) (fun hq8 => absurd (by decide) hq8)
  refine pm_aload_n B dX10_init_43 rfl ?_
  refine pm_new (n0 := 1) B dX10_init_44 nw_X10_18 rfl (by decide) (by decide) ?_
  refine pm_mem (M' := pm_up (pm_up (pm_up (pm_up (pm_up (pm_up (pm_up (pm_up (pm_up (pm_up M (a + 1) (.inl (kA 6, 7, .inr (.inr (.inr (.inr (va_up (va_up (va_up (va_up (va_up (va_up (va_up (fun _ => none) 0 (some (z + (a + 2)))) 1 (some (z + (a + 3)))) 2 (some (z + (a + 4)))) 3 (some (z + (a + 5)))) 4 (some (z + (a + 6)))) 5 (some (z + (a + 7)))) 6 (some (z + (a + 8)))))))))) a (.inr (8, [.ref (z + (a + 1)), .null, .int 0, .int 0, .int 0, .int 0, .int 0, .int 0, .int 0]))) (a + 2) (.inr (4, [.int 0, .int 0, .int 0, .int 0, .int 0, .int 0]))) (a + 3) (.inr (4, [.int 0, .int 0, .int 0, .int 0, .int 0, .int 0]))) (a + 4) (.inr (4, [.int 0, .int 0, .int 0, .int 0, .int 0, .int 0]))) (a + 5) (.inr (4, [.int 0, .int 0, .int 0, .int 0, .int 0, .int 0]))) (a + 6) (.inr (4, [.int 0, .int 0, .int 0, .int 0, .int 0, .int 0]))) (a + 7) (.inr (4, [.int 0, .int 0, .int 0, .int 0, .int 0, .int 0]))) (a + 8) (.inr (4, [.int 0, .int 0, .int 0, .int 0, .int 0, .int 0]))) (a + 9) (.inr (3, [.null]))) rfl ?_
  refine pm_stk (st' := [.ref (z + (a + 9)), .ref (z + a)]) rfl ?_
  refine pm_dup B dX10_init_47 rfl ?_
  refine pm_cINx (As := []) (mc2 := 1) (ms2 := 7) B rfl (c_X5_init pm_up_s) mt_X5_init si_X10_20 dX10_init_48 rfl rfl rfl rfl rfl (fun ov1 n1 M1 hP1 => ?_)
  obtain ⟨rfl, rfl, r1_0, r1_1, hk1⟩ := hP1
  refine pm_stk (st' := [.ref (z + (a + 9)), .ref (z + a)]) rfl ?_
  refine pm_putF B dX10_init_51 ff_X10_21 rfl ((hk1 _ (by omega)).trans ((pm_up_n (by omega)).trans ((pm_up_n (by omega)).trans ((pm_up_n (by omega)).trans ((pm_up_n (by omega)).trans ((pm_up_n (by omega)).trans ((pm_up_n (by omega)).trans ((pm_up_n (by omega)).trans ((pm_up_n (by omega)).trans pm_up_s))))))))) rfl rfl rfl ?_
  refine pm_mem (M' := pm_up M1 a (.inr (8, [.ref (z + (a + 1)), .ref (z + (a + 9)), .int 0, .int 0, .int 0, .int 0, .int 0, .int 0, .int 0]))) rfl ?_
  refine pm_aload_n B dX10_init_54 rfl ?_
  refine pm_bipush (v := 10) B dX10_init_55 (by decide) ?_
  refine pm_put B dX10_init_57 fs_X10_25 pm_up_s rfl rfl rfl ?_
  refine pm_mem (M' := pm_up M1 a (.inr (8, [.ref (z + (a + 1)), .ref (z + (a + 9)), .int 0, .int 0, .int 0, .int 10, .int 0, .int 0, .int 0]))) pm_up_up ?_
  exact pm_return B dX10_init_60 rfl ⟨none, rfl, rfl, rfl, ⟨pm_up_s, (by rw [← pm_mr_v]; exact ((pm_up_n (by omega)).trans ((hk1 _ (by omega)).trans ((pm_up_n (by omega)).trans ((pm_up_n (by omega)).trans ((pm_up_n (by omega)).trans ((pm_up_n (by omega)).trans ((pm_up_n (by omega)).trans ((pm_up_n (by omega)).trans ((pm_up_n (by omega)).trans ((pm_up_n (by omega)).trans ((pm_up_n (by omega)).trans pm_up_s)))))))))))), fun i hi => (match i, hi with | 0, _ => ((pm_up_n (by omega)).trans ((hk1 _ (by omega)).trans ((pm_up_n (by omega)).trans ((pm_up_n (by omega)).trans ((pm_up_n (by omega)).trans ((pm_up_n (by omega)).trans ((pm_up_n (by omega)).trans ((pm_up_n (by omega)).trans ((pm_up_n (by omega)).trans pm_up_s))))))))) | 1, _ => ((pm_up_n (by omega)).trans ((hk1 _ (by omega)).trans ((pm_up_n (by omega)).trans ((pm_up_n (by omega)).trans ((pm_up_n (by omega)).trans ((pm_up_n (by omega)).trans ((pm_up_n (by omega)).trans ((pm_up_n (by omega)).trans pm_up_s)))))))) | 2, _ => ((pm_up_n (by omega)).trans ((hk1 _ (by omega)).trans ((pm_up_n (by omega)).trans ((pm_up_n (by omega)).trans ((pm_up_n (by omega)).trans ((pm_up_n (by omega)).trans ((pm_up_n (by omega)).trans pm_up_s))))))) | 3, _ => ((pm_up_n (by omega)).trans ((hk1 _ (by omega)).trans ((pm_up_n (by omega)).trans ((pm_up_n (by omega)).trans ((pm_up_n (by omega)).trans ((pm_up_n (by omega)).trans pm_up_s)))))) | 4, _ => ((pm_up_n (by omega)).trans ((hk1 _ (by omega)).trans ((pm_up_n (by omega)).trans ((pm_up_n (by omega)).trans ((pm_up_n (by omega)).trans pm_up_s))))) | 5, _ => ((pm_up_n (by omega)).trans ((hk1 _ (by omega)).trans ((pm_up_n (by omega)).trans ((pm_up_n (by omega)).trans pm_up_s)))) | 6, _ => ((pm_up_n (by omega)).trans ((hk1 _ (by omega)).trans ((pm_up_n (by omega)).trans pm_up_s)))), ((pm_up_n (by omega)).trans r1_0), (by show _ = some (Sum.inl (kA 0, 7, Sum.inl (fun j => pm_r0 (49 + j))) : va_E); rw [pm_r0_49]; exact ((pm_up_n (by omega)).trans r1_1))⟩, fun x hx => ((pm_up_n (by omega)).trans ((hk1 x (by omega)).trans ((pm_up_n (by omega)).trans ((pm_up_n (by omega)).trans ((pm_up_n (by omega)).trans ((pm_up_n (by omega)).trans ((pm_up_n (by omega)).trans ((pm_up_n (by omega)).trans ((pm_up_n (by omega)).trans ((pm_up_n (by omega)).trans ((pm_up_n (by omega)).trans ((pm_up_n (by omega)).trans rfl))))))))))))⟩ rfl rfl
