/-! the class: Script -/
/-- the commands that were read: nI of a number below 11 is a command, else null -/
def pm_cf (kE : Nat → Nat) (c : Nat → Int32) : Nat → Option Nat := fun i => if pm_n (c i) < 11 then some (kE (pm_n (c i))) else none
theorem pm_cf_at {kE : Nat → Nat} {c : Nat → Int32} {i : Nat} (h : pm_n (c i) < 11) : va_rf (pm_cf kE c i) = .ref (kE (pm_n (c i))) := by rw [pm_cf, if_pos h]; rfl
theorem pm_cf_up {kE : Nat → Nat} {c : Nat → Int32} {i k : Nat} (h : k < 11) : pm_cf kE (upd c i (nI k)) = va_up (pm_cf kE c) i (some (kE k)) := by
  funext j
  by_cases hj : j = i
  · subst hj
    unfold pm_cf
    rw [pk_us, pm_n_nI (by omega), if_pos h]
    simp [va_up]
  · unfold pm_cf
    rw [pk_un hj]
    simp [va_up, hj]
section PS
variable {l : Launch} {z : Nat} {D : va_G} {kA : Nat → ClassId} {kE : Nat → Nat} {own : String} {cc : ByteArray} {nL : Nat} {ret : Option FieldType} {nm : String} {tb : List ExceptionTableEntry} {d mc ms : Nat} {X : pm_X} {cu su : Nat} {Q : State → Prop} {nx : Nat} {M : pm_M} {pc : Nat} {L : List (Option Value)} {st : List Value}
theorem pm_aastL (B : pm_B l z D kA kE own cc nL ret nm tb d mc ms X) {a n t0 v : Nat} {C : String} {f : Nat → Option Nat} (hM : M a = some (.inl (kA t0, n, .inr (.inr (.inr (.inr f)))))) (ht : (pm_tys kA)[t0]? = some (kA t0, .object C)) (hO : ∀ U H, pm_Kx z kE U H → va_O C v (fun q => z ≤ q) U H) (i : Nat) (hi : i < n) (hn : n < 2147483648) (hd : decode cc pc = .ok (.aastore, 1))
    (k : pm_G l z D X cu su Q nx (pm_up M a (.inl (kA t0, n, .inr (.inr (.inr (.inr (va_up f i (some v)))))))) (pc + 1) L st) : pm_G l z D X cu su Q nx M pc L (.ref v :: .int (nI i) :: .ref (z + a) :: st) := by
  obtain ⟨hx, hb, hml, hown, hts, hr, hlk, hK, hnm, htb, ⟨hrf, hrl, hrc, hrs⟩, hz, hcs⟩ := id B
  obtain ⟨p, e, R, s, m, args, below, meth, c⟩ := X
  intro H locs ls hR hS hl
  have hin := pm_inj hi hn
  have hcl := pm_cln hi hn
  have h0 : ¬ nI i < 0 := fun q => hin (Or.inl q)
  obtain ⟨cellV, g1, g3, g2⟩ := va_Orecv (hO _ _ hcs.2.2.2.2.1) hS
  obtain ⟨kA9, comp, k1, k2, k3, -⟩ := (hK.2 t0 _ ht).2
  obtain ⟨kE9, hkE, -⟩ := Vm.findClass_spec k3
  obtain ⟨kC, hkC, -⟩ := Vm.findClass_spec g2
  refine W.aast hx hb (hR.2 a _ hM).2 (fun q h => by cases h) (fun h => by cases h) k1 k2 rfl hkE ⟨h0, by show _ < (arrV _ _ _).slots.size; rw [arrV_size, hcl]; exact hi⟩ g1 (fun q h => by rw [h] at g3; cases g3) hkC (vb_asgS _ _ k3 g2) rfl rfl hd fun H1 e z1 oq => ?_
  refine k H1 _ ls (hR.put hM ?_ z1 oq) (hS.put z1 oq (Nat.le_add_right z a)) hl
  show H1[z + a]? = some (vp_cell _ _)
  rw [e]
  show some (Cell.setSlot (vp_cell _ _) _ _) = _
  rw [vp_cell_q, vp_cell_q, arrV_store, hcl]
  congr 2
  funext q
  by_cases hq : q = i
  · subst hq
    simp [updV, va_up, va_rf]
  · simp [updV, va_up, hq]
end PS
/-- the text's length t, the place in it -/
def pm_sx (t : Nat) (f : Nat → Int32) : Prop := f 6 = nI (pm_n (f 6)) ∧ pm_n (f 6) ≤ t ∧ f 4 = nI t
theorem pm_sx_5 {t : Nat} {f : Nat → Int32} {v : Int32} (h : pm_sx t f) : pm_sx t (upd f 5 v) := by
  unfold pm_sx
  rw [pk_un (by decide), pk_un (by decide)]
  exact h
theorem pm_sx_6 {t b : Nat} {f : Nat → Int32} (h : pm_sx t f) (ht : t ≤ 60) (hb : b ≤ t) : pm_sx t (upd f 6 (nI b)) := by
  unfold pm_sx
  rw [pk_us, pm_n_nI (by omega), pk_un (by decide)]
  exact ⟨rfl, hb, h.2.2⟩
theorem pm_pt_sb : ∀ c, c < 11 → pm_sb (pm_pt.getD c []) := by decide
theorem pm_maxN {a b : Nat} (ha : a < 2 ^ 31) (hb : b < 2 ^ 31) : pm_max (nI a) (nI b) = nI (max a b) := by
  unfold pm_max
  split
  · rename_i h; rw [nI_ltI ha hb] at h; rw [Nat.max_eq_right (by omega)]
  · rename_i h; rw [nI_ltI ha hb] at h; rw [Nat.max_eq_left (by omega)]
def d_X9_isFull (tx : Nat → Int32) (sc : Nat → Int32) : Int32 := if (sc 4) < (nI 60) then 0 else 1
set_option maxRecDepth 100000 in
set_option maxHeartbeats 8000000 in
theorem c_X9_isFull {l : Launch} {z : Nat} {D : va_G} {kA : Nat → ClassId} {kE : Nat → Nat} {nx : Nat} {M : pm_M}  {tx : Nat → Int32} {sc : Nat → Int32} (htx : M 134 = some (.inl (kA 3, 60, .inl tx))) (hsc : M 133 = some (.inr (7, [.ref (z + 134), .ref (z + 135), .ref (z + 136), .ref (z + 137), .int (sc 4), .int (sc 5), .int (sc 6)]))) : pm_C l z D kA kE yX9_isFull cX9_isFull 1 (some .boolean) 0 0 0 [.ref (z + 133)] nx M (pm_rt (some (.int (d_X9_isFull tx sc))) nx M) := by
  refine pm_mk (own := RX9) (nm := "isFull") mt_X9_isFull rfl rfl rfl rfl fun X B => ?_
  refine pm_loc (L' := [some (.ref (z + 133))]) rfl ?_
  refine pm_aload_n B dX9_isFull_0 rfl ?_
  refine pm_get B dX9_isFull_1 fl_X9_26 hsc rfl ?_
  refine pm_stk (st' := [.int (sc 4)]) rfl ?_
  refine pm_aload_n B dX9_isFull_4 rfl ?_
  refine pm_get B dX9_isFull_5 fl_X9_9 hsc rfl ?_
  refine pm_alen B dX9_isFull_8 htx rfl rfl ?_
  refine pm_stk (st' := [.int (nI 60), .int (sc 4)]) rfl ?_
  refine pm_icmp_lt (tgt := 16) B dX9_isFull_9 (by decide) (fun hq1 => ?_) (fun hq1 => ?_)
  · refine pm_iconst (v := 0) B dX9_isFull_16 (by decide) ?_
    have hDq2 : (d_X9_isFull tx sc) = 0 := by rw [d_X9_isFull, if_pos hq1]
    exact pm_ireturn B dX9_isFull_17 rfl (by first | rfl | (apply pm_nz; first | assumption | decide | exact pm_in01 _ _ _ | simp)) ⟨(by rw [hDq2]), rfl, rfl⟩ rfl rfl
  · refine pm_iconst (v := 1) B dX9_isFull_12 (by decide) ?_
    refine pm_goto (tgt := 17) B dX9_isFull_13 (by decide) ?_
    have hDq3 : (d_X9_isFull tx sc) = 1 := by rw [d_X9_isFull, if_neg hq1]
    exact pm_ireturn B dX9_isFull_17 rfl (by first | rfl | (apply pm_nz; first | assumption | decide | exact pm_in01 _ _ _ | simp)) ⟨(by rw [hDq3]), rfl, rfl⟩ rfl rfl
def d_X9_append (x : Int32) (t : Nat) (tx : Nat → Int32) (sc : Nat → Int32) : (Int32 × (Nat → Int32) × (Nat → Int32)) := if (nI 60) ≤ (nI t) then ((nI t), tx, sc) else ((nI (t + 1)), (upd tx t (vp_nar .char x)), (upd sc 4 (nI (t + 1))))
set_option maxRecDepth 100000 in
set_option maxHeartbeats 8000000 in
theorem c_X9_append {l : Launch} {z : Nat} {D : va_G} {kA : Nat → ClassId} {kE : Nat → Nat} {nx : Nat} {M : pm_M} {x : Int32} {t : Nat} {tx : Nat → Int32} {sc : Nat → Int32} (htx : M 134 = some (.inl (kA 3, 60, .inl tx))) (hsc : M 133 = some (.inr (7, [.ref (z + 134), .ref (z + 135), .ref (z + 136), .ref (z + 137), .int (sc 4), .int (sc 5), .int (sc 6)]))) (hl4 : sc 4 = nI t) (ht : t ≤ 60) : pm_C l z D kA kE yX9_append cX9_append 2 (some .int) 0 0 0 [.ref (z + 133), .int x] nx M (pm_rt (some (.int ((d_X9_append x t tx sc).1))) nx (pm_up (pm_up M 134 (.inl (kA 3, 60, .inl ((d_X9_append x t tx sc).2.1)))) 133 (.inr (7, [.ref (z + 134), .ref (z + 135), .ref (z + 136), .ref (z + 137), .int (((d_X9_append x t tx sc).2.2) 4), .int (((d_X9_append x t tx sc).2.2) 5), .int (((d_X9_append x t tx sc).2.2) 6)])))) := by
  refine pm_mk (own := RX9) (nm := "append") mt_X9_append rfl rfl rfl rfl fun X B => ?_
  refine pm_loc (L' := [some (.ref (z + 133)), some (.int x)]) rfl ?_
  refine pm_mem (M' := pm_up (pm_up M 134 (.inl (kA 3, 60, .inl tx))) 133 (.inr (7, [.ref (z + 134), .ref (z + 135), .ref (z + 136), .ref (z + 137), .int (sc 4), .int (sc 5), .int (sc 6)]))) (by rw [pm_up_id htx, pm_up_id hsc]) ?_
  refine pm_aload_n B dX9_append_0 rfl ?_
  refine pm_get B dX9_append_1 fl_X9_26 pm_up_s rfl ?_
  refine pm_stk (st' := [.int (sc 4)]) rfl ?_
  refine pm_stk (st' := [.int (nI t)]) (by rw [show (sc 4) = (nI t) from by rw [hl4]]) ?_
  refine pm_aload_n B dX9_append_4 rfl ?_
  refine pm_get B dX9_append_5 fl_X9_9 pm_up_s rfl ?_
  refine pm_alen B dX9_append_8 ((pm_up_n (by omega)).trans pm_up_s) rfl rfl ?_
  refine pm_stk (st' := [.int (nI 60), .int (nI t)]) rfl ?_
  refine pm_icmp_ge (tgt := 32) B dX9_append_9 (by decide) (fun hq1 => ?_) (fun hq1 => ?_)
  · refine pm_aload_n B dX9_append_32 rfl ?_
    refine pm_get B dX9_append_33 fl_X9_26 pm_up_s rfl ?_
    refine pm_stk (st' := [.int (sc 4)]) rfl ?_
    refine pm_stk (st' := [.int (nI t)]) (by rw [show (sc 4) = (nI t) from by rw [hl4]]) ?_
    have hDq2 : (d_X9_append x t tx sc) = ((nI t), tx, sc) := by rw [d_X9_append, if_pos hq1]
    exact pm_ireturn B dX9_append_36 rfl (by first | rfl | (apply pm_nz; first | assumption | decide | exact pm_in01 _ _ _ | simp)) ⟨(by rw [hDq2]), rfl, by rw [hDq2]⟩ rfl rfl
  · have ht6 : t < 60 := by have hh := hq1; rw [nI_leI (by decide) (by omega)] at hh; omega
    refine pm_aload_n B dX9_append_12 rfl ?_
    refine pm_get B dX9_append_13 fl_X9_9 pm_up_s rfl ?_
    refine pm_aload_n B dX9_append_16 rfl ?_
    refine pm_get B dX9_append_17 fl_X9_26 pm_up_s rfl ?_
    refine pm_stk (st' := [.int (sc 4), .ref (z + 134)]) rfl ?_
    refine pm_stk (st' := [.int (nI t), .ref (z + 134)]) (by rw [show (sc 4) = (nI t) from by rw [hl4]]) ?_
    refine pm_iload_n B dX9_append_20 rfl ?_
    refine pm_cast_n B dX9_append_21 ((pm_up_n (by omega)).trans pm_up_s) t (by first | assumption | omega) (by decide) ?_
    refine pm_mem (M' := pm_up (pm_up M 134 (.inl (kA 3, 60, .inl (upd tx t (vp_nar .char x))))) 133 (.inr (7, [.ref (z + 134), .ref (z + 135), .ref (z + 136), .ref (z + 137), .int (sc 4), .int (sc 5), .int (sc 6)]))) (by rw [pm_up_sw (a := 133) (b := 134) (by omega), pm_up_up] <;> rfl) ?_
    refine pm_aload_n B dX9_append_22 rfl ?_
    refine pm_dup B dX9_append_23 rfl ?_
    refine pm_get B dX9_append_24 fl_X9_26 pm_up_s rfl ?_
    refine pm_stk (st' := [.int (sc 4), .ref (z + 133)]) rfl ?_
    refine pm_stk (st' := [.int (nI t), .ref (z + 133)]) (by rw [show (sc 4) = (nI t) from by rw [hl4]]) ?_
    refine pm_iconst (v := 1) B dX9_append_27 (by decide) ?_
    refine pm_iadd B dX9_append_28 ?_
    refine pm_stk (st' := [.int (nI (t + 1)), .ref (z + 133)]) (by rw [show ((nI t) + 1) = (nI (t + 1)) from (by rw [show (nI t) = nI t from rfl, show 1 = nI 1 from rfl, nI_add])]) ?_
    refine pm_put B dX9_append_29 fs_X9_26 pm_up_s rfl rfl rfl ?_
    refine pm_mem (M' := pm_up (pm_up M 134 (.inl (kA 3, 60, .inl (upd tx t (vp_nar .char x))))) 133 (.inr (7, [.ref (z + 134), .ref (z + 135), .ref (z + 136), .ref (z + 137), .int ((upd sc 4 (nI (t + 1))) 4), .int ((upd sc 4 (nI (t + 1))) 5), .int ((upd sc 4 (nI (t + 1))) 6)]))) (by rw [pm_up_up] <;> rfl) ?_
    refine pm_aload_n B dX9_append_32 rfl ?_
    refine pm_get B dX9_append_33 fl_X9_26 pm_up_s rfl ?_
    refine pm_stk (st' := [.int ((upd sc 4 (nI (t + 1))) 4)]) rfl ?_
    refine pm_stk (st' := [.int (nI (t + 1))]) (by rw [show ((upd sc 4 (nI (t + 1))) 4) = (nI (t + 1)) from by rw [pk_us]]) ?_
    have hDq3 : (d_X9_append x t tx sc) = ((nI (t + 1)), (upd tx t (vp_nar .char x)), (upd sc 4 (nI (t + 1)))) := by rw [d_X9_append, if_neg hq1]
    exact pm_ireturn B dX9_append_36 rfl (by first | rfl | (apply pm_nz; first | assumption | decide | exact pm_in01 _ _ _ | simp)) ⟨(by rw [hDq3]), rfl, by rw [hDq3]⟩ rfl rfl
def d_X9_empty (sc : Nat → Int32) : (Nat → Int32) := (upd sc 4 0)
set_option maxRecDepth 100000 in
set_option maxHeartbeats 8000000 in
theorem c_X9_empty {l : Launch} {z : Nat} {D : va_G} {kA : Nat → ClassId} {kE : Nat → Nat} {nx : Nat} {M : pm_M}  {sc : Nat → Int32} (hsc : M 133 = some (.inr (7, [.ref (z + 134), .ref (z + 135), .ref (z + 136), .ref (z + 137), .int (sc 4), .int (sc 5), .int (sc 6)]))) : pm_C l z D kA kE yX9_empty cX9_empty 1 none 0 0 0 [.ref (z + 133)] nx M (pm_rt none nx (pm_up M 133 (.inr (7, [.ref (z + 134), .ref (z + 135), .ref (z + 136), .ref (z + 137), .int ((d_X9_empty sc) 4), .int ((d_X9_empty sc) 5), .int ((d_X9_empty sc) 6)])))) := by
  refine pm_mk (own := RX9) (nm := "empty") mt_X9_empty rfl rfl rfl rfl fun X B => ?_
  refine pm_loc (L' := [some (.ref (z + 133))]) rfl ?_
  refine pm_mem (M' := pm_up M 133 (.inr (7, [.ref (z + 134), .ref (z + 135), .ref (z + 136), .ref (z + 137), .int (sc 4), .int (sc 5), .int (sc 6)]))) (by rw [pm_up_id hsc]) ?_
  refine pm_aload_n B dX9_empty_0 rfl ?_
  refine pm_iconst (v := 0) B dX9_empty_1 (by decide) ?_
  refine pm_put B dX9_empty_2 fs_X9_26 pm_up_s rfl rfl rfl ?_
  refine pm_mem (M' := pm_up M 133 (.inr (7, [.ref (z + 134), .ref (z + 135), .ref (z + 136), .ref (z + 137), .int ((upd sc 4 0) 4), .int ((upd sc 4 0) 5), .int ((upd sc 4 0) 6)]))) (by rw [pm_up_up] <;> rfl) ?_
  have hDq1 : (d_X9_empty sc) = (upd sc 4 0) := by rw [d_X9_empty]
  exact pm_return B dX9_empty_5 rfl ⟨rfl, rfl, by rw [hDq1]⟩ rfl rfl
def d_X9_digitsOf (x : Int32) : Int32 := if x = 68 then 1 else (if x = 78 then 2 else (if x = 76 then 4 else 0))
set_option maxRecDepth 100000 in
set_option maxHeartbeats 8000000 in
theorem c_X9_digitsOf {l : Launch} {z : Nat} {D : va_G} {kA : Nat → ClassId} {kE : Nat → Nat} {nx : Nat} {M : pm_M} {x : Int32} : pm_C l z D kA kE yX9_digitsOf cX9_digitsOf 1 (some .int) 0 0 0 [.int x] nx M (pm_rt (some (.int (d_X9_digitsOf x))) nx M) := by
  refine pm_mk (own := RX9) (nm := "digitsOf") mt_X9_digitsOf rfl rfl rfl rfl fun X B => ?_
  refine pm_loc (L' := [some (.int x)]) rfl ?_
  refine pm_iload_n B dX9_digitsOf_0 rfl ?_
  refine pm_bipush (v := 68) B dX9_digitsOf_1 (by decide) ?_
  refine pm_icmp_ne (tgt := 8) B dX9_digitsOf_3 (by decide) (fun hq1 => ?_) (fun hq1 => ?_)
  · refine pm_iload_n B dX9_digitsOf_8 rfl ?_
    refine pm_bipush (v := 78) B dX9_digitsOf_9 (by decide) ?_
    refine pm_icmp_ne (tgt := 16) B dX9_digitsOf_11 (by decide) (fun hq2 => ?_) (fun hq2 => ?_)
    · refine pm_iload_n B dX9_digitsOf_16 rfl ?_
      refine pm_bipush (v := 76) B dX9_digitsOf_17 (by decide) ?_
      refine pm_icmp_ne (tgt := 26) B dX9_digitsOf_19 (by decide) (fun hq3 => ?_) (fun hq3 => ?_)
      · refine pm_iconst (v := 0) B dX9_digitsOf_26 (by decide) ?_
        have hDq4 : (d_X9_digitsOf x) = 0 := by rw [d_X9_digitsOf, if_neg hq1, if_neg hq2, if_neg hq3]
        exact pm_ireturn B dX9_digitsOf_27 rfl (by first | rfl | (apply pm_nz; first | assumption | decide | exact pm_in01 _ _ _ | simp)) ⟨(by rw [hDq4]), rfl, rfl⟩ rfl rfl
      · refine pm_iconst (v := 4) B dX9_digitsOf_22 (by decide) ?_
        refine pm_goto (tgt := 27) B dX9_digitsOf_23 (by decide) ?_
        have hDq5 : (d_X9_digitsOf x) = 4 := by rw [d_X9_digitsOf, if_neg hq1, if_neg hq2, if_pos hq3]
        exact pm_ireturn B dX9_digitsOf_27 rfl (by first | rfl | (apply pm_nz; first | assumption | decide | exact pm_in01 _ _ _ | simp)) ⟨(by rw [hDq5]), rfl, rfl⟩ rfl rfl
    · refine pm_iconst (v := 2) B dX9_digitsOf_14 (by decide) ?_
      have hDq6 : (d_X9_digitsOf x) = 2 := by rw [d_X9_digitsOf, if_neg hq1, if_pos hq2]
      exact pm_ireturn B dX9_digitsOf_15 rfl (by first | rfl | (apply pm_nz; first | assumption | decide | exact pm_in01 _ _ _ | simp)) ⟨(by rw [hDq6]), rfl, rfl⟩ rfl rfl
  · refine pm_iconst (v := 1) B dX9_digitsOf_6 (by decide) ?_
    have hDq7 : (d_X9_digitsOf x) = 1 := by rw [d_X9_digitsOf, if_pos hq1]
    exact pm_ireturn B dX9_digitsOf_7 rfl (by first | rfl | (apply pm_nz; first | assumption | decide | exact pm_in01 _ _ _ | simp)) ⟨(by rw [hDq7]), rfl, rfl⟩ rfl rfl
def d_X9_readNumber_L1 (t : Nat) (tx : Nat → Int32) : Nat → Nat → Int32 → Int32 → (Nat → Int32) → (Int32 × Int32 × (Nat → Int32))
  | 0, _, a2_1, a3_1, sc_1 => (a2_1, a3_1, sc_1)
  | k1 + 1, j1, a2_1, a3_1, sc_1 => if (nI t) ≤ (nI (pm_n (sc_1 6))) then (a2_1, a3_1, sc_1) else (if (tx (pm_n (sc_1 6))) < 48 then (a2_1, a3_1, sc_1) else (if (tx (pm_n (sc_1 6))) ≤ 57 then (d_X9_readNumber_L1 t tx k1 (j1 + 1) ((a2_1 * 10) + ((tx (pm_n (sc_1 6))) - 48)) (a3_1 + Int32.ofInt 1) (upd sc_1 6 (nI ((pm_n (sc_1 6)) + 1)))) else (a2_1, a3_1, sc_1)))
def d_X9_readNumber (w : Nat) (t : Nat) (tx : Nat → Int32) (sc : Nat → Int32) : (Int32 × (Nat → Int32)) := if ((d_X9_readNumber_L1 t tx w 0 0 0 sc).2.1) = 0 then ((-1), ((d_X9_readNumber_L1 t tx w 0 0 0 sc).2.2)) else (((d_X9_readNumber_L1 t tx w 0 0 0 sc).1), ((d_X9_readNumber_L1 t tx w 0 0 0 sc).2.2))
set_option maxRecDepth 100000 in
set_option maxHeartbeats 8000000 in
theorem c_X9_readNumber {l : Launch} {z : Nat} {D : va_G} {kA : Nat → ClassId} {kE : Nat → Nat} {nx : Nat} {M : pm_M} {w : Nat} {t : Nat} {tx : Nat → Int32} {sc : Nat → Int32} (htx : M 134 = some (.inl (kA 3, 60, .inl tx))) (hsc : M 133 = some (.inr (7, [.ref (z + 134), .ref (z + 135), .ref (z + 136), .ref (z + 137), .int (sc 4), .int (sc 5), .int (sc 6)]))) (hsx : pm_sx t sc) (ht : t ≤ 60) (hw : w ≤ 4) : pm_C l z D kA kE yX9_readNumber cX9_readNumber 6 (some .int) 0 0 0 [.ref (z + 133), .int (nI w)] nx M (pm_rt (some (.int ((d_X9_readNumber w t tx sc).1))) nx (pm_up M 133 (.inr (7, [.ref (z + 134), .ref (z + 135), .ref (z + 136), .ref (z + 137), .int (((d_X9_readNumber w t tx sc).2) 4), .int (((d_X9_readNumber w t tx sc).2) 5), .int (((d_X9_readNumber w t tx sc).2) 6)])))) := by
  refine pm_mk (own := RX9) (nm := "readNumber") mt_X9_readNumber rfl rfl rfl rfl fun X B => ?_
  refine pm_loc (L' := [some (.ref (z + 133)), some (.int (nI w)), none, none, none, none]) rfl ?_
  refine pm_mem (M' := pm_up M 133 (.inr (7, [.ref (z + 134), .ref (z + 135), .ref (z + 136), .ref (z + 137), .int (sc 4), .int (sc 5), .int (sc 6)]))) (by rw [pm_up_id hsc]) ?_
  refine pm_iconst (v := 0) B dX9_readNumber_0 (by decide) ?_
  refine pm_istore_n B dX9_readNumber_1 rfl rfl ?_
  refine pm_loc (L' := [some (.ref (z + 133)), some (.int (nI w)), some (.int 0), none, none, none]) rfl ?_
  refine pm_iconst (v := 0) B dX9_readNumber_2 (by decide) ?_
  refine pm_istore_n B dX9_readNumber_3 rfl rfl ?_
  refine pm_loc (L' := [some (.ref (z + 133)), some (.int (nI w)), some (.int 0), some (.int 0), none, none]) rfl ?_
  refine pm_iconst (v := 0) B dX9_readNumber_4 (by decide) ?_
  refine pm_istore B dX9_readNumber_5 rfl rfl ?_
  refine pm_loc (L' := [some (.ref (z + 133)), some (.int (nI w)), some (.int 0), some (.int 0), some (.int 0), none]) rfl ?_
  refine pm_loc (L' := [some (.ref (z + 133)), some (.int (nI w)), some (.int 0), some (.int 0), some (.int (nI 0)), none]) rfl ?_
  have loop1 : ∀ (K1 : (Int32 → Int32 → (Nat → Int32) → (Int32 × (Nat → Int32)))), (∀ (a2_1 : Int32) (a3_1 : Int32) (sc_1 : (Nat → Int32)), (hsx_1 : pm_sx t sc_1) → pm_G l z D X 0 0 (pm_Q z D (pm_rt (some (.int ((K1 a2_1 a3_1 sc_1).1))) nx (pm_up M 133 (.inr (7, [.ref (z + 134), .ref (z + 135), .ref (z + 136), .ref (z + 137), .int (((K1 a2_1 a3_1 sc_1).2) 4), .int (((K1 a2_1 a3_1 sc_1).2) 5), .int (((K1 a2_1 a3_1 sc_1).2) 6)])))) 0 0 X) nx (pm_up M 133 (.inr (7, [.ref (z + 134), .ref (z + 135), .ref (z + 136), .ref (z + 137), .int (sc_1 4), .int (sc_1 5), .int (sc_1 6)]))) 82 [none, none, some (.int a2_1), some (.int a3_1), none, none] []) → ∀ (k1 j1 : Nat), j1 + k1 = w → ∀ (a2_1 : Int32) (a3_1 : Int32) (sc_1 : (Nat → Int32)), (hsx_1 : pm_sx t sc_1) → pm_G l z D X 0 0 (pm_Q z D (pm_rt (some (.int ((K1 ((d_X9_readNumber_L1 t tx k1 j1 a2_1 a3_1 sc_1).1) ((d_X9_readNumber_L1 t tx k1 j1 a2_1 a3_1 sc_1).2.1) ((d_X9_readNumber_L1 t tx k1 j1 a2_1 a3_1 sc_1).2.2)).1))) nx (pm_up M 133 (.inr (7, [.ref (z + 134), .ref (z + 135), .ref (z + 136), .ref (z + 137), .int (((K1 ((d_X9_readNumber_L1 t tx k1 j1 a2_1 a3_1 sc_1).1) ((d_X9_readNumber_L1 t tx k1 j1 a2_1 a3_1 sc_1).2.1) ((d_X9_readNumber_L1 t tx k1 j1 a2_1 a3_1 sc_1).2.2)).2) 4), .int (((K1 ((d_X9_readNumber_L1 t tx k1 j1 a2_1 a3_1 sc_1).1) ((d_X9_readNumber_L1 t tx k1 j1 a2_1 a3_1 sc_1).2.1) ((d_X9_readNumber_L1 t tx k1 j1 a2_1 a3_1 sc_1).2.2)).2) 5), .int (((K1 ((d_X9_readNumber_L1 t tx k1 j1 a2_1 a3_1 sc_1).1) ((d_X9_readNumber_L1 t tx k1 j1 a2_1 a3_1 sc_1).2.1) ((d_X9_readNumber_L1 t tx k1 j1 a2_1 a3_1 sc_1).2.2)).2) 6)])))) 0 0 X) nx (pm_up M 133 (.inr (7, [.ref (z + 134), .ref (z + 135), .ref (z + 136), .ref (z + 137), .int (sc_1 4), .int (sc_1 5), .int (sc_1 6)]))) 7 [some (.ref (z + 133)), some (.int (nI w)), some (.int a2_1), some (.int a3_1), some (.int (nI j1)), none] [] := by
    intro K1 hK1 k1
    induction k1 with
    | zero =>
      intro j1 hj1 a2_1 a3_1 sc_1 hsx_1
      have hjn1 : j1 = w := by omega
      refine pm_iload B dX9_readNumber_7 rfl ?_
      refine pm_iload_n B dX9_readNumber_9 rfl ?_
      refine pm_icmp_ge (tgt := 82) B dX9_readNumber_10 (by decide) (fun hq1 => ?_) (fun hq1 => absurd ((nI_leI (by first | omega | decide) (by first | omega | decide)).mpr (by omega)) hq1)
      refine pm_wk (L' := [none, none, some (.int a2_1), some (.int a3_1), none, none]) ⟨rfl, ⟨rfl, trivial⟩⟩ ?_
      have hDq2 : (K1 ((d_X9_readNumber_L1 t tx 0 j1 a2_1 a3_1 sc_1).1) ((d_X9_readNumber_L1 t tx 0 j1 a2_1 a3_1 sc_1).2.1) ((d_X9_readNumber_L1 t tx 0 j1 a2_1 a3_1 sc_1).2.2)) = (K1 a2_1 a3_1 sc_1) := by rw [d_X9_readNumber_L1]
      refine pm_pst (post' := pm_rt (some (.int ((K1 a2_1 a3_1 sc_1).1))) nx (pm_up M 133 (.inr (7, [.ref (z + 134), .ref (z + 135), .ref (z + 136), .ref (z + 137), .int (((K1 a2_1 a3_1 sc_1).2) 4), .int (((K1 a2_1 a3_1 sc_1).2) 5), .int (((K1 a2_1 a3_1 sc_1).2) 6)])))) (by rw [hDq2]) ?_
      exact hK1 a2_1 a3_1 sc_1 (hsx_1)
    | succ k1 ih1 =>
      intro j1 hj1 a2_1 a3_1 sc_1 hsx_1
      have hjn1 : j1 < w := by omega
      refine pm_iload B dX9_readNumber_7 rfl ?_
      refine pm_iload_n B dX9_readNumber_9 rfl ?_
      refine pm_icmp_ge (tgt := 82) B dX9_readNumber_10 (by decide) (fun hq3 => absurd hq3 (fun e => absurd ((nI_leI (by first | omega | decide) (by first | omega | decide)).mp e) (by omega))) (fun hq3 => ?_)
      refine pm_aload_n B dX9_readNumber_13 rfl ?_
      refine pm_get B dX9_readNumber_14 fl_X9_33 pm_up_s rfl ?_
      refine pm_stk (st' := [.int (sc_1 6)]) rfl ?_
      refine pm_stk (st' := [.int (nI (pm_n (sc_1 6)))]) (congrArg (fun yy : Int32 => ([.int yy] : List Value)) (show (sc_1 6) = (nI (pm_n (sc_1 6))) from (hsx_1.1))) ?_
      refine pm_aload_n B dX9_readNumber_17 rfl ?_
      refine pm_get B dX9_readNumber_18 fl_X9_26 pm_up_s rfl ?_
      refine pm_stk (st' := [.int (sc_1 4), .int (nI (pm_n (sc_1 6)))]) rfl ?_
      refine pm_stk (st' := [.int (nI t), .int (nI (pm_n (sc_1 6)))]) (by rw [show (sc_1 4) = (nI t) from (hsx_1.2.2)]) ?_
      refine pm_icmp_ge (tgt := 82) B dX9_readNumber_21 (by decide) (fun hq4 => ?_) (fun hq4 => ?_)
      · refine pm_wk (L' := [none, none, some (.int a2_1), some (.int a3_1), none, none]) ⟨rfl, ⟨rfl, trivial⟩⟩ ?_
        have hDq5 : (K1 ((d_X9_readNumber_L1 t tx (k1 + 1) j1 a2_1 a3_1 sc_1).1) ((d_X9_readNumber_L1 t tx (k1 + 1) j1 a2_1 a3_1 sc_1).2.1) ((d_X9_readNumber_L1 t tx (k1 + 1) j1 a2_1 a3_1 sc_1).2.2)) = (K1 a2_1 a3_1 sc_1) := by rw [d_X9_readNumber_L1, if_pos hq4]
        refine pm_pst (post' := pm_rt (some (.int ((K1 a2_1 a3_1 sc_1).1))) nx (pm_up M 133 (.inr (7, [.ref (z + 134), .ref (z + 135), .ref (z + 136), .ref (z + 137), .int (((K1 a2_1 a3_1 sc_1).2) 4), .int (((K1 a2_1 a3_1 sc_1).2) 5), .int (((K1 a2_1 a3_1 sc_1).2) 6)])))) (by rw [hDq5]) ?_
        exact hK1 a2_1 a3_1 sc_1 (hsx_1)
      · have hlt : pm_n (sc_1 6) < t := by have hh := hq4; have h8 := hsx_1.2.1; rw [nI_leI (by omega) (by omega)] at hh; omega
        refine pm_aload_n B dX9_readNumber_24 rfl ?_
        refine pm_get B dX9_readNumber_25 fl_X9_9 pm_up_s rfl ?_
        refine pm_aload_n B dX9_readNumber_28 rfl ?_
        refine pm_get B dX9_readNumber_29 fl_X9_33 pm_up_s rfl ?_
        refine pm_stk (st' := [.int (sc_1 6), .ref (z + 134)]) rfl ?_
        refine pm_stk (st' := [.int (nI (pm_n (sc_1 6))), .ref (z + 134)]) (congrArg (fun yy : Int32 => ([.int yy, .ref (z + 134)] : List Value)) (show (sc_1 6) = (nI (pm_n (sc_1 6))) from (hsx_1.1))) ?_
        refine pm_cald_n B dX9_readNumber_32 ((pm_up_n (by omega)).trans htx) (pm_n (sc_1 6)) (by first | assumption | omega) (by decide) ?_
        refine pm_istore B dX9_readNumber_33 rfl rfl ?_
        refine pm_loc (L' := [some (.ref (z + 133)), some (.int (nI w)), some (.int a2_1), some (.int a3_1), some (.int (nI j1)), some (.int (tx (pm_n (sc_1 6))))]) rfl ?_
        refine pm_iload B dX9_readNumber_35 rfl ?_
        refine pm_bipush (v := 48) B dX9_readNumber_37 (by decide) ?_
        refine pm_icmp_lt (tgt := 82) B dX9_readNumber_39 (by decide) (fun hq6 => ?_) (fun hq6 => ?_)
        · refine pm_wk (L' := [none, none, some (.int a2_1), some (.int a3_1), none, none]) ⟨rfl, ⟨rfl, trivial⟩⟩ ?_
          have hDq7 : (K1 ((d_X9_readNumber_L1 t tx (k1 + 1) j1 a2_1 a3_1 sc_1).1) ((d_X9_readNumber_L1 t tx (k1 + 1) j1 a2_1 a3_1 sc_1).2.1) ((d_X9_readNumber_L1 t tx (k1 + 1) j1 a2_1 a3_1 sc_1).2.2)) = (K1 a2_1 a3_1 sc_1) := by rw [d_X9_readNumber_L1, if_neg hq4, if_pos hq6]
          refine pm_pst (post' := pm_rt (some (.int ((K1 a2_1 a3_1 sc_1).1))) nx (pm_up M 133 (.inr (7, [.ref (z + 134), .ref (z + 135), .ref (z + 136), .ref (z + 137), .int (((K1 a2_1 a3_1 sc_1).2) 4), .int (((K1 a2_1 a3_1 sc_1).2) 5), .int (((K1 a2_1 a3_1 sc_1).2) 6)])))) (by rw [hDq7]) ?_
          exact hK1 a2_1 a3_1 sc_1 (hsx_1)
        · refine pm_iload B dX9_readNumber_42 rfl ?_
          refine pm_bipush (v := 57) B dX9_readNumber_44 (by decide) ?_
          refine pm_icmp_le (tgt := 52) B dX9_readNumber_46 (by decide) (fun hq8 => ?_) (fun hq8 => ?_)
          · refine pm_iload_n B dX9_readNumber_52 rfl ?_
            refine pm_bipush (v := 10) B dX9_readNumber_53 (by decide) ?_
            refine pm_imul B dX9_readNumber_55 ?_
            refine pm_iload B dX9_readNumber_56 rfl ?_
            refine pm_bipush (v := 48) B dX9_readNumber_58 (by decide) ?_
            refine pm_isub B dX9_readNumber_60 ?_
            refine pm_iadd B dX9_readNumber_61 ?_
            refine pm_istore_n B dX9_readNumber_62 rfl rfl ?_
            refine pm_loc (L' := [some (.ref (z + 133)), some (.int (nI w)), some (.int ((a2_1 * 10) + ((tx (pm_n (sc_1 6))) - 48))), some (.int a3_1), some (.int (nI j1)), some (.int (tx (pm_n (sc_1 6))))]) rfl ?_
            refine pm_aload_n B dX9_readNumber_63 rfl ?_
            refine pm_dup B dX9_readNumber_64 rfl ?_
            refine pm_get B dX9_readNumber_65 fl_X9_33 pm_up_s rfl ?_
            refine pm_stk (st' := [.int (sc_1 6), .ref (z + 133)]) rfl ?_
            refine pm_stk (st' := [.int (nI (pm_n (sc_1 6))), .ref (z + 133)]) (congrArg (fun yy : Int32 => ([.int yy, .ref (z + 133)] : List Value)) (show (sc_1 6) = (nI (pm_n (sc_1 6))) from (hsx_1.1))) ?_
            refine pm_iconst (v := 1) B dX9_readNumber_68 (by decide) ?_
            refine pm_iadd B dX9_readNumber_69 ?_
            refine pm_stk (st' := [.int (nI ((pm_n (sc_1 6)) + 1)), .ref (z + 133)]) (by rw [show ((nI (pm_n (sc_1 6))) + 1) = (nI ((pm_n (sc_1 6)) + 1)) from (by rw [show (nI (pm_n (sc_1 6))) = nI (pm_n (sc_1 6)) from rfl, show 1 = nI 1 from rfl, nI_add])]) ?_
            refine pm_put B dX9_readNumber_70 fs_X9_33 pm_up_s rfl rfl rfl ?_
            refine pm_mem (M' := pm_up M 133 (.inr (7, [.ref (z + 134), .ref (z + 135), .ref (z + 136), .ref (z + 137), .int ((upd sc_1 6 (nI ((pm_n (sc_1 6)) + 1))) 4), .int ((upd sc_1 6 (nI ((pm_n (sc_1 6)) + 1))) 5), .int ((upd sc_1 6 (nI ((pm_n (sc_1 6)) + 1))) 6)]))) (by rw [pm_up_up] <;> rfl) ?_
            refine pm_iinc B dX9_readNumber_73 rfl rfl rfl ?_
            refine pm_loc (L' := [some (.ref (z + 133)), some (.int (nI w)), some (.int ((a2_1 * 10) + ((tx (pm_n (sc_1 6))) - 48))), some (.int (a3_1 + Int32.ofInt 1)), some (.int (nI j1)), some (.int (tx (pm_n (sc_1 6))))]) rfl ?_
            refine pm_iinc B dX9_readNumber_76 rfl rfl rfl ?_
            refine pm_loc (L' := [some (.ref (z + 133)), some (.int (nI w)), some (.int ((a2_1 * 10) + ((tx (pm_n (sc_1 6))) - 48))), some (.int (a3_1 + Int32.ofInt 1)), some (.int (nI (j1 + 1))), some (.int (tx (pm_n (sc_1 6))))]) (by rw [show ((nI j1) : Int32) + Int32.ofInt 1 = (nI (j1 + 1)) from nI_1 _]; rfl) ?_
            refine pm_goto (tgt := 7) B dX9_readNumber_79 (by decide) ?_
            refine pm_wk (L' := [some (.ref (z + 133)), some (.int (nI w)), some (.int ((a2_1 * 10) + ((tx (pm_n (sc_1 6))) - 48))), some (.int (a3_1 + Int32.ofInt 1)), some (.int (nI (j1 + 1))), none]) ⟨rfl, ⟨rfl, ⟨rfl, ⟨rfl, ⟨rfl, trivial⟩⟩⟩⟩⟩ ?_
            have hDq9 : (K1 ((d_X9_readNumber_L1 t tx (k1 + 1) j1 a2_1 a3_1 sc_1).1) ((d_X9_readNumber_L1 t tx (k1 + 1) j1 a2_1 a3_1 sc_1).2.1) ((d_X9_readNumber_L1 t tx (k1 + 1) j1 a2_1 a3_1 sc_1).2.2)) = (K1 ((d_X9_readNumber_L1 t tx k1 (j1 + 1) ((a2_1 * 10) + ((tx (pm_n (sc_1 6))) - 48)) (a3_1 + Int32.ofInt 1) (upd sc_1 6 (nI ((pm_n (sc_1 6)) + 1)))).1) ((d_X9_readNumber_L1 t tx k1 (j1 + 1) ((a2_1 * 10) + ((tx (pm_n (sc_1 6))) - 48)) (a3_1 + Int32.ofInt 1) (upd sc_1 6 (nI ((pm_n (sc_1 6)) + 1)))).2.1) ((d_X9_readNumber_L1 t tx k1 (j1 + 1) ((a2_1 * 10) + ((tx (pm_n (sc_1 6))) - 48)) (a3_1 + Int32.ofInt 1) (upd sc_1 6 (nI ((pm_n (sc_1 6)) + 1)))).2.2)) := by rw [d_X9_readNumber_L1, if_neg hq4, if_neg hq6, if_pos hq8]
            refine pm_pst (post' := pm_rt (some (.int ((K1 ((d_X9_readNumber_L1 t tx k1 (j1 + 1) ((a2_1 * 10) + ((tx (pm_n (sc_1 6))) - 48)) (a3_1 + Int32.ofInt 1) (upd sc_1 6 (nI ((pm_n (sc_1 6)) + 1)))).1) ((d_X9_readNumber_L1 t tx k1 (j1 + 1) ((a2_1 * 10) + ((tx (pm_n (sc_1 6))) - 48)) (a3_1 + Int32.ofInt 1) (upd sc_1 6 (nI ((pm_n (sc_1 6)) + 1)))).2.1) ((d_X9_readNumber_L1 t tx k1 (j1 + 1) ((a2_1 * 10) + ((tx (pm_n (sc_1 6))) - 48)) (a3_1 + Int32.ofInt 1) (upd sc_1 6 (nI ((pm_n (sc_1 6)) + 1)))).2.2)).1))) nx (pm_up M 133 (.inr (7, [.ref (z + 134), .ref (z + 135), .ref (z + 136), .ref (z + 137), .int (((K1 ((d_X9_readNumber_L1 t tx k1 (j1 + 1) ((a2_1 * 10) + ((tx (pm_n (sc_1 6))) - 48)) (a3_1 + Int32.ofInt 1) (upd sc_1 6 (nI ((pm_n (sc_1 6)) + 1)))).1) ((d_X9_readNumber_L1 t tx k1 (j1 + 1) ((a2_1 * 10) + ((tx (pm_n (sc_1 6))) - 48)) (a3_1 + Int32.ofInt 1) (upd sc_1 6 (nI ((pm_n (sc_1 6)) + 1)))).2.1) ((d_X9_readNumber_L1 t tx k1 (j1 + 1) ((a2_1 * 10) + ((tx (pm_n (sc_1 6))) - 48)) (a3_1 + Int32.ofInt 1) (upd sc_1 6 (nI ((pm_n (sc_1 6)) + 1)))).2.2)).2) 4), .int (((K1 ((d_X9_readNumber_L1 t tx k1 (j1 + 1) ((a2_1 * 10) + ((tx (pm_n (sc_1 6))) - 48)) (a3_1 + Int32.ofInt 1) (upd sc_1 6 (nI ((pm_n (sc_1 6)) + 1)))).1) ((d_X9_readNumber_L1 t tx k1 (j1 + 1) ((a2_1 * 10) + ((tx (pm_n (sc_1 6))) - 48)) (a3_1 + Int32.ofInt 1) (upd sc_1 6 (nI ((pm_n (sc_1 6)) + 1)))).2.1) ((d_X9_readNumber_L1 t tx k1 (j1 + 1) ((a2_1 * 10) + ((tx (pm_n (sc_1 6))) - 48)) (a3_1 + Int32.ofInt 1) (upd sc_1 6 (nI ((pm_n (sc_1 6)) + 1)))).2.2)).2) 5), .int (((K1 ((d_X9_readNumber_L1 t tx k1 (j1 + 1) ((a2_1 * 10) + ((tx (pm_n (sc_1 6))) - 48)) (a3_1 + Int32.ofInt 1) (upd sc_1 6 (nI ((pm_n (sc_1 6)) + 1)))).1) ((d_X9_readNumber_L1 t tx k1 (j1 + 1) ((a2_1 * 10) + ((tx (pm_n (sc_1 6))) - 48)) (a3_1 + Int32.ofInt 1) (upd sc_1 6 (nI ((pm_n (sc_1 6)) + 1)))).2.1) ((d_X9_readNumber_L1 t tx k1 (j1 + 1) ((a2_1 * 10) + ((tx (pm_n (sc_1 6))) - 48)) (a3_1 + Int32.ofInt 1) (upd sc_1 6 (nI ((pm_n (sc_1 6)) + 1)))).2.2)).2) 6)])))) (by rw [hDq9]) ?_
            exact ih1 (j1 + 1) (by omega) ((a2_1 * 10) + ((tx (pm_n (sc_1 6))) - 48)) (a3_1 + Int32.ofInt 1) (upd sc_1 6 (nI ((pm_n (sc_1 6)) + 1))) ((pm_sx_6 hsx_1 ht (by have h9 := hsx_1.2.1; first | omega | exact hm_1.2)))
          · refine pm_goto (tgt := 82) B dX9_readNumber_49 (by decide) ?_
            refine pm_wk (L' := [none, none, some (.int a2_1), some (.int a3_1), none, none]) ⟨rfl, ⟨rfl, trivial⟩⟩ ?_
            have hDq10 : (K1 ((d_X9_readNumber_L1 t tx (k1 + 1) j1 a2_1 a3_1 sc_1).1) ((d_X9_readNumber_L1 t tx (k1 + 1) j1 a2_1 a3_1 sc_1).2.1) ((d_X9_readNumber_L1 t tx (k1 + 1) j1 a2_1 a3_1 sc_1).2.2)) = (K1 a2_1 a3_1 sc_1) := by rw [d_X9_readNumber_L1, if_neg hq4, if_neg hq6, if_neg hq8]
            refine pm_pst (post' := pm_rt (some (.int ((K1 a2_1 a3_1 sc_1).1))) nx (pm_up M 133 (.inr (7, [.ref (z + 134), .ref (z + 135), .ref (z + 136), .ref (z + 137), .int (((K1 a2_1 a3_1 sc_1).2) 4), .int (((K1 a2_1 a3_1 sc_1).2) 5), .int (((K1 a2_1 a3_1 sc_1).2) 6)])))) (by rw [hDq10]) ?_
            exact hK1 a2_1 a3_1 sc_1 (hsx_1)
  refine pm_pst (post' := pm_rt (some (.int ((if ((d_X9_readNumber_L1 t tx w 0 0 0 sc).2.1) = 0 then ((-1), ((d_X9_readNumber_L1 t tx w 0 0 0 sc).2.2)) else (((d_X9_readNumber_L1 t tx w 0 0 0 sc).1), ((d_X9_readNumber_L1 t tx w 0 0 0 sc).2.2))).1))) nx (pm_up M 133 (.inr (7, [.ref (z + 134), .ref (z + 135), .ref (z + 136), .ref (z + 137), .int (((if ((d_X9_readNumber_L1 t tx w 0 0 0 sc).2.1) = 0 then ((-1), ((d_X9_readNumber_L1 t tx w 0 0 0 sc).2.2)) else (((d_X9_readNumber_L1 t tx w 0 0 0 sc).1), ((d_X9_readNumber_L1 t tx w 0 0 0 sc).2.2))).2) 4), .int (((if ((d_X9_readNumber_L1 t tx w 0 0 0 sc).2.1) = 0 then ((-1), ((d_X9_readNumber_L1 t tx w 0 0 0 sc).2.2)) else (((d_X9_readNumber_L1 t tx w 0 0 0 sc).1), ((d_X9_readNumber_L1 t tx w 0 0 0 sc).2.2))).2) 5), .int (((if ((d_X9_readNumber_L1 t tx w 0 0 0 sc).2.1) = 0 then ((-1), ((d_X9_readNumber_L1 t tx w 0 0 0 sc).2.2)) else (((d_X9_readNumber_L1 t tx w 0 0 0 sc).1), ((d_X9_readNumber_L1 t tx w 0 0 0 sc).2.2))).2) 6)])))) (by rw [show (d_X9_readNumber w t tx sc) = if ((d_X9_readNumber_L1 t tx w 0 0 0 sc).2.1) = 0 then ((-1), ((d_X9_readNumber_L1 t tx w 0 0 0 sc).2.2)) else (((d_X9_readNumber_L1 t tx w 0 0 0 sc).1), ((d_X9_readNumber_L1 t tx w 0 0 0 sc).2.2)) from by rw [d_X9_readNumber]]) ?_
  refine loop1 (fun (a2_1 : Int32) (a3_1 : Int32) (sc_1 : (Nat → Int32)) => if a3_1 = 0 then ((-1), sc_1) else (a2_1, sc_1)) ?_ w 0 (by omega) 0 0 sc (hsx)
  intro a2_1 a3_1 sc_1 hsx_1
  refine pm_pst (post' := pm_rt (some (.int ((if a3_1 = 0 then ((-1), sc_1) else (a2_1, sc_1)).1))) nx (pm_up M 133 (.inr (7, [.ref (z + 134), .ref (z + 135), .ref (z + 136), .ref (z + 137), .int (((if a3_1 = 0 then ((-1), sc_1) else (a2_1, sc_1)).2) 4), .int (((if a3_1 = 0 then ((-1), sc_1) else (a2_1, sc_1)).2) 5), .int (((if a3_1 = 0 then ((-1), sc_1) else (a2_1, sc_1)).2) 6)])))) rfl ?_
  refine pm_iload_n B dX9_readNumber_82 rfl ?_
  refine pm_if_ne (tgt := 90) B dX9_readNumber_83 (by decide) (fun hq11 => ?_) (fun hq11 => ?_)
  · refine pm_iload_n B dX9_readNumber_90 rfl ?_
    have hDq12 : (if a3_1 = 0 then ((-1), sc_1) else (a2_1, sc_1)) = (a2_1, sc_1) := by rw [if_neg hq11]
    exact pm_ireturn B dX9_readNumber_91 rfl (by first | rfl | (apply pm_nz; first | assumption | decide | exact pm_in01 _ _ _ | simp)) ⟨(by rw [hDq12]), rfl, by rw [hDq12]⟩ rfl rfl
  · refine pm_iconst (v := (-1)) B dX9_readNumber_86 (by decide) ?_
    refine pm_goto (tgt := 91) B dX9_readNumber_87 (by decide) ?_
    have hDq13 : (if a3_1 = 0 then ((-1), sc_1) else (a2_1, sc_1)) = ((-1), sc_1) := by rw [if_pos hq11]
    exact pm_ireturn B dX9_readNumber_91 rfl (by first | rfl | (apply pm_nz; first | assumption | decide | exact pm_in01 _ _ _ | simp)) ⟨(by rw [hDq13]), rfl, by rw [hDq13]⟩ rfl rfl
theorem d_X9_readNumber_tx (w t : Nat) (tx sc : Nat → Int32) (ht : t ≤ 60) (h : pm_sx t sc) : pm_sx t (d_X9_readNumber w t tx sc).2 := by
  have hL : ∀ (k j : Nat) (a b : Int32) (f : Nat → Int32), pm_sx t f → pm_sx t (d_X9_readNumber_L1 t tx k j a b f).2.2 := by
    intro k
    induction k with
    | zero => intro j a b f h; exact h
    | succ k ih =>
      intro j a b f h
      have h9 := h.2.1
      simp only [d_X9_readNumber_L1]
      (repeat' split) <;> first | exact h | exact ih _ _ _ _ (pm_sx_6 h ht (by rename_i hc _ _; rw [nI_leI (by omega) (by omega)] at hc; omega))
  unfold d_X9_readNumber
  split <;> exact hL _ _ _ _ _ h
theorem d_X9_digitsOf_n (x : Int32) : d_X9_digitsOf x = nI (pm_n (d_X9_digitsOf x)) ∧ pm_n (d_X9_digitsOf x) ≤ 4 := by
  unfold d_X9_digitsOf
  (repeat' split) <;> decide
