/-! Links -/
/-- is there a link of i that the set does not watch -/
abbrev pm_uw (g : Nat → Int32) (s : Int32) (i : Nat) : Prop := (s >>> (nI i &&& 31)) &&& 1 = 0 ∧ ¬ (g i &&& (s ^^^ (-1))) = 0
/-- the first member from j on with such a link, k to go, or -1 -/
def pm_fu (g : Nat → Int32) (s : Int32) : Nat → Nat → Int32
  | _, 0 => -1
  | j, k + 1 => if (s >>> (nI j &&& 31)) &&& 1 = 0 then (if (g j &&& (s ^^^ (-1))) = 0 then pm_fu g s (j + 1) k else nI j) else pm_fu g s (j + 1) k
theorem pm_fu_in (g : Nat → Int32) (s : Int32) : ∀ (k j : Nat), j + k ≤ 7 → pm_fu g s j k = -1 ∨ ∃ i, i < 7 ∧ pm_fu g s j k = nI i
  | 0, j, _ => Or.inl rfl
  | k + 1, j, h => by
    have ih := pm_fu_in g s k (j + 1) (by omega)
    unfold pm_fu
    split
    · split
      · exact ih
      · exact Or.inr ⟨j, by omega, rfl⟩
    · exact ih
def pm_lt (g : Nat → Int32) : Nat → Int32
  | 0 => 0
  | j + 1 => pm_lt g j + pm_bc (g j)
def pm_fw (g : Nat → Int32) (n : Nat) : Nat → Int32
  | 0 => nI n
  | j + 1 => if pm_fu g (nI j) 0 7 < 0 then pm_min (pm_fw g n j) (pm_bc (nI j)) else pm_fw g n j
def pm_ff (g : Nat → Int32) : Nat → Int32 → Nat → Int32
  | 0, _, dep => nI dep
  | k + 1, s, dep => if pm_fu g s 0 7 < 0 then nI dep else
      let f := pm_fu g s 0 7
      let o := g f.toNatClampNeg &&& (s ^^^ (-1))
      pm_min (pm_ff g k (s ||| ((1 : Int32) <<< (f &&& 31))) (dep + 1)) (pm_ff g k (s ||| (o &&& (-o))) (dep + 1))
theorem pm_sh1 : ∀ n, n ≤ 7 → (1 : Int32) <<< (nI n &&& 31) = nI (2 ^ n) := by
  intro n hn
  rcases (by omega : n = 0 ∨ n = 1 ∨ n = 2 ∨ n = 3 ∨ n = 4 ∨ n = 5 ∨ n = 6 ∨ n = 7) with rfl | rfl | rfl | rfl | rfl | rfl | rfl | rfl <;> decide +kernel
theorem pm_p7 {n : Nat} (h : n ≤ 7) : 2 ^ n ≤ 128 := Nat.pow_le_pow_right (by decide) h
set_option maxRecDepth 100000 in
set_option maxHeartbeats 4000000 in
theorem c_X5_copyFrom {l : Launch} {z : Nat} {D : va_G} {kA : Nat → ClassId} {kE : Nat → Nat} {nx : Nat} {M : pm_M} {a p : Nat} {g : Nat → Int32} (hA : M a = some (.inr (3, [.ref (z + p)]))) (hP : M p = some (.inl (kA 0, 7, .inl g))) {a2 p2 : Nat} {g2 : Nat → Int32} (hA2 : M a2 = some (.inr (3, [.ref (z + p2)]))) (hP2 : M p2 = some (.inl (kA 0, 7, .inl g2))) : pm_C l z D kA kE yX5_copyFrom cX5_copyFrom 2 none 2 0 0 [.ref (z + a), .ref (z + a2)] nx M (pm_rt none nx (pm_up M p (.inl (kA 0, 7, .inl (va_cpy g2 g 0 0 7))))) := by
  refine pm_mk (own := RX5) (nm := "copyFrom") mt_X5_copyFrom rfl rfl rfl rfl fun X B => ?_
  refine pm_loc (L' := [some (.ref (z + a)), some (.ref (z + a2))]) rfl ?_
  refine pm_aload_n B dX5_copyFrom_0 rfl ?_
  refine pm_get B dX5_copyFrom_1 fl_X5_9 hA2 rfl ?_
  refine pm_iconst (v := 0) B dX5_copyFrom_4 (by decide) ?_
  refine pm_aload_n B dX5_copyFrom_5 rfl ?_
  refine pm_get B dX5_copyFrom_6 fl_X5_9 hA rfl ?_
  refine pm_iconst (v := 0) B dX5_copyFrom_9 (by decide) ?_
  refine pm_aload_n B dX5_copyFrom_10 rfl ?_
  refine pm_get B dX5_copyFrom_11 fl_X5_9 hA rfl ?_
  refine pm_alen B dX5_copyFrom_14 hP rfl rfl ?_
  refine pm_stk (st' := [.int (nI 7), .int 0, .ref (z + p), .int 0, .ref (z + p2)]) rfl ?_
  refine pm_acopy B dX5_copyFrom_15 (pm_T_in 604 (by decide +kernel) (by decide +kernel)) hP2 hP 0 0 7 rfl rfl rfl (by first | decide | omega) (by first | decide | omega) (by first | decide | omega) (by first | decide | omega) rfl rfl ?_
  refine pm_mem (M' := pm_up M p (.inl (kA 0, 7, .inl (va_cpy g2 g 0 0 7)))) rfl ?_
  exact pm_return B dX5_copyFrom_18 rfl ⟨rfl, rfl, rfl⟩ rfl rfl
set_option maxRecDepth 100000 in
set_option maxHeartbeats 4000000 in
theorem c_X5_connects {l : Launch} {z : Nat} {D : va_G} {kA : Nat → ClassId} {kE : Nat → Nat} {nx : Nat} {M : pm_M} {a p : Nat} {g : Nat → Int32} (hA : M a = some (.inr (3, [.ref (z + p)]))) (hP : M p = some (.inl (kA 0, 7, .inl g))) {i k : Nat} (hi : i < 7) : pm_C l z D kA kE yX5_connects cX5_connects 3 (some .boolean) 0 0 0 [.ref (z + a), .int (nI i), .int (nI k)] nx M (pm_rt (some (.int (if (g i >>> (nI k &&& 31)) &&& 1 = 1 then 1 else 0))) nx M) := by
  refine pm_mk (own := RX5) (nm := "connects") mt_X5_connects rfl rfl rfl rfl fun X B => ?_
  refine pm_loc (L' := [some (.ref (z + a)), some (.int (nI i)), some (.int (nI k))]) rfl ?_
  refine pm_aload_n B dX5_connects_0 rfl ?_
  refine pm_get B dX5_connects_1 fl_X5_9 hA rfl ?_
  refine pm_iload_n B dX5_connects_4 rfl ?_
  refine pm_iald_n B dX5_connects_5 hP i (by first | assumption | omega) (by decide) ?_
  refine pm_iload_n B dX5_connects_6 rfl ?_
  refine pm_ishr B dX5_connects_7 ?_
  refine pm_iconst (v := 1) B dX5_connects_8 (by decide) ?_
  refine pm_iand B dX5_connects_9 ?_
  refine pm_iconst (v := 1) B dX5_connects_10 (by decide) ?_
  refine pm_icmp_ne (tgt := 18) B dX5_connects_11 (by decide) (fun hq1 => ?_) (fun hq1 => ?_)
  · refine pm_iconst (v := 0) B dX5_connects_18 (by decide) ?_
    exact pm_ireturn B dX5_connects_19 rfl (by first | rfl | (apply pm_nz; first | assumption | decide | exact pm_in01 _ _ _ | simp)) ⟨by rw [if_neg hq1], rfl, rfl⟩ rfl rfl
  · refine pm_iconst (v := 1) B dX5_connects_14 (by decide) ?_
    refine pm_goto (tgt := 19) B dX5_connects_15 (by decide) ?_
    exact pm_ireturn B dX5_connects_19 rfl (by first | rfl | (apply pm_nz; first | assumption | decide | exact pm_in01 _ _ _ | simp)) ⟨by rw [if_pos hq1], rfl, rfl⟩ rfl rfl
set_option maxRecDepth 100000 in
set_option maxHeartbeats 4000000 in
theorem c_X5_flip {l : Launch} {z : Nat} {D : va_G} {kA : Nat → ClassId} {kE : Nat → Nat} {nx : Nat} {M : pm_M} {a p : Nat} {g : Nat → Int32} (hA : M a = some (.inr (3, [.ref (z + p)]))) (hP : M p = some (.inl (kA 0, 7, .inl g))) {i k : Nat} (hi : i < 7) (hk : k < 7) : pm_C l z D kA kE yX5_flip cX5_flip 3 none 0 0 0 [.ref (z + a), .int (nI i), .int (nI k)] nx M (pm_rt none nx (pm_up M p (.inl (kA 0, 7, .inl (upd (upd g i (g i ^^^ ((1 : Int32) <<< (nI k &&& 31)))) k ((upd g i (g i ^^^ ((1 : Int32) <<< (nI k &&& 31)))) k ^^^ ((1 : Int32) <<< (nI i &&& 31)))))))) := by
  refine pm_mk (own := RX5) (nm := "flip") mt_X5_flip rfl rfl rfl rfl fun X B => ?_
  refine pm_loc (L' := [some (.ref (z + a)), some (.int (nI i)), some (.int (nI k))]) rfl ?_
  refine pm_aload_n B dX5_flip_0 rfl ?_
  refine pm_get B dX5_flip_1 fl_X5_9 hA rfl ?_
  refine pm_iload_n B dX5_flip_4 rfl ?_
  refine pm_dup2 B dX5_flip_5 rfl rfl ?_
  refine pm_iald_n B dX5_flip_6 hP i (by first | assumption | omega) (by decide) ?_
  refine pm_iconst (v := 1) B dX5_flip_7 (by decide) ?_
  refine pm_iload_n B dX5_flip_8 rfl ?_
  refine pm_ishl B dX5_flip_9 ?_
  refine pm_ixor B dX5_flip_10 ?_
  refine pm_iast_n B dX5_flip_11 hP i (by first | assumption | omega) (by decide) ?_
  refine pm_mem (M' := pm_up M p (.inl (kA 0, 7, .inl (upd g i ((g i) ^^^ (1 <<< ((nI k) &&& 31))))))) rfl ?_
  refine pm_aload_n B dX5_flip_12 rfl ?_
  refine pm_get B dX5_flip_13 fl_X5_9 ((pm_up_n (fun e => by rw [e, hP] at hA; cases hA)).trans hA) rfl ?_
  refine pm_iload_n B dX5_flip_16 rfl ?_
  refine pm_dup2 B dX5_flip_17 rfl rfl ?_
  refine pm_iald_n B dX5_flip_18 pm_up_s k (by first | assumption | omega) (by decide) ?_
  refine pm_iconst (v := 1) B dX5_flip_19 (by decide) ?_
  refine pm_iload_n B dX5_flip_20 rfl ?_
  refine pm_ishl B dX5_flip_21 ?_
  refine pm_ixor B dX5_flip_22 ?_
  refine pm_iast_n B dX5_flip_23 pm_up_s k (by first | assumption | omega) (by decide) ?_
  refine pm_mem (M' := pm_up M p (.inl (kA 0, 7, .inl (upd (upd g i ((g i) ^^^ (1 <<< ((nI k) &&& 31)))) k (((upd g i ((g i) ^^^ (1 <<< ((nI k) &&& 31)))) k) ^^^ (1 <<< ((nI i) &&& 31))))))) pm_up_up ?_
  exact pm_return B dX5_flip_24 rfl ⟨rfl, rfl, rfl⟩ rfl rfl
set_option maxRecDepth 100000 in
set_option maxHeartbeats 4000000 in
theorem c_X5_total {l : Launch} {z : Nat} {D : va_G} {kA : Nat → ClassId} {kE : Nat → Nat} {nx : Nat} {M : pm_M} {a p : Nat} {g : Nat → Int32} (hA : M a = some (.inr (3, [.ref (z + p)]))) (hP : M p = some (.inl (kA 0, 7, .inl g))) : pm_C l z D kA kE yX5_total cX5_total 3 (some .int) 1 0 0 [.ref (z + a)] nx M (pm_rt (some (.int (pm_lt g 7 / 2))) nx M) := by
  refine pm_mk (own := RX5) (nm := "total") mt_X5_total rfl rfl rfl rfl fun X B => ?_
  refine pm_loc (L' := [some (.ref (z + a)), none, none]) rfl ?_
  refine pm_iconst (v := 0) B dX5_total_0 (by decide) ?_
  refine pm_istore_n B dX5_total_1 rfl rfl ?_
  refine pm_loc (L' := [some (.ref (z + a)), some (.int 0), none]) rfl ?_
  refine pm_iconst (v := 0) B dX5_total_2 (by decide) ?_
  refine pm_istore_n B dX5_total_3 rfl rfl ?_
  refine pm_loc (L' := [some (.ref (z + a)), some (.int 0), some (.int 0)]) rfl ?_
  refine pm_loc (L' := [some (.ref (z + a)), some (.int 0), some (.int (nI 0))]) rfl ?_
  have loop : ∀ (k j : Nat), j + k = 7 → ∀ (x : Int32), x = pm_lt g j → pm_G l z D X 0 0 (pm_Q z D (pm_rt (some (.int (pm_lt g 7 / 2))) nx M) 0 0 X) nx M 4 [some (.ref (z + a)), some (.int x), some (.int (nI j))] [] := by
    intro k
    induction k with
    | zero =>
      intro j hj x  hx
      have hjn : j = 7 := by omega
      refine pm_iload_n B dX5_total_4 rfl ?_
      refine pm_aload_n B dX5_total_5 rfl ?_
      refine pm_get B dX5_total_6 fl_X5_9 hA rfl ?_
      refine pm_alen B dX5_total_9 hP rfl rfl ?_
      refine pm_stk (st' := [.int (nI 7), .int (nI j)]) rfl ?_
      refine pm_icmp_ge (tgt := 31) B dX5_total_10 (by decide) (fun hq1 => ?_) (fun hq1 => absurd (by rw [hjn]; exact Int32.le_refl _) hq1)
      refine pm_iload_n B dX5_total_31 rfl ?_
      refine pm_iconst (v := 2) B dX5_total_32 (by decide) ?_
      refine pm_idiv B dX5_total_33 (by first | decide | assumption) ?_
      exact pm_ireturn B dX5_total_34 rfl (by first | rfl | (apply pm_nz; first | assumption | decide | exact pm_in01 _ _ _ | simp)) ⟨by rw [hx, hjn], rfl, rfl⟩ rfl rfl
    | succ k ih =>
      intro j hj x  hx
      have hjn : j < 7 := by omega
      refine pm_iload_n B dX5_total_4 rfl ?_
      refine pm_aload_n B dX5_total_5 rfl ?_
      refine pm_get B dX5_total_6 fl_X5_9 hA rfl ?_
      refine pm_alen B dX5_total_9 hP rfl rfl ?_
      refine pm_stk (st' := [.int (nI 7), .int (nI j)]) rfl ?_
      refine pm_icmp_ge (tgt := 31) B dX5_total_10 (by decide) (fun hq2 => absurd hq2 (nI_ge hjn (by omega))) (fun hq2 => ?_)
      refine pm_iload_n B dX5_total_13 rfl ?_
      refine pm_aload_n B dX5_total_14 rfl ?_
      refine pm_get B dX5_total_15 fl_X5_9 hA rfl ?_
      refine pm_iload_n B dX5_total_18 rfl ?_
      refine pm_iald_n B dX5_total_19 hP j (by first | assumption | omega) (by decide) ?_
      refine pm_cS (As := [.int (g j)]) (mc2 := 0) (ms2 := 0) B c_J6_bitCount_0f7a4 mt_J6_bitCount_0f7a4 ss_X5_21 dX5_total_20 rfl rfl rfl rfl rfl ?_
      refine pm_stk (st' := [.int (pm_bc (g j)), .int x]) rfl ?_
      refine pm_iadd B dX5_total_23 ?_
      refine pm_istore_n B dX5_total_24 rfl rfl ?_
      refine pm_loc (L' := [some (.ref (z + a)), some (.int (x + (pm_bc (g j)))), some (.int (nI j))]) rfl ?_
      refine pm_iinc B dX5_total_25 rfl rfl rfl ?_
      refine pm_loc (L' := [some (.ref (z + a)), some (.int (x + (pm_bc (g j)))), some (.int (nI (j + 1)))]) (by rw [show ((nI j) : Int32) + Int32.ofInt 1 = (nI (j + 1)) from nI_1 _]; rfl) ?_
      refine pm_goto (tgt := 4) B dX5_total_28 (by decide) ?_
      exact ih (j + 1) (by omega) _ (by rw [hx]; rfl)
  exact loop 7 0 (by omega) _  rfl
set_option maxRecDepth 100000 in
set_option maxHeartbeats 4000000 in
theorem c_X5_firstUnwatched {l : Launch} {z : Nat} {D : va_G} {kA : Nat → ClassId} {kE : Nat → Nat} {nx : Nat} {M : pm_M} {a p : Nat} {g : Nat → Int32} (hA : M a = some (.inr (3, [.ref (z + p)]))) (hP : M p = some (.inl (kA 0, 7, .inl g))) {s : Int32} : pm_C l z D kA kE yX5_firstUnwatched cX5_firstUnwatched 3 (some .int) 0 0 0 [.ref (z + a), .int s] nx M (pm_rt (some (.int (pm_fu g s 0 7))) nx M) := by
  refine pm_mk (own := RX5) (nm := "firstUnwatched") mt_X5_firstUnwatched rfl rfl rfl rfl fun X B => ?_
  refine pm_loc (L' := [some (.ref (z + a)), some (.int s), none]) rfl ?_
  refine pm_iconst (v := 0) B dX5_firstUnwatched_0 (by decide) ?_
  refine pm_istore_n B dX5_firstUnwatched_1 rfl rfl ?_
  refine pm_loc (L' := [some (.ref (z + a)), some (.int s), some (.int 0)]) rfl ?_
  refine pm_loc (L' := [some (.ref (z + a)), some (.int s), some (.int (nI 0))]) rfl ?_
  have loop : ∀ (k j : Nat), j + k = 7 → pm_fu g s 0 7 = pm_fu g s j k → pm_G l z D X 0 0 (pm_Q z D (pm_rt (some (.int (pm_fu g s 0 7))) nx M) 0 0 X) nx M 2 [some (.ref (z + a)), some (.int s), some (.int (nI j))] [] := by
    intro k
    induction k with
    | zero =>
      intro j hj   hx
      have hjn : j = 7 := by omega
      refine pm_iload_n B dX5_firstUnwatched_2 rfl ?_
      refine pm_aload_n B dX5_firstUnwatched_3 rfl ?_
      refine pm_get B dX5_firstUnwatched_4 fl_X5_9 hA rfl ?_
      refine pm_alen B dX5_firstUnwatched_7 hP rfl rfl ?_
      refine pm_stk (st' := [.int (nI 7), .int (nI j)]) rfl ?_
      refine pm_icmp_ge (tgt := 40) B dX5_firstUnwatched_8 (by decide) (fun hq1 => ?_) (fun hq1 => absurd (by rw [hjn]; exact Int32.le_refl _) hq1)
      refine pm_iconst (v := (-1)) B dX5_firstUnwatched_40 (by decide) ?_
      exact pm_ireturn B dX5_firstUnwatched_41 rfl (by first | rfl | (apply pm_nz; first | assumption | decide | exact pm_in01 _ _ _ | simp)) ⟨by rw [hx]; rfl, rfl, rfl⟩ rfl rfl
    | succ k ih =>
      intro j hj   hx
      have hjn : j < 7 := by omega
      refine pm_iload_n B dX5_firstUnwatched_2 rfl ?_
      refine pm_aload_n B dX5_firstUnwatched_3 rfl ?_
      refine pm_get B dX5_firstUnwatched_4 fl_X5_9 hA rfl ?_
      refine pm_alen B dX5_firstUnwatched_7 hP rfl rfl ?_
      refine pm_stk (st' := [.int (nI 7), .int (nI j)]) rfl ?_
      refine pm_icmp_ge (tgt := 40) B dX5_firstUnwatched_8 (by decide) (fun hq2 => absurd hq2 (nI_ge hjn (by omega))) (fun hq2 => ?_)
      refine pm_iload_n B dX5_firstUnwatched_11 rfl ?_
      refine pm_iload_n B dX5_firstUnwatched_12 rfl ?_
      refine pm_ishr B dX5_firstUnwatched_13 ?_
      refine pm_iconst (v := 1) B dX5_firstUnwatched_14 (by decide) ?_
      refine pm_iand B dX5_firstUnwatched_15 ?_
      refine pm_if_ne (tgt := 34) B dX5_firstUnwatched_16 (by decide) (fun hq3 => ?_) (fun hq3 => ?_)
      · refine pm_iinc B dX5_firstUnwatched_34 rfl rfl rfl ?_
        refine pm_loc (L' := [some (.ref (z + a)), some (.int s), some (.int (nI (j + 1)))]) (by rw [show ((nI j) : Int32) + Int32.ofInt 1 = (nI (j + 1)) from nI_1 _]; rfl) ?_
        refine pm_goto (tgt := 2) B dX5_firstUnwatched_37 (by decide) ?_
        exact ih (j + 1) (by omega) (by rw [hx]; conv => (lhs; unfold pm_fu); rw [if_neg hq3])
      · refine pm_aload_n B dX5_firstUnwatched_19 rfl ?_
        refine pm_get B dX5_firstUnwatched_20 fl_X5_9 hA rfl ?_
        refine pm_iload_n B dX5_firstUnwatched_23 rfl ?_
        refine pm_iald_n B dX5_firstUnwatched_24 hP j (by first | assumption | omega) (by decide) ?_
        refine pm_iload_n B dX5_firstUnwatched_25 rfl ?_
        refine pm_iconst (v := (-1)) B dX5_firstUnwatched_26 (by decide) ?_
        refine pm_ixor B dX5_firstUnwatched_27 ?_
        refine pm_iand B dX5_firstUnwatched_28 ?_
        refine pm_if_eq (tgt := 34) B dX5_firstUnwatched_29 (by decide) (fun hq4 => ?_) (fun hq4 => ?_)
        · refine pm_iinc B dX5_firstUnwatched_34 rfl rfl rfl ?_
          refine pm_loc (L' := [some (.ref (z + a)), some (.int s), some (.int (nI (j + 1)))]) (by rw [show ((nI j) : Int32) + Int32.ofInt 1 = (nI (j + 1)) from nI_1 _]; rfl) ?_
          refine pm_goto (tgt := 2) B dX5_firstUnwatched_37 (by decide) ?_
          exact ih (j + 1) (by omega) (by rw [hx]; conv => (lhs; unfold pm_fu); rw [if_pos hq3, if_pos hq4])
        · refine pm_iload_n B dX5_firstUnwatched_32 rfl ?_
          exact pm_ireturn B dX5_firstUnwatched_33 rfl (by first | rfl | (apply pm_nz; first | assumption | decide | exact pm_in01 _ _ _ | simp)) ⟨by rw [hx]; unfold pm_fu; rw [if_pos hq3, if_neg hq4], rfl, rfl⟩ rfl rfl
  exact loop 7 0 (by omega)   rfl
set_option maxRecDepth 100000 in
set_option maxHeartbeats 4000000 in
theorem c_X5_fewestBySets {l : Launch} {z : Nat} {D : va_G} {kA : Nat → ClassId} {kE : Nat → Nat} {nx : Nat} {M : pm_M} {a p : Nat} {g : Nat → Int32} (hA : M a = some (.inr (3, [.ref (z + p)]))) (hP : M p = some (.inl (kA 0, 7, .inl g))) {n : Nat} (hn : n ≤ 7) : pm_C l z D kA kE yX5_fewestBySets cX5_fewestBySets 4 (some .int) 1 0 0 [.ref (z + a), .int (nI n)] nx M (pm_rt (some (.int (pm_fw g n (2 ^ n)))) nx M) := by
  refine pm_mk (own := RX5) (nm := "fewestBySets") mt_X5_fewestBySets rfl rfl rfl rfl fun X B => ?_
  refine pm_loc (L' := [some (.ref (z + a)), some (.int (nI n)), none, none]) rfl ?_
  have h128 := pm_p7 hn
  refine pm_iload_n B dX5_fewestBySets_0 rfl ?_
  refine pm_istore_n B dX5_fewestBySets_1 rfl rfl ?_
  refine pm_loc (L' := [some (.ref (z + a)), some (.int (nI n)), some (.int (nI n)), none]) rfl ?_
  refine pm_iconst (v := 0) B dX5_fewestBySets_2 (by decide) ?_
  refine pm_istore_n B dX5_fewestBySets_3 rfl rfl ?_
  refine pm_loc (L' := [some (.ref (z + a)), some (.int (nI n)), some (.int (nI n)), some (.int 0)]) rfl ?_
  refine pm_loc (L' := [some (.ref (z + a)), some (.int (nI n)), some (.int (nI n)), some (.int (nI 0))]) rfl ?_
  have loop : ∀ (k j : Nat), j + k = (2 ^ n) → ∀ (x : Int32), x = pm_fw g n j → pm_G l z D X 0 0 (pm_Q z D (pm_rt (some (.int (pm_fw g n (2 ^ n)))) nx M) 0 0 X) nx M 4 [some (.ref (z + a)), some (.int (nI n)), some (.int x), some (.int (nI j))] [] := by
    intro k
    induction k with
    | zero =>
      intro j hj x  hx
      have hjn : j = (2 ^ n) := by omega
      refine pm_iload_n B dX5_fewestBySets_4 rfl ?_
      refine pm_iconst (v := 1) B dX5_fewestBySets_5 (by decide) ?_
      refine pm_iload_n B dX5_fewestBySets_6 rfl ?_
      refine pm_ishl B dX5_fewestBySets_7 ?_
      refine pm_stk (st' := [.int (nI (2 ^ n)), .int (nI j)]) (by rw [pm_sh1 n hn]) ?_
      refine pm_icmp_ge (tgt := 34) B dX5_fewestBySets_8 (by decide) (fun hq1 => ?_) (fun hq1 => absurd (by rw [hjn]; exact Int32.le_refl _) hq1)
      refine pm_iload_n B dX5_fewestBySets_34 rfl ?_
      exact pm_ireturn B dX5_fewestBySets_35 rfl (by first | rfl | (apply pm_nz; first | assumption | decide | exact pm_in01 _ _ _ | simp)) ⟨by rw [hx, hjn], rfl, rfl⟩ rfl rfl
    | succ k ih =>
      intro j hj x  hx
      have hjn : j < (2 ^ n) := by omega
      refine pm_iload_n B dX5_fewestBySets_4 rfl ?_
      refine pm_iconst (v := 1) B dX5_fewestBySets_5 (by decide) ?_
      refine pm_iload_n B dX5_fewestBySets_6 rfl ?_
      refine pm_ishl B dX5_fewestBySets_7 ?_
      refine pm_stk (st' := [.int (nI (2 ^ n)), .int (nI j)]) (by rw [pm_sh1 n hn]) ?_
      refine pm_icmp_ge (tgt := 34) B dX5_fewestBySets_8 (by decide) (fun hq2 => absurd hq2 (nI_ge hjn (by omega))) (fun hq2 => ?_)
      refine pm_aload_n B dX5_fewestBySets_11 rfl ?_
      refine pm_iload_n B dX5_fewestBySets_12 rfl ?_
      refine pm_cV (As := [.int (nI j)]) (mc2 := 0) (ms2 := 0) B rfl hA rfl (c_X5_firstUnwatched hA hP) mt_X5_firstUnwatched sv_X5_27 dX5_fewestBySets_13 rfl rfl rfl rfl rfl ?_
      refine pm_stk (st' := [.int (pm_fu g (nI j) 0 7)]) rfl ?_
      refine pm_if_ge (tgt := 28) B dX5_fewestBySets_16 (by decide) (fun hq3 => ?_) (fun hq3 => ?_)
      · refine pm_iinc B dX5_fewestBySets_28 rfl rfl rfl ?_
        refine pm_loc (L' := [some (.ref (z + a)), some (.int (nI n)), some (.int x), some (.int (nI (j + 1)))]) (by rw [show ((nI j) : Int32) + Int32.ofInt 1 = (nI (j + 1)) from nI_1 _]; rfl) ?_
        refine pm_goto (tgt := 4) B dX5_fewestBySets_31 (by decide) ?_
        exact ih (j + 1) (by omega) _ (by rw [hx]; simp only [pm_fw]; rw [if_neg (Int32.not_lt.mpr hq3)])
      · refine pm_iload_n B dX5_fewestBySets_19 rfl ?_
        refine pm_iload_n B dX5_fewestBySets_20 rfl ?_
        refine pm_cS (As := [.int (nI j)]) (mc2 := 0) (ms2 := 0) B c_J6_bitCount_0f7a4 mt_J6_bitCount_0f7a4 ss_X5_21 dX5_fewestBySets_21 rfl rfl rfl rfl rfl ?_
        refine pm_stk (st' := [.int (pm_bc (nI j)), .int x]) rfl ?_
        refine pm_mmin B dX5_fewestBySets_24 (pm_T_in 1019 (by decide +kernel) (by decide +kernel)) rfl rfl rfl rfl ?_
        refine pm_istore_n B dX5_fewestBySets_27 rfl rfl ?_
        refine pm_loc (L' := [some (.ref (z + a)), some (.int (nI n)), some (.int (pm_min x (pm_bc (nI j)))), some (.int (nI j))]) rfl ?_
        refine pm_iinc B dX5_fewestBySets_28 rfl rfl rfl ?_
        refine pm_loc (L' := [some (.ref (z + a)), some (.int (nI n)), some (.int (pm_min x (pm_bc (nI j)))), some (.int (nI (j + 1)))]) (by rw [show ((nI j) : Int32) + Int32.ofInt 1 = (nI (j + 1)) from nI_1 _]; rfl) ?_
        refine pm_goto (tgt := 4) B dX5_fewestBySets_31 (by decide) ?_
        exact ih (j + 1) (by omega) _ (by rw [hx]; simp only [pm_fw]; rw [if_pos (Int32.not_le.mp hq3)])
  exact loop (2 ^ n) 0 (by omega) _  rfl
set_option maxRecDepth 100000 in
set_option maxHeartbeats 4000000 in
theorem c_X5_fewestFrom {l : Launch} {z : Nat} {D : va_G} {kA : Nat → ClassId} {kE : Nat → Nat} {nx : Nat} {M : pm_M} {a p : Nat} {g : Nat → Int32} (hA : M a = some (.inr (3, [.ref (z + p)]))) (hP : M p = some (.inl (kA 0, 7, .inl g))) {n : Nat} (hn : n ≤ 7) : ∀ (k dep : Nat) (s : Int32), dep + k = n → pm_C l z D kA kE yX5_fewestFrom cX5_fewestFrom 9 (some .int) (k + 1) 0 0 [.ref (z + a), .int (nI n), .int s, .int (nI dep)] nx M (pm_rt (some (.int (pm_ff g k s dep))) nx M) := by
  intro k
  induction k with
  | zero =>
    intro dep s hd
    refine pm_mk (own := RX5) (nm := "fewestFrom") mt_X5_fewestFrom rfl rfl rfl rfl fun X B => ?_
    refine pm_loc (L' := [some (.ref (z + a)), some (.int (nI n)), some (.int s), some (.int (nI dep)), none, none, none, none, none]) rfl ?_
    refine pm_aload_n B dX5_fewestFrom_0 rfl ?_
    refine pm_iload_n B dX5_fewestFrom_1 rfl ?_
    refine pm_cV (As := [.int s]) (mc2 := 0) (ms2 := 0) B rfl hA rfl (c_X5_firstUnwatched hA hP) mt_X5_firstUnwatched sv_X5_27 dX5_fewestFrom_2 rfl rfl rfl rfl rfl ?_
    refine pm_stk (st' := [.int (pm_fu g s 0 7)]) rfl ?_
    refine pm_istore B dX5_fewestFrom_5 rfl rfl ?_
    refine pm_loc (L' := [some (.ref (z + a)), some (.int (nI n)), some (.int s), some (.int (nI dep)), some (.int (pm_fu g s 0 7)), none, none, none, none]) rfl ?_
    refine pm_iload B dX5_fewestFrom_7 rfl ?_
    refine pm_if_lt (tgt := 17) B dX5_fewestFrom_9 (by decide) (fun hq1 => ?_) (fun hq1 => ?_)
    · refine pm_iload_n B dX5_fewestFrom_17 rfl ?_
      exact pm_ireturn B dX5_fewestFrom_18 rfl (by first | rfl | (apply pm_nz; first | assumption | decide | exact pm_in01 _ _ _ | simp)) ⟨rfl, rfl, rfl⟩ rfl rfl
    · refine pm_iload_n B dX5_fewestFrom_12 rfl ?_
      refine pm_iload_n B dX5_fewestFrom_13 rfl ?_
      refine pm_icmp_lt (tgt := 19) B dX5_fewestFrom_14 (by decide) (fun hq2 => absurd hq2 (by rw [show dep = n by omega]; exact fun e => Int32.lt_irrefl e)) (fun hq2 => ?_)
      refine pm_iload_n B dX5_fewestFrom_17 rfl ?_
      exact pm_ireturn B dX5_fewestFrom_18 rfl (by first | rfl | (apply pm_nz; first | assumption | decide | exact pm_in01 _ _ _ | simp)) ⟨rfl, rfl, rfl⟩ rfl rfl
  | succ k ih =>
    intro dep s hd
    refine pm_mk (own := RX5) (nm := "fewestFrom") mt_X5_fewestFrom rfl rfl rfl rfl fun X B => ?_
    refine pm_loc (L' := [some (.ref (z + a)), some (.int (nI n)), some (.int s), some (.int (nI dep)), none, none, none, none, none]) rfl ?_
    refine pm_aload_n B dX5_fewestFrom_0 rfl ?_
    refine pm_iload_n B dX5_fewestFrom_1 rfl ?_
    refine pm_cV (As := [.int s]) (mc2 := 0) (ms2 := 0) B rfl hA rfl (c_X5_firstUnwatched hA hP) mt_X5_firstUnwatched sv_X5_27 dX5_fewestFrom_2 rfl rfl rfl rfl rfl ?_
    refine pm_stk (st' := [.int (pm_fu g s 0 7)]) rfl ?_
    refine pm_istore B dX5_fewestFrom_5 rfl rfl ?_
    refine pm_loc (L' := [some (.ref (z + a)), some (.int (nI n)), some (.int s), some (.int (nI dep)), some (.int (pm_fu g s 0 7)), none, none, none, none]) rfl ?_
    refine pm_iload B dX5_fewestFrom_7 rfl ?_
    refine pm_if_lt (tgt := 17) B dX5_fewestFrom_9 (by decide) (fun hq3 => ?_) (fun hq3 => ?_)
    · refine pm_iload_n B dX5_fewestFrom_17 rfl ?_
      exact pm_ireturn B dX5_fewestFrom_18 rfl (by first | rfl | (apply pm_nz; first | assumption | decide | exact pm_in01 _ _ _ | simp)) ⟨by unfold pm_ff; rw [if_pos hq3], rfl, rfl⟩ rfl rfl
    · refine pm_iload_n B dX5_fewestFrom_12 rfl ?_
      refine pm_iload_n B dX5_fewestFrom_13 rfl ?_
      refine pm_icmp_lt (tgt := 19) B dX5_fewestFrom_14 (by decide) (fun hq4 => ?_) (fun hq4 => absurd ((nI_ltI (by omega) (by omega)).mpr (by omega)) hq4)
      rcases pm_fu_in g s 7 0 (by omega) with hf | ⟨i, hi, hf⟩
      · exact absurd (by rw [hf]; decide) hq3
      have hff : pm_ff g (k + 1) s dep = pm_min (pm_ff g k (s ||| ((1 : Int32) <<< (nI i &&& 31))) (dep + 1)) (pm_ff g k (s ||| ((g i &&& (s ^^^ (-1))) &&& (-(g i &&& (s ^^^ (-1)))))) (dep + 1)) := by
        conv => lhs; unfold pm_ff
        rw [if_neg hq3]
        simp only [hf]
        rw [nI_clamp (by omega)]
      refine pm_loc (L' := [some (.ref (z + a)), some (.int (nI n)), some (.int s), some (.int (nI dep)), some (.int (nI i)), none, none, none, none]) (by rw [hf]) ?_
      refine pm_aload_n B dX5_fewestFrom_19 rfl ?_
      refine pm_get B dX5_fewestFrom_20 fl_X5_9 hA rfl ?_
      refine pm_iload B dX5_fewestFrom_23 rfl ?_
      refine pm_iald_n B dX5_fewestFrom_25 hP i (by first | assumption | omega) (by decide) ?_
      refine pm_iload_n B dX5_fewestFrom_26 rfl ?_
      refine pm_iconst (v := (-1)) B dX5_fewestFrom_27 (by decide) ?_
      refine pm_ixor B dX5_fewestFrom_28 ?_
      refine pm_iand B dX5_fewestFrom_29 ?_
      refine pm_istore B dX5_fewestFrom_30 rfl rfl ?_
      refine pm_loc (L' := [some (.ref (z + a)), some (.int (nI n)), some (.int s), some (.int (nI dep)), some (.int (nI i)), some (.int ((g i) &&& (s ^^^ (-1)))), none, none, none]) rfl ?_
      refine pm_iload B dX5_fewestFrom_32 rfl ?_
      refine pm_iload B dX5_fewestFrom_34 rfl ?_
      refine pm_ineg B dX5_fewestFrom_36 ?_
      refine pm_iand B dX5_fewestFrom_37 ?_
      refine pm_istore B dX5_fewestFrom_38 rfl rfl ?_
      refine pm_loc (L' := [some (.ref (z + a)), some (.int (nI n)), some (.int s), some (.int (nI dep)), some (.int (nI i)), some (.int ((g i) &&& (s ^^^ (-1)))), some (.int (((g i) &&& (s ^^^ (-1))) &&& (-((g i) &&& (s ^^^ (-1)))))), none, none]) rfl ?_
      refine pm_aload_n B dX5_fewestFrom_40 rfl ?_
      refine pm_iload_n B dX5_fewestFrom_41 rfl ?_
      refine pm_iload_n B dX5_fewestFrom_42 rfl ?_
      refine pm_iconst (v := 1) B dX5_fewestFrom_43 (by decide) ?_
      refine pm_iload B dX5_fewestFrom_44 rfl ?_
      refine pm_ishl B dX5_fewestFrom_46 ?_
      refine pm_ior B dX5_fewestFrom_47 ?_
      refine pm_iload_n B dX5_fewestFrom_48 rfl ?_
      refine pm_iconst (v := 1) B dX5_fewestFrom_49 (by decide) ?_
      refine pm_iadd B dX5_fewestFrom_50 ?_
      refine pm_stk (st' := [.int (nI (dep + 1)), .int (s ||| (1 <<< ((nI i) &&& 31))), .int (nI n), .ref (z + a)]) (by rw [show nI dep + 1 = nI (dep + 1) from nI_1 _]) ?_
      refine pm_cS (As := [.ref (z + a), .int (nI n), .int (s ||| (1 <<< ((nI i) &&& 31))), .int (nI (dep + 1))]) (mc2 := 0) (ms2 := 0) (d2 := k + 1) B (ih (dep + 1) (s ||| (1 <<< ((nI i) &&& 31))) (by omega)) mt_X5_fewestFrom ss_X5_36 dX5_fewestFrom_51 rfl (by simp) rfl rfl rfl ?_
      refine pm_stk (st' := [.int (pm_ff g k (s ||| (1 <<< ((nI i) &&& 31))) (dep + 1))]) rfl ?_
      refine pm_istore B dX5_fewestFrom_54 rfl rfl ?_
      refine pm_loc (L' := [some (.ref (z + a)), some (.int (nI n)), some (.int s), some (.int (nI dep)), some (.int (nI i)), some (.int ((g i) &&& (s ^^^ (-1)))), some (.int (((g i) &&& (s ^^^ (-1))) &&& (-((g i) &&& (s ^^^ (-1)))))), some (.int (pm_ff g k (s ||| (1 <<< ((nI i) &&& 31))) (dep + 1))), none]) rfl ?_
      refine pm_aload_n B dX5_fewestFrom_56 rfl ?_
      refine pm_iload_n B dX5_fewestFrom_57 rfl ?_
      refine pm_iload_n B dX5_fewestFrom_58 rfl ?_
      refine pm_iload B dX5_fewestFrom_59 rfl ?_
      refine pm_ior B dX5_fewestFrom_61 ?_
      refine pm_iload_n B dX5_fewestFrom_62 rfl ?_
      refine pm_iconst (v := 1) B dX5_fewestFrom_63 (by decide) ?_
      refine pm_iadd B dX5_fewestFrom_64 ?_
      refine pm_stk (st' := [.int (nI (dep + 1)), .int (s ||| (((g i) &&& (s ^^^ (-1))) &&& (-((g i) &&& (s ^^^ (-1)))))), .int (nI n), .ref (z + a)]) (by rw [show nI dep + 1 = nI (dep + 1) from nI_1 _]) ?_
      refine pm_cS (As := [.ref (z + a), .int (nI n), .int (s ||| (((g i) &&& (s ^^^ (-1))) &&& (-((g i) &&& (s ^^^ (-1)))))), .int (nI (dep + 1))]) (mc2 := 0) (ms2 := 0) (d2 := k + 1) B (ih (dep + 1) (s ||| (((g i) &&& (s ^^^ (-1))) &&& (-((g i) &&& (s ^^^ (-1)))))) (by omega)) mt_X5_fewestFrom ss_X5_36 dX5_fewestFrom_65 rfl (by simp) rfl rfl rfl ?_
      refine pm_stk (st' := [.int (pm_ff g k (s ||| (((g i) &&& (s ^^^ (-1))) &&& (-((g i) &&& (s ^^^ (-1)))))) (dep + 1))]) rfl ?_
      refine pm_istore B dX5_fewestFrom_68 rfl rfl ?_
      refine pm_loc (L' := [some (.ref (z + a)), some (.int (nI n)), some (.int s), some (.int (nI dep)), some (.int (nI i)), some (.int ((g i) &&& (s ^^^ (-1)))), some (.int (((g i) &&& (s ^^^ (-1))) &&& (-((g i) &&& (s ^^^ (-1)))))), some (.int (pm_ff g k (s ||| (1 <<< ((nI i) &&& 31))) (dep + 1))), some (.int (pm_ff g k (s ||| (((g i) &&& (s ^^^ (-1))) &&& (-((g i) &&& (s ^^^ (-1)))))) (dep + 1)))]) rfl ?_
      refine pm_iload B dX5_fewestFrom_70 rfl ?_
      refine pm_iload B dX5_fewestFrom_72 rfl ?_
      refine pm_mmin B dX5_fewestFrom_74 (pm_T_in 1019 (by decide +kernel) (by decide +kernel)) rfl rfl rfl rfl ?_
      exact pm_ireturn B dX5_fewestFrom_77 rfl (by first | rfl | (apply pm_nz; first | assumption | decide | exact pm_in01 _ _ _ | simp)) ⟨by rw [hff], rfl, rfl⟩ rfl rfl
