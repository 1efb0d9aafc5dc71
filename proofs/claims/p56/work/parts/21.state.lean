/-! State: eleven cells from b on, with the ints of the row r -/
def pm_sr (r : Nat → Int32) (i : Nat) : va_E := pm_mb (r (7 + 6 * i)) (r (8 + 6 * i)) (r (9 + 6 * i)) (r (10 + 6 * i)) (r (11 + 6 * i)) (r (12 + 6 * i))
def pm_St (z : Nat) (kA : Nat → ClassId) (M : pm_M) (b : Nat) (r : Nat → Int32) : Prop :=
  M b = some (.inr (8, [.ref (z + (b + 1)), .ref (z + (b + 9)), .int (r 0), .int (r 1), .int (r 2), .int (r 3), .int (r 4), .int (r 5), .int (r 6)])) ∧
  (∃ f : Nat → Option Nat, M (b + 1) = some (.inl (kA 6, 7, .inr (.inr (.inr (.inr f))))) ∧ ∀ i, i < 7 → f i = some (z + (b + 2 + i))) ∧
  (∀ i, i < 7 → M (b + 2 + i) = some (pm_mb (r (7 + 6 * i)) (r (8 + 6 * i)) (r (9 + 6 * i)) (r (10 + 6 * i)) (r (11 + 6 * i)) (r (12 + 6 * i)))) ∧
  M (b + 9) = some (.inr (3, [.ref (z + (b + 10))])) ∧
  ∃ g : Nat → Int32, M (b + 10) = some (.inl (kA 0, 7, .inl g)) ∧ ∀ j, j < 7 → g j = r (49 + j)
/-- is the member active, loyal; its units above the quota -/
def pm_ac (r : Nat → Int32) (i : Nat) : Bool := decide (r (12 + 6 * i) = 0)
def pm_lo (r : Nat → Int32) (i : Nat) : Bool := decide (r (12 + 6 * i) = 0 ∧ r (11 + 6 * i) = 0)
abbrev pm_ov (r : Nat → Int32) (i : Nat) : Int32 := pm_max 0 (r (10 + 6 * i) - r (9 + 6 * i))
def pm_acS (r : Nat → Int32) : Nat → Int32
  | 0 => 0
  | j + 1 => pm_acS r j ||| (if r (12 + 6 * j) = 0 then (1 : Int32) <<< (nI j &&& 31) else 0)
def pm_loC (r : Nat → Int32) : Nat → Int32
  | 0 => 0
  | j + 1 => pm_loC r j + (if r (12 + 6 * j) = 0 ∧ r (11 + 6 * j) = 0 then 1 else 0)
/-- does i come ahead of k by excess -/
def pm_ah (r : Nat → Int32) (i k : Nat) : Int32 := if pm_ov r i = pm_ov r k then (if r (10 + 6 * i) = r (10 + 6 * k) then (if nI k ≤ nI i then 0 else 1) else (if r (10 + 6 * i) ≤ r (10 + 6 * k) then 0 else 1)) else (if pm_ov r i ≤ pm_ov r k then 0 else 1)
def pm_ahC (r : Nat → Int32) (k : Nat) : Nat → Int32
  | 0 => 0
  | j + 1 => pm_ahC r k j + (if pm_ah r j k = 0 then 0 else 1)
theorem pm_if01 (p : Prop) (q : Decidable p) : (if p then (1 : Int32) else 0) = 0 ↔ ¬ p := by by_cases h : p <;> simp [h]
set_option maxRecDepth 100000 in
set_option maxHeartbeats 4000000 in
theorem c_X10_hasMember {l : Launch} {z : Nat} {D : va_G} {kA : Nat → ClassId} {kE : Nat → Nat} {nx : Nat} {M : pm_M} {b n : Nat} {r : Nat → Int32} (hS : pm_St z kA M b r) (hn : r 0 = nI n) (h7 : n ≤ 7) {x : Int32} : pm_C l z D kA kE yX10_hasMember cX10_hasMember 2 (some .boolean) 0 0 0 [.ref (z + b), .int x] nx M (pm_rt (some (.int (if x < 0 ∨ nI n ≤ x then 0 else 1))) nx M) := by
  refine pm_mk (own := RX10) (nm := "hasMember") mt_X10_hasMember rfl rfl rfl rfl fun X B => ?_
  refine pm_loc (L' := [some (.ref (z + b)), some (.int x)]) rfl ?_
  obtain ⟨hb, ⟨f, hf, hff⟩, hmem, hlk, ⟨gl, hgl, hgg⟩⟩ := hS
  rw [hn] at hb
  refine pm_iload_n B dX10_hasMember_0 rfl ?_
  refine pm_if_lt (tgt := 16) B dX10_hasMember_1 (by decide) (fun hq1 => ?_) (fun hq1 => ?_)
  · refine pm_iconst (v := 0) B dX10_hasMember_16 (by decide) ?_
    exact pm_ireturn B dX10_hasMember_17 rfl (by first | rfl | (apply pm_nz; first | assumption | decide | exact pm_in01 _ _ _ | simp)) ⟨by simp_all, rfl, rfl⟩ rfl rfl
  · refine pm_iload_n B dX10_hasMember_4 rfl ?_
    refine pm_aload_n B dX10_hasMember_5 rfl ?_
    refine pm_get B dX10_hasMember_6 fl_X10_36 hb rfl ?_
    refine pm_icmp_ge (tgt := 16) B dX10_hasMember_9 (by decide) (fun hq2 => ?_) (fun hq2 => ?_)
    · refine pm_iconst (v := 0) B dX10_hasMember_16 (by decide) ?_
      exact pm_ireturn B dX10_hasMember_17 rfl (by first | rfl | (apply pm_nz; first | assumption | decide | exact pm_in01 _ _ _ | simp)) ⟨by simp_all, rfl, rfl⟩ rfl rfl
    · refine pm_iconst (v := 1) B dX10_hasMember_12 (by decide) ?_
      refine pm_goto (tgt := 17) B dX10_hasMember_13 (by decide) ?_
      exact pm_ireturn B dX10_hasMember_17 rfl (by first | rfl | (apply pm_nz; first | assumption | decide | exact pm_in01 _ _ _ | simp)) ⟨by simp_all, rfl, rfl⟩ rfl rfl
set_option maxRecDepth 100000 in
set_option maxHeartbeats 4000000 in
theorem c_X10_activeSet {l : Launch} {z : Nat} {D : va_G} {kA : Nat → ClassId} {kE : Nat → Nat} {nx : Nat} {M : pm_M} {b n : Nat} {r : Nat → Int32} (hS : pm_St z kA M b r) (hn : r 0 = nI n) (h7 : n ≤ 7) : pm_C l z D kA kE yX10_activeSet cX10_activeSet 3 (some .int) 1 0 0 [.ref (z + b)] nx M (pm_rt (some (.int (pm_acS r n))) nx M) := by
  refine pm_mk (own := RX10) (nm := "activeSet") mt_X10_activeSet rfl rfl rfl rfl fun X B => ?_
  refine pm_loc (L' := [some (.ref (z + b)), none, none]) rfl ?_
  obtain ⟨hb, ⟨f, hf, hff⟩, hmem, hlk, ⟨gl, hgl, hgg⟩⟩ := hS
  rw [hn] at hb
  refine pm_iconst (v := 0) B dX10_activeSet_0 (by decide) ?_
  refine pm_istore_n B dX10_activeSet_1 rfl rfl ?_
  refine pm_loc (L' := [some (.ref (z + b)), some (.int 0), none]) rfl ?_
  refine pm_iconst (v := 0) B dX10_activeSet_2 (by decide) ?_
  refine pm_istore_n B dX10_activeSet_3 rfl rfl ?_
  refine pm_loc (L' := [some (.ref (z + b)), some (.int 0), some (.int 0)]) rfl ?_
  refine pm_loc (L' := [some (.ref (z + b)), some (.int 0), some (.int (nI 0))]) rfl ?_
  have loop : ∀ (k j : Nat), j + k = n → ∀ (x : Int32), x = pm_acS r j → pm_G l z D X 0 0 (pm_Q z D (pm_rt (some (.int (pm_acS r n))) nx M) 0 0 X) nx M 4 [some (.ref (z + b)), some (.int x), some (.int (nI j))] [] := by
    intro k
    induction k with
    | zero =>
      intro j hj x  hx
      have hjn : j = n := by omega
      refine pm_iload_n B dX10_activeSet_4 rfl ?_
      refine pm_aload_n B dX10_activeSet_5 rfl ?_
      refine pm_get B dX10_activeSet_6 fl_X10_36 hb rfl ?_
      refine pm_icmp_ge (tgt := 40) B dX10_activeSet_9 (by decide) (fun hq1 => ?_) (fun hq1 => absurd (by rw [hjn]; exact Int32.le_refl _) hq1)
      refine pm_iload_n B dX10_activeSet_40 rfl ?_
      exact pm_ireturn B dX10_activeSet_41 rfl (by first | rfl | (apply pm_nz; first | assumption | decide | exact pm_in01 _ _ _ | simp)) ⟨by rw [hx, hjn], rfl, rfl⟩ rfl rfl
    | succ k ih =>
      intro j hj x  hx
      have hjn : j < n := by omega
      refine pm_iload_n B dX10_activeSet_4 rfl ?_
      refine pm_aload_n B dX10_activeSet_5 rfl ?_
      refine pm_get B dX10_activeSet_6 fl_X10_36 hb rfl ?_
      refine pm_icmp_ge (tgt := 40) B dX10_activeSet_9 (by decide) (fun hq2 => absurd hq2 (nI_ge hjn (by omega))) (fun hq2 => ?_)
      refine pm_iload_n B dX10_activeSet_12 rfl ?_
      refine pm_aload_n B dX10_activeSet_13 rfl ?_
      refine pm_get B dX10_activeSet_14 fl_X10_11 hb rfl ?_
      refine pm_iload_n B dX10_activeSet_17 rfl ?_
      refine pm_aald_n B dX10_activeSet_18 hf rfl j (by first | assumption | omega) (by decide) (by rw [hff _ (by first | assumption | omega)]) ?_
      refine pm_cV (As := []) (mc2 := 0) (ms2 := 0) B rfl (hmem j (by omega)) rfl (c_X6_isActive (hmem j (by omega))) mt_X6_isActive sv_X10_58 dX10_activeSet_19 rfl rfl rfl rfl rfl ?_
      refine pm_stk (st' := [.int (if (r (12 + 6 * j)) = 0 then 1 else 0), .int x]) rfl ?_
      refine pm_if_eq (tgt := 31) B dX10_activeSet_22 (by decide) (fun hq3 => ?_) (fun hq3 => ?_)
      · refine pm_iconst (v := 0) B dX10_activeSet_31 (by decide) ?_
        refine pm_ior B dX10_activeSet_32 ?_
        refine pm_istore_n B dX10_activeSet_33 rfl rfl ?_
        refine pm_loc (L' := [some (.ref (z + b)), some (.int (x ||| 0)), some (.int (nI j))]) rfl ?_
        refine pm_iinc B dX10_activeSet_34 rfl rfl rfl ?_
        refine pm_loc (L' := [some (.ref (z + b)), some (.int (x ||| 0)), some (.int (nI (j + 1)))]) (by rw [show ((nI j) : Int32) + Int32.ofInt 1 = (nI (j + 1)) from nI_1 _]; rfl) ?_
        refine pm_goto (tgt := 4) B dX10_activeSet_37 (by decide) ?_
        exact ih (j + 1) (by omega) _ (by rw [hx]; simp only [pm_acS]; simp_all)
      · refine pm_iconst (v := 1) B dX10_activeSet_25 (by decide) ?_
        refine pm_iload_n B dX10_activeSet_26 rfl ?_
        refine pm_ishl B dX10_activeSet_27 ?_
        refine pm_goto (tgt := 32) B dX10_activeSet_28 (by decide) ?_
        refine pm_ior B dX10_activeSet_32 ?_
        refine pm_istore_n B dX10_activeSet_33 rfl rfl ?_
        refine pm_loc (L' := [some (.ref (z + b)), some (.int (x ||| (1 <<< ((nI j) &&& 31)))), some (.int (nI j))]) rfl ?_
        refine pm_iinc B dX10_activeSet_34 rfl rfl rfl ?_
        refine pm_loc (L' := [some (.ref (z + b)), some (.int (x ||| (1 <<< ((nI j) &&& 31)))), some (.int (nI (j + 1)))]) (by rw [show ((nI j) : Int32) + Int32.ofInt 1 = (nI (j + 1)) from nI_1 _]; rfl) ?_
        refine pm_goto (tgt := 4) B dX10_activeSet_37 (by decide) ?_
        exact ih (j + 1) (by omega) _ (by rw [hx]; simp only [pm_acS]; simp_all)
  exact loop n 0 (by omega) _  rfl
set_option maxRecDepth 100000 in
set_option maxHeartbeats 4000000 in
theorem c_X10_loyalCount {l : Launch} {z : Nat} {D : va_G} {kA : Nat → ClassId} {kE : Nat → Nat} {nx : Nat} {M : pm_M} {b n : Nat} {r : Nat → Int32} (hS : pm_St z kA M b r) (hn : r 0 = nI n) (h7 : n ≤ 7) : pm_C l z D kA kE yX10_loyalCount cX10_loyalCount 3 (some .int) 1 0 0 [.ref (z + b)] nx M (pm_rt (some (.int (pm_loC r n))) nx M) := by
  refine pm_mk (own := RX10) (nm := "loyalCount") mt_X10_loyalCount rfl rfl rfl rfl fun X B => ?_
  refine pm_loc (L' := [some (.ref (z + b)), none, none]) rfl ?_
  obtain ⟨hb, ⟨f, hf, hff⟩, hmem, hlk, ⟨gl, hgl, hgg⟩⟩ := hS
  rw [hn] at hb
  refine pm_iconst (v := 0) B dX10_loyalCount_0 (by decide) ?_
  refine pm_istore_n B dX10_loyalCount_1 rfl rfl ?_
  refine pm_loc (L' := [some (.ref (z + b)), some (.int 0), none]) rfl ?_
  refine pm_iconst (v := 0) B dX10_loyalCount_2 (by decide) ?_
  refine pm_istore_n B dX10_loyalCount_3 rfl rfl ?_
  refine pm_loc (L' := [some (.ref (z + b)), some (.int 0), some (.int 0)]) rfl ?_
  refine pm_loc (L' := [some (.ref (z + b)), some (.int 0), some (.int (nI 0))]) rfl ?_
  have loop : ∀ (k j : Nat), j + k = n → ∀ (x : Int32), x = pm_loC r j → pm_G l z D X 0 0 (pm_Q z D (pm_rt (some (.int (pm_loC r n))) nx M) 0 0 X) nx M 4 [some (.ref (z + b)), some (.int x), some (.int (nI j))] [] := by
    intro k
    induction k with
    | zero =>
      intro j hj x  hx
      have hjn : j = n := by omega
      refine pm_iload_n B dX10_loyalCount_4 rfl ?_
      refine pm_aload_n B dX10_loyalCount_5 rfl ?_
      refine pm_get B dX10_loyalCount_6 fl_X10_36 hb rfl ?_
      refine pm_icmp_ge (tgt := 38) B dX10_loyalCount_9 (by decide) (fun hq1 => ?_) (fun hq1 => absurd (by rw [hjn]; exact Int32.le_refl _) hq1)
      refine pm_iload_n B dX10_loyalCount_38 rfl ?_
      exact pm_ireturn B dX10_loyalCount_39 rfl (by first | rfl | (apply pm_nz; first | assumption | decide | exact pm_in01 _ _ _ | simp)) ⟨by rw [hx, hjn], rfl, rfl⟩ rfl rfl
    | succ k ih =>
      intro j hj x  hx
      have hjn : j < n := by omega
      refine pm_iload_n B dX10_loyalCount_4 rfl ?_
      refine pm_aload_n B dX10_loyalCount_5 rfl ?_
      refine pm_get B dX10_loyalCount_6 fl_X10_36 hb rfl ?_
      refine pm_icmp_ge (tgt := 38) B dX10_loyalCount_9 (by decide) (fun hq2 => absurd hq2 (nI_ge hjn (by omega))) (fun hq2 => ?_)
      refine pm_iload_n B dX10_loyalCount_12 rfl ?_
      refine pm_aload_n B dX10_loyalCount_13 rfl ?_
      refine pm_get B dX10_loyalCount_14 fl_X10_11 hb rfl ?_
      refine pm_iload_n B dX10_loyalCount_17 rfl ?_
      refine pm_aald_n B dX10_loyalCount_18 hf rfl j (by first | assumption | omega) (by decide) (by rw [hff _ (by first | assumption | omega)]) ?_
      refine pm_cV (As := []) (mc2 := 0) (ms2 := 0) B rfl (hmem j (by omega)) rfl (c_X6_isLoyal (hmem j (by omega))) mt_X6_isLoyal sv_X10_54 dX10_loyalCount_19 rfl rfl rfl rfl rfl ?_
      refine pm_stk (st' := [.int (if (r (12 + 6 * j)) = 0 ∧ (r (11 + 6 * j)) = 0 then 1 else 0), .int x]) rfl ?_
      refine pm_if_eq (tgt := 29) B dX10_loyalCount_22 (by decide) (fun hq3 => ?_) (fun hq3 => ?_)
      · refine pm_iconst (v := 0) B dX10_loyalCount_29 (by decide) ?_
        refine pm_iadd B dX10_loyalCount_30 ?_
        refine pm_istore_n B dX10_loyalCount_31 rfl rfl ?_
        refine pm_loc (L' := [some (.ref (z + b)), some (.int (x + 0)), some (.int (nI j))]) rfl ?_
        refine pm_iinc B dX10_loyalCount_32 rfl rfl rfl ?_
        refine pm_loc (L' := [some (.ref (z + b)), some (.int (x + 0)), some (.int (nI (j + 1)))]) (by rw [show ((nI j) : Int32) + Int32.ofInt 1 = (nI (j + 1)) from nI_1 _]; rfl) ?_
        refine pm_goto (tgt := 4) B dX10_loyalCount_35 (by decide) ?_
        exact ih (j + 1) (by omega) _ (by rw [hx]; simp only [pm_loC]; simp_all)
      · refine pm_iconst (v := 1) B dX10_loyalCount_25 (by decide) ?_
        refine pm_goto (tgt := 30) B dX10_loyalCount_26 (by decide) ?_
        refine pm_iadd B dX10_loyalCount_30 ?_
        refine pm_istore_n B dX10_loyalCount_31 rfl rfl ?_
        refine pm_loc (L' := [some (.ref (z + b)), some (.int (x + 1)), some (.int (nI j))]) rfl ?_
        refine pm_iinc B dX10_loyalCount_32 rfl rfl rfl ?_
        refine pm_loc (L' := [some (.ref (z + b)), some (.int (x + 1)), some (.int (nI (j + 1)))]) (by rw [show ((nI j) : Int32) + Int32.ofInt 1 = (nI (j + 1)) from nI_1 _]; rfl) ?_
        refine pm_goto (tgt := 4) B dX10_loyalCount_35 (by decide) ?_
        exact ih (j + 1) (by omega) _ (by rw [hx]; simp only [pm_loC]; simp_all)
  exact loop n 0 (by omega) _  rfl
set_option maxRecDepth 100000 in
set_option maxHeartbeats 4000000 in
theorem c_X10_isAhead {l : Launch} {z : Nat} {D : va_G} {kA : Nat → ClassId} {kE : Nat → Nat} {nx : Nat} {M : pm_M} {b n : Nat} {r : Nat → Int32} (hS : pm_St z kA M b r) (hn : r 0 = nI n) (h7 : n ≤ 7) {i k : Nat} (hi : i < 7) (hk : k < 7) : pm_C l z D kA kE yX10_isAhead cX10_isAhead 5 (some .boolean) 2 0 0 [.ref (z + b), .int (nI i), .int (nI k)] nx M (pm_rt (some (.int (pm_ah r i k))) nx M) := by
  refine pm_mk (own := RX10) (nm := "isAhead") mt_X10_isAhead rfl rfl rfl rfl fun X B => ?_
  refine pm_loc (L' := [some (.ref (z + b)), some (.int (nI i)), some (.int (nI k)), none, none]) rfl ?_
  obtain ⟨hb, ⟨f, hf, hff⟩, hmem, hlk, ⟨gl, hgl, hgg⟩⟩ := hS
  rw [hn] at hb
  refine pm_aload_n B dX10_isAhead_0 rfl ?_
  refine pm_get B dX10_isAhead_1 fl_X10_11 hb rfl ?_
  refine pm_iload_n B dX10_isAhead_4 rfl ?_
  refine pm_aald_n B dX10_isAhead_5 hf rfl i (by first | assumption | omega) (by decide) (by rw [hff _ (by first | assumption | omega)]) ?_
  refine pm_astore_n B dX10_isAhead_6 rfl rfl ?_
  refine pm_loc (L' := [some (.ref (z + b)), some (.int (nI i)), some (.int (nI k)), some (.ref (z + (b + 2 + i))), none]) rfl ?_
  refine pm_aload_n B dX10_isAhead_7 rfl ?_
  refine pm_get B dX10_isAhead_8 fl_X10_11 hb rfl ?_
  refine pm_iload_n B dX10_isAhead_11 rfl ?_
  refine pm_aald_n B dX10_isAhead_12 hf rfl k (by first | assumption | omega) (by decide) (by rw [hff _ (by first | assumption | omega)]) ?_
  refine pm_astore B dX10_isAhead_13 rfl rfl ?_
  refine pm_loc (L' := [some (.ref (z + b)), some (.int (nI i)), some (.int (nI k)), some (.ref (z + (b + 2 + i))), some (.ref (z + (b + 2 + k)))]) rfl ?_
  refine pm_aload_n B dX10_isAhead_15 rfl ?_
  refine pm_cV (As := []) (mc2 := 0) (ms2 := 0) B rfl (hmem i (by omega)) rfl (c_X6_unitsAbove (hmem i (by omega))) mt_X6_unitsAbove sv_X10_65 dX10_isAhead_16 rfl rfl rfl rfl rfl ?_
  refine pm_stk (st' := [.int (pm_max 0 ((r (10 + 6 * i)) - (r (9 + 6 * i))))]) rfl ?_
  refine pm_aload B dX10_isAhead_19 rfl ?_
  refine pm_cV (As := []) (mc2 := 0) (ms2 := 0) B rfl (hmem k (by omega)) rfl (c_X6_unitsAbove (hmem k (by omega))) mt_X6_unitsAbove sv_X10_65 dX10_isAhead_21 rfl rfl rfl rfl rfl ?_
  refine pm_stk (st' := [.int (pm_max 0 ((r (10 + 6 * k)) - (r (9 + 6 * k)))), .int (pm_max 0 ((r (10 + 6 * i)) - (r (9 + 6 * i))))]) rfl ?_
  refine pm_icmp_eq (tgt := 45) B dX10_isAhead_24 (by decide) (fun hq1 => ?_) (fun hq1 => ?_)
  · refine pm_aload_n B dX10_isAhead_45 rfl ?_
    refine pm_get B dX10_isAhead_46 fl_X10_69 (hmem i (by omega)) rfl ?_
    refine pm_aload B dX10_isAhead_49 rfl ?_
    refine pm_get B dX10_isAhead_51 fl_X10_69 (hmem k (by omega)) rfl ?_
    refine pm_icmp_eq (tgt := 75) B dX10_isAhead_54 (by decide) (fun hq2 => ?_) (fun hq2 => ?_)
    · refine pm_iload_n B dX10_isAhead_75 rfl ?_
      refine pm_iload_n B dX10_isAhead_76 rfl ?_
      refine pm_icmp_ge (tgt := 84) B dX10_isAhead_77 (by decide) (fun hq3 => ?_) (fun hq3 => ?_)
      · refine pm_iconst (v := 0) B dX10_isAhead_84 (by decide) ?_
        exact pm_ireturn B dX10_isAhead_85 rfl (by first | rfl | (apply pm_nz; first | assumption | decide | exact pm_in01 _ _ _ | simp)) ⟨by unfold pm_ah; rw [if_pos hq1, if_pos hq2, if_pos hq3], rfl, rfl⟩ rfl rfl
      · refine pm_iconst (v := 1) B dX10_isAhead_80 (by decide) ?_
        refine pm_goto (tgt := 85) B dX10_isAhead_81 (by decide) ?_
        exact pm_ireturn B dX10_isAhead_85 rfl (by first | rfl | (apply pm_nz; first | assumption | decide | exact pm_in01 _ _ _ | simp)) ⟨by unfold pm_ah; rw [if_pos hq1, if_pos hq2, if_neg hq3], rfl, rfl⟩ rfl rfl
    · refine pm_aload_n B dX10_isAhead_57 rfl ?_
      refine pm_get B dX10_isAhead_58 fl_X10_69 (hmem i (by omega)) rfl ?_
      refine pm_aload B dX10_isAhead_61 rfl ?_
      refine pm_get B dX10_isAhead_63 fl_X10_69 (hmem k (by omega)) rfl ?_
      refine pm_icmp_le (tgt := 73) B dX10_isAhead_66 (by decide) (fun hq4 => ?_) (fun hq4 => ?_)
      · refine pm_iconst (v := 0) B dX10_isAhead_73 (by decide) ?_
        exact pm_ireturn B dX10_isAhead_74 rfl (by first | rfl | (apply pm_nz; first | assumption | decide | exact pm_in01 _ _ _ | simp)) ⟨by unfold pm_ah; rw [if_pos hq1, if_neg hq2, if_pos hq4], rfl, rfl⟩ rfl rfl
      · refine pm_iconst (v := 1) B dX10_isAhead_69 (by decide) ?_
        refine pm_goto (tgt := 74) B dX10_isAhead_70 (by decide) ?_
        exact pm_ireturn B dX10_isAhead_74 rfl (by first | rfl | (apply pm_nz; first | assumption | decide | exact pm_in01 _ _ _ | simp)) ⟨by unfold pm_ah; rw [if_pos hq1, if_neg hq2, if_neg hq4], rfl, rfl⟩ rfl rfl
  · refine pm_aload_n B dX10_isAhead_27 rfl ?_
    refine pm_cV (As := []) (mc2 := 0) (ms2 := 0) B rfl (hmem i (by omega)) rfl (c_X6_unitsAbove (hmem i (by omega))) mt_X6_unitsAbove sv_X10_65 dX10_isAhead_28 rfl rfl rfl rfl rfl ?_
    refine pm_stk (st' := [.int (pm_max 0 ((r (10 + 6 * i)) - (r (9 + 6 * i))))]) rfl ?_
    refine pm_aload B dX10_isAhead_31 rfl ?_
    refine pm_cV (As := []) (mc2 := 0) (ms2 := 0) B rfl (hmem k (by omega)) rfl (c_X6_unitsAbove (hmem k (by omega))) mt_X6_unitsAbove sv_X10_65 dX10_isAhead_33 rfl rfl rfl rfl rfl ?_
    refine pm_stk (st' := [.int (pm_max 0 ((r (10 + 6 * k)) - (r (9 + 6 * k)))), .int (pm_max 0 ((r (10 + 6 * i)) - (r (9 + 6 * i))))]) rfl ?_
    refine pm_icmp_le (tgt := 43) B dX10_isAhead_36 (by decide) (fun hq5 => ?_) (fun hq5 => ?_)
    · refine pm_iconst (v := 0) B dX10_isAhead_43 (by decide) ?_
      exact pm_ireturn B dX10_isAhead_44 rfl (by first | rfl | (apply pm_nz; first | assumption | decide | exact pm_in01 _ _ _ | simp)) ⟨by unfold pm_ah; rw [if_neg hq1, if_pos hq5], rfl, rfl⟩ rfl rfl
    · refine pm_iconst (v := 1) B dX10_isAhead_39 (by decide) ?_
      refine pm_goto (tgt := 44) B dX10_isAhead_40 (by decide) ?_
      exact pm_ireturn B dX10_isAhead_44 rfl (by first | rfl | (apply pm_nz; first | assumption | decide | exact pm_in01 _ _ _ | simp)) ⟨by unfold pm_ah; rw [if_neg hq1, if_neg hq5], rfl, rfl⟩ rfl rfl
set_option maxRecDepth 100000 in
set_option maxHeartbeats 4000000 in
theorem c_X10_membersAheadOf {l : Launch} {z : Nat} {D : va_G} {kA : Nat → ClassId} {kE : Nat → Nat} {nx : Nat} {M : pm_M} {b n : Nat} {r : Nat → Int32} (hS : pm_St z kA M b r) (hn : r 0 = nI n) (h7 : n ≤ 7) {i : Nat} (hi : i < 7) : pm_C l z D kA kE yX10_membersAheadOf cX10_membersAheadOf 4 (some .int) 3 0 0 [.ref (z + b), .int (nI i)] nx M (pm_rt (some (.int (pm_ahC r i n))) nx M) := by
  refine pm_mk (own := RX10) (nm := "membersAheadOf") mt_X10_membersAheadOf rfl rfl rfl rfl fun X B => ?_
  refine pm_loc (L' := [some (.ref (z + b)), some (.int (nI i)), none, none]) rfl ?_
  obtain ⟨hb0, ⟨f, hf, hff⟩, hmem, hlk, ⟨gl, hgl, hgg⟩⟩ := hS
  have hb := hb0; rw [hn] at hb
  refine pm_iconst (v := 0) B dX10_membersAheadOf_0 (by decide) ?_
  refine pm_istore_n B dX10_membersAheadOf_1 rfl rfl ?_
  refine pm_loc (L' := [some (.ref (z + b)), some (.int (nI i)), some (.int 0), none]) rfl ?_
  refine pm_iconst (v := 0) B dX10_membersAheadOf_2 (by decide) ?_
  refine pm_istore_n B dX10_membersAheadOf_3 rfl rfl ?_
  refine pm_loc (L' := [some (.ref (z + b)), some (.int (nI i)), some (.int 0), some (.int 0)]) rfl ?_
  refine pm_loc (L' := [some (.ref (z + b)), some (.int (nI i)), some (.int 0), some (.int (nI 0))]) rfl ?_
  have loop : ∀ (k j : Nat), j + k = n → ∀ (x : Int32), x = pm_ahC r i j → pm_G l z D X 0 0 (pm_Q z D (pm_rt (some (.int (pm_ahC r i n))) nx M) 0 0 X) nx M 4 [some (.ref (z + b)), some (.int (nI i)), some (.int x), some (.int (nI j))] [] := by
    intro k
    induction k with
    | zero =>
      intro j hj x  hx
      have hjn : j = n := by omega
      refine pm_iload_n B dX10_membersAheadOf_4 rfl ?_
      refine pm_aload_n B dX10_membersAheadOf_5 rfl ?_
      refine pm_get B dX10_membersAheadOf_6 fl_X10_36 hb rfl ?_
      refine pm_icmp_ge (tgt := 35) B dX10_membersAheadOf_9 (by decide) (fun hq1 => ?_) (fun hq1 => absurd (by rw [hjn]; exact Int32.le_refl _) hq1)
      refine pm_iload_n B dX10_membersAheadOf_35 rfl ?_
      exact pm_ireturn B dX10_membersAheadOf_36 rfl (by first | rfl | (apply pm_nz; first | assumption | decide | exact pm_in01 _ _ _ | simp)) ⟨by rw [hx, hjn], rfl, rfl⟩ rfl rfl
    | succ k ih =>
      intro j hj x  hx
      have hjn : j < n := by omega
      refine pm_iload_n B dX10_membersAheadOf_4 rfl ?_
      refine pm_aload_n B dX10_membersAheadOf_5 rfl ?_
      refine pm_get B dX10_membersAheadOf_6 fl_X10_36 hb rfl ?_
      refine pm_icmp_ge (tgt := 35) B dX10_membersAheadOf_9 (by decide) (fun hq2 => absurd hq2 (nI_ge hjn (by omega))) (fun hq2 => ?_)
      refine pm_iload_n B dX10_membersAheadOf_12 rfl ?_
      refine pm_aload_n B dX10_membersAheadOf_13 rfl ?_
      refine pm_iload_n B dX10_membersAheadOf_14 rfl ?_
      refine pm_iload_n B dX10_membersAheadOf_15 rfl ?_
      refine pm_cV (As := [.int (nI j), .int (nI i)]) (mc2 := 0) (ms2 := 0) B rfl hb rfl (c_X10_isAhead ⟨hb0, ⟨f, hf, hff⟩, hmem, hlk, ⟨gl, hgl, hgg⟩⟩ hn h7 (i := j) (k := i) (by omega) (by omega)) mt_X10_isAhead sv_X10_61 dX10_membersAheadOf_16 rfl rfl rfl rfl rfl ?_
      refine pm_stk (st' := [.int (pm_ah r j i), .int x]) rfl ?_
      refine pm_if_eq (tgt := 26) B dX10_membersAheadOf_19 (by decide) (fun hq3 => ?_) (fun hq3 => ?_)
      · refine pm_iconst (v := 0) B dX10_membersAheadOf_26 (by decide) ?_
        refine pm_iadd B dX10_membersAheadOf_27 ?_
        refine pm_istore_n B dX10_membersAheadOf_28 rfl rfl ?_
        refine pm_loc (L' := [some (.ref (z + b)), some (.int (nI i)), some (.int (x + 0)), some (.int (nI j))]) rfl ?_
        refine pm_iinc B dX10_membersAheadOf_29 rfl rfl rfl ?_
        refine pm_loc (L' := [some (.ref (z + b)), some (.int (nI i)), some (.int (x + 0)), some (.int (nI (j + 1)))]) (by rw [show ((nI j) : Int32) + Int32.ofInt 1 = (nI (j + 1)) from nI_1 _]; rfl) ?_
        refine pm_goto (tgt := 4) B dX10_membersAheadOf_32 (by decide) ?_
        exact ih (j + 1) (by omega) _ (by rw [hx]; simp only [pm_ahC]; simp [*])
      · refine pm_iconst (v := 1) B dX10_membersAheadOf_22 (by decide) ?_
        refine pm_goto (tgt := 27) B dX10_membersAheadOf_23 (by decide) ?_
        refine pm_iadd B dX10_membersAheadOf_27 ?_
        refine pm_istore_n B dX10_membersAheadOf_28 rfl rfl ?_
        refine pm_loc (L' := [some (.ref (z + b)), some (.int (nI i)), some (.int (x + 1)), some (.int (nI j))]) rfl ?_
        refine pm_iinc B dX10_membersAheadOf_29 rfl rfl rfl ?_
        refine pm_loc (L' := [some (.ref (z + b)), some (.int (nI i)), some (.int (x + 1)), some (.int (nI (j + 1)))]) (by rw [show ((nI j) : Int32) + Int32.ofInt 1 = (nI (j + 1)) from nI_1 _]; rfl) ?_
        refine pm_goto (tgt := 4) B dX10_membersAheadOf_32 (by decide) ?_
        exact ih (j + 1) (by omega) _ (by rw [hx]; simp only [pm_ahC]; simp [*])
  exact loop n 0 (by omega) _  rfl
