/-! State.copyFrom, History -/
set_option maxRecDepth 100000 in
set_option maxHeartbeats 4000000 in
theorem c_X10_copyFrom {l : Launch} {z : Nat} {D : va_G} {kA : Nat → ClassId} {kE : Nat → Nat} {nx : Nat} {M : pm_M} {b b2 : Nat} {r r2 : Nat → Int32} (hS : pm_St z kA M b r) (hS2 : pm_St z kA M b2 r2) (hdj : b + 11 ≤ b2 ∨ b2 + 11 ≤ b) : pm_C l z D kA kE yX10_copyFrom cX10_copyFrom 3 none 3 0 0 [.ref (z + b), .ref (z + b2)] nx M (pm_rx (fun ov n' M' => ov = none ∧ n' = nx ∧ (∀ x, x < b ∨ b + 11 ≤ x → M' x = M x) ∧ pm_St z kA M' b r2)) := by
  refine pm_mk (own := RX10) (nm := "copyFrom") mt_X10_copyFrom rfl rfl rfl rfl fun X B => ?_
  refine pm_loc (L' := [some (.ref (z + b)), some (.ref (z + b2)), none]) rfl ?_
  obtain ⟨hb, ⟨f, hf, hff⟩, hmem, hlk, ⟨gl, hgl, hgg⟩⟩ := hS
  obtain ⟨hb2, ⟨f2, hf2, hff2⟩, hmem2, hlk2, ⟨gl2, hgl2, hgg2⟩⟩ := hS2
  refine pm_iconst (v := 0) B dX10_copyFrom_0 (by decide) ?_
  refine pm_istore_n B dX10_copyFrom_1 rfl rfl ?_
  refine pm_loc (L' := [some (.ref (z + b)), some (.ref (z + b2)), some (.int 0)]) rfl ?_
  refine pm_loc (L' := [some (.ref (z + b)), some (.ref (z + b2)), some (.int (nI 0))]) rfl ?_
  have loop : ∀ (k j : Nat), j + k = 7 → ∀ (Mi : pm_M), (∀ x, ¬ (b + 2 ≤ x ∧ x < b + 2 + j) → Mi x = M x) → (∀ i, i < j → Mi (b + 2 + i) = some (pm_mb (r2 (7 + 6 * i)) (r2 (8 + 6 * i)) (r2 (9 + 6 * i)) (r2 (10 + 6 * i)) (r2 (11 + 6 * i)) (r2 (12 + 6 * i)))) → pm_G l z D X 0 0 (pm_Q z D (pm_rx (fun ov n' M' => ov = none ∧ n' = nx ∧ (∀ x, x < b ∨ b + 11 ≤ x → M' x = M x) ∧ pm_St z kA M' b r2)) 0 0 X) nx Mi 2 [some (.ref (z + b)), some (.ref (z + b2)), some (.int (nI j))] [] := by
    intro k
    induction k with
    | zero =>
      intro j hj  Mi hg1 hx
      have hjn : j = 7 := by omega
      refine pm_iload_n B dX10_copyFrom_2 rfl ?_
      refine pm_aload_n B dX10_copyFrom_3 rfl ?_
      refine pm_get B dX10_copyFrom_4 fl_X10_11 ((hg1 _ (by omega)).trans hb) rfl ?_
      refine pm_alen B dX10_copyFrom_7 ((hg1 _ (by omega)).trans hf) rfl rfl ?_
      refine pm_stk (st' := [.int (nI 7), .int (nI j)]) rfl ?_
      refine pm_icmp_ge (tgt := 32) B dX10_copyFrom_8 (by decide) (fun hq1 => ?_) (fun hq1 => absurd (by rw [hjn]; exact Int32.le_refl _) hq1)
      refine pm_aload_n B dX10_copyFrom_32 rfl ?_
      refine pm_get B dX10_copyFrom_33 fl_X10_21 ((hg1 _ (by omega)).trans hb) rfl ?_
      refine pm_aload_n B dX10_copyFrom_36 rfl ?_
      refine pm_get B dX10_copyFrom_37 fl_X10_21 ((hg1 _ (by omega)).trans hb2) rfl ?_
      refine pm_cV (As := [.ref (z + (b2 + 9))]) (mc2 := 0) (ms2 := 0) B rfl ((hg1 _ (by omega)).trans hlk) rfl (c_X5_copyFrom ((hg1 _ (by omega)).trans hlk) ((hg1 _ (by omega)).trans hgl) ((hg1 _ (by omega)).trans hlk2) ((hg1 _ (by omega)).trans hgl2)) mt_X5_copyFrom sv_X10_33 dX10_copyFrom_40 rfl rfl rfl rfl rfl ?_
      refine pm_mem (M' := pm_up Mi (b + 10) (.inl (kA 0, 7, .inl (va_cpy gl2 gl 0 0 7)))) rfl ?_
      refine pm_stk (st' := []) rfl ?_
      refine pm_aload_n B dX10_copyFrom_43 rfl ?_
      refine pm_aload_n B dX10_copyFrom_44 rfl ?_
      refine pm_get B dX10_copyFrom_45 fl_X10_36 ((pm_up_n (by omega)).trans ((hg1 _ (by omega)).trans hb2)) rfl ?_
      refine pm_put B dX10_copyFrom_48 fs_X10_36 ((pm_up_n (by omega)).trans ((hg1 _ (by omega)).trans hb)) rfl rfl rfl ?_
      refine pm_mem (M' := pm_up (pm_up Mi (b + 10) (.inl (kA 0, 7, .inl (va_cpy gl2 gl 0 0 7)))) b (.inr (8, [.ref (z + (b + 1)), .ref (z + (b + 9)), .int (r2 0), .int (r 1), .int (r 2), .int (r 3), .int (r 4), .int (r 5), .int (r 6)]))) rfl ?_
      refine pm_aload_n B dX10_copyFrom_51 rfl ?_
      refine pm_aload_n B dX10_copyFrom_52 rfl ?_
      refine pm_get B dX10_copyFrom_53 fl_X10_39 ((pm_up_n (by omega)).trans ((pm_up_n (by omega)).trans ((hg1 _ (by omega)).trans hb2))) rfl ?_
      refine pm_put B dX10_copyFrom_56 fs_X10_39 pm_up_s rfl rfl rfl ?_
      refine pm_mem (M' := pm_up (pm_up Mi (b + 10) (.inl (kA 0, 7, .inl (va_cpy gl2 gl 0 0 7)))) b (.inr (8, [.ref (z + (b + 1)), .ref (z + (b + 9)), .int (r2 0), .int (r2 1), .int (r 2), .int (r 3), .int (r 4), .int (r 5), .int (r 6)]))) pm_up_up ?_
      refine pm_aload_n B dX10_copyFrom_59 rfl ?_
      refine pm_aload_n B dX10_copyFrom_60 rfl ?_
      refine pm_get B dX10_copyFrom_61 fl_X10_42 ((pm_up_n (by omega)).trans ((pm_up_n (by omega)).trans ((hg1 _ (by omega)).trans hb2))) rfl ?_
      refine pm_put B dX10_copyFrom_64 fs_X10_42 pm_up_s rfl rfl rfl ?_
      refine pm_mem (M' := pm_up (pm_up Mi (b + 10) (.inl (kA 0, 7, .inl (va_cpy gl2 gl 0 0 7)))) b (.inr (8, [.ref (z + (b + 1)), .ref (z + (b + 9)), .int (r2 0), .int (r2 1), .int (r2 2), .int (r 3), .int (r 4), .int (r 5), .int (r 6)]))) pm_up_up ?_
      refine pm_aload_n B dX10_copyFrom_67 rfl ?_
      refine pm_aload_n B dX10_copyFrom_68 rfl ?_
      refine pm_get B dX10_copyFrom_69 fl_X10_25 ((pm_up_n (by omega)).trans ((pm_up_n (by omega)).trans ((hg1 _ (by omega)).trans hb2))) rfl ?_
      refine pm_put B dX10_copyFrom_72 fs_X10_25 pm_up_s rfl rfl rfl ?_
      refine pm_mem (M' := pm_up (pm_up Mi (b + 10) (.inl (kA 0, 7, .inl (va_cpy gl2 gl 0 0 7)))) b (.inr (8, [.ref (z + (b + 1)), .ref (z + (b + 9)), .int (r2 0), .int (r2 1), .int (r2 2), .int (r2 3), .int (r 4), .int (r 5), .int (r 6)]))) pm_up_up ?_
      refine pm_aload_n B dX10_copyFrom_75 rfl ?_
      refine pm_aload_n B dX10_copyFrom_76 rfl ?_
      refine pm_get B dX10_copyFrom_77 fl_X10_45 ((pm_up_n (by omega)).trans ((pm_up_n (by omega)).trans ((hg1 _ (by omega)).trans hb2))) rfl ?_
      refine pm_put B dX10_copyFrom_80 fs_X10_45 pm_up_s rfl rfl rfl ?_
      refine pm_mem (M' := pm_up (pm_up Mi (b + 10) (.inl (kA 0, 7, .inl (va_cpy gl2 gl 0 0 7)))) b (.inr (8, [.ref (z + (b + 1)), .ref (z + (b + 9)), .int (r2 0), .int (r2 1), .int (r2 2), .int (r2 3), .int (r2 4), .int (r 5), .int (r 6)]))) pm_up_up ?_
      refine pm_aload_n B dX10_copyFrom_83 rfl ?_
      refine pm_aload_n B dX10_copyFrom_84 rfl ?_
      refine pm_get B dX10_copyFrom_85 fl_X10_48 ((pm_up_n (by omega)).trans ((pm_up_n (by omega)).trans ((hg1 _ (by omega)).trans hb2))) rfl ?_
      refine pm_put B dX10_copyFrom_88 fs_X10_48 pm_up_s rfl rfl rfl ?_
      refine pm_mem (M' := pm_up (pm_up Mi (b + 10) (.inl (kA 0, 7, .inl (va_cpy gl2 gl 0 0 7)))) b (.inr (8, [.ref (z + (b + 1)), .ref (z + (b + 9)), .int (r2 0), .int (r2 1), .int (r2 2), .int (r2 3), .int (r2 4), .int (r2 5), .int (r 6)]))) pm_up_up ?_
      refine pm_aload_n B dX10_copyFrom_91 rfl ?_
      refine pm_aload_n B dX10_copyFrom_92 rfl ?_
      refine pm_get B dX10_copyFrom_93 fl_X10_51 ((pm_up_n (by omega)).trans ((pm_up_n (by omega)).trans ((hg1 _ (by omega)).trans hb2))) rfl ?_
      refine pm_put B dX10_copyFrom_96 fs_X10_51 pm_up_s rfl rfl rfl ?_
      refine pm_mem (M' := pm_up (pm_up Mi (b + 10) (.inl (kA 0, 7, .inl (va_cpy gl2 gl 0 0 7)))) b (.inr (8, [.ref (z + (b + 1)), .ref (z + (b + 9)), .int (r2 0), .int (r2 1), .int (r2 2), .int (r2 3), .int (r2 4), .int (r2 5), .int (r2 6)]))) pm_up_up ?_
      exact pm_return B dX10_copyFrom_99 rfl ⟨none, rfl, rfl, rfl, fun x hx2 => (pm_up_n (by omega)).trans ((pm_up_n (by omega)).trans (hg1 x (by omega))), pm_up_s, ⟨f, (pm_up_n (by omega)).trans ((pm_up_n (by omega)).trans ((hg1 _ (by omega)).trans hf)), hff⟩, fun i hi => (pm_up_n (by omega)).trans ((pm_up_n (by omega)).trans (hx i (by omega))), (pm_up_n (by omega)).trans ((pm_up_n (by omega)).trans ((hg1 _ (by omega)).trans hlk)), ⟨_, (pm_up_n (by omega)).trans pm_up_s, fun j hj2 => by rw [sb_cpy0 hj2]; exact hgg2 j hj2⟩⟩ rfl rfl
    | succ k ih =>
      intro j hj  Mi hg1 hx
      have hjn : j < 7 := by omega
      refine pm_iload_n B dX10_copyFrom_2 rfl ?_
      refine pm_aload_n B dX10_copyFrom_3 rfl ?_
      refine pm_get B dX10_copyFrom_4 fl_X10_11 ((hg1 _ (by omega)).trans hb) rfl ?_
      refine pm_alen B dX10_copyFrom_7 ((hg1 _ (by omega)).trans hf) rfl rfl ?_
      refine pm_stk (st' := [.int (nI 7), .int (nI j)]) rfl ?_
      refine pm_icmp_ge (tgt := 32) B dX10_copyFrom_8 (by decide) (fun hq2 => absurd hq2 (nI_ge hjn (by omega))) (fun hq2 => ?_)
      refine pm_aload_n B dX10_copyFrom_11 rfl ?_
      refine pm_get B dX10_copyFrom_12 fl_X10_11 ((hg1 _ (by omega)).trans hb) rfl ?_
      refine pm_iload_n B dX10_copyFrom_15 rfl ?_
      refine pm_aald_n B dX10_copyFrom_16 ((hg1 _ (by omega)).trans hf) rfl j (by first | assumption | omega) (by decide) (by rw [hff _ (by first | assumption | omega)]) ?_
      refine pm_aload_n B dX10_copyFrom_17 rfl ?_
      refine pm_get B dX10_copyFrom_18 fl_X10_11 ((hg1 _ (by omega)).trans hb2) rfl ?_
      refine pm_iload_n B dX10_copyFrom_21 rfl ?_
      refine pm_aald_n B dX10_copyFrom_22 ((hg1 _ (by omega)).trans hf2) rfl j (by first | assumption | omega) (by decide) (by rw [hff2 _ (by first | assumption | omega)]) ?_
      refine pm_cV (As := [.ref (z + (b2 + 2 + j))]) (mc2 := 0) (ms2 := 0) B rfl ((hg1 _ (by omega)).trans (hmem j (by omega))) rfl (c_X6_copyFrom ((hg1 _ (by omega)).trans (hmem j (by omega))) ((hg1 _ (by omega)).trans (hmem2 j (by omega))) (by omega)) mt_X6_copyFrom sv_X10_29 dX10_copyFrom_23 rfl rfl rfl rfl rfl ?_
      refine pm_stk (st' := []) rfl ?_
      refine pm_iinc B dX10_copyFrom_26 rfl rfl rfl ?_
      refine pm_loc (L' := [some (.ref (z + b)), some (.ref (z + b2)), some (.int (nI (j + 1)))]) (by rw [show ((nI j) : Int32) + Int32.ofInt 1 = (nI (j + 1)) from nI_1 _]; rfl) ?_
      refine pm_goto (tgt := 2) B dX10_copyFrom_29 (by decide) ?_
      exact ih (j + 1) (by omega) _ (fun x hx2 => (pm_up_n (by omega)).trans (hg1 x (by omega))) (fun i hi => by
        by_cases hij : i = j
        · subst hij; exact pm_up_s
        · exact (pm_up_n (by omega)).trans (hx i (by omega)))
  exact loop 7 0 (by omega)  M (fun x _ => rfl) (fun i hi => absurd hi (Nat.not_lt_zero i))
