/-! State.copyFrom over whole rows, History -/
/-- a row copied: the 56 places that are used -/
def pm_cpr (r2 r : Nat → Int32) : Nat → Int32 := fun k => if k < 56 then r2 k else r k
def pm_cpk (r2 r : Nat → Int32) (j : Nat) : Nat → Int32 := fun k => if 7 ≤ k ∧ k < 7 + 6 * j then r2 k else r k
theorem pm_cpk0 (r2 r : Nat → Int32) : pm_cpk r2 r 0 = r := by
  funext k; unfold pm_cpk; rw [if_neg (by omega)]
theorem pm_cpkS (r2 r : Nat → Int32) (j : Nat) : pm_r6 (pm_cpk r2 r j) j (r2 (7 + 6 * j + 0)) (r2 (7 + 6 * j + 1)) (r2 (7 + 6 * j + 2)) (r2 (7 + 6 * j + 3)) (r2 (7 + 6 * j + 4)) (r2 (7 + 6 * j + 5)) = pm_cpk r2 r (j + 1) := by
  funext k
  unfold pm_r6 pm_cpk upd
  by_cases h5 : k = 7 + 6 * j + 5
  · subst h5; rw [if_pos rfl, if_pos (by omega)]
  · rw [if_neg h5]
    by_cases h4 : k = 7 + 6 * j + 4
    · subst h4; rw [if_pos rfl, if_pos (by omega)]
    · rw [if_neg h4]
      by_cases h3 : k = 7 + 6 * j + 3
      · subst h3; rw [if_pos rfl, if_pos (by omega)]
      · rw [if_neg h3]
        by_cases h2 : k = 7 + 6 * j + 2
        · subst h2; rw [if_pos rfl, if_pos (by omega)]
        · rw [if_neg h2]
          by_cases h1 : k = 7 + 6 * j + 1
          · subst h1; rw [if_pos rfl, if_pos (by omega)]
          · rw [if_neg h1]
            by_cases h0 : k = 7 + 6 * j + 0
            · subst h0; rw [if_pos rfl, if_pos (by omega)]
            · rw [if_neg h0]
              by_cases hk : 7 ≤ k ∧ k < 7 + 6 * j
              · show (if 7 ≤ k ∧ k < 7 + 6 * j then r2 k else r k) = _
                rw [if_pos hk, if_pos (by omega)]
              · show (if 7 ≤ k ∧ k < 7 + 6 * j then r2 k else r k) = _
                rw [if_neg hk, if_neg (by omega)]
def pm_cpl (r2 r : Nat → Int32) : Nat → Int32 := fun k => if 7 ≤ k ∧ k < 56 then r2 k else r k
section SC
variable {z b a : Nat} {kA : Nat → ClassId} {M : pm_M} {r r2 : Nat → Int32}
theorem pm_sw_pa (ha : a = b + 10) : pm_up (pm_sw z kA b M (pm_cpk r2 r 7)) a (.inl (kA 0, 7, .inl (va_cpy (fun j => r2 (49 + j)) (fun j => pm_cpk r2 r 7 (49 + j)) 0 0 7))) = pm_sw z kA b M (pm_cpl r2 r) := by
  subst ha
  obtain ⟨h1, h2, h3, h4, h5⟩ := pm_swS (z := z) (b := b) (kA := kA) (M := M) (r := pm_cpk r2 r 7)
  have hk : ∀ k, k < 49 → pm_cpk r2 r 7 k = pm_cpl r2 r k := by
    intro k hk
    unfold pm_cpk pm_cpl
    by_cases h : 7 ≤ k
    · rw [if_pos (by omega), if_pos (by omega)]
    · rw [if_neg (by omega), if_neg (by omega)]
  refine pm_swF ⟨(pm_up_n (by omega)).trans (h1.trans ?_), (pm_up_n (by omega)).trans h2, fun i hi => (pm_up_n (by omega)).trans ((h3 i hi).trans (congrArg some (pm_mbr_eq fun q hq => hk _ (by omega)))), (pm_up_n (by omega)).trans h4, pm_up_s.trans ?_⟩ (by omega)
  · simp only [pm_so]
    rw [hk 0 (by decide), hk 1 (by decide), hk 2 (by decide), hk 3 (by decide), hk 4 (by decide), hk 5 (by decide), hk 6 (by decide)]
  · rw [show (fun j => pm_cpl r2 r (49 + j)) = va_cpy (fun j => r2 (49 + j)) (fun j => pm_cpk r2 r 7 (49 + j)) 0 0 7 from funext fun j => ?_]
    unfold pm_cpl va_cpy pm_cpk
    by_cases h : j < 7
    · rw [if_pos (by omega), if_pos (by omega)]
      simp
    · rw [if_neg (by omega), if_neg (by omega)]
      show r (49 + j) = (if 7 ≤ 49 + j ∧ 49 + j < 7 + 6 * 7 then r2 (49 + j) else r (49 + j))
      rw [if_neg (by omega)]
end SC
theorem pm_cpr_of (r2 r : Nat → Int32) : upd (upd (upd (upd (upd (upd (upd (pm_cpl r2 r) 0 (r2 0)) 1 (r2 1)) 2 (r2 2)) 3 (r2 3)) 4 (r2 4)) 5 (r2 5)) 6 (r2 6) = pm_cpr r2 r := by
  funext k
  unfold upd pm_cpl pm_cpr
  by_cases h6 : k = 6
  · subst h6; rfl
  · by_cases h5 : k = 5
    · subst h5; rfl
    · by_cases h4 : k = 4
      · subst h4; rfl
      · by_cases h3 : k = 3
        · subst h3; rfl
        · by_cases h2 : k = 2
          · subst h2; rfl
          · by_cases h1 : k = 1
            · subst h1; rfl
            · by_cases h0 : k = 0
              · subst h0; rfl
              · rw [if_neg h6, if_neg h5, if_neg h4, if_neg h3, if_neg h2, if_neg h1, if_neg h0]
                by_cases hk : k < 56
                · rw [if_pos (by omega), if_pos hk]
                · rw [if_neg (by omega), if_neg hk]
set_option maxRecDepth 100000 in
set_option maxHeartbeats 4000000 in
theorem c_X10_copyFroms {l : Launch} {z : Nat} {D : va_G} {kA : Nat → ClassId} {kE : Nat → Nat} {nx : Nat} {M : pm_M} {b b2 : Nat} {r r2 : Nat → Int32} (hS : pm_SA z kA b M r) (hS2 : pm_SA z kA b2 M r2) (hdj : b + 11 ≤ b2 ∨ b2 + 11 ≤ b) : pm_C l z D kA kE yX10_copyFrom cX10_copyFrom 3 none 3 0 0 [.ref (z + b), .ref (z + b2)] nx M (pm_rt none nx (pm_sw z kA b M (pm_cpr r2 r))) := by
  refine pm_mk (own := RX10) (nm := "copyFrom") mt_X10_copyFrom rfl rfl rfl rfl fun X B => ?_
  refine pm_loc (L' := [some (.ref (z + b)), some (.ref (z + b2)), none]) rfl ?_
  refine pm_mem (M' := pm_sw z kA b M (pm_cpk r2 r 0)) (by rw [pm_cpk0, pm_sw_id hS]) ?_
  have hS3 : ∀ R, pm_SA z kA b2 (pm_sw z kA b M R) r2 := fun R => pm_SA_sw (by omega) hS2
  refine pm_iconst (v := 0) B dX10_copyFrom_0 (by decide) ?_
  refine pm_istore_n B dX10_copyFrom_1 rfl rfl ?_
  refine pm_loc (L' := [some (.ref (z + b)), some (.ref (z + b2)), some (.int 0)]) rfl ?_
  refine pm_loc (L' := [some (.ref (z + b)), some (.ref (z + b2)), some (.int (nI 0))]) rfl ?_
  have loop : ∀ (k j : Nat), j + k = 7 → j ≤ 7 → pm_G l z D X 0 0 (pm_Q z D (pm_rt none nx (pm_sw z kA b M (pm_cpr r2 r))) 0 0 X) nx (pm_sw z kA b M (pm_cpk r2 r j)) 2 [some (.ref (z + b)), some (.ref (z + b2)), some (.int (nI j))] [] := by
    intro k
    induction k with
    | zero =>
      intro j hj   hx
      have hjn : j = 7 := by omega
      subst hjn
      refine pm_iload_n B dX10_copyFrom_2 rfl ?_
      refine pm_aload_n B dX10_copyFrom_3 rfl ?_
      refine pm_get B dX10_copyFrom_4 fl_X10_11 (pm_swS (z := z) (b := b) (kA := kA)).1 rfl ?_
      refine pm_alen B dX10_copyFrom_7 (pm_swS (z := z) (b := b) (kA := kA)).2.1 rfl rfl ?_
      refine pm_stk (st' := [.int (nI 7), .int (nI 7)]) rfl ?_
      refine pm_icmp_ge (tgt := 32) B dX10_copyFrom_8 (by decide) (fun hq1 => ?_) (fun hq1 => absurd (Int32.le_refl _) hq1)
      refine pm_aload_n B dX10_copyFrom_32 rfl ?_
      refine pm_get B dX10_copyFrom_33 fl_X10_21 (pm_swS (z := z) (b := b) (kA := kA)).1 rfl ?_
      refine pm_aload_n B dX10_copyFrom_36 rfl ?_
      refine pm_get B dX10_copyFrom_37 fl_X10_21 (hS3 (pm_cpk r2 r 7)).1 rfl ?_
      refine pm_cV (As := [.ref (z + (b2 + 9))]) (mc2 := 0) (ms2 := 0) B rfl (pm_swS (z := z) (b := b) (kA := kA)).2.2.2.1 rfl (c_X5_copyFrom (pm_swS (z := z) (b := b) (kA := kA)).2.2.2.1 (pm_swS (z := z) (b := b) (kA := kA)).2.2.2.2 (hS3 (pm_cpk r2 r 7)).2.2.2.1 (hS3 (pm_cpk r2 r 7)).2.2.2.2) mt_X5_copyFrom sv_X10_33 dX10_copyFrom_40 rfl rfl rfl rfl rfl ?_
      refine pm_mem (M' := pm_sw z kA b M (pm_cpl r2 r)) (pm_sw_pa rfl) ?_
      refine pm_stk (st' := []) rfl ?_
      refine pm_aload_n B dX10_copyFrom_43 rfl ?_
      refine pm_aload_n B dX10_copyFrom_44 rfl ?_
      refine pm_get B dX10_copyFrom_45 fl_X10_36 (hS3 (pm_cpl r2 r)).1 rfl ?_
      refine pm_put B dX10_copyFrom_48 fs_X10_36 (pm_swS (z := z) (b := b) (kA := kA)).1 rfl rfl rfl ?_
      refine pm_mem (M' := pm_sw z kA b M (upd (pm_cpl r2 r) 0 (r2 0))) pm_sw_f0 ?_
      refine pm_aload_n B dX10_copyFrom_51 rfl ?_
      refine pm_aload_n B dX10_copyFrom_52 rfl ?_
      refine pm_get B dX10_copyFrom_53 fl_X10_39 (hS3 (upd (pm_cpl r2 r) 0 (r2 0))).1 rfl ?_
      refine pm_put B dX10_copyFrom_56 fs_X10_39 (pm_swS (z := z) (b := b) (kA := kA)).1 rfl rfl rfl ?_
      refine pm_mem (M' := pm_sw z kA b M (upd (upd (pm_cpl r2 r) 0 (r2 0)) 1 (r2 1))) pm_sw_f1 ?_
      refine pm_aload_n B dX10_copyFrom_59 rfl ?_
      refine pm_aload_n B dX10_copyFrom_60 rfl ?_
      refine pm_get B dX10_copyFrom_61 fl_X10_42 (hS3 (upd (upd (pm_cpl r2 r) 0 (r2 0)) 1 (r2 1))).1 rfl ?_
      refine pm_put B dX10_copyFrom_64 fs_X10_42 (pm_swS (z := z) (b := b) (kA := kA)).1 rfl rfl rfl ?_
      refine pm_mem (M' := pm_sw z kA b M (upd (upd (upd (pm_cpl r2 r) 0 (r2 0)) 1 (r2 1)) 2 (r2 2))) pm_sw_f2 ?_
      refine pm_aload_n B dX10_copyFrom_67 rfl ?_
      refine pm_aload_n B dX10_copyFrom_68 rfl ?_
      refine pm_get B dX10_copyFrom_69 fl_X10_25 (hS3 (upd (upd (upd (pm_cpl r2 r) 0 (r2 0)) 1 (r2 1)) 2 (r2 2))).1 rfl ?_
      refine pm_put B dX10_copyFrom_72 fs_X10_25 (pm_swS (z := z) (b := b) (kA := kA)).1 rfl rfl rfl ?_
      refine pm_mem (M' := pm_sw z kA b M (upd (upd (upd (upd (pm_cpl r2 r) 0 (r2 0)) 1 (r2 1)) 2 (r2 2)) 3 (r2 3))) pm_sw_f3 ?_
      refine pm_aload_n B dX10_copyFrom_75 rfl ?_
      refine pm_aload_n B dX10_copyFrom_76 rfl ?_
      refine pm_get B dX10_copyFrom_77 fl_X10_45 (hS3 (upd (upd (upd (upd (pm_cpl r2 r) 0 (r2 0)) 1 (r2 1)) 2 (r2 2)) 3 (r2 3))).1 rfl ?_
      refine pm_put B dX10_copyFrom_80 fs_X10_45 (pm_swS (z := z) (b := b) (kA := kA)).1 rfl rfl rfl ?_
      refine pm_mem (M' := pm_sw z kA b M (upd (upd (upd (upd (upd (pm_cpl r2 r) 0 (r2 0)) 1 (r2 1)) 2 (r2 2)) 3 (r2 3)) 4 (r2 4))) pm_sw_f4 ?_
      refine pm_aload_n B dX10_copyFrom_83 rfl ?_
      refine pm_aload_n B dX10_copyFrom_84 rfl ?_
      refine pm_get B dX10_copyFrom_85 fl_X10_48 (hS3 (upd (upd (upd (upd (upd (pm_cpl r2 r) 0 (r2 0)) 1 (r2 1)) 2 (r2 2)) 3 (r2 3)) 4 (r2 4))).1 rfl ?_
      refine pm_put B dX10_copyFrom_88 fs_X10_48 (pm_swS (z := z) (b := b) (kA := kA)).1 rfl rfl rfl ?_
      refine pm_mem (M' := pm_sw z kA b M (upd (upd (upd (upd (upd (upd (pm_cpl r2 r) 0 (r2 0)) 1 (r2 1)) 2 (r2 2)) 3 (r2 3)) 4 (r2 4)) 5 (r2 5))) pm_sw_f5 ?_
      refine pm_aload_n B dX10_copyFrom_91 rfl ?_
      refine pm_aload_n B dX10_copyFrom_92 rfl ?_
      refine pm_get B dX10_copyFrom_93 fl_X10_51 (hS3 (upd (upd (upd (upd (upd (upd (pm_cpl r2 r) 0 (r2 0)) 1 (r2 1)) 2 (r2 2)) 3 (r2 3)) 4 (r2 4)) 5 (r2 5))).1 rfl ?_
      refine pm_put B dX10_copyFrom_96 fs_X10_51 (pm_swS (z := z) (b := b) (kA := kA)).1 rfl rfl rfl ?_
      refine pm_mem (M' := pm_sw z kA b M (upd (upd (upd (upd (upd (upd (upd (pm_cpl r2 r) 0 (r2 0)) 1 (r2 1)) 2 (r2 2)) 3 (r2 3)) 4 (r2 4)) 5 (r2 5)) 6 (r2 6))) pm_sw_f6 ?_
      exact pm_return B dX10_copyFrom_99 rfl ⟨rfl, rfl, by rw [pm_cpr_of]⟩ rfl rfl
    | succ k ih =>
      intro j hj   hx
      have hjn : j < 7 := by omega
      refine pm_iload_n B dX10_copyFrom_2 rfl ?_
      refine pm_aload_n B dX10_copyFrom_3 rfl ?_
      refine pm_get B dX10_copyFrom_4 fl_X10_11 (pm_swS (z := z) (b := b) (kA := kA)).1 rfl ?_
      refine pm_alen B dX10_copyFrom_7 (pm_swS (z := z) (b := b) (kA := kA)).2.1 rfl rfl ?_
      refine pm_stk (st' := [.int (nI 7), .int (nI j)]) rfl ?_
      refine pm_icmp_ge (tgt := 32) B dX10_copyFrom_8 (by decide) (fun hq2 => absurd hq2 (nI_ge hjn (by omega))) (fun hq2 => ?_)
      refine pm_aload_n B dX10_copyFrom_11 rfl ?_
      refine pm_get B dX10_copyFrom_12 fl_X10_11 (pm_swS (z := z) (b := b) (kA := kA)).1 rfl ?_
      refine pm_iload_n B dX10_copyFrom_15 rfl ?_
      refine pm_aald_n B dX10_copyFrom_16 (pm_swS (z := z) (b := b) (kA := kA)).2.1 rfl j (by first | assumption | omega) (by decide) (pm_mr_at (by first | assumption | omega)) ?_
      refine pm_aload_n B dX10_copyFrom_17 rfl ?_
      refine pm_get B dX10_copyFrom_18 fl_X10_11 (hS3 (pm_cpk r2 r j)).1 rfl ?_
      refine pm_iload_n B dX10_copyFrom_21 rfl ?_
      refine pm_aald_n B dX10_copyFrom_22 (hS3 (pm_cpk r2 r j)).2.1 rfl j (by first | assumption | omega) (by decide) (pm_mr_at (by first | assumption | omega)) ?_
      refine pm_cV (As := [.ref (z + (b2 + 2 + j))]) (mc2 := 0) (ms2 := 0) B rfl ((pm_swS (z := z) (b := b) (kA := kA)).2.2.1 j (by first | assumption | omega)) rfl (c_X6_copyFrom ((pm_swS (z := z) (b := b) (kA := kA)).2.2.1 j (by first | assumption | omega)) ((hS3 (pm_cpk r2 r j)).2.2.1 j (by first | assumption | omega)) (by omega)) mt_X6_copyFrom sv_X10_29 dX10_copyFrom_23 rfl rfl rfl rfl rfl ?_
      refine pm_mem (M' := pm_sw z kA b M (pm_cpk r2 r (j + 1))) (by rw [show pm_mb (r2 (7 + 6 * j + 0)) (r2 (7 + 6 * j + 1)) (r2 (7 + 6 * j + 2)) (r2 (7 + 6 * j + 3)) (r2 (7 + 6 * j + 4)) (r2 (7 + 6 * j + 5)) = pm_mbr r2 j from rfl, pm_sw_m6 hjn rfl, pm_cpkS]) ?_
      refine pm_stk (st' := []) rfl ?_
      refine pm_iinc B dX10_copyFrom_26 rfl rfl rfl ?_
      refine pm_loc (L' := [some (.ref (z + b)), some (.ref (z + b2)), some (.int (nI (j + 1)))]) (by rw [show ((nI j) : Int32) + Int32.ofInt 1 = (nI (j + 1)) from nI_1 _]; rfl) ?_
      refine pm_goto (tgt := 2) B dX10_copyFrom_29 (by decide) ?_
      exact ih (j + 1) (by omega) (by omega)
  exact loop 7 0 (by omega)   (by omega)
/-- the past states' places, their rows -/
def pm_hp (z : Nat) : Nat → Option Nat := fun i => if i < 8 then some (z + (41 + 11 * i)) else none
theorem pm_hp_at {z i : Nat} (h : i < 8) : va_rf (pm_hp z i) = .ref (z + (41 + 11 * i)) := by rw [pm_hp, if_pos h]; rfl
def pm_HA (z : Nat) (kA : Nat → ClassId) (M : pm_M) (rh : Nat → Nat → Int32) : Prop := M 40 = some (.inl (kA 5, 8, .inr (.inr (.inr (.inr (pm_hp z)))))) ∧ ∀ i, i < 8 → pm_SA z kA (41 + 11 * i) M (rh i)
abbrev pm_ho (z o c : Nat) : va_E := .inr (2, [.ref (z + 40), .int (nI o), .int (nI c)])
set_option maxRecDepth 100000 in
set_option maxHeartbeats 4000000 in
theorem c_X4_keep {l : Launch} {z : Nat} {D : va_G} {kA : Nat → ClassId} {kE : Nat → Nat} {nx : Nat} {M : pm_M} {b o c : Nat} {r : Nat → Int32} {rh : Nat → Nat → Int32} (hS : pm_SA z kA b M r) (hb : b + 11 ≤ 39) (hH : pm_HA z kA M rh) (hho : M 39 = some (pm_ho z o c)) (ho : o < 8) (hc : c ≤ 8) : pm_C l z D kA kE yX4_keep cX4_keep 2 none 4 0 0 [.ref (z + 39), .ref (z + b)] nx M (pm_rt none nx (pm_up (pm_sw z kA (41 + 11 * ((o + c) % 8)) M (pm_cpr r (rh ((o + c) % 8)))) 39 (if c < 8 then pm_ho z o (c + 1) else pm_ho z ((o + 1) % 8) c))) := by
  refine pm_mk (own := RX4) (nm := "keep") mt_X4_keep rfl rfl rfl rfl fun X B => ?_
  refine pm_loc (L' := [some (.ref (z + 39)), some (.ref (z + b))]) rfl ?_
  have hp40 := hH.1
  refine pm_aload_n B dX4_keep_0 rfl ?_
  refine pm_get B dX4_keep_1 fl_X4_11 hho rfl ?_
  refine pm_aload_n B dX4_keep_4 rfl ?_
  refine pm_get B dX4_keep_5 fl_X4_16 hho rfl ?_
  refine pm_aload_n B dX4_keep_8 rfl ?_
  refine pm_get B dX4_keep_9 fl_X4_20 hho rfl ?_
  refine pm_iadd B dX4_keep_12 ?_
  refine pm_bipush (v := 8) B dX4_keep_13 (by decide) ?_
  refine pm_irem B dX4_keep_15 (by first | decide | assumption) ?_
  refine pm_stk (st' := [.int (nI ((o + c) % 8)), .ref (z + 40)]) (by rw [show (((nI o) + (nI c)) - ((nI o) + (nI c)) / 8 * 8) = (nI ((o + c) % 8)) from by rw [nI_add, show (8 : Int32) = nI 8 from rfl, pk_rem (by omega) (by decide) (by decide)]]) ?_
  refine pm_aald_n B dX4_keep_16 hp40 rfl ((o + c) % 8) (Nat.mod_lt _ (by decide)) (by decide) (pm_hp_at (Nat.mod_lt _ (by decide))) ?_
  refine pm_aload_n B dX4_keep_17 rfl ?_
  refine pm_cV (As := [.ref (z + b)]) (mc2 := 0) (ms2 := 0) B rfl (hH.2 (((o + c) % 8)) (Nat.mod_lt _ (by decide))).1 rfl (c_X10_copyFroms (hH.2 ((o + c) % 8) (Nat.mod_lt _ (by decide))) hS (by omega)) mt_X10_copyFrom sv_X4_23 dX4_keep_18 rfl rfl rfl rfl rfl ?_
  refine pm_mem (M' := pm_sw z kA (41 + 11 * ((o + c) % 8)) M (pm_cpr r (rh ((o + c) % 8)))) rfl ?_
  refine pm_stk (st' := []) rfl ?_
  refine pm_aload_n B dX4_keep_21 rfl ?_
  refine pm_get B dX4_keep_22 fl_X4_20 ((pm_sw_n (by omega)).trans hho) rfl ?_
  refine pm_bipush (v := 8) B dX4_keep_25 (by decide) ?_
  have h8 : (8 : Int32) = nI 8 := rfl
  refine pm_icmp_ge (tgt := 43) B dX4_keep_27 (by decide) (fun hq1 => ?_) (fun hq1 => ?_)
  · have hcc : ¬ c < 8 := by have hh := hq1; rw [h8, nI_leI (by decide) (by omega)] at hh; omega
    refine pm_aload_n B dX4_keep_43 rfl ?_
    refine pm_aload_n B dX4_keep_44 rfl ?_
    refine pm_get B dX4_keep_45 fl_X4_16 ((pm_sw_n (by omega)).trans hho) rfl ?_
    refine pm_iconst (v := 1) B dX4_keep_48 (by decide) ?_
    refine pm_iadd B dX4_keep_49 ?_
    refine pm_bipush (v := 8) B dX4_keep_50 (by decide) ?_
    refine pm_irem B dX4_keep_52 (by first | decide | assumption) ?_
    refine pm_stk (st' := [.int (nI ((o + 1) % 8)), .ref (z + 39)]) (by rw [show (((nI o) + 1) - ((nI o) + 1) / 8 * 8) = (nI ((o + 1) % 8)) from by rw [show (nI o + 1 : Int32) = nI (o + 1) from nI_1 o, h8, pk_rem (by omega) (by decide) (by decide)]]) ?_
    refine pm_put B dX4_keep_53 fs_X4_16 ((pm_sw_n (by omega)).trans hho) rfl rfl rfl ?_
    refine pm_mem (M' := pm_up (pm_sw z kA (41 + 11 * ((o + c) % 8)) M (pm_cpr r (rh ((o + c) % 8)))) 39 (.inr (2, [.ref (z + 40), .int (nI ((o + 1) % 8)), .int (nI c)]))) rfl ?_
    exact pm_return B dX4_keep_56 rfl ⟨rfl, rfl, by rw [if_neg hcc]⟩ rfl rfl
  · have hcc : c < 8 := by have hh := hq1; rw [h8, nI_leI (by decide) (by omega)] at hh; omega
    refine pm_aload_n B dX4_keep_30 rfl ?_
    refine pm_dup B dX4_keep_31 rfl ?_
    refine pm_get B dX4_keep_32 fl_X4_20 ((pm_sw_n (by omega)).trans hho) rfl ?_
    refine pm_iconst (v := 1) B dX4_keep_35 (by decide) ?_
    refine pm_iadd B dX4_keep_36 ?_
    refine pm_stk (st' := [.int (nI (c + 1)), .ref (z + 39)]) (by rw [show ((nI c) + 1) = (nI (c + 1)) from nI_1 c]) ?_
    refine pm_put B dX4_keep_37 fs_X4_20 ((pm_sw_n (by omega)).trans hho) rfl rfl rfl ?_
    refine pm_mem (M' := pm_up (pm_sw z kA (41 + 11 * ((o + c) % 8)) M (pm_cpr r (rh ((o + c) % 8)))) 39 (.inr (2, [.ref (z + 40), .int (nI o), .int (nI (c + 1))]))) rfl ?_
    refine pm_goto (tgt := 56) B dX4_keep_40 (by decide) ?_
    exact pm_return B dX4_keep_56 rfl ⟨rfl, rfl, by rw [if_pos hcc]⟩ rfl rfl
set_option maxRecDepth 100000 in
set_option maxHeartbeats 4000000 in
theorem c_X4_takeBack {l : Launch} {z : Nat} {D : va_G} {kA : Nat → ClassId} {kE : Nat → Nat} {nx : Nat} {M : pm_M} {b o c : Nat} {r : Nat → Int32} {rh : Nat → Nat → Int32} (hS : pm_SA z kA b M r) (hb : b + 11 ≤ 39) (hH : pm_HA z kA M rh) (hho : M 39 = some (pm_ho z o c)) (ho : o < 8) (hc : c ≤ 8) (hc0 : 0 < c) : pm_C l z D kA kE yX4_takeBack cX4_takeBack 2 none 4 0 0 [.ref (z + 39), .ref (z + b)] nx M (pm_rt none nx (pm_sw z kA b (pm_up M 39 (pm_ho z o (c - 1))) (pm_cpr (rh ((o + (c - 1)) % 8)) r))) := by
  refine pm_mk (own := RX4) (nm := "takeBack") mt_X4_takeBack rfl rfl rfl rfl fun X B => ?_
  refine pm_loc (L' := [some (.ref (z + 39)), some (.ref (z + b))]) rfl ?_
  have hp40 := hH.1
  refine pm_aload_n B dX4_takeBack_0 rfl ?_
  refine pm_get B dX4_takeBack_1 fl_X4_20 hho rfl ?_
  refine pm_if_le (tgt := 38) B dX4_takeBack_4 (by decide) (fun hq1 => absurd hq1 ((show ¬ nI c ≤ nI 0 by rw [nI_leI (by omega) (by decide)]; omega))) (fun hq1 => ?_)
  refine pm_aload_n B dX4_takeBack_7 rfl ?_
  refine pm_dup B dX4_takeBack_8 rfl ?_
  refine pm_get B dX4_takeBack_9 fl_X4_20 hho rfl ?_
  refine pm_iconst (v := 1) B dX4_takeBack_12 (by decide) ?_
  refine pm_isub B dX4_takeBack_13 ?_
  refine pm_stk (st' := [.int (nI (c - 1)), .ref (z + 39)]) (by rw [show ((nI c) - 1) = (nI (c - 1)) from pk_sub (b := 1) hc0]) ?_
  refine pm_put B dX4_takeBack_14 fs_X4_20 hho rfl rfl rfl ?_
  refine pm_mem (M' := pm_up M 39 (.inr (2, [.ref (z + 40), .int (nI o), .int (nI (c - 1))]))) rfl ?_
  refine pm_aload_n B dX4_takeBack_17 rfl ?_
  refine pm_aload_n B dX4_takeBack_18 rfl ?_
  refine pm_get B dX4_takeBack_19 fl_X4_11 pm_up_s rfl ?_
  refine pm_aload_n B dX4_takeBack_22 rfl ?_
  refine pm_get B dX4_takeBack_23 fl_X4_16 pm_up_s rfl ?_
  refine pm_aload_n B dX4_takeBack_26 rfl ?_
  refine pm_get B dX4_takeBack_27 fl_X4_20 pm_up_s rfl ?_
  refine pm_iadd B dX4_takeBack_30 ?_
  refine pm_bipush (v := 8) B dX4_takeBack_31 (by decide) ?_
  refine pm_irem B dX4_takeBack_33 (by first | decide | assumption) ?_
  refine pm_stk (st' := [.int (nI ((o + (c - 1)) % 8)), .ref (z + 40), .ref (z + b)]) (by rw [show (((nI o) + (nI (c - 1))) - ((nI o) + (nI (c - 1))) / 8 * 8) = (nI ((o + (c - 1)) % 8)) from by rw [nI_add, show (8 : Int32) = nI 8 from rfl, pk_rem (by omega) (by decide) (by decide)]]) ?_
  refine pm_aald_n B dX4_takeBack_34 ((pm_up_n (by omega)).trans hp40) rfl ((o + (c - 1)) % 8) (Nat.mod_lt _ (by decide)) (by decide) (pm_hp_at (Nat.mod_lt _ (by decide))) ?_
  refine pm_cV (As := [.ref (z + (41 + 11 * ((o + (c - 1)) % 8)))]) (mc2 := 0) (ms2 := 0) B rfl ((pm_up_n (by omega)).trans hS.1) rfl (c_X10_copyFroms (pm_SA_up (by omega) hS) (pm_SA_up (by omega) (hH.2 ((o + (c - 1)) % 8) (Nat.mod_lt _ (by decide)))) (by omega)) mt_X10_copyFrom sv_X4_23 dX4_takeBack_35 rfl rfl rfl rfl rfl ?_
  refine pm_mem (M' := pm_sw z kA b (pm_up M 39 (.inr (2, [.ref (z + 40), .int (nI o), .int (nI (c - 1))]))) (pm_cpr (rh ((o + (c - 1)) % 8)) r)) rfl ?_
  refine pm_stk (st' := []) rfl ?_
  exact pm_return B dX4_takeBack_38 rfl ⟨rfl, rfl, rfl⟩ rfl rfl
