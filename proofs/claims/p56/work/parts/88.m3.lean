/-! the law: cell -/
def pw_ce (kE : Nat → Nat) (k : Nat) : Int32 := if k < kE 71 then Int32.ofNat (kE (1000 + k)) else 40503 * nI k
theorem pw_71 {l : Launch} {z : Nat} {D : va_G} {kA : Nat → ClassId} {kE : Nat → Nat} {own : String} {cc : ByteArray} {nL : Nat} {ret : Option FieldType} {nm : String} {tb : List ExceptionTableEntry} {d mc ms : Nat} {X : pm_X} (B : pm_B l z D kA kE own cc nL ret nm tb d mc ms X) : kE 71 ≤ 260 := by
  obtain ⟨hx, hb, hml, hown, hts, hr, hlk, hK, hnm, htb, hrm, hz, hcs⟩ := B
  exact hcs.2.2.2.2.1.2.1.2.1

theorem dL_cell_0 : decode cL_cell 0 = .ok (.iload_n 1, 1) := by decide +kernel
theorem dL_cell_1 : decode cL_cell 1 = .ok (.aload_n 0, 1) := by decide +kernel
theorem dL_cell_2 : decode cL_cell 2 = .ok (.arraylength, 1) := by decide +kernel
theorem dL_cell_3 : decode cL_cell 3 = .ok (.if_icmp .ge 9, 3) := by decide +kernel
theorem dL_cell_6 : decode cL_cell 6 = .ok (.aload_n 0, 1) := by decide +kernel
theorem dL_cell_7 : decode cL_cell 7 = .ok (.iload_n 1, 1) := by decide +kernel
theorem dL_cell_8 : decode cL_cell 8 = .ok (.iaload, 1) := by decide +kernel
theorem dL_cell_9 : decode cL_cell 9 = .ok (.goto 7, 3) := by decide +kernel
theorem dL_cell_12 : decode cL_cell 12 = .ok (.ldc 7, 2) := by decide +kernel
theorem dL_cell_14 : decode cL_cell 14 = .ok (.iload_n 1, 1) := by decide +kernel
theorem dL_cell_15 : decode cL_cell 15 = .ok (.imul, 1) := by decide +kernel
theorem dL_cell_16 : decode cL_cell 16 = .ok (.ireturn, 1) := by decide +kernel
theorem mt_L_cell : pm_Mt yL_cell cL_cell 2 (some .int) 2 := ⟨pm_T_in 375 (by decide +kernel) (by decide +kernel), pm_T_in 34 (by decide +kernel) (by decide +kernel), ⟨by decide +kernel, by decide +kernel, by decide +kernel⟩, by decide +kernel, by decide⟩
theorem c_L_cell {l : Launch} {z : Nat} {D : va_G} {kA : Nat → ClassId} {kE : Nat → Nat} {W : Nat → pm_M → Prop} {k : Nat} (hk : k < 1000) : ∀ nx M, W nx M → pm_C l z D kA kE yL_cell cL_cell 2 (some .int) 20 0 0 [.ref (kE 70), .int (nI k)] nx M (pw_P (some (.int (pw_ce kE k))) W) := by
  refine pw_mk (own := RL) (nm := "cell") mt_L_cell rfl rfl rfl rfl fun X B9 => ?_
  have hN := pw_71 B9
  refine pw_l (fun _ _ _ _ kk => pm_loc (L' := [some (.ref (kE 70)), some (.int (nI k))]) rfl kk) ?_
  refine pw_l (fun _ _ _ _ kk => pm_iload_n B9 dL_cell_0 rfl kk) ?_
  refine pw_l (fun _ _ _ _ kk => pm_aload_n B9 dL_cell_1 rfl kk) ?_
  refine pw_l (fun _ _ _ _ kk => pm_lnL (v := nI (kE 71)) B9 (fun U H h => h.2.1.2.2) rfl dL_cell_2 kk) ?_
  refine pw_l2 (fun _ _ _ _ k1 k2 => pm_icmp_ge (tgt := 12) B9 dL_cell_3 (by decide) k1 k2) (fun h => ?_) (fun h => ?_)
  · have hlt : ¬ k < kE 71 := fun e => by
      have := (nI_leI (by omega) (by omega)).mp h
      omega
    refine pw_l (fun _ _ _ _ kk => pm_ldc (v := 40503) B9 dL_cell_12 (pm_T_in 376 (by decide +kernel) (by decide +kernel)) kk) ?_
    refine pw_l (fun _ _ _ _ kk => pm_iload_n B9 dL_cell_14 rfl kk) ?_
    refine pw_l (fun _ _ _ _ kk => pm_imul B9 dL_cell_15 kk) ?_
    exact fun cu su nx M h1 h2 hW => pm_ireturn B9 dL_cell_16 rfl rfl ⟨by unfold pw_ce; rw [if_neg hlt], hW⟩ (Nat.ble_eq_true_of_le (by omega)) (Nat.ble_eq_true_of_le (by omega))
  · have hlt : k < kE 71 := Nat.lt_of_not_le fun e => h ((nI_leI (by omega) (by omega)).mpr e)
    refine pw_l (fun _ _ _ _ kk => pm_aload_n B9 dL_cell_6 rfl kk) ?_
    refine pw_l (fun _ _ _ _ kk => pm_iload_n B9 dL_cell_7 rfl kk) ?_
    refine pw_l (fun _ _ _ _ kk => pm_tiL (v := .int (Int32.ofNat (kE (1000 + k)))) B9 (fun U H h => h.2.1.2.2) k hlt (by omega) rfl dL_cell_8 kk) ?_
    refine pw_l (fun _ _ _ _ kk => pm_goto (tgt := 16) B9 dL_cell_9 (by decide) kk) ?_
    exact fun cu su nx M h1 h2 hW => pm_ireturn B9 dL_cell_16 rfl rfl ⟨by unfold pw_ce; rw [if_pos hlt], hW⟩ (Nat.ble_eq_true_of_le (by omega)) (Nat.ble_eq_true_of_le (by omega))
section PWBR
variable {n T C : Nat} {r : Nat → Int32}
/-- quotas by remainders: what is given to D, when the members stand at remainder m, place j -/
def pw_iv (T C n : Nat) (r : Nat → Int32) (Lz m j D p : Nat) (q : Nat → Int32) : Prop := pm_gvn T C n r D p ∧ p ≤ Lz ∧ (∀ i, i < n → q i = nI (pm_fl T C r i + D / 2 ^ i % 2)) ∧ (p = Lz ∨ ∀ i, i < n → (D / 2 ^ i % 2 = 1 ↔ r (7 + 6 * i + 5) = 0 ∧ (m < pm_rq T C r i ∨ (pm_rq T C r i = m ∧ i < j))))
variable {Lz m j D p : Nat} {q : Nat → Int32}
theorem pw_iv_m (h : pw_iv T C n r Lz (m + 1) n D p q) : pw_iv T C n r Lz m 0 D p q := by
  obtain ⟨h1, h2, h3, h4⟩ := h
  refine ⟨h1, h2, h3, h4.imp id fun h4 i hi => (h4 i hi).trans ?_⟩
  constructor
  · rintro ⟨a, b⟩; exact ⟨a, by omega⟩
  · rintro ⟨a, b⟩; exact ⟨a, by omega⟩
theorem pw_iv_f {m2 j2 : Nat} (h : pw_iv T C n r Lz m j D p q) (hp : p = Lz) : pw_iv T C n r Lz m2 j2 D p q := ⟨h.1, h.2.1, h.2.2.1, Or.inl hp⟩
theorem pw_iv_s (h : pw_iv T C n r Lz m j D p q) (hs : r (7 + 6 * j + 5) = 0 → pm_rq T C r j ≠ m) : pw_iv T C n r Lz m (j + 1) D p q := by
  obtain ⟨h1, h2, h3, h4⟩ := h
  refine ⟨h1, h2, h3, h4.imp id fun h4 i hi => (h4 i hi).trans ?_⟩
  constructor
  · rintro ⟨a, b⟩; exact ⟨a, by omega⟩
  · rintro ⟨a, b⟩
    by_cases hij : i = j
    · subst hij
      have := hs a
      exact ⟨a, by omega⟩
    · exact ⟨a, by omega⟩
theorem pw_iv_g (h : pw_iv T C n r Lz m j D p q) (hp : p < Lz) (hj : j < n) (h7 : n ≤ 7) (ha : r (7 + 6 * j + 5) = 0) (hm : pm_rq T C r j = m) : pw_iv T C n r Lz m (j + 1) (D ||| 2 ^ j) (p + 1) (upd q j (q j + 1)) := by
  have ho : ∀ D, D < 128 → ∀ m, m < 7 → D ||| 2 ^ m < 128 := by decide +kernel
  have hbt : ∀ D, D < 128 → ∀ m, m < 7 → ∀ j, j < 7 → (D ||| 2 ^ m) / 2 ^ j % 2 = if j = m then 1 else D / 2 ^ j % 2 := by decide +kernel
  have hpc : ∀ D, D < 128 → ∀ m, m < 7 → D / 2 ^ m % 2 = 0 → ∀ n, n < 8 → m < n → pm_pc (D ||| 2 ^ m) n = pm_pc D n + 1 := by decide +kernel
  obtain ⟨⟨d1, d2, d3, d4⟩, h2, h3, h4⟩ := h
  have h4 := h4.resolve_left (by omega)
  have hj7 : j < 7 := by omega
  have b0 : D / 2 ^ j % 2 = 0 := by
    have : ¬ D / 2 ^ j % 2 = 1 := fun e => by
      have := ((h4 j hj).mp e).2
      omega
    omega
  have b2 : ∀ i, i < n → (D ||| 2 ^ j) / 2 ^ i % 2 = if i = j then 1 else D / 2 ^ i % 2 := fun i hi => hbt D d1 j hj7 i (by omega)
  refine ⟨⟨ho D d1 j hj7, by rw [hpc D d1 j hj7 b0 n (by omega) hj, d2], fun i hi hb => ?_, fun i t hi ht hb hct => ?_⟩, by omega, fun i hi => ?_, Or.inr fun i hi => ?_⟩
  · rw [b2 i hi] at hb
    by_cases hij : i = j
    · subst hij; exact ha
    · rw [if_neg hij] at hb; exact d3 i hi hb
  · have htj : t ≠ j := fun e => by
      have h5 := hct.2
      rw [b2 t ht, if_pos e] at h5
      omega
    have hct2 : pm_cd r D t := by
      have h5 := hct.2
      rw [b2 t ht, if_neg htj] at h5
      exact ⟨hct.1, h5⟩
    rw [b2 i hi] at hb
    by_cases hij : i = j
    · subst hij
      have hn : ¬ (m < pm_rq T C r t ∨ (pm_rq T C r t = m ∧ t < i)) := fun e => by
        have := (h4 t ht).mpr ⟨hct2.1, e⟩
        have := hct2.2
        omega
      show pm_rq T C r t < pm_rq T C r i ∨ (pm_rq T C r i = pm_rq T C r t ∧ i < t)
      omega
    · rw [if_neg hij] at hb; exact d4 i t hi ht hb hct2
  · rw [b2 i hi]
    by_cases hij : i = j
    · subst hij; rw [pk_us, h3 i hi, b0, nI_1, if_pos rfl]
    · rw [pk_un hij, if_neg hij]; exact h3 i hi
  · rw [b2 i hi]
    by_cases hij : i = j
    · subst hij
      rw [if_pos rfl]
      exact ⟨fun _ => ⟨ha, by omega⟩, fun _ => rfl⟩
    · rw [if_neg hij]
      refine (h4 i hi).trans ⟨fun ⟨a, b⟩ => ⟨a, by omega⟩, fun ⟨a, b⟩ => ⟨a, by omega⟩⟩
theorem pw_iv_0 (hC : 0 < C) (h7 : n ≤ 7) (hq : ∀ i, i < n → q i = nI (pm_fl T C r i)) : pw_iv T C n r Lz (C - 1) 0 0 0 q := by
  have p0 : ∀ n, n < 8 → pm_pc 0 n = 0 := by decide +kernel
  have hz0 : ∀ i, 0 / 2 ^ i % 2 = 0 := fun i => by rw [Nat.zero_div]
  refine ⟨⟨by decide, p0 n (by omega), fun i _ h => absurd (hz0 i ▸ h) (by decide), fun i t _ _ h => absurd (hz0 i ▸ h) (by decide)⟩, Nat.zero_le _, fun i hi => by rw [hz0, Nat.add_zero]; exact hq i hi, Or.inr fun i hi => ?_⟩
  rw [hz0]
  constructor
  · intro h; exact absurd h (by decide)
  · rintro ⟨a, b⟩
    have hlt : pm_rq T C r i < C := Nat.mod_lt _ hC
    omega
theorem pw_s1 (hC : 0 < C) (hCe : pm_sf (pm_cF r) n 0 = C) : C * pm_sf (pm_fl T C r) n 0 + pm_sf (pm_rq T C r) n 0 = T * C ∧ pm_sf (pm_fl T C r) n 0 ≤ T := by
  have s1 : C * pm_sf (pm_fl T C r) n 0 + pm_sf (pm_rq T C r) n 0 = T * C := by
    rw [← pm_sf_mul, ← pm_sf_add, ← hCe, ← pm_sf_mul]
    refine pm_sf_cg fun i _ _ => ?_
    rw [hCe]
    exact Nat.div_add_mod _ _
  exact ⟨s1, Nat.le_of_mul_le_mul_left (show C * _ ≤ C * T by rw [Nat.mul_comm C T]; omega) hC⟩
theorem pw_iv_z (hC : 0 < C) (hCe : pm_sf (pm_cF r) n 0 = C) (hL : Lz = T - pm_sf (pm_fl T C r) n 0) (h : pw_iv T C n r Lz 0 0 D p q) : p = Lz := by
  obtain ⟨⟨d1, d2, d3, d4⟩, h2, h3, h4⟩ := h
  rcases h4 with h4 | h4
  · exact h4
  obtain ⟨s1, s2⟩ := pw_s1 (T := T) hC hCe
  have e1 : pm_sf (pm_rq T C r) n 0 = C * Lz := by rw [hL, Nat.mul_sub, Nat.mul_comm C T]; omega
  have e2 : pm_sf (pm_rq T C r) n 0 ≤ pm_sf (fun i => (C - 1) * (D / 2 ^ i % 2)) n 0 := by
    refine pm_sf_le n 0 fun i _ hi => ?_
    have hlt : pm_rq T C r i < C := Nat.mod_lt _ hC
    by_cases hb : D / 2 ^ i % 2 = 1
    · show _ ≤ (C - 1) * (D / 2 ^ i % 2)
      rw [hb]; omega
    · have hr : pm_rq T C r i = 0 := by
        by_cases ha : r (7 + 6 * i + 5) = 0
        · have := mt (h4 i (by omega)).mpr hb
          apply Classical.byContradiction
          intro hne
          exact this ⟨ha, by omega⟩
        · unfold pm_rq; rw [show pm_cF r i = 0 from if_neg ha, Nat.mul_zero, Nat.zero_mod]
      rw [hr]; exact Nat.zero_le _
  have e3 : pm_sf (fun i => (C - 1) * (D / 2 ^ i % 2)) n 0 ≤ (C - 1) * p := by
    rw [pm_sf_mul (F := fun i => D / 2 ^ i % 2), ← d2]
    exact Nat.mul_le_mul_left _ (pm_pc_sf n fun i _ => Nat.le_refl _)
  have e4 : (C - 1) * p ≤ (C - 1) * Lz := Nat.mul_le_mul_left _ h2
  have e5 : (C - 1) * Lz + Lz = C * Lz := by
    obtain ⟨c, rfl⟩ : ∃ c, C = c + 1 := ⟨C - 1, by omega⟩
    rw [Nat.add_sub_cancel, Nat.succ_mul]
  omega
theorem pw_qb0 {i : Nat} {y : Int32} (hw : ∀ i, i < n → pm_rw r i) (hCe : pm_sf (pm_cF r) n 0 = 0) (hi : i < n) (h7 : n ≤ 7) : pw_qb n r (nI T) y i = 0 := by
  unfold pw_qb d_X1_apportion
  have ec : d_X1_apportion_L2 r n 0 0 = nI (pm_sf (pm_cF r) n 0) := by
    rw [show (0 : Int32) = nI 0 from rfl, pm_apC hw n 0 0 (by omega), Nat.zero_add]
  rw [if_pos (by rw [ec, hCe]; rfl)]
  show d_X1_apportion_L1 7 0 _ i = 0
  rw [pm_apZ, if_pos (by omega)]
theorem pw_iv_e (hw : ∀ i, i < n → pm_rw r i) (h7 : n ≤ 7) (hT : T ≤ 300) (hC : 0 < C) (hC2 : C ≤ 693) (hCe : pm_sf (pm_cF r) n 0 = C) (hL : Lz = T - pm_sf (pm_fl T C r) n 0) (h : pw_iv T C n r Lz m j D p q) (hp : p = Lz) : ∀ i, i < n → q i = pw_qb n r (nI T) 0 i := by
  intro i hi
  subst hp
  obtain ⟨a2, -, h3, -⟩ := h
  obtain ⟨s1, s2⟩ := pw_s1 (T := T) hC hCe
  rw [h3 i hi]
  symm
  have ec : d_X1_apportion_L2 r n 0 0 = nI C := by
    rw [show (0 : Int32) = nI 0 from rfl, pm_apC hw n 0 0 (by omega), Nat.zero_add, hCe]
  have hCn : ¬ nI C = 0 := nI_ne0 hC (by omega)
  have hz7 : ∀ i, i < n → d_X1_apportion_L1 7 0 (fun _ => 0) i = 0 := fun i hi => by rw [pm_apZ, if_pos (by omega)]
  obtain ⟨c1, c2, c3⟩ := pm_gv hw hT hC hC2 n 0 T (d_X1_apportion_L1 7 0 (fun _ => 0)) (fun _ => 0) (by omega) s2
  rw [← hL] at c1
  unfold pw_qb d_X1_apportion
  rw [if_neg (by rw [ec]; exact hCn), if_pos rfl]
  show d_X1_giveByRemainders_L2 _ _ _ _ _ _ i = nI (pm_fl T C r i + D / 2 ^ i % 2)
  rw [ec, c1, pm_gv2 hC hC2 h7 (by omega) (fun i hi => by rw [c3 i, if_pos (by omega)]) n 0 _ (by omega) i, c2 i]
  by_cases hb : r (7 + 6 * i + 5) = 0
  · rw [if_pos (show 0 ≤ i ∧ i < 0 + n ∧ r (7 + 6 * i + 5) = 0 from ⟨by omega, by omega, hb⟩)]
    by_cases hbit : D / 2 ^ i % 2 = 1
    · have hlt : pm_sf (pm_aca T C r i) n 0 < p := by
        have h5 := a2.2.1
        rw [← h5]
        have ac0 : pm_aca T C r i i = 0 := if_neg fun e => by
          rcases e.2 with e | e <;> omega
        refine pm_pc_sl (t := i) n (fun t ht => ?_) hi (by rw [ac0, hbit]; decide)
        by_cases hac : r (7 + 6 * t + 5) = 0 ∧ pm_ahd T C r t i
        · have : ¬ D / 2 ^ t % 2 = 0 := fun e => by
            have h6 := a2.2.2.2 i t hi ht hbit ⟨hac.1, e⟩
            have h7 := hac.2
            unfold pm_ahd at h6 h7
            omega
          rw [show pm_aca T C r i t = 1 from if_pos hac]
          omega
        · rw [show pm_aca T C r i t = 0 from if_neg hac]
          exact Nat.zero_le _
      rw [if_pos ⟨by omega, by omega, hb, hlt⟩, nI_1, hbit]
    · have hb0 : D / 2 ^ i % 2 = 0 := by omega
      have hge : p ≤ pm_sf (pm_aca T C r i) n 0 := by
        have h5 := a2.2.1
        rw [← h5]
        refine pm_sf_pc n fun t ht => ?_
        by_cases hbt : D / 2 ^ t % 2 = 1
        · rw [show pm_aca T C r i t = 1 from if_pos ⟨a2.2.2.1 t ht hbt, a2.2.2.2 t i ht hi hbt ⟨hb, hb0⟩⟩, hbt]
          exact Nat.le_refl _
        · omega
      rw [if_neg (fun e => by omega), hb0, Nat.add_zero]
  · have hb0 : D / 2 ^ i % 2 = 0 := by
      have : ¬ D / 2 ^ i % 2 = 1 := fun e => hb (a2.2.2.1 i hi e)
      omega
    rw [if_neg (fun e => hb e.2.2.1), if_neg (fun e => hb e.2.2), hz7 i hi, hb0, show pm_fl T C r i = 0 by unfold pm_fl; rw [show pm_cF r i = 0 from if_neg hb, Nat.mul_zero, Nat.zero_div]]
    rfl
end PWBR

