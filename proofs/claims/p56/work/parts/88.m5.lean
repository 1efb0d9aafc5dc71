def w_L_quotas_2 (n : Nat) (r : (Nat → Int32)) (T : Nat) (x0 : (Nat → Int32)) : Nat → ((Nat → Int32))
  | 0 => x0
  | j2 + 1 => (upd (w_L_quotas_2 n r T x0 j2) j2 (pw_qb n r (nI T) 1 j2))
theorem pw_inT {T : Nat} (hT : T ≤ 300) : ¬ pm_in (nI T) 0 300 = 0 := by
  have h : ∀ T, T ≤ 300 → ¬ pm_in (nI T) 0 300 = 0 := by
    intro T hT
    unfold pm_in
    rw [if_neg (nI_pos (by omega)), if_neg (fun h => by have := (nI_ltI (a := 300) (b := T) (by omega) (by omega)).mp h; omega)]
    decide
  exact h T hT
theorem pw_ush1 (x : Int32) : ∃ a, a < 2147483648 ∧ pm_ush x 1 = nI a := by
  refine ⟨x.toUInt32.toNat / 2, ?_, ?_⟩
  · have := x.toUInt32.toNat_lt; omega
  · have h : (1 : Int32).toUInt32 &&& Int32.toUInt32 31 = 1 := by decide
    unfold pm_ush
    rw [h]
    have e : (x.toUInt32 >>> 1) = UInt32.ofNat (x.toUInt32.toNat / 2) := by
      apply UInt32.toNat_inj.mp
      have := x.toUInt32.toNat_lt
      rw [UInt32.toNat_shiftRight, UInt32.toNat_ofNat_of_lt' (by show _ < 2^32; omega)]
      simp [Nat.shiftRight_eq_div_pow]
    rw [e]
    rfl
theorem pw_ushm (x : Int32) {m : Nat} (hm : 0 < m) (hm2 : m < 100000) : ∃ t, t < m ∧ pm_ush x 1 - pm_ush x 1 / (nI m) * (nI m) = nI t := by
  obtain ⟨a, ha, e⟩ := pw_ush1 x
  rw [e]
  exact ⟨a % m, Nat.mod_lt _ hm, pk_rem (by omega) hm (by omega)⟩
theorem pw_qt (a b : Prop) [Decidable a] [Decidable b] (x : Int32) : ∃ T, T ≤ 300 ∧ ((if a then 300 else (if b then 1 else (pm_ush x 1 - pm_ush x 1 / 301 * 301))) : Int32) = nI T := by
  by_cases h : a
  · rw [if_pos h]; exact ⟨300, by omega, rfl⟩
  · rw [if_neg h]
    by_cases h : b
    · rw [if_pos h]; exact ⟨1, by omega, rfl⟩
    · rw [if_neg h]
      obtain ⟨t, h1, h2⟩ := pw_ushm x (m := 301) (by decide) (by decide)
      exact ⟨t, by omega, h2⟩
theorem pw_qbz {B n k : Nat} {r : Nat → Int32} (hI : pm_I B n r) (hk : k < n) : pw_qb n r 0 1 k = 0 := by
  have hz : d_X1_apportion_L1 7 0 (fun _ => 0) k = 0 := by rw [pm_apZ, if_pos (by have := hI.1.2.1; omega)]
  unfold pw_qb d_X1_apportion
  split
  · exact hz
  · rw [if_neg (by decide)]
    exact hz
section PWAQ
variable {B n : Nat} {r : Nat → Int32}
def pw_cp (r : Nat → Int32) (i : Nat) : Nat := pm_n (r (7 + 6 * i + 0))
def pw_bf (r : Nat → Int32) (Q : Nat → Nat) (m i : Nat) : Prop := pw_cp r i * (Q m + 1) < pw_cp r m * (Q i + 1) ∨ (pw_cp r i * (Q m + 1) = pw_cp r m * (Q i + 1) ∧ m < i)
theorem pw_tr {a b c x y z : Nat} (h1 : a * (y + 1) ≤ b * (x + 1)) (h2 : b * (z + 1) < c * (y + 1)) : a * (z + 1) < c * (x + 1) := by
  have e1 := Nat.mul_le_mul_right (z + 1) h1
  have e2 := Nat.mul_lt_mul_of_pos_right h2 (Nat.succ_pos x)
  have e3 : (y + 1) * (a * (z + 1)) = a * (y + 1) * (z + 1) := by rw [← Nat.mul_assoc, Nat.mul_comm (y + 1) a]
  have e4 : b * (x + 1) * (z + 1) = b * (z + 1) * (x + 1) := Nat.mul_right_comm _ _ _
  have e5 : (y + 1) * (c * (x + 1)) = c * (y + 1) * (x + 1) := by rw [← Nat.mul_assoc, Nat.mul_comm (y + 1) c]
  refine Nat.lt_of_mul_lt_mul_left (a := y + 1) ?_
  rw [e3, e5]
  exact Nat.lt_of_le_of_lt e1 (by rw [e4]; exact e2)
theorem pw_cpN (hw : ∀ i, i < n → pm_rw r i) {i : Nat} (hi : i < n) : r (7 + 6 * i + 0) = nI (pw_cp r i) ∧ 1 ≤ pw_cp r i ∧ pw_cp r i ≤ 99 := (hw i hi).1
theorem pw_prod (hw : ∀ i, i < n → pm_rw r i) {i x : Nat} (hi : i < n) (hx : x ≤ 301) : r (7 + 6 * i + 0) * nI x = nI (pw_cp r i * x) ∧ pw_cp r i * x ≤ 29799 := by
  obtain ⟨c1, c2, c3⟩ := pw_cpN hw hi
  rw [c1, pk_mul]
  exact ⟨rfl, Nat.le_trans (Nat.mul_le_mul c3 hx) (by decide)⟩
theorem pw_b1 (hw : ∀ i, i < n → pm_rw r i) (h7 : n ≤ 7) {q : Nat → Int32} {Q : Nat → Nat} (hq : ∀ i, i < n → q i = nI (Q i) ∧ Q i ≤ 300) (hex : ∃ i, i < n ∧ r (7 + 6 * i + 5) = 0) : ∀ (k j : Nat) (a : Int32), j + k = n → ((a = -1 ∧ ∀ i, i < j → ¬ r (7 + 6 * i + 5) = 0) ∨ ∃ m, m < j ∧ a = nI m ∧ r (7 + 6 * m + 5) = 0 ∧ ∀ i, i < j → r (7 + 6 * i + 5) = 0 → i ≠ m → pw_bf r Q m i) →
    ∃ m, m < n ∧ d_X1_giveOneByOne_L2 n r q k j a = nI m ∧ r (7 + 6 * m + 5) = 0 ∧ ∀ i, i < n → r (7 + 6 * i + 5) = 0 → i ≠ m → pw_bf r Q m i := by
  intro k
  induction k with
  | zero =>
    intro j a hj ha
    obtain rfl : j = n := by omega
    rcases ha with ⟨-, h⟩ | ⟨m, h1, h2, h3, h4⟩
    · obtain ⟨i, hi, hb⟩ := hex
      exact absurd hb (h i hi)
    · exact ⟨m, h1, h2, h3, h4⟩
  | succ k ih =>
    intro j a hj ha
    have hjn : j < n := by omega
    simp only [d_X1_giveOneByOne_L2]
    by_cases hc : r (7 + 6 * j + 5) = 0
    · rw [if_pos hc]
      rcases ha with ⟨rfl, h⟩ | ⟨m, h1, rfl, h3, h4⟩
      · rw [if_pos (by decide)]
        exact ih _ _ (by omega) (Or.inr ⟨j, by omega, rfl, hc, fun i hi hb hne => absurd hb (h i (by omega))⟩)
      · rw [if_neg (nI_pos (by omega)), pm_n_nI (by omega)]
        obtain ⟨q1, q2⟩ := hq m (by omega)
        obtain ⟨q3, q4⟩ := hq j hjn
        have hg : d_X1_isGreater j m n r q = if pw_cp r j * (Q m + 1) ≤ pw_cp r m * (Q j + 1) then 0 else 1 := by
          unfold d_X1_isGreater
          rw [q1, q3, nI_1, nI_1, (pw_prod hw hjn (show Q m + 1 ≤ 301 by omega)).1, (pw_prod hw (show m < n by omega) (show Q j + 1 ≤ 301 by omega)).1]
          have l1 := (pw_prod hw hjn (show Q m + 1 ≤ 301 by omega)).2
          have l2 := (pw_prod hw (show m < n by omega) (show Q j + 1 ≤ 301 by omega)).2
          by_cases hle : pw_cp r j * (Q m + 1) ≤ pw_cp r m * (Q j + 1)
          · rw [if_pos ((nI_leI (by omega) (by omega)).mpr hle), if_pos hle]
          · rw [if_neg (fun e => hle ((nI_leI (by omega) (by omega)).mp e)), if_neg hle]
        rw [hg]
        by_cases hle : pw_cp r j * (Q m + 1) ≤ pw_cp r m * (Q j + 1)
        · rw [if_pos hle, if_pos rfl]
          refine ih _ _ (by omega) (Or.inr ⟨m, by omega, rfl, h3, fun i hi hb hne => ?_⟩)
          by_cases hij : i = j
          · subst hij
            unfold pw_bf
            omega
          · exact h4 i (by omega) hb hne
        · rw [if_neg hle, if_neg (by decide)]
          refine ih _ _ (by omega) (Or.inr ⟨j, by omega, rfl, hc, fun i hi hb hne => ?_⟩)
          by_cases him : i = m
          · subst him
            unfold pw_bf
            omega
          · have h5 := h4 i (by omega) hb him
            refine Or.inl (pw_tr (b := pw_cp r m) (y := Q m) ?_ (by omega))
            unfold pw_bf at h5
            omega
    · rw [if_neg hc]
      refine ih _ _ (by omega) ?_
      rcases ha with ⟨e, h⟩ | ⟨m, h1, h2, h3, h4⟩
      · refine Or.inl ⟨e, fun i hi => ?_⟩
        by_cases hij : i = j
        · rw [hij]; exact hc
        · exact h i (by omega)
      · refine Or.inr ⟨m, by omega, h2, h3, fun i hi hb hne => ?_⟩
        by_cases hij : i = j
        · rw [hij] at hb; exact absurd hb hc
        · exact h4 i (by omega) hb hne
/-- the rule 1: what has been given -/
def pw_gI (n : Nat) (r : Nat → Int32) (p : Nat) (q : Nat → Int32) (Q : Nat → Nat) : Prop :=
  (∀ i, i < n → q i = nI (Q i) ∧ Q i ≤ p) ∧ (∀ i, i < n → ¬ r (7 + 6 * i + 5) = 0 → Q i = 0) ∧ pm_sf Q n 0 = p ∧
  ∀ k o, k < n → o < n → k ≠ o → r (7 + 6 * k + 5) = 0 → r (7 + 6 * o + 5) = 0 → 0 < Q k → (pw_cp r o * Q k < pw_cp r k * (Q o + 1) ∨ (pw_cp r o * Q k = pw_cp r k * (Q o + 1) ∧ k < o))
theorem pw_sf1 {m : Nat} : ∀ n, pm_sf (fun i => if i = m then 1 else 0) n 0 = if m < n then 1 else 0 := by
  intro n
  induction n with
  | zero => rw [if_neg (Nat.not_lt_zero _)]; rfl
  | succ n ih =>
    rw [pm_sf_top, ih, Nat.zero_add]
    by_cases h : n = m
    · subst h
      rw [if_neg (Nat.lt_irrefl _), if_pos rfl, if_pos (Nat.lt_succ_self _)]
    · rw [if_neg h]
      by_cases h2 : m < n
      · rw [if_pos h2, if_pos (by omega)]
      · rw [if_neg h2, if_neg (by omega)]
theorem pw_gL (hw : ∀ i, i < n → pm_rw r i) (h7 : n ≤ 7) (hex : ∃ i, i < n ∧ r (7 + 6 * i + 5) = 0) : ∀ (k j p : Nat) (q : Nat → Int32) (Q : Nat → Nat), p + k ≤ 300 → pw_gI n r p q Q → ∃ Q', pw_gI n r (p + k) (d_X1_giveOneByOne_L1 n r k j q) Q' := by
  intro k
  induction k with
  | zero => intro j p q Q _ h; exact ⟨Q, h⟩
  | succ k ih =>
    intro j p q Q hp h
    obtain ⟨h1, h2, h3, h4⟩ := h
    obtain ⟨m, m1, m2, m3, m4⟩ := pw_b1 hw h7 (q := q) (Q := Q) (fun i hi => ⟨(h1 i hi).1, by have := (h1 i hi).2; omega⟩) hex n 0 (-1) (by omega) (Or.inl ⟨rfl, fun i hi => absurd hi (Nat.not_lt_zero _)⟩)
    simp only [d_X1_giveOneByOne_L1, m2, pm_n_nI (show m < 2 ^ 31 by omega)]
    rw [if_neg (nI_pos (by omega)), show p + (k + 1) = (p + 1) + k by omega]
    refine ih (j + 1) (p + 1) _ (fun i => Q i + if i = m then 1 else 0) (by omega) ⟨fun i hi => ?_, fun i hi hb => ?_, ?_, fun a o ha ho hao hba hbo hQ => ?_⟩
    · obtain ⟨e1, e2⟩ := h1 i hi
      show _ = nI (Q i + if i = m then 1 else 0) ∧ (Q i + if i = m then 1 else 0) ≤ p + 1
      by_cases him : i = m
      · subst him
        rw [pk_us, e1, nI_1, if_pos rfl]
        exact ⟨rfl, by omega⟩
      · rw [pk_un him, e1, if_neg him]
        exact ⟨rfl, by omega⟩
    · have him : i ≠ m := fun e => hb (e ▸ m3)
      show Q i + (if i = m then 1 else 0) = 0
      rw [h2 i hi hb, if_neg him]
    · rw [pm_sf_add, h3, pw_sf1, if_pos m1]
    · dsimp only at hQ ⊢
      by_cases ham : a = m
      · subst ham
        rw [if_pos rfl, if_neg (Ne.symm hao)]
        have h5 := m4 o ho hbo (Ne.symm hao)
        exact h5
      · rw [if_neg ham] at hQ ⊢
        by_cases hom : o = m
        · subst hom
          rw [if_pos rfl]
          have h5 := h4 a o ha ho hao hba hbo hQ
          have h6 := (pw_cpN hw ha).2.1
          have h7 : pw_cp r a * (Q o + 1 + 1) = pw_cp r a * (Q o + 1) + pw_cp r a := Nat.mul_succ _ _
          rw [Nat.add_zero, h7]
          omega
        · rw [if_neg hom]
          exact h4 a o ha ho hao hba hbo hQ
theorem pw_qN {T : Nat} : ∀ j i, i < j → w_L_quotas_2 n r T (fun _ => 0) j i = pw_qb n r (nI T) 1 i := by
  intro j
  induction j with
  | zero => intro i hi; omega
  | succ j ih =>
    intro i hi
    show (upd (w_L_quotas_2 n r T (fun _ => 0) j) j (pw_qb n r (nI T) 1 j)) i = _
    by_cases hij : i = j
    · subst hij; rw [pk_us]
    · rw [pk_un hij]; exact ih i (by omega)
theorem pw_q1 {T : Nat} (hI : pm_I B n r) (hT : T ≤ 300) : ∃ Q p, pw_gI n r p (fun i => pw_qb n r (nI T) 1 i) Q ∧ p ≤ 300 ∧ ((∃ i, i < n ∧ r (7 + 6 * i + 5) = 0) → p = T) ∧ ((∀ i, i < n → ¬ r (7 + 6 * i + 5) = 0) → p = 0) := by
  have h7 := hI.1.2.1
  have hw := hI.2.1
  have z0 : ∀ m, pm_sf (fun _ => 0) m 0 = 0 := fun m => by
    have := pm_sf_b (F := fun _ => 0) (b := 0) m 0 fun _ _ _ => Nat.le_refl 0
    omega
  have hz7 : ∀ i, i < n → d_X1_apportion_L1 7 0 (fun _ => 0) i = nI 0 := fun i hi => by rw [pm_apZ, if_pos (by omega)]; rfl
  have ec : d_X1_apportion_L2 r n 0 0 = nI (pm_sf (pm_cF r) n 0) := by
    rw [show (0 : Int32) = nI 0 from rfl, pm_apC hw n 0 0 (by omega), Nat.zero_add]
  have hC2 := pm_sf_b (F := pm_cF r) (b := 99) n 0 fun i _ hi => pm_cF_le hw (by omega)
  by_cases hex : ∃ i, i < n ∧ r (7 + 6 * i + 5) = 0
  · obtain ⟨i0, hi0, hb0⟩ := hex
    have hCp : 0 < pm_sf (pm_cF r) n 0 := by
      have h1 := pm_sf_at (F := pm_cF r) n 0 i0 (Nat.zero_le _) (by omega)
      have h2 : pm_cF r i0 = pw_cp r i0 := if_pos hb0
      have h3 := (pw_cpN hw hi0).2.1
      omega
    obtain ⟨Q, hQ⟩ := pw_gL hw h7 ⟨i0, hi0, hb0⟩ T 0 0 (d_X1_apportion_L1 7 0 (fun _ => 0)) (fun _ => 0) (by omega) ⟨fun i hi => ⟨hz7 i hi, Nat.le_refl _⟩, fun _ _ _ => rfl, z0 n, fun _ _ _ _ _ _ _ h => absurd h (Nat.lt_irrefl 0)⟩
    rw [Nat.zero_add] at hQ
    refine ⟨Q, T, ?_, hT, fun _ => rfl, fun h => absurd hb0 (h i0 hi0)⟩
    have e : (fun i => pw_qb n r (nI T) 1 i) = d_X1_giveOneByOne_L1 n r T 0 (d_X1_apportion_L1 7 0 (fun _ => 0)) := by
      funext i
      unfold pw_qb d_X1_apportion
      rw [if_neg (by rw [ec]; exact nI_ne0 hCp (by omega)), if_neg (by decide)]
      unfold d_X1_giveOneByOne
      rw [pm_n_nI (by omega)]
    rw [e]
    exact hQ
  · have hC0 : pm_sf (pm_cF r) n 0 = 0 := by
      have := pm_sf_b (F := pm_cF r) (b := 0) n 0 fun i _ hi => by
        rw [show pm_cF r i = 0 from if_neg (fun e => hex ⟨i, by omega, e⟩)]
        exact Nat.le_refl _
      omega
    refine ⟨fun _ => 0, 0, ⟨fun i hi => ⟨pw_qb0 hw hC0 hi h7, Nat.le_refl _⟩, fun _ _ _ => rfl, z0 n, fun _ _ _ _ _ _ _ h => absurd h (Nat.lt_irrefl 0)⟩, by omega, fun h => absurd h hex, fun _ => rfl⟩
theorem pw_arq {T : Nat} (hI : pm_I B n r) (hT : T ≤ 300) : ¬ v_L_areByQuotients n r (nI T) (w_L_quotas_2 n r T (fun _ => 0) n) = 0 := by
  have h7 := hI.1.2.1
  have hw := hI.2.1
  obtain ⟨Q, p, ⟨g1, g2, g3, g4⟩, hp, p1, p2⟩ := pw_q1 hI hT
  generalize hq : w_L_quotas_2 n r T (fun _ => 0) n = q
  have hqQ : ∀ i, i < n → q i = nI (Q i) ∧ Q i ≤ 300 := fun i hi => by
    obtain ⟨e1, e2⟩ := g1 i hi
    rw [← hq, pw_qN n i hi]
    exact ⟨e1, by omega⟩
  have inner : ∀ k, k < n → ∀ m, m ≤ n → w_L_areByQuotients_2 r q k 1 m = 1 := by
    intro k hk m
    induction m with
    | zero => intro _; rfl
    | succ m ih =>
      intro hm
      have hmn : m < n := by omega
      obtain ⟨a1, a2⟩ := hqQ k hk
      obtain ⟨b1, b2⟩ := hqQ m hmn
      show ((if (w_L_areByQuotients_2 r q k 1 m) = 0 then 0 else (if (nI m) = (nI k) then 1 else (if ((if (pw_st r k) = 98 then 1 else 0) : Int32) = 0 then (if (pw_st r m) = 98 then 1 else (if (q k) = 0 then 1 else (if ((if 0 < (((r (7 + 6 * k + 0)) * ((q m) + 1)) - ((r (7 + 6 * m + 0)) * (q k))) then 1 else (if (((r (7 + 6 * k + 0)) * ((q m) + 1)) - ((r (7 + 6 * m + 0)) * (q k))) = 0 then (if (nI m) ≤ (nI k) then 0 else 1) else 0)) : Int32) = 0 then 0 else 1))) else 1))) : Int32) = 1
      rw [ih (by omega), if_neg (by decide)]
      by_cases hmk : m = k
      · rw [if_pos (by rw [hmk])]
      rw [if_neg (fun e => hmk ((nI_eq (by omega) (by omega)).mp e))]
      by_cases hbk9 : ¬ r (7 + 6 * k + 5) = 0
      · rw [if_pos (pw_st98.mpr hbk9), if_neg (by decide)]
      have hbk := Classical.not_not.mp hbk9
      rw [if_neg (fun e => pw_st98.mp e hbk), if_pos rfl]
      by_cases hbm9 : ¬ r (7 + 6 * m + 5) = 0
      · rw [if_pos (pw_st98.mpr hbm9)]
      have hbm := Classical.not_not.mp hbm9
      rw [if_neg (fun e => pw_st98.mp e hbm)]
      by_cases hQk : Q k = 0
      · rw [if_pos (by rw [a1, hQk]; rfl)]
      rw [if_neg (by rw [a1]; exact nI_ne0 (by omega) (by omega)), a1, b1, nI_1, (pw_prod hw hk (show Q m + 1 ≤ 301 by omega)).1, (pw_prod hw hmn (show Q k ≤ 301 by omega)).1]
      have l1 := (pw_prod hw hk (show Q m + 1 ≤ 301 by omega)).2
      have l2 := (pw_prod hw hmn (show Q k ≤ 301 by omega)).2
      rcases g4 k m hk hmn (Ne.symm hmk) hbk hbm (by omega) with h | ⟨h, hlt⟩
      · rw [pq_sub (by omega), if_pos (show (0 : Int32) < nI _ from (nI_ltI (a := 0) (by omega) (by omega)).mpr (by omega)), if_neg (by decide)]
      · rw [h, pq_sub (Nat.le_refl _), Nat.sub_self, if_neg (show ¬ (0 : Int32) < nI 0 by decide), if_pos (show nI 0 = (0 : Int32) from rfl), if_neg (show ¬ nI m ≤ nI k from fun e => by have := (nI_leI (by omega) (by omega)).mp e; omega), if_neg (show ¬ (1 : Int32) = 0 by decide)]
  have outer : ∀ j, j ≤ n → w_L_areByQuotients_1 n r q 0 1 j = (nI (pm_sf Q j 0), 1) := by
    intro j
    induction j with
    | zero => intro _; rfl
    | succ j ih =>
      intro hj
      have ih := ih (by omega)
      obtain ⟨a1, a2⟩ := hqQ j (by omega)
      show ((w_L_areByQuotients_1 n r q 0 1 j).1 + (q j), (w_L_areByQuotients_2 r q j ((if (w_L_areByQuotients_1 n r q 0 1 j).2 = 0 then 0 else (if ((if (pw_st r j) = 98 then 1 else 0) : Int32) = 0 then 1 else (if (q j) = 0 then 1 else 0))) : Int32) n)) = _
      rw [ih]
      dsimp only
      rw [if_neg (show ¬ (1 : Int32) = 0 by decide)]
      have hst : (if ((if (pw_st r j) = 98 then 1 else 0) : Int32) = 0 then (1 : Int32) else (if (q j) = 0 then 1 else 0)) = 1 := by
        by_cases hb : r (7 + 6 * j + 5) = 0
        · rw [if_neg (fun e => pw_st98.mp e hb), if_pos rfl]
        · rw [if_pos (pw_st98.mpr hb), if_neg (by decide), if_pos (by rw [a1, g2 j (by omega) hb]; rfl)]
      rw [hst, inner j (by omega) n (Nat.le_refl n), a1, nI_add, pm_sf_top, Nat.zero_add]
  have ho := outer n (Nat.le_refl n)
  unfold v_L_areByQuotients
  rw [ho]
  dsimp only
  rw [if_neg (show ¬ (1 : Int32) = 0 by decide), g3]
  obtain ⟨A, a1, a2, a3⟩ := pw_acB (r := r) h7 n (Nat.le_refl n)
  have hA0 : ∀ A, A < 128 → (∀ i, i < 7 → ¬ A / 2 ^ i % 2 = 1) → A = 0 := by decide +kernel
  rw [a2]
  by_cases hex : ∃ i, i < n ∧ r (7 + 6 * i + 5) = 0
  · obtain ⟨i0, hi0, hb0⟩ := hex
    have hA : ¬ A = 0 := fun e => by
      have := (a3 i0 (by omega)).mpr ⟨hi0, hb0⟩
      rw [e, Nat.zero_div] at this
      exact absurd this (by decide)
    rw [if_neg (nI_ne0 (by omega) (by omega)), p1 ⟨i0, hi0, hb0⟩, if_pos rfl]
    decide
  · have hA : A = 0 := hA0 A a1 fun i hi h => by
      have := (a3 i hi).mp h
      exact hex ⟨i, this⟩
    rw [hA, if_pos (show nI 0 = (0 : Int32) from rfl), p2 (fun i hi e => hex ⟨i, hi, e⟩), if_pos (show nI 0 = (0 : Int32) from rfl)]
    decide
end PWAQ
/-! the law: quotas -/
theorem dL_quotas_0 : decode cL_quotas 0 = .ok (.aload_n 1, 1) := by decide +kernel
theorem dL_quotas_1 : decode cL_quotas 1 = .ok (.invokevirtual 177, 3) := by decide +kernel
theorem dL_quotas_4 : decode cL_quotas 4 = .ok (.istore_n 2, 1) := by decide +kernel
theorem dL_quotas_5 : decode cL_quotas 5 = .ok (.iconst 0, 1) := by decide +kernel
theorem dL_quotas_6 : decode cL_quotas 6 = .ok (.istore_n 3, 1) := by decide +kernel
theorem dL_quotas_7 : decode cL_quotas 7 = .ok (.iload_n 3, 1) := by decide +kernel
theorem dL_quotas_8 : decode cL_quotas 8 = .ok (.iconst 4, 1) := by decide +kernel
theorem dL_quotas_9 : decode cL_quotas 9 = .ok (.if_icmp .ge 130, 3) := by decide +kernel
theorem dL_quotas_12 : decode cL_quotas 12 = .ok (.iload_n 3, 1) := by decide +kernel
theorem dL_quotas_13 : decode cL_quotas 13 = .ok (.ifCond .ne 9, 3) := by decide +kernel
theorem dL_quotas_16 : decode cL_quotas 16 = .ok (.sipush 300, 3) := by decide +kernel
theorem dL_quotas_19 : decode cL_quotas 19 = .ok (.goto 26, 3) := by decide +kernel
theorem dL_quotas_22 : decode cL_quotas 22 = .ok (.iload_n 3, 1) := by decide +kernel
theorem dL_quotas_23 : decode cL_quotas 23 = .ok (.iconst 1, 1) := by decide +kernel
theorem dL_quotas_24 : decode cL_quotas 24 = .ok (.if_icmp .ne 7, 3) := by decide +kernel
theorem dL_quotas_27 : decode cL_quotas 27 = .ok (.iconst 1, 1) := by decide +kernel
theorem dL_quotas_28 : decode cL_quotas 28 = .ok (.goto 17, 3) := by decide +kernel
theorem dL_quotas_31 : decode cL_quotas 31 = .ok (.aload_n 0, 1) := by decide +kernel
theorem dL_quotas_32 : decode cL_quotas 32 = .ok (.bipush 28, 2) := by decide +kernel
theorem dL_quotas_34 : decode cL_quotas 34 = .ok (.iload_n 3, 1) := by decide +kernel
theorem dL_quotas_35 : decode cL_quotas 35 = .ok (.iadd, 1) := by decide +kernel
theorem dL_quotas_36 : decode cL_quotas 36 = .ok (.invokestatic 150, 3) := by decide +kernel
theorem dL_quotas_39 : decode cL_quotas 39 = .ok (.iconst 1, 1) := by decide +kernel
theorem dL_quotas_40 : decode cL_quotas 40 = .ok (.iushr, 1) := by decide +kernel
theorem dL_quotas_41 : decode cL_quotas 41 = .ok (.sipush 301, 3) := by decide +kernel
theorem dL_quotas_44 : decode cL_quotas 44 = .ok (.irem, 1) := by decide +kernel
theorem dL_quotas_45 : decode cL_quotas 45 = .ok (.istore 4, 2) := by decide +kernel
theorem dL_quotas_47 : decode cL_quotas 47 = .ok (.aload_n 1, 1) := by decide +kernel
theorem dL_quotas_48 : decode cL_quotas 48 = .ok (.iload 4, 2) := by decide +kernel
theorem dL_quotas_50 : decode cL_quotas 50 = .ok (.invokestatic 257, 3) := by decide +kernel
theorem dL_quotas_53 : decode cL_quotas 53 = .ok (.astore 5, 2) := by decide +kernel
theorem dL_quotas_55 : decode cL_quotas 55 = .ok (.bipush 7, 2) := by decide +kernel
theorem dL_quotas_57 : decode cL_quotas 57 = .ok (.newarray .int, 2) := by decide +kernel
theorem dL_quotas_59 : decode cL_quotas 59 = .ok (.astore 6, 2) := by decide +kernel
theorem dL_quotas_61 : decode cL_quotas 61 = .ok (.iconst 0, 1) := by decide +kernel
theorem dL_quotas_62 : decode cL_quotas 62 = .ok (.istore 7, 2) := by decide +kernel
theorem dL_quotas_64 : decode cL_quotas 64 = .ok (.iload 7, 2) := by decide +kernel
theorem dL_quotas_66 : decode cL_quotas 66 = .ok (.iload_n 2, 1) := by decide +kernel
theorem dL_quotas_67 : decode cL_quotas 67 = .ok (.if_icmp .ge 53, 3) := by decide +kernel
theorem dL_quotas_70 : decode cL_quotas 70 = .ok (.aload 6, 2) := by decide +kernel
theorem dL_quotas_72 : decode cL_quotas 72 = .ok (.iload 7, 2) := by decide +kernel
theorem dL_quotas_74 : decode cL_quotas 74 = .ok (.aload_n 1, 1) := by decide +kernel
theorem dL_quotas_75 : decode cL_quotas 75 = .ok (.iload 7, 2) := by decide +kernel
theorem dL_quotas_77 : decode cL_quotas 77 = .ok (.iload 4, 2) := by decide +kernel
theorem dL_quotas_79 : decode cL_quotas 79 = .ok (.iconst 1, 1) := by decide +kernel
theorem dL_quotas_80 : decode cL_quotas 80 = .ok (.invokestatic 261, 3) := by decide +kernel
theorem dL_quotas_83 : decode cL_quotas 83 = .ok (.iastore, 1) := by decide +kernel
theorem dL_quotas_84 : decode cL_quotas 84 = .ok (.aload_n 1, 1) := by decide +kernel
theorem dL_quotas_85 : decode cL_quotas 85 = .ok (.iload 7, 2) := by decide +kernel
theorem dL_quotas_87 : decode cL_quotas 87 = .ok (.iload 4, 2) := by decide +kernel
theorem dL_quotas_89 : decode cL_quotas 89 = .ok (.iconst 0, 1) := by decide +kernel
theorem dL_quotas_90 : decode cL_quotas 90 = .ok (.invokestatic 261, 3) := by decide +kernel
theorem dL_quotas_93 : decode cL_quotas 93 = .ok (.aload 5, 2) := by decide +kernel
theorem dL_quotas_95 : decode cL_quotas 95 = .ok (.iload 7, 2) := by decide +kernel
theorem dL_quotas_97 : decode cL_quotas 97 = .ok (.iaload, 1) := by decide +kernel
theorem dL_quotas_98 : decode cL_quotas 98 = .ok (.if_icmp .ne 14, 3) := by decide +kernel
theorem dL_quotas_101 : decode cL_quotas 101 = .ok (.aload_n 1, 1) := by decide +kernel
theorem dL_quotas_102 : decode cL_quotas 102 = .ok (.iload 7, 2) := by decide +kernel
theorem dL_quotas_104 : decode cL_quotas 104 = .ok (.iconst 0, 1) := by decide +kernel
theorem dL_quotas_105 : decode cL_quotas 105 = .ok (.iconst 1, 1) := by decide +kernel
theorem dL_quotas_106 : decode cL_quotas 106 = .ok (.invokestatic 261, 3) := by decide +kernel
theorem dL_quotas_109 : decode cL_quotas 109 = .ok (.ifCond .eq 5, 3) := by decide +kernel
theorem dL_quotas_112 : decode cL_quotas 112 = .ok (.iconst 0, 1) := by decide +kernel
theorem dL_quotas_113 : decode cL_quotas 113 = .ok (.ireturn, 1) := by decide +kernel
theorem dL_quotas_114 : decode cL_quotas 114 = .ok (.iinc 7 1, 3) := by decide +kernel
theorem dL_quotas_117 : decode cL_quotas 117 = .ok (.goto (-53), 3) := by decide +kernel
theorem dL_quotas_120 : decode cL_quotas 120 = .ok (.aload_n 1, 1) := by decide +kernel
theorem dL_quotas_121 : decode cL_quotas 121 = .ok (.iload 4, 2) := by decide +kernel
theorem dL_quotas_123 : decode cL_quotas 123 = .ok (.aload 6, 2) := by decide +kernel
theorem dL_quotas_125 : decode cL_quotas 125 = .ok (.invokestatic 264, 3) := by decide +kernel
theorem dL_quotas_128 : decode cL_quotas 128 = .ok (.ifCond .ne 5, 3) := by decide +kernel
theorem dL_quotas_131 : decode cL_quotas 131 = .ok (.iconst 0, 1) := by decide +kernel
theorem dL_quotas_132 : decode cL_quotas 132 = .ok (.ireturn, 1) := by decide +kernel
theorem dL_quotas_133 : decode cL_quotas 133 = .ok (.iinc 3 1, 3) := by decide +kernel
theorem dL_quotas_136 : decode cL_quotas 136 = .ok (.goto (-129), 3) := by decide +kernel
theorem dL_quotas_139 : decode cL_quotas 139 = .ok (.aload_n 1, 1) := by decide +kernel
theorem dL_quotas_140 : decode cL_quotas 140 = .ok (.iload_n 2, 1) := by decide +kernel
theorem dL_quotas_141 : decode cL_quotas 141 = .ok (.sipush 301, 3) := by decide +kernel
theorem dL_quotas_144 : decode cL_quotas 144 = .ok (.iconst 0, 1) := by decide +kernel
theorem dL_quotas_145 : decode cL_quotas 145 = .ok (.invokestatic 261, 3) := by decide +kernel
theorem dL_quotas_148 : decode cL_quotas 148 = .ok (.bipush (-11), 2) := by decide +kernel
theorem dL_quotas_150 : decode cL_quotas 150 = .ok (.if_icmp .ne 57, 3) := by decide +kernel
theorem dL_quotas_153 : decode cL_quotas 153 = .ok (.aload_n 1, 1) := by decide +kernel
theorem dL_quotas_154 : decode cL_quotas 154 = .ok (.iconst 0, 1) := by decide +kernel
theorem dL_quotas_155 : decode cL_quotas 155 = .ok (.sipush 301, 3) := by decide +kernel
theorem dL_quotas_158 : decode cL_quotas 158 = .ok (.iconst 0, 1) := by decide +kernel
theorem dL_quotas_159 : decode cL_quotas 159 = .ok (.invokestatic 261, 3) := by decide +kernel
theorem dL_quotas_162 : decode cL_quotas 162 = .ok (.bipush (-12), 2) := by decide +kernel
theorem dL_quotas_164 : decode cL_quotas 164 = .ok (.if_icmp .ne 43, 3) := by decide +kernel
theorem dL_quotas_167 : decode cL_quotas 167 = .ok (.aload_n 1, 1) := by decide +kernel
theorem dL_quotas_168 : decode cL_quotas 168 = .ok (.iconst 0, 1) := by decide +kernel
theorem dL_quotas_169 : decode cL_quotas 169 = .ok (.iconst (-1), 1) := by decide +kernel
theorem dL_quotas_170 : decode cL_quotas 170 = .ok (.iconst 1, 1) := by decide +kernel
theorem dL_quotas_171 : decode cL_quotas 171 = .ok (.invokestatic 261, 3) := by decide +kernel
theorem dL_quotas_174 : decode cL_quotas 174 = .ok (.bipush (-12), 2) := by decide +kernel
theorem dL_quotas_176 : decode cL_quotas 176 = .ok (.if_icmp .ne 31, 3) := by decide +kernel
theorem dL_quotas_179 : decode cL_quotas 179 = .ok (.aload_n 1, 1) := by decide +kernel
theorem dL_quotas_180 : decode cL_quotas 180 = .ok (.iconst 0, 1) := by decide +kernel
theorem dL_quotas_181 : decode cL_quotas 181 = .ok (.iconst 5, 1) := by decide +kernel
theorem dL_quotas_182 : decode cL_quotas 182 = .ok (.iconst 2, 1) := by decide +kernel
theorem dL_quotas_183 : decode cL_quotas 183 = .ok (.invokestatic 261, 3) := by decide +kernel
theorem dL_quotas_186 : decode cL_quotas 186 = .ok (.bipush (-12), 2) := by decide +kernel
theorem dL_quotas_188 : decode cL_quotas 188 = .ok (.if_icmp .ne 19, 3) := by decide +kernel
theorem dL_quotas_191 : decode cL_quotas 191 = .ok (.aload_n 1, 1) := by decide +kernel
theorem dL_quotas_192 : decode cL_quotas 192 = .ok (.iconst 0, 1) := by decide +kernel
theorem dL_quotas_193 : decode cL_quotas 193 = .ok (.iconst 5, 1) := by decide +kernel
theorem dL_quotas_194 : decode cL_quotas 194 = .ok (.iconst (-1), 1) := by decide +kernel
theorem dL_quotas_195 : decode cL_quotas 195 = .ok (.invokestatic 261, 3) := by decide +kernel
theorem dL_quotas_198 : decode cL_quotas 198 = .ok (.bipush (-12), 2) := by decide +kernel
theorem dL_quotas_200 : decode cL_quotas 200 = .ok (.if_icmp .ne 7, 3) := by decide +kernel
theorem dL_quotas_203 : decode cL_quotas 203 = .ok (.iconst 1, 1) := by decide +kernel
theorem dL_quotas_204 : decode cL_quotas 204 = .ok (.goto 4, 3) := by decide +kernel
theorem dL_quotas_207 : decode cL_quotas 207 = .ok (.iconst 0, 1) := by decide +kernel
theorem dL_quotas_208 : decode cL_quotas 208 = .ok (.ireturn, 1) := by decide +kernel
theorem mt_L_quotas : pm_Mt yL_quotas cL_quotas 8 (some .boolean) 2 := ⟨pm_T_in 967 (by decide +kernel) (by decide +kernel), pm_T_in 34 (by decide +kernel) (by decide +kernel), ⟨by decide +kernel, by decide +kernel, by decide +kernel⟩, by decide +kernel, by decide⟩
set_option maxRecDepth 100000 in
set_option maxHeartbeats 8000000 in
theorem c_L_quotas {l : Launch} {z : Nat} {D : va_G} {kA : Nat → ClassId} {kE : Nat → Nat} {B n : Nat} {r : Nat → Int32} {hs : List (Nat → Int32)} {u : Nat × List Nat} {ar : List (Nat × va_E)}  (hI : pm_I B n r) (h0 : 0 < n) : ∀ nx M, (pw_W z kA kE (B, r, hs, u) ar) nx M → pm_C l z D kA kE yL_quotas cL_quotas 8 (some .boolean) 70 99642 597862 [.ref (kE 70), .ref (z + 0)] nx M (pw_P (some (.int 1)) (pw_W z kA kE (B, r, hs, u) ar)) := by
  refine pw_mk (own := RL) (nm := "quotas") mt_L_quotas rfl rfl rfl rfl fun X B9 => ?_
  have h7 : n ≤ 7 := hI.1.2.1
  have h128 : 2 ^ n ≤ 128 := pm_p7 h7
  refine pw_l (fun _ _ _ _ k => pm_loc (L' := [some (.ref (kE 70)), some (.ref (z + 0)), none, none, none, none, none, none]) rfl k) ?_
  refine pw_l (fun _ _ _ _ k => pm_aload_n B9 dL_quotas_0 rfl k) ?_
  refine pw_cV (As := []) (c2 := (99642 - (2) + 0)) (s2 := (597862 - (12) + 0)) B9 (fun _ _ hW => pw_0 hW) rfl (a_X12_memberCount hI) mt_X12_memberCount sv_L_177 dL_quotas_1 rfl rfl rfl (by omega) (by omega) ?_
  refine pw_l (fun _ _ _ _ k => pm_stk (st' := [.int (nI n)]) rfl k) ?_
  refine pw_l (fun _ _ _ _ k => pm_istore_n B9 dL_quotas_4 rfl rfl k) ?_
  refine pw_l (fun _ _ _ _ k => pm_loc (L' := [some (.ref (kE 70)), some (.ref (z + 0)), some (.int (nI n)), none, none, none, none, none]) rfl k) ?_
  refine pw_l (fun _ _ _ _ k => pm_iconst (v := 0) B9 dL_quotas_5 (by decide) k) ?_
  refine pw_l (fun _ _ _ _ k => pm_istore_n B9 dL_quotas_6 rfl rfl k) ?_
  refine pw_l (fun _ _ _ _ k => pm_loc (L' := [some (.ref (kE 70)), some (.ref (z + 0)), some (.int (nI n)), some (.int 0), none, none, none, none]) rfl k) ?_
  refine pw_l (fun _ _ _ _ k => pm_loc (L' := [some (.ref (kE 70)), some (.ref (z + 0)), some (.int (nI n)), some (.int (nI 0)), none, none, none, none]) (congrArg (fun yy : Int32 => ([some (.ref (kE 70)), some (.ref (z + 0)), some (.int (nI n)), some (.int yy), none, none, none, none] : List (Option Value))) rfl) k) ?_
  have hx1 : pw_J l z D X 99642 597862 (pm_Q z D (pw_P (some (.int 1)) (pw_W z kA kE (B, r, hs, u) ar)) 99642 597862 X) (pw_W z kA kE (B, r, hs, u) ar) (99642 - (2 + 5 * 19926) + 0) (597862 - (12 + 5 * 119558) + 0) 139 [none, some (.ref (z + 0)), some (.int (nI n)), none, none, none, none, none] [] := by
    refine pw_l (fun _ _ _ _ k => pm_aload_n B9 dL_quotas_139 rfl k) ?_
    refine pw_l (fun _ _ _ _ k => pm_iload_n B9 dL_quotas_140 rfl k) ?_
    refine pw_l (fun _ _ _ _ k => pm_sipush (v := 301) B9 dL_quotas_141 (by decide) k) ?_
    refine pw_l (fun _ _ _ _ k => pm_iconst (v := 0) B9 dL_quotas_144 (by decide) k) ?_
    refine pw_cSW (As := [.ref (z + 0), .int (nI n), .int 301, .int 0]) (c2 := (99642 - (4 + 5 * 19926) + 0)) (s2 := (597862 - (24 + 5 * 119558) + 0)) B9 (pv_as (pv_L_quotaBy_n hI.1.2.1) (b_L_quotaBy hI)) mt_L_quotaBy ss_L_261 dL_quotas_145 rfl rfl rfl (by omega) (by omega) ?_
    refine pw_l (fun _ _ _ _ k => pm_stk (st' := [.int (-11)]) rfl k) ?_
    refine pw_l (fun _ _ _ _ k => pm_bipush (v := (-11)) B9 dL_quotas_148 (by decide) k) ?_
    refine pw_l (fun _ _ _ _ k => pm_icmp_ne (tgt := 207) B9 dL_quotas_150 (by decide) (fun h => absurd (by decide) h) (fun _ => k)) ?_
    refine pw_l (fun _ _ _ _ k => pm_aload_n B9 dL_quotas_153 rfl k) ?_
    refine pw_l (fun _ _ _ _ k => pm_iconst (v := 0) B9 dL_quotas_154 (by decide) k) ?_
    refine pw_l (fun _ _ _ _ k => pm_sipush (v := 301) B9 dL_quotas_155 (by decide) k) ?_
    refine pw_l (fun _ _ _ _ k => pm_iconst (v := 0) B9 dL_quotas_158 (by decide) k) ?_
    refine pw_cSW (As := [.ref (z + 0), .int 0, .int 301, .int 0]) (c2 := (99642 - (6 + 5 * 19926) + 0)) (s2 := (597862 - (36 + 5 * 119558) + 0)) B9 (pv_as (pv_L_quotaBy_b h0 hI.1.2.1 (by decide)) (b_L_quotaBy hI)) mt_L_quotaBy ss_L_261 dL_quotas_159 rfl rfl rfl (by omega) (by omega) ?_
    refine pw_l (fun _ _ _ _ k => pm_stk (st' := [.int (-12)]) rfl k) ?_
    refine pw_l (fun _ _ _ _ k => pm_bipush (v := (-12)) B9 dL_quotas_162 (by decide) k) ?_
    refine pw_l (fun _ _ _ _ k => pm_icmp_ne (tgt := 207) B9 dL_quotas_164 (by decide) (fun h => absurd (by decide) h) (fun _ => k)) ?_
    refine pw_l (fun _ _ _ _ k => pm_aload_n B9 dL_quotas_167 rfl k) ?_
    refine pw_l (fun _ _ _ _ k => pm_iconst (v := 0) B9 dL_quotas_168 (by decide) k) ?_
    refine pw_l (fun _ _ _ _ k => pm_iconst (v := (-1)) B9 dL_quotas_169 (by decide) k) ?_
    refine pw_l (fun _ _ _ _ k => pm_iconst (v := 1) B9 dL_quotas_170 (by decide) k) ?_
    refine pw_cSW (As := [.ref (z + 0), .int 0, .int (-1), .int 1]) (c2 := (99642 - (8 + 5 * 19926) + 0)) (s2 := (597862 - (48 + 5 * 119558) + 0)) B9 (pv_as (pv_L_quotaBy_b h0 hI.1.2.1 (by decide)) (b_L_quotaBy hI)) mt_L_quotaBy ss_L_261 dL_quotas_171 rfl rfl rfl (by omega) (by omega) ?_
    refine pw_l (fun _ _ _ _ k => pm_stk (st' := [.int (-12)]) rfl k) ?_
    refine pw_l (fun _ _ _ _ k => pm_bipush (v := (-12)) B9 dL_quotas_174 (by decide) k) ?_
    refine pw_l (fun _ _ _ _ k => pm_icmp_ne (tgt := 207) B9 dL_quotas_176 (by decide) (fun h => absurd (by decide) h) (fun _ => k)) ?_
    refine pw_l (fun _ _ _ _ k => pm_aload_n B9 dL_quotas_179 rfl k) ?_
    refine pw_l (fun _ _ _ _ k => pm_iconst (v := 0) B9 dL_quotas_180 (by decide) k) ?_
    refine pw_l (fun _ _ _ _ k => pm_iconst (v := 5) B9 dL_quotas_181 (by decide) k) ?_
    refine pw_l (fun _ _ _ _ k => pm_iconst (v := 2) B9 dL_quotas_182 (by decide) k) ?_
    refine pw_cSW (As := [.ref (z + 0), .int 0, .int 5, .int 2]) (c2 := (99642 - (10 + 5 * 19926) + 0)) (s2 := (597862 - (60 + 5 * 119558) + 0)) B9 (pv_as (pv_L_quotaBy_b h0 hI.1.2.1 (by decide)) (b_L_quotaBy hI)) mt_L_quotaBy ss_L_261 dL_quotas_183 rfl rfl rfl (by omega) (by omega) ?_
    refine pw_l (fun _ _ _ _ k => pm_stk (st' := [.int (-12)]) rfl k) ?_
    refine pw_l (fun _ _ _ _ k => pm_bipush (v := (-12)) B9 dL_quotas_186 (by decide) k) ?_
    refine pw_l (fun _ _ _ _ k => pm_icmp_ne (tgt := 207) B9 dL_quotas_188 (by decide) (fun h => absurd (by decide) h) (fun _ => k)) ?_
    refine pw_l (fun _ _ _ _ k => pm_aload_n B9 dL_quotas_191 rfl k) ?_
    refine pw_l (fun _ _ _ _ k => pm_iconst (v := 0) B9 dL_quotas_192 (by decide) k) ?_
    refine pw_l (fun _ _ _ _ k => pm_iconst (v := 5) B9 dL_quotas_193 (by decide) k) ?_
    refine pw_l (fun _ _ _ _ k => pm_iconst (v := (-1)) B9 dL_quotas_194 (by decide) k) ?_
    refine pw_cSW (As := [.ref (z + 0), .int 0, .int 5, .int (-1)]) (c2 := (99642 - (12 + 5 * 19926) + 0)) (s2 := (597862 - (72 + 5 * 119558) + 0)) B9 (pv_as (pv_L_quotaBy_b h0 hI.1.2.1 (by decide)) (b_L_quotaBy hI)) mt_L_quotaBy ss_L_261 dL_quotas_195 rfl rfl rfl (by omega) (by omega) ?_
    refine pw_l (fun _ _ _ _ k => pm_stk (st' := [.int (-12)]) rfl k) ?_
    refine pw_l (fun _ _ _ _ k => pm_bipush (v := (-12)) B9 dL_quotas_198 (by decide) k) ?_
    refine pw_l (fun _ _ _ _ k => pm_icmp_ne (tgt := 207) B9 dL_quotas_200 (by decide) (fun h => absurd (by decide) h) (fun _ => k)) ?_
    refine pw_l (fun _ _ _ _ k => pm_iconst (v := 1) B9 dL_quotas_203 (by decide) k) ?_
    refine pw_l (fun _ _ _ _ k => pm_goto (tgt := 208) B9 dL_quotas_204 (by decide) k) ?_
    exact fun cu su nx M h1 h2 hW => pm_ireturn B9 dL_quotas_208 rfl (rfl) ⟨rfl, hW⟩ (Nat.ble_eq_true_of_le (by omega)) (Nat.ble_eq_true_of_le (by omega))
  have loop1 : ∀ k1 j1 : Nat, j1 + k1 = 4 → pw_J l z D X 99642 597862 (pm_Q z D (pw_P (some (.int 1)) (pw_W z kA kE (B, r, hs, u) ar)) 99642 597862 X) (pw_W z kA kE (B, r, hs, u) ar) (k1 * 19926 + (19926 + (99642 - (2 + 5 * 19926) + 0))) (k1 * 119558 + (119558 + (597862 - (12 + 5 * 119558) + 0))) 7 [some (.ref (kE 70)), some (.ref (z + 0)), some (.int (nI n)), some (.int (nI j1)), none, none, none, none] [] := by
    intro k1
    induction k1 with
    | zero =>
      intro j1 hj1
      have hjn1 : j1 = 4 := by omega
      refine pw_cr (c2 := (19926 - (0) + (99642 - (2 + 5 * 19926) + 0))) (s2 := (119558 - (0) + (597862 - (12 + 5 * 119558) + 0))) (by omega) (by omega) ?_
      refine pw_l (fun _ _ _ _ k => pm_iload_n B9 dL_quotas_7 rfl k) ?_
      refine pw_l (fun _ _ _ _ k => pm_iconst (v := 4) B9 dL_quotas_8 (by decide) k) ?_
      refine pw_l (fun _ _ _ _ k => pm_icmp_ge (tgt := 139) B9 dL_quotas_9 (by decide) (fun _ => k) (fun h => absurd ((by rw [show 4 = nI 4 from rfl, show (nI j1) = nI j1 from rfl]; exact (nI_leI (by omega) (by omega)).mpr (by omega))) h)) ?_
      refine pw_l (fun _ _ _ _ k => pm_wk (L' := [none, some (.ref (z + 0)), some (.int (nI n)), none, none, none, none, none]) ⟨rfl, ⟨rfl, trivial⟩⟩ k) ?_
      exact pw_cr (by omega) (by omega) hx1
    | succ k1 ih1 =>
      intro j1 hj1
      have hjn1 : j1 < 4 := by omega
      refine pw_cr (c2 := (19926 - (0) + (k1 * 19926 + (19926 + (99642 - (2 + 5 * 19926) + 0))))) (s2 := (119558 - (0) + (k1 * 119558 + (119558 + (597862 - (12 + 5 * 119558) + 0))))) (by rw [Nat.succ_mul]; omega) (by rw [Nat.succ_mul]; omega) ?_
      refine pw_l (fun _ _ _ _ k => pm_iload_n B9 dL_quotas_7 rfl k) ?_
      refine pw_l (fun _ _ _ _ k => pm_iconst (v := 4) B9 dL_quotas_8 (by decide) k) ?_
      refine pw_l (fun _ _ _ _ k => pm_icmp_ge (tgt := 139) B9 dL_quotas_9 (by decide) (fun h => absurd h ((by rw [show 4 = nI 4 from rfl, show (nI j1) = nI j1 from rfl]; exact fun e => absurd ((nI_leI (by omega) (by omega)).mp e) (by omega)))) (fun _ => k)) ?_
      refine pw_l (fun _ _ _ _ k => pm_iload_n B9 dL_quotas_12 rfl k) ?_
      suffices hj8 : pw_J l z D X 99642 597862 (pm_Q z D (pw_P (some (.int 1)) (pw_W z kA kE (B, r, hs, u) ar)) 99642 597862 X) (pw_W z kA kE (B, r, hs, u) ar) (19926 - (0) + (k1 * 19926 + (19926 + (99642 - (2 + 5 * 19926) + 0)))) (119558 - (0) + (k1 * 119558 + (119558 + (597862 - (12 + 5 * 119558) + 0)))) 45 [some (.ref (kE 70)), some (.ref (z + 0)), some (.int (nI n)), some (.int (nI j1)), none, none, none, none] [.int ((if (nI j1) = 0 then 300 else (if (nI j1) = 1 then 1 else ((pm_ush (pw_ce kE (28 + j1)) 1) - (pm_ush (pw_ce kE (28 + j1)) 1) / 301 * 301))) : Int32)] by
        refine pw_l2 (fun _ _ _ _ k1 k2 => pm_if_ne (tgt := 22) B9 dL_quotas_13 (by decide) k1 k2) (fun hq9 => ?_) (fun hq9 => ?_)
        · refine pw_l (fun _ _ _ _ k => pm_iload_n B9 dL_quotas_22 rfl k) ?_
          refine pw_l (fun _ _ _ _ k => pm_iconst (v := 1) B9 dL_quotas_23 (by decide) k) ?_
          refine pw_l2 (fun _ _ _ _ k1 k2 => pm_icmp_ne (tgt := 31) B9 dL_quotas_24 (by decide) k1 k2) (fun hq10 => ?_) (fun hq10 => ?_)
          · refine pw_l (fun _ _ _ _ k => pm_aload_n B9 dL_quotas_31 rfl k) ?_
            refine pw_l (fun _ _ _ _ k => pm_bipush (v := 28) B9 dL_quotas_32 (by decide) k) ?_
            refine pw_l (fun _ _ _ _ k => pm_iload_n B9 dL_quotas_34 rfl k) ?_
            refine pw_l (fun _ _ _ _ k => pm_iadd B9 dL_quotas_35 k) ?_
            refine pw_l (fun _ _ _ _ k => pm_stk (st' := [.int (nI (28 + j1)), .ref (kE 70)]) (by rw [show (28 + (nI j1)) = (nI (28 + j1)) from (by rw [show 28 = nI 28 from rfl, show (nI j1) = nI j1 from rfl, nI_add])]) k) ?_
            refine pw_cS (As := [.ref (kE 70), .int (nI (28 + j1))]) (c2 := (19926 - (0) + (k1 * 19926 + (19926 + (99642 - (2 + 5 * 19926) + 0))))) (s2 := (119558 - (0) + (k1 * 119558 + (119558 + (597862 - (12 + 5 * 119558) + 0))))) B9 (c_L_cell (k := 28 + j1) (by omega)) mt_L_cell ss_L_150 dL_quotas_36 rfl rfl rfl (by omega) (by omega) ?_
            refine pw_l (fun _ _ _ _ k => pm_stk (st' := [.int (pw_ce kE (28 + j1))]) rfl k) ?_
            refine pw_l (fun _ _ _ _ k => pm_iconst (v := 1) B9 dL_quotas_39 (by decide) k) ?_
            refine pw_l (fun _ _ _ _ k => pm_iushr B9 dL_quotas_40 k) ?_
            refine pw_l (fun _ _ _ _ k => pm_sipush (v := 301) B9 dL_quotas_41 (by decide) k) ?_
            refine pw_l (fun _ _ _ _ k => pm_irem B9 dL_quotas_44 (by first | decide | assumption) k) ?_
            exact pw_cr (by omega) (by omega) (pw_eq (by first | with_reducible rfl | ((try rw [if_neg hq9]); (try rw [if_neg hq10]); done) | simp only [if_neg hq9, if_neg hq10]) (by first | with_reducible rfl | ((try rw [if_neg hq9]); (try rw [if_neg hq10]); done) | simp only [if_neg hq9, if_neg hq10]) (by first | with_reducible rfl | ((try rw [if_neg hq9]); (try rw [if_neg hq10]); done) | simp only [if_neg hq9, if_neg hq10]) hj8)
          · refine pw_l (fun _ _ _ _ k => pm_iconst (v := 1) B9 dL_quotas_27 (by decide) k) ?_
            refine pw_l (fun _ _ _ _ k => pm_goto (tgt := 45) B9 dL_quotas_28 (by decide) k) ?_
            exact pw_cr (by omega) (by omega) (pw_eq (by first | with_reducible rfl | ((try rw [if_neg hq9]); (try rw [if_pos hq10]); done) | simp only [if_neg hq9, if_pos hq10]) (by first | with_reducible rfl | ((try rw [if_neg hq9]); (try rw [if_pos hq10]); done) | simp only [if_neg hq9, if_pos hq10]) (by first | with_reducible rfl | ((try rw [if_neg hq9]); (try rw [if_pos hq10]); done) | simp only [if_neg hq9, if_pos hq10]) hj8)
        · refine pw_l (fun _ _ _ _ k => pm_sipush (v := 300) B9 dL_quotas_16 (by decide) k) ?_
          refine pw_l (fun _ _ _ _ k => pm_goto (tgt := 45) B9 dL_quotas_19 (by decide) k) ?_
          exact pw_cr (by omega) (by omega) (pw_eq (by first | with_reducible rfl | ((try rw [if_pos hq9]); done) | simp only [if_pos hq9]) (by first | with_reducible rfl | ((try rw [if_pos hq9]); done) | simp only [if_pos hq9]) (by first | with_reducible rfl | ((try rw [if_pos hq9]); done) | simp only [if_pos hq9]) hj8)
      obtain ⟨T, hT, eT⟩ : ∃ T, T ≤ 300 ∧ ((if (nI j1) = 0 then 300 else (if (nI j1) = 1 then 1 else ((pm_ush (pw_ce kE (28 + j1)) 1) - (pm_ush (pw_ce kE (28 + j1)) 1) / 301 * 301))) : Int32) = nI T := pw_qt _ _ _
      refine pw_l (fun _ _ _ _ k => pm_stk (st' := [.int (nI T)]) (congrArg (fun yy : Int32 => ([.int yy] : List Value)) (show ((if (nI j1) = 0 then 300 else (if (nI j1) = 1 then 1 else ((pm_ush (pw_ce kE (28 + j1)) 1) - (pm_ush (pw_ce kE (28 + j1)) 1) / 301 * 301))) : Int32) = (nI T) from eT)) k) ?_
      refine pw_l (fun _ _ _ _ k => pm_istore B9 dL_quotas_45 rfl rfl k) ?_
      refine pw_l (fun _ _ _ _ k => pm_loc (L' := [some (.ref (kE 70)), some (.ref (z + 0)), some (.int (nI n)), some (.int (nI j1)), some (.int (nI T)), none, none, none]) rfl k) ?_
      refine pw_l (fun _ _ _ _ k => pm_aload_n B9 dL_quotas_47 rfl k) ?_
      refine pw_l (fun _ _ _ _ k => pm_iload B9 dL_quotas_48 rfl k) ?_
      refine pw_cSx (As := [.ref (z + 0), .int (nI T)]) (c2 := (19926 - (19443) + (k1 * 19926 + (19926 + (99642 - (2 + 5 * 19926) + 0))))) (s2 := (119558 - (116659) + (k1 * 119558 + (119558 + (597862 - (12 + 5 * 119558) + 0))))) B9 (c_L_byRemainders hI h0 hT) mt_L_byRemainders ss_L_257 dL_quotas_50 rfl rfl rfl (by omega) (by omega) (fun p9 => ?_)
      refine pw_and fun hp9 => ?_
      refine pw_l (fun _ _ _ _ k => pm_stk (st' := [.ref (z + p9.1)]) rfl k) ?_
      refine pw_l (fun _ _ _ _ k => pm_astore B9 dL_quotas_53 rfl rfl k) ?_
      refine pw_l (fun _ _ _ _ k => pm_loc (L' := [some (.ref (kE 70)), some (.ref (z + 0)), some (.int (nI n)), some (.int (nI j1)), some (.int (nI T)), some (.ref (z + p9.1)), none, none]) rfl k) ?_
      refine pw_l (fun _ _ _ _ k => pm_bipush (v := 7) B9 dL_quotas_55 (by decide) k) ?_
      refine pw_newi (c2 := (19926 - (19444) + (k1 * 19926 + (19926 + (99642 - (2 + 5 * 19926) + 0))))) (s2 := (119558 - (116666) + (k1 * 119558 + (119558 + (597862 - (12 + 5 * 119558) + 0))))) (N := 7) B9 dL_quotas_57 rfl rfl (by omega) (by omega) (fun w11 hw11 => ?_)
      refine pw_l (fun _ _ _ _ k => pm_astore B9 dL_quotas_59 rfl rfl k) ?_
      refine pw_l (fun _ _ _ _ k => pm_loc (L' := [some (.ref (kE 70)), some (.ref (z + 0)), some (.int (nI n)), some (.int (nI j1)), some (.int (nI T)), some (.ref (z + p9.1)), some (.ref (z + w11)), none]) rfl k) ?_
      refine pw_l (fun _ _ _ _ k => pm_iconst (v := 0) B9 dL_quotas_61 (by decide) k) ?_
      refine pw_l (fun _ _ _ _ k => pm_istore B9 dL_quotas_62 rfl rfl k) ?_
      refine pw_l (fun _ _ _ _ k => pm_loc (L' := [some (.ref (kE 70)), some (.ref (z + 0)), some (.int (nI n)), some (.int (nI j1)), some (.int (nI T)), some (.ref (z + p9.1)), some (.ref (z + w11)), some (.int 0)]) rfl k) ?_
      refine pw_l (fun _ _ _ _ k => pm_loc (L' := [some (.ref (kE 70)), some (.ref (z + 0)), some (.int (nI n)), some (.int (nI j1)), some (.int (nI T)), some (.ref (z + p9.1)), some (.ref (z + w11)), some (.int (nI 0))]) (congrArg (fun yy : Int32 => ([some (.ref (kE 70)), some (.ref (z + 0)), some (.int (nI n)), some (.int (nI j1)), some (.int (nI T)), some (.ref (z + p9.1)), some (.ref (z + w11)), some (.int yy)] : List (Option Value))) rfl) k) ?_
      have hx2 : pw_J l z D X 99642 597862 (pm_Q z D (pw_P (some (.int 1)) (pw_W z kA kE (B, r, hs, u) ar)) 99642 597862 X) (pw_W z kA kE (B, r, hs, u) ((w11, .inl (kA 0, 7, .inl (w_L_quotas_2 n r T (fun _ => 0) n))) :: (p9.1, .inl (kA 0, 7, .inl p9.2)) :: ar)) (19926 - (19444 + 8 * 6) + (k1 * 19926 + (19926 + (99642 - (2 + 5 * 19926) + 0)))) (119558 - (116666 + 8 * 36) + (k1 * 119558 + (119558 + (597862 - (12 + 5 * 119558) + 0)))) 120 [some (.ref (kE 70)), some (.ref (z + 0)), some (.int (nI n)), some (.int (nI j1)), some (.int (nI T)), none, some (.ref (z + w11)), none] [] := by
        refine pw_l (fun _ _ _ _ k => pm_aload_n B9 dL_quotas_120 rfl k) ?_
        refine pw_l (fun _ _ _ _ k => pm_iload B9 dL_quotas_121 rfl k) ?_
        refine pw_l (fun _ _ _ _ k => pm_aload B9 dL_quotas_123 rfl k) ?_
        refine pw_cS (As := [.ref (z + 0), .int (nI T), .ref (z + w11)]) (c2 := (19926 - (19878 + 8 * 6) + (k1 * 19926 + (19926 + (99642 - (2 + 5 * 19926) + 0))))) (s2 := (119558 - (119270 + 8 * 36) + (k1 * 119558 + (119558 + (597862 - (12 + 5 * 119558) + 0))))) B9 (c_L_areByQuotients (a := w11) (q := (w_L_quotas_2 n r T (fun _ => 0) n)) (x := (nI T)) hI) mt_L_areByQuotients ss_L_264 dL_quotas_125 rfl rfl rfl (by omega) (by omega) ?_
        refine pw_l (fun _ _ _ _ k => pm_stk (st' := [.int (v_L_areByQuotients n r (nI T) (w_L_quotas_2 n r T (fun _ => 0) n))]) rfl k) ?_
        refine pw_l (fun _ _ _ _ k => pm_if_ne (tgt := 133) B9 dL_quotas_128 (by decide) (fun _ => k) (fun h => absurd h ((pw_arq hI hT)))) ?_
        refine pw_l (fun _ _ _ _ k => pm_wk (L' := [some (.ref (kE 70)), some (.ref (z + 0)), some (.int (nI n)), some (.int (nI j1)), none, none, none, none]) ⟨rfl, ⟨rfl, ⟨rfl, ⟨rfl, trivial⟩⟩⟩⟩ k) ?_
        refine pw_wk (W' := (pw_W z kA kE (B, r, hs, u) ar)) (fun _ _ hW => pw_drop hW ((List.sublist_cons_self _ _).trans (List.sublist_cons_self _ _))) ?_
        refine pw_l (fun _ _ _ _ k => pm_iinc B9 dL_quotas_133 rfl rfl rfl k) ?_
        refine pw_l (fun _ _ _ _ k => pm_loc (L' := [some (.ref (kE 70)), some (.ref (z + 0)), some (.int (nI n)), some (.int (nI (j1 + 1))), none, none, none, none]) (by rw [show ((nI j1) : Int32) + Int32.ofInt 1 = (nI (j1 + 1)) from nI_1 _]; rfl) k) ?_
        refine pw_l (fun _ _ _ _ k => pm_goto (tgt := 7) B9 dL_quotas_136 (by decide) k) ?_
        exact pw_cr (by omega) (by omega) (ih1 (j1 + 1) (by omega))
      have loop2 : ∀ k2 j2 : Nat, j2 + k2 = n → ∀ (q0_2 : (Nat → Int32)), q0_2 = (w_L_quotas_2 n r T (fun _ => 0) j2) → pw_J l z D X 99642 597862 (pm_Q z D (pw_P (some (.int 1)) (pw_W z kA kE (B, r, hs, u) ar)) 99642 597862 X) (pw_W z kA kE (B, r, hs, u) ((w11, .inl (kA 0, 7, .inl q0_2)) :: (p9.1, .inl (kA 0, 7, .inl p9.2)) :: ar)) (k2 * 6 + (6 + (19926 - (19444 + 8 * 6) + (k1 * 19926 + (19926 + (99642 - (2 + 5 * 19926) + 0)))))) (k2 * 36 + (36 + (119558 - (116666 + 8 * 36) + (k1 * 119558 + (119558 + (597862 - (12 + 5 * 119558) + 0)))))) 64 [some (.ref (kE 70)), some (.ref (z + 0)), some (.int (nI n)), some (.int (nI j1)), some (.int (nI T)), some (.ref (z + p9.1)), some (.ref (z + w11)), some (.int (nI j2))] [] := by
        intro k2
        induction k2 with
        | zero =>
          intro j2 hj2 q0_2 eq0_2
          have hjn2 : j2 = n := by omega
          refine pw_cr (c2 := (6 - (0) + (19926 - (19444 + 8 * 6) + (k1 * 19926 + (19926 + (99642 - (2 + 5 * 19926) + 0)))))) (s2 := (36 - (0) + (119558 - (116666 + 8 * 36) + (k1 * 119558 + (119558 + (597862 - (12 + 5 * 119558) + 0)))))) (by omega) (by omega) ?_
          refine pw_l (fun _ _ _ _ k => pm_iload B9 dL_quotas_64 rfl k) ?_
          refine pw_l (fun _ _ _ _ k => pm_iload_n B9 dL_quotas_66 rfl k) ?_
          refine pw_l (fun _ _ _ _ k => pm_icmp_ge (tgt := 120) B9 dL_quotas_67 (by decide) (fun _ => k) (fun h => absurd ((by rw [show (nI n) = nI n from rfl, show (nI j2) = nI j2 from rfl]; exact (nI_leI (by omega) (by omega)).mpr (by omega))) h)) ?_
          refine pw_l (fun _ _ _ _ k => pm_wk (L' := [some (.ref (kE 70)), some (.ref (z + 0)), some (.int (nI n)), some (.int (nI j1)), some (.int (nI T)), none, some (.ref (z + w11)), none]) ⟨rfl, ⟨rfl, ⟨rfl, ⟨rfl, ⟨rfl, ⟨rfl, trivial⟩⟩⟩⟩⟩⟩ k) ?_
          exact pw_cr (by omega) (by omega) (pw_eq (by first | with_reducible rfl | simp only [eq0_2, hjn2]) (by first | with_reducible rfl | simp only [eq0_2, hjn2]) rfl hx2)
        | succ k2 ih2 =>
          intro j2 hj2 q0_2 eq0_2
          have hjn2 : j2 < n := by omega
          refine pw_cr (c2 := (6 - (0) + (k2 * 6 + (6 + (19926 - (19444 + 8 * 6) + (k1 * 19926 + (19926 + (99642 - (2 + 5 * 19926) + 0)))))))) (s2 := (36 - (0) + (k2 * 36 + (36 + (119558 - (116666 + 8 * 36) + (k1 * 119558 + (119558 + (597862 - (12 + 5 * 119558) + 0)))))))) (by rw [Nat.succ_mul]; omega) (by rw [Nat.succ_mul]; omega) ?_
          refine pw_l (fun _ _ _ _ k => pm_iload B9 dL_quotas_64 rfl k) ?_
          refine pw_l (fun _ _ _ _ k => pm_iload_n B9 dL_quotas_66 rfl k) ?_
          refine pw_l (fun _ _ _ _ k => pm_icmp_ge (tgt := 120) B9 dL_quotas_67 (by decide) (fun h => absurd h ((by rw [show (nI n) = nI n from rfl, show (nI j2) = nI j2 from rfl]; exact fun e => absurd ((nI_leI (by omega) (by omega)).mp e) (by omega)))) (fun _ => k)) ?_
          refine pw_l (fun _ _ _ _ k => pm_aload B9 dL_quotas_70 rfl k) ?_
          refine pw_l (fun _ _ _ _ k => pm_iload B9 dL_quotas_72 rfl k) ?_
          refine pw_l (fun _ _ _ _ k => pm_aload_n B9 dL_quotas_74 rfl k) ?_
          refine pw_l (fun _ _ _ _ k => pm_iload B9 dL_quotas_75 rfl k) ?_
          refine pw_l (fun _ _ _ _ k => pm_iload B9 dL_quotas_77 rfl k) ?_
          refine pw_l (fun _ _ _ _ k => pm_iconst (v := 1) B9 dL_quotas_79 (by decide) k) ?_
          refine pw_cSW (As := [.ref (z + 0), .int (nI j2), .int (nI T), .int 1]) (c2 := (6 - (2) + (k2 * 6 + (6 + (19926 - (19444 + 8 * 6) + (k1 * 19926 + (19926 + (99642 - (2 + 5 * 19926) + 0)))))))) (s2 := (36 - (12) + (k2 * 36 + (36 + (119558 - (116666 + 8 * 36) + (k1 * 119558 + (119558 + (597862 - (12 + 5 * 119558) + 0)))))))) B9 (pv_as (pv_L_quotaBy_in (i := j2) (by omega) hI.1.2.1 (pw_inT hT) (by decide)) (b_L_quotaBy hI)) mt_L_quotaBy ss_L_261 dL_quotas_80 rfl rfl rfl (by omega) (by omega) ?_
          refine pw_l (fun _ _ _ _ k => pm_stk (st' := [.int (pw_qb n r (nI T) 1 j2), .int (nI j2), .ref (z + w11)]) rfl k) ?_
          refine pw_up (W' := (pw_W z kA kE (B, r, hs, u) ((w11, .inl (kA 0, 7, .inl (upd q0_2 j2 (pw_qb n r (nI T) 1 j2)))) :: (p9.1, .inl (kA 0, 7, .inl p9.2)) :: ar))) (fun _ _ _ _ hW k => pm_iast_n B9 dL_quotas_83 (pw_at hW 0 rfl) j2 (by first | assumption | omega) (by decide) (k _ (pw_set0 hW))) ?_
          refine pw_l (fun _ _ _ _ k => pm_aload_n B9 dL_quotas_84 rfl k) ?_
          refine pw_l (fun _ _ _ _ k => pm_iload B9 dL_quotas_85 rfl k) ?_
          refine pw_l (fun _ _ _ _ k => pm_iload B9 dL_quotas_87 rfl k) ?_
          refine pw_l (fun _ _ _ _ k => pm_iconst (v := 0) B9 dL_quotas_89 (by decide) k) ?_
          refine pw_cSW (As := [.ref (z + 0), .int (nI j2), .int (nI T), .int 0]) (c2 := (6 - (4) + (k2 * 6 + (6 + (19926 - (19444 + 8 * 6) + (k1 * 19926 + (19926 + (99642 - (2 + 5 * 19926) + 0)))))))) (s2 := (36 - (24) + (k2 * 36 + (36 + (119558 - (116666 + 8 * 36) + (k1 * 119558 + (119558 + (597862 - (12 + 5 * 119558) + 0)))))))) B9 (pv_as (pv_L_quotaBy_in (i := j2) (by omega) hI.1.2.1 (pw_inT hT) (by decide)) (b_L_quotaBy hI)) mt_L_quotaBy ss_L_261 dL_quotas_90 rfl rfl rfl (by omega) (by omega) ?_
          refine pw_l (fun _ _ _ _ k => pm_stk (st' := [.int (pw_qb n r (nI T) 0 j2)]) rfl k) ?_
          refine pw_l (fun _ _ _ _ k => pm_aload B9 dL_quotas_93 rfl k) ?_
          refine pw_l (fun _ _ _ _ k => pm_iload B9 dL_quotas_95 rfl k) ?_
          refine pw_lw (fun _ _ _ _ hW k => pm_iald_n B9 dL_quotas_97 (pw_at hW 1 rfl) j2 (by first | assumption | omega) (by decide) k) ?_
          refine pw_l (fun _ _ _ _ k => pm_icmp_ne (tgt := 112) B9 dL_quotas_98 (by decide) (fun h => absurd (((hp9 _ (by omega)).symm)) h) (fun _ => k)) ?_
          refine pw_l (fun _ _ _ _ k => pm_aload_n B9 dL_quotas_101 rfl k) ?_
          refine pw_l (fun _ _ _ _ k => pm_iload B9 dL_quotas_102 rfl k) ?_
          refine pw_l (fun _ _ _ _ k => pm_iconst (v := 0) B9 dL_quotas_104 (by decide) k) ?_
          refine pw_l (fun _ _ _ _ k => pm_iconst (v := 1) B9 dL_quotas_105 (by decide) k) ?_
          refine pw_cSW (As := [.ref (z + 0), .int (nI j2), .int 0, .int 1]) (c2 := (6 - (6) + (k2 * 6 + (6 + (19926 - (19444 + 8 * 6) + (k1 * 19926 + (19926 + (99642 - (2 + 5 * 19926) + 0)))))))) (s2 := (36 - (36) + (k2 * 36 + (36 + (119558 - (116666 + 8 * 36) + (k1 * 119558 + (119558 + (597862 - (12 + 5 * 119558) + 0)))))))) B9 (pv_as (pv_L_quotaBy_in (i := j2) (by omega) hI.1.2.1 (by decide) (by decide)) (b_L_quotaBy hI)) mt_L_quotaBy ss_L_261 dL_quotas_106 rfl rfl rfl (by omega) (by omega) ?_
          refine pw_l (fun _ _ _ _ k => pm_stk (st' := [.int (pw_qb n r 0 1 j2)]) rfl k) ?_
          refine pw_l (fun _ _ _ _ k => pm_if_eq (tgt := 114) B9 dL_quotas_109 (by decide) (fun _ => k) (fun h => absurd ((pw_qbz hI (by omega))) h)) ?_
          refine pw_l (fun _ _ _ _ k => pm_iinc B9 dL_quotas_114 rfl rfl rfl k) ?_
          refine pw_l (fun _ _ _ _ k => pm_loc (L' := [some (.ref (kE 70)), some (.ref (z + 0)), some (.int (nI n)), some (.int (nI j1)), some (.int (nI T)), some (.ref (z + p9.1)), some (.ref (z + w11)), some (.int (nI (j2 + 1)))]) (by rw [show ((nI j2) : Int32) + Int32.ofInt 1 = (nI (j2 + 1)) from nI_1 _]; rfl) k) ?_
          refine pw_l (fun _ _ _ _ k => pm_goto (tgt := 64) B9 dL_quotas_117 (by decide) k) ?_
          exact pw_cr (by omega) (by omega) (ih2 (j2 + 1) (by omega) _ (by subst eq0_2; first | rfl))
      exact pw_cr (by omega) (by omega) (loop2 n 0 (by omega) _ rfl)
  exact pw_cr (by omega) (by omega) (loop1 4 0 (by omega))
