def w_L_fines_6  (x0 : Int32) : Nat → Int32
  | 0 => x0
  | j6 + 1 => ((w_L_fines_6  x0 j6) * (nI (2 + j6)))
def w_L_fines_5  (x0 : Int32) : Nat → Int32
  | 0 => x0
  | j5 + 1 => ((w_L_fines_5  x0 j5) * (nI (2 + j5)))
def w_L_fines_4 (r : (Nat → Int32)) (j3 : Nat) (x0 : Int32) : Nat → Int32
  | 0 => x0
  | j4 + 1 => ((if (((nI j3) >>> ((nI j4) &&& 31)) &&& 1) = 1 then (pm_max (w_L_fines_4 r j3 x0 j4) (pw_xs r j4)) else (w_L_fines_4 r j3 x0 j4)) : Int32)
def w_L_fines_3 (n : Nat) (r : (Nat → Int32)) (j2 : Nat) (x0 : Int32) : Nat → Int32
  | 0 => x0
  | j3 + 1 => ((if (((nI j3) >>> ((nI j2) &&& 31)) &&& 1) = 0 then ((w_L_fines_3 n r j2 x0 j3) + ((w_L_fines_6  (w_L_fines_5  1 (pm_pc j3 7 - 1)) (n - pm_pc j3 7 - 2)) * (pm_max 0 ((pw_xs r j2) - (w_L_fines_4 r j3 0 n))))) else (w_L_fines_3 n r j2 x0 j3)) : Int32)
def w_L_fines_2 (n : Nat) (r : (Nat → Int32)) (x0 : Int32) : Nat → Int32
  | 0 => x0
  | j2 + 1 => ((w_L_fines_2 n r x0 j2) + (w_L_fines_3 n r j2 0 (2 ^ n)))
def w_L_fines_1 (r : (Nat → Int32)) (x0 : Int32) (x1 : Int32) : Nat → (Int32 × Int32)
  | 0 => (x0, x1)
  | j1 + 1 => ((pm_max (w_L_fines_1 r x0 x1 j1).1 (pw_xs r j1)), ((w_L_fines_1 r x0 x1 j1).2 * ((nI j1) + 1)))
theorem pw_pcn {n j : Nat} (h7 : n ≤ 7) (hj : j < 2 ^ n) : pm_pc j 7 ≤ n := by
  have h : ∀ n, n < 8 → ∀ j, j < 128 → j < 2 ^ n → pm_pc j 7 ≤ n := by decide +kernel
  exact h n (by omega) j (Nat.lt_of_lt_of_le hj (pm_p7 h7)) hj
theorem pw_rvE {B n j1 : Nat} {r : Nat → Int32} (hI : pm_I B n r) (hj : j1 < n) : pw_xs r j1 = nI (pm_rv r j1) ∧ pm_rv r j1 ≤ 99 ∧ r (7 + 6 * j1 + 3) = nI (pm_rz r j1) ∧ pm_rz r j1 ≤ 99 := by
  obtain ⟨g, hRS⟩ := pw_rs r hI.1.2.1
  obtain ⟨v, s, b1, b2, b3, b4, b5, b6⟩ := pm_ovr hRS hI.2.1 hj
  have e1 : pm_rv r j1 = v := by unfold pm_rv; rw [b3, pm_n_nI (by omega)]
  have e2 : pm_rz r j1 = s := by unfold pm_rz; rw [b5, pm_n_nI (by omega)]
  rw [e1, e2]
  exact ⟨b3, b1, b5, b2⟩
section PWFN
variable {B n : Nat} {r : Nat → Int32}
/-- the most of a set -/
def pw_ah (X : Nat → Nat) (S : Nat) : Nat → Nat
  | 0 => 0
  | j + 1 => if S / 2 ^ j % 2 = 1 then max (pw_ah X S j) (X j) else pw_ah X S j
theorem pw_ah_le {X : Nat → Nat} {S V : Nat} : ∀ j, (pw_ah X S j ≤ V ↔ ∀ i, i < j → S / 2 ^ i % 2 = 1 → X i ≤ V) := by
  intro j
  induction j with
  | zero => exact ⟨fun _ i hi => absurd hi (Nat.not_lt_zero _), fun _ => Nat.zero_le _⟩
  | succ j ih =>
    show (if S / 2 ^ j % 2 = 1 then max (pw_ah X S j) (X j) else pw_ah X S j) ≤ V ↔ _
    by_cases h : S / 2 ^ j % 2 = 1
    · rw [if_pos h]
      constructor
      · intro h1 i hi hb
        rcases Nat.lt_succ_iff_lt_or_eq.mp hi with h2 | rfl
        · exact ih.mp (by omega) i h2 hb
        · omega
      · intro h1
        have h2 := ih.mpr fun i hi hb => h1 i (by omega) hb
        have h3 := h1 j (by omega) h
        omega
    · rw [if_neg h]
      constructor
      · intro h1 i hi hb
        rcases Nat.lt_succ_iff_lt_or_eq.mp hi with h2 | rfl
        · exact ih.mp h1 i h2 hb
        · exact absurd hb h
      · intro h1
        exact ih.mpr fun i hi hb => h1 i (by omega) hb
theorem pw_w4 (hI : pm_I B n r) {S : Nat} (hS : S < 128) : ∀ j, j ≤ n → w_L_fines_4 r S 0 j = nI (pw_ah (pm_rv r) S j) ∧ pw_ah (pm_rv r) S j ≤ 99 := by
  have h7 := hI.1.2.1
  intro j
  induction j with
  | zero => intro _; exact ⟨rfl, Nat.zero_le _⟩
  | succ j ih =>
    intro hj
    obtain ⟨e1, e2⟩ := ih (by omega)
    obtain ⟨x1, x2, -, -⟩ := pw_rvE hI (j1 := j) (by omega)
    show ((if (((nI S) >>> ((nI j) &&& 31)) &&& 1) = 1 then (pm_max (w_L_fines_4 r S 0 j) (pw_xs r j)) else (w_L_fines_4 r S 0 j)) : Int32) = nI (if S / 2 ^ j % 2 = 1 then max (pw_ah (pm_rv r) S j) (pm_rv r j) else pw_ah (pm_rv r) S j) ∧ (if S / 2 ^ j % 2 = 1 then max (pw_ah (pm_rv r) S j) (pm_rv r j) else pw_ah (pm_rv r) S j) ≤ 99
    rw [pm_tb hS (by omega), e1, x1]
    by_cases h : S / 2 ^ j % 2 = 1
    · rw [h, if_pos (show nI 1 = (1 : Int32) from rfl), if_pos rfl, ps_maxN (by omega) (by omega)]
      exact ⟨rfl, by omega⟩
    · rw [show S / 2 ^ j % 2 = 0 by omega, if_neg (show ¬ nI 0 = (1 : Int32) by decide), if_neg (by decide)]
      exact ⟨rfl, e2⟩
def pw_ws (n S : Nat) : Nat := pm_fc (pm_pc S 7) * pm_fc (n - pm_pc S 7 - 1)
theorem pw_w56 : ∀ n, n < 8 → ∀ p, p < 8 → w_L_fines_6 (w_L_fines_5 1 (p - 1)) (n - p - 2) = nI (pm_fc p * pm_fc (n - p - 1)) := by decide +kernel
theorem pw_w3f (hI : pm_I B n r) {k : Nat} (hk : k < n) : ∀ j, j ≤ 2 ^ n → w_L_fines_3 n r k 0 j = nI (pn_sum (fun S => if S / 2 ^ k % 2 = 0 then pw_ws n S * (pm_rv r k - pw_ah (pm_rv r) S n) else 0) j) := by
  have h7 := hI.1.2.1
  have h128 := pm_p7 h7
  obtain ⟨x1, x2, -, -⟩ := pw_rvE hI hk
  intro j
  induction j with
  | zero => intro _; rfl
  | succ j ih =>
    intro hj
    have hj1 : j < 128 := by omega
    obtain ⟨e1, e2⟩ := pw_w4 hI hj1 n (Nat.le_refl n)
    have hp := pn_pc7 j hj1
    show ((if (((nI j) >>> ((nI k) &&& 31)) &&& 1) = 0 then ((w_L_fines_3 n r k 0 j) + ((w_L_fines_6  (w_L_fines_5  1 (pm_pc j 7 - 1)) (n - pm_pc j 7 - 2)) * (pm_max 0 ((pw_xs r k) - (w_L_fines_4 r j 0 n))))) else (w_L_fines_3 n r k 0 j)) : Int32) = nI (pn_sum (fun S => if S / 2 ^ k % 2 = 0 then pw_ws n S * (pm_rv r k - pw_ah (pm_rv r) S n) else 0) j + (if j / 2 ^ k % 2 = 0 then pw_ws n j * (pm_rv r k - pw_ah (pm_rv r) j n) else 0))
    rw [pm_tb hj1 (by omega), ih (by omega), e1, x1, pq_over (by omega) (by omega), pw_w56 n (by omega) (pm_pc j 7) (by omega), pk_mul]
    by_cases h : j / 2 ^ k % 2 = 0
    · rw [h, if_pos (show nI 0 = (0 : Int32) from rfl), if_pos rfl, nI_add]; rfl
    · rw [show j / 2 ^ k % 2 = 1 by omega, if_neg (show ¬ nI 1 = (0 : Int32) by decide), if_neg (by decide), Nat.add_zero]
theorem pw_band : ∀ S, S < 128 → ∀ L, L < 128 → (S &&& L = S ↔ ∀ i, i < 7 → S / 2 ^ i % 2 = 1 → L / 2 ^ i % 2 = 1) := by decide +kernel
theorem pw_shap : ∀ n, n < 8 → ∀ L, L < 128 → L < 2 ^ n → pm_pc L n < n → pn_sum (fun S => if S &&& L = S then pw_ws n S else 0) (2 ^ n) = pm_fc n / (n - pm_pc L n) := by decide +kernel
theorem pw_lowm (X : Nat → Nat) (u : Nat) (h7 : n ≤ 7) : ∀ j, j ≤ n → ∃ L, L < 2 ^ j ∧ L < 128 ∧ (∀ i, i < 7 → (L / 2 ^ i % 2 = 1 ↔ i < j ∧ X i < u)) := by
  have hbt : ∀ D, D < 128 → ∀ m, m < 7 → ∀ j, j < 7 → (D ||| 2 ^ m) / 2 ^ j % 2 = if j = m then 1 else D / 2 ^ j % 2 := by decide +kernel
  intro j
  induction j with
  | zero => intro _; exact ⟨0, by decide, by decide, fun i _ => by rw [Nat.zero_div]; exact ⟨fun h => absurd h (by decide), fun h => absurd h.1 (Nat.not_lt_zero _)⟩⟩
  | succ j ih =>
    intro hj
    obtain ⟨L, l1, l2, l3⟩ := ih (by omega)
    have h2 : 2 ^ j < 2 ^ (j + 1) := Nat.pow_lt_pow_right (by decide) (by omega)
    have h128 := pm_p7 (n := j + 1) (by omega)
    by_cases h : X j < u
    · have hlt : L ||| 2 ^ j < 2 ^ (j + 1) := Nat.or_lt_two_pow (by omega) h2
      refine ⟨L ||| 2 ^ j, hlt, by omega, fun i hi => ?_⟩
      rw [hbt L l2 j (by omega) i hi]
      by_cases hij : i = j
      · subst hij
        rw [if_pos rfl]
        exact ⟨fun _ => ⟨by omega, h⟩, fun _ => rfl⟩
      · rw [if_neg hij]
        exact (l3 i hi).trans ⟨fun ⟨x, y⟩ => ⟨by omega, y⟩, fun ⟨x, y⟩ => ⟨by omega, y⟩⟩
    · refine ⟨L, by omega, l2, fun i hi => (l3 i hi).trans ⟨fun ⟨x, y⟩ => ⟨by omega, y⟩, fun ⟨x, y⟩ => ⟨?_, y⟩⟩⟩
      have : i ≠ j := fun e => h (e ▸ y)
      omega
theorem pw_pcsf {D : Nat} : ∀ n, pm_pc D n = pm_sf (fun i => D / 2 ^ i % 2) n 0 := by
  intro n
  induction n with
  | zero => rfl
  | succ n ih => rw [pm_sf_top, ← ih, Nat.zero_add]; rfl
theorem pw_fnN (X : Nat → Nat) (h7 : n ≤ 7) {k : Nat} (hk : k < n) : ∀ V, V ≤ X k → pn_sum (fun S => if S / 2 ^ k % 2 = 0 then pw_ws n S * (V - pw_ah X S n) else 0) (2 ^ n) = pm_sf (fun u => pm_fc n / ps_cn X n u) V 1 := by
  have h128 := pm_p7 h7
  intro V
  induction V with
  | zero =>
    intro _
    refine pn_sum_z _ fun j hj => ?_
    show (if j / 2 ^ k % 2 = 0 then pw_ws n j * (0 - pw_ah X j n) else 0) = 0
    rw [Nat.zero_sub, Nat.mul_zero]
    split <;> rfl
  | succ V ih =>
    intro hV
    obtain ⟨L, l1, l2, l3⟩ := pw_lowm X (V + 1) h7 n (Nat.le_refl n)
    have hc : pm_pc L n + ps_cn X n (V + 1) = n := by
      rw [pw_pcsf]
      unfold ps_cn
      rw [← pm_sf_add, pm_sf_cg (G := fun _ => 1) (fun i _ hi => by
        have h9 := l3 i (by omega)
        by_cases hx : X i < V + 1
        · rw [if_pos hx, h9.mpr ⟨by omega, hx⟩]
        · have : ¬ L / 2 ^ i % 2 = 1 := fun e => hx (h9.mp e).2
          rw [if_neg hx]; omega)]
      have : ∀ n, pm_sf (fun _ => 1) n 0 = n := fun n => by
        induction n with
        | zero => rfl
        | succ n ih => rw [pm_sf_top, ih]
      exact this n
    have hLk : ¬ L / 2 ^ k % 2 = 1 := fun e => by have := ((l3 k (by omega)).mp e).2; omega
    have hcp : pm_pc L n < n := by
      have h1 := pm_pc_sl (F := fun i => L / 2 ^ i % 2) (D := 2 ^ n - 1) (t := k) n (fun i hi => by
        have := (pw_full2 n (by omega)) i (by omega) hi
        omega) hk (by
        have := (pw_full2 n (by omega)) k (by omega) hk
        omega)
      rw [← pw_pcsf] at h1
      have h2 := pw_full3 n (by omega)
      omega
    have hs := pw_shap n (by omega) L l2 l1 hcp
    rw [show n - pm_pc L n = ps_cn X n (V + 1) by omega] at hs
    rw [pm_sf_top, ← ih (by omega), Nat.add_comm 1 V, ← hs, ← pn_sum_add]
    refine pn_sum_cg _ fun S hS => ?_
    have hS1 : S < 128 := by omega
    have hb := pw_band S hS1 L l2
    have hal := pw_ah_le (X := X) (S := S) (V := V) n
    have hout : ∀ n, n < 8 → ∀ S, S < 128 → S < 2 ^ n → ∀ i, i < 7 → S / 2 ^ i % 2 = 1 → i < n := by decide +kernel
    by_cases hk0 : S / 2 ^ k % 2 = 0
    · rw [if_pos hk0, if_pos hk0]
      by_cases hle : pw_ah X S n ≤ V
      · have hsub : S &&& L = S := hb.mpr fun i hi h1 => (l3 i hi).mpr ⟨hout n (by omega) S hS1 hS i hi h1, by have := hal.mp hle i (hout n (by omega) S hS1 hS i hi h1) h1; omega⟩
        rw [if_pos hsub, show V + 1 - pw_ah X S n = (V - pw_ah X S n) + 1 by omega, Nat.mul_succ]
      · have hsub : ¬ S &&& L = S := fun e => hle (hal.mpr fun i hi h1 => by have := ((l3 i (by omega)).mp (hb.mp e i (by omega) h1)).2; omega)
        rw [if_neg hsub, show V + 1 - pw_ah X S n = 0 by omega, show V - pw_ah X S n = 0 by omega, Nat.add_zero]
    · rw [if_neg hk0, if_neg hk0, if_neg (fun e => hLk (hb.mp e k (by omega) (by omega))), Nat.add_zero]
theorem pw_fn1 {k : Nat} (hI : pm_I B n r) (hk : k < n) : pw_sh n r k = w_L_fines_3 n r k 0 (2 ^ n) := by
  rw [pw_w3f hI hk (2 ^ n) (Nat.le_refl _), pw_fnN (pm_rv r) hI.1.2.1 hk (pm_rv r k) (Nat.le_refl _)]
  rfl
theorem pw_w1f (hI : pm_I B n r) : ∀ j, j ≤ n → ∃ M, w_L_fines_1 r 0 1 j = (nI M, nI (pm_fc j)) ∧ M ≤ 99 ∧ (∀ i, i < j → pm_rv r i ≤ M) ∧ (M = 0 ∨ ∃ i, i < j ∧ pm_rv r i = M) := by
  intro j
  induction j with
  | zero => intro _; exact ⟨0, rfl, by decide, fun i hi => absurd hi (Nat.not_lt_zero _), Or.inl rfl⟩
  | succ j ih =>
    intro hj
    obtain ⟨M, m1, m2, m3, m4⟩ := ih (by omega)
    obtain ⟨x1, x2, -, -⟩ := pw_rvE hI (j1 := j) (by omega)
    refine ⟨max M (pm_rv r j), ?_, by omega, fun i hi => ?_, ?_⟩
    · show ((pm_max (w_L_fines_1 r 0 1 j).1 (pw_xs r j)), ((w_L_fines_1 r 0 1 j).2 * ((nI j) + 1))) = _
      rw [m1, x1]
      dsimp only
      rw [ps_maxN (by omega) (by omega), nI_1, pk_mul, Nat.mul_comm]
      rfl
    · rcases Nat.lt_succ_iff_lt_or_eq.mp hi with h | rfl
      · have := m3 i h; omega
      · omega
    · by_cases h : M ≤ pm_rv r j
      · exact Or.inr ⟨j, by omega, by omega⟩
      · rw [Nat.max_eq_left (by omega)]
        rcases m4 with h1 | ⟨i, hi, h1⟩
        · exact Or.inl h1
        · exact Or.inr ⟨i, by omega, h1⟩
theorem pw_w2f (hI : pm_I B n r) : ∀ j, j ≤ n → w_L_fines_2 n r 0 j = nI (pm_sf (fun k => pm_sf (fun u => pm_fc n / ps_cn (pm_rv r) n u) (pm_rv r k) 1) j 0) := by
  intro j
  induction j with
  | zero => intro _; rfl
  | succ j ih =>
    intro hj
    show w_L_fines_2 n r 0 j + w_L_fines_3 n r j 0 (2 ^ n) = _
    rw [ih (by omega), ← pw_fn1 hI (by omega), pm_sf_top, Nat.zero_add]
    exact nI_add _ _
theorem pw_dvd : ∀ n, n < 8 → ∀ c, c < 8 → 0 < c → c ≤ n → c * (pm_fc n / c) = pm_fc n := by decide +kernel
theorem pw_cnle {X : Nat → Nat} {u : Nat} : ps_cn X n u ≤ n := by
  have := pm_sf_b (F := fun i => if X i < u then 0 else 1) (b := 1) n 0 fun i _ _ => by split <;> omega
  unfold ps_cn
  omega
theorem pw_fnS (X : Nat → Nat) (h7 : n ≤ 7) {M : Nat} (hM : M = 0 ∨ ∃ i, i < n ∧ X i = M) : ∀ V, V ≤ M → pm_sf (fun k => pm_sf (fun u => pm_fc n / ps_cn X n u) (min (X k) V) 1) n 0 = V * pm_fc n := by
  intro V
  induction V with
  | zero =>
    intro _
    rw [Nat.zero_mul]
    have := pm_sf_b (F := fun k => pm_sf (fun u => pm_fc n / ps_cn X n u) (min (X k) 0) 1) (b := 0) n 0 fun i _ _ => by rw [Nat.min_zero]; exact Nat.le_refl _
    omega
  | succ V ih =>
    intro hV
    have hstep : pm_sf (fun k => pm_sf (fun u => pm_fc n / ps_cn X n u) (min (X k) (V + 1)) 1) n 0 = pm_sf (fun k => pm_sf (fun u => pm_fc n / ps_cn X n u) (min (X k) V) 1 + (pm_fc n / ps_cn X n (V + 1)) * (if X k < V + 1 then 0 else 1)) n 0 := pm_sf_cg fun k _ _ => by
      by_cases h : X k < V + 1
      · rw [if_pos h, Nat.mul_zero, Nat.min_eq_left (by omega), Nat.min_eq_left (by omega)]
        rfl
      · rw [if_neg h, Nat.mul_one, Nat.min_eq_right (by omega), Nat.min_eq_right (by omega), pm_sf_top, Nat.add_comm 1 V]
    have hpos : 0 < ps_cn X n (V + 1) := by
      rcases hM with h | ⟨i, hi, hx⟩
      · omega
      · have h1 := pm_sf_at (F := fun i => if X i < V + 1 then 0 else 1) n 0 i (Nat.zero_le _) (by omega)
        rw [if_neg (show ¬ X i < V + 1 by omega)] at h1
        exact h1
    have hle := pw_cnle (n := n) (X := X) (u := V + 1)
    rw [hstep, pm_sf_add, ih (by omega), pm_sf_mul (F := fun k => if X k < V + 1 then 0 else 1), Nat.succ_mul]
    congr 1
    show pm_fc n / ps_cn X n (V + 1) * ps_cn X n (V + 1) = _
    rw [Nat.mul_comm]
    exact pw_dvd n (by omega) _ (by omega) hpos hle
theorem pw_fn3 (hI : pm_I B n r) (h0 : 0 < n) : w_L_fines_2 n r 0 n = (w_L_fines_1 r 0 1 n).2 * (w_L_fines_1 r 0 1 n).1 := by
  have h7 := hI.1.2.1
  obtain ⟨M, m1, m2, m3, m4⟩ := pw_w1f hI n (Nat.le_refl n)
  have hs := pw_fnS (n := n) (pm_rv r) h7 m4 M (Nat.le_refl M)
  rw [pm_sf_cg (G := fun k => pm_sf (fun u => pm_fc n / ps_cn (pm_rv r) n u) (pm_rv r k) 1) (fun k _ hk => by
    rw [Nat.min_eq_left (m3 k (by omega))])] at hs
  rw [m1, pw_w2f hI n (Nat.le_refl n), hs]
  dsimp only
  rw [pk_mul, Nat.mul_comm]
end PWFN
/-! the law: fines -/
theorem dL_fines_0 : decode cL_fines 0 = .ok (.aload_n 0, 1) := by decide +kernel
theorem dL_fines_1 : decode cL_fines 1 = .ok (.invokevirtual 177, 3) := by decide +kernel
theorem dL_fines_4 : decode cL_fines 4 = .ok (.istore_n 1, 1) := by decide +kernel
theorem dL_fines_5 : decode cL_fines 5 = .ok (.iconst 0, 1) := by decide +kernel
theorem dL_fines_6 : decode cL_fines 6 = .ok (.istore_n 2, 1) := by decide +kernel
theorem dL_fines_7 : decode cL_fines 7 = .ok (.iconst 0, 1) := by decide +kernel
theorem dL_fines_8 : decode cL_fines 8 = .ok (.istore_n 3, 1) := by decide +kernel
theorem dL_fines_9 : decode cL_fines 9 = .ok (.iconst 1, 1) := by decide +kernel
theorem dL_fines_10 : decode cL_fines 10 = .ok (.istore 4, 2) := by decide +kernel
theorem dL_fines_12 : decode cL_fines 12 = .ok (.iconst 0, 1) := by decide +kernel
theorem dL_fines_13 : decode cL_fines 13 = .ok (.istore 5, 2) := by decide +kernel
theorem dL_fines_15 : decode cL_fines 15 = .ok (.iload 5, 2) := by decide +kernel
theorem dL_fines_17 : decode cL_fines 17 = .ok (.iload_n 1, 1) := by decide +kernel
theorem dL_fines_18 : decode cL_fines 18 = .ok (.if_icmp .ge 29, 3) := by decide +kernel
theorem dL_fines_21 : decode cL_fines 21 = .ok (.iload 4, 2) := by decide +kernel
theorem dL_fines_23 : decode cL_fines 23 = .ok (.iload 5, 2) := by decide +kernel
theorem dL_fines_25 : decode cL_fines 25 = .ok (.iconst 1, 1) := by decide +kernel
theorem dL_fines_26 : decode cL_fines 26 = .ok (.iadd, 1) := by decide +kernel
theorem dL_fines_27 : decode cL_fines 27 = .ok (.imul, 1) := by decide +kernel
theorem dL_fines_28 : decode cL_fines 28 = .ok (.istore 4, 2) := by decide +kernel
theorem dL_fines_30 : decode cL_fines 30 = .ok (.iload_n 2, 1) := by decide +kernel
theorem dL_fines_31 : decode cL_fines 31 = .ok (.aload_n 0, 1) := by decide +kernel
theorem dL_fines_32 : decode cL_fines 32 = .ok (.iload 5, 2) := by decide +kernel
theorem dL_fines_34 : decode cL_fines 34 = .ok (.invokevirtual 64, 3) := by decide +kernel
theorem dL_fines_37 : decode cL_fines 37 = .ok (.invokestatic 221, 3) := by decide +kernel
theorem dL_fines_40 : decode cL_fines 40 = .ok (.istore_n 2, 1) := by decide +kernel
theorem dL_fines_41 : decode cL_fines 41 = .ok (.iinc 5 1, 3) := by decide +kernel
theorem dL_fines_44 : decode cL_fines 44 = .ok (.goto (-29), 3) := by decide +kernel
theorem dL_fines_47 : decode cL_fines 47 = .ok (.iconst 0, 1) := by decide +kernel
theorem dL_fines_48 : decode cL_fines 48 = .ok (.istore 5, 2) := by decide +kernel
theorem dL_fines_50 : decode cL_fines 50 = .ok (.iload 5, 2) := by decide +kernel
theorem dL_fines_52 : decode cL_fines 52 = .ok (.iload_n 1, 1) := by decide +kernel
theorem dL_fines_53 : decode cL_fines 53 = .ok (.if_icmp .ge 193, 3) := by decide +kernel
theorem dL_fines_56 : decode cL_fines 56 = .ok (.iconst 0, 1) := by decide +kernel
theorem dL_fines_57 : decode cL_fines 57 = .ok (.istore 6, 2) := by decide +kernel
theorem dL_fines_59 : decode cL_fines 59 = .ok (.iconst 0, 1) := by decide +kernel
theorem dL_fines_60 : decode cL_fines 60 = .ok (.istore 7, 2) := by decide +kernel
theorem dL_fines_62 : decode cL_fines 62 = .ok (.iload 7, 2) := by decide +kernel
theorem dL_fines_64 : decode cL_fines 64 = .ok (.iconst 1, 1) := by decide +kernel
theorem dL_fines_65 : decode cL_fines 65 = .ok (.iload_n 1, 1) := by decide +kernel
theorem dL_fines_66 : decode cL_fines 66 = .ok (.ishl, 1) := by decide +kernel
theorem dL_fines_67 : decode cL_fines 67 = .ok (.if_icmp .ge 144, 3) := by decide +kernel
theorem dL_fines_70 : decode cL_fines 70 = .ok (.iload 7, 2) := by decide +kernel
theorem dL_fines_72 : decode cL_fines 72 = .ok (.iload 5, 2) := by decide +kernel
theorem dL_fines_74 : decode cL_fines 74 = .ok (.ishr, 1) := by decide +kernel
theorem dL_fines_75 : decode cL_fines 75 = .ok (.iconst 1, 1) := by decide +kernel
theorem dL_fines_76 : decode cL_fines 76 = .ok (.iand, 1) := by decide +kernel
theorem dL_fines_77 : decode cL_fines 77 = .ok (.ifCond .ne 128, 3) := by decide +kernel
theorem dL_fines_80 : decode cL_fines 80 = .ok (.iconst 0, 1) := by decide +kernel
theorem dL_fines_81 : decode cL_fines 81 = .ok (.istore 8, 2) := by decide +kernel
theorem dL_fines_83 : decode cL_fines 83 = .ok (.iconst 1, 1) := by decide +kernel
theorem dL_fines_84 : decode cL_fines 84 = .ok (.istore 9, 2) := by decide +kernel
theorem dL_fines_86 : decode cL_fines 86 = .ok (.iconst 0, 1) := by decide +kernel
theorem dL_fines_87 : decode cL_fines 87 = .ok (.istore 10, 2) := by decide +kernel
theorem dL_fines_89 : decode cL_fines 89 = .ok (.iload 10, 2) := by decide +kernel
theorem dL_fines_91 : decode cL_fines 91 = .ok (.iload_n 1, 1) := by decide +kernel
theorem dL_fines_92 : decode cL_fines 92 = .ok (.if_icmp .ge 38, 3) := by decide +kernel
theorem dL_fines_95 : decode cL_fines 95 = .ok (.iload 7, 2) := by decide +kernel
theorem dL_fines_97 : decode cL_fines 97 = .ok (.iload 10, 2) := by decide +kernel
theorem dL_fines_99 : decode cL_fines 99 = .ok (.ishr, 1) := by decide +kernel
theorem dL_fines_100 : decode cL_fines 100 = .ok (.iconst 1, 1) := by decide +kernel
theorem dL_fines_101 : decode cL_fines 101 = .ok (.iand, 1) := by decide +kernel
theorem dL_fines_102 : decode cL_fines 102 = .ok (.iconst 1, 1) := by decide +kernel
theorem dL_fines_103 : decode cL_fines 103 = .ok (.if_icmp .ne 17, 3) := by decide +kernel
theorem dL_fines_106 : decode cL_fines 106 = .ok (.iload 8, 2) := by decide +kernel
theorem dL_fines_108 : decode cL_fines 108 = .ok (.aload_n 0, 1) := by decide +kernel
theorem dL_fines_109 : decode cL_fines 109 = .ok (.iload 10, 2) := by decide +kernel
theorem dL_fines_111 : decode cL_fines 111 = .ok (.invokevirtual 64, 3) := by decide +kernel
theorem dL_fines_114 : decode cL_fines 114 = .ok (.invokestatic 221, 3) := by decide +kernel
theorem dL_fines_117 : decode cL_fines 117 = .ok (.goto 5, 3) := by decide +kernel
theorem dL_fines_120 : decode cL_fines 120 = .ok (.iload 8, 2) := by decide +kernel
theorem dL_fines_122 : decode cL_fines 122 = .ok (.istore 8, 2) := by decide +kernel
theorem dL_fines_124 : decode cL_fines 124 = .ok (.iinc 10 1, 3) := by decide +kernel
theorem dL_fines_127 : decode cL_fines 127 = .ok (.goto (-38), 3) := by decide +kernel
theorem dL_fines_130 : decode cL_fines 130 = .ok (.iconst 2, 1) := by decide +kernel
theorem dL_fines_131 : decode cL_fines 131 = .ok (.istore 10, 2) := by decide +kernel
theorem dL_fines_133 : decode cL_fines 133 = .ok (.iload 10, 2) := by decide +kernel
theorem dL_fines_135 : decode cL_fines 135 = .ok (.iload 7, 2) := by decide +kernel
theorem dL_fines_137 : decode cL_fines 137 = .ok (.invokestatic 270, 3) := by decide +kernel
theorem dL_fines_140 : decode cL_fines 140 = .ok (.if_icmp .gt 16, 3) := by decide +kernel
theorem dL_fines_143 : decode cL_fines 143 = .ok (.iload 9, 2) := by decide +kernel
theorem dL_fines_145 : decode cL_fines 145 = .ok (.iload 10, 2) := by decide +kernel
theorem dL_fines_147 : decode cL_fines 147 = .ok (.imul, 1) := by decide +kernel
theorem dL_fines_148 : decode cL_fines 148 = .ok (.istore 9, 2) := by decide +kernel
theorem dL_fines_150 : decode cL_fines 150 = .ok (.iinc 10 1, 3) := by decide +kernel
theorem dL_fines_153 : decode cL_fines 153 = .ok (.goto (-20), 3) := by decide +kernel
theorem dL_fines_156 : decode cL_fines 156 = .ok (.iconst 2, 1) := by decide +kernel
theorem dL_fines_157 : decode cL_fines 157 = .ok (.istore 10, 2) := by decide +kernel
theorem dL_fines_159 : decode cL_fines 159 = .ok (.iload 10, 2) := by decide +kernel
theorem dL_fines_161 : decode cL_fines 161 = .ok (.iload_n 1, 1) := by decide +kernel
theorem dL_fines_162 : decode cL_fines 162 = .ok (.iload 7, 2) := by decide +kernel
theorem dL_fines_164 : decode cL_fines 164 = .ok (.invokestatic 270, 3) := by decide +kernel
theorem dL_fines_167 : decode cL_fines 167 = .ok (.isub, 1) := by decide +kernel
theorem dL_fines_168 : decode cL_fines 168 = .ok (.if_icmp .ge 16, 3) := by decide +kernel
theorem dL_fines_171 : decode cL_fines 171 = .ok (.iload 9, 2) := by decide +kernel
theorem dL_fines_173 : decode cL_fines 173 = .ok (.iload 10, 2) := by decide +kernel
theorem dL_fines_175 : decode cL_fines 175 = .ok (.imul, 1) := by decide +kernel
theorem dL_fines_176 : decode cL_fines 176 = .ok (.istore 9, 2) := by decide +kernel
theorem dL_fines_178 : decode cL_fines 178 = .ok (.iinc 10 1, 3) := by decide +kernel
theorem dL_fines_181 : decode cL_fines 181 = .ok (.goto (-22), 3) := by decide +kernel
theorem dL_fines_184 : decode cL_fines 184 = .ok (.iload 6, 2) := by decide +kernel
theorem dL_fines_186 : decode cL_fines 186 = .ok (.iload 9, 2) := by decide +kernel
theorem dL_fines_188 : decode cL_fines 188 = .ok (.iconst 0, 1) := by decide +kernel
theorem dL_fines_189 : decode cL_fines 189 = .ok (.aload_n 0, 1) := by decide +kernel
theorem dL_fines_190 : decode cL_fines 190 = .ok (.iload 5, 2) := by decide +kernel
theorem dL_fines_192 : decode cL_fines 192 = .ok (.invokevirtual 64, 3) := by decide +kernel
theorem dL_fines_195 : decode cL_fines 195 = .ok (.iload 8, 2) := by decide +kernel
theorem dL_fines_197 : decode cL_fines 197 = .ok (.isub, 1) := by decide +kernel
theorem dL_fines_198 : decode cL_fines 198 = .ok (.invokestatic 221, 3) := by decide +kernel
theorem dL_fines_201 : decode cL_fines 201 = .ok (.imul, 1) := by decide +kernel
theorem dL_fines_202 : decode cL_fines 202 = .ok (.iadd, 1) := by decide +kernel
theorem dL_fines_203 : decode cL_fines 203 = .ok (.istore 6, 2) := by decide +kernel
theorem dL_fines_205 : decode cL_fines 205 = .ok (.iinc 7 1, 3) := by decide +kernel
theorem dL_fines_208 : decode cL_fines 208 = .ok (.goto (-146), 3) := by decide +kernel
theorem dL_fines_211 : decode cL_fines 211 = .ok (.iload_n 3, 1) := by decide +kernel
theorem dL_fines_212 : decode cL_fines 212 = .ok (.iload 6, 2) := by decide +kernel
theorem dL_fines_214 : decode cL_fines 214 = .ok (.iadd, 1) := by decide +kernel
theorem dL_fines_215 : decode cL_fines 215 = .ok (.istore_n 3, 1) := by decide +kernel
theorem dL_fines_216 : decode cL_fines 216 = .ok (.aload_n 0, 1) := by decide +kernel
theorem dL_fines_217 : decode cL_fines 217 = .ok (.iload 5, 2) := by decide +kernel
theorem dL_fines_219 : decode cL_fines 219 = .ok (.invokestatic 312, 3) := by decide +kernel
theorem dL_fines_222 : decode cL_fines 222 = .ok (.iload 6, 2) := by decide +kernel
theorem dL_fines_224 : decode cL_fines 224 = .ok (.if_icmp .ne 14, 3) := by decide +kernel
theorem dL_fines_227 : decode cL_fines 227 = .ok (.aload_n 0, 1) := by decide +kernel
theorem dL_fines_228 : decode cL_fines 228 = .ok (.iload 5, 2) := by decide +kernel
theorem dL_fines_230 : decode cL_fines 230 = .ok (.invokestatic 314, 3) := by decide +kernel
theorem dL_fines_233 : decode cL_fines 233 = .ok (.iload 6, 2) := by decide +kernel
theorem dL_fines_235 : decode cL_fines 235 = .ok (.if_icmp .eq 5, 3) := by decide +kernel
theorem dL_fines_238 : decode cL_fines 238 = .ok (.iconst 0, 1) := by decide +kernel
theorem dL_fines_239 : decode cL_fines 239 = .ok (.ireturn, 1) := by decide +kernel
theorem dL_fines_240 : decode cL_fines 240 = .ok (.iinc 5 1, 3) := by decide +kernel
theorem dL_fines_243 : decode cL_fines 243 = .ok (.goto (-193), 3) := by decide +kernel
theorem dL_fines_246 : decode cL_fines 246 = .ok (.iload_n 3, 1) := by decide +kernel
theorem dL_fines_247 : decode cL_fines 247 = .ok (.iload 4, 2) := by decide +kernel
theorem dL_fines_249 : decode cL_fines 249 = .ok (.iload_n 2, 1) := by decide +kernel
theorem dL_fines_250 : decode cL_fines 250 = .ok (.imul, 1) := by decide +kernel
theorem dL_fines_251 : decode cL_fines 251 = .ok (.if_icmp .ne 27, 3) := by decide +kernel
theorem dL_fines_254 : decode cL_fines 254 = .ok (.aload_n 0, 1) := by decide +kernel
theorem dL_fines_255 : decode cL_fines 255 = .ok (.iload_n 1, 1) := by decide +kernel
theorem dL_fines_256 : decode cL_fines 256 = .ok (.invokestatic 312, 3) := by decide +kernel
theorem dL_fines_259 : decode cL_fines 259 = .ok (.bipush (-11), 2) := by decide +kernel
theorem dL_fines_261 : decode cL_fines 261 = .ok (.if_icmp .ne 17, 3) := by decide +kernel
theorem dL_fines_264 : decode cL_fines 264 = .ok (.aload_n 0, 1) := by decide +kernel
theorem dL_fines_265 : decode cL_fines 265 = .ok (.iload_n 1, 1) := by decide +kernel
theorem dL_fines_266 : decode cL_fines 266 = .ok (.invokestatic 314, 3) := by decide +kernel
theorem dL_fines_269 : decode cL_fines 269 = .ok (.bipush (-11), 2) := by decide +kernel
theorem dL_fines_271 : decode cL_fines 271 = .ok (.if_icmp .ne 7, 3) := by decide +kernel
theorem dL_fines_274 : decode cL_fines 274 = .ok (.iconst 1, 1) := by decide +kernel
theorem dL_fines_275 : decode cL_fines 275 = .ok (.goto 4, 3) := by decide +kernel
theorem dL_fines_278 : decode cL_fines 278 = .ok (.iconst 0, 1) := by decide +kernel
theorem dL_fines_279 : decode cL_fines 279 = .ok (.ireturn, 1) := by decide +kernel
theorem mt_L_fines : pm_Mt yL_fines cL_fines 11 (some .boolean) 1 := ⟨pm_T_in 1138 (by decide +kernel) (by decide +kernel), pm_T_in 34 (by decide +kernel) (by decide +kernel), ⟨by decide +kernel, by decide +kernel, by decide +kernel⟩, by decide +kernel, by decide⟩
set_option maxRecDepth 100000 in
set_option maxHeartbeats 8000000 in
theorem c_L_fines {l : Launch} {z : Nat} {D : va_G} {kA : Nat → ClassId} {kE : Nat → Nat} {B n : Nat} {r : Nat → Int32} {hs : List (Nat → Int32)} {u : Nat × List Nat} {ar : List (Nat × va_E)}  (hI : pm_I B n r) (h0 : 0 < n) : ∀ nx M, (pw_W z kA kE (B, r, hs, u) ar) nx M → pm_C l z D kA kE yL_fines cL_fines 11 (some .boolean) 40 18630 111780 [.ref (z + 0)] nx M (pw_P (some (.int 1)) (pw_W z kA kE (B, r, hs, u) ar)) := by
  refine pw_mk (own := RL) (nm := "fines") mt_L_fines rfl rfl rfl rfl fun X B9 => ?_
  have h7 : n ≤ 7 := hI.1.2.1
  have h128 : 2 ^ n ≤ 128 := pm_p7 h7
  refine pw_l (fun _ _ _ _ k => pm_loc (L' := [some (.ref (z + 0)), none, none, none, none, none, none, none, none, none, none]) rfl k) ?_
  refine pw_l (fun _ _ _ _ k => pm_aload_n B9 dL_fines_0 rfl k) ?_
  refine pw_cV (As := []) (c2 := (18630 - (2) + 0)) (s2 := (111780 - (12) + 0)) B9 (fun _ _ hW => pw_0 hW) rfl (a_X12_memberCount hI) mt_X12_memberCount sv_L_177 dL_fines_1 rfl rfl rfl (by omega) (by omega) ?_
  refine pw_l (fun _ _ _ _ k => pm_stk (st' := [.int (nI n)]) rfl k) ?_
  refine pw_l (fun _ _ _ _ k => pm_istore_n B9 dL_fines_4 rfl rfl k) ?_
  refine pw_l (fun _ _ _ _ k => pm_loc (L' := [some (.ref (z + 0)), some (.int (nI n)), none, none, none, none, none, none, none, none, none]) rfl k) ?_
  refine pw_l (fun _ _ _ _ k => pm_iconst (v := 0) B9 dL_fines_5 (by decide) k) ?_
  refine pw_l (fun _ _ _ _ k => pm_istore_n B9 dL_fines_6 rfl rfl k) ?_
  refine pw_l (fun _ _ _ _ k => pm_loc (L' := [some (.ref (z + 0)), some (.int (nI n)), some (.int 0), none, none, none, none, none, none, none, none]) rfl k) ?_
  refine pw_l (fun _ _ _ _ k => pm_iconst (v := 0) B9 dL_fines_7 (by decide) k) ?_
  refine pw_l (fun _ _ _ _ k => pm_istore_n B9 dL_fines_8 rfl rfl k) ?_
  refine pw_l (fun _ _ _ _ k => pm_loc (L' := [some (.ref (z + 0)), some (.int (nI n)), some (.int 0), some (.int 0), none, none, none, none, none, none, none]) rfl k) ?_
  refine pw_l (fun _ _ _ _ k => pm_iconst (v := 1) B9 dL_fines_9 (by decide) k) ?_
  refine pw_l (fun _ _ _ _ k => pm_istore B9 dL_fines_10 rfl rfl k) ?_
  refine pw_l (fun _ _ _ _ k => pm_loc (L' := [some (.ref (z + 0)), some (.int (nI n)), some (.int 0), some (.int 0), some (.int 1), none, none, none, none, none, none]) rfl k) ?_
  refine pw_l (fun _ _ _ _ k => pm_iconst (v := 0) B9 dL_fines_12 (by decide) k) ?_
  refine pw_l (fun _ _ _ _ k => pm_istore B9 dL_fines_13 rfl rfl k) ?_
  refine pw_l (fun _ _ _ _ k => pm_loc (L' := [some (.ref (z + 0)), some (.int (nI n)), some (.int 0), some (.int 0), some (.int 1), some (.int 0), none, none, none, none, none]) rfl k) ?_
  refine pw_l (fun _ _ _ _ k => pm_loc (L' := [some (.ref (z + 0)), some (.int (nI n)), some (.int 0), some (.int 0), some (.int 1), some (.int (nI 0)), none, none, none, none, none]) (congrArg (fun yy : Int32 => ([some (.ref (z + 0)), some (.int (nI n)), some (.int 0), some (.int 0), some (.int 1), some (.int yy), none, none, none, none, none] : List (Option Value))) rfl) k) ?_
  have hx1 : pw_J l z D X 18630 111780 (pm_Q z D (pw_P (some (.int 1)) (pw_W z kA kE (B, r, hs, u) ar)) 18630 111780 X) (pw_W z kA kE (B, r, hs, u) ar) (18630 - (2 + 8 * 2) + 0) (111780 - (12 + 8 * 12) + 0) 47 [some (.ref (z + 0)), some (.int (nI n)), some (.int (w_L_fines_1 r 0 1 n).1), some (.int 0), some (.int (w_L_fines_1 r 0 1 n).2), none, none, none, none, none, none] [] := by
    refine pw_l (fun _ _ _ _ k => pm_iconst (v := 0) B9 dL_fines_47 (by decide) k) ?_
    refine pw_l (fun _ _ _ _ k => pm_istore B9 dL_fines_48 rfl rfl k) ?_
    refine pw_l (fun _ _ _ _ k => pm_loc (L' := [some (.ref (z + 0)), some (.int (nI n)), some (.int (w_L_fines_1 r 0 1 n).1), some (.int 0), some (.int (w_L_fines_1 r 0 1 n).2), some (.int 0), none, none, none, none, none]) rfl k) ?_
    refine pw_l (fun _ _ _ _ k => pm_loc (L' := [some (.ref (z + 0)), some (.int (nI n)), some (.int (w_L_fines_1 r 0 1 n).1), some (.int 0), some (.int (w_L_fines_1 r 0 1 n).2), some (.int (nI 0)), none, none, none, none, none]) (congrArg (fun yy : Int32 => ([some (.ref (z + 0)), some (.int (nI n)), some (.int (w_L_fines_1 r 0 1 n).1), some (.int 0), some (.int (w_L_fines_1 r 0 1 n).2), some (.int yy), none, none, none, none, none] : List (Option Value))) rfl) k) ?_
    have hx2 : pw_J l z D X 18630 111780 (pm_Q z D (pw_P (some (.int 1)) (pw_W z kA kE (B, r, hs, u) ar)) 18630 111780 X) (pw_W z kA kE (B, r, hs, u) ar) (18630 - (2 + 8 * 2 + 8 * 2326) + 0) (111780 - (12 + 8 * 12 + 8 * 13956) + 0) 246 [some (.ref (z + 0)), some (.int (nI n)), some (.int (w_L_fines_1 r 0 1 n).1), some (.int (w_L_fines_2 n r 0 n)), some (.int (w_L_fines_1 r 0 1 n).2), none, none, none, none, none, none] [] := by
      refine pw_l (fun _ _ _ _ k => pm_iload_n B9 dL_fines_246 rfl k) ?_
      refine pw_l (fun _ _ _ _ k => pm_iload B9 dL_fines_247 rfl k) ?_
      refine pw_l (fun _ _ _ _ k => pm_iload_n B9 dL_fines_249 rfl k) ?_
      refine pw_l (fun _ _ _ _ k => pm_imul B9 dL_fines_250 k) ?_
      refine pw_l (fun _ _ _ _ k => pm_icmp_ne (tgt := 278) B9 dL_fines_251 (by decide) (fun h => absurd ((pw_fn3 hI h0)) h) (fun _ => k)) ?_
      refine pw_l (fun _ _ _ _ k => pm_aload_n B9 dL_fines_254 rfl k) ?_
      refine pw_l (fun _ _ _ _ k => pm_iload_n B9 dL_fines_255 rfl k) ?_
      refine pw_cSW (As := [.ref (z + 0), .int (nI n)]) (c2 := (18630 - (4 + 8 * 2 + 8 * 2326) + 0)) (s2 := (111780 - (24 + 8 * 12 + 8 * 13956) + 0)) B9 (pv_as (pv_L_share_n hI.1.2.1) (b_L_share hI)) mt_L_share ss_L_312 dL_fines_256 rfl rfl rfl (by omega) (by omega) ?_
      refine pw_l (fun _ _ _ _ k => pm_stk (st' := [.int (-11)]) rfl k) ?_
      refine pw_l (fun _ _ _ _ k => pm_bipush (v := (-11)) B9 dL_fines_259 (by decide) k) ?_
      refine pw_l (fun _ _ _ _ k => pm_icmp_ne (tgt := 278) B9 dL_fines_261 (by decide) (fun h => absurd (by decide) h) (fun _ => k)) ?_
      refine pw_l (fun _ _ _ _ k => pm_aload_n B9 dL_fines_264 rfl k) ?_
      refine pw_l (fun _ _ _ _ k => pm_iload_n B9 dL_fines_265 rfl k) ?_
      refine pw_cSW (As := [.ref (z + 0), .int (nI n)]) (c2 := (18630 - (6 + 8 * 2 + 8 * 2326) + 0)) (s2 := (111780 - (36 + 8 * 12 + 8 * 13956) + 0)) B9 (pv_as (pv_L_bySteps_n hI.1.2.1) (b_L_bySteps hI)) mt_L_bySteps ss_L_314 dL_fines_266 rfl rfl rfl (by omega) (by omega) ?_
      refine pw_l (fun _ _ _ _ k => pm_stk (st' := [.int (-11)]) rfl k) ?_
      refine pw_l (fun _ _ _ _ k => pm_bipush (v := (-11)) B9 dL_fines_269 (by decide) k) ?_
      refine pw_l (fun _ _ _ _ k => pm_icmp_ne (tgt := 278) B9 dL_fines_271 (by decide) (fun h => absurd (by decide) h) (fun _ => k)) ?_
      refine pw_l (fun _ _ _ _ k => pm_iconst (v := 1) B9 dL_fines_274 (by decide) k) ?_
      refine pw_l (fun _ _ _ _ k => pm_goto (tgt := 279) B9 dL_fines_275 (by decide) k) ?_
      exact fun cu su nx M h1 h2 hW => pm_ireturn B9 dL_fines_279 rfl (rfl) ⟨rfl, hW⟩ (Nat.ble_eq_true_of_le (by omega)) (Nat.ble_eq_true_of_le (by omega))
    have loop2 : ∀ k2 j2 : Nat, j2 + k2 = n → ∀ (a3_2 : Int32), a3_2 = (w_L_fines_2 n r 0 j2) → pw_J l z D X 18630 111780 (pm_Q z D (pw_P (some (.int 1)) (pw_W z kA kE (B, r, hs, u) ar)) 18630 111780 X) (pw_W z kA kE (B, r, hs, u) ar) (k2 * 2326 + (2326 + (18630 - (2 + 8 * 2 + 8 * 2326) + 0))) (k2 * 13956 + (13956 + (111780 - (12 + 8 * 12 + 8 * 13956) + 0))) 50 [some (.ref (z + 0)), some (.int (nI n)), some (.int (w_L_fines_1 r 0 1 n).1), some (.int a3_2), some (.int (w_L_fines_1 r 0 1 n).2), some (.int (nI j2)), none, none, none, none, none] [] := by
      intro k2
      induction k2 with
      | zero =>
        intro j2 hj2 a3_2 ea3_2
        have hjn2 : j2 = n := by omega
        refine pw_cr (c2 := (2326 - (0) + (18630 - (2 + 8 * 2 + 8 * 2326) + 0))) (s2 := (13956 - (0) + (111780 - (12 + 8 * 12 + 8 * 13956) + 0))) (by omega) (by omega) ?_
        refine pw_l (fun _ _ _ _ k => pm_iload B9 dL_fines_50 rfl k) ?_
        refine pw_l (fun _ _ _ _ k => pm_iload_n B9 dL_fines_52 rfl k) ?_
        refine pw_l (fun _ _ _ _ k => pm_icmp_ge (tgt := 246) B9 dL_fines_53 (by decide) (fun _ => k) (fun h => absurd ((by rw [show (nI n) = nI n from rfl, show (nI j2) = nI j2 from rfl]; exact (nI_leI (by omega) (by omega)).mpr (by omega))) h)) ?_
        refine pw_l (fun _ _ _ _ k => pm_wk (L' := [some (.ref (z + 0)), some (.int (nI n)), some (.int (w_L_fines_1 r 0 1 n).1), some (.int a3_2), some (.int (w_L_fines_1 r 0 1 n).2), none, none, none, none, none, none]) ⟨rfl, ⟨rfl, ⟨rfl, ⟨rfl, ⟨rfl, trivial⟩⟩⟩⟩⟩ k) ?_
        exact pw_cr (by omega) (by omega) (pw_eq (by first | with_reducible rfl | simp only [ea3_2, hjn2]) (by first | with_reducible rfl | simp only [ea3_2, hjn2]) rfl hx2)
      | succ k2 ih2 =>
        intro j2 hj2 a3_2 ea3_2
        have hjn2 : j2 < n := by omega
        refine pw_cr (c2 := (2326 - (0) + (k2 * 2326 + (2326 + (18630 - (2 + 8 * 2 + 8 * 2326) + 0))))) (s2 := (13956 - (0) + (k2 * 13956 + (13956 + (111780 - (12 + 8 * 12 + 8 * 13956) + 0))))) (by rw [Nat.succ_mul]; omega) (by rw [Nat.succ_mul]; omega) ?_
        refine pw_l (fun _ _ _ _ k => pm_iload B9 dL_fines_50 rfl k) ?_
        refine pw_l (fun _ _ _ _ k => pm_iload_n B9 dL_fines_52 rfl k) ?_
        refine pw_l (fun _ _ _ _ k => pm_icmp_ge (tgt := 246) B9 dL_fines_53 (by decide) (fun h => absurd h ((by rw [show (nI n) = nI n from rfl, show (nI j2) = nI j2 from rfl]; exact fun e => absurd ((nI_leI (by omega) (by omega)).mp e) (by omega)))) (fun _ => k)) ?_
        refine pw_l (fun _ _ _ _ k => pm_iconst (v := 0) B9 dL_fines_56 (by decide) k) ?_
        refine pw_l (fun _ _ _ _ k => pm_istore B9 dL_fines_57 rfl rfl k) ?_
        refine pw_l (fun _ _ _ _ k => pm_loc (L' := [some (.ref (z + 0)), some (.int (nI n)), some (.int (w_L_fines_1 r 0 1 n).1), some (.int a3_2), some (.int (w_L_fines_1 r 0 1 n).2), some (.int (nI j2)), some (.int 0), none, none, none, none]) rfl k) ?_
        refine pw_l (fun _ _ _ _ k => pm_iconst (v := 0) B9 dL_fines_59 (by decide) k) ?_
        refine pw_l (fun _ _ _ _ k => pm_istore B9 dL_fines_60 rfl rfl k) ?_
        refine pw_l (fun _ _ _ _ k => pm_loc (L' := [some (.ref (z + 0)), some (.int (nI n)), some (.int (w_L_fines_1 r 0 1 n).1), some (.int a3_2), some (.int (w_L_fines_1 r 0 1 n).2), some (.int (nI j2)), some (.int 0), some (.int 0), none, none, none]) rfl k) ?_
        refine pw_l (fun _ _ _ _ k => pm_loc (L' := [some (.ref (z + 0)), some (.int (nI n)), some (.int (w_L_fines_1 r 0 1 n).1), some (.int a3_2), some (.int (w_L_fines_1 r 0 1 n).2), some (.int (nI j2)), some (.int 0), some (.int (nI 0)), none, none, none]) (congrArg (fun yy : Int32 => ([some (.ref (z + 0)), some (.int (nI n)), some (.int (w_L_fines_1 r 0 1 n).1), some (.int a3_2), some (.int (w_L_fines_1 r 0 1 n).2), some (.int (nI j2)), some (.int 0), some (.int yy), none, none, none] : List (Option Value))) rfl) k) ?_
        have hx3 : pw_J l z D X 18630 111780 (pm_Q z D (pw_P (some (.int 1)) (pw_W z kA kE (B, r, hs, u) ar)) 18630 111780 X) (pw_W z kA kE (B, r, hs, u) ar) (2326 - (129 * 18) + (k2 * 2326 + (2326 + (18630 - (2 + 8 * 2 + 8 * 2326) + 0)))) (13956 - (129 * 108) + (k2 * 13956 + (13956 + (111780 - (12 + 8 * 12 + 8 * 13956) + 0)))) 211 [some (.ref (z + 0)), some (.int (nI n)), some (.int (w_L_fines_1 r 0 1 n).1), some (.int a3_2), some (.int (w_L_fines_1 r 0 1 n).2), some (.int (nI j2)), some (.int (w_L_fines_3 n r j2 0 (2 ^ n))), none, none, none, none] [] := by
          refine pw_l (fun _ _ _ _ k => pm_iload_n B9 dL_fines_211 rfl k) ?_
          refine pw_l (fun _ _ _ _ k => pm_iload B9 dL_fines_212 rfl k) ?_
          refine pw_l (fun _ _ _ _ k => pm_iadd B9 dL_fines_214 k) ?_
          refine pw_l (fun _ _ _ _ k => pm_istore_n B9 dL_fines_215 rfl rfl k) ?_
          refine pw_l (fun _ _ _ _ k => pm_loc (L' := [some (.ref (z + 0)), some (.int (nI n)), some (.int (w_L_fines_1 r 0 1 n).1), some (.int (a3_2 + (w_L_fines_3 n r j2 0 (2 ^ n)))), some (.int (w_L_fines_1 r 0 1 n).2), some (.int (nI j2)), some (.int (w_L_fines_3 n r j2 0 (2 ^ n))), none, none, none, none]) rfl k) ?_
          refine pw_l (fun _ _ _ _ k => pm_aload_n B9 dL_fines_216 rfl k) ?_
          refine pw_l (fun _ _ _ _ k => pm_iload B9 dL_fines_217 rfl k) ?_
          refine pw_cSW (As := [.ref (z + 0), .int (nI j2)]) (c2 := (2326 - (2 + 129 * 18) + (k2 * 2326 + (2326 + (18630 - (2 + 8 * 2 + 8 * 2326) + 0))))) (s2 := (13956 - (12 + 129 * 108) + (k2 * 13956 + (13956 + (111780 - (12 + 8 * 12 + 8 * 13956) + 0))))) B9 (pv_as (pv_L_share_in (i := j2) (by omega) hI.1.2.1) (b_L_share hI)) mt_L_share ss_L_312 dL_fines_219 rfl rfl rfl (by omega) (by omega) ?_
          refine pw_l (fun _ _ _ _ k => pm_stk (st' := [.int (pw_sh n r j2)]) rfl k) ?_
          refine pw_l (fun _ _ _ _ k => pm_iload B9 dL_fines_222 rfl k) ?_
          refine pw_l (fun _ _ _ _ k => pm_icmp_ne (tgt := 238) B9 dL_fines_224 (by decide) (fun h => absurd ((pw_fn1 hI (by omega))) h) (fun _ => k)) ?_
          refine pw_l (fun _ _ _ _ k => pm_aload_n B9 dL_fines_227 rfl k) ?_
          refine pw_l (fun _ _ _ _ k => pm_iload B9 dL_fines_228 rfl k) ?_
          refine pw_cSW (As := [.ref (z + 0), .int (nI j2)]) (c2 := (2326 - (4 + 129 * 18) + (k2 * 2326 + (2326 + (18630 - (2 + 8 * 2 + 8 * 2326) + 0))))) (s2 := (13956 - (24 + 129 * 108) + (k2 * 13956 + (13956 + (111780 - (12 + 8 * 12 + 8 * 13956) + 0))))) B9 (pv_as (pv_L_bySteps_in (i := j2) (by omega) hI.1.2.1) (b_L_bySteps hI)) mt_L_bySteps ss_L_314 dL_fines_230 rfl rfl rfl (by omega) (by omega) ?_
          refine pw_l (fun _ _ _ _ k => pm_stk (st' := [.int (pw_sh n r j2)]) rfl k) ?_
          refine pw_l (fun _ _ _ _ k => pm_iload B9 dL_fines_233 rfl k) ?_
          refine pw_l (fun _ _ _ _ k => pm_icmp_eq (tgt := 240) B9 dL_fines_235 (by decide) (fun _ => k) (fun h => absurd ((pw_fn1 hI (by omega))) h)) ?_
          refine pw_l (fun _ _ _ _ k => pm_iinc B9 dL_fines_240 rfl rfl rfl k) ?_
          refine pw_l (fun _ _ _ _ k => pm_loc (L' := [some (.ref (z + 0)), some (.int (nI n)), some (.int (w_L_fines_1 r 0 1 n).1), some (.int (a3_2 + (w_L_fines_3 n r j2 0 (2 ^ n)))), some (.int (w_L_fines_1 r 0 1 n).2), some (.int (nI (j2 + 1))), some (.int (w_L_fines_3 n r j2 0 (2 ^ n))), none, none, none, none]) (by rw [show ((nI j2) : Int32) + Int32.ofInt 1 = (nI (j2 + 1)) from nI_1 _]; rfl) k) ?_
          refine pw_l (fun _ _ _ _ k => pm_goto (tgt := 50) B9 dL_fines_243 (by decide) k) ?_
          refine pw_l (fun _ _ _ _ k => pm_wk (L' := [some (.ref (z + 0)), some (.int (nI n)), some (.int (w_L_fines_1 r 0 1 n).1), some (.int (a3_2 + (w_L_fines_3 n r j2 0 (2 ^ n)))), some (.int (w_L_fines_1 r 0 1 n).2), some (.int (nI (j2 + 1))), none, none, none, none, none]) ⟨rfl, ⟨rfl, ⟨rfl, ⟨rfl, ⟨rfl, ⟨rfl, trivial⟩⟩⟩⟩⟩⟩ k) ?_
          exact pw_cr (by omega) (by omega) (ih2 (j2 + 1) (by omega) _ (by subst ea3_2; first | rfl))
        have loop3 : ∀ k3 j3 : Nat, j3 + k3 = (2 ^ n) → ∀ (a6_3 : Int32), a6_3 = (w_L_fines_3 n r j2 0 j3) → pw_J l z D X 18630 111780 (pm_Q z D (pw_P (some (.int 1)) (pw_W z kA kE (B, r, hs, u) ar)) 18630 111780 X) (pw_W z kA kE (B, r, hs, u) ar) (k3 * 18 + (18 + (2326 - (129 * 18) + (k2 * 2326 + (2326 + (18630 - (2 + 8 * 2 + 8 * 2326) + 0)))))) (k3 * 108 + (108 + (13956 - (129 * 108) + (k2 * 13956 + (13956 + (111780 - (12 + 8 * 12 + 8 * 13956) + 0)))))) 62 [some (.ref (z + 0)), some (.int (nI n)), some (.int (w_L_fines_1 r 0 1 n).1), some (.int a3_2), some (.int (w_L_fines_1 r 0 1 n).2), some (.int (nI j2)), some (.int a6_3), some (.int (nI j3)), none, none, none] [] := by
          intro k3
          induction k3 with
          | zero =>
            intro j3 hj3 a6_3 ea6_3
            have hjn3 : j3 = (2 ^ n) := by omega
            refine pw_cr (c2 := (18 - (0) + (2326 - (129 * 18) + (k2 * 2326 + (2326 + (18630 - (2 + 8 * 2 + 8 * 2326) + 0)))))) (s2 := (108 - (0) + (13956 - (129 * 108) + (k2 * 13956 + (13956 + (111780 - (12 + 8 * 12 + 8 * 13956) + 0)))))) (by omega) (by omega) ?_
            refine pw_l (fun _ _ _ _ k => pm_iload B9 dL_fines_62 rfl k) ?_
            refine pw_l (fun _ _ _ _ k => pm_iconst (v := 1) B9 dL_fines_64 (by decide) k) ?_
            refine pw_l (fun _ _ _ _ k => pm_iload_n B9 dL_fines_65 rfl k) ?_
            refine pw_l (fun _ _ _ _ k => pm_ishl B9 dL_fines_66 k) ?_
            refine pw_l (fun _ _ _ _ k => pm_stk (st' := [.int (nI (2 ^ n)), .int (nI j3)]) (congrArg (fun yy : Int32 => ([.int yy, .int (nI j3)] : List Value)) (show (1 <<< ((nI n) &&& 31)) = (nI (2 ^ n)) from pm_sh1 n h7)) k) ?_
            refine pw_l (fun _ _ _ _ k => pm_icmp_ge (tgt := 211) B9 dL_fines_67 (by decide) (fun _ => k) (fun h => absurd ((by rw [show (nI (2 ^ n)) = nI (2 ^ n) from rfl, show (nI j3) = nI j3 from rfl]; exact (nI_leI (by omega) (by omega)).mpr (by omega))) h)) ?_
            refine pw_l (fun _ _ _ _ k => pm_wk (L' := [some (.ref (z + 0)), some (.int (nI n)), some (.int (w_L_fines_1 r 0 1 n).1), some (.int a3_2), some (.int (w_L_fines_1 r 0 1 n).2), some (.int (nI j2)), some (.int a6_3), none, none, none, none]) ⟨rfl, ⟨rfl, ⟨rfl, ⟨rfl, ⟨rfl, ⟨rfl, ⟨rfl, trivial⟩⟩⟩⟩⟩⟩⟩ k) ?_
            exact pw_cr (by omega) (by omega) (pw_eq (by first | with_reducible rfl | simp only [ea6_3, hjn3]) (by first | with_reducible rfl | simp only [ea6_3, hjn3]) rfl hx3)
          | succ k3 ih3 =>
            intro j3 hj3 a6_3 ea6_3
            have hjn3 : j3 < (2 ^ n) := by omega
            refine pw_cr (c2 := (18 - (0) + (k3 * 18 + (18 + (2326 - (129 * 18) + (k2 * 2326 + (2326 + (18630 - (2 + 8 * 2 + 8 * 2326) + 0)))))))) (s2 := (108 - (0) + (k3 * 108 + (108 + (13956 - (129 * 108) + (k2 * 13956 + (13956 + (111780 - (12 + 8 * 12 + 8 * 13956) + 0)))))))) (by rw [Nat.succ_mul]; omega) (by rw [Nat.succ_mul]; omega) ?_
            refine pw_l (fun _ _ _ _ k => pm_iload B9 dL_fines_62 rfl k) ?_
            refine pw_l (fun _ _ _ _ k => pm_iconst (v := 1) B9 dL_fines_64 (by decide) k) ?_
            refine pw_l (fun _ _ _ _ k => pm_iload_n B9 dL_fines_65 rfl k) ?_
            refine pw_l (fun _ _ _ _ k => pm_ishl B9 dL_fines_66 k) ?_
            refine pw_l (fun _ _ _ _ k => pm_stk (st' := [.int (nI (2 ^ n)), .int (nI j3)]) (congrArg (fun yy : Int32 => ([.int yy, .int (nI j3)] : List Value)) (show (1 <<< ((nI n) &&& 31)) = (nI (2 ^ n)) from pm_sh1 n h7)) k) ?_
            refine pw_l (fun _ _ _ _ k => pm_icmp_ge (tgt := 211) B9 dL_fines_67 (by decide) (fun h => absurd h ((by rw [show (nI (2 ^ n)) = nI (2 ^ n) from rfl, show (nI j3) = nI j3 from rfl]; exact fun e => absurd ((nI_leI (by omega) (by omega)).mp e) (by omega)))) (fun _ => k)) ?_
            refine pw_l (fun _ _ _ _ k => pm_iload B9 dL_fines_70 rfl k) ?_
            refine pw_l (fun _ _ _ _ k => pm_iload B9 dL_fines_72 rfl k) ?_
            refine pw_l (fun _ _ _ _ k => pm_ishr B9 dL_fines_74 k) ?_
            refine pw_l (fun _ _ _ _ k => pm_iconst (v := 1) B9 dL_fines_75 (by decide) k) ?_
            refine pw_l (fun _ _ _ _ k => pm_iand B9 dL_fines_76 k) ?_
            refine pw_l2 (fun _ _ _ _ k1 k2 => pm_if_ne (tgt := 205) B9 dL_fines_77 (by decide) k1 k2) (fun hq10 => ?_) (fun hq10 => ?_)
            · refine pw_l (fun _ _ _ _ k => pm_iinc B9 dL_fines_205 rfl rfl rfl k) ?_
              refine pw_l (fun _ _ _ _ k => pm_loc (L' := [some (.ref (z + 0)), some (.int (nI n)), some (.int (w_L_fines_1 r 0 1 n).1), some (.int a3_2), some (.int (w_L_fines_1 r 0 1 n).2), some (.int (nI j2)), some (.int a6_3), some (.int (nI (j3 + 1))), none, none, none]) (by rw [show ((nI j3) : Int32) + Int32.ofInt 1 = (nI (j3 + 1)) from nI_1 _]; rfl) k) ?_
              refine pw_l (fun _ _ _ _ k => pm_goto (tgt := 62) B9 dL_fines_208 (by decide) k) ?_
              exact pw_cr (by omega) (by omega) (ih3 (j3 + 1) (by omega) _ (by subst ea6_3; first | rfl | exact (if_neg hq10).symm | simp only [w_L_fines_3, if_neg hq10]))
            · refine pw_l (fun _ _ _ _ k => pm_iconst (v := 0) B9 dL_fines_80 (by decide) k) ?_
              refine pw_l (fun _ _ _ _ k => pm_istore B9 dL_fines_81 rfl rfl k) ?_
              refine pw_l (fun _ _ _ _ k => pm_loc (L' := [some (.ref (z + 0)), some (.int (nI n)), some (.int (w_L_fines_1 r 0 1 n).1), some (.int a3_2), some (.int (w_L_fines_1 r 0 1 n).2), some (.int (nI j2)), some (.int a6_3), some (.int (nI j3)), some (.int 0), none, none]) rfl k) ?_
              refine pw_l (fun _ _ _ _ k => pm_iconst (v := 1) B9 dL_fines_83 (by decide) k) ?_
              refine pw_l (fun _ _ _ _ k => pm_istore B9 dL_fines_84 rfl rfl k) ?_
              refine pw_l (fun _ _ _ _ k => pm_loc (L' := [some (.ref (z + 0)), some (.int (nI n)), some (.int (w_L_fines_1 r 0 1 n).1), some (.int a3_2), some (.int (w_L_fines_1 r 0 1 n).2), some (.int (nI j2)), some (.int a6_3), some (.int (nI j3)), some (.int 0), some (.int 1), none]) rfl k) ?_
              refine pw_l (fun _ _ _ _ k => pm_iconst (v := 0) B9 dL_fines_86 (by decide) k) ?_
              refine pw_l (fun _ _ _ _ k => pm_istore B9 dL_fines_87 rfl rfl k) ?_
              refine pw_l (fun _ _ _ _ k => pm_loc (L' := [some (.ref (z + 0)), some (.int (nI n)), some (.int (w_L_fines_1 r 0 1 n).1), some (.int a3_2), some (.int (w_L_fines_1 r 0 1 n).2), some (.int (nI j2)), some (.int a6_3), some (.int (nI j3)), some (.int 0), some (.int 1), some (.int 0)]) rfl k) ?_
              refine pw_l (fun _ _ _ _ k => pm_loc (L' := [some (.ref (z + 0)), some (.int (nI n)), some (.int (w_L_fines_1 r 0 1 n).1), some (.int a3_2), some (.int (w_L_fines_1 r 0 1 n).2), some (.int (nI j2)), some (.int a6_3), some (.int (nI j3)), some (.int 0), some (.int 1), some (.int (nI 0))]) (congrArg (fun yy : Int32 => ([some (.ref (z + 0)), some (.int (nI n)), some (.int (w_L_fines_1 r 0 1 n).1), some (.int a3_2), some (.int (w_L_fines_1 r 0 1 n).2), some (.int (nI j2)), some (.int a6_3), some (.int (nI j3)), some (.int 0), some (.int 1), some (.int yy)] : List (Option Value))) rfl) k) ?_
              have hx4 : pw_J l z D X 18630 111780 (pm_Q z D (pw_P (some (.int 1)) (pw_W z kA kE (B, r, hs, u) ar)) 18630 111780 X) (pw_W z kA kE (B, r, hs, u) ar) (18 - (8 * 2) + (k3 * 18 + (18 + (2326 - (129 * 18) + (k2 * 2326 + (2326 + (18630 - (2 + 8 * 2 + 8 * 2326) + 0))))))) (108 - (8 * 12) + (k3 * 108 + (108 + (13956 - (129 * 108) + (k2 * 13956 + (13956 + (111780 - (12 + 8 * 12 + 8 * 13956) + 0))))))) 130 [some (.ref (z + 0)), some (.int (nI n)), some (.int (w_L_fines_1 r 0 1 n).1), some (.int a3_2), some (.int (w_L_fines_1 r 0 1 n).2), some (.int (nI j2)), some (.int a6_3), some (.int (nI j3)), some (.int (w_L_fines_4 r j3 0 n)), some (.int 1), none] [] := by
                have hp7 : pm_pc j3 7 ≤ 7 := pn_pc7 _ (by omega)
                refine pw_l (fun _ _ _ _ k => pm_iconst (v := 2) B9 dL_fines_130 (by decide) k) ?_
                refine pw_l (fun _ _ _ _ k => pm_istore B9 dL_fines_131 rfl rfl k) ?_
                refine pw_l (fun _ _ _ _ k => pm_loc (L' := [some (.ref (z + 0)), some (.int (nI n)), some (.int (w_L_fines_1 r 0 1 n).1), some (.int a3_2), some (.int (w_L_fines_1 r 0 1 n).2), some (.int (nI j2)), some (.int a6_3), some (.int (nI j3)), some (.int (w_L_fines_4 r j3 0 n)), some (.int 1), some (.int 2)]) rfl k) ?_
                refine pw_l (fun _ _ _ _ k => pm_loc (L' := [some (.ref (z + 0)), some (.int (nI n)), some (.int (w_L_fines_1 r 0 1 n).1), some (.int a3_2), some (.int (w_L_fines_1 r 0 1 n).2), some (.int (nI j2)), some (.int a6_3), some (.int (nI j3)), some (.int (w_L_fines_4 r j3 0 n)), some (.int 1), some (.int (nI 2))]) (congrArg (fun yy : Int32 => ([some (.ref (z + 0)), some (.int (nI n)), some (.int (w_L_fines_1 r 0 1 n).1), some (.int a3_2), some (.int (w_L_fines_1 r 0 1 n).2), some (.int (nI j2)), some (.int a6_3), some (.int (nI j3)), some (.int (w_L_fines_4 r j3 0 n)), some (.int 1), some (.int yy)] : List (Option Value))) rfl) k) ?_
                have hx5 : pw_J l z D X 18630 111780 (pm_Q z D (pw_P (some (.int 1)) (pw_W z kA kE (B, r, hs, u) ar)) 18630 111780 X) (pw_W z kA kE (B, r, hs, u) ar) (18 - (8 * 2 + 8 * 0) + (k3 * 18 + (18 + (2326 - (129 * 18) + (k2 * 2326 + (2326 + (18630 - (2 + 8 * 2 + 8 * 2326) + 0))))))) (108 - (8 * 12 + 8 * 0) + (k3 * 108 + (108 + (13956 - (129 * 108) + (k2 * 13956 + (13956 + (111780 - (12 + 8 * 12 + 8 * 13956) + 0))))))) 156 [some (.ref (z + 0)), some (.int (nI n)), some (.int (w_L_fines_1 r 0 1 n).1), some (.int a3_2), some (.int (w_L_fines_1 r 0 1 n).2), some (.int (nI j2)), some (.int a6_3), some (.int (nI j3)), some (.int (w_L_fines_4 r j3 0 n)), some (.int (w_L_fines_5  1 (pm_pc j3 7 - 1))), none] [] := by
                  refine pw_l (fun _ _ _ _ k => pm_iconst (v := 2) B9 dL_fines_156 (by decide) k) ?_
                  refine pw_l (fun _ _ _ _ k => pm_istore B9 dL_fines_157 rfl rfl k) ?_
                  refine pw_l (fun _ _ _ _ k => pm_loc (L' := [some (.ref (z + 0)), some (.int (nI n)), some (.int (w_L_fines_1 r 0 1 n).1), some (.int a3_2), some (.int (w_L_fines_1 r 0 1 n).2), some (.int (nI j2)), some (.int a6_3), some (.int (nI j3)), some (.int (w_L_fines_4 r j3 0 n)), some (.int (w_L_fines_5  1 (pm_pc j3 7 - 1))), some (.int 2)]) rfl k) ?_
                  refine pw_l (fun _ _ _ _ k => pm_loc (L' := [some (.ref (z + 0)), some (.int (nI n)), some (.int (w_L_fines_1 r 0 1 n).1), some (.int a3_2), some (.int (w_L_fines_1 r 0 1 n).2), some (.int (nI j2)), some (.int a6_3), some (.int (nI j3)), some (.int (w_L_fines_4 r j3 0 n)), some (.int (w_L_fines_5  1 (pm_pc j3 7 - 1))), some (.int (nI 2))]) (congrArg (fun yy : Int32 => ([some (.ref (z + 0)), some (.int (nI n)), some (.int (w_L_fines_1 r 0 1 n).1), some (.int a3_2), some (.int (w_L_fines_1 r 0 1 n).2), some (.int (nI j2)), some (.int a6_3), some (.int (nI j3)), some (.int (w_L_fines_4 r j3 0 n)), some (.int (w_L_fines_5  1 (pm_pc j3 7 - 1))), some (.int yy)] : List (Option Value))) rfl) k) ?_
                  have hx6 : pw_J l z D X 18630 111780 (pm_Q z D (pw_P (some (.int 1)) (pw_W z kA kE (B, r, hs, u) ar)) 18630 111780 X) (pw_W z kA kE (B, r, hs, u) ar) (18 - (8 * 2 + 8 * 0 + 8 * 0) + (k3 * 18 + (18 + (2326 - (129 * 18) + (k2 * 2326 + (2326 + (18630 - (2 + 8 * 2 + 8 * 2326) + 0))))))) (108 - (8 * 12 + 8 * 0 + 8 * 0) + (k3 * 108 + (108 + (13956 - (129 * 108) + (k2 * 13956 + (13956 + (111780 - (12 + 8 * 12 + 8 * 13956) + 0))))))) 184 [some (.ref (z + 0)), some (.int (nI n)), some (.int (w_L_fines_1 r 0 1 n).1), some (.int a3_2), some (.int (w_L_fines_1 r 0 1 n).2), some (.int (nI j2)), some (.int a6_3), some (.int (nI j3)), some (.int (w_L_fines_4 r j3 0 n)), some (.int (w_L_fines_6  (w_L_fines_5  1 (pm_pc j3 7 - 1)) (n - pm_pc j3 7 - 2))), none] [] := by
                    refine pw_l (fun _ _ _ _ k => pm_iload B9 dL_fines_184 rfl k) ?_
                    refine pw_l (fun _ _ _ _ k => pm_iload B9 dL_fines_186 rfl k) ?_
                    refine pw_l (fun _ _ _ _ k => pm_iconst (v := 0) B9 dL_fines_188 (by decide) k) ?_
                    refine pw_l (fun _ _ _ _ k => pm_aload_n B9 dL_fines_189 rfl k) ?_
                    refine pw_l (fun _ _ _ _ k => pm_iload B9 dL_fines_190 rfl k) ?_
                    refine pw_cV (As := [.int (nI j2)]) (c2 := (18 - (2 + 8 * 2 + 8 * 0 + 8 * 0) + (k3 * 18 + (18 + (2326 - (129 * 18) + (k2 * 2326 + (2326 + (18630 - (2 + 8 * 2 + 8 * 2326) + 0)))))))) (s2 := (108 - (12 + 8 * 12 + 8 * 0 + 8 * 0) + (k3 * 108 + (108 + (13956 - (129 * 108) + (k2 * 13956 + (13956 + (111780 - (12 + 8 * 12 + 8 * 13956) + 0)))))))) B9 (fun _ _ hW => pw_0 hW) rfl (a_X12_excess hI (i := j2) (by omega)) mt_X12_excess sv_L_64 dL_fines_192 rfl rfl rfl (by omega) (by omega) ?_
                    refine pw_l (fun _ _ _ _ k => pm_stk (st' := [.int (pw_xs r j2), .int 0, .int (w_L_fines_6  (w_L_fines_5  1 (pm_pc j3 7 - 1)) (n - pm_pc j3 7 - 2)), .int a6_3]) rfl k) ?_
                    refine pw_l (fun _ _ _ _ k => pm_iload B9 dL_fines_195 rfl k) ?_
                    refine pw_l (fun _ _ _ _ k => pm_isub B9 dL_fines_197 k) ?_
                    refine pw_lb (fun _ _ _ _ hc hs k => pm_mmax B9 dL_fines_198 (pm_T_in 875 (by decide +kernel) (by decide +kernel)) rfl rfl (Nat.ble_eq_true_of_le hc) (Nat.ble_eq_true_of_le hs) k) ?_
                    refine pw_l (fun _ _ _ _ k => pm_imul B9 dL_fines_201 k) ?_
                    refine pw_l (fun _ _ _ _ k => pm_iadd B9 dL_fines_202 k) ?_
                    refine pw_l (fun _ _ _ _ k => pm_istore B9 dL_fines_203 rfl rfl k) ?_
                    refine pw_l (fun _ _ _ _ k => pm_loc (L' := [some (.ref (z + 0)), some (.int (nI n)), some (.int (w_L_fines_1 r 0 1 n).1), some (.int a3_2), some (.int (w_L_fines_1 r 0 1 n).2), some (.int (nI j2)), some (.int (a6_3 + ((w_L_fines_6  (w_L_fines_5  1 (pm_pc j3 7 - 1)) (n - pm_pc j3 7 - 2)) * (pm_max 0 ((pw_xs r j2) - (w_L_fines_4 r j3 0 n)))))), some (.int (nI j3)), some (.int (w_L_fines_4 r j3 0 n)), some (.int (w_L_fines_6  (w_L_fines_5  1 (pm_pc j3 7 - 1)) (n - pm_pc j3 7 - 2))), none]) rfl k) ?_
                    refine pw_l (fun _ _ _ _ k => pm_iinc B9 dL_fines_205 rfl rfl rfl k) ?_
                    refine pw_l (fun _ _ _ _ k => pm_loc (L' := [some (.ref (z + 0)), some (.int (nI n)), some (.int (w_L_fines_1 r 0 1 n).1), some (.int a3_2), some (.int (w_L_fines_1 r 0 1 n).2), some (.int (nI j2)), some (.int (a6_3 + ((w_L_fines_6  (w_L_fines_5  1 (pm_pc j3 7 - 1)) (n - pm_pc j3 7 - 2)) * (pm_max 0 ((pw_xs r j2) - (w_L_fines_4 r j3 0 n)))))), some (.int (nI (j3 + 1))), some (.int (w_L_fines_4 r j3 0 n)), some (.int (w_L_fines_6  (w_L_fines_5  1 (pm_pc j3 7 - 1)) (n - pm_pc j3 7 - 2))), none]) (by rw [show ((nI j3) : Int32) + Int32.ofInt 1 = (nI (j3 + 1)) from nI_1 _]; rfl) k) ?_
                    refine pw_l (fun _ _ _ _ k => pm_goto (tgt := 62) B9 dL_fines_208 (by decide) k) ?_
                    refine pw_l (fun _ _ _ _ k => pm_wk (L' := [some (.ref (z + 0)), some (.int (nI n)), some (.int (w_L_fines_1 r 0 1 n).1), some (.int a3_2), some (.int (w_L_fines_1 r 0 1 n).2), some (.int (nI j2)), some (.int (a6_3 + ((w_L_fines_6  (w_L_fines_5  1 (pm_pc j3 7 - 1)) (n - pm_pc j3 7 - 2)) * (pm_max 0 ((pw_xs r j2) - (w_L_fines_4 r j3 0 n)))))), some (.int (nI (j3 + 1))), none, none, none]) ⟨rfl, ⟨rfl, ⟨rfl, ⟨rfl, ⟨rfl, ⟨rfl, ⟨rfl, ⟨rfl, trivial⟩⟩⟩⟩⟩⟩⟩⟩ k) ?_
                    exact pw_cr (by omega) (by omega) (ih3 (j3 + 1) (by omega) _ (by subst ea6_3; first | rfl | exact (if_pos hq10).symm | simp only [w_L_fines_3, if_pos hq10]))
                  have loop6 : ∀ k6 j6 : Nat, j6 + k6 = (n - pm_pc j3 7 - 2) → ∀ (a9_6 : Int32), a9_6 = (w_L_fines_6  (w_L_fines_5  1 (pm_pc j3 7 - 1)) j6) → pw_J l z D X 18630 111780 (pm_Q z D (pw_P (some (.int 1)) (pw_W z kA kE (B, r, hs, u) ar)) 18630 111780 X) (pw_W z kA kE (B, r, hs, u) ar) (k6 * 0 + (0 + (18 - (8 * 2 + 8 * 0 + 8 * 0) + (k3 * 18 + (18 + (2326 - (129 * 18) + (k2 * 2326 + (2326 + (18630 - (2 + 8 * 2 + 8 * 2326) + 0))))))))) (k6 * 0 + (0 + (108 - (8 * 12 + 8 * 0 + 8 * 0) + (k3 * 108 + (108 + (13956 - (129 * 108) + (k2 * 13956 + (13956 + (111780 - (12 + 8 * 12 + 8 * 13956) + 0))))))))) 159 [some (.ref (z + 0)), some (.int (nI n)), some (.int (w_L_fines_1 r 0 1 n).1), some (.int a3_2), some (.int (w_L_fines_1 r 0 1 n).2), some (.int (nI j2)), some (.int a6_3), some (.int (nI j3)), some (.int (w_L_fines_4 r j3 0 n)), some (.int a9_6), some (.int (nI (2 + j6)))] [] := by
                    intro k6
                    induction k6 with
                    | zero =>
                      intro j6 hj6 a9_6 ea9_6
                      have hjn6 : j6 = (n - pm_pc j3 7 - 2) := by omega
                      refine pw_cr (c2 := (0 - (0) + (18 - (8 * 2 + 8 * 0 + 8 * 0) + (k3 * 18 + (18 + (2326 - (129 * 18) + (k2 * 2326 + (2326 + (18630 - (2 + 8 * 2 + 8 * 2326) + 0))))))))) (s2 := (0 - (0) + (108 - (8 * 12 + 8 * 0 + 8 * 0) + (k3 * 108 + (108 + (13956 - (129 * 108) + (k2 * 13956 + (13956 + (111780 - (12 + 8 * 12 + 8 * 13956) + 0))))))))) (by omega) (by omega) ?_
                      refine pw_l (fun _ _ _ _ k => pm_iload B9 dL_fines_159 rfl k) ?_
                      refine pw_l (fun _ _ _ _ k => pm_iload_n B9 dL_fines_161 rfl k) ?_
                      refine pw_l (fun _ _ _ _ k => pm_iload B9 dL_fines_162 rfl k) ?_
                      refine pw_lb (fun _ _ _ _ hc hs k => pm_cS (As := [.int (nI j3)]) (mc2 := 0) (ms2 := 0) B9 c_J6_bitCount_0f7a4 mt_J6_bitCount_0f7a4 ss_L_270 dL_fines_164 rfl rfl rfl (Nat.ble_eq_true_of_le hc) (Nat.ble_eq_true_of_le hs) k) ?_
                      refine pw_l (fun _ _ _ _ k => pm_stk (st' := [.int (pm_bc (nI j3)), .int (nI n), .int (nI (2 + j6))]) rfl k) ?_
                      refine pw_l (fun _ _ _ _ k => pm_stk (st' := [.int (nI (pm_pc j3 7)), .int (nI n), .int (nI (2 + j6))]) (congrArg (fun yy : Int32 => ([.int yy, .int (nI n), .int (nI (2 + j6))] : List Value)) (show (pm_bc (nI j3)) = (nI (pm_pc j3 7)) from (pm_bcN _ (by omega)))) k) ?_
                      refine pw_l (fun _ _ _ _ k => pm_isub B9 dL_fines_167 k) ?_
                      refine pw_l (fun _ _ _ _ k => pm_stk (st' := [.int (nI (n - pm_pc j3 7)), .int (nI (2 + j6))]) (congrArg (fun yy : Int32 => ([.int yy, .int (nI (2 + j6))] : List Value)) (show ((nI n) - (nI (pm_pc j3 7))) = (nI (n - pm_pc j3 7)) from (pq_sub (pw_pcn h7 hjn3)))) k) ?_
                      refine pw_l (fun _ _ _ _ k => pm_icmp_ge (tgt := 184) B9 dL_fines_168 (by decide) (fun _ => k) (fun h => absurd ((by rw [show (nI (n - pm_pc j3 7)) = nI (n - pm_pc j3 7) from rfl, show (nI (2 + j6)) = nI (2 + j6) from rfl]; exact (nI_leI (by omega) (by omega)).mpr (by omega))) h)) ?_
                      refine pw_l (fun _ _ _ _ k => pm_wk (L' := [some (.ref (z + 0)), some (.int (nI n)), some (.int (w_L_fines_1 r 0 1 n).1), some (.int a3_2), some (.int (w_L_fines_1 r 0 1 n).2), some (.int (nI j2)), some (.int a6_3), some (.int (nI j3)), some (.int (w_L_fines_4 r j3 0 n)), some (.int a9_6), none]) ⟨rfl, ⟨rfl, ⟨rfl, ⟨rfl, ⟨rfl, ⟨rfl, ⟨rfl, ⟨rfl, ⟨rfl, ⟨rfl, trivial⟩⟩⟩⟩⟩⟩⟩⟩⟩⟩ k) ?_
                      exact pw_cr (by omega) (by omega) (pw_eq (by first | with_reducible rfl | simp only [ea9_6, hjn6]) (by first | with_reducible rfl | simp only [ea9_6, hjn6]) rfl hx6)
                    | succ k6 ih6 =>
                      intro j6 hj6 a9_6 ea9_6
                      have hjn6 : j6 < (n - pm_pc j3 7 - 2) := by omega
                      refine pw_cr (c2 := (0 - (0) + (k6 * 0 + (0 + (18 - (8 * 2 + 8 * 0 + 8 * 0) + (k3 * 18 + (18 + (2326 - (129 * 18) + (k2 * 2326 + (2326 + (18630 - (2 + 8 * 2 + 8 * 2326) + 0))))))))))) (s2 := (0 - (0) + (k6 * 0 + (0 + (108 - (8 * 12 + 8 * 0 + 8 * 0) + (k3 * 108 + (108 + (13956 - (129 * 108) + (k2 * 13956 + (13956 + (111780 - (12 + 8 * 12 + 8 * 13956) + 0))))))))))) (by rw [Nat.succ_mul]; omega) (by rw [Nat.succ_mul]; omega) ?_
                      refine pw_l (fun _ _ _ _ k => pm_iload B9 dL_fines_159 rfl k) ?_
                      refine pw_l (fun _ _ _ _ k => pm_iload_n B9 dL_fines_161 rfl k) ?_
                      refine pw_l (fun _ _ _ _ k => pm_iload B9 dL_fines_162 rfl k) ?_
                      refine pw_lb (fun _ _ _ _ hc hs k => pm_cS (As := [.int (nI j3)]) (mc2 := 0) (ms2 := 0) B9 c_J6_bitCount_0f7a4 mt_J6_bitCount_0f7a4 ss_L_270 dL_fines_164 rfl rfl rfl (Nat.ble_eq_true_of_le hc) (Nat.ble_eq_true_of_le hs) k) ?_
                      refine pw_l (fun _ _ _ _ k => pm_stk (st' := [.int (pm_bc (nI j3)), .int (nI n), .int (nI (2 + j6))]) rfl k) ?_
                      refine pw_l (fun _ _ _ _ k => pm_stk (st' := [.int (nI (pm_pc j3 7)), .int (nI n), .int (nI (2 + j6))]) (congrArg (fun yy : Int32 => ([.int yy, .int (nI n), .int (nI (2 + j6))] : List Value)) (show (pm_bc (nI j3)) = (nI (pm_pc j3 7)) from (pm_bcN _ (by omega)))) k) ?_
                      refine pw_l (fun _ _ _ _ k => pm_isub B9 dL_fines_167 k) ?_
                      refine pw_l (fun _ _ _ _ k => pm_stk (st' := [.int (nI (n - pm_pc j3 7)), .int (nI (2 + j6))]) (congrArg (fun yy : Int32 => ([.int yy, .int (nI (2 + j6))] : List Value)) (show ((nI n) - (nI (pm_pc j3 7))) = (nI (n - pm_pc j3 7)) from (pq_sub (pw_pcn h7 hjn3)))) k) ?_
                      refine pw_l (fun _ _ _ _ k => pm_icmp_ge (tgt := 184) B9 dL_fines_168 (by decide) (fun h => absurd h ((by rw [show (nI (n - pm_pc j3 7)) = nI (n - pm_pc j3 7) from rfl, show (nI (2 + j6)) = nI (2 + j6) from rfl]; exact fun e => absurd ((nI_leI (by omega) (by omega)).mp e) (by omega)))) (fun _ => k)) ?_
                      refine pw_l (fun _ _ _ _ k => pm_iload B9 dL_fines_171 rfl k) ?_
                      refine pw_l (fun _ _ _ _ k => pm_iload B9 dL_fines_173 rfl k) ?_
                      refine pw_l (fun _ _ _ _ k => pm_imul B9 dL_fines_175 k) ?_
                      refine pw_l (fun _ _ _ _ k => pm_istore B9 dL_fines_176 rfl rfl k) ?_
                      refine pw_l (fun _ _ _ _ k => pm_loc (L' := [some (.ref (z + 0)), some (.int (nI n)), some (.int (w_L_fines_1 r 0 1 n).1), some (.int a3_2), some (.int (w_L_fines_1 r 0 1 n).2), some (.int (nI j2)), some (.int a6_3), some (.int (nI j3)), some (.int (w_L_fines_4 r j3 0 n)), some (.int (a9_6 * (nI (2 + j6)))), some (.int (nI (2 + j6)))]) rfl k) ?_
                      refine pw_l (fun _ _ _ _ k => pm_iinc B9 dL_fines_178 rfl rfl rfl k) ?_
                      refine pw_l (fun _ _ _ _ k => pm_loc (L' := [some (.ref (z + 0)), some (.int (nI n)), some (.int (w_L_fines_1 r 0 1 n).1), some (.int a3_2), some (.int (w_L_fines_1 r 0 1 n).2), some (.int (nI j2)), some (.int a6_3), some (.int (nI j3)), some (.int (w_L_fines_4 r j3 0 n)), some (.int (a9_6 * (nI (2 + j6)))), some (.int (nI (2 + j6 + 1)))]) (by rw [show ((nI (2 + j6)) : Int32) + Int32.ofInt 1 = (nI (2 + j6 + 1)) from nI_1 _]; rfl) k) ?_
                      refine pw_l (fun _ _ _ _ k => pm_goto (tgt := 159) B9 dL_fines_181 (by decide) k) ?_
                      refine pw_l (fun _ _ _ _ k => pm_loc (L' := [some (.ref (z + 0)), some (.int (nI n)), some (.int (w_L_fines_1 r 0 1 n).1), some (.int a3_2), some (.int (w_L_fines_1 r 0 1 n).2), some (.int (nI j2)), some (.int a6_3), some (.int (nI j3)), some (.int (w_L_fines_4 r j3 0 n)), some (.int (a9_6 * (nI (2 + j6)))), some (.int (nI (2 + (j6 + 1))))]) (congrArg (fun yy : Int32 => ([some (.ref (z + 0)), some (.int (nI n)), some (.int (w_L_fines_1 r 0 1 n).1), some (.int a3_2), some (.int (w_L_fines_1 r 0 1 n).2), some (.int (nI j2)), some (.int a6_3), some (.int (nI j3)), some (.int (w_L_fines_4 r j3 0 n)), some (.int (a9_6 * (nI (2 + j6)))), some (.int yy)] : List (Option Value))) rfl) k) ?_
                      exact pw_cr (by omega) (by omega) (ih6 (j6 + 1) (by omega) _ (by subst ea9_6; first | rfl))
                  exact pw_cr (by omega) (by omega) (loop6 (n - pm_pc j3 7 - 2) 0 (by omega) _ rfl)
                have loop5 : ∀ k5 j5 : Nat, j5 + k5 = (pm_pc j3 7 - 1) → ∀ (a9_5 : Int32), a9_5 = (w_L_fines_5  1 j5) → pw_J l z D X 18630 111780 (pm_Q z D (pw_P (some (.int 1)) (pw_W z kA kE (B, r, hs, u) ar)) 18630 111780 X) (pw_W z kA kE (B, r, hs, u) ar) (k5 * 0 + (0 + (18 - (8 * 2 + 8 * 0) + (k3 * 18 + (18 + (2326 - (129 * 18) + (k2 * 2326 + (2326 + (18630 - (2 + 8 * 2 + 8 * 2326) + 0))))))))) (k5 * 0 + (0 + (108 - (8 * 12 + 8 * 0) + (k3 * 108 + (108 + (13956 - (129 * 108) + (k2 * 13956 + (13956 + (111780 - (12 + 8 * 12 + 8 * 13956) + 0))))))))) 133 [some (.ref (z + 0)), some (.int (nI n)), some (.int (w_L_fines_1 r 0 1 n).1), some (.int a3_2), some (.int (w_L_fines_1 r 0 1 n).2), some (.int (nI j2)), some (.int a6_3), some (.int (nI j3)), some (.int (w_L_fines_4 r j3 0 n)), some (.int a9_5), some (.int (nI (2 + j5)))] [] := by
                  intro k5
                  induction k5 with
                  | zero =>
                    intro j5 hj5 a9_5 ea9_5
                    have hjn5 : j5 = (pm_pc j3 7 - 1) := by omega
                    refine pw_cr (c2 := (0 - (0) + (18 - (8 * 2 + 8 * 0) + (k3 * 18 + (18 + (2326 - (129 * 18) + (k2 * 2326 + (2326 + (18630 - (2 + 8 * 2 + 8 * 2326) + 0))))))))) (s2 := (0 - (0) + (108 - (8 * 12 + 8 * 0) + (k3 * 108 + (108 + (13956 - (129 * 108) + (k2 * 13956 + (13956 + (111780 - (12 + 8 * 12 + 8 * 13956) + 0))))))))) (by omega) (by omega) ?_
                    refine pw_l (fun _ _ _ _ k => pm_iload B9 dL_fines_133 rfl k) ?_
                    refine pw_l (fun _ _ _ _ k => pm_iload B9 dL_fines_135 rfl k) ?_
                    refine pw_lb (fun _ _ _ _ hc hs k => pm_cS (As := [.int (nI j3)]) (mc2 := 0) (ms2 := 0) B9 c_J6_bitCount_0f7a4 mt_J6_bitCount_0f7a4 ss_L_270 dL_fines_137 rfl rfl rfl (Nat.ble_eq_true_of_le hc) (Nat.ble_eq_true_of_le hs) k) ?_
                    refine pw_l (fun _ _ _ _ k => pm_stk (st' := [.int (pm_bc (nI j3)), .int (nI (2 + j5))]) rfl k) ?_
                    refine pw_l (fun _ _ _ _ k => pm_stk (st' := [.int (nI (pm_pc j3 7)), .int (nI (2 + j5))]) (congrArg (fun yy : Int32 => ([.int yy, .int (nI (2 + j5))] : List Value)) (show (pm_bc (nI j3)) = (nI (pm_pc j3 7)) from (pm_bcN _ (by omega)))) k) ?_
                    refine pw_l (fun _ _ _ _ k => pm_icmp_gt (tgt := 156) B9 dL_fines_140 (by decide) (fun _ => k) (fun h => absurd ((by rw [show (nI (pm_pc j3 7)) = nI (pm_pc j3 7) from rfl, show (nI (2 + j5)) = nI (2 + j5) from rfl]; exact (nI_ltI (by omega) (by omega)).mpr (by omega))) h)) ?_
                    refine pw_l (fun _ _ _ _ k => pm_wk (L' := [some (.ref (z + 0)), some (.int (nI n)), some (.int (w_L_fines_1 r 0 1 n).1), some (.int a3_2), some (.int (w_L_fines_1 r 0 1 n).2), some (.int (nI j2)), some (.int a6_3), some (.int (nI j3)), some (.int (w_L_fines_4 r j3 0 n)), some (.int a9_5), none]) ⟨rfl, ⟨rfl, ⟨rfl, ⟨rfl, ⟨rfl, ⟨rfl, ⟨rfl, ⟨rfl, ⟨rfl, ⟨rfl, trivial⟩⟩⟩⟩⟩⟩⟩⟩⟩⟩ k) ?_
                    exact pw_cr (by omega) (by omega) (pw_eq (by first | with_reducible rfl | simp only [ea9_5, hjn5]) (by first | with_reducible rfl | simp only [ea9_5, hjn5]) rfl hx5)
                  | succ k5 ih5 =>
                    intro j5 hj5 a9_5 ea9_5
                    have hjn5 : j5 < (pm_pc j3 7 - 1) := by omega
                    refine pw_cr (c2 := (0 - (0) + (k5 * 0 + (0 + (18 - (8 * 2 + 8 * 0) + (k3 * 18 + (18 + (2326 - (129 * 18) + (k2 * 2326 + (2326 + (18630 - (2 + 8 * 2 + 8 * 2326) + 0))))))))))) (s2 := (0 - (0) + (k5 * 0 + (0 + (108 - (8 * 12 + 8 * 0) + (k3 * 108 + (108 + (13956 - (129 * 108) + (k2 * 13956 + (13956 + (111780 - (12 + 8 * 12 + 8 * 13956) + 0))))))))))) (by rw [Nat.succ_mul]; omega) (by rw [Nat.succ_mul]; omega) ?_
                    refine pw_l (fun _ _ _ _ k => pm_iload B9 dL_fines_133 rfl k) ?_
                    refine pw_l (fun _ _ _ _ k => pm_iload B9 dL_fines_135 rfl k) ?_
                    refine pw_lb (fun _ _ _ _ hc hs k => pm_cS (As := [.int (nI j3)]) (mc2 := 0) (ms2 := 0) B9 c_J6_bitCount_0f7a4 mt_J6_bitCount_0f7a4 ss_L_270 dL_fines_137 rfl rfl rfl (Nat.ble_eq_true_of_le hc) (Nat.ble_eq_true_of_le hs) k) ?_
                    refine pw_l (fun _ _ _ _ k => pm_stk (st' := [.int (pm_bc (nI j3)), .int (nI (2 + j5))]) rfl k) ?_
                    refine pw_l (fun _ _ _ _ k => pm_stk (st' := [.int (nI (pm_pc j3 7)), .int (nI (2 + j5))]) (congrArg (fun yy : Int32 => ([.int yy, .int (nI (2 + j5))] : List Value)) (show (pm_bc (nI j3)) = (nI (pm_pc j3 7)) from (pm_bcN _ (by omega)))) k) ?_
                    refine pw_l (fun _ _ _ _ k => pm_icmp_gt (tgt := 156) B9 dL_fines_140 (by decide) (fun h => absurd h ((by rw [show (nI (pm_pc j3 7)) = nI (pm_pc j3 7) from rfl, show (nI (2 + j5)) = nI (2 + j5) from rfl]; exact fun e => absurd ((nI_ltI (by omega) (by omega)).mp e) (by omega)))) (fun _ => k)) ?_
                    refine pw_l (fun _ _ _ _ k => pm_iload B9 dL_fines_143 rfl k) ?_
                    refine pw_l (fun _ _ _ _ k => pm_iload B9 dL_fines_145 rfl k) ?_
                    refine pw_l (fun _ _ _ _ k => pm_imul B9 dL_fines_147 k) ?_
                    refine pw_l (fun _ _ _ _ k => pm_istore B9 dL_fines_148 rfl rfl k) ?_
                    refine pw_l (fun _ _ _ _ k => pm_loc (L' := [some (.ref (z + 0)), some (.int (nI n)), some (.int (w_L_fines_1 r 0 1 n).1), some (.int a3_2), some (.int (w_L_fines_1 r 0 1 n).2), some (.int (nI j2)), some (.int a6_3), some (.int (nI j3)), some (.int (w_L_fines_4 r j3 0 n)), some (.int (a9_5 * (nI (2 + j5)))), some (.int (nI (2 + j5)))]) rfl k) ?_
                    refine pw_l (fun _ _ _ _ k => pm_iinc B9 dL_fines_150 rfl rfl rfl k) ?_
                    refine pw_l (fun _ _ _ _ k => pm_loc (L' := [some (.ref (z + 0)), some (.int (nI n)), some (.int (w_L_fines_1 r 0 1 n).1), some (.int a3_2), some (.int (w_L_fines_1 r 0 1 n).2), some (.int (nI j2)), some (.int a6_3), some (.int (nI j3)), some (.int (w_L_fines_4 r j3 0 n)), some (.int (a9_5 * (nI (2 + j5)))), some (.int (nI (2 + j5 + 1)))]) (by rw [show ((nI (2 + j5)) : Int32) + Int32.ofInt 1 = (nI (2 + j5 + 1)) from nI_1 _]; rfl) k) ?_
                    refine pw_l (fun _ _ _ _ k => pm_goto (tgt := 133) B9 dL_fines_153 (by decide) k) ?_
                    refine pw_l (fun _ _ _ _ k => pm_loc (L' := [some (.ref (z + 0)), some (.int (nI n)), some (.int (w_L_fines_1 r 0 1 n).1), some (.int a3_2), some (.int (w_L_fines_1 r 0 1 n).2), some (.int (nI j2)), some (.int a6_3), some (.int (nI j3)), some (.int (w_L_fines_4 r j3 0 n)), some (.int (a9_5 * (nI (2 + j5)))), some (.int (nI (2 + (j5 + 1))))]) (congrArg (fun yy : Int32 => ([some (.ref (z + 0)), some (.int (nI n)), some (.int (w_L_fines_1 r 0 1 n).1), some (.int a3_2), some (.int (w_L_fines_1 r 0 1 n).2), some (.int (nI j2)), some (.int a6_3), some (.int (nI j3)), some (.int (w_L_fines_4 r j3 0 n)), some (.int (a9_5 * (nI (2 + j5)))), some (.int yy)] : List (Option Value))) rfl) k) ?_
                    exact pw_cr (by omega) (by omega) (ih5 (j5 + 1) (by omega) _ (by subst ea9_5; first | rfl))
                exact pw_cr (by omega) (by omega) (loop5 (pm_pc j3 7 - 1) 0 (by omega) _ rfl)
              have loop4 : ∀ k4 j4 : Nat, j4 + k4 = n → ∀ (a8_4 : Int32), a8_4 = (w_L_fines_4 r j3 0 j4) → pw_J l z D X 18630 111780 (pm_Q z D (pw_P (some (.int 1)) (pw_W z kA kE (B, r, hs, u) ar)) 18630 111780 X) (pw_W z kA kE (B, r, hs, u) ar) (k4 * 2 + (2 + (18 - (8 * 2) + (k3 * 18 + (18 + (2326 - (129 * 18) + (k2 * 2326 + (2326 + (18630 - (2 + 8 * 2 + 8 * 2326) + 0))))))))) (k4 * 12 + (12 + (108 - (8 * 12) + (k3 * 108 + (108 + (13956 - (129 * 108) + (k2 * 13956 + (13956 + (111780 - (12 + 8 * 12 + 8 * 13956) + 0))))))))) 89 [some (.ref (z + 0)), some (.int (nI n)), some (.int (w_L_fines_1 r 0 1 n).1), some (.int a3_2), some (.int (w_L_fines_1 r 0 1 n).2), some (.int (nI j2)), some (.int a6_3), some (.int (nI j3)), some (.int a8_4), some (.int 1), some (.int (nI j4))] [] := by
                intro k4
                induction k4 with
                | zero =>
                  intro j4 hj4 a8_4 ea8_4
                  have hjn4 : j4 = n := by omega
                  refine pw_cr (c2 := (2 - (0) + (18 - (8 * 2) + (k3 * 18 + (18 + (2326 - (129 * 18) + (k2 * 2326 + (2326 + (18630 - (2 + 8 * 2 + 8 * 2326) + 0))))))))) (s2 := (12 - (0) + (108 - (8 * 12) + (k3 * 108 + (108 + (13956 - (129 * 108) + (k2 * 13956 + (13956 + (111780 - (12 + 8 * 12 + 8 * 13956) + 0))))))))) (by omega) (by omega) ?_
                  refine pw_l (fun _ _ _ _ k => pm_iload B9 dL_fines_89 rfl k) ?_
                  refine pw_l (fun _ _ _ _ k => pm_iload_n B9 dL_fines_91 rfl k) ?_
                  refine pw_l (fun _ _ _ _ k => pm_icmp_ge (tgt := 130) B9 dL_fines_92 (by decide) (fun _ => k) (fun h => absurd ((by rw [show (nI n) = nI n from rfl, show (nI j4) = nI j4 from rfl]; exact (nI_leI (by omega) (by omega)).mpr (by omega))) h)) ?_
                  refine pw_l (fun _ _ _ _ k => pm_wk (L' := [some (.ref (z + 0)), some (.int (nI n)), some (.int (w_L_fines_1 r 0 1 n).1), some (.int a3_2), some (.int (w_L_fines_1 r 0 1 n).2), some (.int (nI j2)), some (.int a6_3), some (.int (nI j3)), some (.int a8_4), some (.int 1), none]) ⟨rfl, ⟨rfl, ⟨rfl, ⟨rfl, ⟨rfl, ⟨rfl, ⟨rfl, ⟨rfl, ⟨rfl, ⟨rfl, trivial⟩⟩⟩⟩⟩⟩⟩⟩⟩⟩ k) ?_
                  exact pw_cr (by omega) (by omega) (pw_eq (by first | with_reducible rfl | simp only [ea8_4, hjn4]) (by first | with_reducible rfl | simp only [ea8_4, hjn4]) rfl hx4)
                | succ k4 ih4 =>
                  intro j4 hj4 a8_4 ea8_4
                  have hjn4 : j4 < n := by omega
                  refine pw_cr (c2 := (2 - (0) + (k4 * 2 + (2 + (18 - (8 * 2) + (k3 * 18 + (18 + (2326 - (129 * 18) + (k2 * 2326 + (2326 + (18630 - (2 + 8 * 2 + 8 * 2326) + 0))))))))))) (s2 := (12 - (0) + (k4 * 12 + (12 + (108 - (8 * 12) + (k3 * 108 + (108 + (13956 - (129 * 108) + (k2 * 13956 + (13956 + (111780 - (12 + 8 * 12 + 8 * 13956) + 0))))))))))) (by rw [Nat.succ_mul]; omega) (by rw [Nat.succ_mul]; omega) ?_
                  refine pw_l (fun _ _ _ _ k => pm_iload B9 dL_fines_89 rfl k) ?_
                  refine pw_l (fun _ _ _ _ k => pm_iload_n B9 dL_fines_91 rfl k) ?_
                  refine pw_l (fun _ _ _ _ k => pm_icmp_ge (tgt := 130) B9 dL_fines_92 (by decide) (fun h => absurd h ((by rw [show (nI n) = nI n from rfl, show (nI j4) = nI j4 from rfl]; exact fun e => absurd ((nI_leI (by omega) (by omega)).mp e) (by omega)))) (fun _ => k)) ?_
                  refine pw_l (fun _ _ _ _ k => pm_iload B9 dL_fines_95 rfl k) ?_
                  refine pw_l (fun _ _ _ _ k => pm_iload B9 dL_fines_97 rfl k) ?_
                  refine pw_l (fun _ _ _ _ k => pm_ishr B9 dL_fines_99 k) ?_
                  refine pw_l (fun _ _ _ _ k => pm_iconst (v := 1) B9 dL_fines_100 (by decide) k) ?_
                  refine pw_l (fun _ _ _ _ k => pm_iand B9 dL_fines_101 k) ?_
                  refine pw_l (fun _ _ _ _ k => pm_iconst (v := 1) B9 dL_fines_102 (by decide) k) ?_
                  suffices hj17 : pw_J l z D X 18630 111780 (pm_Q z D (pw_P (some (.int 1)) (pw_W z kA kE (B, r, hs, u) ar)) 18630 111780 X) (pw_W z kA kE (B, r, hs, u) ar) (2 - (2) + (k4 * 2 + (2 + (18 - (8 * 2) + (k3 * 18 + (18 + (2326 - (129 * 18) + (k2 * 2326 + (2326 + (18630 - (2 + 8 * 2 + 8 * 2326) + 0)))))))))) (12 - (12) + (k4 * 12 + (12 + (108 - (8 * 12) + (k3 * 108 + (108 + (13956 - (129 * 108) + (k2 * 13956 + (13956 + (111780 - (12 + 8 * 12 + 8 * 13956) + 0)))))))))) 122 [some (.ref (z + 0)), some (.int (nI n)), some (.int (w_L_fines_1 r 0 1 n).1), some (.int a3_2), some (.int (w_L_fines_1 r 0 1 n).2), some (.int (nI j2)), some (.int a6_3), some (.int (nI j3)), none, some (.int 1), some (.int (nI j4))] [.int ((if (((nI j3) >>> ((nI j4) &&& 31)) &&& 1) = 1 then (pm_max a8_4 (pw_xs r j4)) else a8_4) : Int32)] by
                    refine pw_l2 (fun _ _ _ _ k1 k2 => pm_icmp_ne (tgt := 120) B9 dL_fines_103 (by decide) k1 k2) (fun hq18 => ?_) (fun hq18 => ?_)
                    · refine pw_l (fun _ _ _ _ k => pm_iload B9 dL_fines_120 rfl k) ?_
                      refine pw_l (fun _ _ _ _ k => pm_wk (L' := [some (.ref (z + 0)), some (.int (nI n)), some (.int (w_L_fines_1 r 0 1 n).1), some (.int a3_2), some (.int (w_L_fines_1 r 0 1 n).2), some (.int (nI j2)), some (.int a6_3), some (.int (nI j3)), none, some (.int 1), some (.int (nI j4))]) ⟨rfl, ⟨rfl, ⟨rfl, ⟨rfl, ⟨rfl, ⟨rfl, ⟨rfl, ⟨rfl, ⟨rfl, ⟨rfl, trivial⟩⟩⟩⟩⟩⟩⟩⟩⟩⟩ k) ?_
                      exact pw_cr (by omega) (by omega) (pw_eq (by first | with_reducible rfl | simp only [if_neg hq18]) (by first | with_reducible rfl | simp only [if_neg hq18]) (by first | with_reducible rfl | simp only [if_neg hq18]) hj17)
                    · refine pw_l (fun _ _ _ _ k => pm_iload B9 dL_fines_106 rfl k) ?_
                      refine pw_l (fun _ _ _ _ k => pm_aload_n B9 dL_fines_108 rfl k) ?_
                      refine pw_l (fun _ _ _ _ k => pm_iload B9 dL_fines_109 rfl k) ?_
                      refine pw_cV (As := [.int (nI j4)]) (c2 := (2 - (2) + (k4 * 2 + (2 + (18 - (8 * 2) + (k3 * 18 + (18 + (2326 - (129 * 18) + (k2 * 2326 + (2326 + (18630 - (2 + 8 * 2 + 8 * 2326) + 0))))))))))) (s2 := (12 - (12) + (k4 * 12 + (12 + (108 - (8 * 12) + (k3 * 108 + (108 + (13956 - (129 * 108) + (k2 * 13956 + (13956 + (111780 - (12 + 8 * 12 + 8 * 13956) + 0))))))))))) B9 (fun _ _ hW => pw_0 hW) rfl (a_X12_excess hI (i := j4) (by omega)) mt_X12_excess sv_L_64 dL_fines_111 rfl rfl rfl (by omega) (by omega) ?_
                      refine pw_l (fun _ _ _ _ k => pm_stk (st' := [.int (pw_xs r j4), .int a8_4]) rfl k) ?_
                      refine pw_lb (fun _ _ _ _ hc hs k => pm_mmax B9 dL_fines_114 (pm_T_in 875 (by decide +kernel) (by decide +kernel)) rfl rfl (Nat.ble_eq_true_of_le hc) (Nat.ble_eq_true_of_le hs) k) ?_
                      refine pw_l (fun _ _ _ _ k => pm_goto (tgt := 122) B9 dL_fines_117 (by decide) k) ?_
                      refine pw_l (fun _ _ _ _ k => pm_wk (L' := [some (.ref (z + 0)), some (.int (nI n)), some (.int (w_L_fines_1 r 0 1 n).1), some (.int a3_2), some (.int (w_L_fines_1 r 0 1 n).2), some (.int (nI j2)), some (.int a6_3), some (.int (nI j3)), none, some (.int 1), some (.int (nI j4))]) ⟨rfl, ⟨rfl, ⟨rfl, ⟨rfl, ⟨rfl, ⟨rfl, ⟨rfl, ⟨rfl, ⟨rfl, ⟨rfl, trivial⟩⟩⟩⟩⟩⟩⟩⟩⟩⟩ k) ?_
                      exact pw_cr (by omega) (by omega) (pw_eq (by first | with_reducible rfl | simp only [if_pos hq18]) (by first | with_reducible rfl | simp only [if_pos hq18]) (by first | with_reducible rfl | simp only [if_pos hq18]) hj17)
                  refine pw_l (fun _ _ _ _ k => pm_istore B9 dL_fines_122 rfl rfl k) ?_
                  refine pw_l (fun _ _ _ _ k => pm_loc (L' := [some (.ref (z + 0)), some (.int (nI n)), some (.int (w_L_fines_1 r 0 1 n).1), some (.int a3_2), some (.int (w_L_fines_1 r 0 1 n).2), some (.int (nI j2)), some (.int a6_3), some (.int (nI j3)), some (.int ((if (((nI j3) >>> ((nI j4) &&& 31)) &&& 1) = 1 then (pm_max a8_4 (pw_xs r j4)) else a8_4) : Int32)), some (.int 1), some (.int (nI j4))]) rfl k) ?_
                  refine pw_l (fun _ _ _ _ k => pm_iinc B9 dL_fines_124 rfl rfl rfl k) ?_
                  refine pw_l (fun _ _ _ _ k => pm_loc (L' := [some (.ref (z + 0)), some (.int (nI n)), some (.int (w_L_fines_1 r 0 1 n).1), some (.int a3_2), some (.int (w_L_fines_1 r 0 1 n).2), some (.int (nI j2)), some (.int a6_3), some (.int (nI j3)), some (.int ((if (((nI j3) >>> ((nI j4) &&& 31)) &&& 1) = 1 then (pm_max a8_4 (pw_xs r j4)) else a8_4) : Int32)), some (.int 1), some (.int (nI (j4 + 1)))]) (by rw [show ((nI j4) : Int32) + Int32.ofInt 1 = (nI (j4 + 1)) from nI_1 _]; rfl) k) ?_
                  refine pw_l (fun _ _ _ _ k => pm_goto (tgt := 89) B9 dL_fines_127 (by decide) k) ?_
                  exact pw_cr (by omega) (by omega) (ih4 (j4 + 1) (by omega) _ (by subst ea8_4; first | rfl))
              exact pw_cr (by omega) (by omega) (loop4 n 0 (by omega) _ rfl)
        exact pw_cr (by omega) (by omega) (loop3 (2 ^ n) 0 (by omega) _ rfl)
    exact pw_cr (by omega) (by omega) (loop2 n 0 (by omega) _ rfl)
  have loop1 : ∀ k1 j1 : Nat, j1 + k1 = n → ∀ (a2_1 : Int32), a2_1 = (w_L_fines_1 r 0 1 j1).1 → ∀ (a4_1 : Int32), a4_1 = (w_L_fines_1 r 0 1 j1).2 → pw_J l z D X 18630 111780 (pm_Q z D (pw_P (some (.int 1)) (pw_W z kA kE (B, r, hs, u) ar)) 18630 111780 X) (pw_W z kA kE (B, r, hs, u) ar) (k1 * 2 + (2 + (18630 - (2 + 8 * 2) + 0))) (k1 * 12 + (12 + (111780 - (12 + 8 * 12) + 0))) 15 [some (.ref (z + 0)), some (.int (nI n)), some (.int a2_1), some (.int 0), some (.int a4_1), some (.int (nI j1)), none, none, none, none, none] [] := by
    intro k1
    induction k1 with
    | zero =>
      intro j1 hj1 a2_1 ea2_1 a4_1 ea4_1
      have hjn1 : j1 = n := by omega
      refine pw_cr (c2 := (2 - (0) + (18630 - (2 + 8 * 2) + 0))) (s2 := (12 - (0) + (111780 - (12 + 8 * 12) + 0))) (by omega) (by omega) ?_
      refine pw_l (fun _ _ _ _ k => pm_iload B9 dL_fines_15 rfl k) ?_
      refine pw_l (fun _ _ _ _ k => pm_iload_n B9 dL_fines_17 rfl k) ?_
      refine pw_l (fun _ _ _ _ k => pm_icmp_ge (tgt := 47) B9 dL_fines_18 (by decide) (fun _ => k) (fun h => absurd ((by rw [show (nI n) = nI n from rfl, show (nI j1) = nI j1 from rfl]; exact (nI_leI (by omega) (by omega)).mpr (by omega))) h)) ?_
      refine pw_l (fun _ _ _ _ k => pm_wk (L' := [some (.ref (z + 0)), some (.int (nI n)), some (.int a2_1), some (.int 0), some (.int a4_1), none, none, none, none, none, none]) ⟨rfl, ⟨rfl, ⟨rfl, ⟨rfl, ⟨rfl, trivial⟩⟩⟩⟩⟩ k) ?_
      exact pw_cr (by omega) (by omega) (pw_eq (by first | with_reducible rfl | simp only [ea2_1, ea4_1, hjn1]) (by first | with_reducible rfl | simp only [ea2_1, ea4_1, hjn1]) rfl hx1)
    | succ k1 ih1 =>
      intro j1 hj1 a2_1 ea2_1 a4_1 ea4_1
      have hjn1 : j1 < n := by omega
      refine pw_cr (c2 := (2 - (0) + (k1 * 2 + (2 + (18630 - (2 + 8 * 2) + 0))))) (s2 := (12 - (0) + (k1 * 12 + (12 + (111780 - (12 + 8 * 12) + 0))))) (by rw [Nat.succ_mul]; omega) (by rw [Nat.succ_mul]; omega) ?_
      refine pw_l (fun _ _ _ _ k => pm_iload B9 dL_fines_15 rfl k) ?_
      refine pw_l (fun _ _ _ _ k => pm_iload_n B9 dL_fines_17 rfl k) ?_
      refine pw_l (fun _ _ _ _ k => pm_icmp_ge (tgt := 47) B9 dL_fines_18 (by decide) (fun h => absurd h ((by rw [show (nI n) = nI n from rfl, show (nI j1) = nI j1 from rfl]; exact fun e => absurd ((nI_leI (by omega) (by omega)).mp e) (by omega)))) (fun _ => k)) ?_
      refine pw_l (fun _ _ _ _ k => pm_iload B9 dL_fines_21 rfl k) ?_
      refine pw_l (fun _ _ _ _ k => pm_iload B9 dL_fines_23 rfl k) ?_
      refine pw_l (fun _ _ _ _ k => pm_iconst (v := 1) B9 dL_fines_25 (by decide) k) ?_
      refine pw_l (fun _ _ _ _ k => pm_iadd B9 dL_fines_26 k) ?_
      refine pw_l (fun _ _ _ _ k => pm_imul B9 dL_fines_27 k) ?_
      refine pw_l (fun _ _ _ _ k => pm_istore B9 dL_fines_28 rfl rfl k) ?_
      refine pw_l (fun _ _ _ _ k => pm_loc (L' := [some (.ref (z + 0)), some (.int (nI n)), some (.int a2_1), some (.int 0), some (.int (a4_1 * ((nI j1) + 1))), some (.int (nI j1)), none, none, none, none, none]) rfl k) ?_
      refine pw_l (fun _ _ _ _ k => pm_iload_n B9 dL_fines_30 rfl k) ?_
      refine pw_l (fun _ _ _ _ k => pm_aload_n B9 dL_fines_31 rfl k) ?_
      refine pw_l (fun _ _ _ _ k => pm_iload B9 dL_fines_32 rfl k) ?_
      refine pw_cV (As := [.int (nI j1)]) (c2 := (2 - (2) + (k1 * 2 + (2 + (18630 - (2 + 8 * 2) + 0))))) (s2 := (12 - (12) + (k1 * 12 + (12 + (111780 - (12 + 8 * 12) + 0))))) B9 (fun _ _ hW => pw_0 hW) rfl (a_X12_excess hI (i := j1) (by omega)) mt_X12_excess sv_L_64 dL_fines_34 rfl rfl rfl (by omega) (by omega) ?_
      refine pw_l (fun _ _ _ _ k => pm_stk (st' := [.int (pw_xs r j1), .int a2_1]) rfl k) ?_
      refine pw_lb (fun _ _ _ _ hc hs k => pm_mmax B9 dL_fines_37 (pm_T_in 875 (by decide +kernel) (by decide +kernel)) rfl rfl (Nat.ble_eq_true_of_le hc) (Nat.ble_eq_true_of_le hs) k) ?_
      refine pw_l (fun _ _ _ _ k => pm_istore_n B9 dL_fines_40 rfl rfl k) ?_
      refine pw_l (fun _ _ _ _ k => pm_loc (L' := [some (.ref (z + 0)), some (.int (nI n)), some (.int (pm_max a2_1 (pw_xs r j1))), some (.int 0), some (.int (a4_1 * ((nI j1) + 1))), some (.int (nI j1)), none, none, none, none, none]) rfl k) ?_
      refine pw_l (fun _ _ _ _ k => pm_iinc B9 dL_fines_41 rfl rfl rfl k) ?_
      refine pw_l (fun _ _ _ _ k => pm_loc (L' := [some (.ref (z + 0)), some (.int (nI n)), some (.int (pm_max a2_1 (pw_xs r j1))), some (.int 0), some (.int (a4_1 * ((nI j1) + 1))), some (.int (nI (j1 + 1))), none, none, none, none, none]) (by rw [show ((nI j1) : Int32) + Int32.ofInt 1 = (nI (j1 + 1)) from nI_1 _]; rfl) k) ?_
      refine pw_l (fun _ _ _ _ k => pm_goto (tgt := 15) B9 dL_fines_44 (by decide) k) ?_
      exact pw_cr (by omega) (by omega) (ih1 (j1 + 1) (by omega) _ (by subst ea2_1; subst ea4_1; first | rfl) _ (by subst ea2_1; subst ea4_1; first | rfl))
  exact pw_cr (by omega) (by omega) (loop1 n 0 (by omega) _ rfl _ rfl)
