/-! shares -/
section PSH
variable {n m : Nat} {X : Nat → Nat} {un cu : Nat → Int32}
theorem pm_cnP (hm : m < n) {u : Nat} (hu : u ≤ X m) : 1 ≤ ps_cn X n u := by
  have := pm_sf_at (F := fun i => if X i < u then 0 else 1) n 0 m (Nat.zero_le _) (by omega)
  try dsimp only at this
  rw [if_neg (by omega)] at this
  exact this
theorem pm_cnL {u : Nat} (h7 : n ≤ 7) : ps_cn X n u ≤ 7 := by
  have := pm_sf_b (F := fun i => if X i < u then 0 else 1) (b := 1) n 0 (fun i _ _ => by (try dsimp only); split <;> omega)
  unfold ps_cn
  omega
section PSR
variable {g f : Nat → Int32}
theorem pm_shL3 (hX2 : ∀ i, i < n → pm_mv g i = nI (X i)) (hX : ∀ i, i < n → X i ≤ 99) {u : Nat} (hu : u < 1000) : ∀ (k j A : Nat), j + k = n → d_X13_share_L3 g u k j (nI A) = nI (A + pm_sf (fun i => if X i < u then 0 else 1) k j) := by
  intro k
  induction k with
  | zero => intro j A _; rfl
  | succ k ih =>
    intro j A h
    have hXj := hX j (by omega)
    simp only [d_X13_share_L3, hX2 j (by omega), nI_ltI (show X j < 2 ^ 31 by omega) (show u < 2 ^ 31 by omega), pm_sf]
    by_cases hc : X j < u
    · rw [if_pos hc, if_pos hc, Int32.add_zero, Nat.zero_add]
      exact ih _ _ (by omega)
    · rw [if_neg hc, if_neg hc, nI_1, ih _ _ (by omega), Nat.add_assoc]
theorem pm_shL2 (hX2 : ∀ i, i < n → pm_mv g i = nI (X i)) (hX : ∀ i, i < n → X i ≤ 99) (h7 : n ≤ 7) (hm : m < n) : ∀ (k j A : Nat), j + k ≤ X m + 1 → d_X13_share_L2 n g (nI (pm_fc n)) k j (nI A) = nI (A + pm_sf (fun u => pm_fc n / ps_cn X n u) k j) := by
  intro k
  induction k with
  | zero => intro j A _; rfl
  | succ k ih =>
    intro j A h
    have hXm := hX m hm
    have h3 := pm_shL3 hX2 hX (u := j) (by omega) n 0 0 (by omega)
    rw [Nat.zero_add] at h3
    have hc1 := pm_cnP (X := X) hm (u := j) (by omega)
    have hc2 := pm_cnL (X := X) (u := j) h7
    have hf := (pm_fcR n (by omega)).2.2
    simp only [d_X13_share_L2, pm_sf]
    rw [show d_X13_share_L3 g j n 0 0 = nI (ps_cn X n j) from h3, pk_div (by omega) (by omega) (by omega), nI_add, ih _ _ (by omega), Nat.add_assoc]
theorem pm_shE (hX2 : ∀ i, i < n → pm_mv g i = nI (X i)) (hX : ∀ i, i < n → X i ≤ 99) (h7 : n ≤ 7) (hm : m < n) (hin : ¬ pm_in (nI m) 0 (nI n - 1) = 0) : (d_X13_share (nI m) n f g).1 = nI (pm_sf (fun u => pm_fc n / ps_cn X n u) (X m) 1) := by
  have hXm := hX m hm
  unfold d_X13_share
  rw [if_neg hin]
  try dsimp only
  rw [pm_n_nI (by omega), hX2 m hm, pm_n_nI (by omega), (pm_fcR n (by omega)).1, show 1 + X m - 1 = X m by omega]
  have h2 := pm_shL2 hX2 hX h7 hm (X m) 1 0 (by omega)
  rw [Nat.zero_add] at h2
  exact h2
end PSR
end PSH
