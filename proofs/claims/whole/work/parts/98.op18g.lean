/-! shares -/
section PSA
variable {n : Nat} {r g f un cu to : Nat → Int32} {x : Int32}
theorem pm_ruL : ∀ (k j : Nat) (un : Nat → Int32) (i : Nat), (d_X3_readUnits_L1 r k j un) i = if j ≤ i ∧ i < j + k then pm_max 0 (r (7 + 6 * i + 3) - r (7 + 6 * i + 2)) else un i := by
  intro k
  induction k with
  | zero => intro j un i; rw [if_neg (by omega)]; rfl
  | succ k ih =>
    intro j un i
    simp only [d_X3_readUnits_L1]
    rw [ih (j + 1) _ i]
    by_cases h : i = j
    · rw [if_neg (by omega), if_pos (by omega), h, pk_us]
    · by_cases h2 : j ≤ i ∧ i < j + (k + 1)
      · rw [if_pos (by omega), if_pos h2]
      · rw [if_neg (by omega), if_neg h2, pk_un h]
theorem pm_shX (hRS : pm_RS n r g) (hw : ∀ i, i < n → pm_rw r i) : (∀ i, i < n → (d_X3_readUnits n r un cu).1 i = nI (pm_rv r i)) ∧ (∀ i, i < n → pm_rv r i ≤ 99) ∧ ∀ i, i < n → pm_mv g i = nI (pm_rv r i) := by
  have h : ∀ i, i < n → pm_max 0 (r (7 + 6 * i + 3) - r (7 + 6 * i + 2)) = nI (pm_rv r i) ∧ pm_rv r i ≤ 99 ∧ pm_mv g i = nI (pm_rv r i) := by
    intro i hi
    obtain ⟨v, s, a1, a2, a3, a4, a5, a6⟩ := pm_ovr hRS hw hi
    have ev : pm_rv r i = v := by unfold pm_rv; rw [a3, pm_n_nI (by omega)]
    rw [ev]
    exact ⟨a3, a1, a4⟩
  refine ⟨fun i hi => ?_, fun i hi => (h i hi).2.1, fun i hi => (h i hi).2.2⟩
  show d_X3_readUnits_L1 r n 0 un i = _
  rw [pm_ruL, if_pos (by omega)]
  exact (h i hi).1
theorem pm_mv1k (hRS : pm_RS n r g) (hw : ∀ i, i < n → pm_rw r i) : ∀ i, i < n → pm_n (pm_mv g i) < 1000 := fun i hi => by
  obtain ⟨_, h2, h3⟩ := pm_shX (un := fun _ => 0) (cu := fun _ => 0) hRS hw
  have := h2 i hi
  rw [h3 i hi, pm_n_nI (by omega)]
  omega
theorem pm_a_share (hRS : pm_RS n r g) (hw : ∀ i, i < n → pm_rw r i) (h7 : n ≤ 7) : pm_AS (d_X12_share x n r un cu to).1 (d_X12_share x n r un cu to).2.1 ((d_X13_share x n f g).2 6) (d_X13_share x n f g).1 [(1, 1)] := by
  by_cases hm : d_X10_hasMember x n r = 0
  · have hin : pm_in x 0 (nI n - 1) = 0 := by rw [pm_hm (r := r) h7]; exact hm
    unfold d_X12_share d_X13_share
    rw [if_pos hm, if_pos hin, hin]
    exact Or.inr ⟨(1, 1), List.mem_cons_self, rfl, (by dsimp only; rw [pk_us] <;> rfl)⟩
  · have hin : ¬ pm_in x 0 (nI n - 1) = 0 := by rw [pm_hm (r := r) h7]; exact hm
    obtain ⟨i, hi, rfl⟩ := pm_hmx h7 hm
    obtain ⟨h1, h2, h3⟩ := pm_shX (un := un) (cu := cu) hRS hw
    have e1 := pm_shE (f := f) h3 h2 h7 hi hin
    have e2 := (pm_soE (cu := (d_X3_readUnits n r un cu).2) h1 h2 h7 hi n 0 0 0 0 (by omega) (by decide) (by rw [show pm_pc 0 n = 0 from pm_pc0 ⟨n, by omega⟩]; omega) (by decide)).2 (by rw [Nat.zero_div])
    refine Or.inl ⟨?_, ?_, ?_⟩
    · unfold d_X12_share
      rw [if_neg hm]
    · unfold d_X13_share
      rw [if_neg hin]
      try dsimp only
      rw [pk_us]
      exact if_neg hin
    · rw [e1]
      unfold d_X12_share
      rw [if_neg hm, pm_n_nI (by omega)]
      refine e2.trans ?_
      rw [pm_sf_cg (G := fun u => pm_fc n / ps_cn (pm_rv r) n u) (fun u u1 _ => by (try dsimp only); rw [if_neg (by omega), pm_cs0])]
theorem pm_a_shareBS (hRS : pm_RS n r g) (hw : ∀ i, i < n → pm_rw r i) (h7 : n ≤ 7) : pm_AS (d_X12_shareBySteps x n r un cu to).1 (d_X12_shareBySteps x n r un cu to).2.1 ((d_X13_shareBySteps x n f g).2 6) (d_X13_shareBySteps x n f g).1 [(1, 1)] := by
  show pm_AS _ _ ((d_X13_share x n f g).2 6) (d_X13_share x n f g).1 _
  by_cases hm : d_X10_hasMember x n r = 0
  · have hin : pm_in x 0 (nI n - 1) = 0 := by rw [pm_hm (r := r) h7]; exact hm
    unfold d_X12_shareBySteps d_X13_share
    rw [if_pos hm, if_pos hin, hin]
    exact Or.inr ⟨(1, 1), List.mem_cons_self, rfl, (by dsimp only; rw [pk_us] <;> rfl)⟩
  · have hin : ¬ pm_in x 0 (nI n - 1) = 0 := by rw [pm_hm (r := r) h7]; exact hm
    obtain ⟨i, hi, rfl⟩ := pm_hmx h7 hm
    obtain ⟨h1, h2, h3⟩ := pm_shX (un := un) (cu := cu) hRS hw
    have e1 := pm_shE (f := f) h3 h2 h7 hi hin
    have hle := pm_sf_b (F := fun i => if 0 < pm_rv r i then 1 else 0) (b := 1) n 0 (fun i _ _ => by (try dsimp only); split <;> omega)
    have e2 := pm_stL (cu := cu) h1 h2 h7 hi n 0 0 0 (Nat.zero_le _) (by omega) rfl
    refine Or.inl ⟨?_, ?_, ?_⟩
    · unfold d_X12_shareBySteps
      rw [if_neg hm]
    · unfold d_X13_share
      rw [if_neg hin]
      try dsimp only
      rw [pk_us]
      exact if_neg hin
    · rw [e1]
      unfold d_X12_shareBySteps
      rw [if_neg hm, pm_n_nI (by omega)]
      unfold d_X3_bySteps
      rw [(pm_fcR n (by omega)).2.1]
      exact e2
theorem pm_fr_share {j : Nat} (hj : j ≠ 6) : (d_X13_share x n f g).2 j = f j := by
  unfold d_X13_share
  split <;> exact pk_un hj
theorem pm_fr_shareBS {j : Nat} (hj : j ≠ 6) : (d_X13_shareBySteps x n f g).2 j = f j := pm_fr_share hj
end PSA
