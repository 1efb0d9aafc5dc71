/-! shares -/
section PSH
variable {n m : Nat} {X : Nat → Nat} {un cu : Nat → Int32}
/-- levels -/
def pm_nv (X : Nat → Nat) (V j A : Nat) : Prop := (A = V ∧ ∀ i, i < j → X i ≤ V) ∨ (V < A ∧ (∃ i, i < j ∧ X i = A) ∧ ∀ i, i < j → V < X i → A ≤ X i)
theorem pm_nlL {V : Nat} (hun : ∀ i, i < n → un i = nI (X i)) (hX : ∀ i, i < n → X i ≤ 99) (hV : V ≤ 99) : ∀ (k j A : Nat), j + k = n → A ≤ 99 → pm_nv X V j A → ∃ A', A' ≤ 99 ∧ d_X3_nextLevel_L1 (nI V) un k j (nI A) = nI A' ∧ pm_nv X V n A' := by
  intro k
  induction k with
  | zero => intro j A h hA hi; obtain rfl : j = n := (by omega); exact ⟨A, hA, rfl, hi⟩
  | succ k ih =>
    intro j A h hA hi
    have hXj := hX j (by omega)
    simp only [d_X3_nextLevel_L1, hun j (by omega), nI_leI (show X j < 2 ^ 31 by omega) (show V < 2 ^ 31 by omega), nI_eq (show A < 2 ^ 31 by omega) (show V < 2 ^ 31 by omega), nI_leI (show A < 2 ^ 31 by omega) (show X j < 2 ^ 31 by omega)]
    have lt : ∀ i, i < j + 1 → ¬ i = j → i < j := fun i a b => by omega
    have hinv := hi
    by_cases h1 : X j ≤ V
    · rw [if_pos h1]
      refine ih (j + 1) A (by omega) hA ?_
      rcases hi with ⟨a1, a2⟩ | ⟨a1, ⟨t, t1, t2⟩, a3⟩
      · refine Or.inl ⟨a1, fun i hi => ?_⟩
        by_cases e : i = j
        · rw [e]; exact h1
        · exact a2 i (lt i hi e)
      · refine Or.inr ⟨a1, ⟨t, by omega, t2⟩, fun i hi hv => ?_⟩
        by_cases e : i = j
        · rw [e] at hv; omega
        · exact a3 i (lt i hi e) hv
    · rw [if_neg h1]
      have new : (A = V ∨ X j ≤ A) → pm_nv X V (j + 1) (X j) := fun hc => by
        refine Or.inr ⟨by omega, ⟨j, by omega, rfl⟩, fun i hi hv => ?_⟩
        by_cases e : i = j
        · rw [e]; exact Nat.le_refl _
        · rcases hinv with ⟨a1, a2⟩ | ⟨a1, _, a3⟩
          · have := a2 i (lt i hi e); omega
          · have := a3 i (lt i hi e) hv; omega
      by_cases h2 : A = V
      · rw [if_pos h2]
        exact ih (j + 1) (X j) (by omega) hXj (new (Or.inl h2))
      · rw [if_neg h2]
        by_cases h3 : A ≤ X j
        · rw [if_pos h3]
          refine ih (j + 1) A (by omega) hA ?_
          rcases hi with ⟨a1, a2⟩ | ⟨a1, ⟨t, t1, t2⟩, a3⟩
          · exact absurd a1 h2
          · refine Or.inr ⟨a1, ⟨t, by omega, t2⟩, fun i hi hv => ?_⟩
            by_cases e : i = j
            · rw [e]; exact h3
            · exact a3 i (lt i hi e) hv
        · rw [if_neg h3]
          exact ih (j + 1) (X j) (by omega) hXj (new (Or.inr (by omega)))
theorem pm_brL {w : Nat} (hun : ∀ i, i < n → un i = nI (X i)) (hX : ∀ i, i < n → X i ≤ 99) (hw : w ≤ 99) : ∀ (k j A : Nat), j + k = n → d_X3_bearersOf_L1 (nI w) un k j (nI A) = nI (A + pm_sf (fun i => if X i < w then 0 else 1) k j) := by
  intro k
  induction k with
  | zero => intro j A _; rfl
  | succ k ih =>
    intro j A h
    have hXj := hX j (by omega)
    simp only [d_X3_bearersOf_L1, hun j (by omega), nI_ltI (show X j < 2 ^ 31 by omega) (show w < 2 ^ 31 by omega), pm_sf]
    by_cases hc : X j < w
    · rw [if_pos hc, if_pos hc, Int32.add_zero, Nat.zero_add]
      exact ih _ _ (by omega)
    · rw [if_neg hc, if_neg hc, nI_1, ih _ _ (by omega), Nat.add_assoc]
end PSH
