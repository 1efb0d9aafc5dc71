/-! shares -/
section PSH
variable {n m : Nat} {X : Nat → Nat} {un cu : Nat → Int32}
theorem pm_soE (hun : ∀ i, i < n → un i = nI (X i)) (hX : ∀ i, i < n → X i ≤ 99) (h7 : n ≤ 7) (hm : m < n) : ∀ (k dp S G o : Nat), dp + k = n → S < 128 → pm_pc S n + k = n → G ≤ 99 →
    (S / 2 ^ m % 2 = 1 → d_X3_so m n un cu k dp (nI S) (nI G) (nI o) = nI (pm_fc k * o)) ∧
    (S / 2 ^ m % 2 = 0 → d_X3_so m n un cu k dp (nI S) (nI G) (nI o) = nI (pm_sf (fun u => if u ≤ G then 0 else pm_fc k / pm_cs X S n u) (X m) 1)) := by
  intro k
  induction k with
  | zero =>
    intro dp S G o hd hS hpc hG
    refine ⟨fun _ => ?_, fun hb => ?_⟩
    · show nI o = nI (1 * o)
      rw [Nat.one_mul]
    · have h1 := pm_unC (S := S) n
      have h2 := pm_sf_at (F := fun i => if S / 2 ^ i % 2 = 1 then 0 else 1) n 0 m (Nat.zero_le _) (by omega)
      try dsimp only at h2
      rw [if_neg (by omega)] at h2
      omega
  | succ k ih =>
    intro dp S G o hd hS hpc hG
    have hlt : nI dp < nI n := nI_lt (by omega) (by omega)
    have ihS : ∀ i, i < n → S / 2 ^ i % 2 = 0 → ∀ o, ((S ||| 2 ^ i) / 2 ^ m % 2 = 1 → d_X3_so m n un cu k (dp + 1) (nI (S ||| 2 ^ i)) (nI (max G (X i))) (nI o) = nI (pm_fc k * o)) ∧ ((S ||| 2 ^ i) / 2 ^ m % 2 = 0 → d_X3_so m n un cu k (dp + 1) (nI (S ||| 2 ^ i)) (nI (max G (X i))) (nI o) = nI (pm_sf (fun u => if u ≤ max G (X i) then 0 else pm_fc k / pm_cs X (S ||| 2 ^ i) n u) (X m) 1)) := fun i hi hb o => ih (dp + 1) _ _ o (by omega) (pm_or2 S hS i (by omega)).1 (by rw [pm_pcI S hS i (by omega) hb n (by omega) hi]; omega) (by have := hX i hi; omega)
    refine ⟨fun hb => ?_, fun hb => ?_⟩
    · show d_X3_soS m dp (nI S) (nI G) (nI o) (d_X3_so m n un cu k (dp + 1)) n un cu = _
      unfold d_X3_soS
      rw [if_pos hlt]
      have h1 := pm_soL (H := fun _ => pm_fc k * o) (R := d_X3_so m n un cu k (dp + 1)) (o := o) hun hX h7 hm hS hG (fun i hi hbi => by
        have him : ¬ i = m := fun e => by rw [e, hb] at hbi; exact absurd hbi (by decide)
        rw [if_neg him]
        refine (ihS i hi hbi o).1 ?_
        rw [(pm_or2 S hS i (by omega)).2 m (by omega), if_neg (fun e => him e.symm)]
        exact hb) n 0 0 (by omega)
      refine h1.trans ?_
      have h2 := pm_unC (S := S) n
      rw [Nat.zero_add, pm_sf_cg (G := fun i => pm_fc k * o * (if S / 2 ^ i % 2 = 1 then 0 else 1)) (fun i _ _ => by (try dsimp only); split <;> omega), pm_sf_mul, show pm_sf (fun i => if S / 2 ^ i % 2 = 1 then 0 else 1) n 0 = k + 1 by omega, Nat.mul_comm, pm_fc, Nat.mul_assoc]
    · show d_X3_soS m dp (nI S) (nI G) (nI o) (d_X3_so m n un cu k (dp + 1)) n un cu = _
      unfold d_X3_soS
      rw [if_pos hlt]
      have h1 := pm_soL (H := fun i => if i = m then pm_fc k * (max G (X m) - G) else pm_sf (fun u => if u ≤ max G (X i) then 0 else pm_fc k / pm_cs X (S ||| 2 ^ i) n u) (X m) 1) (R := d_X3_so m n un cu k (dp + 1)) (o := o) hun hX h7 hm hS hG (fun i hi hbi => by
        by_cases him : i = m
        · rw [if_pos him]
          try dsimp only
          rw [if_pos him]
          rw [(ihS i hi hbi _).1 (by rw [(pm_or2 S hS i (by omega)).2 m (by omega), if_pos him.symm]), him]
        · rw [if_neg him]
          try dsimp only
          rw [if_neg him]
          refine (ihS i hi hbi o).2 ?_
          rw [(pm_or2 S hS i (by omega)).2 m (by omega), if_neg (fun e => him e.symm)]
          exact hb) n 0 0 (by omega)
      refine h1.trans ?_
      rw [Nat.zero_add, pm_soN hS hm hb hpc h7]
end PSH
