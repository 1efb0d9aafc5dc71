/-! shares -/
section PSH
variable {n m : Nat} {X : Nat → Nat} {un cu : Nat → Int32}
theorem pm_soN {S k G : Nat} (hS : S < 128) (hm : m < n) (hb : S / 2 ^ m % 2 = 0) (hpc : pm_pc S n + (k + 1) = n) (h7 : n ≤ 7) :
    pm_sf (fun i => if S / 2 ^ i % 2 = 1 then 0 else if i = m then pm_fc k * (max G (X m) - G) else pm_sf (fun u => if u ≤ max G (X i) then 0 else pm_fc k / pm_cs X (S ||| 2 ^ i) n u) (X m) 1) n 0 = pm_sf (fun u => if u ≤ G then 0 else pm_fc (k + 1) / pm_cs X S n u) (X m) 1 := by
  have h1 : ∀ i, i < n → (if S / 2 ^ i % 2 = 1 then 0 else if i = m then pm_fc k * (max G (X m) - G) else pm_sf (fun u => if u ≤ max G (X i) then 0 else pm_fc k / pm_cs X (S ||| 2 ^ i) n u) (X m) 1) = pm_sf (fun u => if S / 2 ^ i % 2 = 1 then 0 else if u ≤ G then 0 else if i = m then pm_fc k else if u ≤ X i then 0 else pm_fc k / pm_cs X S n u) (X m) 1 := by
    intro i hi
    by_cases hbi : S / 2 ^ i % 2 = 1
    · rw [if_pos hbi]
      exact ((pm_sf_cg (fun u _ _ => if_pos hbi)).trans (pm_sf_0 _ _)).symm
    · rw [if_neg hbi]
      by_cases him : i = m
      · rw [if_pos him, show max G (X m) - G = X m - G by omega, ← pm_sf_gt]
        refine pm_sf_cg fun u _ _ => ?_
        rw [if_neg hbi]
        by_cases hg : u ≤ G
        · rw [if_pos hg, if_pos hg]
        · rw [if_neg hg, if_neg hg, if_pos him]
      · rw [if_neg him]
        refine pm_sf_cg fun u _ _ => ?_
        rw [if_neg hbi]
        by_cases hg : u ≤ G
        · rw [if_pos hg, if_pos (by omega)]
        · rw [if_neg hg, if_neg him]
          by_cases hx : u ≤ X i
          · rw [if_pos hx, if_pos (by omega)]
          · rw [if_neg hx, if_neg (by omega)]
            have e : pm_cs X (S ||| 2 ^ i) n u = pm_cs X S n u := by
              unfold pm_cs
              refine pm_sf_cg fun t _ ht => ?_
              rw [(pm_or2 S hS i (by omega)).2 t (by omega)]
              by_cases hti : t = i
              · rw [if_pos hti, if_pos (Or.inl rfl), if_pos (Or.inr (by rw [hti]; omega))]
              · rw [if_neg hti]
            rw [e]
  rw [pm_sf_cg (fun i _ hi => h1 i (by omega)), pm_sf_swp]
  refine pm_sf_cg fun u hu1 hu2 => ?_
  by_cases hg : u ≤ G
  · rw [if_pos hg]
    refine (pm_sf_cg (fun i _ _ => ?_)).trans (pm_sf_0 n 0)
    rw [if_pos hg]
    split <;> rfl
  · rw [if_neg hg]
    have c1 : 1 ≤ pm_cs X S n u := by
      have := pm_sf_at (F := fun i => if S / 2 ^ i % 2 = 1 ∨ X i < u then 0 else 1) n 0 m (Nat.zero_le _) (by omega)
      try dsimp only at this
      rw [if_neg (by omega)] at this
      exact this
    have hsum : pm_sf (fun i => if S / 2 ^ i % 2 = 1 then 0 else if X i < u then 1 else 0) n 0 + pm_cs X S n u = k + 1 := by
      have h2 := pm_unC (S := S) n
      have h3 : pm_sf (fun i => if S / 2 ^ i % 2 = 1 then 0 else if X i < u then 1 else 0) n 0 + pm_cs X S n u = pm_sf (fun i => if S / 2 ^ i % 2 = 1 then 0 else 1) n 0 := by
        unfold pm_cs
        rw [← pm_sf_add]
        refine pm_sf_cg fun i _ _ => ?_
        by_cases hbi : S / 2 ^ i % 2 = 1
        · rw [if_pos hbi, if_pos hbi, if_pos (Or.inl hbi)]
        · rw [if_neg hbi, if_neg hbi]
          by_cases hx : X i < u
          · rw [if_pos hx, if_pos (Or.inr hx)]
          · rw [if_neg hx, if_neg (fun e => e.elim hbi hx)]
      omega
    have h4 : pm_sf (fun i => if S / 2 ^ i % 2 = 1 then 0 else if u ≤ G then 0 else if i = m then pm_fc k else if u ≤ X i then 0 else pm_fc k / pm_cs X S n u) n 0 = pm_sf (fun i => (if i = m then pm_fc k else 0) + pm_fc k / pm_cs X S n u * (if S / 2 ^ i % 2 = 1 then 0 else if X i < u then 1 else 0)) n 0 := by
      refine pm_sf_cg fun i _ hi => ?_
      by_cases hbi : S / 2 ^ i % 2 = 1
      · have him : ¬ i = m := fun e => by rw [e, hb] at hbi; exact absurd hbi (by decide)
        rw [if_pos hbi, if_pos hbi, if_neg him]
        rfl
      · rw [if_neg hbi, if_neg hbi, if_neg hg]
        by_cases him : i = m
        · rw [if_pos him, if_pos him, if_neg (by rw [him]; omega)]
          rfl
        · rw [if_neg him, if_neg him]
          by_cases hx : u ≤ X i
          · rw [if_pos hx, if_neg (by omega)]
            rfl
          · rw [if_neg hx, if_pos (by omega), Nat.zero_add, Nat.mul_one]
    rw [h4, pm_sf_add, pm_sf_one n 0 (Nat.zero_le _) (by omega), pm_sf_mul, show pm_sf (fun i => if S / 2 ^ i % 2 = 1 then 0 else if X i < u then 1 else 0) n 0 = k + 1 - pm_cs X S n u by omega]
    exact pm_fcX k (by omega) _ (by omega) c1 (by omega)
theorem ps_maxN {a b : Nat} (ha : a < 2 ^ 31) (hb : b < 2 ^ 31) : pm_max (nI a) (nI b) = nI (max a b) := by
  unfold pm_max
  by_cases h : a < b
  · rw [if_pos (nI_lt h hb), show max a b = b by omega]
  · rw [if_neg (nI_nlt (by omega) ha), show max a b = a by omega]
theorem pm_soL {S G o : Nat} {R : Int32 → Int32 → Int32 → Int32} {H : Nat → Nat} (hun : ∀ i, i < n → un i = nI (X i)) (hX : ∀ i, i < n → X i ≤ 99) (h7 : n ≤ 7) (hm : m < n) (hS : S < 128) (hG : G ≤ 99)
    (hH : ∀ i, i < n → S / 2 ^ i % 2 = 0 → R (nI (S ||| 2 ^ i)) (nI (max G (X i))) (nI (if i = m then max G (X i) - G else o)) = nI (H i)) : ∀ (k j A : Nat), j + k = n → d_X3_soS_L1 m (nI S) (nI G) (nI o) R un k j (nI A) = nI (A + pm_sf (fun i => if S / 2 ^ i % 2 = 1 then 0 else H i) k j) := by
  intro k
  induction k with
  | zero => intro j A _; rfl
  | succ k ih =>
    intro j A h
    have hXj := hX j (by omega)
    simp only [d_X3_soS_L1, pm_bt2 S hS j (by omega), pm_orb S hS j (by omega), hun j (by omega), ps_maxN (show G < 2 ^ 31 by omega) (show X j < 2 ^ 31 by omega), pq_sub (show G ≤ max G (X j) by omega), nI_eq (show j < 2 ^ 31 by omega) (show m < 2 ^ 31 by omega), pm_sf]
    rcases Nat.mod_two_eq_zero_or_one (S / 2 ^ j) with hb | hb
    · have h1 := hH j (by omega) hb
      rw [hb, if_pos (show nI 0 = 0 from rfl), if_neg (show ¬ (0 : Nat) = 1 by decide)]
      by_cases hjm : j = m
      · rw [if_pos hjm] at h1
        rw [if_pos hjm, h1, nI_add, ih _ _ (by omega), Nat.add_assoc]
      · rw [if_neg hjm] at h1
        rw [if_neg hjm, h1, nI_add, ih _ _ (by omega), Nat.add_assoc]
    · rw [hb, if_neg (show ¬ nI 1 = 0 by decide), if_pos rfl, Nat.zero_add]
      exact ih _ _ (by omega)
end PSH
