/-! shares -/
section PSH
variable {n m : Nat} {X : Nat → Nat} {un cu : Nat → Int32}
theorem pm_stL {r un0 : Nat → Int32} (hun : ∀ i, i < n → (d_X3_readUnits n r un0 cu).1 i = nI (X i)) (hX : ∀ i, i < n → X i ≤ 99) (h7 : n ≤ 7) (hm : m < n) : ∀ (k j a V : Nat), V ≤ X m → pm_sf (fun i => if V < X i then 1 else 0) n 0 ≤ k → a = pm_sf (fun u => pm_fc n / ps_cn X n u) V 1 → (d_X3_bySteps_L2 m n r un0 cu (nI (pm_fc n)) k j (nI a) (nI V)).1 = nI (pm_sf (fun u => pm_fc n / ps_cn X n u) (X m) 1) := by
  intro k
  have hXm := hX m hm
  induction k with
  | zero =>
    intro j a V hV hk ha
    have h1 := pm_sf_at (F := fun i => if V < X i then 1 else 0) n 0 m (Nat.zero_le _) (by omega)
    try dsimp only at h1
    have h2 : X m = V := by
      by_cases h : V < X m
      · rw [if_pos h] at h1; omega
      · omega
    rw [h2, ← ha]
    rfl
  | succ k ih =>
    intro j a V hV hk ha
    simp only [d_X3_bySteps_L2]
    rw [hun m hm]
    by_cases hc : X m ≤ V
    · have h2 : X m = V := by omega
      rw [if_pos ((nI_leI (by omega) (by omega)).mpr hc), h2, ← ha]
    · rw [if_neg (fun e => hc ((nI_leI (by omega) (by omega)).mp e))]
      obtain ⟨A, hA, e1, inv⟩ := pm_nlL hun hX (V := V) (by omega) n 0 V (by omega) (by omega) (Or.inl ⟨rfl, fun i hi => absurd hi (Nat.not_lt_zero _)⟩)
      have e2 : d_X3_nextLevel (nI V) n (d_X3_readUnits n r un0 cu).1 (d_X3_readUnits n r un0 cu).2 = nI A := e1
      rcases inv with ⟨_, i2⟩ | ⟨i1, ⟨t, t1, t2⟩, i3⟩
      · exact absurd (i2 m hm) hc
      have hAm : A ≤ X m := i3 m hm (by omega)
      have e3 := pm_brL hun hX hA n 0 0 (by omega)
      rw [Nat.zero_add] at e3
      have e4 : d_X3_bearersOf (nI A) n (d_X3_readUnits n r un0 cu).1 (d_X3_readUnits n r un0 cu).2 = nI (ps_cn X n A) := e3
      have hc1 := pm_cnP (X := X) hm hAm
      have hc2 := pm_cnL (X := X) (u := A) h7
      have hf := (pm_fcR n (by omega)).2.2
      rw [e2, e4, if_neg (show ¬ nI (ps_cn X n A) ≤ 0 from fun e => by rw [show (0 : Int32) = nI 0 from rfl, nI_leI (by omega) (by decide)] at e; omega), pq_sub (by omega), pk_div (by omega) (by omega) (by omega), pk_mul, nI_add]
      refine ih (j + 1) _ A hAm ?_ ?_
      · have h3 := pm_sf_lt (F := fun i => if A < X i then 1 else 0) (G := fun i => if V < X i then 1 else 0) (t := t) n (fun i _ => by
          try dsimp only
          by_cases h : A < X i
          · rw [if_pos h, if_pos (by omega)]; exact Nat.le_refl _
          · rw [if_neg h]; exact Nat.zero_le _) t1 (by
          try dsimp only
          rw [if_neg (by omega), if_pos (by omega)]
          decide)
        omega
      · have h4 := pm_sf_spl (F := fun u => pm_fc n / ps_cn X n u) V 1 (A - V)
        rw [show V + (A - V) = A by omega] at h4
        rw [h4, ← ha, pm_sf_cg (G := fun _ => pm_fc n / ps_cn X n A) (fun u u1 u2 => by
          try dsimp only
          have e : ps_cn X n u = ps_cn X n A := by
            unfold ps_cn
            refine pm_sf_cg fun i _ hi => ?_
            have h5 := i3 i (by omega)
            by_cases h : X i < u
            · rw [if_pos h, if_pos (by omega)]
            · rw [if_neg h, if_neg (fun h6 => by
                by_cases h8 : V < X i
                · have := h5 h8; omega
                · omega)]
          rw [e]), pm_sf_k, Nat.mul_comm]
end PSH
