/-! the rules of apportionment, alike: as a whole; assigning -/
theorem pm_sf_b {F : Nat → Nat} {b : Nat} : ∀ (k j : Nat), (∀ i, j ≤ i → i < j + k → F i ≤ b) → pm_sf F k j ≤ b * k := by
  intro k
  induction k with
  | zero => intro j _; exact Nat.le_refl _
  | succ k ih =>
    intro j h
    simp only [pm_sf]
    have h1 := h j (Nat.le_refl _) (by omega)
    have h2 := ih (j + 1) (fun i h1 h2 => h i (by omega) (by omega))
    rw [Nat.mul_add, Nat.mul_one]
    omega
def pm_aca (T C : Nat) (r : Nat → Int32) (i t : Nat) : Nat := if r (7 + 6 * t + 5) = 0 ∧ (pm_rq T C r i < pm_rq T C r t ∨ (pm_rq T C r t = pm_rq T C r i ∧ t < i)) then 1 else 0
theorem pm_acL {n T C i : Nat} {r rm : Nat → Int32} (hC : 0 < C) (hC2 : C ≤ 693) (h7 : n ≤ 7) (hr : ∀ i, i < n → rm i = if r (7 + 6 * i + 5) = 0 then nI (pm_rq T C r i) else -1) (hi : i < n) (hb : r (7 + 6 * i + 5) = 0) : ∀ (k j A : Nat), j + k = n → d_X1_remaindersAheadOf_L1 i rm k j (nI A) = nI (A + pm_sf (pm_aca T C r i) k j) := by
  have hlt : ∀ i, pm_rq T C r i < C := fun i => Nat.mod_lt _ hC
  have li := hlt i
  have ri : rm i = nI (pm_rq T C r i) := by rw [hr i hi, if_pos hb]
  intro k
  induction k with
  | zero => intro j A _; rfl
  | succ k ih =>
    intro j A h
    have lj := hlt j
    simp only [d_X1_remaindersAheadOf_L1, pm_sf]
    have z0 : pm_aca T C r i j = 0 → d_X1_remaindersAheadOf_L1 i rm k (j + 1) (nI A + 0) = nI (A + (pm_aca T C r i j + pm_sf (pm_aca T C r i) k (j + 1))) := fun e => by rw [Int32.add_zero, ih _ _ (by omega), e, Nat.zero_add]
    have z1 : pm_aca T C r i j = 1 → d_X1_remaindersAheadOf_L1 i rm k (j + 1) (nI A + 1) = nI (A + (pm_aca T C r i j + pm_sf (pm_aca T C r i) k (j + 1))) := fun e => by rw [nI_1, ih _ _ (by omega), e, Nat.add_assoc]
    by_cases hbj : r (7 + 6 * j + 5) = 0
    · have rj : rm j = nI (pm_rq T C r j) := by rw [hr j (by omega), if_pos hbj]
      rw [rj, ri]
      by_cases h1 : pm_rq T C r j ≤ pm_rq T C r i
      · rw [if_pos (nI_le h1 (by omega))]
        by_cases h2 : pm_rq T C r j = pm_rq T C r i
        · rw [if_pos (by rw [h2])]
          by_cases h3 : i ≤ j
          · rw [if_pos (nI_le h3 (by omega))]
            refine z0 (if_neg fun e => ?_)
            rcases e.2 with e | e <;> omega
          · rw [if_neg (nI_ge (by omega) (by omega))]
            exact z1 (if_pos ⟨hbj, Or.inr ⟨h2, by omega⟩⟩)
        · rw [if_neg (fun e => h2 ((nI_eq (by omega) (by omega)).mp e))]
          refine z0 (if_neg fun e => ?_)
          rcases e.2 with e | e <;> omega
      · rw [if_neg (nI_ge (by omega) (by omega))]
        have e1 := z1 (if_pos ⟨hbj, Or.inl (by omega)⟩)
        (repeat' split) <;> exact e1
    · have rj : rm j = -1 := by rw [hr j (by omega), if_neg hbj]
      rw [rj, ri, if_pos (show (-1 : Int32) ≤ nI (pm_rq T C r i) by rw [Int32.le_iff_toInt_le, nI_toInt (by omega), show (-1 : Int32).toInt = -1 by decide]; omega), if_neg (show ¬ (-1 : Int32) = nI (pm_rq T C r i) from fun e => by
        have := congrArg Int32.toInt e
        rw [nI_toInt (by omega), show (-1 : Int32).toInt = -1 by decide] at this
        omega)]
      exact z0 (if_neg fun e => hbj e.1)
theorem pm_gv2 {n T C L : Nat} {r rm : Nat → Int32} (hC : 0 < C) (hC2 : C ≤ 693) (h7 : n ≤ 7) (hL : L ≤ 300) (hr : ∀ i, i < n → rm i = if r (7 + 6 * i + 5) = 0 then nI (pm_rq T C r i) else -1) : ∀ (k j : Nat) (q : Nat → Int32), j + k = n → ∀ i, d_X1_giveByRemainders_L2 n (nI L) rm k j q i = if j ≤ i ∧ i < j + k ∧ r (7 + 6 * i + 5) = 0 ∧ pm_sf (pm_aca T C r i) n 0 < L then q i + 1 else q i := by
  intro k
  induction k with
  | zero => intro j q _ i; rw [if_neg (by omega)]; rfl
  | succ k ih =>
    intro j q h i
    simp only [d_X1_giveByRemainders_L2]
    have keep : ¬ (r (7 + 6 * j + 5) = 0 ∧ pm_sf (pm_aca T C r j) n 0 < L) → d_X1_giveByRemainders_L2 n (nI L) rm k (j + 1) q i = if j ≤ i ∧ i < j + (k + 1) ∧ r (7 + 6 * i + 5) = 0 ∧ pm_sf (pm_aca T C r i) n 0 < L then q i + 1 else q i := by
      intro hno
      rw [ih (j + 1) q (by omega) i]
      by_cases h2 : j + 1 ≤ i ∧ i < j + 1 + k ∧ r (7 + 6 * i + 5) = 0 ∧ pm_sf (pm_aca T C r i) n 0 < L
      · rw [if_pos h2, if_pos ⟨by omega, by omega, h2.2.2⟩]
      · rw [if_neg h2, if_neg (fun h3 => h2 ⟨by
          have : i ≠ j := fun e => hno (e ▸ h3.2.2)
          omega, by omega, h3.2.2⟩)]
    by_cases hbj : r (7 + 6 * j + 5) = 0
    · have rj : rm j = nI (pm_rq T C r j) := by rw [hr j (by omega), if_pos hbj]
      have hlt : pm_rq T C r j < C := Nat.mod_lt _ hC
      rw [rj, if_neg (nI_pos (by omega))]
      have ea : d_X1_remaindersAheadOf j n rm = nI (pm_sf (pm_aca T C r j) n 0) := by
        unfold d_X1_remaindersAheadOf
        rw [show (0 : Int32) = nI 0 from rfl, pm_acL hC hC2 h7 hr (by omega) hbj n 0 0 (by omega), Nat.zero_add]
      have hb2 : pm_sf (pm_aca T C r j) n 0 ≤ 1 * n := pm_sf_b n 0 fun i _ _ => by
        unfold pm_aca
        split <;> omega
      rw [ea]
      by_cases hl : L ≤ pm_sf (pm_aca T C r j) n 0
      · rw [if_pos (nI_le hl (by omega))]
        exact keep fun e => by omega
      · rw [if_neg (nI_ge (by omega) (by omega)), ih (j + 1) _ (by omega) i]
        by_cases h1 : i = j
        · subst h1
          rw [if_neg (by omega), if_pos ⟨by omega, by omega, hbj, by omega⟩, pk_us]
        · rw [pk_un h1]
          by_cases h2 : j + 1 ≤ i ∧ i < j + 1 + k ∧ r (7 + 6 * i + 5) = 0 ∧ pm_sf (pm_aca T C r i) n 0 < L
          · rw [if_pos h2, if_pos ⟨by omega, by omega, h2.2.2⟩]
          · rw [if_neg h2, if_neg (fun h3 => h2 ⟨by omega, by omega, h3.2.2⟩)]
    · have rj : rm j = -1 := by rw [hr j (by omega), if_neg hbj]
      rw [rj, if_pos (by decide)]
      exact keep fun e => hbj e.1
theorem pm_ap1M {x a : Int32} {g : Nat → Int32} : ∀ (k j : Nat) (A : Int32) (gq : Nat → Int32), d_X13_apportions_L2 x 1 g a k j A gq = (A, gq) := by
  intro k j A gq
  cases k with
  | zero => rfl
  | succ k => simp only [d_X13_apportions_L2]; rw [if_neg (by decide)]
theorem pm_apEq {n T : Nat} {y : Int32} {r g f q rm gq : Nat → Int32} (hw : ∀ i, i < n → pm_rw r i) (hm : ∀ i, i < n → pm_RSm r g i) (h7 : n ≤ 7) (hT : T ≤ 300) (hy : y = 0 ∨ y = 1) : (∃ Q : Nat → Nat, ∀ i, i < n → Q i ≤ 300 ∧ (d_X1_apportion (nI T) y n r q rm).1 i = nI (Q i) ∧ d_X13_apportions (nI T) y n f g gq i = nI (Q i)) ∧ pm_apOK (nI T) y n f g gq := by
  have hcle : ∀ i, i < n → pm_cF r i ≤ 99 := fun i hi => pm_cF_le hw hi
  have ec : d_X1_apportion_L2 r n 0 0 = nI (pm_sf (pm_cF r) n 0) := by
    rw [show (0 : Int32) = nI 0 from rfl, pm_apC hw n 0 0 (by omega), Nat.zero_add]
  have em := pm_apM hw hm n 0 0 gq (by omega)
  rw [Nat.zero_add, show nI 0 = (0 : Int32) from rfl] at em
  obtain ⟨em1, em2⟩ := em
  have hC2 : pm_sf (pm_cF r) n 0 ≤ 99 * n := pm_sf_b n 0 fun i _ hi => hcle i (by omega)
  have hrt : ∀ m, m < n → True := fun _ _ => trivial
  generalize hCe : pm_sf (pm_cF r) n 0 = C at ec em1 hC2
  generalize hG1 : (d_X13_apportions_L1 g n 0 0 gq).2 = G1 at em2
  have hG0 : ∀ i, i < n → G1 i = 0 := fun i hi => (em2 i).trans (if_pos (by omega))
  have hz7 : ∀ i, i < n → d_X1_apportion_L1 7 0 q i = 0 := fun i hi => by rw [pm_apZ, if_pos (by omega)]
  by_cases hC : C = 0
  · subst hC
    refine ⟨⟨fun _ => 0, fun i hi => ⟨Nat.zero_le _, ?_, ?_⟩⟩, ?_⟩
    · unfold d_X1_apportion
      rw [if_pos (by rw [ec]; rfl)]
      exact hz7 i hi
    · unfold d_X13_apportions
      rw [if_pos (by rw [em1]; rfl), hG1]
      exact hG0 i hi
    · intro a q2 a2 q3 e1 e2 _
      have : a = 0 := by rw [show a = (d_X13_apportions_L1 g n 0 0 gq).1 by rw [← e1], em1]; rfl
      exact absurd this e2
  have hCp : 0 < C := by omega
  have hCn : ¬ nI C = 0 := nI_ne0 hCp (by omega)
  have hnb : ∃ i, i < n ∧ r (7 + 6 * i + 5) = 0 := by
    apply Classical.byContradiction
    intro hno
    have := pm_sf_b (F := pm_cF r) (b := 0) n 0 fun i _ hi => by
      unfold pm_cF
      rw [if_neg (fun e => hno ⟨i, by omega, e⟩)]
      exact Nat.le_refl _
    omega
  have eT : pm_n (nI T) = T := pm_n_nI (by omega)
  rcases hy with rfl | rfl
  · -- by remainders
    have s1 : C * pm_sf (pm_fl T C r) n 0 + pm_sf (pm_rq T C r) n 0 = T * C := by
      rw [← pm_sf_mul, ← pm_sf_add, ← hCe, ← pm_sf_mul]
      refine pm_sf_cg fun i _ _ => ?_
      rw [hCe]
      exact Nat.div_add_mod _ _
    have s2 : pm_sf (pm_fl T C r) n 0 ≤ T := Nat.le_of_mul_le_mul_left (show C * _ ≤ C * T by rw [Nat.mul_comm C T]; omega) hCp
    have s3 : pm_sf (pm_rq T C r) n 0 + pm_sf (pm_nbr r) n 0 ≤ C * pm_sf (pm_nbr r) n 0 := by
      rw [← pm_sf_add, ← pm_sf_mul]
      refine pm_sf_le n 0 fun i _ _ => ?_
      have hlt : pm_rq T C r i < C := Nat.mod_lt _ hCp
      unfold pm_nbr
      by_cases hb : r (7 + 6 * i + 5) = 0
      · rw [if_pos hb]; omega
      · rw [if_neg hb]
        have : pm_rq T C r i = 0 := by unfold pm_rq; rw [show pm_cF r i = 0 from if_neg hb, Nat.mul_zero, Nat.zero_mod]
        omega
    obtain ⟨L, hL⟩ : ∃ L, L = T - pm_sf (pm_fl T C r) n 0 := ⟨_, rfl⟩
    have s4 : C * L + pm_sf (pm_nbr r) n 0 ≤ C * pm_sf (pm_nbr r) n 0 := by
      have : C * L = pm_sf (pm_rq T C r) n 0 := by
        rw [hL, Nat.mul_sub, Nat.mul_comm C T]
        omega
      omega
    have s5 : L ≤ pm_sf (pm_nbr r) n 0 := Nat.le_of_not_lt fun hlt => by
      have h1 : C * pm_sf (pm_nbr r) n 0 ≤ C * L := Nat.mul_le_mul_left _ (Nat.le_of_lt hlt)
      have h2 : pm_sf (pm_nbr r) n 0 = 0 := by omega
      rw [h2, Nat.mul_zero] at s4
      have h3 : C * 1 ≤ C * L := Nat.mul_le_mul_left _ (by omega)
      omega
    obtain ⟨c1, c2, c3⟩ := pm_gv hw hT hCp (by omega) n 0 T (d_X1_apportion_L1 7 0 q) rm (by omega) s2
    obtain ⟨d1, d2⟩ := pm_gvM hw hm hT hCp (by omega) n 0 T G1 (by omega) s2
    rw [← hL] at c1 d1
    have p0 : ∀ n, n < 8 → pm_pc 0 n = 0 := by decide +kernel
    have hz0 : ∀ i, 0 / 2 ^ i % 2 = 0 := fun i => by rw [Nat.zero_div]
    obtain ⟨a1, D', a2, a3⟩ := pm_lp0 (f := f) hw hm h7 hT hCp (by omega) L 0 0 (nI L) (d_X13_apportions_L2 (nI T) 0 g (nI C) n 0 (nI T) G1).2 ⟨by decide, p0 n (by omega), fun i _ h => absurd (hz0 i ▸ h) (by decide), fun i m _ _ h => absurd (hz0 i ▸ h) (by decide)⟩ (by omega) (fun i hi => by rw [d2 i, if_pos (by omega), hz0, Nat.add_zero])
    rw [Nat.zero_add] at a2
    have eL : pm_n (nI L) = L := pm_n_nI (by omega)
    refine ⟨⟨fun i => pm_fl T C r i + D' / 2 ^ i % 2, fun i hi => ⟨?_, ?_, ?_⟩⟩, ?_⟩
    · have h1 : pm_fl T C r i ≤ pm_sf (pm_fl T C r) n 0 := pm_sf_at n 0 i (by omega) (by omega)
      have h2 : D' / 2 ^ i % 2 ≤ L := by
        have h3 := pm_pc_sf (F := fun t => if t = i then D' / 2 ^ i % 2 else 0) (D := D') n (fun t _ => by
          show (if t = i then D' / 2 ^ i % 2 else 0) ≤ _
          split
          · rename_i e; rw [e]; exact Nat.le_refl _
          · exact Nat.zero_le _)
        have h4 := pm_sf_at (F := fun t => if t = i then D' / 2 ^ i % 2 else 0) n 0 i (by omega) (by omega)
        simp only [if_true] at h4
        have h5 := a2.2.1
        omega
      show pm_fl T C r i + D' / 2 ^ i % 2 ≤ 300
      omega
    · unfold d_X1_apportion
      rw [if_neg (by rw [ec]; exact hCn), if_pos rfl]
      show d_X1_giveByRemainders_L2 _ _ _ _ _ _ i = nI (pm_fl T C r i + D' / 2 ^ i % 2)
      rw [ec, c1, pm_gv2 hCp (by omega) h7 (by omega) (fun i hi => by rw [c3 i, if_pos (by omega)]) n 0 _ (by omega) i, c2 i]
      by_cases hb : r (7 + 6 * i + 5) = 0
      · rw [if_pos (show 0 ≤ i ∧ i < 0 + n ∧ r (7 + 6 * i + 5) = 0 from ⟨by omega, by omega, hb⟩)]
        by_cases hbit : D' / 2 ^ i % 2 = 1
        · have hlt : pm_sf (pm_aca T C r i) n 0 < L := by
            have h5 := a2.2.1
            rw [← h5]
            have ac0 : pm_aca T C r i i = 0 := if_neg fun e => by
              rcases e.2 with e | e <;> omega
            refine pm_pc_sl (t := i) n (fun t ht => ?_) hi (by rw [ac0, hbit]; decide)
            by_cases hac : r (7 + 6 * t + 5) = 0 ∧ pm_ahd T C r t i
            · have : ¬ D' / 2 ^ t % 2 = 0 := fun e => by
                have h6 := a2.2.2.2 i t hi ht hbit ⟨hac.1, e⟩
                have h7 := hac.2
                unfold pm_ahd at h6 h7
                omega
              rw [show pm_aca T C r i t = 1 from if_pos hac]
              omega
            · rw [show pm_aca T C r i t = 0 from if_neg hac]
              exact Nat.zero_le _
          rw [if_pos ⟨by omega, by omega, hb, hlt⟩, nI_1, hbit]
        · have hb0 : D' / 2 ^ i % 2 = 0 := by omega
          have hge : L ≤ pm_sf (pm_aca T C r i) n 0 := by
            have h5 := a2.2.1
            rw [← h5]
            refine pm_sf_pc n fun t ht => ?_
            by_cases hbt : D' / 2 ^ t % 2 = 1
            · rw [show pm_aca T C r i t = 1 from if_pos ⟨a2.2.2.1 t ht hbt, a2.2.2.2 t i ht hi hbt ⟨hb, hb0⟩⟩, hbt]
              exact Nat.le_refl _
            · omega
          rw [if_neg (fun e => by omega), hb0, Nat.add_zero]
      · have hb0 : D' / 2 ^ i % 2 = 0 := by
          have : ¬ D' / 2 ^ i % 2 = 1 := fun e => hb (a2.2.2.1 i hi e)
          omega
        rw [if_neg (fun e => hb e.2.2.1), if_neg (fun e => hb e.2.2), hz7 i hi, hb0, show pm_fl T C r i = 0 by unfold pm_fl; rw [show pm_cF r i = 0 from if_neg hb, Nat.mul_zero, Nat.zero_div]]
        rfl
    · unfold d_X13_apportions
      rw [if_neg (by rw [em1]; exact hCn), em1, hG1, d1, eL]
      exact a3 i hi
    · intro a q2 a2' q3 e1 e2 e3
      have x1 : a = nI C := by rw [← em1, ← e1]
      have x2 : q2 = G1 := by rw [← hG1, ← e1]
      subst x1 x2
      have x3 : a2' = nI L := by rw [← d1, ← e3]
      have x4 : q3 = (d_X13_apportions_L2 (nI T) 0 g (nI C) n 0 (nI T) q2).2 := by rw [← e3]
      rw [x3, x4, eL]
      exact a1
  · obtain ⟨b1, b2⟩ := pm_lp1 (f := f) (x := nI T) (c := nI C) hw hm h7 hnb T 0 0 (nI T) (d_X1_apportion_L1 7 0 q) G1 (fun i hi => ⟨by rw [hG0 i hi, hz7 i hi], 0, hz7 i hi, Nat.le_refl _⟩)
    refine ⟨⟨fun i => pm_n ((d_X1_giveOneByOne_L1 n r T 0 (d_X1_apportion_L1 7 0 q)) i), fun i hi => ?_⟩, ?_⟩
    · obtain ⟨h1, Q, h2, h3⟩ := b1 i hi
      refine ⟨?_, ?_, ?_⟩
      · show pm_n _ ≤ 300
        rw [h2, pm_n_nI (by omega)]
        omega
      · unfold d_X1_apportion d_X1_giveOneByOne
        rw [if_neg (by rw [ec]; exact hCn), if_neg (by decide), eT]
        show _ = nI (pm_n _)
        rw [h2, pm_n_nI (by omega)]
        exact h2
      · unfold d_X13_apportions
        rw [if_neg (by rw [em1]; exact hCn), em1, hG1, pm_ap1M, eT, h1]
        show _ = nI (pm_n _)
        rw [h2, pm_n_nI (by omega)]
    · intro a q2 a2' q3 e1 e2 e3
      have x1 : a = nI C := by rw [← em1, ← e1]
      have x2 : q2 = G1 := by rw [← hG1, ← e1]
      subst x1 x2
      rw [pm_ap1M] at e3
      obtain ⟨rfl, rfl⟩ := Prod.mk.inj e3
      rw [eT]
      exact b2
theorem pm_asL {n : Nat} {x : Int32} {r0 q rm f g0 gq : Nat → Int32} {Q : Nat → Nat} (h7 : n ≤ 7) (hQ : ∀ i, i < n → Q i ≤ 300 ∧ (d_X1_apportion x (r0 1) n r0 q rm).1 i = nI (Q i) ∧ d_X13_apportions x (g0 1) n f g0 gq i = nI (Q i)) : ∀ (k j : Nat) (a : Int32) (r g : Nat → Int32), j + k = n → (∀ i, i < n → pm_rw r i) → (∀ i, i < n → pm_RSm r g i) →
    (d_X13_doAssign_L1 x n f g0 gq k j a g).1 = (d_X7_assignTotal_L1 x n r0 q rm k j a r).1 ∧ (∀ i, i < n → pm_rw (d_X7_assignTotal_L1 x n r0 q rm k j a r).2 i) ∧ (∀ i, i < n → pm_RSm (d_X7_assignTotal_L1 x n r0 q rm k j a r).2 (d_X13_doAssign_L1 x n f g0 gq k j a g).2 i) ∧
    (∀ z, (z < 7 ∨ 49 ≤ z) → (d_X7_assignTotal_L1 x n r0 q rm k j a r).2 z = r z) ∧ (∀ z, (z < 7 ∨ 42 ≤ z) → (d_X13_doAssign_L1 x n f g0 gq k j a g).2 z = g z) := by
  intro k
  induction k with
  | zero => intro j a r g _ hw hm; exact ⟨rfl, hw, hm, fun _ _ => rfl, fun _ _ => rfl⟩
  | succ k ih =>
    intro j a r g h hw hm
    obtain ⟨q1, q2, q3⟩ := hQ j (by omega)
    obtain ⟨c0, c1, c2, c3, c4⟩ := id (hm j (by omega))
    obtain ⟨w0, w1, w2, w3, w4⟩ := id (hw j (by omega))
    simp only [d_X7_assignTotal_L1, d_X13_doAssign_L1, q2, q3, c2]
    have st := fun a => ih (j + 1) a (upd r (7 + 6 * j + 2) (nI (Q j))) (upd g (7 + 5 * j + 2) (nI (Q j))) (by omega) (fun i hi => by
        by_cases him : i = j
        · subst him
          unfold pm_rw
          simp (disch := omega) only [pk_us, pk_un]
          refine ⟨w0, w1, ?_, w3, w4⟩
          rw [pm_n_nI (by omega)]
          exact ⟨rfl, q1⟩
        · exact pm_rw_of (fun w hw => by simp (disch := omega) only [pk_un]) (hw i hi)) (fun i hi => by
        by_cases him : i = j
        · subst him
          unfold pm_RSm
          simp (disch := omega) only [pk_us, pk_un]
          exact ⟨c0, c1, trivial, c3, c4⟩
        · exact pm_RSm_of (fun w hw => by simp (disch := omega) only [pk_un]) (fun w hw => by simp (disch := omega) only [pk_un]) (hm i hi))
    have fin : ∀ a, (d_X13_doAssign_L1 x n f g0 gq k (j + 1) a (upd g (7 + 5 * j + 2) (nI (Q j)))).1 = (d_X7_assignTotal_L1 x n r0 q rm k (j + 1) a (upd r (7 + 6 * j + 2) (nI (Q j)))).1 ∧ (∀ i, i < n → pm_rw (d_X7_assignTotal_L1 x n r0 q rm k (j + 1) a (upd r (7 + 6 * j + 2) (nI (Q j)))).2 i) ∧ (∀ i, i < n → pm_RSm (d_X7_assignTotal_L1 x n r0 q rm k (j + 1) a (upd r (7 + 6 * j + 2) (nI (Q j)))).2 (d_X13_doAssign_L1 x n f g0 gq k (j + 1) a (upd g (7 + 5 * j + 2) (nI (Q j)))).2 i) ∧
        (∀ z, (z < 7 ∨ 49 ≤ z) → (d_X7_assignTotal_L1 x n r0 q rm k (j + 1) a (upd r (7 + 6 * j + 2) (nI (Q j)))).2 z = r z) ∧ (∀ z, (z < 7 ∨ 42 ≤ z) → (d_X13_doAssign_L1 x n f g0 gq k (j + 1) a (upd g (7 + 5 * j + 2) (nI (Q j)))).2 z = g z) := by
      intro a
      obtain ⟨p1, p2, p3, p4, p5⟩ := st a
      exact ⟨p1, p2, p3, fun z hz => (p4 z hz).trans (pk_un (by omega)), fun z hz => (p5 z hz).trans (pk_un (by omega))⟩
    by_cases he : r (7 + 6 * j + 2) = nI (Q j)
    · rw [if_pos he, if_pos he]; exact fin _
    · rw [if_neg he, if_neg he]; exact fin _
/-- assign -/
theorem pm_eqc1 {B n : Nat} {x y : Int32} {r q rm dr f g gq : Nat → Int32} (hR : pm_RS n r g) (hI : pm_I B n r) : pm_EQ B n 1 x y r q rm dr f g gq := by
  obtain ⟨⟨i0, i7, i1, ⟨i2, i2l⟩, ⟨it, i3, i3a, i3b⟩, ia, ib, i5, i6, iB⟩, iw, il⟩ := id hI
  obtain ⟨⟨s0, s1, s2, s3, s4, s5, s6⟩, sm, sl⟩ := id hR
  by_cases h1 : pm_in x 0 300 = 0
  · exact pm_EQ_t (e2 := (-2, 0)) (by simp only [d_X7_ref, d_X7_refusal1, d_X7_refusalOfRange, if_pos h1] <;> rfl) (Or.inr rfl) (by simp only [pm_mc, d_X13_doAssign, if_pos h1] <;> rfl)
  obtain ⟨T, rfl, _, hT⟩ := pm_inR (lo := 0) (hi := 300) (by decide) (by decide) h1
  have e : d_X7_ref 1 (nI T) y n r = (0, 0) := by simp only [d_X7_ref, d_X7_refusal1, d_X7_refusalOfRange, if_neg h1] <;> rfl
  have m : pm_mc 1 (nI T) y n f g gq = ((d_X13_doAssign_L1 (nI T) n f g gq n 0 0 g).1, f, (d_X13_doAssign_L1 (nI T) n f g gq n 0 0 g).2, d_X13_apportions (nI T) (g 1) n f g gq) := by simp only [pm_mc, d_X13_doAssign, if_neg h1] <;> rfl
  obtain ⟨⟨Q, hQ⟩, _⟩ := pm_apEq (f := f) (q := q) (rm := rm) (gq := gq) iw sm i7 hT i1
  obtain ⟨q1, q2, q3, q4, q5⟩ := pm_asL (r0 := r) (q := q) (rm := rm) (f := f) (g0 := g) (gq := gq) i7 (fun i hi => ⟨(hQ i hi).1, (hQ i hi).2.1, by rw [s1]; exact (hQ i hi).2.2⟩) n 0 0 r g (by omega) iw sm
  refine pm_EQ_k (n' := n) (v := (d_X7_assignTotal_L1 (nI T) n r q rm n 0 0 r).1) (r' := (d_X7_assignTotal_L1 (nI T) n r q rm n 0 0 r).2) (f' := f) (g' := (d_X13_doAssign_L1 (nI T) n f g gq n 0 0 g).2) (by rw [e]) rfl rfl (by rw [m]; exact q1) (by rw [m]) (by rw [m]) (fun j _ => rfl) ⟨?_, q3, ?_⟩ ⟨?_, q2, ?_⟩
  · refine ⟨?_, ?_, ?_, ?_, ?_, ?_, ?_⟩ <;> rw [q5 _ (by decide)] <;> simp only [q4 0 (by decide), q4 1 (by decide), q4 2 (by decide), q4 3 (by decide), q4 4 (by decide), q4 5 (by decide), q4 6 (by decide)] <;> assumption
  · exact pm_RSl_of (fun i hi => q4 _ (by omega)) (fun k hk => q5 k (by omega)) sl
  · unfold pm_Is
    simp only [q4 0 (by decide), q4 1 (by decide), q4 2 (by decide), q4 3 (by decide), q4 5 (by decide), q4 6 (by decide)]
    exact ⟨i0, i7, i1, ⟨i2, i2l⟩, ⟨it, i3, i3a, i3b⟩, ia, ib, i5, i6, by omega⟩
  · exact pm_Il_of (fun i hi => q4 _ (by omega)) il
/-- each command alike -/
theorem pm_eqc {c : Nat} (hc : c < 11) {B n : Nat} {x y : Int32} {r q rm dr f g gq : Nat → Int32} (hR : pm_RS n r g) (hI : pm_I B n r) : pm_EQ B n c x y r q rm dr f g gq := by
  rcases (show c = 0 ∨ c = 1 ∨ c = 2 ∨ c = 3 ∨ c = 4 ∨ c = 5 ∨ c = 6 ∨ c = 7 ∨ c = 8 ∨ c = 9 ∨ c = 10 by omega) with rfl | rfl | rfl | rfl | rfl | rfl | rfl | rfl | rfl | rfl | rfl
  · exact pm_eqc0 hR hI
  · exact pm_eqc1 hR hI
  · exact pm_eqc2 hR hI
  · exact pm_eqc3 hR hI
  · exact pm_eqc4 hR hI
  · exact pm_eqc5 hR hI
  · exact pm_eqc6 hR hI
  · exact pm_eqc7 hR hI
  · exact pm_eqc8 hR hI
  · exact pm_eqc9 hR hI
  · exact pm_eqc10 hR hI
