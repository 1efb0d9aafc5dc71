/-! the rules of apportionment, alike -/
def pm_sf (F : Nat → Nat) : Nat → Nat → Nat
  | 0, _ => 0
  | k + 1, j => F j + pm_sf F k (j + 1)
theorem pm_sf_at {F : Nat → Nat} : ∀ (k j i : Nat), j ≤ i → i < j + k → F i ≤ pm_sf F k j := by
  intro k
  induction k with
  | zero => intro j i h1 h2; omega
  | succ k ih =>
    intro j i h1 h2
    simp only [pm_sf]
    by_cases h : i = j
    · subst h; omega
    · have := ih (j + 1) i (by omega) (by omega); omega
theorem pm_sf_le {F G : Nat → Nat} : ∀ (k j : Nat), (∀ i, j ≤ i → i < j + k → F i ≤ G i) → pm_sf F k j ≤ pm_sf G k j := by
  intro k
  induction k with
  | zero => intro j _; exact Nat.le_refl _
  | succ k ih =>
    intro j h
    simp only [pm_sf]
    have h1 := h j (Nat.le_refl _) (by omega)
    have h2 := ih (j + 1) (fun i h1 h2 => h i (by omega) (by omega))
    omega
theorem pm_sf_cg {F G : Nat → Nat} {k j : Nat} (h : ∀ i, j ≤ i → i < j + k → F i = G i) : pm_sf F k j = pm_sf G k j := Nat.le_antisymm (pm_sf_le k j fun i a b => Nat.le_of_eq (h i a b)) (pm_sf_le k j fun i a b => Nat.le_of_eq (h i a b).symm)
theorem pm_sf_add {F G : Nat → Nat} : ∀ (k j : Nat), pm_sf (fun i => F i + G i) k j = pm_sf F k j + pm_sf G k j := by
  intro k
  induction k with
  | zero => intro j; rfl
  | succ k ih => intro j; simp only [pm_sf]; rw [ih]; omega
theorem pm_sf_mul {F : Nat → Nat} {T : Nat} : ∀ (k j : Nat), pm_sf (fun i => T * F i) k j = T * pm_sf F k j := by
  intro k
  induction k with
  | zero => intro j; rfl
  | succ k ih => intro j; simp only [pm_sf]; rw [ih, Nat.mul_add]
theorem pm_sf_top {F : Nat → Nat} : ∀ (k j : Nat), pm_sf F (k + 1) j = pm_sf F k j + F (j + k) := by
  intro k
  induction k with
  | zero => intro j; simp only [pm_sf]; rw [Nat.add_zero, Nat.add_zero, Nat.zero_add]
  | succ k ih =>
    intro j
    rw [pm_sf, ih (j + 1), pm_sf, show j + 1 + k = j + (k + 1) by omega]
    omega
theorem pm_sf_pc {F : Nat → Nat} {D : Nat} : ∀ (n : Nat), (∀ i, i < n → D / 2 ^ i % 2 ≤ F i) → pm_pc D n ≤ pm_sf F n 0 := by
  intro n
  induction n with
  | zero => intro _; exact Nat.le_refl _
  | succ n ih =>
    intro h
    rw [pm_sf_top, pm_pc, Nat.zero_add]
    have h1 := h n (by omega)
    have h2 := ih (fun i hi => h i (by omega))
    omega
theorem pm_pc_sf {F : Nat → Nat} {D : Nat} : ∀ (n : Nat), (∀ i, i < n → F i ≤ D / 2 ^ i % 2) → pm_sf F n 0 ≤ pm_pc D n := by
  intro n
  induction n with
  | zero => intro _; exact Nat.le_refl _
  | succ n ih =>
    intro h
    rw [pm_sf_top, pm_pc, Nat.zero_add]
    have h1 := h n (by omega)
    have h2 := ih (fun i hi => h i (by omega))
    omega
theorem pm_pc_sl {F : Nat → Nat} {D t : Nat} : ∀ (n : Nat), (∀ i, i < n → F i ≤ D / 2 ^ i % 2) → t < n → F t < D / 2 ^ t % 2 → pm_sf F n 0 < pm_pc D n := by
  intro n
  induction n with
  | zero => intro _ h; omega
  | succ n ih =>
    intro h ht hs
    rw [pm_sf_top, pm_pc, Nat.zero_add]
    have h1 := h n (by omega)
    by_cases he : t = n
    · subst he
      have h2 := pm_pc_sf t (fun i hi => h i (by omega))
      omega
    · have h2 := ih (fun i hi => h i (by omega)) (by omega) hs
      omega
def pm_nbr (r : Nat → Int32) (i : Nat) : Nat := if r (7 + 6 * i + 5) = 0 then 1 else 0
def pm_cF (r : Nat → Int32) (i : Nat) : Nat := if r (7 + 6 * i + 5) = 0 then pm_n (r (7 + 6 * i + 0)) else 0
def pm_fl (T C : Nat) (r : Nat → Int32) (i : Nat) : Nat := T * pm_cF r i / C
def pm_rq (T C : Nat) (r : Nat → Int32) (i : Nat) : Nat := T * pm_cF r i % C
section PAP
variable {n : Nat} {r g f : Nat → Int32}
theorem pm_cF_le (hw : ∀ i, i < n → pm_rw r i) {i : Nat} (hi : i < n) : pm_cF r i ≤ 99 := by
  unfold pm_cF
  split
  · exact (hw i hi).1.2.2
  · omega
theorem pm_apC (hw : ∀ i, i < n → pm_rw r i) : ∀ (k j A : Nat), j + k ≤ n → d_X1_apportion_L2 r k j (nI A) = nI (A + pm_sf (pm_cF r) k j) := by
  intro k
  induction k with
  | zero => intro j A _; rfl
  | succ k ih =>
    intro j A h
    simp only [d_X1_apportion_L2, pm_sf]
    by_cases hb : r (7 + 6 * j + 5) = 0
    · rw [if_pos hb, (hw j (by omega)).1.1, nI_add, ih _ _ (by omega), show pm_cF r j = pm_n (r (7 + 6 * j + 0)) from if_pos hb, Nat.add_assoc]
    · rw [if_neg hb, Int32.add_zero, ih _ _ (by omega), show pm_cF r j = 0 from if_neg hb, Nat.zero_add]
theorem pm_apM (hw : ∀ i, i < n → pm_rw r i) (hm : ∀ i, i < n → pm_RSm r g i) : ∀ (k j A : Nat) (gq : Nat → Int32), j + k ≤ n → (d_X13_apportions_L1 g k j (nI A) gq).1 = nI (A + pm_sf (pm_cF r) k j) ∧ ∀ i, (d_X13_apportions_L1 g k j (nI A) gq).2 i = if j ≤ i ∧ i < j + k then 0 else gq i := by
  intro k
  induction k with
  | zero => intro j A gq _; exact ⟨rfl, fun i => by rw [if_neg (by omega)]; rfl⟩
  | succ k ih =>
    intro j A gq h
    have hb := pm_bar (hw j (by omega)) (hm j (by omega))
    have hz : ∀ i, (if j + 1 ≤ i ∧ i < j + 1 + k then 0 else upd gq j 0 i) = if j ≤ i ∧ i < j + (k + 1) then 0 else gq i := by
      intro i
      by_cases h1 : i = j
      · subst h1
        rw [if_neg (by omega), if_pos (by omega), pk_us]
      · rw [pk_un h1]
        by_cases h2 : j + 1 ≤ i ∧ i < j + 1 + k
        · rw [if_pos h2, if_pos (show j ≤ i ∧ i < j + (k + 1) by omega)]
        · rw [if_neg h2, if_neg (show ¬ (j ≤ i ∧ i < j + (k + 1)) by omega)]
    simp only [d_X13_apportions_L1, pm_sf]
    by_cases hc : r (7 + 6 * j + 5) = 0
    · rw [if_pos (hb.mp hc), (hm j (by omega)).1, (hw j (by omega)).1.1, nI_add]
      obtain ⟨e1, e2⟩ := ih (j + 1) (A + pm_n (r (7 + 6 * j + 0))) (upd gq j 0) (by omega)
      exact ⟨by rw [e1, show pm_cF r j = pm_n (r (7 + 6 * j + 0)) from if_pos hc, Nat.add_assoc], fun i => (e2 i).trans (hz i)⟩
    · rw [if_neg (fun e => hc (hb.mpr e)), Int32.add_zero]
      obtain ⟨e1, e2⟩ := ih (j + 1) A (upd gq j 0) (by omega)
      exact ⟨by rw [e1, show pm_cF r j = 0 from if_neg hc, Nat.zero_add], fun i => (e2 i).trans (hz i)⟩
theorem pm_apZ : ∀ (k j : Nat) (q : Nat → Int32) (i : Nat), d_X1_apportion_L1 k j q i = if j ≤ i ∧ i < j + k then 0 else q i := by
  intro k
  induction k with
  | zero => intro j q i; rw [if_neg (by omega)]; rfl
  | succ k ih =>
    intro j q i
    simp only [d_X1_apportion_L1]
    rw [ih]
    by_cases h1 : i = j
    · subst h1
      rw [if_neg (by omega), if_pos (by omega), pk_us]
    · rw [pk_un h1]
      by_cases h2 : j + 1 ≤ i ∧ i < j + 1 + k
      · rw [if_pos h2, if_pos (show j ≤ i ∧ i < j + (k + 1) by omega)]
      · rw [if_neg h2, if_neg (show ¬ (j ≤ i ∧ i < j + (k + 1)) by omega)]
theorem pm_bst1 (hw : ∀ i, i < n → pm_rw r i) (hm : ∀ i, i < n → pm_RSm r g i) (h7 : n ≤ 7) {x c : Int32} {q gq : Nat → Int32} (hq : ∀ i, i < n → gq i = q i) : ∀ (k j : Nat) (a : Int32), j + k = n → (a = -1 ∨ ∃ m, m < n ∧ a = nI m) → d_X13_apportions_L4 x 1 f g c 0 gq k j a = d_X1_giveOneByOne_L2 n r q k j a := by
  have hz : ∀ j, j < 7 → (((0 : Int32) >>> ((nI j) &&& 31)) &&& 1) = 0 := by decide +kernel
  intro k
  induction k with
  | zero => intro j a _ _; rfl
  | succ k ih =>
    intro j a h ha
    have hj : j < n := by omega
    have hb := pm_bar (hw j hj) (hm j hj)
    have n1 := ih (j + 1) a (by omega) ha
    have n2 := ih (j + 1) (nI j) (by omega) (Or.inr ⟨j, hj, rfl⟩)
    simp only [d_X13_apportions_L4, d_X1_giveOneByOne_L2, hz j (by omega), n1, n2]
    by_cases hc : r (7 + 6 * j + 5) = 0
    · rw [if_pos hc, if_pos (hb.mp hc), if_pos trivial]
      by_cases h0 : a < 0
      · rw [if_pos h0, if_pos h0]
      · rw [if_neg h0, if_neg h0]
        rcases ha with rfl | ⟨m, hmn, rfl⟩
        · exact absurd (show (-1 : Int32) < 0 by decide) h0
        · have e : d_X13_isFirst j (pm_n (nI m)) x c 1 f g gq = d_X1_isGreater j (pm_n (nI m)) n r q := by
            unfold d_X13_isFirst d_X1_isGreater
            rw [if_neg (by decide), pm_n_nI (by omega), (hm j hj).1, (hm m hmn).1, hq j hj, hq m hmn]
          rw [e]
    · rw [if_neg hc, if_neg (fun e => hc (hb.mpr e))]
theorem pm_bst1N (h7 : n ≤ 7) {q : Nat → Int32} : ∀ (k j : Nat) (a : Int32), j + k = n → ((a = -1 ∧ ∃ i, j ≤ i ∧ i < n ∧ r (7 + 6 * i + 5) = 0) ∨ ∃ m, m < n ∧ a = nI m) → ∃ m, m < n ∧ d_X1_giveOneByOne_L2 n r q k j a = nI m := by
  intro k
  induction k with
  | zero =>
    intro j a h ha
    rcases ha with ⟨_, i, h1, h2, _⟩ | ha
    · omega
    · exact ha
  | succ k ih =>
    intro j a h ha
    have hj : j < n := by omega
    simp only [d_X1_giveOneByOne_L2]
    by_cases hc : r (7 + 6 * j + 5) = 0
    · rw [if_pos hc]
      split
      · exact ih _ _ (by omega) (Or.inr ⟨j, hj, rfl⟩)
      · rename_i h0
        have ha2 : ∃ m, m < n ∧ a = nI m := by
          rcases ha with ⟨rfl, _⟩ | ha
          · exact absurd (show (-1 : Int32) < 0 by decide) h0
          · exact ha
        split
        · exact ih _ _ (by omega) (Or.inr ha2)
        · exact ih _ _ (by omega) (Or.inr ⟨j, hj, rfl⟩)
    · rw [if_neg hc]
      refine ih _ _ (by omega) ?_
      rcases ha with ⟨e, i, h1, h2, h3⟩ | ha
      · refine Or.inl ⟨e, i, ?_, h2, h3⟩
        have : i ≠ j := fun e => hc (e ▸ h3)
        omega
      · exact Or.inr ha
theorem pm_lp1 (hw : ∀ i, i < n → pm_rw r i) (hm : ∀ i, i < n → pm_RSm r g i) (h7 : n ≤ 7) {x c : Int32} (hnb : ∃ i, i < n ∧ r (7 + 6 * i + 5) = 0) : ∀ (k j p : Nat) (a4 : Int32) (q gq : Nat → Int32), (∀ i, i < n → gq i = q i ∧ ∃ Q, q i = nI Q ∧ Q ≤ p) →
    (∀ i, i < n → (d_X13_apportions_L3 x 1 n f g c k a4 0 gq).2.2 i = d_X1_giveOneByOne_L1 n r k j q i ∧ ∃ Q, d_X1_giveOneByOne_L1 n r k j q i = nI Q ∧ Q ≤ p + k) ∧ pm_apS x 1 n f g c k 0 gq := by
  intro k
  induction k with
  | zero => intro j p a4 q gq h; exact ⟨h, trivial⟩
  | succ k ih =>
    intro j p a4 q gq h
    obtain ⟨i, hi, hb⟩ := hnb
    obtain ⟨m, hmn, em⟩ := pm_bst1N (r := r) h7 (q := q) n 0 (-1) (by omega) (Or.inl ⟨rfl, i, Nat.zero_le _, hi, hb⟩)
    have e4 : d_X13_apportions_L4 x 1 f g c 0 gq n 0 (-1) = nI m := (pm_bst1 hw hm h7 (fun i hi => (h i hi).1) n 0 (-1) (by omega) (Or.inl rfl)).trans em
    have hn0 : ¬ nI m < 0 := nI_pos (by omega)
    have h2 : ∀ i, i < n → upd gq m (gq m + 1) i = upd q m (q m + 1) i ∧ ∃ Q, upd q m (q m + 1) i = nI Q ∧ Q ≤ p + 1 := by
      intro i hi
      by_cases him : i = m
      · subst him
        obtain ⟨e, Q, hQ, hQp⟩ := h i hi
        rw [pk_us, pk_us, e, hQ, nI_1]
        exact ⟨rfl, Q + 1, rfl, by omega⟩
      · rw [pk_un him, pk_un him]
        obtain ⟨e, Q, hQ, hQp⟩ := h i hi
        exact ⟨e, Q, hQ, by omega⟩
    obtain ⟨g1, g2⟩ := ih (j + 1) (p + 1) (a4 + Int32.ofInt (-1)) _ _ h2
    simp only [d_X13_apportions_L3, d_X1_giveOneByOne_L1, pm_apS, e4, em, pm_n_nI (show m < 2 ^ 31 by omega)]
    rw [if_neg (show ¬ (1 : Int32) = 0 by decide), if_neg hn0, show (0 : Int32) ||| 0 = 0 from by decide]
    refine ⟨fun i hi => ?_, hn0, ?_⟩
    · obtain ⟨a, Q, b, c⟩ := g1 i hi
      exact ⟨a, Q, b, by omega⟩
    · rw [if_neg (show ¬ (1 : Int32) = 0 by decide)]
      exact g2
theorem pm_apN (hw : ∀ i, i < n → pm_rw r i) {T C j : Nat} (hT : T ≤ 300) (hC : 0 < C) (hC2 : C ≤ 693) (hj : j < n) (hb : r (7 + 6 * j + 5) = 0) : nI T * r (7 + 6 * j + 0) / nI C = nI (pm_fl T C r j) ∧ nI T * r (7 + 6 * j + 0) - nI T * r (7 + 6 * j + 0) / nI C * nI C = nI (pm_rq T C r j) := by
  have hc := (hw j hj).1
  have e : pm_cF r j = pm_n (r (7 + 6 * j + 0)) := if_pos hb
  have hle : T * pm_n (r (7 + 6 * j + 0)) ≤ 300 * 99 := Nat.mul_le_mul hT hc.2.2
  unfold pm_fl pm_rq
  rw [e]
  generalize pm_n (r (7 + 6 * j + 0)) = cp at hc hle
  rw [hc.1, pk_mul]
  exact ⟨pk_div (by omega) hC (by omega), pk_rem (by omega) hC (by omega)⟩
theorem pm_gv (hw : ∀ i, i < n → pm_rw r i) {T C : Nat} (hT : T ≤ 300) (hC : 0 < C) (hC2 : C ≤ 693) : ∀ (k j A : Nat) (q rm : Nat → Int32), j + k ≤ n → pm_sf (pm_fl T C r) k j ≤ A →
    (d_X1_giveByRemainders_L1 (nI T) (nI C) r k j (nI A) q rm).1 = nI (A - pm_sf (pm_fl T C r) k j) ∧
    (∀ i, (d_X1_giveByRemainders_L1 (nI T) (nI C) r k j (nI A) q rm).2.1 i = if j ≤ i ∧ i < j + k ∧ r (7 + 6 * i + 5) = 0 then nI (pm_fl T C r i) else q i) ∧
    (∀ i, (d_X1_giveByRemainders_L1 (nI T) (nI C) r k j (nI A) q rm).2.2 i = if j ≤ i ∧ i < j + k then (if r (7 + 6 * i + 5) = 0 then nI (pm_rq T C r i) else -1) else rm i) := by
  intro k
  induction k with
  | zero => intro j A q rm _ _; exact ⟨rfl, fun i => by rw [if_neg (by omega)]; rfl, fun i => by rw [if_neg (by omega)]; rfl⟩
  | succ k ih =>
    intro j A q rm h hA
    simp only [pm_sf] at hA
    simp only [d_X1_giveByRemainders_L1, pm_sf]
    by_cases hb : r (7 + 6 * j + 5) = 0
    · obtain ⟨e1, e2⟩ := pm_apN hw hT hC hC2 (show j < n by omega) hb
      rw [if_pos hb, e2, e1, pq_sub (by omega)]
      obtain ⟨a1, a2, a3⟩ := ih (j + 1) (A - pm_fl T C r j) (upd q j (nI (pm_fl T C r j))) (upd (upd rm j (-1)) j (nI (pm_rq T C r j))) (by omega) (by omega)
      refine ⟨by rw [a1, Nat.sub_sub], fun i => (a2 i).trans ?_, fun i => (a3 i).trans ?_⟩
      · by_cases h1 : i = j
        · subst h1; rw [if_neg (by omega), if_pos ⟨Nat.le_refl _, by omega, hb⟩, pk_us]
        · rw [pk_un h1]
          by_cases h2 : j + 1 ≤ i ∧ i < j + 1 + k ∧ r (7 + 6 * i + 5) = 0
          · rw [if_pos h2, if_pos ⟨by omega, by omega, h2.2.2⟩]
          · rw [if_neg h2, if_neg (fun h3 => h2 ⟨by omega, by omega, h3.2.2⟩)]
      · by_cases h1 : i = j
        · subst h1; rw [if_neg (by omega), if_pos (by omega), pk_us, if_pos hb]
        · rw [pk_un h1, pk_un h1]
          by_cases h2 : j + 1 ≤ i ∧ i < j + 1 + k
          · rw [if_pos h2, if_pos (show j ≤ i ∧ i < j + (k + 1) by omega)]
          · rw [if_neg h2, if_neg (show ¬ (j ≤ i ∧ i < j + (k + 1)) by omega)]
    · have ef : pm_fl T C r j = 0 := by unfold pm_fl; rw [show pm_cF r j = 0 from if_neg hb, Nat.mul_zero, Nat.zero_div]
      rw [if_neg hb, ef, Nat.zero_add]
      obtain ⟨a1, a2, a3⟩ := ih (j + 1) A q (upd rm j (-1)) (by omega) (by omega)
      refine ⟨a1, fun i => (a2 i).trans ?_, fun i => (a3 i).trans ?_⟩
      · by_cases h2 : j + 1 ≤ i ∧ i < j + 1 + k ∧ r (7 + 6 * i + 5) = 0
        · rw [if_pos h2, if_pos ⟨by omega, by omega, h2.2.2⟩]
        · rw [if_neg h2, if_neg (fun h3 => h2 ⟨by have : i ≠ j := fun e => hb (e ▸ h3.2.2)
                                                  omega, by omega, h3.2.2⟩)]
      · by_cases h1 : i = j
        · subst h1; rw [if_neg (by omega), if_pos (by omega), pk_us, if_neg hb]
        · rw [pk_un h1]
          by_cases h2 : j + 1 ≤ i ∧ i < j + 1 + k
          · rw [if_pos h2, if_pos (show j ≤ i ∧ i < j + (k + 1) by omega)]
          · rw [if_neg h2, if_neg (show ¬ (j ≤ i ∧ i < j + (k + 1)) by omega)]
theorem pm_gvM (hw : ∀ i, i < n → pm_rw r i) (hm : ∀ i, i < n → pm_RSm r g i) {T C : Nat} (hT : T ≤ 300) (hC : 0 < C) (hC2 : C ≤ 693) : ∀ (k j A : Nat) (gq : Nat → Int32), j + k ≤ n → pm_sf (pm_fl T C r) k j ≤ A →
    (d_X13_apportions_L2 (nI T) 0 g (nI C) k j (nI A) gq).1 = nI (A - pm_sf (pm_fl T C r) k j) ∧
    (∀ i, (d_X13_apportions_L2 (nI T) 0 g (nI C) k j (nI A) gq).2 i = if j ≤ i ∧ i < j + k then nI (pm_fl T C r i) else gq i) := by
  intro k
  induction k with
  | zero => intro j A gq _ _; exact ⟨rfl, fun i => by rw [if_neg (by omega)]; rfl⟩
  | succ k ih =>
    intro j A gq h hA
    have hbr := pm_bar (hw j (by omega)) (hm j (by omega))
    simp only [pm_sf] at hA
    simp only [d_X13_apportions_L2, pm_sf]
    rw [if_pos trivial]
    have hz : ∀ i, (if j + 1 ≤ i ∧ i < j + 1 + k then nI (pm_fl T C r i) else upd gq j (nI (pm_fl T C r j)) i) = if j ≤ i ∧ i < j + (k + 1) then nI (pm_fl T C r i) else gq i := by
      intro i
      by_cases h1 : i = j
      · subst h1; rw [if_neg (by omega), if_pos (by omega), pk_us]
      · rw [pk_un h1]
        by_cases h2 : j + 1 ≤ i ∧ i < j + 1 + k
        · rw [if_pos h2, if_pos (show j ≤ i ∧ i < j + (k + 1) by omega)]
        · rw [if_neg h2, if_neg (show ¬ (j ≤ i ∧ i < j + (k + 1)) by omega)]
    by_cases hb : r (7 + 6 * j + 5) = 0
    · obtain ⟨e1, e2⟩ := pm_apN hw hT hC hC2 (show j < n by omega) hb
      rw [if_pos (hbr.mp hb), (hm j (by omega)).1, e1, pq_sub (by omega)]
      obtain ⟨a1, a2⟩ := ih (j + 1) (A - pm_fl T C r j) (upd gq j (nI (pm_fl T C r j))) (by omega) (by omega)
      exact ⟨by rw [a1, Nat.sub_sub], fun i => (a2 i).trans (hz i)⟩
    · have ef : pm_fl T C r j = 0 := by unfold pm_fl; rw [show pm_cF r j = 0 from if_neg hb, Nat.mul_zero, Nat.zero_div]
      rw [if_neg (fun e => hb (hbr.mpr e)), Int32.sub_zero, show upd gq j 0 = upd gq j (nI (pm_fl T C r j)) by rw [ef]; rfl]
      obtain ⟨a1, a2⟩ := ih (j + 1) A (upd gq j (nI (pm_fl T C r j))) (by omega) (by omega)
      exact ⟨by rw [a1, ef, Nat.zero_add], fun i => (a2 i).trans (hz i)⟩
/-- who may still be given a unit; who comes ahead of whom -/
def pm_cd (r : Nat → Int32) (D i : Nat) : Prop := r (7 + 6 * i + 5) = 0 ∧ D / 2 ^ i % 2 = 0
def pm_ahd (T C : Nat) (r : Nat → Int32) (i m : Nat) : Prop := pm_rq T C r m < pm_rq T C r i ∨ (pm_rq T C r i = pm_rq T C r m ∧ i < m)
theorem pm_bst0 (hw : ∀ i, i < n → pm_rw r i) (hm : ∀ i, i < n → pm_RSm r g i) (h7 : n ≤ 7) {T C D : Nat} {gq : Nat → Int32} (hT : T ≤ 300) (hC : 0 < C) (hC2 : C ≤ 693) (hD : D < 128) : ∀ (k j : Nat) (a : Int32), j + k = n → ((a = -1 ∧ ∀ i, i < j → ¬ pm_cd r D i) ∨ ∃ m, m < j ∧ a = nI m ∧ pm_cd r D m ∧ ∀ i, i < j → pm_cd r D i → i ≠ m → pm_ahd T C r m i) → (∃ i, i < n ∧ pm_cd r D i) →
    ∃ m, m < n ∧ d_X13_apportions_L4 (nI T) 0 f g (nI C) (nI D) gq k j a = nI m ∧ pm_cd r D m ∧ ∀ i, i < n → pm_cd r D i → i ≠ m → pm_ahd T C r m i := by
  have hz : ∀ D, D < 128 → ∀ j, j < 7 → (((nI D) >>> ((nI j) &&& 31)) &&& 1) = nI (D / 2 ^ j % 2) := by decide +kernel
  intro k
  induction k with
  | zero =>
    intro j a h ha hex
    obtain rfl : j = n := by omega
    rcases ha with ⟨_, ha⟩ | ⟨m, h1, h2, h3, h4⟩
    · obtain ⟨i, hi, hc⟩ := hex
      exact absurd hc (ha i hi)
    · exact ⟨m, h1, h2, h3, h4⟩
  | succ k ih =>
    intro j a h ha hex
    have hj : j < n := by omega
    have hb := pm_bar (hw j hj) (hm j hj)
    simp only [d_X13_apportions_L4, hz D hD j (by omega)]
    by_cases hc : r (7 + 6 * j + 5) = 0
    · rw [if_pos (hb.mp hc)]
      by_cases hd : D / 2 ^ j % 2 = 0
      · rw [if_pos (show nI (D / 2 ^ j % 2) = 0 by rw [hd]; rfl)]
        rcases ha with ⟨rfl, ha⟩ | ⟨m, h1, rfl, h3, h4⟩
        · rw [if_pos (show (-1 : Int32) < 0 by decide)]
          exact ih (j + 1) _ (by omega) (Or.inr ⟨j, by omega, rfl, ⟨hc, hd⟩, fun i hi hci hij => absurd hci (ha i (by omega))⟩) hex
        · rw [if_neg (nI_pos (by omega))]
          have e : d_X13_isFirst j (pm_n (nI m)) (nI T) (nI C) 0 f g gq = if pm_rq T C r j ≤ pm_rq T C r m then 0 else 1 := by
            unfold d_X13_isFirst
            have hlt : ∀ i, pm_rq T C r i < C := fun i => Nat.mod_lt _ hC
            have l1 := hlt j
            have l2 := hlt m
            rw [if_pos (show (0 : Int32) = 0 from rfl), pm_n_nI (by omega), (hm j hj).1, (hm m (by omega)).1, (pm_apN hw hT hC hC2 hj hc).2, (pm_apN hw hT hC hC2 (show m < n by omega) h3.1).2]
            by_cases hle : pm_rq T C r j ≤ pm_rq T C r m
            · rw [if_pos hle, if_pos (nI_le hle (by omega))]
            · rw [if_neg hle, if_neg (nI_ge (by omega) (by omega))]
          rw [e]
          by_cases hle : pm_rq T C r j ≤ pm_rq T C r m
          · rw [if_pos hle, if_pos rfl]
            refine ih (j + 1) _ (by omega) (Or.inr ⟨m, by omega, rfl, h3, fun i hi hci hij => ?_⟩) hex
            by_cases hij2 : i = j
            · subst hij2
              unfold pm_ahd
              omega
            · exact h4 i (by omega) hci hij
          · rw [if_neg hle, if_neg (by decide)]
            refine ih (j + 1) _ (by omega) (Or.inr ⟨j, by omega, rfl, ⟨hc, hd⟩, fun i hi hci hij => ?_⟩) hex
            by_cases him : i = m
            · subst him
              unfold pm_ahd
              omega
            · have := h4 i (by omega) hci him
              unfold pm_ahd at this ⊢
              omega
      · rw [if_neg (show ¬ nI (D / 2 ^ j % 2) = 0 from nI_ne0 (by omega) (by omega))]
        refine ih (j + 1) _ (by omega) ?_ hex
        rcases ha with ⟨e, ha⟩ | ⟨m, h1, h2, h3, h4⟩
        · refine Or.inl ⟨e, fun i hi hci => ?_⟩
          by_cases hij : i = j
          · exact hd (hij ▸ hci.2)
          · exact ha i (by omega) hci
        · refine Or.inr ⟨m, by omega, h2, h3, fun i hi hci him => ?_⟩
          by_cases hij : i = j
          · exact absurd (hij ▸ hci.2) hd
          · exact h4 i (by omega) hci him
    · rw [if_neg (fun e => hc (hb.mpr e))]
      refine ih (j + 1) _ (by omega) ?_ hex
      rcases ha with ⟨e, ha⟩ | ⟨m, h1, h2, h3, h4⟩
      · refine Or.inl ⟨e, fun i hi hci => ?_⟩
        by_cases hij : i = j
        · exact hc (hij ▸ hci.1)
        · exact ha i (by omega) hci
      · refine Or.inr ⟨m, by omega, h2, h3, fun i hi hci him => ?_⟩
        by_cases hij : i = j
        · exact absurd (hij ▸ hci.1) hc
        · exact h4 i (by omega) hci him
/-- the members that have a unit more -/
def pm_gvn (T C n : Nat) (r : Nat → Int32) (D p : Nat) : Prop := D < 128 ∧ pm_pc D n = p ∧ (∀ i, i < n → D / 2 ^ i % 2 = 1 → r (7 + 6 * i + 5) = 0) ∧ (∀ i m, i < n → m < n → D / 2 ^ i % 2 = 1 → pm_cd r D m → pm_ahd T C r i m)
theorem pm_lp0 (hw : ∀ i, i < n → pm_rw r i) (hm : ∀ i, i < n → pm_RSm r g i) (h7 : n ≤ 7) {T C : Nat} (hT : T ≤ 300) (hC : 0 < C) (hC2 : C ≤ 693) : ∀ (k p D : Nat) (a4 : Int32) (gq : Nat → Int32), pm_gvn T C n r D p → p + k ≤ pm_sf (pm_nbr r) n 0 → (∀ i, i < n → gq i = nI (pm_fl T C r i + D / 2 ^ i % 2)) →
    pm_apS (nI T) 0 n f g (nI C) k (nI D) gq ∧ ∃ D', pm_gvn T C n r D' (p + k) ∧ ∀ i, i < n → (d_X13_apportions_L3 (nI T) 0 n f g (nI C) k a4 (nI D) gq).2.2 i = nI (pm_fl T C r i + D' / 2 ^ i % 2) := by
  have ho : ∀ D, D < 128 → ∀ m, m < 7 → nI D ||| ((1 : Int32) <<< (nI m &&& 31)) = nI (D ||| 2 ^ m) ∧ D ||| 2 ^ m < 128 := by decide +kernel
  have hbt : ∀ D, D < 128 → ∀ m, m < 7 → ∀ j, j < 7 → (D ||| 2 ^ m) / 2 ^ j % 2 = if j = m then 1 else D / 2 ^ j % 2 := by decide +kernel
  have hpc : ∀ D, D < 128 → ∀ m, m < 7 → D / 2 ^ m % 2 = 0 → ∀ n, n < 8 → m < n → pm_pc (D ||| 2 ^ m) n = pm_pc D n + 1 := by decide +kernel
  intro k
  induction k with
  | zero => intro p D a4 gq h _ hg; exact ⟨trivial, D, h, hg⟩
  | succ k ih =>
    intro p D a4 gq h hp hg
    obtain ⟨d1, d2, d3, d4⟩ := h
    have hex : ∃ i, i < n ∧ pm_cd r D i := by
      apply Classical.byContradiction
      intro hno
      have := pm_pc_sf (F := pm_nbr r) (D := D) n (fun i hi => by
        unfold pm_nbr
        split
        · rename_i hb
          have : ¬ D / 2 ^ i % 2 = 0 := fun e => hno ⟨i, hi, hb, e⟩
          omega
        · omega)
      omega
    obtain ⟨m, m1, m2, m3, m4⟩ := pm_bst0 (f := f) (gq := gq) hw hm h7 hT hC hC2 d1 n 0 (-1) (by omega) (Or.inl ⟨rfl, fun i hi => by omega⟩) hex
    have hm7 : m < 7 := by omega
    have b2 : ∀ i, i < n → (D ||| 2 ^ m) / 2 ^ i % 2 = if i = m then 1 else D / 2 ^ i % 2 := fun i hi => hbt D d1 m hm7 i (by omega)
    have g2 : pm_gvn T C n r (D ||| 2 ^ m) (p + 1) := by
      refine ⟨(ho D d1 m hm7).2, by rw [hpc D d1 m hm7 m3.2 n (by omega) m1, d2], fun i hi hb => ?_, fun i t hi ht hb hct => ?_⟩
      · rw [b2 i hi] at hb
        by_cases him : i = m
        · subst him; exact m3.1
        · rw [if_neg him] at hb; exact d3 i hi hb
      · have htm : t ≠ m := by
          intro e
          have h5 := hct.2
          rw [b2 t ht, if_pos e] at h5
          omega
        have hct2 : pm_cd r D t := by
          have h5 := hct.2
          rw [b2 t ht, if_neg htm] at h5
          exact ⟨hct.1, h5⟩
        rw [b2 i hi] at hb
        by_cases him : i = m
        · subst him; exact m4 t ht hct2 htm
        · rw [if_neg him] at hb; exact d4 i t hi ht hb hct2
    have hq2 : ∀ i, i < n → upd gq m (gq m + 1) i = nI (pm_fl T C r i + (D ||| 2 ^ m) / 2 ^ i % 2) := by
      intro i hi
      rw [b2 i hi]
      by_cases him : i = m
      · subst him; rw [pk_us, hg i hi, m3.2, nI_1, if_pos rfl]
      · rw [pk_un him, if_neg him]; exact hg i hi
    obtain ⟨s1, D', s2, s3⟩ := ih (p + 1) (D ||| 2 ^ m) (a4 + Int32.ofInt (-1)) _ g2 (by omega) hq2
    simp only [d_X13_apportions_L3, pm_apS, m2, pm_n_nI (show m < 2 ^ 31 by omega), (ho D d1 m hm7).1]
    rw [if_pos trivial, if_pos trivial]
    exact ⟨⟨nI_pos (by omega), s1⟩, D', by rw [show p + (k + 1) = p + 1 + k by omega]; exact s2, s3⟩
end PAP
