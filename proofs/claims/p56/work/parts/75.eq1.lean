/-! what the answers of the parser keep to -/
theorem pm_rdc_L {i t : Nat} {tx sc : Nat → Int32} : ∀ (k j : Nat) (a3 : Int32) (fs sd s1 c1 : Nat → Int32), j + k ≤ 11 →
    let Rr := d_X9_readCommand_L1 i t tx sc (fun (a3_1 : Int32) (fs_1 : (Nat → Int32)) (sd_1 : (Nat → Int32)) (sc_1 : (Nat → Int32)) (cc_1 : (Nat → Int32)) => (0, fs_1, sd_1, (upd sc_1 6 (nI (pm_n a3_1))), cc_1)) k j a3 fs sd s1 c1
    Rr.1 = 0 ∨ ∃ c, c < 11 ∧ Rr.2.2.2.2 = upd c1 i (nI c) := by
  intro k
  induction k with
  | zero =>
    intro j a3 fs sd s1 c1 _
    exact Or.inl rfl
  | succ k ih =>
    intro j a3 fs sd s1 c1 hj
    simp only [d_X9_readCommand_L1]
    split
    · exact ih (j + 1) _ _ _ _ _ (by omega)
    · exact Or.inr ⟨j, by omega, rfl⟩
theorem pm_rdc {i t : Nat} {tx fs sd sc cc : Nat → Int32} (h : ¬ (d_X9_readCommand i t tx fs sd sc cc).1 = 0) : ∃ c, c < 11 ∧ (d_X9_readCommand i t tx fs sd sc cc).2.2.2.2 = upd cc i (nI c) := by
  rcases pm_rdc_L (i := i) (t := t) (tx := tx) (sc := sc) 11 0 (nI (pm_n (sc 6))) fs sd sc cc (by decide) with h1 | h1
  · exact absurd h1 h
  · exact h1
theorem pm_prs_L {t : Nat} {tx : Nat → Int32} : ∀ (k j : Nat) (fs sd s1 c1 : Nat → Int32), j + k = 11 → (∀ i, i < j → pm_n (c1 i) < 11) →
    let Rr := d_X9_parse_L1 t tx (fun (fs_1 : (Nat → Int32)) (sd_1 : (Nat → Int32)) (sc_1 : (Nat → Int32)) (cc_1 : (Nat → Int32)) => (0, fs_1, sd_1, sc_1, cc_1)) k j fs sd s1 c1
    Rr.1 = 0 ∨ ∃ cm, Rr.2.2.2.1 5 = nI cm ∧ cm ≤ 11 ∧ ∀ i, i < cm → pm_n (Rr.2.2.2.2 i) < 11 := by
  intro k
  induction k with
  | zero =>
    intro j fs sd s1 c1 _ _
    exact Or.inl rfl
  | succ k ih =>
    intro j fs sd s1 c1 hj hc
    simp only [d_X9_parse_L1]
    split
    · exact Or.inl rfl
    · next h0 =>
      obtain ⟨c, hc11, e⟩ := pm_rdc h0
      have hc2 : ∀ i, i < j + 1 → pm_n ((d_X9_readCommand j t tx fs sd s1 c1).2.2.2.2 i) < 11 := by
        intro i hi
        rw [e]
        by_cases hij : i = j
        · subst hij
          rw [pk_us, pm_n_nI (by omega)]
          exact hc11
        · rw [pk_un hij]
          exact hc i (by omega)
      split
      · split
        · exact ih (j + 1) _ _ _ _ (by omega) hc2
        · exact Or.inl rfl
      · exact Or.inr ⟨j + 1, (show upd (d_X9_readCommand j t tx fs sd s1 c1).2.2.2.1 5 (nI (j + 1)) 5 = nI (j + 1) from pk_us), by omega, hc2⟩
theorem pm_prs {t : Nat} {tx fs sd sc cc : Nat → Int32} (h : ¬ (d_X9_parse t tx fs sd sc cc).1 = 0) : ∃ cm, (d_X9_empty (d_X9_parse t tx fs sd sc cc).2.2.2.1) 5 = nI cm ∧ cm ≤ 11 ∧ ∀ i, i < cm → pm_n ((d_X9_parse t tx fs sd sc cc).2.2.2.2 i) < 11 := by
  rcases pm_prs_L (t := t) (tx := tx) 11 0 fs sd (upd (upd sc 5 0) 6 0) cc rfl (fun i hi => by omega) with h1 | ⟨cm, h1, h2, h3⟩
  · exact absurd h1 h
  · exact ⟨cm, (pk_un (by decide)).trans h1, h2, h3⟩
theorem pm_has {i n : Nat} {r : Nat → Int32} (hi : i < n) (hn : n ≤ 7) : ¬ d_X10_hasMember (nI i) n r = 0 := by
  unfold d_X10_hasMember
  rw [if_neg (pm_lt0 (x := i) (by omega)), if_neg (show ¬ nI n ≤ nI i from Int32.not_le.mpr (nI_lt hi (by omega)))]
  decide
