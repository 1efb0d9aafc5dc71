/-! more askers, class and reference -/
section PAT
variable {n : Nat} {r g f to : Nat → Int32} {x y w : Int32}
theorem pm_nlk {i k : Nat} (hl : pm_Il n r) (sl : pm_RSl r g) (hi : i < 7) (hk : k < 7) : (if (r (49 + i) >>> (nI k &&& 31)) &&& 1 = 1 then (1 : Int32) else 0) = d_X13_linked i k f g := by
  unfold d_X13_linked
  rw [pm_bitL (hl.1 i hi).1 (hl.1 i hi).2 hk, sl i k hi hk]
theorem pm_a_areLinked (hRS : pm_RS n r g) (hl : pm_Il n r) (h7 : n ≤ 7) : pm_AS (d_X12_areLinked x y n r to).1 (d_X12_areLinked x y n r to).2 ((d_X13_areLinked x y n f g).2 6) (d_X13_areLinked x y n f g).1 [(1, 1)] := by
  unfold d_X12_areLinked d_X13_areLinked
  rw [pm_hm (r := r) h7, pm_hm (r := r) h7]
  by_cases hm : d_X10_hasMember x n r = 0
  · rw [if_pos hm, if_pos hm]
    exact Or.inr ⟨(1, 1), List.mem_cons_self, rfl, (by dsimp only; rw [pk_us] <;> rfl)⟩
  rw [if_neg hm, if_neg hm]
  by_cases hm2 : d_X10_hasMember y n r = 0
  · rw [if_pos hm2, if_pos hm2]
    exact Or.inr ⟨(1, 1), List.mem_cons_self, rfl, (by dsimp only; rw [pk_us] <;> rfl)⟩
  rw [if_neg hm2, if_neg hm2]
  obtain ⟨i, hi, rfl⟩ := pm_hmx h7 hm
  obtain ⟨k, hk, rfl⟩ := pm_hmx h7 hm2
  rw [pm_n_nI (by omega), pm_n_nI (by omega)]
  have e := pm_nlk (f := upd f 6 (pm_th 1)) hl hRS.2.2 (show i < 7 by omega) (show k < 7 by omega)
  by_cases hz : d_X13_linked i k (upd f 6 (pm_th 1)) g = 0
  · rw [if_pos hz]
    exact Or.inl ⟨rfl, (by dsimp only; rw [pk_us] <;> rfl), e.trans hz⟩
  · rw [if_neg hz]
    refine Or.inl ⟨rfl, (by dsimp only; rw [pk_us] <;> rfl), e.trans ?_⟩
    unfold d_X13_linked at hz ⊢
    split
    · rfl
    · rename_i h2
      rw [if_neg h2] at hz
      exact absurd rfl hz
theorem pm_fr_areLinked {j : Nat} (hj : j ≠ 6) : (d_X13_areLinked x y n f g).2 j = f j := by
  unfold d_X13_areLinked
  (repeat' split) <;> exact pk_un hj
theorem pm_a_quotaBy {q rm gq : Nat → Int32} (hRS : pm_RS n r g) (hw : ∀ i, i < n → pm_rw r i) (h7 : n ≤ 7) : pm_AS (d_X12_quotaBy x y w n r q rm to).1 (d_X12_quotaBy x y w n r q rm to).2.1 ((d_X13_quotaBy x y w n f g gq).2.1 6) (d_X13_quotaBy x y w n f g gq).1 [(1, 1), (2, 2)] := by
  unfold d_X12_quotaBy d_X13_quotaBy
  rw [pm_hm (r := r) h7]
  by_cases hm : d_X10_hasMember x n r = 0
  · rw [if_pos hm, if_pos hm]
    exact Or.inr ⟨(1, 1), List.mem_cons_self, rfl, (by dsimp only; rw [pk_us] <;> rfl)⟩
  rw [if_neg hm, if_neg hm]
  by_cases h1 : pm_in y 0 300 = 0
  · rw [if_pos h1, if_pos h1]
    exact Or.inr ⟨(2, 2), List.mem_cons_of_mem _ List.mem_cons_self, rfl, (by dsimp only; rw [pk_us] <;> rfl)⟩
  rw [if_neg h1, if_neg h1]
  by_cases h2 : pm_in w 0 1 = 0
  · rw [if_pos h2, if_pos h2]
    exact Or.inr ⟨(2, 2), List.mem_cons_of_mem _ List.mem_cons_self, rfl, (by dsimp only; rw [pk_us] <;> rfl)⟩
  rw [if_neg h2, if_neg h2]
  obtain ⟨i, hi, rfl⟩ := pm_hmx h7 hm
  obtain ⟨T, rfl, _, hT⟩ := pm_inR (lo := 0) (hi := 300) (by decide) (by decide) h1
  obtain ⟨wk, rfl, _, hwk⟩ := pm_inR (lo := 0) (hi := 1) (by decide) (by decide) h2
  obtain ⟨⟨Q, hQ⟩, _⟩ := pm_apEq (y := nI wk) (f := upd f 6 0) (q := q) (rm := rm) (gq := gq) hw hRS.2.1 h7 hT (by
    rcases (show wk = 0 ∨ wk = 1 by omega) with rfl | rfl
    · exact Or.inl rfl
    · exact Or.inr rfl)
  obtain ⟨_, q1, q2⟩ := hQ i hi
  rw [pm_n_nI (by omega)]
  exact Or.inl ⟨rfl, (by dsimp only; rw [pk_us] <;> rfl), q1.trans q2.symm⟩
theorem pm_fr_quotaBy {gq : Nat → Int32} {j : Nat} (hj : j ≠ 6) : (d_X13_quotaBy x y w n f g gq).2.1 j = f j := by
  unfold d_X13_quotaBy
  (repeat' split) <;> exact pk_un hj
theorem pm_okq (hRS : pm_RS n r g) (hw : ∀ i, i < n → pm_rw r i) (h7 : n ≤ 7) : ¬ pm_in y 0 300 = 0 → ¬ pm_in w 0 1 = 0 → ∀ f gq, pm_apOK y w n f g gq := by
  intro h1 h2 f gq
  obtain ⟨T, rfl, _, hT⟩ := pm_inR (lo := 0) (hi := 300) (by decide) (by decide) h1
  obtain ⟨wk, rfl, _, hwk⟩ := pm_inR (lo := 0) (hi := 1) (by decide) (by decide) h2
  exact (pm_apEq (y := nI wk) (f := f) (q := fun _ => 0) (rm := fun _ => 0) (gq := gq) hw hRS.2.1 h7 hT (by
    rcases (show wk = 0 ∨ wk = 1 by omega) with rfl | rfl
    · exact Or.inl rfl
    · exact Or.inr rfl)).2
/-- ranks -/
theorem pm_ovr (hRS : pm_RS n r g) (hw : ∀ i, i < n → pm_rw r i) {i : Nat} (hi : i < n) : ∃ v s : Nat, v ≤ 99 ∧ s ≤ 99 ∧ pm_max 0 (r (7 + 6 * i + 3) - r (7 + 6 * i + 2)) = nI v ∧ pm_mv g i = nI v ∧ r (7 + 6 * i + 3) = nI s ∧ g (7 + 5 * i + 3) = nI s := by
  obtain ⟨⟨w0, w0a, w0b⟩, w1, ⟨w2, w2a⟩, ⟨w3, w3a⟩, w4⟩ := hw i hi
  have e : pm_max 0 (r (7 + 6 * i + 3) - r (7 + 6 * i + 2)) = nI (pm_n (r (7 + 6 * i + 3)) - pm_n (r (7 + 6 * i + 2))) := by rw [w3, w2, pm_n_nI (by omega), pm_n_nI (by omega), pq_over (by omega) (by omega)]
  refine ⟨_, pm_n (r (7 + 6 * i + 3)), by omega, by omega, e, ?_, w3, ?_⟩
  · unfold pm_mv
    rw [(hRS.2.1 i hi).2.2.1, (hRS.2.1 i hi).2.2.2.1]
    exact e
  · rw [(hRS.2.1 i hi).2.2.2.1]
    exact w3
theorem pm_sgn {a c : Nat} (ha : a ≤ 99) (hc : c ≤ 99) : (0 < nI a - nI c ↔ c < a) ∧ (nI a - nI c = 0 ↔ a = c) := by
  have h : ∀ a, a < 100 → ∀ c, c < 100 → ((0 : Int32) < nI a - nI c ↔ c < a) ∧ (nI a - nI c = 0 ↔ a = c) := by decide +kernel
  exact h a (by omega) c (by omega)
theorem pm_rkL (hRS : pm_RS n r g) (hw : ∀ i, i < n → pm_rw r i) (h7 : n ≤ 7) {i : Nat} (hi : i < n) : ∀ (k j : Nat) (a : Int32), j + k = n → d_X13_memberByExcess_L2 g i k j a = d_X10_membersAheadOf_L1 i n r k j a := by
  obtain ⟨vi, si, a1, a2, a3, a4, a5, a6⟩ := pm_ovr hRS hw hi
  intro k
  induction k with
  | zero => intro j a _; rfl
  | succ k ih =>
    intro j a h
    obtain ⟨vj, sj, b1, b2, b3, b4, b5, b6⟩ := pm_ovr hRS hw (show j < n by omega)
    have sv := pm_sgn b1 a1
    have ss := pm_sgn b2 a2
    have e : d_X10_isAhead j i n r = if vj = vi then (if sj = si then (if i ≤ j then 0 else 1) else (if sj ≤ si then 0 else 1)) else (if vj ≤ vi then 0 else 1) := by
      unfold d_X10_isAhead
      rw [a3, b3, a5, b5]
      simp only [nI_eq (show vj < 2 ^ 31 by omega) (show vi < 2 ^ 31 by omega), nI_eq (show sj < 2 ^ 31 by omega) (show si < 2 ^ 31 by omega), nI_leI (show i < 2 ^ 31 by omega) (show j < 2 ^ 31 by omega), nI_leI (show sj < 2 ^ 31 by omega) (show si < 2 ^ 31 by omega), nI_leI (show vj < 2 ^ 31 by omega) (show vi < 2 ^ 31 by omega)]
    simp only [d_X13_memberByExcess_L2, d_X10_membersAheadOf_L1, e, b4, a4, b6, a6, sv.1, sv.2, ss.1, ss.2, nI_leI (show i < 2 ^ 31 by omega) (show j < 2 ^ 31 by omega), ih (j + 1) _ (show j + 1 + k = n by omega)]
    by_cases c1 : vj = vi
    · subst c1
      rw [if_neg (show ¬ vj < vj by omega), if_pos rfl, if_pos rfl]
      by_cases c2 : sj = si
      · subst c2
        rw [if_neg (show ¬ sj < sj by omega), if_pos rfl, if_pos rfl]
        by_cases c3 : i ≤ j
        · rw [if_pos c3, if_pos c3, if_pos rfl]
        · rw [if_neg c3, if_neg c3, if_neg (by decide)]
      · rw [if_neg c2, if_neg c2]
        by_cases c3 : sj ≤ si
        · rw [if_neg (show ¬ si < sj by omega), if_pos c3, if_pos rfl]
        · rw [if_pos (show si < sj by omega), if_neg c3, if_neg (by decide)]
    · rw [if_neg c1, if_neg c1]
      by_cases c3 : vj ≤ vi
      · rw [if_neg (show ¬ vi < vj by omega), if_pos c3, if_pos rfl]
      · rw [if_pos (show vi < vj by omega), if_neg c3, if_neg (by decide)]
end PAT
