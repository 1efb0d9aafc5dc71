/-! pure rows: watchers, coalitions, ways, camps, doubles, shares -/
theorem pm_le0e {a : Int32} (h : ¬ a < 0) : a ≤ 0 ↔ a = 0 := ⟨fun h1 => Int32.le_antisymm h1 (Int32.not_lt.mp h), fun e => by rw [e]; decide⟩
section PAT
variable {n : Nat} {r g f to : Nat → Int32} {x y w : Int32}
theorem pm_nlk {i k : Nat} (hl : pm_Il n r) (sl : pm_RSl r g) (hi : i < 7) (hk : k < 7) : (if (r (49 + i) >>> (nI k &&& 31)) &&& 1 = 1 then (1 : Int32) else 0) = d_X13_linked i k f g := by
  unfold d_X13_linked
  rw [pm_bitL (hl.1 i hi).1 (hl.1 i hi).2 hk, sl i k hi hk]
theorem pm_okq (hRS : pm_RS n r g) (hw : ∀ i, i < n → pm_rw r i) (h7 : n ≤ 7) : ¬ pm_in y 0 300 = 0 → ¬ pm_in w 0 1 = 0 → ∀ f gq, pm_apOK y w n f g gq := by
  intro h1 h2 f gq
  obtain ⟨T, rfl, _, hT⟩ := pm_inR (lo := 0) (hi := 300) (by decide) (by decide) h1
  obtain ⟨wk, rfl, _, hwk⟩ := pm_inR (lo := 0) (hi := 1) (by decide) (by decide) h2
  exact (pm_apEq (y := nI wk) (f := f) (q := fun _ => 0) (rm := fun _ => 0) (gq := gq) hw hRS.2.1 h7 hT (by
    rcases (show wk = 0 ∨ wk = 1 by omega) with rfl | rfl
    · exact Or.inl rfl
    · exact Or.inr rfl)).2
/-- ranks -/
theorem pm_ovr (hRS : pm_RS n r g) (hw : ∀ i, i < n → pm_rw r i) {i : Nat} (hi : i < n) : ∃ v s : Nat, v ≤ 99 ∧ s ≤ 99 ∧ pm_max 0 (r (7 + 6 * i + 3) - r (7 + 6 * i + 2)) = nI v ∧ pm_mv g i = nI v ∧ r (7 + 6 * i + 3) = nI s ∧ g (7 + 5 * i + 3) = nI s := by
  obtain ⟨⟨w0, w0a, w0b⟩, w1, ⟨w2, w2a⟩, ⟨w3, w3a⟩, w4⟩ := hw i hi
  have e : pm_max 0 (r (7 + 6 * i + 3) - r (7 + 6 * i + 2)) = nI (pm_n (r (7 + 6 * i + 3)) - pm_n (r (7 + 6 * i + 2))) := by rw [w3, w2, pm_n_nI (by omega), pm_n_nI (by omega), pq_over (by omega) (by omega)]
  refine ⟨_, pm_n (r (7 + 6 * i + 3)), by omega, by omega, e, ?_, w3, ?_⟩
  · unfold pm_mv
    rw [(hRS.2.1 i hi).2.2.1, (hRS.2.1 i hi).2.2.2.1]
    exact e
  · rw [(hRS.2.1 i hi).2.2.2.1]
    exact w3
theorem pm_sgn {a c : Nat} (ha : a ≤ 99) (hc : c ≤ 99) : (0 < nI a - nI c ↔ c < a) ∧ (nI a - nI c = 0 ↔ a = c) := by
  have h : ∀ a, a < 100 → ∀ c, c < 100 → ((0 : Int32) < nI a - nI c ↔ c < a) ∧ (nI a - nI c = 0 ↔ a = c) := by decide +kernel
  exact h a (by omega) c (by omega)
theorem pm_rkL (hRS : pm_RS n r g) (hw : ∀ i, i < n → pm_rw r i) (h7 : n ≤ 7) {i : Nat} (hi : i < n) : ∀ (k j : Nat) (a : Int32), j + k = n → d_X13_memberByExcess_L2 g i k j a = d_X10_membersAheadOf_L1 i n r k j a := by
  obtain ⟨vi, si, a1, a2, a3, a4, a5, a6⟩ := pm_ovr hRS hw hi
  intro k
  induction k with
  | zero => intro j a _; rfl
  | succ k ih =>
    intro j a h
    obtain ⟨vj, sj, b1, b2, b3, b4, b5, b6⟩ := pm_ovr hRS hw (show j < n by omega)
    have sv := pm_sgn b1 a1
    have ss := pm_sgn b2 a2
    have e : d_X10_isAhead j i n r = if vj = vi then (if sj = si then (if i ≤ j then 0 else 1) else (if sj ≤ si then 0 else 1)) else (if vj ≤ vi then 0 else 1) := by
      unfold d_X10_isAhead
      rw [a3, b3, a5, b5]
      simp only [nI_eq (show vj < 2 ^ 31 by omega) (show vi < 2 ^ 31 by omega), nI_eq (show sj < 2 ^ 31 by omega) (show si < 2 ^ 31 by omega), nI_leI (show i < 2 ^ 31 by omega) (show j < 2 ^ 31 by omega), nI_leI (show sj < 2 ^ 31 by omega) (show si < 2 ^ 31 by omega), nI_leI (show vj < 2 ^ 31 by omega) (show vi < 2 ^ 31 by omega)]
    simp only [d_X13_memberByExcess_L2, d_X10_membersAheadOf_L1, e, b4, a4, b6, a6, sv.1, sv.2, ss.1, ss.2, nI_leI (show i < 2 ^ 31 by omega) (show j < 2 ^ 31 by omega), ih (j + 1) _ (show j + 1 + k = n by omega)]
    by_cases c1 : vj = vi
    · subst c1
      rw [if_neg (show ¬ vj < vj by omega), if_pos rfl, if_pos rfl]
      by_cases c2 : sj = si
      · subst c2
        rw [if_neg (show ¬ sj < sj by omega), if_pos rfl, if_pos rfl]
        by_cases c3 : i ≤ j
        · rw [if_pos c3, if_pos c3, if_pos rfl]
        · rw [if_neg c3, if_neg c3, if_neg (by decide)]
      · rw [if_neg c2, if_neg c2]
        by_cases c3 : sj ≤ si
        · rw [if_neg (show ¬ si < sj by omega), if_pos c3, if_pos rfl]
        · rw [if_pos (show si < sj by omega), if_neg c3, if_neg (by decide)]
    · rw [if_neg c1, if_neg c1]
      by_cases c3 : vj ≤ vi
      · rw [if_neg (show ¬ vi < vj by omega), if_pos c3, if_pos rfl]
      · rw [if_pos (show vi < vj by omega), if_neg c3, if_neg (by decide)]
end PAT
theorem pm_dmL {n s0 : Nat} {g : Nat → Int32} (hn : 0 < n) (h7 : n ≤ 7) (hs : s0 < 1024) : ∀ (k j : Nat) (a : Int32) (f : Nat → Int32), f 13 = nI (pm_ds n s0 j).1 → (d_X13_drawnMember_L1 n g k j (nI (pm_ds n s0 j).2) a f).2.1 = (if k = 0 then a else nI (pm_dm n (pm_ds n s0 (j + k - 1)).1 (pm_ds n s0 (j + k - 1)).2)) ∧ ∀ q, q ≠ 13 → (d_X13_drawnMember_L1 n g k j (nI (pm_ds n s0 j).2) a f).2.2 q = f q := by
  intro k
  induction k with
  | zero => intro j a f _; exact ⟨(if_pos rfl).symm, fun _ _ => rfl⟩
  | succ k ih =>
    intro j a f hf
    have b := pm_ds_lt (n := n) hn h7 hs j
    have d := pm_dm_lt (sd := (pm_ds n s0 j).1) (ds := (pm_ds n s0 j).2) hn h7
    have ed : d_X13_draws (pm_ds n s0 j).2 n f g = (nI (pm_dm n (pm_ds n s0 j).1 (pm_ds n s0 j).2), upd f 13 (nI (pm_ds n s0 (j + 1)).1)) := by
      unfold d_X13_draws
      rw [hf, pm_n_nI (by omega), d.2]
      rfl
    have es : nI ((pm_ds n s0 j).2 ||| 2 ^ (pm_dm n (pm_ds n s0 j).1 (pm_ds n s0 j).2)) = nI (pm_ds n s0 (j + 1)).2 := rfl
    simp only [d_X13_drawnMember_L1, pm_n_nI (show (pm_ds n s0 j).2 < 2 ^ 31 by have := b.2; omega), ed, pm_n_nI (show pm_dm n (pm_ds n s0 j).1 (pm_ds n s0 j).2 < 2 ^ 31 by omega), es]
    obtain ⟨q1, q2⟩ := ih (j + 1) (nI (pm_dm n (pm_ds n s0 j).1 (pm_ds n s0 j).2)) (upd f 13 (nI (pm_ds n s0 (j + 1)).1)) pk_us
    refine ⟨q1.trans ?_, fun q hq => (q2 q hq).trans (pk_un hq)⟩
    rw [if_neg (show ¬ k + 1 = 0 by omega)]
    by_cases hk : k = 0
    · subst hk
      rw [if_pos rfl, show j + (0 + 1) - 1 = j by omega]
    · rw [if_neg hk, show j + 1 + k - 1 = j + (k + 1) - 1 by omega]
theorem pm_notsub : ∀ A, A < 128 → ∀ j, j < 128 → A < j → ¬ nI j &&& (nI A ^^^ (-1)) = 0 := by decide +kernel
theorem pm_orb : ∀ A, A < 128 → ∀ j, j < 7 → nI A ||| ((1 : Int32) <<< (nI j &&& 31)) = nI (A ||| 2 ^ j) := by decide +kernel
section PVO
variable {n : Nat} {r g f : Nat → Int32}
theorem pm_acL2 (hw : ∀ i, i < n → pm_rw r i) (hm : ∀ i, i < n → pm_RSm r g i) : ∀ (k j : Nat) (a : Int32), j + k ≤ n → d_X13_active_L1 g k j a = d_X10_activeSet_L1 r k j a := by
  intro k
  induction k with
  | zero => intro j a _; rfl
  | succ k ih =>
    intro j a h
    have hb := pm_bar (hw j (by omega)) (hm j (by omega))
    simp only [d_X13_active_L1, d_X10_activeSet_L1, ih (j + 1) _ (show j + 1 + k ≤ n by omega)]
    by_cases hc : r (7 + 6 * j + 5) = 0
    · rw [if_pos hc, if_pos (hb.mp hc)]
    · rw [if_neg hc, if_neg (fun e => hc (hb.mpr e))]
theorem pm_acN (h7 : n ≤ 7) : ∀ (k j A : Nat), j + k = n → A < 2 ^ j → ∃ A', A' < 2 ^ n ∧ d_X10_activeSet_L1 r k j (nI A) = nI A' := by
  intro k
  induction k with
  | zero =>
    intro j A h hA
    obtain rfl : j = n := by omega
    exact ⟨A, hA, rfl⟩
  | succ k ih =>
    intro j A h hA
    have hA7 : A < 128 := Nat.lt_of_lt_of_le hA (Nat.pow_le_pow_right (by decide) (show j ≤ 7 by omega))
    have h2 : A < 2 ^ (j + 1) := Nat.lt_of_lt_of_le hA (Nat.pow_le_pow_right (by decide) (by omega))
    simp only [d_X10_activeSet_L1]
    split
    · rw [pm_orb A hA7 j (by omega)]
      exact ih (j + 1) _ (by omega) (Nat.or_lt_two_pow h2 (Nat.pow_lt_pow_right (by decide) (by omega)))
    · rw [Int32.or_zero]
      exact ih (j + 1) A (by omega) h2
theorem pm_voL {x : Int32} (hm : ∀ i, i < n → pm_RSm r g i) : ∀ (k j : Nat) (a : Int32), j + k ≤ n → d_X13_votesOf_L1 x g k j a = d_X11_votesOf_L1 x r k j a := by
  intro k
  induction k with
  | zero => intro j a _; rfl
  | succ k ih =>
    intro j a h
    simp only [d_X13_votesOf_L1, d_X11_votesOf_L1, ih (j + 1) _ (show j + 1 + k ≤ n by omega), (hm j (by omega)).2.1]
theorem pm_voE {x : Int32} {f : Nat → Int32} (hm : ∀ i, i < n → pm_RSm r g i) : d_X13_votesOf x n f g = d_X11_votesOf x n r := pm_voL hm n 0 0 (by omega)
theorem pm_voN {x : Int32} (hw : ∀ i, i < n → pm_rw r i) : ∀ (k j a : Nat), j + k ≤ n → ∃ s, s ≤ 20 * k ∧ d_X11_votesOf_L1 x r k j (nI a) = nI (a + s) := by
  intro k
  induction k with
  | zero => intro j a _; exact ⟨0, Nat.le_refl _, rfl⟩
  | succ k ih =>
    intro j a h
    simp only [d_X11_votesOf_L1]
    split
    · rw [(hw j (by omega)).2.1.1, nI_add]
      obtain ⟨s, hs, e⟩ := ih (j + 1) (a + pm_n (r (7 + 6 * j + 1))) (by omega)
      have := (hw j (by omega)).2.1.2.2
      exact ⟨pm_n (r (7 + 6 * j + 1)) + s, by omega, by rw [e, Nat.add_assoc]⟩
    · rw [Int32.add_zero]
      obtain ⟨s, hs, e⟩ := ih (j + 1) a (by omega)
      exact ⟨s, by omega, e⟩
/-- the set of the active -/
theorem pm_act {f : Nat → Int32} (hw : ∀ i, i < n → pm_rw r i) (hm : ∀ i, i < n → pm_RSm r g i) (h7 : n ≤ 7) : ∃ A, A < 2 ^ n ∧ A < 128 ∧ d_X10_activeSet n r = nI A ∧ nI (pm_n (d_X13_active n f g)) = nI A ∧ pm_n (d_X13_active n f g) = A := by
  obtain ⟨A, hA, e⟩ := pm_acN (r := r) h7 n 0 0 (by omega) (by decide)
  have hA7 : A < 128 := Nat.lt_of_lt_of_le hA (Nat.pow_le_pow_right (by decide) h7)
  have e2 : d_X13_active n f g = nI A := (pm_acL2 hw hm n 0 0 (by omega)).trans e
  exact ⟨A, hA, hA7, e, by rw [e2, pm_n_nI (by omega)], by rw [e2, pm_n_nI (by omega)]⟩
theorem pm_winT {A : Nat} (hA : A < 128) (ea : d_X10_activeSet n r = nI A) : ∀ (k j : Nat) (a : Int32), A < j → j + k ≤ 128 → d_X11_winners_L1 n r k j a = a := by
  intro k
  induction k with
  | zero => intro j a _ _; rfl
  | succ k ih =>
    intro j a h1 h2
    simp only [d_X11_winners_L1, ea]
    rw [if_neg (pm_notsub A hA j (by omega) h1)]
    exact ih (j + 1) a (by omega) (by omega)
theorem pm_winL {A : Nat} (hm : ∀ i, i < n → pm_RSm r g i) (h3 : g 3 = r 3) (ea : d_X10_activeSet n r = nI A) (eb : nI (pm_n (d_X13_active n (upd f 6 0) g)) = nI A) : ∀ (k e j : Nat) (a : Int32), j + k = A + 1 → d_X11_winners_L1 n r (k + e) j a = d_X11_winners_L1 n r e (A + 1) (d_X13_winningCoalitions_L1 n f g k j a) := by
  intro k
  induction k with
  | zero =>
    intro e j a h
    obtain rfl : j = A + 1 := by omega
    rw [Nat.zero_add]
    rfl
  | succ k ih =>
    intro e j a h
    rw [show k + 1 + e = (k + e) + 1 by omega]
    simp only [d_X11_winners_L1, d_X13_winningCoalitions_L1, ea, eb, d_X13_wins, pm_voE hm, h3]
    by_cases c1 : nI j &&& (nI A ^^^ (-1)) = 0
    · rw [if_pos c1, if_pos c1]
      by_cases c2 : d_X11_votesOf (nI j) n r < r 3
      · rw [if_pos c2, if_pos c2, if_pos rfl, Int32.add_zero]
        exact ih e (j + 1) a (by omega)
      · rw [if_neg c2, if_neg c2, if_neg (by decide)]
        exact ih e (j + 1) _ (by omega)
    · rw [if_neg c1, if_neg c1, Int32.add_zero]
      exact ih e (j + 1) a (by omega)
theorem pm_absS : ∀ d, d < 1000 → pm_abs (nI d) = nI d ∧ pm_abs (-nI d) = nI d := by decide +kernel
theorem pm_absD {a b : Nat} (ha : a < 500) (hb : b < 500) : pm_abs (nI a - nI b) = pm_abs (nI b - nI a) := by
  by_cases h : b ≤ a
  · rw [show nI b - nI a = -(nI a - nI b) from Int32.neg_sub.symm, pq_sub h, (pm_absS _ (by omega)).1, (pm_absS _ (by omega)).2]
  · rw [show nI a - nI b = -(nI b - nI a) from Int32.neg_sub.symm, pq_sub (show a ≤ b by omega), (pm_absS _ (by omega)).1, (pm_absS _ (by omega)).2]
theorem pm_voB {x : Int32} (hw : ∀ i, i < n → pm_rw r i) (h7 : n ≤ 7) : ∃ s, s ≤ 140 ∧ d_X11_votesOf x n r = nI s := by
  obtain ⟨s, hs, e⟩ := pm_voN (x := x) hw n 0 0 (by omega)
  rw [Nat.zero_add] at e
  exact ⟨s, by omega, e⟩
theorem pm_difT {A : Nat} (hA : A < 128) (ea : d_X10_activeSet n r = nI A) : ∀ (k j : Nat) (a : Int32), A < j → j + k ≤ 128 → d_X11_differenceBySets_L1 n r k j a = a := by
  intro k
  induction k with
  | zero => intro j a _ _; rfl
  | succ k ih =>
    intro j a h1 h2
    simp only [d_X11_differenceBySets_L1, ea]
    rw [if_neg (pm_notsub A hA j (by omega) h1)]
    exact ih (j + 1) a (by omega) (by omega)
theorem pm_difL {A : Nat} (hw : ∀ i, i < n → pm_rw r i) (h7 : n ≤ 7) (hm : ∀ i, i < n → pm_RSm r g i) (ea : d_X10_activeSet n r = nI A) (eb : nI (pm_n (d_X13_active n (upd f 6 0) g)) = nI A) : ∀ (k e j : Nat) (a : Int32), j + k = A + 1 → d_X11_differenceBySets_L1 n r (k + e) j a = d_X11_differenceBySets_L1 n r e (A + 1) (d_X13_leastDifference_L1 n f g k j a) := by
  intro k
  induction k with
  | zero =>
    intro e j a h
    obtain rfl : j = A + 1 := by omega
    rw [Nat.zero_add]
    rfl
  | succ k ih =>
    intro e j a h
    rw [show k + 1 + e = (k + e) + 1 by omega]
    simp only [d_X11_differenceBySets_L1, d_X13_leastDifference_L1, ea, eb, pm_voE hm]
    by_cases c1 : nI j &&& (nI A ^^^ (-1)) = 0
    · rw [if_pos c1, if_pos c1]
      obtain ⟨s, hs, es⟩ := pm_voB (x := nI j) hw h7
      obtain ⟨t, ht, et⟩ := pm_voB (x := nI A) hw h7
      rw [es, et, show (2 : Int32) = nI 2 from rfl, pk_mul, pm_absD (show t < 500 by omega) (show 2 * s < 500 by omega)]
      exact ih e (j + 1) _ (by omega)
    · rw [if_neg c1, if_neg c1]
      exact ih e (j + 1) a (by omega)
end PVO
theorem pm_oth : ∀ A, A < 128 → ∀ i, i < 7 → nI A &&& (((1 : Int32) <<< (nI i &&& 31)) ^^^ (-1)) = nI (A &&& (127 - 2 ^ i)) ∧ A &&& (127 - 2 ^ i) ≤ A ∧ (A &&& (127 - 2 ^ i)) / 2 ^ i % 2 = 0 := by decide +kernel
theorem pm_subb : ∀ O, O < 128 → ∀ j, j < 128 → nI j &&& (nI O ^^^ (-1)) = 0 → ∀ i, i < 7 → O / 2 ^ i % 2 = 0 → j / 2 ^ i % 2 = 0 := by decide +kernel
theorem pm_bt2 : ∀ D, D < 128 → ∀ j, j < 7 → (((nI D) >>> ((nI j) &&& 31)) &&& 1) = nI (D / 2 ^ j % 2) := by decide +kernel
theorem pm_or2 : ∀ D, D < 128 → ∀ m, m < 7 → D ||| 2 ^ m < 128 ∧ ∀ j, j < 7 → (D ||| 2 ^ m) / 2 ^ j % 2 = if j = m then 1 else D / 2 ^ j % 2 := by decide +kernel
section PSW
variable {n i : Nat} {r g f : Nat → Int32}
theorem pm_voA {x c : Int32} : ∀ (k j : Nat) (a : Int32), d_X11_votesOf_L1 x r k j (a + c) = d_X11_votesOf_L1 x r k j a + c := by
  intro k
  induction k with
  | zero => intro j a; rfl
  | succ k ih =>
    intro j a
    simp only [d_X11_votesOf_L1]
    split
    · rw [Int32.add_assoc, Int32.add_comm c, ← Int32.add_assoc, ih]
    · rw [Int32.add_zero, Int32.add_zero, ih]
theorem pm_voO {s : Nat} (h7 : n ≤ 7) (hi : i < n) (hs : s < 128) (hb : s / 2 ^ i % 2 = 0) : ∀ (k j : Nat) (a : Int32), j + k = n → d_X11_votesOf_L1 (nI (s ||| 2 ^ i)) r k j a = d_X11_votesOf_L1 (nI s) r k j a + (if j ≤ i then r (7 + 6 * i + 1) else 0) := by
  obtain ⟨o1, o2⟩ := pm_or2 s hs i (by omega)
  intro k
  induction k with
  | zero =>
    intro j a h
    rw [if_neg (show ¬ j ≤ i by omega), Int32.add_zero]
    rfl
  | succ k ih =>
    intro j a h
    simp only [d_X11_votesOf_L1, pm_bt2 _ o1 j (by omega), pm_bt2 _ hs j (by omega), o2 j (by omega)]
    by_cases hji : j = i
    · subst hji
      rw [if_pos rfl, hb, if_pos (show nI 1 = 1 from rfl), if_neg (show ¬ nI 0 = 1 by decide), ih (j + 1) _ (by omega), if_neg (show ¬ j + 1 ≤ j by omega), if_pos (Nat.le_refl _), Int32.add_zero, Int32.add_zero, pm_voA]
    · rw [if_neg hji]
      have e : (if j ≤ i then r (7 + 6 * i + 1) else 0) = (if j + 1 ≤ i then r (7 + 6 * i + 1) else 0) := by
        by_cases h1 : j ≤ i
        · rw [if_pos h1, if_pos (by omega)]
        · rw [if_neg h1, if_neg (by omega)]
      rw [e]
      split
      · exact ih (j + 1) _ (by omega)
      · exact ih (j + 1) _ (by omega)
theorem pm_swT {O : Nat} (hO : O < 128) (eo : d_X10_activeSet n r &&& (((1 : Int32) <<< (nI i &&& 31)) ^^^ (-1)) = nI O) : ∀ (k j : Nat) (a : Int32), O < j → j + k ≤ 128 → d_X11_swingsBySets_L1 i n r k j a = a := by
  intro k
  induction k with
  | zero => intro j a _ _; rfl
  | succ k ih =>
    intro j a h1 h2
    simp only [d_X11_swingsBySets_L1, eo]
    rw [if_neg (pm_notsub O hO j (by omega) h1)]
    exact ih (j + 1) a (by omega) (by omega)
theorem pm_swL {O : Nat} {x : Int32} (h7 : n ≤ 7) (hi : i < n) (ex : pm_n x = i) (hm : ∀ i, i < n → pm_RSm r g i) (h3 : g 3 = r 3) (hO : O < 128) (hOb : O / 2 ^ i % 2 = 0) (eo : d_X10_activeSet n r &&& (((1 : Int32) <<< (nI i &&& 31)) ^^^ (-1)) = nI O) (eb : nI (pm_n (nI (pm_n (d_X13_active n (upd f 6 0) g)) &&& (((1 : Int32) <<< (nI i &&& 31)) ^^^ (-1)))) = nI O) : ∀ (k e j : Nat) (a : Int32), j + k = O + 1 → d_X11_swingsBySets_L1 i n r (k + e) j a = d_X11_swingsBySets_L1 i n r e (O + 1) (d_X13_swings_L1 x n f g k j a) := by
  intro k
  induction k with
  | zero =>
    intro e j a h
    obtain rfl : j = O + 1 := by omega
    rw [Nat.zero_add]
    rfl
  | succ k ih =>
    intro e j a h
    rw [show k + 1 + e = (k + e) + 1 by omega]
    simp only [d_X11_swingsBySets_L1, d_X13_swings_L1, ex, eo, eb, d_X13_wins, pm_voE hm, h3]
    by_cases c1 : nI j &&& (nI O ^^^ (-1)) = 0
    · rw [if_pos c1, if_pos c1]
      have hjb := pm_subb O hO j (by omega) c1 i (by omega) hOb
      have ev : d_X11_votesOf (nI j ||| ((1 : Int32) <<< (nI i &&& 31))) n r = d_X11_votesOf (nI j) n r + r (7 + 6 * i + 1) := by
        rw [pm_orb j (by omega) i (by omega)]
        unfold d_X11_votesOf
        rw [pm_voO h7 hi (by omega) hjb n 0 0 (by omega), if_pos (Nat.zero_le _)]
      rw [ev]
      by_cases c2 : d_X11_votesOf (nI j) n r < r 3
      · rw [if_pos c2, if_pos rfl]
        by_cases c3 : d_X11_votesOf (nI j) n r + r (7 + 6 * i + 1) < r 3
        · have es : d_X11_isSwing (d_X11_votesOf (nI j) n r) i n r = 0 := by
            unfold d_X11_isSwing
            rw [if_neg (Int32.not_le.mpr c2), if_pos c3]
          rw [es, if_pos rfl, if_pos c3, if_pos rfl, Int32.add_zero]
          exact ih e (j + 1) a (by omega)
        · have es : d_X11_isSwing (d_X11_votesOf (nI j) n r) i n r = 1 := by
            unfold d_X11_isSwing
            rw [if_neg (Int32.not_le.mpr c2), if_neg c3]
          rw [es, if_neg (by decide), if_neg c3, if_neg (by decide)]
          exact ih e (j + 1) _ (by omega)
      · have es : d_X11_isSwing (d_X11_votesOf (nI j) n r) i n r = 0 := by
          unfold d_X11_isSwing
          rw [if_pos (Int32.not_lt.mp c2)]
        rw [es, if_pos rfl, if_neg c2, if_neg (show ¬ (1 : Int32) = 0 by decide), Int32.add_zero]
        exact ih e (j + 1) a (by omega)
    · rw [if_neg c1, if_neg c1, Int32.add_zero]
      exact ih e (j + 1) a (by omega)
end PSW
def pm_ax (v s : Nat → Nat) (j i : Nat) : Prop := v i < v j ∨ (v i = v j ∧ (s i < s j ∨ (s i = s j ∧ j < i)))
def pm_ai (v s : Nat → Nat) (i j : Nat) : Nat := if v i < v j ∨ (v i = v j ∧ (s i < s j ∨ (s i = s j ∧ j < i))) then 1 else 0
theorem pm_best {v s : Nat → Nat} {Pp : Nat → Prop} : ∀ j, (∃ i, i < j ∧ Pp i) → ∃ m, m < j ∧ Pp m ∧ ∀ i, i < j → Pp i → i ≠ m → pm_ax v s m i := by
  intro j
  induction j with
  | zero => intro ⟨i, hi, _⟩; omega
  | succ j ih =>
    intro ⟨i, hi, hp⟩
    by_cases hex : ∃ i, i < j ∧ Pp i
    · obtain ⟨m, hm, h1, h2⟩ := ih hex
      by_cases hj : Pp j
      · by_cases hc : pm_ax v s m j
        · refine ⟨m, by omega, h1, fun t ht hpt htm => ?_⟩
          by_cases htj : t = j
          · subst htj; exact hc
          · exact h2 t (by omega) hpt htm
        · refine ⟨j, by omega, hj, fun t ht hpt htj => ?_⟩
          have hjm : pm_ax v s j m := by
            unfold pm_ax at hc ⊢
            omega
          by_cases htm : t = m
          · subst htm; exact hjm
          · have h3 := h2 t (by omega) hpt htm
            unfold pm_ax at hjm h3 ⊢
            omega
      · refine ⟨m, by omega, h1, fun t ht hpt htm => ?_⟩
        by_cases htj : t = j
        · subst htj; exact absurd hpt hj
        · exact h2 t (by omega) hpt htm
    · have hij : i = j := by
        apply Classical.byContradiction
        intro hne
        exact hex ⟨i, by omega, hp⟩
      subst hij
      exact ⟨i, by omega, hp, fun t ht hpt hti => absurd ⟨t, by omega, hpt⟩ hex⟩
theorem pm_sf1 : ∀ n, pm_sf (fun _ => 1) n 0 = n := by
  intro n
  induction n with
  | zero => rfl
  | succ n ih => rw [pm_sf_top, ih]
theorem pm_sf_lt {F G : Nat → Nat} {t : Nat} : ∀ n, (∀ i, i < n → F i ≤ G i) → t < n → F t < G t → pm_sf F n 0 < pm_sf G n 0 := by
  intro n
  induction n with
  | zero => intro _ h; omega
  | succ n ih =>
    intro h ht hs
    rw [pm_sf_top, pm_sf_top, Nat.zero_add]
    have h1 := h n (by omega)
    by_cases he : t = n
    · subst he
      have h2 := pm_sf_le t 0 (fun i _ hi => h i (by omega))
      omega
    · have h2 := ih (fun i hi => h i (by omega)) (by omega) hs
      omega
theorem pm_rank {v s : Nat → Nat} {n : Nat} (h7 : n ≤ 7) : ∀ p, p ≤ n → ∃ D, D < 128 ∧ pm_pc D n = p ∧ ∀ i m, i < n → m < n → D / 2 ^ i % 2 = 1 → D / 2 ^ m % 2 = 0 → pm_ax v s i m := by
  have hpc : ∀ D, D < 128 → ∀ m, m < 7 → D / 2 ^ m % 2 = 0 → ∀ n, n < 8 → m < n → pm_pc (D ||| 2 ^ m) n = pm_pc D n + 1 := by decide +kernel
  have p0 : ∀ n, n < 8 → pm_pc 0 n = 0 := by decide +kernel
  intro p
  induction p with
  | zero => intro _; exact ⟨0, by decide, p0 n (by omega), fun i m _ _ h => by rw [Nat.zero_div] at h; exact absurd h (by decide)⟩
  | succ p ih =>
    intro hp
    obtain ⟨D, d1, d2, d3⟩ := ih (by omega)
    have hex : ∃ i, i < n ∧ D / 2 ^ i % 2 = 0 := by
      apply Classical.byContradiction
      intro hno
      have h1 := pm_pc_sf (F := fun _ => 1) (D := D) n (fun i hi => by
        have : ¬ D / 2 ^ i % 2 = 0 := fun e => hno ⟨i, hi, e⟩
        show 1 ≤ _
        omega)
      rw [pm_sf1] at h1
      omega
    obtain ⟨m, m1, m2, m3⟩ := pm_best (v := v) (s := s) (Pp := fun i => D / 2 ^ i % 2 = 0) n hex
    obtain ⟨o1, o2⟩ := pm_or2 D d1 m (by omega)
    refine ⟨D ||| 2 ^ m, o1, by rw [hpc D d1 m (by omega) m2 n (by omega) m1, d2], fun i t hi ht hb ht0 => ?_⟩
    rw [o2 i (by omega)] at hb
    rw [o2 t (by omega)] at ht0
    have htm : t ≠ m := fun e => by rw [if_pos e] at ht0; exact absurd ht0 (by decide)
    rw [if_neg htm] at ht0
    by_cases him : i = m
    · subst him; exact m3 t ht ht0 htm
    · rw [if_neg him] at hb; exact d3 i t hi ht hb ht0
theorem pm_rkX {v s : Nat → Nat} {n p : Nat} (h7 : n ≤ 7) (hp : p < n) : ∃ m, m < n ∧ pm_sf (pm_ai v s m) n 0 = p := by
  obtain ⟨D, d1, d2, d3⟩ := pm_rank (v := v) (s := s) h7 p (by omega)
  have hex : ∃ i, i < n ∧ D / 2 ^ i % 2 = 0 := by
    apply Classical.byContradiction
    intro hno
    have h1 := pm_pc_sf (F := fun _ => 1) (D := D) n (fun i hi => by
      have : ¬ D / 2 ^ i % 2 = 0 := fun e => hno ⟨i, hi, e⟩
      show 1 ≤ _
      omega)
    rw [pm_sf1] at h1
    omega
  obtain ⟨m, m1, m2, m3⟩ := pm_best (v := v) (s := s) (Pp := fun i => D / 2 ^ i % 2 = 0) n hex
  refine ⟨m, m1, ?_⟩
  have a1 := pm_pc_sf (F := pm_ai v s m) (D := D) n (fun t ht => by
    by_cases hc : pm_ax v s t m
    · have hb : ¬ D / 2 ^ t % 2 = 0 := fun e => by
        have htm : t ≠ m := fun e2 => by
          subst e2
          unfold pm_ax at hc
          omega
        have h2 := m3 t ht e htm
        unfold pm_ax at hc h2
        omega
      rw [show pm_ai v s m t = 1 from if_pos hc]
      omega
    · rw [show pm_ai v s m t = 0 from if_neg hc]
      exact Nat.zero_le _)
  have a2 := pm_sf_pc (F := pm_ai v s m) (D := D) n (fun t ht => by
    by_cases hb : D / 2 ^ t % 2 = 1
    · rw [show pm_ai v s m t = 1 from if_pos (d3 t m ht m1 hb m2), hb]
      exact Nat.le_refl _
    · omega)
  omega
theorem pm_rkI {v s : Nat → Nat} {n i m : Nat} (hi : i < n) (hm : m < n) (hc : pm_ax v s i m) : pm_sf (pm_ai v s i) n 0 < pm_sf (pm_ai v s m) n 0 := by
  refine pm_sf_lt (t := i) n (fun t ht => ?_) hi ?_
  · by_cases h1 : pm_ax v s t i
    · have h2 : pm_ax v s t m := by
        unfold pm_ax at hc h1 ⊢
        omega
      rw [show pm_ai v s i t = 1 from if_pos h1, show pm_ai v s m t = 1 from if_pos h2]
      exact Nat.le_refl _
    · rw [show pm_ai v s i t = 0 from if_neg h1]
      exact Nat.zero_le _
  · rw [show pm_ai v s i i = 0 from if_neg (by omega), show pm_ai v s m i = 1 from if_pos hc]
    decide
theorem pm_rkU {v s : Nat → Nat} {n i m : Nat} (hi : i < n) (hm : m < n) (e : pm_sf (pm_ai v s i) n 0 = pm_sf (pm_ai v s m) n 0) : i = m := by
  apply Classical.byContradiction
  intro hne
  by_cases hc : pm_ax v s i m
  · have := pm_rkI hi hm hc; omega
  · have h2 : pm_ax v s m i := by
      unfold pm_ax at hc ⊢
      omega
    have := pm_rkI hm hi h2; omega
section PRK
variable {n : Nat} {r g f : Nat → Int32} {x : Int32}
def pm_rv (r : Nat → Int32) (i : Nat) : Nat := pm_n (pm_max 0 (r (7 + 6 * i + 3) - r (7 + 6 * i + 2)))
def pm_rz (r : Nat → Int32) (i : Nat) : Nat := pm_n (r (7 + 6 * i + 3))
theorem pm_ahN (hRS : pm_RS n r g) (hw : ∀ i, i < n → pm_rw r i) (h7 : n ≤ 7) {i : Nat} (hi : i < n) : ∀ (k j A : Nat), j + k = n → d_X10_membersAheadOf_L1 i n r k j (nI A) = nI (A + pm_sf (pm_ai (pm_rv r) (pm_rz r) i) k j) := by
  obtain ⟨vi, si, a1, a2, a3, a4, a5, a6⟩ := pm_ovr hRS hw hi
  have ev : pm_rv r i = vi := by unfold pm_rv; rw [a3, pm_n_nI (by omega)]
  have es : pm_rz r i = si := by unfold pm_rz; rw [a5, pm_n_nI (by omega)]
  intro k
  induction k with
  | zero => intro j A _; rfl
  | succ k ih =>
    intro j A h
    obtain ⟨vj, sj, b1, b2, b3, b4, b5, b6⟩ := pm_ovr hRS hw (show j < n by omega)
    have ev2 : pm_rv r j = vj := by unfold pm_rv; rw [b3, pm_n_nI (by omega)]
    have es2 : pm_rz r j = sj := by unfold pm_rz; rw [b5, pm_n_nI (by omega)]
    have e : d_X10_isAhead j i n r = nI (pm_ai (pm_rv r) (pm_rz r) i j) := by
      unfold d_X10_isAhead pm_ai
      rw [a3, b3, a5, b5, ev, es, ev2, es2]
      simp only [nI_eq (show vj < 2 ^ 31 by omega) (show vi < 2 ^ 31 by omega), nI_eq (show sj < 2 ^ 31 by omega) (show si < 2 ^ 31 by omega), nI_leI (show i < 2 ^ 31 by omega) (show j < 2 ^ 31 by omega), nI_leI (show sj < 2 ^ 31 by omega) (show si < 2 ^ 31 by omega), nI_leI (show vj < 2 ^ 31 by omega) (show vi < 2 ^ 31 by omega)]
      (repeat' split) <;> first | rfl | (exfalso; omega)
    simp only [d_X10_membersAheadOf_L1, pm_sf, e]
    have hle : pm_ai (pm_rv r) (pm_rz r) i j ≤ 1 := by unfold pm_ai; split <;> omega
    by_cases hz : pm_ai (pm_rv r) (pm_rz r) i j = 0
    · rw [hz, if_pos (show nI 0 = 0 from rfl), Int32.add_zero, ih _ _ (by omega), Nat.zero_add]
    · rw [show pm_ai (pm_rv r) (pm_rz r) i j = 1 by omega, if_neg (show ¬ nI 1 = 0 by decide), nI_1, ih _ _ (by omega), Nat.add_assoc]
theorem pm_ahE (hRS : pm_RS n r g) (hw : ∀ i, i < n → pm_rw r i) (h7 : n ≤ 7) {i : Nat} (hi : i < n) : d_X10_membersAheadOf i n r = nI (pm_sf (pm_ai (pm_rv r) (pm_rz r) i) n 0) ∧ pm_sf (pm_ai (pm_rv r) (pm_rz r) i) n 0 < n := by
  have h := pm_ahN hRS hw h7 hi n 0 0 (by omega)
  rw [Nat.zero_add] at h
  refine ⟨h, ?_⟩
  have h2 := pm_sf_lt (F := pm_ai (pm_rv r) (pm_rz r) i) (G := fun _ => 1) (t := i) n (fun t _ => by
    show _ ≤ 1
    unfold pm_ai
    split <;> omega) hi (by
    show _ < 1
    rw [show pm_ai (pm_rv r) (pm_rz r) i i = 0 from if_neg (by omega)]
    decide)
  rw [pm_sf1] at h2
  exact h2
theorem pm_exN {K : Nat × Int32} (h : ∀ i, i < n → ¬ d_X10_membersAheadOf i n r = x) : ∀ (k j : Nat), j + k = n → d_X12_memberByExcess_L1 x n r K k j = K := by
  intro k
  induction k with
  | zero => intro j _; rfl
  | succ k ih =>
    intro j hj
    simp only [d_X12_memberByExcess_L1]
    rw [if_neg (h j (by omega))]
    exact ih (j + 1) (by omega)
theorem pm_exY {K : Nat × Int32} {m : Nat} (h : ∀ i, i < n → (d_X10_membersAheadOf i n r = x ↔ i = m)) : ∀ (k j : Nat), j + k = n → j ≤ m → m < n → d_X12_memberByExcess_L1 x n r K k j = (0, nI m) := by
  intro k
  induction k with
  | zero => intro j _ _ _; omega
  | succ k ih =>
    intro j hj hjm hm
    simp only [d_X12_memberByExcess_L1]
    by_cases hc : j = m
    · rw [if_pos ((h j (by omega)).mpr hc), hc]
    · rw [if_neg (fun e => hc ((h j (by omega)).mp e))]
      exact ih (j + 1) (by omega) (by omega) hm
theorem pm_exM {m : Nat} (hin : ¬ pm_in x 0 (nI n - 1) = 0) (h : ∀ i, i < n → (d_X13_memberByExcess_L2 g i n 0 0 = x ↔ i = m)) : ∀ (k j : Nat) (a : Int32), j + k = n → d_X13_memberByExcess_L1 x n g k j a = if j ≤ m ∧ m < n then nI m else a := by
  intro k
  induction k with
  | zero => intro j a _; rw [if_neg (by omega)]; rfl
  | succ k ih =>
    intro j a hj
    simp only [d_X13_memberByExcess_L1]
    rw [if_neg hin]
    by_cases hc : j = m
    · rw [if_pos ((h j (by omega)).mpr hc), ih (j + 1) _ (by omega), if_neg (by omega), if_pos (by omega), hc]
    · rw [if_neg (fun e => hc ((h j (by omega)).mp e)), ih (j + 1) _ (by omega)]
      by_cases h2 : j + 1 ≤ m ∧ m < n
      · rw [if_pos h2, if_pos (by omega)]
      · rw [if_neg h2, if_neg (by omega)]
end PRK
theorem pm_subi : ∀ a, a < 128 → ∀ s, s < 128 → (nI a &&& (nI s ^^^ (-1)) = 0 ↔ ∀ j, j < 7 → a / 2 ^ j % 2 = 1 → s / 2 ^ j % 2 = 1) := by decide +kernel
theorem pm_bitsN : ∀ a, a < 128 → d_X13_bits (nI a) = nI (pm_pc a 7) := by decide +kernel
theorem pm_fulB : ∀ n, n < 8 → ∀ i, i < n → (2 ^ n - 1) / 2 ^ i % 2 = 1 := by decide +kernel
theorem pm_fulC : ∀ n, n < 8 → pm_pc (2 ^ n - 1) 7 = n := by decide +kernel
theorem pm_minN {a b : Nat} (ha : a < 2 ^ 31) (hb : b < 2 ^ 31) : pm_min (nI a) (nI b) = nI (min a b) := by
  unfold pm_min
  by_cases h : b < a
  · rw [if_pos (nI_lt h ha), Nat.min_eq_right (by omega)]
  · rw [if_neg (nI_nlt (by omega) hb), Nat.min_eq_left (by omega)]
section PWA
variable {n : Nat} {r g f : Nat → Int32}
def pm_cvr (r : Nat → Int32) (n s : Nat) : Prop := ∀ i j, i < n → j < i → pm_n (r (49 + i)) / 2 ^ j % 2 = 1 → s / 2 ^ i % 2 = 1 ∨ s / 2 ^ j % 2 = 1
theorem pm_fuC {s : Nat} (hs : s < 128) (hl : pm_Il n r) : ∀ (k j : Nat), j + k = 7 → (pm_fu (fun j => r (49 + j)) (nI s) j k < 0 ↔ ∀ i, j ≤ i → i < 7 → s / 2 ^ i % 2 = 0 → ∀ t, t < 7 → pm_n (r (49 + i)) / 2 ^ t % 2 = 1 → s / 2 ^ t % 2 = 1) := by
  intro k
  induction k with
  | zero => intro j h; exact ⟨fun _ i h1 h2 => by omega, fun _ => by unfold pm_fu; decide⟩
  | succ k ih =>
    intro j h
    unfold pm_fu
    rw [pm_bt2 s hs j (by omega)]
    have ihj := ih (j + 1) (by omega)
    have hi := pm_subi _ (hl.1 j (by omega)).2 s hs
    rw [← (hl.1 j (by omega)).1] at hi
    rcases Nat.mod_two_eq_zero_or_one (s / 2 ^ j) with hb | hb
    · rw [hb, if_pos (show nI 0 = 0 from rfl)]
      by_cases hc : r (49 + j) &&& (nI s ^^^ (-1)) = 0
      · rw [if_pos hc, ihj]
        constructor
        · intro h1 i h2 h3 h4 t ht hbt
          by_cases hij : i = j
          · subst hij; exact hi.mp hc t ht hbt
          · exact h1 i (by omega) h3 h4 t ht hbt
        · intro h1 i h2; exact h1 i (by omega)
      · rw [if_neg hc]
        constructor
        · intro h1; exact absurd h1 (nI_pos (by omega))
        · intro h1; exact absurd (hi.mpr (h1 j (Nat.le_refl _) (by omega) hb)) hc
    · rw [hb, if_neg (show ¬ nI 1 = 0 by decide), ihj]
      constructor
      · intro h1 i h2 h3 h4
        by_cases hij : i = j
        · subst hij; rw [hb] at h4; exact absurd h4 (by decide)
        · exact h1 i (by omega) h3 h4
      · intro h1 i h2; exact h1 i (by omega)
theorem pm_fuE {s : Nat} (hs : s < 128) (hl : pm_Il n r) (h7 : n ≤ 7) : pm_fu (fun j => r (49 + j)) (nI s) 0 7 < 0 ↔ pm_cvr r n s := by
  rw [pm_fuC hs hl 7 0 (by omega)]
  constructor
  · intro h i j hi hj hb
    rcases Nat.mod_two_eq_zero_or_one (s / 2 ^ i) with h1 | h1
    · exact Or.inr (h i (Nat.zero_le _) (by omega) h1 j (by omega) hb)
    · exact Or.inl h1
  · intro h i _ hi h0 t ht hb
    have hn := hl.2.2.2.1 i t hi ht hb
    by_cases hti : t < i
    · rcases h i t hn.1 hti hb with h1 | h1
      · rw [h0] at h1; exact absurd h1 (by decide)
      · exact h1
    · by_cases hte : t = i
      · subst hte
        rw [hl.2.2.1 t ht] at hb
        exact absurd hb (by decide)
      · rw [hl.2.1 i t hi ht] at hb
        rcases h t i hn.2 (by omega) hb with h1 | h1
        · exact h1
        · rw [h0] at h1; exact absurd h1 (by decide)
theorem pm_wa2 {s i : Nat} {f : Nat → Int32} (hs : s < 128) (sl : pm_RSl r g) (hi : i < 7) : ∀ (k j : Nat) (a : Int32), j + k = i → (a = 0 ∨ a = 1) → (d_X13_watches_L2 (nI s) f g i k j a = 0 ∨ d_X13_watches_L2 (nI s) f g i k j a = 1) ∧ (d_X13_watches_L2 (nI s) f g i k j a = 1 ↔ a = 1 ∧ ∀ t, j ≤ t → t < i → pm_n (r (49 + i)) / 2 ^ t % 2 = 1 → s / 2 ^ i % 2 = 1 ∨ s / 2 ^ t % 2 = 1) := by
  intro k
  induction k with
  | zero => intro j a h ha; exact ⟨ha, fun e => ⟨e, fun t h1 h2 => by omega⟩, fun e => e.1⟩
  | succ k ih =>
    intro j a h ha
    simp only [d_X13_watches_L2, pm_bt2 s hs i hi, pm_bt2 s hs j (by omega)]
    have h0 := ih (j + 1) 0 (by omega) (Or.inl rfl)
    have h1 := ih (j + 1) 1 (by omega) (Or.inr rfl)
    have hlk : d_X13_linked i j f g = 0 ↔ ¬ pm_n (r (49 + i)) / 2 ^ j % 2 = 1 := by
      unfold d_X13_linked
      rw [sl i j hi (by omega)]
      unfold pm_bt
      rcases Nat.mod_two_eq_zero_or_one (pm_n (r (49 + i)) / 2 ^ j) with hb | hb <;> rw [hb] <;> decide
    have bad : ∀ (Y : Prop), (d_X13_watches_L2 (nI s) f g i k (j + 1) 0 = 1 ↔ (0 : Int32) = 1 ∧ Y) → ¬ d_X13_watches_L2 (nI s) f g i k (j + 1) 0 = 1 := fun Y hy e => absurd (hy.mp e).1 (by decide)
    rcases ha with rfl | rfl
    · rw [if_pos rfl]
      refine ⟨h0.1, fun e => absurd e (bad _ h0.2), fun e => absurd e.1 (by decide)⟩
    · rw [if_neg (by decide)]
      by_cases hc : pm_n (r (49 + i)) / 2 ^ j % 2 = 1
      · rw [if_neg (fun e => (hlk.mp e) hc)]
        have hsum : nI (s / 2 ^ i % 2) + nI (s / 2 ^ j % 2) ≤ 0 ↔ ¬ (s / 2 ^ i % 2 = 1 ∨ s / 2 ^ j % 2 = 1) := by
          rcases Nat.mod_two_eq_zero_or_one (s / 2 ^ i) with hb | hb <;> rcases Nat.mod_two_eq_zero_or_one (s / 2 ^ j) with hb2 | hb2 <;> rw [hb, hb2] <;> decide
        by_cases hz : s / 2 ^ i % 2 = 1 ∨ s / 2 ^ j % 2 = 1
        · rw [if_neg (fun e => (hsum.mp e) hz)]
          refine ⟨h1.1, fun e => ⟨rfl, fun t t1 t2 tb => ?_⟩, fun e => h1.2.mpr ⟨rfl, fun t t1 t2 tb => e.2 t (by omega) t2 tb⟩⟩
          by_cases htj : t = j
          · subst htj; exact hz
          · exact (h1.2.mp e).2 t (by omega) t2 tb
        · rw [if_pos (hsum.mpr hz)]
          refine ⟨h0.1, fun e => absurd e (bad _ h0.2), fun e => absurd (e.2 j (Nat.le_refl _) (by omega) hc) hz⟩
      · rw [if_pos (hlk.mpr hc)]
        refine ⟨h1.1, fun e => ⟨rfl, fun t t1 t2 tb => ?_⟩, fun e => h1.2.mpr ⟨rfl, fun t t1 t2 tb => e.2 t (by omega) t2 tb⟩⟩
        by_cases htj : t = j
        · subst htj; exact absurd tb hc
        · exact (h1.2.mp e).2 t (by omega) t2 tb
theorem pm_wa1 {s : Nat} {f : Nat → Int32} (hs : s < 128) (sl : pm_RSl r g) (h7 : n ≤ 7) : ∀ (k j : Nat) (a : Int32), j + k = n → (a = 0 ∨ a = 1) → (d_X13_watches_L1 (nI s) f g k j a = 0 ∨ d_X13_watches_L1 (nI s) f g k j a = 1) ∧ (d_X13_watches_L1 (nI s) f g k j a = 1 ↔ a = 1 ∧ ∀ i t, j ≤ i → i < n → t < i → pm_n (r (49 + i)) / 2 ^ t % 2 = 1 → s / 2 ^ i % 2 = 1 ∨ s / 2 ^ t % 2 = 1) := by
  intro k
  induction k with
  | zero => intro j a h ha; exact ⟨ha, fun e => ⟨e, fun i t h1 h2 => by omega⟩, fun e => e.1⟩
  | succ k ih =>
    intro j a h ha
    simp only [d_X13_watches_L1]
    obtain ⟨w1, w2⟩ := pm_wa2 (f := f) hs sl (show j < 7 by omega) j 0 a (by omega) ha
    obtain ⟨q1, q2⟩ := ih (j + 1) _ (by omega) w1
    refine ⟨q1, fun e => ?_, fun e => ?_⟩
    · obtain ⟨e1, e2⟩ := q2.mp e
      obtain ⟨e3, e4⟩ := w2.mp e1
      refine ⟨e3, fun i t h1 h2 h3 h4 => ?_⟩
      by_cases hij : i = j
      · subst hij; exact e4 t (Nat.zero_le _) h3 h4
      · exact e2 i t (by omega) h2 h3 h4
    · exact q2.mpr ⟨w2.mpr ⟨e.1, fun t _ t2 tb => e.2 j t (Nat.le_refl _) (by omega) t2 tb⟩, fun i t h1 h2 h3 h4 => e.2 i t (by omega) h2 h3 h4⟩
theorem pm_waE {s : Nat} {f : Nat → Int32} (hs : s < 128) (sl : pm_RSl r g) (h7 : n ≤ 7) : ¬ d_X13_watches (nI s) n f g = 0 ↔ pm_cvr r n s := by
  obtain ⟨w1, w2⟩ := pm_wa1 (f := f) hs sl h7 n 0 1 (by omega) (Or.inr rfl)
  show ¬ d_X13_watches_L1 (nI s) f g n 0 1 = 0 ↔ _
  constructor
  · intro h i j hi hj hb
    rcases w1 with e | e
    · exact absurd e h
    · exact (w2.mp e).2 i j (Nat.zero_le _) hi hj hb
  · intro h e
    have := w2.mpr ⟨rfl, fun i t _ hi ht hb => h i t hi ht hb⟩
    rw [e] at this
    exact absurd this (by decide)
theorem pm_fwL (hl : pm_Il n r) (sl : pm_RSl r g) (h7 : n ≤ 7) : ∀ (k j a : Nat), j + k ≤ 2 ^ n → a ≤ 7 → pm_fw (fun j => r (49 + j)) n j = nI (min n a) → ∃ a', a' ≤ 7 ∧ a' ≤ a ∧ d_X13_fewestWatchers_L1 n f g k j (nI a) = nI a' ∧ pm_fw (fun j => r (49 + j)) n (j + k) = nI (min n a') ∧ (∀ s, j ≤ s → s < j + k → pm_cvr r n s → a' ≤ pm_pc s 7) := by
  have h128 : 2 ^ n ≤ 128 := Nat.pow_le_pow_right (by decide) h7
  intro k
  induction k with
  | zero => intro j a _ ha e; exact ⟨a, ha, Nat.le_refl _, rfl, e, fun s h1 h2 => by omega⟩
  | succ k ih =>
    intro j a h ha e
    simp only [d_X13_fewestWatchers_L1]
    have hw := pm_waE (f := upd f 6 0) (show j < 128 by omega) sl h7
    have hu := pm_fuE (show j < 128 by omega) hl h7
    by_cases hc : pm_cvr r n j
    · have h77 : ∀ a, a < 128 → pm_pc a 7 ≤ 7 := by decide +kernel
      have h77j := h77 j (by omega)
      rw [if_neg (hw.mpr hc), pm_bitsN j (by omega), pm_minN (by omega) (by omega)]
      have e2 : pm_fw (fun j => r (49 + j)) n (j + 1) = nI (min n (min a (pm_pc j 7))) := by
        rw [pm_fw, if_pos (hu.mpr hc), e, pm_bcN j (by omega), pm_minN (by omega) (by omega), Nat.min_assoc]
      obtain ⟨a', x1, x2, x3, x4, x5⟩ := ih (j + 1) (min a (pm_pc j 7)) (by omega) (by omega) e2
      refine ⟨a', x1, by omega, x3, by rw [show j + (k + 1) = j + 1 + k by omega]; exact x4, fun s h1 h2 h3 => ?_⟩
      by_cases hsj : s = j
      · subst hsj; omega
      · exact x5 s (by omega) (by omega) h3
    · rw [if_pos (Decidable.not_not.mp (fun e3 => hc (hw.mp e3)))]
      have e2 : pm_fw (fun j => r (49 + j)) n (j + 1) = nI (min n a) := by rw [pm_fw, if_neg (fun e3 => hc (hu.mp e3)), e]
      obtain ⟨a', x1, x2, x3, x4, x5⟩ := ih (j + 1) a (by omega) ha e2
      refine ⟨a', x1, x2, x3, by rw [show j + (k + 1) = j + 1 + k by omega]; exact x4, fun s h1 h2 h3 => ?_⟩
      by_cases hsj : s = j
      · subst hsj; exact absurd h3 hc
      · exact x5 s (by omega) (by omega) h3
end PWA
theorem pm_lowb : ∀ a, a < 128 → ∀ s, s < 128 → nI a &&& (nI s ^^^ (-1)) = 0 ∨ ∃ t, t < 7 ∧ (nI a &&& (nI s ^^^ (-1))) &&& (-(nI a &&& (nI s ^^^ (-1)))) = nI (2 ^ t) ∧ a / 2 ^ t % 2 = 1 ∧ s / 2 ^ t % 2 = 0 := by decide +kernel
theorem pn_or2 : ∀ A, A < 128 → ∀ j, j < 7 → nI A ||| nI (2 ^ j) = nI (A ||| 2 ^ j) := by decide +kernel
theorem pn_pc1 : ∀ A, A < 128 → ∀ j, j < 7 → A / 2 ^ j % 2 = 0 → pm_pc (A ||| 2 ^ j) 7 = pm_pc A 7 + 1 := by decide +kernel
theorem pm_obit : ∀ A, A < 128 → ∀ j, j < 7 → ∀ i, i < 7 → (A ||| 2 ^ j) / 2 ^ i % 2 = if i = j then 1 else A / 2 ^ i % 2 := by decide +kernel
theorem pm_subpc : ∀ s, s < 128 → ∀ S, S < 128 → (∀ j, j < 7 → s / 2 ^ j % 2 = 1 → S / 2 ^ j % 2 = 1) → pm_pc s 7 ≤ pm_pc S 7 := by decide +kernel
theorem pm_fulD : ∀ n, n < 8 → ∀ s, s < 128 → s < 2 ^ n → pm_pc s 7 = n → ∀ i, i < n → s / 2 ^ i % 2 = 1 := by decide +kernel
theorem pn_pc7 : ∀ a, a < 128 → pm_pc a 7 ≤ 7 := by decide +kernel
section PFF
variable {n : Nat} {r g f : Nat → Int32}
def pn_sub (s S : Nat) : Prop := ∀ j, j < 7 → s / 2 ^ j % 2 = 1 → S / 2 ^ j % 2 = 1
theorem pn_sub1 {s S i : Nat} (hs : s < 128) (hi : i < 7) (h : pn_sub s S) (hb : S / 2 ^ i % 2 = 1) : pn_sub (s ||| 2 ^ i) S := by
  intro j hj h1
  rw [pm_obit s hs i hi j hj] at h1
  by_cases e : j = i
  · subst e; exact hb
  · rw [if_neg e] at h1; exact h j hj h1
theorem pn_sub2 {s S i : Nat} (hs : s < 128) (hi : i < 7) (h : pn_sub (s ||| 2 ^ i) S) : pn_sub s S := by
  intro j hj h1
  refine h j hj ?_
  rw [pm_obit s hs i hi j hj]
  split
  · rfl
  · exact h1
theorem pm_fuS {s : Nat} (g : Nat → Int32) (hs : s < 128) : ∀ (k j : Nat), j + k ≤ 7 → pm_fu g (nI s) j k = -1 ∨ ∃ i, i < 7 ∧ pm_fu g (nI s) j k = nI i ∧ s / 2 ^ i % 2 = 0 ∧ ¬ g i &&& (nI s ^^^ (-1)) = 0 := by
  intro k
  induction k with
  | zero => intro j _; exact Or.inl rfl
  | succ k ih =>
    intro j h
    unfold pm_fu
    rw [pm_bt2 s hs j (by omega)]
    rcases Nat.mod_two_eq_zero_or_one (s / 2 ^ j) with hb | hb
    · rw [hb, if_pos (show nI 0 = 0 from rfl)]
      by_cases hc : g j &&& (nI s ^^^ (-1)) = 0
      · rw [if_pos hc]; exact ih (j + 1) (by omega)
      · rw [if_neg hc]; exact Or.inr ⟨j, by omega, rfl, hb, hc⟩
    · rw [hb, if_neg (show ¬ nI 1 = 0 by decide)]; exact ih (j + 1) (by omega)
theorem pm_ffC (hl : pm_Il n r) (h7 : n ≤ 7) : ∀ (k dep s : Nat), dep + k = n → s < 2 ^ n → pm_pc s 7 = dep → ∃ m, m ≤ 7 ∧ pm_ff (fun j => r (49 + j)) k (nI s) dep = nI m ∧ (∃ S, S < 2 ^ n ∧ pm_cvr r n S ∧ pn_sub s S ∧ pm_pc S 7 = m) ∧ (∀ S, S < 2 ^ n → pm_cvr r n S → pn_sub s S → m ≤ pm_pc S 7) := by
  have h128 : 2 ^ n ≤ 128 := Nat.pow_le_pow_right (by decide) h7
  intro k
  induction k with
  | zero =>
    intro dep s h hs hp
    obtain rfl : dep = n := by omega
    refine ⟨dep, h7, rfl, ⟨s, hs, fun i j hi _ _ => Or.inl (pm_fulD dep (by omega) s (by omega) hs hp i hi), fun j _ e => e, hp⟩, fun S hS _ hsub => ?_⟩
    rw [← hp]; exact pm_subpc s (by omega) S (by omega) hsub
  | succ k ih =>
    intro dep s h hs hp
    have hs7 : s < 128 := by omega
    unfold pm_ff
    by_cases hu : pm_fu (fun j => r (49 + j)) (nI s) 0 7 < 0
    · rw [if_pos hu]
      refine ⟨dep, by omega, rfl, ⟨s, hs, (pm_fuE hs7 hl h7).mp hu, fun j _ e => e, hp⟩, fun S hS _ hsub => ?_⟩
      rw [← hp]; exact pm_subpc s hs7 S (by omega) hsub
    · rw [if_neg hu]
      rcases pm_fuS (fun j => r (49 + j)) hs7 7 0 (by omega) with e | ⟨i, hi, e, hb, hne⟩
      · rw [e] at hu; exact absurd (by decide) hu
      · have hcl : (nI i).toNatClampNeg = i := pm_n_nI (by omega)
        have h49 := hl.1 i hi
        simp only [e, hcl]
        rw [h49.1] at hne ⊢
        rcases pm_lowb _ h49.2 s hs7 with e0 | ⟨t, ht, e1, e2, e3⟩
        · exact absurd e0 hne
        · have hn := hl.2.2.2.1 i t hi ht e2
          have hti : ¬ t = i := by
            rintro rfl
            rw [hl.2.2.1 t ht] at e2
            exact absurd e2 (by decide)
          rw [e1, pm_orb s hs7 i hi, pn_or2 s hs7 t ht]
          have hi2 : s ||| 2 ^ i < 2 ^ n := Nat.or_lt_two_pow hs (Nat.pow_lt_pow_right (by decide) hn.1)
          have ht2 : s ||| 2 ^ t < 2 ^ n := Nat.or_lt_two_pow hs (Nat.pow_lt_pow_right (by decide) hn.2)
          obtain ⟨m1, a1, a2, ⟨S1, b1, b2, b3, b4⟩, a4⟩ := ih (dep + 1) _ (by omega) hi2 (by rw [pn_pc1 s hs7 i hi hb, hp])
          obtain ⟨m2, c1, c2, ⟨S2, d1, d2, d3, d4⟩, c4⟩ := ih (dep + 1) _ (by omega) ht2 (by rw [pn_pc1 s hs7 t ht e3, hp])
          rw [a2, c2, pm_minN (by omega) (by omega)]
          refine ⟨min m1 m2, by omega, rfl, ?_, fun S hS hc hsub => ?_⟩
          · by_cases hm : m1 ≤ m2
            · rw [Nat.min_eq_left hm]; exact ⟨S1, b1, b2, pn_sub2 hs7 hi b3, b4⟩
            · rw [Nat.min_eq_right (by omega)]; exact ⟨S2, d1, d2, pn_sub2 hs7 ht d3, d4⟩
          · have hit : S / 2 ^ i % 2 = 1 ∨ S / 2 ^ t % 2 = 1 := by
              by_cases hlt : t < i
              · exact hc i t hn.1 hlt e2
              · rw [hl.2.1 i t hi ht] at e2
                exact (hc t i hn.2 (by omega) e2).symm
            rcases hit with x | x
            · have := a4 S hS hc (pn_sub1 hs7 hi hsub x); omega
            · have := c4 S hS hc (pn_sub1 hs7 ht hsub x); omega
theorem pm_fwA {f : Nat → Int32} (hl : pm_Il n r) (sl : pm_RSl r g) (h7 : n ≤ 7) : ∀ (k j a : Nat), j + k ≤ 2 ^ n → a ≤ 7 → ∃ a', a' ≤ 7 ∧ a' ≤ a ∧ d_X13_fewestWatchers_L1 n f g k j (nI a) = nI a' ∧ (a' = a ∨ ∃ s, s < 2 ^ n ∧ pm_cvr r n s ∧ pm_pc s 7 = a') ∧ (∀ s, j ≤ s → s < j + k → pm_cvr r n s → a' ≤ pm_pc s 7) := by
  have h128 : 2 ^ n ≤ 128 := Nat.pow_le_pow_right (by decide) h7
  intro k
  induction k with
  | zero => intro j a _ ha; exact ⟨a, ha, Nat.le_refl _, rfl, Or.inl rfl, fun s h1 h2 => by omega⟩
  | succ k ih =>
    intro j a h ha
    simp only [d_X13_fewestWatchers_L1]
    have hw := pm_waE (f := upd f 6 0) (show j < 128 by omega) sl h7
    by_cases hc : pm_cvr r n j
    · have h77j := pn_pc7 j (by omega)
      rw [if_neg (hw.mpr hc), pm_bitsN j (by omega), pm_minN (by omega) (by omega)]
      obtain ⟨a', x1, x2, x3, x4, x5⟩ := ih (j + 1) (min a (pm_pc j 7)) (by omega) (by omega)
      refine ⟨a', x1, by omega, x3, ?_, fun s h1 h2 h3 => ?_⟩
      · rcases x4 with e | e
        · by_cases hm : a ≤ pm_pc j 7
          · exact Or.inl (by omega)
          · exact Or.inr ⟨j, by omega, hc, by omega⟩
        · exact Or.inr e
      · by_cases hsj : s = j
        · subst hsj; omega
        · exact x5 s (by omega) (by omega) h3
    · rw [if_pos (Decidable.not_not.mp (fun e3 => hc (hw.mp e3)))]
      obtain ⟨a', x1, x2, x3, x4, x5⟩ := ih (j + 1) a (by omega) ha
      refine ⟨a', x1, x2, x3, x4, fun s h1 h2 h3 => ?_⟩
      by_cases hsj : s = j
      · subst hsj; exact absurd h3 hc
      · exact x5 s (by omega) (by omega) h3
end PFF
def pn_sum (F : Nat → Nat) : Nat → Nat
  | 0 => 0
  | k + 1 => pn_sum F k + F k
theorem pn_sum_cg {F G : Nat → Nat} : ∀ k, (∀ j, j < k → F j = G j) → pn_sum F k = pn_sum G k := by
  intro k
  induction k with
  | zero => intro _; rfl
  | succ k ih => intro h; rw [pn_sum, pn_sum, ih (fun j hj => h j (by omega)), h k (by omega)]
theorem pn_sum_add {F G : Nat → Nat} : ∀ k, pn_sum (fun j => F j + G j) k = pn_sum F k + pn_sum G k := by
  intro k
  induction k with
  | zero => rfl
  | succ k ih => rw [pn_sum, pn_sum, pn_sum, ih]; omega
theorem pn_sum_z {F : Nat → Nat} : ∀ k, (∀ j, j < k → F j = 0) → pn_sum F k = 0 := by
  intro k
  induction k with
  | zero => intro _; rfl
  | succ k ih => intro h; rw [pn_sum, ih (fun j hj => h j (by omega)), h k (by omega)]
theorem pn_sum_two {F : Nat → Nat} (a : Nat) : ∀ b, pn_sum F (a + b) = pn_sum F a + pn_sum (fun j => F (a + j)) b := by
  intro b
  induction b with
  | zero => rfl
  | succ b ih => rw [← Nat.add_assoc, pn_sum, ih, pn_sum]; omega
theorem pn_sum_sh {h : Nat → Nat} (v : Nat) : ∀ m, pn_sum (fun t => if v ≤ t then h (t - v) else 0) m = pn_sum h (m - v) := by
  intro m
  induction m with
  | zero => rw [Nat.zero_sub]; rfl
  | succ m ih =>
    rw [pn_sum, ih]
    by_cases e : v ≤ m
    · rw [if_pos e, show m + 1 - v = (m - v) + 1 by omega, pn_sum]
    · rw [if_neg e, show m + 1 - v = 0 by omega, show m - v = 0 by omega, Nat.add_zero]
def pn_W (V : Nat → Nat) (X : Nat) : Nat → Nat → Nat
  | 0, s => if s = 0 then 1 else 0
  | j + 1, s => if X / 2 ^ j % 2 = 1 then pn_W V X j s + (if V j ≤ s then pn_W V X j (s - V j) else 0) else pn_W V X j s
def pn_v (V : Nat → Nat) (S : Nat) : Nat → Nat
  | 0 => 0
  | j + 1 => pn_v V S j + (if S / 2 ^ j % 2 = 1 then V j else 0)
abbrev pn_sb (S X : Nat) : Prop := ∀ j, j < 7 → S / 2 ^ j % 2 = 1 → X / 2 ^ j % 2 = 1
theorem pn_top : ∀ j, j < 7 → ∀ S, S < 128 → S < 2 ^ j → S / 2 ^ j % 2 = 0 ∧ (2 ^ j + S) / 2 ^ j % 2 = 1 ∧ ∀ i, i < j → (2 ^ j + S) / 2 ^ i % 2 = S / 2 ^ i % 2 := by decide +kernel
theorem pn_sbtop : ∀ j, j < 7 → ∀ S, S < 128 → S < 2 ^ j → ∀ X, X < 128 → (pn_sb (2 ^ j + S) X ↔ X / 2 ^ j % 2 = 1 ∧ pn_sb S X) := by
  intro j hj S hS hlt X hX
  have h128 : 2 ^ j < 128 := Nat.pow_lt_pow_right (by decide) hj
  have hbits : ∀ j, j < 7 → ∀ S, S < 128 → S < 2 ^ j → ∀ i, i < 7 → (2 ^ j + S) / 2 ^ i % 2 = if i = j then 1 else S / 2 ^ i % 2 := by decide +kernel
  have hb := hbits j hj S hS hlt
  constructor
  · intro h
    refine ⟨h j hj (by rw [hb j hj, if_pos rfl]), fun i hi e => h i hi ?_⟩
    rw [hb i hi]; split
    · rfl
    · exact e
  · intro h i hi e
    rw [hb i hi] at e
    by_cases hij : i = j
    · subst hij; exact h.1
    · rw [if_neg hij] at e; exact h.2 i hi e
theorem pn_v_cg {V : Nat → Nat} {S S' : Nat} : ∀ j, (∀ i, i < j → S / 2 ^ i % 2 = S' / 2 ^ i % 2) → pn_v V S j = pn_v V S' j := by
  intro j
  induction j with
  | zero => intro _; rfl
  | succ j ih => intro h; rw [pn_v, pn_v, ih (fun i hi => h i (by omega)), h j (by omega)]
theorem pn_core {V : Nat → Nat} {X : Nat} (hX : X < 128) (P : Nat → Prop) [DecidablePred P] : ∀ (j : Nat), j ≤ 7 → (∀ i, i < j → V i ≤ 20) → ∀ s m, 20 * j < m → pn_sum (fun S => if pn_sb S X ∧ P (s + pn_v V S j) then 1 else 0) (2 ^ j) = pn_sum (fun t => if P (s + t) then pn_W V X j t else 0) m := by
  intro j
  induction j with
  | zero =>
    intro _ _ s m hm
    have h1 : pn_sb 0 X := fun j hj e => by rw [Nat.zero_div] at e; exact absurd e (by decide)
    obtain ⟨k, rfl⟩ : ∃ k, m = 1 + k := ⟨m - 1, by omega⟩
    rw [pn_sum_two, pn_sum_z k]
    · show 0 + (if pn_sb 0 X ∧ P (s + 0) then 1 else 0) = 0 + (if P (s + 0) then (if (0 : Nat) = 0 then 1 else 0) else 0) + 0
      by_cases hp : P (s + 0)
      · rw [if_pos ⟨h1, hp⟩, if_pos hp]; rfl
      · rw [if_neg (fun e => hp e.2), if_neg hp]
    · intro t _
      show (if P (s + (1 + t)) then (if 1 + t = 0 then 1 else 0) else 0) = 0
      rw [if_neg (show ¬ 1 + t = 0 by omega)]
      split <;> rfl
  | succ j ih =>
    intro h7 hV s m hm
    have hj : j < 7 := by omega
    have h128 : 2 ^ j ≤ 64 := Nat.pow_le_pow_right (n := 2) (by decide) (show j ≤ 6 by omega)
    have ih2 := ih (by omega) (fun i hi => hV i (by omega))
    have hVj := hV j (by omega)
    have e1 : ∀ S, S < 2 ^ j → pn_v V S (j + 1) = pn_v V S j := by
      intro S hS
      rw [pn_v, if_neg]
      · rfl
      · rw [(pn_top j hj S (by omega) hS).1]; decide
    have e2 : ∀ S, S < 2 ^ j → pn_v V (2 ^ j + S) (j + 1) = V j + pn_v V S j := by
      intro S hS
      have := pn_top j hj S (by omega) hS
      rw [pn_v, if_pos this.2.1, pn_v_cg j this.2.2, Nat.add_comm]
    rw [show 2 ^ (j + 1) = 2 ^ j + 2 ^ j by rw [Nat.pow_succ]; omega, pn_sum_two]
    have a1 : pn_sum (fun S => if pn_sb S X ∧ P (s + pn_v V S (j + 1)) then 1 else 0) (2 ^ j) = pn_sum (fun S => if pn_sb S X ∧ P (s + pn_v V S j) then 1 else 0) (2 ^ j) :=
      pn_sum_cg _ fun S hS => by rw [e1 S hS]
    rw [a1, ih2 s m (by omega)]
    by_cases hb : X / 2 ^ j % 2 = 1
    · have a2 : pn_sum (fun S => if pn_sb (2 ^ j + S) X ∧ P (s + pn_v V (2 ^ j + S) (j + 1)) then 1 else 0) (2 ^ j) = pn_sum (fun S => if pn_sb S X ∧ P ((s + V j) + pn_v V S j) then 1 else 0) (2 ^ j) :=
        pn_sum_cg _ fun S hS => by
          rw [e2 S hS, Nat.add_assoc]
          have := pn_sbtop j hj S (by omega) hS X hX
          by_cases h3 : pn_sb S X ∧ P (s + (V j + pn_v V S j))
          · rw [if_pos h3, if_pos ⟨this.mpr ⟨hb, h3.1⟩, h3.2⟩]
          · rw [if_neg h3, if_neg (fun e => h3 ⟨(this.mp e.1).2, e.2⟩)]
      rw [a2, ih2 (s + V j) (m - V j) (by omega), ← pn_sum_sh (V j) m, ← pn_sum_add]
      refine pn_sum_cg _ fun t _ => ?_
      rw [pn_W, if_pos hb]
      by_cases hv : V j ≤ t
      · rw [if_pos hv, if_pos hv, show s + V j + (t - V j) = s + t by omega]
        split <;> rfl
      · rw [if_neg hv, if_neg hv, Nat.add_zero, Nat.add_zero]
    · rw [pn_sum_z (2 ^ j)]
      · rw [Nat.add_zero]
        refine pn_sum_cg _ fun t _ => ?_
        rw [pn_W, if_neg hb]
      · intro S hS
        rw [if_neg]
        intro e
        exact hb ((pn_sbtop j hj S (by omega) hS X hX).mp e.1).1
theorem pn_W_le (V : Nat → Nat) (X : Nat) : ∀ j t, pn_W V X j t ≤ 2 ^ j := by
  intro j
  induction j with
  | zero => intro t; rw [pn_W]; split <;> decide
  | succ j ih =>
    intro t
    rw [pn_W, Nat.pow_succ]
    have h1 := ih t
    have h2 := ih (t - V j)
    split
    · split <;> omega
    · omega
theorem pn_sum_pos {F : Nat → Nat} : ∀ k, (0 < pn_sum F k ↔ ∃ j, j < k ∧ 0 < F j) := by
  intro k
  induction k with
  | zero => exact ⟨fun h => absurd h (Nat.lt_irrefl 0), fun ⟨j, h, _⟩ => by omega⟩
  | succ k ih =>
    rw [pn_sum]
    constructor
    · intro h
      by_cases h0 : 0 < pn_sum F k
      · obtain ⟨j, a, b⟩ := ih.mp h0; exact ⟨j, by omega, b⟩
      · exact ⟨k, by omega, by omega⟩
    · rintro ⟨j, a, b⟩
      by_cases e : j = k
      · subst e; omega
      · have := ih.mpr ⟨j, by omega, b⟩; omega
theorem pn_sum_one {F : Nat → Nat} {t : Nat} : ∀ k, t < k → (∀ j, j < k → ¬ j = t → F j = 0) → pn_sum F k = F t := by
  intro k
  induction k with
  | zero => intro h; omega
  | succ k ih =>
    intro h h0
    rw [pn_sum]
    by_cases e : t = k
    · subst e; rw [pn_sum_z t (fun j hj => h0 j (by omega) (by omega)), Nat.zero_add]
    · rw [ih (by omega) (fun j hj hne => h0 j (by omega) hne), h0 k (by omega) (by omega), Nat.add_zero]
theorem pn_W_pos {V : Nat → Nat} {X j t : Nat} (hX : X < 128) (h7 : j ≤ 7) (hV : ∀ i, i < j → V i ≤ 20) (ht : t < 141) : 0 < pn_W V X j t ↔ ∃ S, S < 2 ^ j ∧ pn_sb S X ∧ pn_v V S j = t := by
  have h := pn_core hX (fun u => u = t) j h7 hV 0 141 (by omega)
  have h2 : pn_sum (fun u => if 0 + u = t then pn_W V X j u else 0) 141 = pn_W V X j t := by
    rw [pn_sum_one (t := t) 141 ht (fun u _ hu => if_neg (by omega))]
    exact if_pos (Nat.zero_add t)
  rw [h2] at h
  rw [← h, pn_sum_pos]
  constructor
  · rintro ⟨S, hS, hp⟩
    by_cases e : pn_sb S X ∧ 0 + pn_v V S j = t
    · exact ⟨S, hS, e.1, by omega⟩
    · rw [if_neg e] at hp; exact absurd hp (by decide)
  · rintro ⟨S, hS, h1, h2⟩
    exact ⟨S, hS, by rw [if_pos ⟨h1, by omega⟩]; decide⟩
section PWY
variable {n : Nat} {r g f : Nat → Int32}
def pn_V (r : Nat → Int32) (j : Nat) : Nat := pm_n (r (7 + 6 * j + 1))
theorem pn_addv {v : Nat} (hv : 1 ≤ v) : ∀ (k : Nat) (a : Int32) (wy : Nat → Int32) (t : Nat), (d_X11_addVoter_L1 v k a wy).2 t = if v ≤ t ∧ t < v + k then wy t + wy (t - v) else wy t := by
  intro k
  induction k with
  | zero => intro a wy t; rw [if_neg (by omega)]; rfl
  | succ k ih =>
    intro a wy t
    rw [d_X11_addVoter_L1, ih]
    by_cases h1 : v ≤ t ∧ t < v + k
    · rw [if_pos h1, if_pos (by omega), pk_un (by omega), pk_un (by omega)]
    · rw [if_neg h1]
      by_cases h2 : t = v + k
      · subst h2; rw [if_pos (by omega), pk_us, show v + k - v = k by omega]
      · rw [if_neg (by omega), pk_un h2]
theorem pn_cw1 : ∀ (k j : Nat) (wy : Nat → Int32) (t : Nat), d_X11_countWays_L1 k j wy t = if j ≤ t ∧ t < j + k then 0 else wy t := by
  intro k
  induction k with
  | zero => intro j wy t; rw [if_neg (by omega)]; rfl
  | succ k ih =>
    intro j wy t
    rw [d_X11_countWays_L1, ih]
    by_cases h1 : j + 1 ≤ t ∧ t < j + 1 + k
    · rw [if_pos h1, if_pos (by omega)]
    · rw [if_neg h1]
      by_cases h2 : t = j
      · subst h2; rw [if_pos (by omega), pk_us]
      · rw [if_neg (by omega), pk_un h2]
theorem pn_cw2 {X : Nat} (hX : X < 128) (hw : ∀ i, i < n → pm_rw r i) (h7 : n ≤ 7) : ∀ (k j : Nat) (wy : Nat → Int32), j + k = n → (∀ t, t < 141 → wy t = nI (pn_W (pn_V r) X j t)) → ∀ t, t < 141 → d_X11_countWays_L2 (nI X) r k j wy t = nI (pn_W (pn_V r) X n t) := by
  intro k
  induction k with
  | zero => intro j wy h hwy t ht; obtain rfl : j = n := (by omega); exact hwy t ht
  | succ k ih =>
    intro j wy h hwy t ht
    rw [d_X11_countWays_L2, pm_bt2 X hX j (by omega)]
    have hv := (hw j (by omega)).2.1
    rcases Nat.mod_two_eq_zero_or_one (X / 2 ^ j) with hb | hb
    · rw [hb, if_neg (show ¬ nI 0 = 1 by decide)]
      refine ih (j + 1) wy (by omega) (fun u hu => ?_) t ht
      rw [hwy u hu, pn_W, if_neg (by rw [hb]; decide)]
    · rw [hb, if_pos (show nI 1 = 1 from rfl)]
      refine ih (j + 1) _ (by omega) (fun u hu => ?_) t ht
      unfold d_X11_addVoter
      have hVj : pn_V r j = pm_n (r (7 + 6 * j + 1)) := rfl
      rw [pn_addv hv.2.1, pn_W, if_pos hb, hVj]
      by_cases h1 : pm_n (r (7 + 6 * j + 1)) ≤ u
      · rw [if_pos ⟨h1, by omega⟩, if_pos h1, hwy u hu, hwy _ (by omega), nI_add]
      · rw [if_neg (by omega), if_neg h1, hwy u hu, Nat.add_zero]
theorem pn_cw {X : Nat} {wy : Nat → Int32} (hX : X < 128) (hw : ∀ i, i < n → pm_rw r i) (h7 : n ≤ 7) {t : Nat} (ht : t < 141) : d_X11_countWays (nI X) n r wy t = nI (pn_W (pn_V r) X n t) := by
  refine pn_cw2 hX hw h7 n 0 _ (by omega) (fun u hu => ?_) t ht
  rw [pn_W]
  by_cases h0 : u = 0
  · subst h0; rw [pk_us]; rfl
  · rw [pk_un h0, pn_cw1, if_pos (by omega), if_neg h0]; rfl
theorem pn_voL {S : Nat} (hS : S < 128) (hw : ∀ i, i < n → pm_rw r i) (h7 : n ≤ 7) : ∀ (k j : Nat) (a : Int32), j + k = n → a = nI (pn_v (pn_V r) S j) → d_X11_votesOf_L1 (nI S) r k j a = nI (pn_v (pn_V r) S n) := by
  intro k
  induction k with
  | zero => intro j a h e; obtain rfl : j = n := (by omega); exact e
  | succ k ih =>
    intro j a h e
    rw [d_X11_votesOf_L1, pm_bt2 S hS j (by omega)]
    have hv := (hw j (by omega)).2.1
    rcases Nat.mod_two_eq_zero_or_one (S / 2 ^ j) with hb | hb
    · rw [hb, if_neg (show ¬ nI 0 = 1 by decide)]
      refine ih (j + 1) _ (by omega) ?_
      rw [e, pn_v, if_neg (by rw [hb]; decide)]; exact Int32.add_zero _
    · rw [hb, if_pos (show nI 1 = 1 from rfl)]
      refine ih (j + 1) _ (by omega) ?_
      rw [e, pn_v, if_pos hb, hv.1, nI_add]; rfl
theorem pn_vo {S : Nat} (hS : S < 128) (hw : ∀ i, i < n → pm_rw r i) (h7 : n ≤ 7) : d_X11_votesOf (nI S) n r = nI (pn_v (pn_V r) S n) := pn_voL hS hw h7 n 0 0 (by omega) rfl
theorem pn_VV (hw : ∀ i, i < n → pm_rw r i) : ∀ i, i < n → pn_V r i ≤ 20 := fun i hi => (hw i hi).2.1.2.2
theorem pn_swS {O i : Nat} (hO : O < 128) (hw : ∀ i, i < n → pm_rw r i) (h7 : n ≤ 7) (eo : d_X10_activeSet n r &&& (((1 : Int32) <<< (nI i &&& 31)) ^^^ (-1)) = nI O) : ∀ (k j a : Nat), j + k ≤ 128 → d_X11_swingsBySets_L1 i n r k j (nI a) = nI (a + pn_sum (fun S => if pn_sb (j + S) O ∧ ¬ d_X11_isSwing (nI (0 + pn_v (pn_V r) (j + S) n)) i n r = 0 then 1 else 0) k) := by
  intro k
  induction k with
  | zero => intro j a _; rfl
  | succ k ih =>
    intro j a h
    have e1 : ∀ x, x + pn_sum (fun S => if pn_sb (j + 1 + S) O ∧ ¬ d_X11_isSwing (nI (0 + pn_v (pn_V r) (j + 1 + S) n)) i n r = 0 then 1 else 0) k = x + pn_sum (fun S => (fun S => if pn_sb (j + S) O ∧ ¬ d_X11_isSwing (nI (0 + pn_v (pn_V r) (j + S) n)) i n r = 0 then 1 else 0) (1 + S)) k := fun x => by
      congr 1
      exact pn_sum_cg _ fun S _ => by simp only [show j + 1 + S = j + (1 + S) by omega]
    rw [show k + 1 = 1 + k by omega, pn_sum_two, show 1 + k = k + 1 by omega, d_X11_swingsBySets_L1, eo]
    have hsub := pm_subi j (by omega) O hO
    have hu : pn_sum (fun S => if pn_sb (j + S) O ∧ ¬ d_X11_isSwing (nI (0 + pn_v (pn_V r) (j + S) n)) i n r = 0 then 1 else 0) 1 = if pn_sb j O ∧ ¬ d_X11_isSwing (nI (pn_v (pn_V r) j n)) i n r = 0 then 1 else 0 := by
      show 0 + (if pn_sb (j + 0) O ∧ ¬ d_X11_isSwing (nI (0 + pn_v (pn_V r) (j + 0) n)) i n r = 0 then 1 else 0) = _
      rw [Nat.zero_add, Nat.zero_add, Nat.add_zero]
    rw [hu, pn_vo (by omega) hw h7]
    by_cases c1 : pn_sb j O
    · rw [if_pos (hsub.mpr c1)]
      by_cases c2 : d_X11_isSwing (nI (pn_v (pn_V r) j n)) i n r = 0
      · rw [if_pos c2, if_neg (fun e => e.2 c2), ih (j + 1) a (by omega), e1, Nat.zero_add]
      · rw [if_neg c2, if_pos ⟨c1, c2⟩, show nI a + Int32.ofInt 1 = nI (a + 1) from nI_add a 1, ih (j + 1) (a + 1) (by omega), e1, Nat.add_assoc]
    · rw [if_neg (fun e => c1 (hsub.mp e)), if_neg (fun e => c1 e.1), ih (j + 1) a (by omega), e1, Nat.zero_add]
theorem pn_swW {O i : Nat} {wy : Nat → Int32} (hO : O < 128) (hw : ∀ i, i < n → pm_rw r i) (h7 : n ≤ 7) (eo : d_X10_activeSet n r &&& (((1 : Int32) <<< (nI i &&& 31)) ^^^ (-1)) = nI O) : ∀ (k j a : Nat), j + k ≤ 141 → d_X11_swingsByWays_L1 i n r wy k j (nI a) = nI (a + pn_sum (fun t => if ¬ d_X11_isSwing (nI (0 + (j + t))) i n r = 0 then pn_W (pn_V r) O n (j + t) else 0) k) := by
  intro k
  induction k with
  | zero => intro j a _; rfl
  | succ k ih =>
    intro j a h
    have e1 : ∀ x, x + pn_sum (fun t => if ¬ d_X11_isSwing (nI (0 + (j + 1 + t))) i n r = 0 then pn_W (pn_V r) O n (j + 1 + t) else 0) k = x + pn_sum (fun S => (fun t => if ¬ d_X11_isSwing (nI (0 + (j + t))) i n r = 0 then pn_W (pn_V r) O n (j + t) else 0) (1 + S)) k := fun x => by
      congr 1
      exact pn_sum_cg _ fun S _ => by simp only [show j + 1 + S = j + (1 + S) by omega]
    rw [show k + 1 = 1 + k by omega, pn_sum_two, show 1 + k = k + 1 by omega, d_X11_swingsByWays_L1, eo]
    have hu : pn_sum (fun t => if ¬ d_X11_isSwing (nI (0 + (j + t))) i n r = 0 then pn_W (pn_V r) O n (j + t) else 0) 1 = if ¬ d_X11_isSwing (nI j) i n r = 0 then pn_W (pn_V r) O n j else 0 := by
      show 0 + (if ¬ d_X11_isSwing (nI (0 + (j + 0))) i n r = 0 then pn_W (pn_V r) O n (j + 0) else 0) = _
      rw [Nat.zero_add, Nat.zero_add, Nat.add_zero]
    rw [hu, pn_cw hO hw h7 (by omega)]
    by_cases c2 : d_X11_isSwing (nI j) i n r = 0
    · rw [if_pos c2, if_neg (fun e => e c2), ih (j + 1) a (by omega), e1, Nat.zero_add]
    · rw [if_neg c2, if_pos c2, nI_add, ih (j + 1) _ (by omega), e1, Nat.add_assoc]
theorem pn_swE {i : Nat} {wy : Nat → Int32} (hi : i < n) (hw : ∀ i, i < n → pm_rw r i) (h7 : n ≤ 7) : (d_X11_swingsByWays i n r wy).1 = d_X11_swingsBySets i n r := by
  obtain ⟨A, hA, e⟩ := pm_acN (r := r) h7 n 0 0 (by omega) (by decide)
  have h128 : 2 ^ n ≤ 128 := Nat.pow_le_pow_right (by decide) h7
  have ea : d_X10_activeSet n r = nI A := e
  obtain ⟨p1, p2, p3⟩ := pm_oth A (by omega) i (by omega)
  have eo : d_X10_activeSet n r &&& (((1 : Int32) <<< (nI i &&& 31)) ^^^ (-1)) = nI (A &&& (127 - 2 ^ i)) := by rw [ea]; exact p1
  have hO : A &&& (127 - 2 ^ i) < 128 := by omega
  show d_X11_swingsByWays_L1 i n r wy 141 0 (nI 0) = d_X11_swingsBySets_L1 i n r (2 ^ n) 0 (nI 0)
  rw [pn_swW hO hw h7 eo 141 0 0 (by omega), pn_swS hO hw h7 eo (2 ^ n) 0 0 (by omega)]
  have hc := pn_core hO (fun s => ¬ d_X11_isSwing (nI s) i n r = 0) n h7 (pn_VV hw) 0 141 (by omega)
  simp only [Nat.zero_add] at hc ⊢
  rw [hc]
theorem pn_min1 (a b : Int32) : pm_min a b ≤ a := by
  unfold pm_min; split
  · rename_i h; exact Int32.le_of_lt h
  · exact Int32.le_refl a
theorem pn_min2 (a b : Int32) : pm_min a b ≤ b := by
  unfold pm_min; split
  · exact Int32.le_refl b
  · rename_i h; exact Int32.not_lt.mp h
theorem pn_min3 (a b : Int32) : pm_min a b = a ∨ pm_min a b = b := by
  unfold pm_min; split
  · exact Or.inr rfl
  · exact Or.inl rfl
def pn_isMin (a : Int32) (G : Nat → Int32) (p : Nat → Prop) (m : Int32) : Prop := m ≤ a ∧ (∀ v, p v → m ≤ G v) ∧ (m = a ∨ ∃ v, p v ∧ m = G v)
theorem pn_isMin_u {a : Int32} {G : Nat → Int32} {p : Nat → Prop} {m m' : Int32} (h : pn_isMin a G p m) (h' : pn_isMin a G p m') : m = m' := by
  obtain ⟨a1, a2, a3⟩ := h
  obtain ⟨b1, b2, b3⟩ := h'
  apply Int32.le_antisymm
  · rcases b3 with rfl | ⟨v, hv, rfl⟩
    · exact a1
    · exact a2 v hv
  · rcases a3 with rfl | ⟨v, hv, rfl⟩
    · exact b1
    · exact b2 v hv
theorem pn_dS {A : Nat} (hA : A < 128) (hw : ∀ i, i < n → pm_rw r i) (h7 : n ≤ 7) (ea : d_X10_activeSet n r = nI A) (G : Nat → Int32) (hG : ∀ v, G v = pm_abs (d_X11_votesOf (nI A) n r - 2 * nI v)) : ∀ (k j : Nat) (a : Int32), j + k ≤ 128 → pn_isMin a G (fun v => ∃ S, j ≤ S ∧ S < j + k ∧ pn_sb S A ∧ pn_v (pn_V r) S n = v) (d_X11_differenceBySets_L1 n r k j a) := by
  intro k
  induction k with
  | zero => intro j a _; exact ⟨Int32.le_refl _, fun v ⟨S, h1, h2, _⟩ => by omega, Or.inl rfl⟩
  | succ k ih =>
    intro j a h
    rw [d_X11_differenceBySets_L1, ea, pn_vo (S := j) (by omega) hw h7, ← hG]
    have hsub := pm_subi j (by omega) A hA
    by_cases c1 : pn_sb j A
    · rw [if_pos (hsub.mpr c1)]
      obtain ⟨x1, x2, x3⟩ := ih (j + 1) (pm_min a (G (pn_v (pn_V r) j n))) (by omega)
      refine ⟨Int32.le_trans x1 (pn_min1 _ _), ?_, ?_⟩
      · rintro v ⟨S, h1, h2, h3, h4⟩
        by_cases hSj : S = j
        · subst hSj; subst h4; exact Int32.le_trans x1 (pn_min2 _ _)
        · exact x2 v ⟨S, by omega, by omega, h3, h4⟩
      · rcases x3 with e | ⟨v, ⟨S, h1, h2, h3, h4⟩, e⟩
        · rcases pn_min3 a (G (pn_v (pn_V r) j n)) with e2 | e2
          · exact Or.inl (e.trans e2)
          · exact Or.inr ⟨_, ⟨j, by omega, by omega, c1, rfl⟩, e.trans e2⟩
        · exact Or.inr ⟨v, ⟨S, by omega, by omega, h3, h4⟩, e⟩
    · rw [if_neg (fun e => c1 (hsub.mp e))]
      obtain ⟨x1, x2, x3⟩ := ih (j + 1) a (by omega)
      refine ⟨x1, ?_, ?_⟩
      · rintro v ⟨S, h1, h2, h3, h4⟩
        by_cases hSj : S = j
        · subst hSj; exact absurd h3 c1
        · exact x2 v ⟨S, by omega, by omega, h3, h4⟩
      · rcases x3 with e | ⟨v, ⟨S, h1, h2, h3, h4⟩, e⟩
        · exact Or.inl e
        · exact Or.inr ⟨v, ⟨S, by omega, by omega, h3, h4⟩, e⟩
theorem pn_dW {A : Nat} {wy : Nat → Int32} (hA : A < 128) (hw : ∀ i, i < n → pm_rw r i) (h7 : n ≤ 7) (ea : d_X10_activeSet n r = nI A) (G : Nat → Int32) (hG : ∀ v, G v = pm_abs (d_X11_votesOf (nI A) n r - 2 * nI v)) : ∀ (k j : Nat) (a : Int32), j + k ≤ 141 → pn_isMin a G (fun v => j ≤ v ∧ v < j + k ∧ 0 < pn_W (pn_V r) A n v) (d_X11_differenceBySums_L1 n r wy k j a) := by
  have h128 : 2 ^ n ≤ 128 := Nat.pow_le_pow_right (by decide) h7
  intro k
  induction k with
  | zero => intro j a _; exact ⟨Int32.le_refl _, fun v ⟨h1, h2, _⟩ => by omega, Or.inl rfl⟩
  | succ k ih =>
    intro j a h
    have hle := pn_W_le (pn_V r) A n j
    rw [d_X11_differenceBySums_L1, ea, pn_cw hA hw h7 (by omega), ← hG]
    by_cases c1 : 0 < pn_W (pn_V r) A n j
    · rw [if_neg (show ¬ nI (pn_W (pn_V r) A n j) ≤ 0 from fun e => absurd (nI_lt (a := 0) c1 (by omega)) (Int32.not_lt.mpr e))]
      obtain ⟨x1, x2, x3⟩ := ih (j + 1) (pm_min a (G j)) (by omega)
      refine ⟨Int32.le_trans x1 (pn_min1 _ _), ?_, ?_⟩
      · rintro v ⟨h1, h2, h3⟩
        by_cases hv : v = j
        · subst hv; exact Int32.le_trans x1 (pn_min2 _ _)
        · exact x2 v ⟨by omega, by omega, h3⟩
      · rcases x3 with e | ⟨v, ⟨h1, h2, h3⟩, e⟩
        · rcases pn_min3 a (G j) with e2 | e2
          · exact Or.inl (e.trans e2)
          · exact Or.inr ⟨_, ⟨by omega, by omega, c1⟩, e.trans e2⟩
        · exact Or.inr ⟨v, ⟨by omega, by omega, h3⟩, e⟩
    · rw [show pn_W (pn_V r) A n j = 0 by omega, if_pos (by decide)]
      obtain ⟨x1, x2, x3⟩ := ih (j + 1) a (by omega)
      refine ⟨x1, ?_, ?_⟩
      · rintro v ⟨h1, h2, h3⟩
        by_cases hv : v = j
        · subst hv; exact absurd h3 c1
        · exact x2 v ⟨by omega, by omega, h3⟩
      · rcases x3 with e | ⟨v, ⟨h1, h2, h3⟩, e⟩
        · exact Or.inl e
        · exact Or.inr ⟨v, ⟨by omega, by omega, h3⟩, e⟩
theorem pn_v_le {S : Nat} {V : Nat → Nat} : ∀ j, (∀ i, i < j → V i ≤ 20) → pn_v V S j ≤ 20 * j := by
  intro j
  induction j with
  | zero => intro _; exact Nat.le_refl _
  | succ j ih =>
    intro h
    have h1 := ih (fun i hi => h i (by omega))
    have h2 := h j (by omega)
    rw [pn_v]; split <;> omega
theorem pn_dE {wy : Nat → Int32} (hw : ∀ i, i < n → pm_rw r i) (h7 : n ≤ 7) : (d_X11_differenceBySums n r wy).1 = d_X11_differenceBySets n r := by
  obtain ⟨A, hA, e⟩ := pm_acN (r := r) h7 n 0 0 (by omega) (by decide)
  have h128 : 2 ^ n ≤ 128 := Nat.pow_le_pow_right (by decide) h7
  have ea : d_X10_activeSet n r = nI A := e
  have hS := pn_dS (A := A) (by omega) hw h7 ea _ (fun v => rfl) (2 ^ n) 0 (d_X11_votesOf (d_X10_activeSet n r) n r) (by omega)
  have hW := pn_dW (A := A) (wy := wy) (by omega) hw h7 ea _ (fun v => rfl) 141 0 (d_X11_votesOf (d_X10_activeSet n r) n r) (by omega)
  refine pn_isMin_u hW ?_
  obtain ⟨x1, x2, x3⟩ := hS
  refine ⟨x1, ?_, ?_⟩
  · rintro v ⟨_, h2, h3⟩
    obtain ⟨S, s1, s2, s3⟩ := (pn_W_pos (by omega) h7 (pn_VV hw) (by omega)).mp h3
    exact x2 v ⟨S, by omega, by omega, s2, s3⟩
  · rcases x3 with e | ⟨v, ⟨S, s1, s2, s3, s4⟩, e⟩
    · exact Or.inl e
    · have hv : v < 141 := by
        have := pn_v_le (S := S) n (pn_VV hw)
        omega
      exact Or.inr ⟨v, ⟨by omega, by omega, (pn_W_pos (by omega) h7 (pn_VV hw) hv).mpr ⟨S, by omega, s3, s4⟩⟩, e⟩
end PWY
def fp_ok (f : FP.Core.Fmt) : FP.Core.Datum → Prop
  | .nan => False
  | .inf _ => True
  | .fin _ c q => c < 2 ^ f.p ∧ (c < f.tails ∨ (q - f.qmin).toNat + 1 < f.exps - 1)
theorem fp_n64_of (n : Nat) (h : n % 2 ^ 63 ≤ 2047 * 2 ^ 52) : vf_n64 (UInt64.ofNat n) := by
  unfold vf_n64
  rw [UInt64.le_iff_toNat_le, UInt64.toNat_and]
  have e : (UInt64.ofNat n).toNat = n % 2 ^ 64 := by simp
  have e1 : (0x7fffffffffffffff : UInt64).toNat = 2 ^ 63 - 1 := by decide
  have e2 : (0x7ff0000000000000 : UInt64).toNat = 2047 * 2 ^ 52 := by decide
  rw [e, e1, e2, Nat.and_two_pow_sub_one_eq_mod, Nat.mod_mod_of_dvd _ (by decide)]
  exact h
theorem fp_enc64 {x : FP.Core.Datum} (h : fp_ok FP.Core.b64 x) : vf_n64 (UInt64.ofNat (FP.Core.encode FP.Core.b64 x)) := by
  apply fp_n64_of
  have et : FP.Core.b64.tails = 2 ^ 52 := by decide
  have ee : FP.Core.b64.exps = 2 ^ 11 := by decide
  have ep : FP.Core.b64.p = 53 := rfl
  cases x with
  | nan => exact h.elim
  | inf s =>
    simp only [FP.Core.encode, FP.Core.assemble, et, ee]
    cases s <;> simp [Bool.toNat]
  | fin s c q =>
    obtain ⟨h1, h2⟩ := h
    rw [et, ee] at h2
    rw [ep] at h1
    simp only [FP.Core.encode, FP.Core.assemble, et, ee]
    split
    · cases s <;> simp only [Bool.toNat, cond_true, cond_false] <;> omega
    · cases s <;> simp only [Bool.toNat, cond_true, cond_false] <;> omega
theorem fp_settle64 {s : Bool} {c : Nat} {q : Int} : fp_ok FP.Core.b64 (FP.Core.settle FP.Core.b64 s c q) := by
  have et : FP.Core.b64.tails = 2 ^ 52 := by decide
  have ee : FP.Core.b64.exps = 2 ^ 11 := by decide
  have ep : FP.Core.b64.p = 53 := rfl
  have em : FP.Core.b64.qmax = 971 := by decide
  have en : FP.Core.b64.qmin = -1074 := by decide
  unfold FP.Core.settle FP.Core.bound
  split
  · rename_i h
    split
    · rename_i h2
      refine ⟨h, Or.inr ?_⟩
      rw [en, ee]
      rw [em] at h2
      omega
    · trivial
  · split
    · rename_i h2
      refine ⟨by rw [et, ep]; decide, Or.inr ?_⟩
      rw [en, ee]
      rw [em] at h2
      omega
    · trivial
theorem fp_ratio64 {s : Bool} {num den : Nat} {e : Int} : fp_ok FP.Core.b64 (FP.Core.roundRatio FP.Core.b64 s num den e) := by
  have et : FP.Core.b64.tails = 2 ^ 52 := by decide
  unfold FP.Core.roundRatio
  split
  · exact ⟨by decide, Or.inl (by rw [et]; decide)⟩
  · exact fp_settle64
/-- a datum, written and read -/
theorem fp_dec64 {s : Bool} {c : Nat} {q : Int} (h : fp_ok FP.Core.b64 (.fin s c q)) : ∃ s' q', FP.Core.decode FP.Core.b64 (UInt64.ofNat (FP.Core.encode FP.Core.b64 (.fin s c q))).toNat = .fin s' c q' := by
  have et : FP.Core.b64.tails = 2 ^ 52 := by decide
  have ee : FP.Core.b64.exps = 2 ^ 11 := by decide
  have ep : FP.Core.b64.p = 53 := rfl
  obtain ⟨h1, h2⟩ := h
  rw [et, ee] at h2
  rw [ep] at h1
  have e0 : ∀ n, (UInt64.ofNat n).toNat = n % 2 ^ 64 := fun n => by simp
  simp only [FP.Core.encode, FP.Core.assemble, et, ee, e0]
  by_cases hc : c < 2 ^ 52
  · rw [if_pos hc]
    have x1 : ((s.toNat * 2 ^ 11 + 0) * 2 ^ 52 + c) % 2 ^ 64 / 2 ^ 52 % 2 ^ 11 = 0 := by
      cases s <;> simp only [Bool.toNat, cond_true, cond_false] <;> omega
    have x2 : ((s.toNat * 2 ^ 11 + 0) * 2 ^ 52 + c) % 2 ^ 64 % 2 ^ 52 = c := by
      cases s <;> simp only [Bool.toNat, cond_true, cond_false] <;> omega
    unfold FP.Core.decode
    simp only [FP.Core.fieldE, FP.Core.fieldT, et, ee, x1, x2]
    rw [if_neg (by decide), if_pos trivial]
    exact ⟨_, _, rfl⟩
  · rw [if_neg hc]
    rcases h2 with h2 | h2
    · exact absurd h2 hc
    obtain ⟨E, hE⟩ : ∃ E, E = (q - FP.Core.b64.qmin).toNat + 1 := ⟨_, rfl⟩
    rw [← hE] at h2 ⊢
    have hE0 : ¬ E = 0 := by omega
    have x1 : ((s.toNat * 2 ^ 11 + E) * 2 ^ 52 + (c - 2 ^ 52)) % 2 ^ 64 / 2 ^ 52 % 2 ^ 11 = E := by
      cases s <;> simp only [Bool.toNat, cond_true, cond_false] <;> omega
    have x2 : ((s.toNat * 2 ^ 11 + E) * 2 ^ 52 + (c - 2 ^ 52)) % 2 ^ 64 % 2 ^ 52 = c - 2 ^ 52 := by
      cases s <;> simp only [Bool.toNat, cond_true, cond_false] <;> omega
    unfold FP.Core.decode
    simp only [FP.Core.fieldE, FP.Core.fieldT, et, ee, x1, x2]
    rw [if_neg (by omega), if_neg hE0, show 2 ^ 52 + (c - 2 ^ 52) = c by omega]
    exact ⟨_, _, rfl⟩
theorem fp_n32_of (n : Nat) (h : n % 2 ^ 31 ≤ 255 * 2 ^ 23) : vf_n32 (UInt32.ofNat n) := by
  unfold vf_n32
  rw [UInt32.le_iff_toNat_le, UInt32.toNat_and]
  have e : (UInt32.ofNat n).toNat = n % 2 ^ 32 := by simp
  have e1 : (0x7fffffff : UInt32).toNat = 2 ^ 31 - 1 := by decide
  have e2 : (0x7f800000 : UInt32).toNat = 255 * 2 ^ 23 := by decide
  rw [e, e1, e2, Nat.and_two_pow_sub_one_eq_mod, Nat.mod_mod_of_dvd _ (by decide)]
  exact h
theorem fp_enc32 {x : FP.Core.Datum} (h : fp_ok FP.Core.b32 x) : vf_n32 (UInt32.ofNat (FP.Core.encode FP.Core.b32 x)) := by
  apply fp_n32_of
  have et : FP.Core.b32.tails = 2 ^ 23 := by decide
  have ee : FP.Core.b32.exps = 2 ^ 8 := by decide
  have ep : FP.Core.b32.p = 24 := rfl
  cases x with
  | nan => exact h.elim
  | inf s =>
    simp only [FP.Core.encode, FP.Core.assemble, et, ee]
    cases s <;> simp [Bool.toNat]
  | fin s c q =>
    obtain ⟨h1, h2⟩ := h
    rw [et, ee] at h2
    rw [ep] at h1
    simp only [FP.Core.encode, FP.Core.assemble, et, ee]
    split
    · cases s <;> simp only [Bool.toNat, cond_true, cond_false] <;> omega
    · cases s <;> simp only [Bool.toNat, cond_true, cond_false] <;> omega
theorem fp_settle32 {s : Bool} {c : Nat} {q : Int} : fp_ok FP.Core.b32 (FP.Core.settle FP.Core.b32 s c q) := by
  have et : FP.Core.b32.tails = 2 ^ 23 := by decide
  have ee : FP.Core.b32.exps = 2 ^ 8 := by decide
  have ep : FP.Core.b32.p = 24 := rfl
  have em : FP.Core.b32.qmax = 104 := by decide
  have en : FP.Core.b32.qmin = -149 := by decide
  unfold FP.Core.settle FP.Core.bound
  split
  · rename_i h
    split
    · rename_i h2
      refine ⟨h, Or.inr ?_⟩
      rw [en, ee]
      rw [em] at h2
      omega
    · trivial
  · split
    · rename_i h2
      refine ⟨by rw [et, ep]; decide, Or.inr ?_⟩
      rw [en, ee]
      rw [em] at h2
      omega
    · trivial
theorem fp_ratio32 {s : Bool} {num den : Nat} {e : Int} : fp_ok FP.Core.b32 (FP.Core.roundRatio FP.Core.b32 s num den e) := by
  have et : FP.Core.b32.tails = 2 ^ 23 := by decide
  unfold FP.Core.roundRatio
  split
  · exact ⟨by decide, Or.inl (by rw [et]; decide)⟩
  · exact fp_settle32
/-- a datum, written and read -/
theorem fp_dec32 {s : Bool} {c : Nat} {q : Int} (h : fp_ok FP.Core.b32 (.fin s c q)) : ∃ s' q', FP.Core.decode FP.Core.b32 (UInt32.ofNat (FP.Core.encode FP.Core.b32 (.fin s c q))).toNat = .fin s' c q' := by
  have et : FP.Core.b32.tails = 2 ^ 23 := by decide
  have ee : FP.Core.b32.exps = 2 ^ 8 := by decide
  have ep : FP.Core.b32.p = 24 := rfl
  obtain ⟨h1, h2⟩ := h
  rw [et, ee] at h2
  rw [ep] at h1
  have e0 : ∀ n, (UInt32.ofNat n).toNat = n % 2 ^ 32 := fun n => by simp
  simp only [FP.Core.encode, FP.Core.assemble, et, ee, e0]
  by_cases hc : c < 2 ^ 23
  · rw [if_pos hc]
    have x1 : ((s.toNat * 2 ^ 8 + 0) * 2 ^ 23 + c) % 2 ^ 32 / 2 ^ 23 % 2 ^ 8 = 0 := by
      cases s <;> simp only [Bool.toNat, cond_true, cond_false] <;> omega
    have x2 : ((s.toNat * 2 ^ 8 + 0) * 2 ^ 23 + c) % 2 ^ 32 % 2 ^ 23 = c := by
      cases s <;> simp only [Bool.toNat, cond_true, cond_false] <;> omega
    unfold FP.Core.decode
    simp only [FP.Core.fieldE, FP.Core.fieldT, et, ee, x1, x2]
    rw [if_neg (by decide), if_pos trivial]
    exact ⟨_, _, rfl⟩
  · rw [if_neg hc]
    rcases h2 with h2 | h2
    · exact absurd h2 hc
    obtain ⟨E, hE⟩ : ∃ E, E = (q - FP.Core.b32.qmin).toNat + 1 := ⟨_, rfl⟩
    rw [← hE] at h2 ⊢
    have hE0 : ¬ E = 0 := by omega
    have x1 : ((s.toNat * 2 ^ 8 + E) * 2 ^ 23 + (c - 2 ^ 23)) % 2 ^ 32 / 2 ^ 23 % 2 ^ 8 = E := by
      cases s <;> simp only [Bool.toNat, cond_true, cond_false] <;> omega
    have x2 : ((s.toNat * 2 ^ 8 + E) * 2 ^ 23 + (c - 2 ^ 23)) % 2 ^ 32 % 2 ^ 23 = c - 2 ^ 23 := by
      cases s <;> simp only [Bool.toNat, cond_true, cond_false] <;> omega
    unfold FP.Core.decode
    simp only [FP.Core.fieldE, FP.Core.fieldT, et, ee, x1, x2]
    rw [if_neg (by omega), if_neg hE0, show 2 ^ 23 + (c - 2 ^ 23) = c by omega]
    exact ⟨_, _, rfl⟩
theorem fp_int64 {i : Int} (h : i.natAbs < 2 ^ 32) : ∃ s c q, FP.Core.round FP.Core.b64 (FP.Core.ofInt i) = .fin s c q ∧ fp_ok FP.Core.b64 (.fin s c q) ∧ (i ≠ 0 → c ≠ 0) := by
  have et : FP.Core.b64.tails = 2 ^ 52 := by decide
  have ep : FP.Core.b64.p = 53 := rfl
  have em : FP.Core.b64.qmax = 971 := by decide
  have en : FP.Core.b64.qmin = -1074 := by decide
  unfold FP.Core.ofInt
  simp only [FP.Core.round]
  have hok : fp_ok FP.Core.b64 (FP.Core.roundRatio FP.Core.b64 (decide (i < 0)) i.natAbs 1 0) := fp_ratio64
  unfold FP.Core.roundRatio at hok ⊢
  by_cases h0 : i.natAbs = 0
  · rw [if_pos h0] at hok ⊢
    exact ⟨_, _, _, rfl, hok, fun hi => absurd (Int.natAbs_eq_zero.mp h0) hi⟩
  · rw [if_neg h0] at hok ⊢
    unfold FP.Core.roundAt at hok ⊢
    have hl1 := Nat.log2_self_le h0
    have hl2 : i.natAbs.log2 < 32 := (Nat.log2_lt h0).mpr h
    have hq : FP.Core.quantum FP.Core.b64 i.natAbs 1 0 ≤ (i.natAbs.log2 : Int) := by
      unfold FP.Core.quantum FP.Core.leading
      rw [en, ep]
      simp only
      split <;> omega
    generalize FP.Core.quantum FP.Core.b64 i.natAbs 1 0 = q at hok hq ⊢
    have hun : FP.Core.unitsDen 1 0 q ≤ FP.Core.unitsNum i.natAbs 0 q := by
      unfold FP.Core.unitsDen FP.Core.unitsNum
      have a1 : 2 ^ (q - 0).toNat ≤ 2 ^ i.natAbs.log2 := Nat.pow_le_pow_right (by decide) (by omega)
      have a2 : i.natAbs ≤ i.natAbs * 2 ^ (0 - q).toNat := Nat.le_mul_of_pos_right _ (Nat.pow_pos (by decide))
      rw [Nat.one_mul]
      exact Nat.le_trans a1 (Nat.le_trans hl1 a2)
    have hud : 0 < FP.Core.unitsDen 1 0 q := by
      unfold FP.Core.unitsDen
      rw [Nat.one_mul]
      exact Nat.pow_pos (by decide)
    have hne : FP.Core.nearest (FP.Core.unitsNum i.natAbs 0 q) (FP.Core.unitsDen 1 0 q) ≠ 0 := by
      have hd := Nat.div_pos hun hud
      unfold FP.Core.nearest
      generalize FP.Core.unitsNum i.natAbs 0 q / FP.Core.unitsDen 1 0 q = a at hd
      generalize FP.Core.unitsNum i.natAbs 0 q % FP.Core.unitsDen 1 0 q = m
      split
      · omega
      · split <;> omega
    generalize FP.Core.nearest (FP.Core.unitsNum i.natAbs 0 q) (FP.Core.unitsDen 1 0 q) = C at hok hne ⊢
    have key : ∃ c q', FP.Core.settle FP.Core.b64 (decide (i < 0)) C q = .fin (decide (i < 0)) c q' ∧ c ≠ 0 := by
      unfold FP.Core.settle FP.Core.bound
      by_cases hc : C < 2 ^ FP.Core.b64.p
      · rw [if_pos hc, if_pos (by rw [em]; omega)]
        exact ⟨_, _, rfl, hne⟩
      · rw [if_neg hc, if_pos (by rw [em]; omega)]
        exact ⟨_, _, rfl, by rw [et]; decide⟩
    obtain ⟨c, q', e, hc⟩ := key
    rw [e] at hok ⊢
    exact ⟨_, c, q', rfl, hok, fun _ => hc⟩
theorem fp_div64 (a b : Int32) (hb : ¬ b = 0) : ∃ x, fp_ok FP.Core.b64 x ∧ FP.ddiv (FP.i2d a) (FP.i2d b) = UInt64.ofNat (FP.Core.encode FP.Core.b64 x) := by
  have ba := Int32.toInt_lt a
  have ba2 := Int32.le_toInt a
  have bb := Int32.toInt_lt b
  have bb2 := Int32.le_toInt b
  obtain ⟨s, c, q, e1, o1, _⟩ := fp_int64 (i := a.toInt) (by omega)
  obtain ⟨t, d, r, e2, o2, n2⟩ := fp_int64 (i := b.toInt) (by omega)
  obtain ⟨s', q', x1⟩ := fp_dec64 o1
  obtain ⟨t', r', x2⟩ := fp_dec64 o2
  have d0 : d ≠ 0 := n2 (fun h => hb (Int32.toInt_inj.mp (h.trans (by decide))))
  refine ⟨FP.Core.quotient FP.Core.b64 (.fin s' c q') (.fin t' d r'), ?_, ?_⟩
  · simp only [FP.Core.quotient]
    rw [if_neg d0]
    exact fp_ratio64
  · show UInt64.ofNat (FP.Core.div FP.Core.b64 (UInt64.ofNat (FP.Core.encode FP.Core.b64 (FP.Core.round FP.Core.b64 (FP.Core.ofInt a.toInt)))).toNat (UInt64.ofNat (FP.Core.encode FP.Core.b64 (FP.Core.round FP.Core.b64 (FP.Core.ofInt b.toInt)))).toNat) = _
    rw [e1, e2]
    unfold FP.Core.div
    rw [x1, x2]
theorem fp_h64 : ∀ a b : Int32, ¬ b = 0 → vf_n64 (FP.ddiv (FP.i2d a) (FP.i2d b)) := fun a b h => by
  obtain ⟨x, o, e⟩ := fp_div64 a b h
  rw [e]
  exact fp_enc64 o
theorem fp_nn64 {x : FP.Core.Datum} (h : fp_ok FP.Core.b64 x) : FP.Core.decode FP.Core.b64 (UInt64.ofNat (FP.Core.encode FP.Core.b64 x)).toNat ≠ .nan := by
  cases x with
  | nan => exact h.elim
  | inf s =>
    have et : FP.Core.b64.tails = 2 ^ 52 := by decide
    have ee : FP.Core.b64.exps = 2 ^ 11 := by decide
    have e0 : ∀ n, (UInt64.ofNat n).toNat = n % 2 ^ 64 := fun n => by simp
    simp only [FP.Core.encode, FP.Core.assemble, et, ee, e0]
    have x1 : ((s.toNat * 2 ^ 11 + (2 ^ 11 - 1)) * 2 ^ 52 + 0) % 2 ^ 64 / 2 ^ 52 % 2 ^ 11 = 2 ^ 11 - 1 := by
      cases s <;> simp only [Bool.toNat, cond_true, cond_false] <;> omega
    have x2 : ((s.toNat * 2 ^ 11 + (2 ^ 11 - 1)) * 2 ^ 52 + 0) % 2 ^ 64 % 2 ^ 52 = 0 := by
      cases s <;> simp only [Bool.toNat, cond_true, cond_false] <;> omega
    unfold FP.Core.decode
    simp only [FP.Core.fieldE, FP.Core.fieldT, et, ee, x1, x2]
    intro hh
    rw [if_pos trivial, if_pos trivial] at hh
    cases hh
  | fin s c q =>
    obtain ⟨s', q', e⟩ := fp_dec64 h
    rw [e]
    intro hh
    cases hh
theorem fp_int32 {i : Int} (h : i.natAbs < 2 ^ 32) : ∃ s c q, FP.Core.round FP.Core.b32 (FP.Core.ofInt i) = .fin s c q ∧ fp_ok FP.Core.b32 (.fin s c q) ∧ (i ≠ 0 → c ≠ 0) := by
  have et : FP.Core.b32.tails = 2 ^ 23 := by decide
  have ep : FP.Core.b32.p = 24 := rfl
  have em : FP.Core.b32.qmax = 104 := by decide
  have en : FP.Core.b32.qmin = -149 := by decide
  unfold FP.Core.ofInt
  simp only [FP.Core.round]
  have hok : fp_ok FP.Core.b32 (FP.Core.roundRatio FP.Core.b32 (decide (i < 0)) i.natAbs 1 0) := fp_ratio32
  unfold FP.Core.roundRatio at hok ⊢
  by_cases h0 : i.natAbs = 0
  · rw [if_pos h0] at hok ⊢
    exact ⟨_, _, _, rfl, hok, fun hi => absurd (Int.natAbs_eq_zero.mp h0) hi⟩
  · rw [if_neg h0] at hok ⊢
    unfold FP.Core.roundAt at hok ⊢
    have hl1 := Nat.log2_self_le h0
    have hl2 : i.natAbs.log2 < 32 := (Nat.log2_lt h0).mpr h
    have hq : FP.Core.quantum FP.Core.b32 i.natAbs 1 0 ≤ (i.natAbs.log2 : Int) := by
      unfold FP.Core.quantum FP.Core.leading
      rw [en, ep]
      simp only
      split <;> omega
    generalize FP.Core.quantum FP.Core.b32 i.natAbs 1 0 = q at hok hq ⊢
    have hun : FP.Core.unitsDen 1 0 q ≤ FP.Core.unitsNum i.natAbs 0 q := by
      unfold FP.Core.unitsDen FP.Core.unitsNum
      have a1 : 2 ^ (q - 0).toNat ≤ 2 ^ i.natAbs.log2 := Nat.pow_le_pow_right (by decide) (by omega)
      have a2 : i.natAbs ≤ i.natAbs * 2 ^ (0 - q).toNat := Nat.le_mul_of_pos_right _ (Nat.pow_pos (by decide))
      rw [Nat.one_mul]
      exact Nat.le_trans a1 (Nat.le_trans hl1 a2)
    have hud : 0 < FP.Core.unitsDen 1 0 q := by
      unfold FP.Core.unitsDen
      rw [Nat.one_mul]
      exact Nat.pow_pos (by decide)
    have hne : FP.Core.nearest (FP.Core.unitsNum i.natAbs 0 q) (FP.Core.unitsDen 1 0 q) ≠ 0 := by
      have hd := Nat.div_pos hun hud
      unfold FP.Core.nearest
      generalize FP.Core.unitsNum i.natAbs 0 q / FP.Core.unitsDen 1 0 q = a at hd
      generalize FP.Core.unitsNum i.natAbs 0 q % FP.Core.unitsDen 1 0 q = m
      split
      · omega
      · split <;> omega
    generalize FP.Core.nearest (FP.Core.unitsNum i.natAbs 0 q) (FP.Core.unitsDen 1 0 q) = C at hok hne ⊢
    have key : ∃ c q', FP.Core.settle FP.Core.b32 (decide (i < 0)) C q = .fin (decide (i < 0)) c q' ∧ c ≠ 0 := by
      unfold FP.Core.settle FP.Core.bound
      by_cases hc : C < 2 ^ FP.Core.b32.p
      · rw [if_pos hc, if_pos (by rw [em]; omega)]
        exact ⟨_, _, rfl, hne⟩
      · rw [if_neg hc, if_pos (by rw [em]; omega)]
        exact ⟨_, _, rfl, by rw [et]; decide⟩
    obtain ⟨c, q', e, hc⟩ := key
    rw [e] at hok ⊢
    exact ⟨_, c, q', rfl, hok, fun _ => hc⟩
theorem fp_div32 (a b : Int32) (hb : ¬ b = 0) : ∃ x, fp_ok FP.Core.b32 x ∧ FP.fdiv (FP.i2f a) (FP.i2f b) = UInt32.ofNat (FP.Core.encode FP.Core.b32 x) := by
  have ba := Int32.toInt_lt a
  have ba2 := Int32.le_toInt a
  have bb := Int32.toInt_lt b
  have bb2 := Int32.le_toInt b
  obtain ⟨s, c, q, e1, o1, _⟩ := fp_int32 (i := a.toInt) (by omega)
  obtain ⟨t, d, r, e2, o2, n2⟩ := fp_int32 (i := b.toInt) (by omega)
  obtain ⟨s', q', x1⟩ := fp_dec32 o1
  obtain ⟨t', r', x2⟩ := fp_dec32 o2
  have d0 : d ≠ 0 := n2 (fun h => hb (Int32.toInt_inj.mp (h.trans (by decide))))
  refine ⟨FP.Core.quotient FP.Core.b32 (.fin s' c q') (.fin t' d r'), ?_, ?_⟩
  · simp only [FP.Core.quotient]
    rw [if_neg d0]
    exact fp_ratio32
  · show UInt32.ofNat (FP.Core.div FP.Core.b32 (UInt32.ofNat (FP.Core.encode FP.Core.b32 (FP.Core.round FP.Core.b32 (FP.Core.ofInt a.toInt)))).toNat (UInt32.ofNat (FP.Core.encode FP.Core.b32 (FP.Core.round FP.Core.b32 (FP.Core.ofInt b.toInt)))).toNat) = _
    rw [e1, e2]
    unfold FP.Core.div
    rw [x1, x2]
theorem fp_h32 : ∀ a b : Int32, ¬ b = 0 → vf_n32 (FP.fdiv (FP.i2f a) (FP.i2f b)) := fun a b h => by
  obtain ⟨x, o, e⟩ := fp_div32 a b h
  rw [e]
  exact fp_enc32 o
theorem fp_nn32 {x : FP.Core.Datum} (h : fp_ok FP.Core.b32 x) : FP.Core.decode FP.Core.b32 (UInt32.ofNat (FP.Core.encode FP.Core.b32 x)).toNat ≠ .nan := by
  cases x with
  | nan => exact h.elim
  | inf s =>
    have et : FP.Core.b32.tails = 2 ^ 23 := by decide
    have ee : FP.Core.b32.exps = 2 ^ 8 := by decide
    have e0 : ∀ n, (UInt32.ofNat n).toNat = n % 2 ^ 32 := fun n => by simp
    simp only [FP.Core.encode, FP.Core.assemble, et, ee, e0]
    have x1 : ((s.toNat * 2 ^ 8 + (2 ^ 8 - 1)) * 2 ^ 23 + 0) % 2 ^ 32 / 2 ^ 23 % 2 ^ 8 = 2 ^ 8 - 1 := by
      cases s <;> simp only [Bool.toNat, cond_true, cond_false] <;> omega
    have x2 : ((s.toNat * 2 ^ 8 + (2 ^ 8 - 1)) * 2 ^ 23 + 0) % 2 ^ 32 % 2 ^ 23 = 0 := by
      cases s <;> simp only [Bool.toNat, cond_true, cond_false] <;> omega
    unfold FP.Core.decode
    simp only [FP.Core.fieldE, FP.Core.fieldT, et, ee, x1, x2]
    intro hh
    rw [if_pos trivial, if_pos trivial] at hh
    cases hh
  | fin s c q =>
    obtain ⟨s', q', e⟩ := fp_dec32 h
    rw [e]
    intro hh
    cases hh
theorem fp_f2d {x : FP.Core.Datum} (h : fp_ok FP.Core.b32 x) : ∃ y, fp_ok FP.Core.b64 y ∧ FP.f2d (UInt32.ofNat (FP.Core.encode FP.Core.b32 x)) = UInt64.ofNat (FP.Core.encode FP.Core.b64 y) := by
  have hn := fp_nn32 h
  unfold FP.f2d
  rw [if_neg (by simpa [FP.Core.fIsNaN, FP.Core.isNaN] using hn)]
  unfold FP.Core.f2d FP.Core.convert
  generalize FP.Core.decode FP.Core.b32 (UInt32.ofNat (FP.Core.encode FP.Core.b32 x)).toNat = y at hn
  refine ⟨FP.Core.round FP.Core.b64 y, ?_, rfl⟩
  cases y with
  | nan => exact absurd rfl hn
  | inf s => exact trivial
  | fin s c q => exact fp_ratio64
theorem fp_ord {d : FP.Core.Datum} (h : d ≠ .nan) : FP.Core.order d d = some .eq := by
  cases d with
  | nan => exact absurd rfl h
  | inf s => simp [FP.Core.order, compare, compareOfLessAndEq]
  | fin s c q => simp [FP.Core.order, compare, compareOfLessAndEq]
theorem fp_fs (a b : Int32) (hb : ¬ b = 0) : vf_n64 (FP.f2d (FP.fdiv (FP.i2f a) (FP.i2f b))) ∧ Op.cmpValue (FP.dcmp (FP.f2d (FP.fdiv (FP.i2f a) (FP.i2f b))) (FP.f2d (FP.fdiv (FP.i2f a) (FP.i2f b)))) .l = 0 := by
  obtain ⟨x, o, e⟩ := fp_div32 a b hb
  obtain ⟨y, o2, e2⟩ := fp_f2d o
  rw [e, e2]
  refine ⟨fp_enc64 o2, ?_⟩
  show Op.cmpValue (FP.Core.order _ _) .l = 0
  rw [fp_ord (fp_nn64 o2)]
  rfl
section PFP
variable {n : Nat} {r g f to : Nat → Int32}
theorem pm_msL (hRS : pm_RS n r g) : ∀ (k j : Nat) (a : Int32), j + k = n → d_X12_meanSales_L1 r k j a = d_X13_meanSales_L1 g k j a := by
  intro k
  induction k with
  | zero => intro j a _; rfl
  | succ k ih =>
    intro j a h
    simp only [d_X12_meanSales_L1, d_X13_meanSales_L1]
    rw [(hRS.2.1 j (by omega)).2.2.2.1]
    exact ih (j + 1) _ (by omega)
end PFP
def pm_fc : Nat → Nat
  | 0 => 1
  | k + 1 => (k + 1) * pm_fc k
theorem pm_fcR : ∀ n, n < 8 → d_X13_share_L1 ((2 + (n - 1)) - 2) 2 1 = nI (pm_fc n) ∧ d_X3_bySteps_L1 ((2 + (n - 1)) - 2) 2 1 = nI (pm_fc n) ∧ pm_fc n ≤ 5040 := by decide +kernel
theorem pm_fcX : ∀ k, k < 7 → ∀ c, c < 8 → 1 ≤ c → c ≤ k + 1 → pm_fc k + pm_fc k / c * (k + 1 - c) = pm_fc (k + 1) / c := by decide +kernel
theorem pm_pcI : ∀ D, D < 128 → ∀ m, m < 7 → D / 2 ^ m % 2 = 0 → ∀ n, n < 8 → m < n → pm_pc (D ||| 2 ^ m) n = pm_pc D n + 1 := by decide +kernel
theorem pm_sf_0 : ∀ (k j : Nat), pm_sf (fun _ => 0) k j = 0 := by
  intro k
  induction k with
  | zero => intro j; rfl
  | succ k ih => intro j; simp only [pm_sf]; rw [ih]
theorem pm_sf_k {c : Nat} : ∀ (k j : Nat), pm_sf (fun _ => c) k j = c * k := by
  intro k
  induction k with
  | zero => intro j; rfl
  | succ k ih => intro j; simp only [pm_sf]; rw [ih, Nat.mul_succ, Nat.add_comm]
theorem pm_sf_one {c m : Nat} : ∀ (k j : Nat), j ≤ m → m < j + k → pm_sf (fun i => if i = m then c else 0) k j = c := by
  intro k
  induction k with
  | zero => intro j h1 h2; omega
  | succ k ih =>
    intro j h1 h2
    simp only [pm_sf]
    by_cases h : j = m
    · rw [if_pos h, (pm_sf_cg (fun i a b => if_neg (by omega))).trans (pm_sf_0 k (j + 1)), Nat.add_zero]
    · rw [if_neg h, ih (j + 1) (by omega) (by omega), Nat.zero_add]
theorem pm_sf_spl {F : Nat → Nat} : ∀ (a j b : Nat), pm_sf F (a + b) j = pm_sf F a j + pm_sf F b (j + a) := by
  intro a
  induction a with
  | zero => intro j b; rw [Nat.zero_add]; exact (Nat.zero_add _).symm
  | succ a ih =>
    intro j b
    rw [show a + 1 + b = (a + b) + 1 by omega, show j + (a + 1) = j + 1 + a by omega]
    simp only [pm_sf]
    rw [ih (j + 1) b]
    exact (Nat.add_assoc _ _ _).symm
theorem pm_sf_swp {h : Nat → Nat → Nat} {k2 j2 : Nat} : ∀ (k j : Nat), pm_sf (fun i => pm_sf (fun u => h i u) k2 j2) k j = pm_sf (fun u => pm_sf (fun i => h i u) k j) k2 j2 := by
  intro k
  induction k with
  | zero => intro j; exact (pm_sf_0 k2 j2).symm
  | succ k ih =>
    intro j
    have e := pm_sf_add (F := fun u => h j u) (G := fun u => pm_sf (fun i => h i u) k (j + 1)) k2 j2
    rw [← ih (j + 1)] at e
    exact e.symm
theorem pm_sf_gt {G c : Nat} : ∀ X, pm_sf (fun u => if u ≤ G then 0 else c) X 1 = c * (X - G) := by
  intro X
  induction X with
  | zero => rw [Nat.zero_sub]; rfl
  | succ X ih =>
    rw [pm_sf_top, ih]
    by_cases h : 1 + X ≤ G
    · rw [if_pos h, show X + 1 - G = 0 by omega, show X - G = 0 by omega, Nat.add_zero]
    · rw [if_neg h, show X + 1 - G = (X - G) + 1 by omega, Nat.mul_succ]
theorem pm_unC {S : Nat} : ∀ n, pm_sf (fun i => if S / 2 ^ i % 2 = 1 then 0 else 1) n 0 + pm_pc S n = n := by
  intro n
  induction n with
  | zero => rfl
  | succ n ih =>
    rw [pm_sf_top, pm_pc, Nat.zero_add]
    rcases Nat.mod_two_eq_zero_or_one (S / 2 ^ n) with h | h
    · rw [h, if_neg (by decide)]; omega
    · rw [h, if_pos rfl]; omega
def pm_cs (X : Nat → Nat) (S n u : Nat) : Nat := pm_sf (fun i => if S / 2 ^ i % 2 = 1 ∨ X i < u then 0 else 1) n 0
def ps_cn (X : Nat → Nat) (n u : Nat) : Nat := pm_sf (fun i => if X i < u then 0 else 1) n 0
theorem pm_cs0 {X : Nat → Nat} {n u : Nat} : pm_cs X 0 n u = ps_cn X n u := by
  unfold pm_cs ps_cn
  refine pm_sf_cg fun i _ _ => ?_
  have : ¬ 0 / 2 ^ i % 2 = 1 := by rw [Nat.zero_div]; decide
  by_cases h : X i < u
  · rw [if_pos (Or.inr h), if_pos h]
  · rw [if_neg (fun e => e.elim this h), if_neg h]
section PSH
variable {n m : Nat} {X : Nat → Nat} {un cu : Nat → Int32}
theorem pm_soN {S k G : Nat} (hS : S < 128) (hm : m < n) (hb : S / 2 ^ m % 2 = 0) (hpc : pm_pc S n + (k + 1) = n) (h7 : n ≤ 7) :
    pm_sf (fun i => if S / 2 ^ i % 2 = 1 then 0 else if i = m then pm_fc k * (max G (X m) - G) else pm_sf (fun u => if u ≤ max G (X i) then 0 else pm_fc k / pm_cs X (S ||| 2 ^ i) n u) (X m) 1) n 0 = pm_sf (fun u => if u ≤ G then 0 else pm_fc (k + 1) / pm_cs X S n u) (X m) 1 := by
  have h1 : ∀ i, i < n → (if S / 2 ^ i % 2 = 1 then 0 else if i = m then pm_fc k * (max G (X m) - G) else pm_sf (fun u => if u ≤ max G (X i) then 0 else pm_fc k / pm_cs X (S ||| 2 ^ i) n u) (X m) 1) = pm_sf (fun u => if S / 2 ^ i % 2 = 1 then 0 else if u ≤ G then 0 else if i = m then pm_fc k else if u ≤ X i then 0 else pm_fc k / pm_cs X S n u) (X m) 1 := by
    intro i hi
    by_cases hbi : S / 2 ^ i % 2 = 1
    · rw [if_pos hbi]
      exact ((pm_sf_cg (fun u _ _ => if_pos hbi)).trans (pm_sf_0 _ _)).symm
    · rw [if_neg hbi]
      by_cases him : i = m
      · rw [if_pos him, show max G (X m) - G = X m - G by omega, ← pm_sf_gt]
        refine pm_sf_cg fun u _ _ => ?_
        rw [if_neg hbi]
        by_cases hg : u ≤ G
        · rw [if_pos hg, if_pos hg]
        · rw [if_neg hg, if_neg hg, if_pos him]
      · rw [if_neg him]
        refine pm_sf_cg fun u _ _ => ?_
        rw [if_neg hbi]
        by_cases hg : u ≤ G
        · rw [if_pos hg, if_pos (by omega)]
        · rw [if_neg hg, if_neg him]
          by_cases hx : u ≤ X i
          · rw [if_pos hx, if_pos (by omega)]
          · rw [if_neg hx, if_neg (by omega)]
            have e : pm_cs X (S ||| 2 ^ i) n u = pm_cs X S n u := by
              unfold pm_cs
              refine pm_sf_cg fun t _ ht => ?_
              rw [(pm_or2 S hS i (by omega)).2 t (by omega)]
              by_cases hti : t = i
              · rw [if_pos hti, if_pos (Or.inl rfl), if_pos (Or.inr (by rw [hti]; omega))]
              · rw [if_neg hti]
            rw [e]
  rw [pm_sf_cg (fun i _ hi => h1 i (by omega)), pm_sf_swp]
  refine pm_sf_cg fun u hu1 hu2 => ?_
  by_cases hg : u ≤ G
  · rw [if_pos hg]
    refine (pm_sf_cg (fun i _ _ => ?_)).trans (pm_sf_0 n 0)
    rw [if_pos hg]
    split <;> rfl
  · rw [if_neg hg]
    have c1 : 1 ≤ pm_cs X S n u := by
      have := pm_sf_at (F := fun i => if S / 2 ^ i % 2 = 1 ∨ X i < u then 0 else 1) n 0 m (Nat.zero_le _) (by omega)
      try dsimp only at this
      rw [if_neg (by omega)] at this
      exact this
    have hsum : pm_sf (fun i => if S / 2 ^ i % 2 = 1 then 0 else if X i < u then 1 else 0) n 0 + pm_cs X S n u = k + 1 := by
      have h2 := pm_unC (S := S) n
      have h3 : pm_sf (fun i => if S / 2 ^ i % 2 = 1 then 0 else if X i < u then 1 else 0) n 0 + pm_cs X S n u = pm_sf (fun i => if S / 2 ^ i % 2 = 1 then 0 else 1) n 0 := by
        unfold pm_cs
        rw [← pm_sf_add]
        refine pm_sf_cg fun i _ _ => ?_
        by_cases hbi : S / 2 ^ i % 2 = 1
        · rw [if_pos hbi, if_pos hbi, if_pos (Or.inl hbi)]
        · rw [if_neg hbi, if_neg hbi]
          by_cases hx : X i < u
          · rw [if_pos hx, if_pos (Or.inr hx)]
          · rw [if_neg hx, if_neg (fun e => e.elim hbi hx)]
      omega
    have h4 : pm_sf (fun i => if S / 2 ^ i % 2 = 1 then 0 else if u ≤ G then 0 else if i = m then pm_fc k else if u ≤ X i then 0 else pm_fc k / pm_cs X S n u) n 0 = pm_sf (fun i => (if i = m then pm_fc k else 0) + pm_fc k / pm_cs X S n u * (if S / 2 ^ i % 2 = 1 then 0 else if X i < u then 1 else 0)) n 0 := by
      refine pm_sf_cg fun i _ hi => ?_
      by_cases hbi : S / 2 ^ i % 2 = 1
      · have him : ¬ i = m := fun e => by rw [e, hb] at hbi; exact absurd hbi (by decide)
        rw [if_pos hbi, if_pos hbi, if_neg him]
        rfl
      · rw [if_neg hbi, if_neg hbi, if_neg hg]
        by_cases him : i = m
        · rw [if_pos him, if_pos him, if_neg (by rw [him]; omega)]
          rfl
        · rw [if_neg him, if_neg him]
          by_cases hx : u ≤ X i
          · rw [if_pos hx, if_neg (by omega)]
            rfl
          · rw [if_neg hx, if_pos (by omega), Nat.zero_add, Nat.mul_one]
    rw [h4, pm_sf_add, pm_sf_one n 0 (Nat.zero_le _) (by omega), pm_sf_mul, show pm_sf (fun i => if S / 2 ^ i % 2 = 1 then 0 else if X i < u then 1 else 0) n 0 = k + 1 - pm_cs X S n u by omega]
    exact pm_fcX k (by omega) _ (by omega) c1 (by omega)
theorem ps_maxN {a b : Nat} (ha : a < 2 ^ 31) (hb : b < 2 ^ 31) : pm_max (nI a) (nI b) = nI (max a b) := by
  unfold pm_max
  by_cases h : a < b
  · rw [if_pos (nI_lt h hb), show max a b = b by omega]
  · rw [if_neg (nI_nlt (by omega) ha), show max a b = a by omega]
theorem pm_soL {S G o : Nat} {R : Int32 → Int32 → Int32 → Int32} {H : Nat → Nat} (hun : ∀ i, i < n → un i = nI (X i)) (hX : ∀ i, i < n → X i ≤ 99) (h7 : n ≤ 7) (hm : m < n) (hS : S < 128) (hG : G ≤ 99)
    (hH : ∀ i, i < n → S / 2 ^ i % 2 = 0 → R (nI (S ||| 2 ^ i)) (nI (max G (X i))) (nI (if i = m then max G (X i) - G else o)) = nI (H i)) : ∀ (k j A : Nat), j + k = n → d_X3_soS_L1 m (nI S) (nI G) (nI o) R un k j (nI A) = nI (A + pm_sf (fun i => if S / 2 ^ i % 2 = 1 then 0 else H i) k j) := by
  intro k
  induction k with
  | zero => intro j A _; rfl
  | succ k ih =>
    intro j A h
    have hXj := hX j (by omega)
    simp only [d_X3_soS_L1, pm_bt2 S hS j (by omega), pm_orb S hS j (by omega), hun j (by omega), ps_maxN (show G < 2 ^ 31 by omega) (show X j < 2 ^ 31 by omega), pq_sub (show G ≤ max G (X j) by omega), nI_eq (show j < 2 ^ 31 by omega) (show m < 2 ^ 31 by omega), pm_sf]
    rcases Nat.mod_two_eq_zero_or_one (S / 2 ^ j) with hb | hb
    · have h1 := hH j (by omega) hb
      rw [hb, if_pos (show nI 0 = 0 from rfl), if_neg (show ¬ (0 : Nat) = 1 by decide)]
      by_cases hjm : j = m
      · rw [if_pos hjm] at h1
        rw [if_pos hjm, h1, nI_add, ih _ _ (by omega), Nat.add_assoc]
      · rw [if_neg hjm] at h1
        rw [if_neg hjm, h1, nI_add, ih _ _ (by omega), Nat.add_assoc]
    · rw [hb, if_neg (show ¬ nI 1 = 0 by decide), if_pos rfl, Nat.zero_add]
      exact ih _ _ (by omega)
end PSH
section PSH
variable {n m : Nat} {X : Nat → Nat} {un cu : Nat → Int32}
theorem pm_soE (hun : ∀ i, i < n → un i = nI (X i)) (hX : ∀ i, i < n → X i ≤ 99) (h7 : n ≤ 7) (hm : m < n) : ∀ (k dp S G o : Nat), dp + k = n → S < 128 → pm_pc S n + k = n → G ≤ 99 →
    (S / 2 ^ m % 2 = 1 → d_X3_so m n un cu k dp (nI S) (nI G) (nI o) = nI (pm_fc k * o)) ∧
    (S / 2 ^ m % 2 = 0 → d_X3_so m n un cu k dp (nI S) (nI G) (nI o) = nI (pm_sf (fun u => if u ≤ G then 0 else pm_fc k / pm_cs X S n u) (X m) 1)) := by
  intro k
  induction k with
  | zero =>
    intro dp S G o hd hS hpc hG
    refine ⟨fun _ => ?_, fun hb => ?_⟩
    · show nI o = nI (1 * o)
      rw [Nat.one_mul]
    · have h1 := pm_unC (S := S) n
      have h2 := pm_sf_at (F := fun i => if S / 2 ^ i % 2 = 1 then 0 else 1) n 0 m (Nat.zero_le _) (by omega)
      try dsimp only at h2
      rw [if_neg (by omega)] at h2
      omega
  | succ k ih =>
    intro dp S G o hd hS hpc hG
    have hlt : nI dp < nI n := nI_lt (by omega) (by omega)
    have ihS : ∀ i, i < n → S / 2 ^ i % 2 = 0 → ∀ o, ((S ||| 2 ^ i) / 2 ^ m % 2 = 1 → d_X3_so m n un cu k (dp + 1) (nI (S ||| 2 ^ i)) (nI (max G (X i))) (nI o) = nI (pm_fc k * o)) ∧ ((S ||| 2 ^ i) / 2 ^ m % 2 = 0 → d_X3_so m n un cu k (dp + 1) (nI (S ||| 2 ^ i)) (nI (max G (X i))) (nI o) = nI (pm_sf (fun u => if u ≤ max G (X i) then 0 else pm_fc k / pm_cs X (S ||| 2 ^ i) n u) (X m) 1)) := fun i hi hb o => ih (dp + 1) _ _ o (by omega) (pm_or2 S hS i (by omega)).1 (by rw [pm_pcI S hS i (by omega) hb n (by omega) hi]; omega) (by have := hX i hi; omega)
    refine ⟨fun hb => ?_, fun hb => ?_⟩
    · show d_X3_soS m dp (nI S) (nI G) (nI o) (d_X3_so m n un cu k (dp + 1)) n un cu = _
      unfold d_X3_soS
      rw [if_pos hlt]
      have h1 := pm_soL (H := fun _ => pm_fc k * o) (R := d_X3_so m n un cu k (dp + 1)) (o := o) hun hX h7 hm hS hG (fun i hi hbi => by
        have him : ¬ i = m := fun e => by rw [e, hb] at hbi; exact absurd hbi (by decide)
        rw [if_neg him]
        refine (ihS i hi hbi o).1 ?_
        rw [(pm_or2 S hS i (by omega)).2 m (by omega), if_neg (fun e => him e.symm)]
        exact hb) n 0 0 (by omega)
      refine h1.trans ?_
      have h2 := pm_unC (S := S) n
      rw [Nat.zero_add, pm_sf_cg (G := fun i => pm_fc k * o * (if S / 2 ^ i % 2 = 1 then 0 else 1)) (fun i _ _ => by (try dsimp only); split <;> omega), pm_sf_mul, show pm_sf (fun i => if S / 2 ^ i % 2 = 1 then 0 else 1) n 0 = k + 1 by omega, Nat.mul_comm, pm_fc, Nat.mul_assoc]
    · show d_X3_soS m dp (nI S) (nI G) (nI o) (d_X3_so m n un cu k (dp + 1)) n un cu = _
      unfold d_X3_soS
      rw [if_pos hlt]
      have h1 := pm_soL (H := fun i => if i = m then pm_fc k * (max G (X m) - G) else pm_sf (fun u => if u ≤ max G (X i) then 0 else pm_fc k / pm_cs X (S ||| 2 ^ i) n u) (X m) 1) (R := d_X3_so m n un cu k (dp + 1)) (o := o) hun hX h7 hm hS hG (fun i hi hbi => by
        by_cases him : i = m
        · rw [if_pos him]
          try dsimp only
          rw [if_pos him]
          rw [(ihS i hi hbi _).1 (by rw [(pm_or2 S hS i (by omega)).2 m (by omega), if_pos him.symm]), him]
        · rw [if_neg him]
          try dsimp only
          rw [if_neg him]
          refine (ihS i hi hbi o).2 ?_
          rw [(pm_or2 S hS i (by omega)).2 m (by omega), if_neg (fun e => him e.symm)]
          exact hb) n 0 0 (by omega)
      refine h1.trans ?_
      rw [Nat.zero_add, pm_soN hS hm hb hpc h7]
end PSH
section PSH
variable {n m : Nat} {X : Nat → Nat} {un cu : Nat → Int32}
theorem pm_cnP (hm : m < n) {u : Nat} (hu : u ≤ X m) : 1 ≤ ps_cn X n u := by
  have := pm_sf_at (F := fun i => if X i < u then 0 else 1) n 0 m (Nat.zero_le _) (by omega)
  try dsimp only at this
  rw [if_neg (by omega)] at this
  exact this
theorem pm_cnL {u : Nat} (h7 : n ≤ 7) : ps_cn X n u ≤ 7 := by
  have := pm_sf_b (F := fun i => if X i < u then 0 else 1) (b := 1) n 0 (fun i _ _ => by (try dsimp only); split <;> omega)
  unfold ps_cn
  omega
section PSR
variable {g f : Nat → Int32}
theorem pm_shL3 (hX2 : ∀ i, i < n → pm_mv g i = nI (X i)) (hX : ∀ i, i < n → X i ≤ 99) {u : Nat} (hu : u < 1000) : ∀ (k j A : Nat), j + k = n → d_X13_share_L3 g u k j (nI A) = nI (A + pm_sf (fun i => if X i < u then 0 else 1) k j) := by
  intro k
  induction k with
  | zero => intro j A _; rfl
  | succ k ih =>
    intro j A h
    have hXj := hX j (by omega)
    simp only [d_X13_share_L3, hX2 j (by omega), nI_ltI (show X j < 2 ^ 31 by omega) (show u < 2 ^ 31 by omega), pm_sf]
    by_cases hc : X j < u
    · rw [if_pos hc, if_pos hc, Int32.add_zero, Nat.zero_add]
      exact ih _ _ (by omega)
    · rw [if_neg hc, if_neg hc, nI_1, ih _ _ (by omega), Nat.add_assoc]
theorem pm_shL2 (hX2 : ∀ i, i < n → pm_mv g i = nI (X i)) (hX : ∀ i, i < n → X i ≤ 99) (h7 : n ≤ 7) (hm : m < n) : ∀ (k j A : Nat), j + k ≤ X m + 1 → d_X13_share_L2 n g (nI (pm_fc n)) k j (nI A) = nI (A + pm_sf (fun u => pm_fc n / ps_cn X n u) k j) := by
  intro k
  induction k with
  | zero => intro j A _; rfl
  | succ k ih =>
    intro j A h
    have hXm := hX m hm
    have h3 := pm_shL3 hX2 hX (u := j) (by omega) n 0 0 (by omega)
    rw [Nat.zero_add] at h3
    have hc1 := pm_cnP (X := X) hm (u := j) (by omega)
    have hc2 := pm_cnL (X := X) (u := j) h7
    have hf := (pm_fcR n (by omega)).2.2
    simp only [d_X13_share_L2, pm_sf]
    rw [show d_X13_share_L3 g j n 0 0 = nI (ps_cn X n j) from h3, pk_div (by omega) (by omega) (by omega), nI_add, ih _ _ (by omega), Nat.add_assoc]
theorem pm_shE (hX2 : ∀ i, i < n → pm_mv g i = nI (X i)) (hX : ∀ i, i < n → X i ≤ 99) (h7 : n ≤ 7) (hm : m < n) (hin : ¬ pm_in (nI m) 0 (nI n - 1) = 0) : (d_X13_share (nI m) n f g).1 = nI (pm_sf (fun u => pm_fc n / ps_cn X n u) (X m) 1) := by
  have hXm := hX m hm
  unfold d_X13_share
  rw [if_neg hin]
  try dsimp only
  rw [pm_n_nI (by omega), hX2 m hm, pm_n_nI (by omega), (pm_fcR n (by omega)).1, show 1 + X m - 1 = X m by omega]
  have h2 := pm_shL2 hX2 hX h7 hm (X m) 1 0 (by omega)
  rw [Nat.zero_add] at h2
  exact h2
end PSR
end PSH
section PSH
variable {n m : Nat} {X : Nat → Nat} {un cu : Nat → Int32}
/-- levels -/
def pm_nv (X : Nat → Nat) (V j A : Nat) : Prop := (A = V ∧ ∀ i, i < j → X i ≤ V) ∨ (V < A ∧ (∃ i, i < j ∧ X i = A) ∧ ∀ i, i < j → V < X i → A ≤ X i)
theorem pm_nlL {V : Nat} (hun : ∀ i, i < n → un i = nI (X i)) (hX : ∀ i, i < n → X i ≤ 99) (hV : V ≤ 99) : ∀ (k j A : Nat), j + k = n → A ≤ 99 → pm_nv X V j A → ∃ A', A' ≤ 99 ∧ d_X3_nextLevel_L1 (nI V) un k j (nI A) = nI A' ∧ pm_nv X V n A' := by
  intro k
  induction k with
  | zero => intro j A h hA hi; obtain rfl : j = n := (by omega); exact ⟨A, hA, rfl, hi⟩
  | succ k ih =>
    intro j A h hA hi
    have hXj := hX j (by omega)
    simp only [d_X3_nextLevel_L1, hun j (by omega), nI_leI (show X j < 2 ^ 31 by omega) (show V < 2 ^ 31 by omega), nI_eq (show A < 2 ^ 31 by omega) (show V < 2 ^ 31 by omega), nI_leI (show A < 2 ^ 31 by omega) (show X j < 2 ^ 31 by omega)]
    have lt : ∀ i, i < j + 1 → ¬ i = j → i < j := fun i a b => by omega
    have hinv := hi
    by_cases h1 : X j ≤ V
    · rw [if_pos h1]
      refine ih (j + 1) A (by omega) hA ?_
      rcases hi with ⟨a1, a2⟩ | ⟨a1, ⟨t, t1, t2⟩, a3⟩
      · refine Or.inl ⟨a1, fun i hi => ?_⟩
        by_cases e : i = j
        · rw [e]; exact h1
        · exact a2 i (lt i hi e)
      · refine Or.inr ⟨a1, ⟨t, by omega, t2⟩, fun i hi hv => ?_⟩
        by_cases e : i = j
        · rw [e] at hv; omega
        · exact a3 i (lt i hi e) hv
    · rw [if_neg h1]
      have new : (A = V ∨ X j ≤ A) → pm_nv X V (j + 1) (X j) := fun hc => by
        refine Or.inr ⟨by omega, ⟨j, by omega, rfl⟩, fun i hi hv => ?_⟩
        by_cases e : i = j
        · rw [e]; exact Nat.le_refl _
        · rcases hinv with ⟨a1, a2⟩ | ⟨a1, _, a3⟩
          · have := a2 i (lt i hi e); omega
          · have := a3 i (lt i hi e) hv; omega
      by_cases h2 : A = V
      · rw [if_pos h2]
        exact ih (j + 1) (X j) (by omega) hXj (new (Or.inl h2))
      · rw [if_neg h2]
        by_cases h3 : A ≤ X j
        · rw [if_pos h3]
          refine ih (j + 1) A (by omega) hA ?_
          rcases hi with ⟨a1, a2⟩ | ⟨a1, ⟨t, t1, t2⟩, a3⟩
          · exact absurd a1 h2
          · refine Or.inr ⟨a1, ⟨t, by omega, t2⟩, fun i hi hv => ?_⟩
            by_cases e : i = j
            · rw [e]; exact h3
            · exact a3 i (lt i hi e) hv
        · rw [if_neg h3]
          exact ih (j + 1) (X j) (by omega) hXj (new (Or.inr (by omega)))
theorem pm_brL {w : Nat} (hun : ∀ i, i < n → un i = nI (X i)) (hX : ∀ i, i < n → X i ≤ 99) (hw : w ≤ 99) : ∀ (k j A : Nat), j + k = n → d_X3_bearersOf_L1 (nI w) un k j (nI A) = nI (A + pm_sf (fun i => if X i < w then 0 else 1) k j) := by
  intro k
  induction k with
  | zero => intro j A _; rfl
  | succ k ih =>
    intro j A h
    have hXj := hX j (by omega)
    simp only [d_X3_bearersOf_L1, hun j (by omega), nI_ltI (show X j < 2 ^ 31 by omega) (show w < 2 ^ 31 by omega), pm_sf]
    by_cases hc : X j < w
    · rw [if_pos hc, if_pos hc, Int32.add_zero, Nat.zero_add]
      exact ih _ _ (by omega)
    · rw [if_neg hc, if_neg hc, nI_1, ih _ _ (by omega), Nat.add_assoc]
end PSH
section PSH
variable {n m : Nat} {X : Nat → Nat} {un cu : Nat → Int32}
theorem pm_stL {r un0 : Nat → Int32} (hun : ∀ i, i < n → (d_X3_readUnits n r un0 cu).1 i = nI (X i)) (hX : ∀ i, i < n → X i ≤ 99) (h7 : n ≤ 7) (hm : m < n) : ∀ (k j a V : Nat), V ≤ X m → pm_sf (fun i => if V < X i then 1 else 0) n 0 ≤ k → a = pm_sf (fun u => pm_fc n / ps_cn X n u) V 1 → (d_X3_bySteps_L2 m n r un0 cu (nI (pm_fc n)) k j (nI a) (nI V)).1 = nI (pm_sf (fun u => pm_fc n / ps_cn X n u) (X m) 1) := by
  intro k
  have hXm := hX m hm
  induction k with
  | zero =>
    intro j a V hV hk ha
    have h1 := pm_sf_at (F := fun i => if V < X i then 1 else 0) n 0 m (Nat.zero_le _) (by omega)
    try dsimp only at h1
    have h2 : X m = V := by
      by_cases h : V < X m
      · rw [if_pos h] at h1; omega
      · omega
    rw [h2, ← ha]
    rfl
  | succ k ih =>
    intro j a V hV hk ha
    simp only [d_X3_bySteps_L2]
    rw [hun m hm]
    by_cases hc : X m ≤ V
    · have h2 : X m = V := by omega
      rw [if_pos ((nI_leI (by omega) (by omega)).mpr hc), h2, ← ha]
    · rw [if_neg (fun e => hc ((nI_leI (by omega) (by omega)).mp e))]
      obtain ⟨A, hA, e1, inv⟩ := pm_nlL hun hX (V := V) (by omega) n 0 V (by omega) (by omega) (Or.inl ⟨rfl, fun i hi => absurd hi (Nat.not_lt_zero _)⟩)
      have e2 : d_X3_nextLevel (nI V) n (d_X3_readUnits n r un0 cu).1 (d_X3_readUnits n r un0 cu).2 = nI A := e1
      rcases inv with ⟨_, i2⟩ | ⟨i1, ⟨t, t1, t2⟩, i3⟩
      · exact absurd (i2 m hm) hc
      have hAm : A ≤ X m := i3 m hm (by omega)
      have e3 := pm_brL hun hX hA n 0 0 (by omega)
      rw [Nat.zero_add] at e3
      have e4 : d_X3_bearersOf (nI A) n (d_X3_readUnits n r un0 cu).1 (d_X3_readUnits n r un0 cu).2 = nI (ps_cn X n A) := e3
      have hc1 := pm_cnP (X := X) hm hAm
      have hc2 := pm_cnL (X := X) (u := A) h7
      have hf := (pm_fcR n (by omega)).2.2
      rw [e2, e4, if_neg (show ¬ nI (ps_cn X n A) ≤ 0 from fun e => by rw [show (0 : Int32) = nI 0 from rfl, nI_leI (by omega) (by decide)] at e; omega), pq_sub (by omega), pk_div (by omega) (by omega) (by omega), pk_mul, nI_add]
      refine ih (j + 1) _ A hAm ?_ ?_
      · have h3 := pm_sf_lt (F := fun i => if A < X i then 1 else 0) (G := fun i => if V < X i then 1 else 0) (t := t) n (fun i _ => by
          try dsimp only
          by_cases h : A < X i
          · rw [if_pos h, if_pos (by omega)]; exact Nat.le_refl _
          · rw [if_neg h]; exact Nat.zero_le _) t1 (by
          try dsimp only
          rw [if_neg (by omega), if_pos (by omega)]
          decide)
        omega
      · have h4 := pm_sf_spl (F := fun u => pm_fc n / ps_cn X n u) V 1 (A - V)
        rw [show V + (A - V) = A by omega] at h4
        rw [h4, ← ha, pm_sf_cg (G := fun _ => pm_fc n / ps_cn X n A) (fun u u1 u2 => by
          try dsimp only
          have e : ps_cn X n u = ps_cn X n A := by
            unfold ps_cn
            refine pm_sf_cg fun i _ hi => ?_
            have h5 := i3 i (by omega)
            by_cases h : X i < u
            · rw [if_pos h, if_pos (by omega)]
            · rw [if_neg h, if_neg (fun h6 => by
                by_cases h8 : V < X i
                · have := h5 h8; omega
                · omega)]
          rw [e]), pm_sf_k, Nat.mul_comm]
end PSH
section PSA
variable {n : Nat} {r g f un cu to : Nat → Int32} {x : Int32}
theorem pm_ruL : ∀ (k j : Nat) (un : Nat → Int32) (i : Nat), (d_X3_readUnits_L1 r k j un) i = if j ≤ i ∧ i < j + k then pm_max 0 (r (7 + 6 * i + 3) - r (7 + 6 * i + 2)) else un i := by
  intro k
  induction k with
  | zero => intro j un i; rw [if_neg (by omega)]; rfl
  | succ k ih =>
    intro j un i
    simp only [d_X3_readUnits_L1]
    rw [ih (j + 1) _ i]
    by_cases h : i = j
    · rw [if_neg (by omega), if_pos (by omega), h, pk_us]
    · by_cases h2 : j ≤ i ∧ i < j + (k + 1)
      · rw [if_pos (by omega), if_pos h2]
      · rw [if_neg (by omega), if_neg h2, pk_un h]
theorem pm_shX (hRS : pm_RS n r g) (hw : ∀ i, i < n → pm_rw r i) : (∀ i, i < n → (d_X3_readUnits n r un cu).1 i = nI (pm_rv r i)) ∧ (∀ i, i < n → pm_rv r i ≤ 99) ∧ ∀ i, i < n → pm_mv g i = nI (pm_rv r i) := by
  have h : ∀ i, i < n → pm_max 0 (r (7 + 6 * i + 3) - r (7 + 6 * i + 2)) = nI (pm_rv r i) ∧ pm_rv r i ≤ 99 ∧ pm_mv g i = nI (pm_rv r i) := by
    intro i hi
    obtain ⟨v, s, a1, a2, a3, a4, a5, a6⟩ := pm_ovr hRS hw hi
    have ev : pm_rv r i = v := by unfold pm_rv; rw [a3, pm_n_nI (by omega)]
    rw [ev]
    exact ⟨a3, a1, a4⟩
  refine ⟨fun i hi => ?_, fun i hi => (h i hi).2.1, fun i hi => (h i hi).2.2⟩
  show d_X3_readUnits_L1 r n 0 un i = _
  rw [pm_ruL, if_pos (by omega)]
  exact (h i hi).1
theorem pm_mv1k (hRS : pm_RS n r g) (hw : ∀ i, i < n → pm_rw r i) : ∀ i, i < n → pm_n (pm_mv g i) < 1000 := fun i hi => by
  obtain ⟨_, h2, h3⟩ := pm_shX (un := fun _ => 0) (cu := fun _ => 0) hRS hw
  have := h2 i hi
  rw [h3 i hi, pm_n_nI (by omega)]
  omega
end PSA
