/-! links; audits -/
def pm_id (p i : Nat) : Nat := if p = i then 1 else 0
theorem pm_pcx : ∀ a, a < 128 → ∀ k, k < 7 → (a / 2 ^ k % 2 = 0 → pm_pc (a ^^^ 2 ^ k) 7 = pm_pc a 7 + 1) ∧ (a / 2 ^ k % 2 = 1 → pm_pc (a ^^^ 2 ^ k) 7 + 1 = pm_pc a 7) := by decide +kernel
theorem pm_ids : ∀ i, i < 7 → pm_id 0 i + pm_id 1 i + pm_id 2 i + pm_id 3 i + pm_id 4 i + pm_id 5 i + pm_id 6 i = 1 := by decide +kernel
theorem pm_flR {i k n : Nat} {r : Nat → Int32} (hik : i ≠ k) : (d_X7_flipLink i k n r).2 = upd (upd r (49 + i) (r (49 + i) ^^^ ((1 : Int32) <<< (nI k &&& 31)))) (49 + k) (r (49 + k) ^^^ ((1 : Int32) <<< (nI i &&& 31))) := by
  unfold d_X7_flipLink
  show upd _ _ _ = _
  rw [show (upd (fun j => r (49 + j)) i (r (49 + i) ^^^ ((1 : Int32) <<< (nI k &&& 31)))) k = r (49 + k) from pk_un (fun e => hik e.symm)]
theorem pm_flip {B n i k : Nat} {v : Int32} {r g f : Nat → Int32} (hR : pm_RS n r g) (hI : pm_I B n r) (hi : i < n) (hk : k < n) (hik : i ≠ k) (hv : (v = 1 ∧ pm_n (r (49 + i)) / 2 ^ k % 2 = 0 ∧ pm_ls r < 12) ∨ (v = 0 ∧ pm_n (r (49 + i)) / 2 ^ k % 2 = 1)) :
    pm_RS n (d_X7_flipLink i k n r).2 (d_X13_setsLink i k v f g).2 ∧ pm_I B n (d_X7_flipLink i k n r).2 ∧ (d_X13_setsLink i k v f g).1 = (d_X7_flipLink i k n r).1 := by
  obtain ⟨⟨i0, i7, i1, ⟨i2, i2l⟩, ⟨it, i3, i3a, i3b⟩, ia, ib, i5, i6, iB⟩, iw, ⟨l1, l2, l3, l4, l5⟩⟩ := id hI
  obtain ⟨⟨s0, s1, s2, s3, s4, s5, s6⟩, sm, sl⟩ := id hR
  have hi7 : i < 7 := by omega
  have hk7 : k < 7 := by omega
  obtain ⟨xi, xil, xib⟩ := pm_xorL (l1 i hi7).1 (l1 i hi7).2 hk7
  obtain ⟨xk, xkl, xkb⟩ := pm_xorL (l1 k hk7).1 (l1 k hk7).2 hi7
  have sym := l2 i k hi7 hk7
  have er : (d_X7_flipLink i k n r).2 = upd (upd r (49 + i) (nI (pm_n (r (49 + i)) ^^^ 2 ^ k))) (49 + k) (nI (pm_n (r (49 + k)) ^^^ 2 ^ i)) := by rw [pm_flR hik, xi, xk]
  have ri : ∀ p, p < 7 → p ≠ i → p ≠ k → (d_X7_flipLink i k n r).2 (49 + p) = r (49 + p) := fun p hp h1 h2 => by rw [er]; simp (disch := omega) only [pk_us, pk_un]
  have rI : (d_X7_flipLink i k n r).2 (49 + i) = nI (pm_n (r (49 + i)) ^^^ 2 ^ k) := by rw [er]; simp (disch := omega) only [pk_us, pk_un]
  have rK : (d_X7_flipLink i k n r).2 (49 + k) = nI (pm_n (r (49 + k)) ^^^ 2 ^ i) := by rw [er]; simp (disch := omega) only [pk_us, pk_un]
  have rO : ∀ x, x < 49 → (d_X7_flipLink i k n r).2 x = r x := fun x hx => by rw [er]; simp (disch := omega) only [pk_us, pk_un]
  have nI_ : pm_n ((d_X7_flipLink i k n r).2 (49 + i)) = pm_n (r (49 + i)) ^^^ 2 ^ k := by rw [rI, pm_n_nI (by omega)]
  have nK_ : pm_n ((d_X7_flipLink i k n r).2 (49 + k)) = pm_n (r (49 + k)) ^^^ 2 ^ i := by rw [rK, pm_n_nI (by omega)]
  have row : ∀ p, p < 7 → (d_X7_flipLink i k n r).2 (49 + p) = nI (pm_n ((d_X7_flipLink i k n r).2 (49 + p))) ∧ pm_n ((d_X7_flipLink i k n r).2 (49 + p)) < 128 := by
    intro p hp
    by_cases h1 : p = i
    · subst h1; rw [nI_]; exact ⟨rI, xil⟩
    by_cases h2 : p = k
    · subst h2; rw [nK_]; exact ⟨rK, xkl⟩
    rw [ri p hp h1 h2]; exact l1 p hp
  have bit : ∀ p q, p < 7 → q < 7 → pm_n ((d_X7_flipLink i k n r).2 (49 + p)) / 2 ^ q % 2 = if (p = i ∧ q = k) ∨ (p = k ∧ q = i) then 1 - pm_n (r (49 + i)) / 2 ^ k % 2 else pm_n (r (49 + p)) / 2 ^ q % 2 := by
    intro p q hp hq
    by_cases h1 : p = i
    · subst h1
      rw [nI_, xib q hq]
      by_cases h2 : q = k
      · subst h2; rw [if_pos rfl, if_pos (Or.inl ⟨rfl, rfl⟩)]
      · rw [if_neg h2, if_neg (by omega)]
    by_cases h2 : p = k
    · subst h2
      rw [nK_, xkb q hq]
      by_cases h3 : q = i
      · subst h3; rw [if_pos rfl, if_pos (Or.inr ⟨rfl, rfl⟩), sym]
      · rw [if_neg h3, if_neg (by omega)]
    rw [ri p hp h1 h2, if_neg (by omega)]
  have hl : pm_RSl (d_X7_flipLink i k n r).2 (d_X13_setsLink i k v f g).2 := by
    intro p q hp hq
    unfold pm_bt
    rw [bit p q hp hq]
    show upd (upd g ((42 + (7 * i)) + k) v) ((42 + (7 * k)) + i) v (42 + 7 * p + q) = _
    have ev : v = nI (1 - pm_n (r (49 + i)) / 2 ^ k % 2) := by
      rcases hv with ⟨rfl, h, _⟩ | ⟨rfl, h⟩ <;> rw [h] <;> rfl
    by_cases h1 : p = i ∧ q = k
    · obtain ⟨rfl, rfl⟩ := h1
      rw [if_pos (Or.inl ⟨rfl, rfl⟩)]
      simp (disch := omega) only [pk_us, pk_un]
      exact ev
    by_cases h2 : p = k ∧ q = i
    · obtain ⟨rfl, rfl⟩ := h2
      rw [if_pos (Or.inr ⟨rfl, rfl⟩), pk_us]
      exact ev
    rw [if_neg (by omega), pk_un (by omega), pk_un (by omega)]
    exact sl p q hp hq
  have hls : pm_ls (d_X7_flipLink i k n r).2 ≤ 12 := by
    have F : ∀ p, p < 7 → pm_pc (pm_n ((d_X7_flipLink i k n r).2 (49 + p))) 7 ≤ pm_pc (pm_n (r (49 + p))) 7 + (pm_id p i + pm_id p k) := by
      intro p hp
      by_cases h1 : p = i
      · subst h1
        have h5 := pm_pcx _ (l1 p hp).2 k hk7
        have h6 : pm_id p p = 1 := if_pos rfl
        rw [nI_]
        rcases Nat.mod_two_eq_zero_or_one (pm_n (r (49 + p)) / 2 ^ k) with h7 | h7
        · have := h5.1 h7; omega
        · have := h5.2 h7; omega
      by_cases h2 : p = k
      · subst h2
        have h5 := pm_pcx _ (l1 p hp).2 i hi7
        have h6 : pm_id p p = 1 := if_pos rfl
        rw [nK_]
        rcases Nat.mod_two_eq_zero_or_one (pm_n (r (49 + p)) / 2 ^ i) with h7 | h7
        · have := h5.1 h7; omega
        · have := h5.2 h7; omega
      rw [ri p hp h1 h2]
      omega
    have F2 : pm_n (r (49 + i)) / 2 ^ k % 2 = 1 → ∀ p, p < 7 → pm_pc (pm_n ((d_X7_flipLink i k n r).2 (49 + p))) 7 ≤ pm_pc (pm_n (r (49 + p))) 7 := by
      intro hb p hp
      by_cases h1 : p = i
      · subst h1
        rw [nI_]
        have := (pm_pcx _ (l1 p hp).2 k hk7).2 hb
        omega
      by_cases h2 : p = k
      · subst h2
        rw [nK_]
        have := (pm_pcx _ (l1 p hp).2 i hi7).2 (sym ▸ hb)
        omega
      rw [ri p hp h1 h2]
      exact Nat.le_refl _
    have e1 := pm_ids i hi7
    have e2 := pm_ids k hk7
    rcases hv with ⟨_, hb, hc⟩ | ⟨_, hb⟩
    · have f0 := F 0 (by decide)
      have f1 := F 1 (by decide)
      have f2 := F 2 (by decide)
      have f3 := F 3 (by decide)
      have f4 := F 4 (by decide)
      have f5 := F 5 (by decide)
      have f6 := F 6 (by decide)
      unfold pm_ls at hc ⊢
      omega
    · have f0 := F2 hb 0 (by decide)
      have f1 := F2 hb 1 (by decide)
      have f2 := F2 hb 2 (by decide)
      have f3 := F2 hb 3 (by decide)
      have f4 := F2 hb 4 (by decide)
      have f5 := F2 hb 5 (by decide)
      have f6 := F2 hb 6 (by decide)
      unfold pm_ls at l5 ⊢
      omega
  have gO : ∀ x, x < 42 → (d_X13_setsLink i k v f g).2 x = g x := fun x hx => by
    show upd (upd g ((42 + (7 * i)) + k) v) ((42 + (7 * k)) + i) v x = _
    rw [pk_un (by omega), pk_un (by omega)]
  refine ⟨⟨?_, fun p hp => pm_RSm_of (fun w hw => rO _ (by omega)) (fun w hw => gO _ (by omega)) (sm p hp), hl⟩, ⟨?_, fun p hp => pm_rw_of (fun w hw => rO _ (by omega)) (iw p hp), row, ?_, ?_, ?_, hls⟩, ?_⟩
  · refine ⟨?_, ?_, ?_, ?_, ?_, ?_, ?_⟩ <;> rw [gO _ (by decide)] <;> simp only [rO _ (show 0 < 49 by decide), rO _ (show 1 < 49 by decide), rO _ (show 2 < 49 by decide), rO _ (show 3 < 49 by decide), rO _ (show 4 < 49 by decide), rO _ (show 5 < 49 by decide), rO _ (show 6 < 49 by decide)] <;> assumption
  · unfold pm_Is
    simp only [rO _ (show 0 < 49 by decide), rO _ (show 1 < 49 by decide), rO _ (show 2 < 49 by decide), rO _ (show 3 < 49 by decide), rO _ (show 4 < 49 by decide), rO _ (show 5 < 49 by decide), rO _ (show 6 < 49 by decide)]
    exact ⟨i0, i7, i1, ⟨i2, i2l⟩, ⟨it, i3, i3a, i3b⟩, ia, ib, i5, i6, iB⟩
  · intro p q hp hq
    rw [bit p q hp hq, bit q p hq hp]
    by_cases h1 : (p = i ∧ q = k) ∨ (p = k ∧ q = i)
    · rw [if_pos h1, if_pos (by omega)]
    · rw [if_neg h1, if_neg (by omega)]
      exact l2 p q hp hq
  · intro p hp
    rw [bit p p hp hp, if_neg (by omega)]
    exact l3 p hp
  · intro p q hp hq hb
    rw [bit p q hp hq] at hb
    by_cases h1 : (p = i ∧ q = k) ∨ (p = k ∧ q = i)
    · omega
    · rw [if_neg h1] at hb
      exact l4 p q hp hq hb
  · exact (pm_lkN (f := f) row hl)
/-- link -/
theorem pm_eqc6 {B n : Nat} {x y : Int32} {r q rm dr f g gq : Nat → Int32} (hR : pm_RS n r g) (hI : pm_I B n r) : pm_EQ B n 6 x y r q rm dr f g gq := by
  obtain ⟨⟨i0, i7, i1, ⟨i2, i2l⟩, ⟨it, i3, i3a, i3b⟩, ia, ib, i5, i6, iB⟩, iw, il⟩ := id hI
  obtain ⟨⟨s0, s1, s2, s3, s4, s5, s6⟩, sm, sl⟩ := id hR
  by_cases h1 : d_X10_hasMember x n r = 0
  · exact pm_EQ_t (e2 := (-1, 0)) (by simp only [d_X7_ref, d_X7_refusal6, d_X7_refusalOfLink, d_X7_refusalOfPair, if_pos h1] <;> rfl) (Or.inl rfl) (by simp only [pm_mc, d_X13_doLink, pm_hm (r := r) i7, if_pos h1] <;> rfl)
  by_cases h2 : d_X10_hasMember y n r = 0
  · exact pm_EQ_t (e2 := (-1, 0)) (by simp only [d_X7_ref, d_X7_refusal6, d_X7_refusalOfLink, d_X7_refusalOfPair, if_neg h1, if_pos h2] <;> rfl) (Or.inl rfl) (by simp only [pm_mc, d_X13_doLink, pm_hm (r := r) i7, if_neg h1, if_pos h2] <;> rfl)
  obtain ⟨i, hi, rfl⟩ := pm_hmx i7 h1
  obtain ⟨k, hk, rfl⟩ := pm_hmx i7 h2
  have ei : pm_n (nI i) = i := pm_n_nI (by omega)
  have ek : pm_n (nI k) = k := pm_n_nI (by omega)
  by_cases h3 : i = k
  · subst h3
    exact pm_EQ_t (e2 := (-2, 0)) (by simp only [d_X7_ref, d_X7_refusal6, d_X7_refusalOfLink, d_X7_refusalOfPair, if_neg h1, ei] <;> rfl) (Or.inr rfl) (by simp only [pm_mc, d_X13_doLink, pm_hm (r := r) i7, if_neg h1, ei] <;> rfl)
  have h3n : ¬ nI i = nI k := fun e => h3 ((nI_eq (by omega) (by omega)).mp e)
  have hls := pm_ltN il.1
  have hlk := pm_lkN (f := f) il.1 sl
  have hb := pm_bitL (il.1 i (by omega)).1 (il.1 i (by omega)).2 (k := k) (by omega)
  have hg := sl i k (by omega) (by omega)
  have hl5 := il.2.2.2.2
  have hbt : pm_bt (r (49 + i)) k = nI (pm_n (r (49 + i)) / 2 ^ k % 2) := rfl
  have pq : d_X7_refusalOfPair (nI i) (nI k) n r = (0, 0) := by simp only [d_X7_refusalOfPair, if_neg h1, if_neg h2, ei, ek, if_neg h3n] <;> rfl
  rcases Nat.mod_two_eq_zero_or_one (pm_n (r (49 + i)) / 2 ^ k) with h4 | h4
  · have hbz : pm_bt (r (49 + i)) k = 0 := by rw [hbt, h4]; rfl
    have hn1 : ¬ pm_bt (r (49 + i)) k = 1 := by rw [hbz]; decide
    have hlz : d_X13_linked i k f g = 0 := by unfold d_X13_linked; rw [hg, if_neg hn1]
    by_cases h5 : pm_ls r = 12
    · exact pm_EQ_d (e2 := (1, 12)) (by simp only [d_X7_ref, d_X7_refusal6, d_X7_refusalOfLink, pq, ei, ek, hb, if_neg hn1, hls.1, h5] <;> rfl) (by decide) (by simp only [pm_mc, d_X13_doLink, pm_hm (r := r) i7, if_neg h1, if_neg h2, ei, ek, if_neg h3n, hlz, hlk, hls.1, h5] <;> rfl)
    have h6 : ¬ (12 : Int32) ≤ nI (pm_ls r) := nI_ge (b := 12) (by omega) (by decide)
    have h7 : ¬ nI (pm_ls r) = 12 := fun e => h5 ((nI_eq (b := 12) (by omega) (by decide)).mp e)
    have e : d_X7_ref 6 (nI i) (nI k) n r = (0, 0) := by simp only [d_X7_ref, d_X7_refusal6, d_X7_refusalOfLink, pq, ei, ek, hb, if_neg hn1, hls.1, if_neg h6] <;> rfl
    have m : pm_mc 6 (nI i) (nI k) n f g gq = ((d_X13_setsLink i k 1 f g).1, f, (d_X13_setsLink i k 1 f g).2, gq) := by simp only [pm_mc, d_X13_doLink, pm_hm (r := r) i7, if_neg h1, if_neg h2, ei, ek, if_neg h3n, hlz, hlk, hls.1, if_neg h7] <;> rfl
    obtain ⟨f1, f2, f3⟩ := pm_flip (f := f) hR hI hi hk h3 (Or.inl ⟨rfl, h4, by omega⟩)
    exact pm_EQ_k (n' := n) (v := (d_X7_flipLink i k n r).1) (r' := (d_X7_flipLink i k n r).2) (by rw [e]) (by simp only [d_X7_do, d_X7_do6, ei, ek]) (by simp only [d_X7_do, d_X7_do6, ei, ek]) (by rw [m]; exact f3) (by rw [m]) (by rw [m]) (fun j _ => rfl) f1 (pm_I_le (by omega) f2)
  · have hbz : pm_bt (r (49 + i)) k = 1 := by rw [hbt, h4]; rfl
    have hlz : d_X13_linked i k f g = 1 := by unfold d_X13_linked; rw [hg, if_pos hbz]
    exact pm_EQ_d (e2 := (4, nI (pm_ls r))) (by simp only [d_X7_ref, d_X7_refusal6, d_X7_refusalOfLink, pq, ei, ek, hb, if_pos hbz, hls.1] <;> rfl) (show (0 : Int32) < 4 by decide) (by simp only [pm_mc, d_X13_doLink, pm_hm (r := r) i7, if_neg h1, if_neg h2, ei, ek, if_neg h3n, hlz, hlk, hls.1] <;> rfl)
/-- cut -/
theorem pm_eqc7 {B n : Nat} {x y : Int32} {r q rm dr f g gq : Nat → Int32} (hR : pm_RS n r g) (hI : pm_I B n r) : pm_EQ B n 7 x y r q rm dr f g gq := by
  obtain ⟨⟨i0, i7, i1, ⟨i2, i2l⟩, ⟨it, i3, i3a, i3b⟩, ia, ib, i5, i6, iB⟩, iw, il⟩ := id hI
  obtain ⟨⟨s0, s1, s2, s3, s4, s5, s6⟩, sm, sl⟩ := id hR
  by_cases h1 : d_X10_hasMember x n r = 0
  · exact pm_EQ_t (e2 := (-1, 0)) (by simp only [d_X7_ref, d_X7_refusal7, d_X7_refusalOfCut, d_X7_refusalOfPair, if_pos h1] <;> rfl) (Or.inl rfl) (by simp only [pm_mc, d_X13_doLink, pm_hm (r := r) i7, if_pos h1] <;> rfl)
  by_cases h2 : d_X10_hasMember y n r = 0
  · exact pm_EQ_t (e2 := (-1, 0)) (by simp only [d_X7_ref, d_X7_refusal7, d_X7_refusalOfCut, d_X7_refusalOfPair, if_neg h1, if_pos h2] <;> rfl) (Or.inl rfl) (by simp only [pm_mc, d_X13_doLink, pm_hm (r := r) i7, if_neg h1, if_pos h2] <;> rfl)
  obtain ⟨i, hi, rfl⟩ := pm_hmx i7 h1
  obtain ⟨k, hk, rfl⟩ := pm_hmx i7 h2
  have ei : pm_n (nI i) = i := pm_n_nI (by omega)
  have ek : pm_n (nI k) = k := pm_n_nI (by omega)
  by_cases h3 : i = k
  · subst h3
    exact pm_EQ_t (e2 := (-2, 0)) (by simp only [d_X7_ref, d_X7_refusal7, d_X7_refusalOfCut, d_X7_refusalOfPair, if_neg h1, ei] <;> rfl) (Or.inr rfl) (by simp only [pm_mc, d_X13_doLink, pm_hm (r := r) i7, if_neg h1, ei] <;> rfl)
  have h3n : ¬ nI i = nI k := fun e => h3 ((nI_eq (by omega) (by omega)).mp e)
  have hls := pm_ltN il.1
  have hlk := pm_lkN (f := f) il.1 sl
  have hb := pm_bitL (il.1 i (by omega)).1 (il.1 i (by omega)).2 (k := k) (by omega)
  have hg := sl i k (by omega) (by omega)
  have hl5 := il.2.2.2.2
  have hbt : pm_bt (r (49 + i)) k = nI (pm_n (r (49 + i)) / 2 ^ k % 2) := rfl
  have pq : d_X7_refusalOfPair (nI i) (nI k) n r = (0, 0) := by simp only [d_X7_refusalOfPair, if_neg h1, if_neg h2, ei, ek, if_neg h3n] <;> rfl
  rcases Nat.mod_two_eq_zero_or_one (pm_n (r (49 + i)) / 2 ^ k) with h4 | h4
  · have hbz : pm_bt (r (49 + i)) k = 0 := by rw [hbt, h4]; rfl
    have hn1 : ¬ pm_bt (r (49 + i)) k = 1 := by rw [hbz]; decide
    have hlz : d_X13_linked i k f g = 0 := by unfold d_X13_linked; rw [hg, if_neg hn1]
    exact pm_EQ_d (e2 := (4, nI (pm_ls r))) (by simp only [d_X7_ref, d_X7_refusal7, d_X7_refusalOfCut, pq, ei, ek, hb, if_neg hn1, hls.1] <;> rfl) (show (0 : Int32) < 4 by decide) (by simp only [pm_mc, d_X13_doLink, pm_hm (r := r) i7, if_neg h1, if_neg h2, ei, ek, if_neg h3n, hlz, hlk, hls.1] <;> rfl)
  · have hbz : pm_bt (r (49 + i)) k = 1 := by rw [hbt, h4]; rfl
    have hlz : d_X13_linked i k f g = 1 := by unfold d_X13_linked; rw [hg, if_pos hbz]
    have e : d_X7_ref 7 (nI i) (nI k) n r = (0, 0) := by simp only [d_X7_ref, d_X7_refusal7, d_X7_refusalOfCut, pq, ei, ek, hb, if_pos hbz] <;> rfl
    have m : pm_mc 7 (nI i) (nI k) n f g gq = ((d_X13_setsLink i k 0 f g).1, f, (d_X13_setsLink i k 0 f g).2, gq) := by simp only [pm_mc, d_X13_doLink, pm_hm (r := r) i7, if_neg h1, if_neg h2, ei, ek, if_neg h3n, hlz] <;> rfl
    obtain ⟨f1, f2, f3⟩ := pm_flip (f := f) hR hI hi hk h3 (Or.inr ⟨rfl, h4⟩)
    exact pm_EQ_k (n' := n) (v := (d_X7_flipLink i k n r).1) (r' := (d_X7_flipLink i k n r).2) (by rw [e]) (by simp only [d_X7_do, d_X7_do7, ei, ek]) (by simp only [d_X7_do, d_X7_do7, ei, ek]) (by rw [m]; exact f3) (by rw [m]) (by rw [m]) (fun j _ => rfl) f1 (pm_I_le (by omega) f2)
theorem pm_dwL {n : Nat} {s : Int32} : ∀ (k j : Nat) (a : Int32), d_X7_drawMembers_L2 n s k j a = d_X13_draws_L1 (pm_n s) n k a := by
  intro k
  induction k with
  | zero => intro j a; rfl
  | succ k ih =>
    intro j a
    simp only [d_X7_drawMembers_L2, d_X13_draws_L1, ih]
theorem pm_dwN {n ds : Nat} (hn : 0 < n) (h7 : n ≤ 7) : ∀ (k : Nat) (a : Nat), a < n → ∃ m, m < n ∧ d_X13_draws_L1 ds n k (nI a) = nI m := by
  intro k
  induction k with
  | zero => intro a h; exact ⟨a, h, rfl⟩
  | succ k ih =>
    intro a h
    simp only [d_X13_draws_L1]
    split
    · exact ih _ (Nat.mod_lt _ hn)
    · exact ⟨a, h, rfl⟩
/-- the member that is drawn -/
def pm_dm (n sd ds : Nat) : Nat := pm_n (d_X13_draws_L1 ds n n (nI ((sd * 109 + 89) % 1024 % n)))
theorem pm_dm_lt {n sd ds : Nat} (hn : 0 < n) (h7 : n ≤ 7) : pm_dm n sd ds < n ∧ d_X13_draws_L1 ds n n (nI ((sd * 109 + 89) % 1024 % n)) = nI (pm_dm n sd ds) := by
  obtain ⟨m, hm, e⟩ := pm_dwN (ds := ds) hn h7 n _ (Nat.mod_lt ((sd * 109 + 89) % 1024) hn)
  unfold pm_dm
  rw [e, pm_n_nI (by omega)]
  exact ⟨hm, rfl⟩
def pm_ds (n s0 : Nat) : Nat → Nat × Nat
  | 0 => (s0, 0)
  | j + 1 => (((pm_ds n s0 j).1 * 109 + 89) % 1024, (pm_ds n s0 j).2 ||| 2 ^ (pm_dm n (pm_ds n s0 j).1 (pm_ds n s0 j).2))
theorem pm_ds_lt {n s0 : Nat} (hn : 0 < n) (h7 : n ≤ 7) (hs : s0 < 1024) : ∀ j, (pm_ds n s0 j).1 < 1024 ∧ (pm_ds n s0 j).2 < 2 ^ 7 := by
  intro j
  induction j with
  | zero => exact ⟨hs, show 0 < 2 ^ 7 by decide⟩
  | succ j ih => exact ⟨Nat.mod_lt _ (by decide), Nat.or_lt_two_pow ih.2 (Nat.pow_lt_pow_right (by decide) (by have := (pm_dm_lt (sd := (pm_ds n s0 j).1) (ds := (pm_ds n s0 j).2) hn h7).1; omega))⟩
/-- the class draws all first -/
theorem pm_drC {n s0 w : Nat} (hn : 0 < n) (h7 : n ≤ 7) (hs : s0 < 1024) (hw : w ≤ n) : ∀ (k j : Nat) (dr : Nat → Int32), j + k = w →
    (d_X7_drawMembers_L1 n k j (nI (pm_ds n s0 j).1) (nI (pm_ds n s0 j).2) dr).1 = nI (pm_ds n s0 w).1 ∧ (∀ i, j ≤ i → i < w → (d_X7_drawMembers_L1 n k j (nI (pm_ds n s0 j).1) (nI (pm_ds n s0 j).2) dr).2.2 i = nI (pm_dm n (pm_ds n s0 i).1 (pm_ds n s0 i).2)) ∧ (∀ i, i < j → (d_X7_drawMembers_L1 n k j (nI (pm_ds n s0 j).1) (nI (pm_ds n s0 j).2) dr).2.2 i = dr i) := by
  intro k
  induction k with
  | zero =>
    intro j dr h
    obtain rfl : j = w := by omega
    exact ⟨rfl, fun i h1 h2 => by omega, fun i _ => rfl⟩
  | succ k ih =>
    intro j dr h
    have b := pm_ds_lt (n := n) hn h7 hs j
    have d := pm_dm_lt (sd := (pm_ds n s0 j).1) (ds := (pm_ds n s0 j).2) hn h7
    simp only [d_X7_drawMembers_L1]
    rw [if_neg (nI_ge (by omega) (by omega)), pm_dwL, pm_n_nI (by omega), pm_n_nI (by have := b.2; omega), d.2, pm_n_nI (by omega)]
    obtain ⟨e1, e2, e3⟩ := ih (j + 1) (upd dr j (nI (pm_dm n (pm_ds n s0 j).1 (pm_ds n s0 j).2))) (by omega)
    refine ⟨e1, fun i h1 h2 => ?_, fun i h1 => ?_⟩
    · by_cases hij : i = j
      · subst hij
        exact (e3 i (by omega)).trans pk_us
      · exact e2 i (by omega) h2
    · exact (e3 i (by omega)).trans (pk_un (by omega))
theorem pm_auL {n s0 w : Nat} {r0 dr : Nat → Int32} (hn : 0 < n) (h7 : n ≤ 7) (hs : s0 < 1024) (hd : ∀ i, i < w → (d_X7_drawMembers w n r0 dr).2 i = nI (pm_dm n (pm_ds n s0 i).1 (pm_ds n s0 i).2)) : ∀ (k j : Nat) (a : Int32) (r g f : Nat → Int32), j + k = w → f 13 = nI (pm_ds n s0 j).1 → (∀ i, i < n → pm_rw r i) → (∀ i, i < n → pm_RSm r g i) →
    let C := d_X7_auditMembers_L1 w n r0 dr k j a r
    let Q := d_X13_doAudit_L1 n k j (nI (pm_ds n s0 j).2) a f g
    Q.2.1 = C.1 ∧ (∀ i, i < n → pm_rw C.2 i) ∧ (∀ i, i < n → pm_RSm C.2 Q.2.2.2 i) ∧ (∀ x, (x < 7 ∨ 49 ≤ x) → C.2 x = r x) ∧ (∀ x, (x < 7 ∨ 42 ≤ x) → Q.2.2.2 x = g x) ∧ (∀ x, x ≠ 13 → Q.2.2.1 x = f x) ∧ Q.2.2.1 13 = nI (pm_ds n s0 w).1 := by
  intro k
  induction k with
  | zero =>
    intro j a r g f h hf hw hm
    obtain rfl : j = w := by omega
    exact ⟨rfl, hw, hm, fun _ _ => rfl, fun _ _ => rfl, fun _ _ => rfl, hf⟩
  | succ k ih =>
    intro j a r g f h hf hw hm
    have b := pm_ds_lt (n := n) hn h7 hs j
    have d := pm_dm_lt (sd := (pm_ds n s0 j).1) (ds := (pm_ds n s0 j).2) hn h7
    have nx := ih (j + 1)
    generalize hM : pm_dm n (pm_ds n s0 j).1 (pm_ds n s0 j).2 = m at d
    have ed : d_X13_draws (pm_ds n s0 j).2 n f g = (nI m, upd f 13 (nI (pm_ds n s0 (j + 1)).1)) := by
      unfold d_X13_draws
      rw [hf, pm_n_nI (by omega), d.2]
      rfl
    have es : nI ((pm_ds n s0 j).2 ||| 2 ^ m) = nI (pm_ds n s0 (j + 1)).2 := by rw [← hM]; rfl
    have hf2 : upd f 13 (nI (pm_ds n s0 (j + 1)).1) 13 = nI (pm_ds n s0 (j + 1)).1 := pk_us
    obtain ⟨⟨w0, w0a, w0b⟩, w1, ⟨w2, w2a⟩, ⟨w3, w3a⟩, w4⟩ := id (hw m d.1)
    obtain ⟨c0, c1, c2, c3, c4⟩ := id (hm m d.1)
    have eg : pm_mv g m = pm_max 0 (r (7 + 6 * m + 3) - r (7 + 6 * m + 2)) := by unfold pm_mv; rw [c3, c2]
    have hb := pm_bar (hw m d.1) (hm m d.1)
    have st := pm_std (hw m d.1) (hm m d.1)
    simp only [d_X7_auditMembers_L1, d_X13_doAudit_L1, ed, hd j (by omega), hM, pm_n_nI (show m < 2 ^ 31 by omega), pm_n_nI (show (pm_ds n s0 j).2 < 2 ^ 31 by have := b.2; omega), es, eg]
    have same : ∀ a, let C := d_X7_auditMembers_L1 w n r0 dr k (j + 1) a r
        let Q := d_X13_doAudit_L1 n k (j + 1) (nI (pm_ds n s0 (j + 1)).2) a (upd f 13 (nI (pm_ds n s0 (j + 1)).1)) g
        Q.2.1 = C.1 ∧ (∀ i, i < n → pm_rw C.2 i) ∧ (∀ i, i < n → pm_RSm C.2 Q.2.2.2 i) ∧ (∀ x, (x < 7 ∨ 49 ≤ x) → C.2 x = r x) ∧ (∀ x, (x < 7 ∨ 42 ≤ x) → Q.2.2.2 x = g x) ∧ (∀ x, x ≠ 13 → Q.2.2.1 x = f x) ∧ Q.2.2.1 13 = nI (pm_ds n s0 w).1 := by
      intro a
      obtain ⟨q1, q2, q3, q4, q5, q6, q7⟩ := nx a r g (upd f 13 (nI (pm_ds n s0 (j + 1)).1)) (by omega) hf2 hw hm
      exact ⟨q1, q2, q3, q4, q5, fun x hx => (q6 x hx).trans (pk_un hx), q7⟩
    have warn : ∀ (a : Int32) (u v t : Int32), ((u = 1 ∧ v = 0 ∧ t = 1) ∨ (u = 2 ∧ v = 0 ∧ t = 2) ∨ (u = 0 ∧ v = 2 ∧ t = -2)) → let C := d_X7_auditMembers_L1 w n r0 dr k (j + 1) a (upd (upd r (7 + 6 * m + 4) u) (7 + 6 * m + 5) v)
        let Q := d_X13_doAudit_L1 n k (j + 1) (nI (pm_ds n s0 (j + 1)).2) a (upd f 13 (nI (pm_ds n s0 (j + 1)).1)) (upd g (7 + 5 * m + 4) t)
        Q.2.1 = C.1 ∧ (∀ i, i < n → pm_rw C.2 i) ∧ (∀ i, i < n → pm_RSm C.2 Q.2.2.2 i) ∧ (∀ x, (x < 7 ∨ 49 ≤ x) → C.2 x = r x) ∧ (∀ x, (x < 7 ∨ 42 ≤ x) → Q.2.2.2 x = g x) ∧ (∀ x, x ≠ 13 → Q.2.2.1 x = f x) ∧ Q.2.2.1 13 = nI (pm_ds n s0 w).1 := by
      intro a u v t huv
      obtain ⟨q1, q2, q3, q4, q5, q6, q7⟩ := nx a (upd (upd r (7 + 6 * m + 4) u) (7 + 6 * m + 5) v) (upd g (7 + 5 * m + 4) t) (upd f 13 (nI (pm_ds n s0 (j + 1)).1)) (by omega) hf2 (fun i hi => by
        by_cases him : i = m
        · subst him
          unfold pm_rw
          simp (disch := omega) only [pk_us, pk_un]
          refine ⟨⟨w0, w0a, w0b⟩, w1, ⟨w2, w2a⟩, ⟨w3, w3a⟩, ?_⟩
          rcases huv with ⟨rfl, rfl, -⟩ | ⟨rfl, rfl, -⟩ | ⟨rfl, rfl, -⟩ <;> decide
        · exact pm_rw_of (fun w hw => by simp (disch := omega) only [pk_un]) (hw i hi)) (fun i hi => by
        by_cases him : i = m
        · subst him
          unfold pm_RSm
          simp (disch := omega) only [pk_us, pk_un]
          refine ⟨c0, c1, c2, c3, ?_⟩
          rcases huv with ⟨rfl, rfl, rfl⟩ | ⟨rfl, rfl, rfl⟩ | ⟨rfl, rfl, rfl⟩ <;> decide
        · exact pm_RSm_of (fun w hw => by simp (disch := omega) only [pk_un]) (fun w hw => by simp (disch := omega) only [pk_un]) (hm i hi))
      refine ⟨q1, q2, q3, fun x hx => (q4 x hx).trans ?_, fun x hx => (q5 x hx).trans ?_, fun x hx => (q6 x hx).trans (pk_un hx), q7⟩
      · simp (disch := omega) only [pk_un]
      · simp (disch := omega) only [pk_un]
    by_cases h5 : r (7 + 6 * m + 5) = 0
    · rw [if_pos h5, if_pos (hb.mp h5)]
      by_cases h6 : pm_max 0 (r (7 + 6 * m + 3) - r (7 + 6 * m + 2)) ≤ 0
      · rw [if_pos h6, if_pos h6]
        exact same a
      · rw [if_neg h6, if_neg h6]
        rcases st with ⟨x4, x5, y4⟩ | ⟨x4, x5, y4⟩ | ⟨x4, x5, y4⟩ | ⟨x4, x5, y4⟩ | ⟨x4, x5, y4⟩
        · rw [x4, x5, y4, if_neg (by decide)]
          exact warn _ _ _ _ (Or.inl ⟨by decide, by decide, by decide⟩)
        · rw [x4, x5, y4, if_neg (by decide)]
          exact warn _ _ _ _ (Or.inr (Or.inl ⟨by decide, by decide, by decide⟩))
        · rw [x4, x5, y4, if_pos rfl]
          exact warn _ _ _ _ (Or.inr (Or.inr ⟨by decide, by decide, by decide⟩))
        · exact absurd (x5.symm.trans h5) (by decide)
        · exact absurd (x5.symm.trans h5) (by decide)
    · rw [if_neg h5, if_neg (fun e => h5 (hb.mpr e))]
      by_cases h6 : pm_max 0 (r (7 + 6 * m + 3) - r (7 + 6 * m + 2)) ≤ 0
      · rw [if_pos h6]
        exact same a
      · rw [if_neg h6]
        exact same a
/-- audit -/
theorem pm_eqc4 {B n : Nat} {x y : Int32} {r q rm dr f g gq : Nat → Int32} (hR : pm_RS n r g) (hI : pm_I B n r) : pm_EQ B n 4 x y r q rm dr f g gq := by
  obtain ⟨⟨i0, i7, i1, ⟨i2, i2l⟩, ⟨it, i3, i3a, i3b⟩, ia, ib, i5, i6, iB⟩, iw, il⟩ := id hI
  obtain ⟨⟨s0, s1, s2, s3, s4, s5, s6⟩, sm, sl⟩ := id hR
  by_cases h1 : pm_in x 1 7 = 0
  · exact pm_EQ_t (e2 := (-2, 0)) (by simp only [d_X7_ref, d_X7_refusal4, d_X7_refusalOfAudit, if_pos h1] <;> rfl) (Or.inr rfl) (by simp only [pm_mc, d_X13_doAudit, if_pos h1] <;> rfl)
  obtain ⟨w, rfl, hwl, hwh⟩ := pm_inR (lo := 1) (hi := 7) (by decide) (by decide) h1
  by_cases h2 : n < w
  · exact pm_EQ_d (e2 := (6, nI n)) (by simp only [d_X7_ref, d_X7_refusal4, d_X7_refusalOfAudit, if_neg h1, if_pos (nI_lt h2 (show w < 2 ^ 31 by omega))] <;> rfl) (show (0 : Int32) < 6 by decide) (by simp only [pm_mc, d_X13_doAudit, if_neg h1, if_neg (nI_ge h2 (show w < 2 ^ 31 by omega))] <;> rfl)
  have e : d_X7_ref 4 (nI w) y n r = (0, 0) := by simp only [d_X7_ref, d_X7_refusal4, d_X7_refusalOfAudit, if_neg h1, if_neg (nI_nlt (show w ≤ n by omega) (show n < 2 ^ 31 by omega))] <;> rfl
  have ew : pm_n (nI w) = w := pm_n_nI (by omega)
  have m : pm_mc 4 (nI w) y n f g gq = ((d_X13_doAudit_L1 n w 0 0 0 (upd f 13 (g 2)) g).2.1, (d_X13_doAudit_L1 n w 0 0 0 (upd f 13 (g 2)) g).2.2.1, upd (d_X13_doAudit_L1 n w 0 0 0 (upd f 13 (g 2)) g).2.2.2 2 ((d_X13_doAudit_L1 n w 0 0 0 (upd f 13 (g 2)) g).2.2.1 13), gq) := by simp only [pm_mc, d_X13_doAudit, if_neg h1, if_pos (nI_le (show w ≤ n by omega) (show n < 2 ^ 31 by omega)), ew] <;> rfl
  have hn0 : 0 < n := by omega
  obtain ⟨d1, d2, d3⟩ := pm_drC hn0 i7 i2l (show w ≤ n by omega) w 0 dr (by omega)
  have dd : d_X7_drawMembers w n r dr = ((d_X7_drawMembers_L1 n w 0 (nI (pm_n (r 2))) 0 dr).1, (d_X7_drawMembers_L1 n w 0 (nI (pm_n (r 2))) 0 dr).2.2) := by unfold d_X7_drawMembers; rw [if_neg (nI_ne0 hn0 (by omega))]
  obtain ⟨q1, q2, q3, q4, q5, q6, q7⟩ := pm_auL hn0 i7 i2l (w := w) (r0 := r) (dr := dr) (fun i hi => by rw [dd]; exact d2 i (Nat.zero_le _) hi) w 0 0 (upd r 2 (d_X7_drawMembers w n r dr).1) g (upd f 13 (g 2)) (by omega) (by rw [pk_us, s2]; exact i2) (fun i hi => pm_rw_of (fun w hw => pk_un (by omega)) (iw i hi)) (fun i hi => pm_RSm_of (fun w hw => pk_un (by omega)) (fun w hw => rfl) (sm i hi))
  have z0 : nI (pm_ds n (pm_n (r 2)) 0).2 = 0 := rfl
  simp only [z0] at q1 q3 q5 q6 q7
  have ed1 : (d_X7_drawMembers w n r dr).1 = nI (pm_ds n (pm_n (r 2)) w).1 := by rw [dd]; exact d1
  have bd := (pm_ds_lt hn0 i7 i2l w).1
  refine pm_EQ_k (n' := n) (v := (d_X7_auditMembers_L1 w n r dr w 0 0 (upd r 2 (d_X7_drawMembers w n r dr).1)).1) (r' := (d_X7_auditMembers_L1 w n r dr w 0 0 (upd r 2 (d_X7_drawMembers w n r dr).1)).2) (f' := (d_X13_doAudit_L1 n w 0 0 0 (upd f 13 (g 2)) g).2.2.1) (g' := upd (d_X13_doAudit_L1 n w 0 0 0 (upd f 13 (g 2)) g).2.2.2 2 ((d_X13_doAudit_L1 n w 0 0 0 (upd f 13 (g 2)) g).2.2.1 13)) (by rw [e]) (by simp only [d_X7_do, d_X7_do4, d_X7_auditMembers, ew]) (by simp only [d_X7_do, d_X7_do4, d_X7_auditMembers, ew]) (by rw [m]; exact q1) (by rw [m]) (by rw [m]) (fun j hj => (q6 j hj).trans (pk_un hj)) ⟨?_, fun i hi => ?_, ?_⟩ ⟨?_, q2, ?_⟩
  · refine ⟨?_, ?_, ?_, ?_, ?_, ?_, ?_⟩
    · rw [pk_un (by decide), q5 0 (by decide), q4 0 (by decide), pk_un (by decide)]; exact s0
    · rw [pk_un (by decide), q5 1 (by decide), q4 1 (by decide), pk_un (by decide)]; exact s1
    · rw [pk_us, q4 2 (by decide), pk_us, ed1]; exact q7
    · rw [pk_un (by decide), q5 3 (by decide), q4 3 (by decide), pk_un (by decide)]; exact s3
    · rw [pk_un (by decide), q5 4 (by decide), q4 4 (by decide), pk_un (by decide)]; exact s4
    · rw [pk_un (by decide), q5 5 (by decide), q4 5 (by decide), pk_un (by decide), q4 6 (by decide), pk_un (by decide)]; exact s5
    · rw [pk_un (by decide), q5 6 (by decide), q4 6 (by decide), pk_un (by decide)]; exact s6
  · exact pm_RSm_of (fun w hw => rfl) (fun w hw => pk_un (by omega)) (q3 i hi)
  · exact pm_RSl_of (fun i hi => (q4 _ (by omega)).trans (pk_un (by omega))) (fun k hk => (pk_un (by omega)).trans (q5 k (by omega))) sl
  · refine ⟨?_, i7, ?_, ⟨?_, ?_⟩, ⟨it, ?_, i3a, i3b⟩, ia, ib, ?_, ?_, by omega⟩
    · rw [q4 0 (by decide), pk_un (by decide)]; exact i0
    · rw [q4 1 (by decide), pk_un (by decide)]; exact i1
    · rw [q4 2 (by decide), pk_us, ed1, pm_n_nI (by omega)]
    · rw [q4 2 (by decide), pk_us, ed1, pm_n_nI (by omega)]; exact bd
    · rw [q4 3 (by decide), pk_un (by decide)]; exact i3
    · rw [q4 5 (by decide), pk_un (by decide)]; exact i5
    · rw [q4 6 (by decide), pk_un (by decide)]; exact i6
  · exact pm_Il_of (fun i hi => (q4 _ (by omega)).trans (pk_un (by omega))) il
