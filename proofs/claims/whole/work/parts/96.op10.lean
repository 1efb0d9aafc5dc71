/-! coalitions by sets: closed -/
theorem pm_notsub : ∀ A, A < 128 → ∀ j, j < 128 → A < j → ¬ nI j &&& (nI A ^^^ (-1)) = 0 := by decide +kernel
theorem pm_orb : ∀ A, A < 128 → ∀ j, j < 7 → nI A ||| ((1 : Int32) <<< (nI j &&& 31)) = nI (A ||| 2 ^ j) := by decide +kernel
section PVO
variable {n : Nat} {r g f : Nat → Int32}
theorem pm_acL2 (hw : ∀ i, i < n → pm_rw r i) (hm : ∀ i, i < n → pm_RSm r g i) : ∀ (k j : Nat) (a : Int32), j + k ≤ n → d_X13_active_L1 g k j a = d_X10_activeSet_L1 r k j a := by
  intro k
  induction k with
  | zero => intro j a _; rfl
  | succ k ih =>
    intro j a h
    have hb := pm_bar (hw j (by omega)) (hm j (by omega))
    simp only [d_X13_active_L1, d_X10_activeSet_L1, ih (j + 1) _ (show j + 1 + k ≤ n by omega)]
    by_cases hc : r (7 + 6 * j + 5) = 0
    · rw [if_pos hc, if_pos (hb.mp hc)]
    · rw [if_neg hc, if_neg (fun e => hc (hb.mpr e))]
theorem pm_acN (h7 : n ≤ 7) : ∀ (k j A : Nat), j + k = n → A < 2 ^ j → ∃ A', A' < 2 ^ n ∧ d_X10_activeSet_L1 r k j (nI A) = nI A' := by
  intro k
  induction k with
  | zero =>
    intro j A h hA
    obtain rfl : j = n := by omega
    exact ⟨A, hA, rfl⟩
  | succ k ih =>
    intro j A h hA
    have hA7 : A < 128 := Nat.lt_of_lt_of_le hA (Nat.pow_le_pow_right (by decide) (show j ≤ 7 by omega))
    have h2 : A < 2 ^ (j + 1) := Nat.lt_of_lt_of_le hA (Nat.pow_le_pow_right (by decide) (by omega))
    simp only [d_X10_activeSet_L1]
    split
    · rw [pm_orb A hA7 j (by omega)]
      exact ih (j + 1) _ (by omega) (Nat.or_lt_two_pow h2 (Nat.pow_lt_pow_right (by decide) (by omega)))
    · rw [Int32.or_zero]
      exact ih (j + 1) A (by omega) h2
theorem pm_voL {x : Int32} (hm : ∀ i, i < n → pm_RSm r g i) : ∀ (k j : Nat) (a : Int32), j + k ≤ n → d_X13_votesOf_L1 x g k j a = d_X11_votesOf_L1 x r k j a := by
  intro k
  induction k with
  | zero => intro j a _; rfl
  | succ k ih =>
    intro j a h
    simp only [d_X13_votesOf_L1, d_X11_votesOf_L1, ih (j + 1) _ (show j + 1 + k ≤ n by omega), (hm j (by omega)).2.1]
theorem pm_voE {x : Int32} {f : Nat → Int32} (hm : ∀ i, i < n → pm_RSm r g i) : d_X13_votesOf x n f g = d_X11_votesOf x n r := pm_voL hm n 0 0 (by omega)
theorem pm_voN {x : Int32} (hw : ∀ i, i < n → pm_rw r i) : ∀ (k j a : Nat), j + k ≤ n → ∃ s, s ≤ 20 * k ∧ d_X11_votesOf_L1 x r k j (nI a) = nI (a + s) := by
  intro k
  induction k with
  | zero => intro j a _; exact ⟨0, Nat.le_refl _, rfl⟩
  | succ k ih =>
    intro j a h
    simp only [d_X11_votesOf_L1]
    split
    · rw [(hw j (by omega)).2.1.1, nI_add]
      obtain ⟨s, hs, e⟩ := ih (j + 1) (a + pm_n (r (7 + 6 * j + 1))) (by omega)
      have := (hw j (by omega)).2.1.2.2
      exact ⟨pm_n (r (7 + 6 * j + 1)) + s, by omega, by rw [e, Nat.add_assoc]⟩
    · rw [Int32.add_zero]
      obtain ⟨s, hs, e⟩ := ih (j + 1) a (by omega)
      exact ⟨s, by omega, e⟩
/-- the set of the active -/
theorem pm_act {f : Nat → Int32} (hw : ∀ i, i < n → pm_rw r i) (hm : ∀ i, i < n → pm_RSm r g i) (h7 : n ≤ 7) : ∃ A, A < 2 ^ n ∧ A < 128 ∧ d_X10_activeSet n r = nI A ∧ nI (pm_n (d_X13_active n f g)) = nI A ∧ pm_n (d_X13_active n f g) = A := by
  obtain ⟨A, hA, e⟩ := pm_acN (r := r) h7 n 0 0 (by omega) (by decide)
  have hA7 : A < 128 := Nat.lt_of_lt_of_le hA (Nat.pow_le_pow_right (by decide) h7)
  have e2 : d_X13_active n f g = nI A := (pm_acL2 hw hm n 0 0 (by omega)).trans e
  exact ⟨A, hA, hA7, e, by rw [e2, pm_n_nI (by omega)], by rw [e2, pm_n_nI (by omega)]⟩
theorem pm_winT {A : Nat} (hA : A < 128) (ea : d_X10_activeSet n r = nI A) : ∀ (k j : Nat) (a : Int32), A < j → j + k ≤ 128 → d_X11_winners_L1 n r k j a = a := by
  intro k
  induction k with
  | zero => intro j a _ _; rfl
  | succ k ih =>
    intro j a h1 h2
    simp only [d_X11_winners_L1, ea]
    rw [if_neg (pm_notsub A hA j (by omega) h1)]
    exact ih (j + 1) a (by omega) (by omega)
theorem pm_winL {A : Nat} (hm : ∀ i, i < n → pm_RSm r g i) (h3 : g 3 = r 3) (ea : d_X10_activeSet n r = nI A) (eb : nI (pm_n (d_X13_active n (upd f 6 0) g)) = nI A) : ∀ (k e j : Nat) (a : Int32), j + k = A + 1 → d_X11_winners_L1 n r (k + e) j a = d_X11_winners_L1 n r e (A + 1) (d_X13_winningCoalitions_L1 n f g k j a) := by
  intro k
  induction k with
  | zero =>
    intro e j a h
    obtain rfl : j = A + 1 := by omega
    rw [Nat.zero_add]
    rfl
  | succ k ih =>
    intro e j a h
    rw [show k + 1 + e = (k + e) + 1 by omega]
    simp only [d_X11_winners_L1, d_X13_winningCoalitions_L1, ea, eb, d_X13_wins, pm_voE hm, h3]
    by_cases c1 : nI j &&& (nI A ^^^ (-1)) = 0
    · rw [if_pos c1, if_pos c1]
      by_cases c2 : d_X11_votesOf (nI j) n r < r 3
      · rw [if_pos c2, if_pos c2, if_pos rfl, Int32.add_zero]
        exact ih e (j + 1) a (by omega)
      · rw [if_neg c2, if_neg c2, if_neg (by decide)]
        exact ih e (j + 1) _ (by omega)
    · rw [if_neg c1, if_neg c1, Int32.add_zero]
      exact ih e (j + 1) a (by omega)
theorem pm_a_win (hRS : pm_RS n r g) (hw : ∀ i, i < n → pm_rw r i) (h7 : n ≤ 7) : d_X11_winners n r = (d_X13_winningCoalitions n f g).1 := by
  obtain ⟨A, hA, hA7, ea, eb, ec⟩ := pm_act (f := upd f 6 0) hw hRS.2.1 h7
  have h128 : 2 ^ n ≤ 128 := Nat.pow_le_pow_right (by decide) h7
  show d_X11_winners_L1 n r (2 ^ n) 0 0 = d_X13_winningCoalitions_L1 n f g (pm_n (d_X13_active n (upd f 6 0) g) + 1) 0 0
  rw [ec, show 2 ^ n = (A + 1) + (2 ^ n - (A + 1)) by omega, pm_winL hRS.2.1 hRS.1.2.2.2.1 ea eb (A + 1) _ 0 0 (by omega), pm_winT hA7 ea _ _ _ (by omega) (by omega)]
theorem pm_absS : ∀ d, d < 1000 → pm_abs (nI d) = nI d ∧ pm_abs (-nI d) = nI d := by decide +kernel
theorem pm_absD {a b : Nat} (ha : a < 500) (hb : b < 500) : pm_abs (nI a - nI b) = pm_abs (nI b - nI a) := by
  by_cases h : b ≤ a
  · rw [show nI b - nI a = -(nI a - nI b) from Int32.neg_sub.symm, pq_sub h, (pm_absS _ (by omega)).1, (pm_absS _ (by omega)).2]
  · rw [show nI a - nI b = -(nI b - nI a) from Int32.neg_sub.symm, pq_sub (show a ≤ b by omega), (pm_absS _ (by omega)).1, (pm_absS _ (by omega)).2]
theorem pm_voB {x : Int32} (hw : ∀ i, i < n → pm_rw r i) (h7 : n ≤ 7) : ∃ s, s ≤ 140 ∧ d_X11_votesOf x n r = nI s := by
  obtain ⟨s, hs, e⟩ := pm_voN (x := x) hw n 0 0 (by omega)
  rw [Nat.zero_add] at e
  exact ⟨s, by omega, e⟩
theorem pm_difT {A : Nat} (hA : A < 128) (ea : d_X10_activeSet n r = nI A) : ∀ (k j : Nat) (a : Int32), A < j → j + k ≤ 128 → d_X11_differenceBySets_L1 n r k j a = a := by
  intro k
  induction k with
  | zero => intro j a _ _; rfl
  | succ k ih =>
    intro j a h1 h2
    simp only [d_X11_differenceBySets_L1, ea]
    rw [if_neg (pm_notsub A hA j (by omega) h1)]
    exact ih (j + 1) a (by omega) (by omega)
theorem pm_difL {A : Nat} (hw : ∀ i, i < n → pm_rw r i) (h7 : n ≤ 7) (hm : ∀ i, i < n → pm_RSm r g i) (ea : d_X10_activeSet n r = nI A) (eb : nI (pm_n (d_X13_active n (upd f 6 0) g)) = nI A) : ∀ (k e j : Nat) (a : Int32), j + k = A + 1 → d_X11_differenceBySets_L1 n r (k + e) j a = d_X11_differenceBySets_L1 n r e (A + 1) (d_X13_leastDifference_L1 n f g k j a) := by
  intro k
  induction k with
  | zero =>
    intro e j a h
    obtain rfl : j = A + 1 := by omega
    rw [Nat.zero_add]
    rfl
  | succ k ih =>
    intro e j a h
    rw [show k + 1 + e = (k + e) + 1 by omega]
    simp only [d_X11_differenceBySets_L1, d_X13_leastDifference_L1, ea, eb, pm_voE hm]
    by_cases c1 : nI j &&& (nI A ^^^ (-1)) = 0
    · rw [if_pos c1, if_pos c1]
      obtain ⟨s, hs, es⟩ := pm_voB (x := nI j) hw h7
      obtain ⟨t, ht, et⟩ := pm_voB (x := nI A) hw h7
      rw [es, et, show (2 : Int32) = nI 2 from rfl, pk_mul, pm_absD (show t < 500 by omega) (show 2 * s < 500 by omega)]
      exact ih e (j + 1) _ (by omega)
    · rw [if_neg c1, if_neg c1]
      exact ih e (j + 1) a (by omega)
theorem pm_a_dif (hRS : pm_RS n r g) (hw : ∀ i, i < n → pm_rw r i) (h7 : n ≤ 7) : d_X11_differenceBySets n r = (d_X13_leastDifference n f g).1 := by
  obtain ⟨A, hA, hA7, ea, eb, ec⟩ := pm_act (f := upd f 6 0) hw hRS.2.1 h7
  have h128 : 2 ^ n ≤ 128 := Nat.pow_le_pow_right (by decide) h7
  show d_X11_differenceBySets_L1 n r (2 ^ n) 0 (d_X11_votesOf (d_X10_activeSet n r) n r) = d_X13_leastDifference_L1 n f g (pm_n (d_X13_active n (upd f 6 0) g) + 1) 0 (d_X13_votesOf (nI (pm_n (d_X13_active n (upd f 6 0) g))) n (upd f 6 0) g)
  rw [ec, show 2 ^ n = (A + 1) + (2 ^ n - (A + 1)) by omega, pm_difL hw h7 hRS.2.1 ea eb (A + 1) _ 0 _ (by omega), pm_difT hA7 ea _ _ _ (by omega) (by omega), ea, pm_voE hRS.2.1]
end PVO
set_option maxHeartbeats 1000000 in
theorem pm_op_27 {l : Launch} {z : Nat} {D : va_G} {kA : Nat → ClassId} {kE : Nat → Nat} {nm : String} {tb : List ExceptionTableEntry} {mc ms : Nat} {X : pm_X} {cu su : Nat} {Q : State → Prop} {nx : Nat} {M : pm_M} {b N i Bd : Nat} {xs : Nat → Int32} (B : pm_B l z D kA kE RL code 9 ret nm tb 2048 mc ms X) (hXs : va_X b N xs X.2.2.2.1 X.2.2.2.1.heap) (hbz : b < z) (hiN : i + 4 ≤ N) (hN : N ≤ 2048) (hcu : cu + 25 ≤ mc) (hsu : su + 78 ≤ ms) (hJ : pm_J z kA kE nx M Bd)
    (next : ∀ nx' M', nx ≤ nx' → pm_J z kA kE nx' M' (Bd + 693 * 11) → pm_G l z D X (cu + 25) (su + 78) Q nx' M' 2623 [some (.ref b), some (.ref (z + 0)), some (.ref (z + 140)), some (.ref (z + 149)), some (.ref (z + 150)), some (.int (nI i)), none, none, none] []) : pm_G l z D X cu su Q nx M 1660 [some (.ref b), some (.ref (z + 0)), some (.ref (z + 140)), some (.ref (z + 149)), some (.ref (z + 150)), some (.int (nI i)), none, none, none] [] := by
  obtain ⟨hnx, g, h, L, fo, fd, hT, hTM, hL, h149, h150, hRel⟩ := hJ
  obtain ⟨⟨n, hRS, hI⟩, ⟨ho, hk8, hf5, -⟩, -⟩ := id hRel
  have hn := hI.1.1
  have h7 := hI.1.2.1
  have hgn : h.2 1 0 = nI n := hRS.1.1.trans hn
  have hsd := hI.1.2.2.2.1
  have hgd : h.2 1 2 = nI (pm_n (h.2 1 2)) := by rw [hRS.1.2.2.1]; exact hsd.1
  have hgl : pm_n (h.2 1 2) < 1024 := by rw [hRS.1.2.2.1]; exact hsd.2
  have hC := pm_nas (hl := []) (hn := []) (th := 0) (mv := (d_X13_winningCoalitions n h.1 (h.2 1)).1) (f_X12_winningCoalitions (l := l) (D := D) hT hn h7) hL (Or.inl ⟨rfl, rfl, by exact pm_a_win (f := h.1) hRS hI.2.1 h7⟩) (fun e he => absurd he List.not_mem_nil)
  refine pm_lw_27 (Bd := Bd) (L := L) (fo := fo) (fd := fd) (N := N) (xs := xs) (dW := 20) (mcW := 2) (msW := 12) (dX := 3) (h2 := (pm_hf h ((d_X13_winningCoalitions n h.1 (h.2 1)).2))) (mv := (d_X13_winningCoalitions n h.1 (h.2 1)).1) rfl (by decide) (by decide) rfl B hcu hsu hnx hT hTM h149 h150 hC (fun n' M' hT' => ⟨_, c_X13_winningCoalitions hT'.1 hT'.2.1 hgn h7, (pm_TM_f hT'), fun a ha => by rw [pm_up_n (by omega)]⟩) (fun v g2 L2 hR => ?_) next
  obtain ⟨rfl, rfl, e6, hv⟩ := hR
  exact ⟨hv rfl, pm_Rel_le (by omega) (pm_Rel_cg hRel (fun _ _ => rfl) rfl rfl (fun j hj => pk_un (by omega)) (fun _ _ => rfl))⟩
set_option maxHeartbeats 1000000 in
theorem pm_op_30 {l : Launch} {z : Nat} {D : va_G} {kA : Nat → ClassId} {kE : Nat → Nat} {nm : String} {tb : List ExceptionTableEntry} {mc ms : Nat} {X : pm_X} {cu su : Nat} {Q : State → Prop} {nx : Nat} {M : pm_M} {b N i Bd : Nat} {xs : Nat → Int32} (B : pm_B l z D kA kE RL code 9 ret nm tb 2048 mc ms X) (hXs : va_X b N xs X.2.2.2.1 X.2.2.2.1.heap) (hbz : b < z) (hiN : i + 4 ≤ N) (hN : N ≤ 2048) (hcu : cu + 25 ≤ mc) (hsu : su + 78 ≤ ms) (hJ : pm_J z kA kE nx M Bd)
    (next : ∀ nx' M', nx ≤ nx' → pm_J z kA kE nx' M' (Bd + 693 * 11) → pm_G l z D X (cu + 25) (su + 78) Q nx' M' 2623 [some (.ref b), some (.ref (z + 0)), some (.ref (z + 140)), some (.ref (z + 149)), some (.ref (z + 150)), some (.int (nI i)), none, none, none] []) : pm_G l z D X cu su Q nx M 1785 [some (.ref b), some (.ref (z + 0)), some (.ref (z + 140)), some (.ref (z + 149)), some (.ref (z + 150)), some (.int (nI i)), none, none, none] [] := by
  obtain ⟨hnx, g, h, L, fo, fd, hT, hTM, hL, h149, h150, hRel⟩ := hJ
  obtain ⟨⟨n, hRS, hI⟩, ⟨ho, hk8, hf5, -⟩, -⟩ := id hRel
  have hn := hI.1.1
  have h7 := hI.1.2.1
  have hgn : h.2 1 0 = nI n := hRS.1.1.trans hn
  have hsd := hI.1.2.2.2.1
  have hgd : h.2 1 2 = nI (pm_n (h.2 1 2)) := by rw [hRS.1.2.2.1]; exact hsd.1
  have hgl : pm_n (h.2 1 2) < 1024 := by rw [hRS.1.2.2.1]; exact hsd.2
  have hC := pm_nas (hl := []) (hn := []) (th := 0) (mv := (d_X13_leastDifference n h.1 (h.2 1)).1) (f_X12_leastDifference (l := l) (D := D) hT hn h7) hL (Or.inl ⟨rfl, rfl, by exact pm_a_dif (f := h.1) hRS hI.2.1 h7⟩) (fun e he => absurd he List.not_mem_nil)
  refine pm_lw_30 (Bd := Bd) (L := L) (fo := fo) (fd := fd) (N := N) (xs := xs) (dW := 20) (mcW := 2) (msW := 12) (dX := 3) (h2 := (pm_hf h ((d_X13_leastDifference n h.1 (h.2 1)).2))) (mv := (d_X13_leastDifference n h.1 (h.2 1)).1) rfl (by decide) (by decide) rfl B hcu hsu hnx hT hTM h149 h150 hC (fun n' M' hT' => ⟨_, c_X13_leastDifference hT'.1 hT'.2.1 hgn h7, (pm_TM_f hT'), fun a ha => by rw [pm_up_n (by omega)]⟩) (fun v g2 L2 hR => ?_) next
  obtain ⟨rfl, rfl, e6, hv⟩ := hR
  exact ⟨hv rfl, pm_Rel_le (by omega) (pm_Rel_cg hRel (fun _ _ => rfl) rfl rfl (fun j hj => pk_un (by omega)) (fun _ _ => rfl))⟩
