def w_L_coalitions_3 (n : Nat) (r : (Nat → Int32)) (j1 : Nat) (x0 : (Nat → Int32)) : Nat → ((Nat → Int32))
  | 0 => x0
  | j3 + 1 => (upd (w_L_coalitions_3 n r j1 x0 j3) j3 (((w_L_coalitions_3 n r j1 x0 j3) j3) + ((if (((nI j1) >>> ((nI j3) &&& 31)) &&& 1) = 1 then (if ((if (w_L_votesOf_1 r (nI j1) 0 n) < (r 3) then 0 else 1) : Int32) = 0 then 0 else (if (r 3) ≤ (w_L_votesOf_1 r ((nI j1) &&& ((1 <<< ((nI j3) &&& 31)) ^^^ (-1))) 0 n) then 0 else 1)) else 0) : Int32)))
def w_L_coalitions_1 (n : Nat) (r : (Nat → Int32)) (x0 : Int32) (x1 : Int32) (x2 : (Nat → Int32)) : Nat → (Int32 × Int32 × (Nat → Int32))
  | 0 => (x0, x1, x2)
  | j1 + 1 => (((if ((nI j1) &&& ((w_L_activeSet_1 r 0 n) ^^^ (-1))) = 0 then ((w_L_coalitions_1 n r x0 x1 x2 j1).1 + ((if ((if (w_L_votesOf_1 r (nI j1) 0 n) < (r 3) then 0 else 1) : Int32) = 0 then 0 else 1) : Int32)) else (w_L_coalitions_1 n r x0 x1 x2 j1).1) : Int32), ((if ((nI j1) &&& ((w_L_activeSet_1 r 0 n) ^^^ (-1))) = 0 then (pm_min (w_L_coalitions_1 n r x0 x1 x2 j1).2.1 (pm_abs ((w_L_votesOf_1 r (w_L_activeSet_1 r 0 n) 0 n) - (2 * (w_L_votesOf_1 r (nI j1) 0 n))))) else (w_L_coalitions_1 n r x0 x1 x2 j1).2.1) : Int32), ((if ((nI j1) &&& ((w_L_activeSet_1 r 0 n) ^^^ (-1))) = 0 then (w_L_coalitions_3 n r j1 (w_L_coalitions_1 n r x0 x1 x2 j1).2.2 n) else (w_L_coalitions_1 n r x0 x1 x2 j1).2.2) : (Nat → Int32)))
theorem pw_st98 {r : Nat → Int32} {i : Nat} : pw_st r i = 98 ↔ ¬ r (7 + 6 * i + 5) = 0 := by
  unfold pw_st
  by_cases h : r (7 + 6 * i + 5) = 0
  · by_cases h2 : r (7 + 6 * i + 4) = 0
    · rw [if_pos ⟨h, h2⟩]; exact ⟨fun e => absurd e (by decide), fun e => absurd h e⟩
    · rw [if_neg (fun e => h2 e.2), if_pos h]; exact ⟨fun e => absurd e (by decide), fun e => absurd h e⟩
  · rw [if_neg (fun e => h e.1), if_neg h]; exact ⟨fun _ => h, fun _ => rfl⟩
theorem pw_vE {n : Nat} {r : Nat → Int32} {x : Int32} : d_X11_votesOf x n r = w_L_votesOf_1 r x 0 n := by
  have key : ∀ k j, d_X11_votesOf_L1 x r k j (w_L_votesOf_1 r x 0 j) = w_L_votesOf_1 r x 0 (j + k) := by
    intro k
    induction k with
    | zero => intro j; rfl
    | succ k ih =>
      intro j
      rw [show j + (k + 1) = (j + 1) + k by omega, ← ih (j + 1)]
      have e : w_L_votesOf_1 r x 0 (j + 1) = w_L_votesOf_1 r x 0 j + ((if ((x >>> ((nI j) &&& 31)) &&& 1) = 1 then (r (7 + 6 * j + 1)) else 0) : Int32) := rfl
      rw [e]
      by_cases h : ((x >>> ((nI j) &&& 31)) &&& 1) = 1
      · rw [d_X11_votesOf_L1, if_pos h, if_pos h]
      · rw [d_X11_votesOf_L1, if_neg h, if_neg h]
  have h := key n 0
  rw [Nat.zero_add] at h
  exact h
theorem pw_aE {n : Nat} {r : Nat → Int32} : d_X10_activeSet n r = w_L_activeSet_1 r 0 n := by
  have key : ∀ k j, d_X10_activeSet_L1 r k j (w_L_activeSet_1 r 0 j) = w_L_activeSet_1 r 0 (j + k) := by
    intro k
    induction k with
    | zero => intro j; rfl
    | succ k ih =>
      intro j
      rw [show j + (k + 1) = (j + 1) + k by omega, ← ih (j + 1)]
      have e : w_L_activeSet_1 r 0 (j + 1) = w_L_activeSet_1 r 0 j ||| ((if (pw_st r j) = 98 then 0 else (1 <<< ((nI j) &&& 31))) : Int32) := rfl
      rw [e]
      by_cases h : r (7 + 6 * j + 5) = 0
      · rw [d_X10_activeSet_L1, if_pos h, if_neg (fun e => pw_st98.mp e h)]
      · rw [d_X10_activeSet_L1, if_neg h, if_pos (pw_st98.mpr h)]
  have h := key n 0
  rw [Nat.zero_add] at h
  exact h
theorem pw_co2 {B n : Nat} {r : Nat → Int32} (hI : pm_I B n r) : d_X11_winners n r = (w_L_coalitions_1 n r 0 (w_L_votesOf_1 r (w_L_activeSet_1 r 0 n) 0 n) (fun _ => 0) (2 ^ n)).1 := by
  have key : ∀ k j, d_X11_winners_L1 n r k j (w_L_coalitions_1 n r 0 (w_L_votesOf_1 r (w_L_activeSet_1 r 0 n) 0 n) (fun _ => 0) j).1 = (w_L_coalitions_1 n r 0 (w_L_votesOf_1 r (w_L_activeSet_1 r 0 n) 0 n) (fun _ => 0) (j + k)).1 := by
    intro k
    induction k with
    | zero => intro j; rfl
    | succ k ih =>
      intro j
      rw [show j + (k + 1) = (j + 1) + k by omega, ← ih (j + 1)]
      have e : (w_L_coalitions_1 n r 0 (w_L_votesOf_1 r (w_L_activeSet_1 r 0 n) 0 n) (fun _ => 0) (j + 1)).1 = ((if ((nI j) &&& ((w_L_activeSet_1 r 0 n) ^^^ (-1))) = 0 then ((w_L_coalitions_1 n r 0 (w_L_votesOf_1 r (w_L_activeSet_1 r 0 n) 0 n) (fun _ => 0) j).1 + ((if ((if (w_L_votesOf_1 r (nI j) 0 n) < (r 3) then 0 else 1) : Int32) = 0 then 0 else 1) : Int32)) else (w_L_coalitions_1 n r 0 (w_L_votesOf_1 r (w_L_activeSet_1 r 0 n) 0 n) (fun _ => 0) j).1) : Int32) := rfl
      rw [e, d_X11_winners_L1, pw_aE, pw_vE]
      by_cases h : ((nI j) &&& ((w_L_activeSet_1 r 0 n) ^^^ (-1))) = 0
      · rw [if_pos h, if_pos h]
        by_cases h2 : (w_L_votesOf_1 r (nI j) 0 n) < (r 3)
        · rw [if_pos h2, if_pos h2, if_pos rfl, Int32.add_zero]
        · rw [if_neg h2, if_neg h2, if_neg (by decide)]; rfl
      · rw [if_neg h, if_neg h]
  have h := key (2 ^ n) 0
  rw [Nat.zero_add] at h
  exact h
theorem pw_co3 {B n : Nat} {r : Nat → Int32} (hI : pm_I B n r) : d_X11_differenceBySets n r = (w_L_coalitions_1 n r 0 (w_L_votesOf_1 r (w_L_activeSet_1 r 0 n) 0 n) (fun _ => 0) (2 ^ n)).2.1 := by
  have key : ∀ k j, d_X11_differenceBySets_L1 n r k j (w_L_coalitions_1 n r 0 (w_L_votesOf_1 r (w_L_activeSet_1 r 0 n) 0 n) (fun _ => 0) j).2.1 = (w_L_coalitions_1 n r 0 (w_L_votesOf_1 r (w_L_activeSet_1 r 0 n) 0 n) (fun _ => 0) (j + k)).2.1 := by
    intro k
    induction k with
    | zero => intro j; rfl
    | succ k ih =>
      intro j
      rw [show j + (k + 1) = (j + 1) + k by omega, ← ih (j + 1)]
      have e : (w_L_coalitions_1 n r 0 (w_L_votesOf_1 r (w_L_activeSet_1 r 0 n) 0 n) (fun _ => 0) (j + 1)).2.1 = ((if ((nI j) &&& ((w_L_activeSet_1 r 0 n) ^^^ (-1))) = 0 then (pm_min (w_L_coalitions_1 n r 0 (w_L_votesOf_1 r (w_L_activeSet_1 r 0 n) 0 n) (fun _ => 0) j).2.1 (pm_abs ((w_L_votesOf_1 r (w_L_activeSet_1 r 0 n) 0 n) - (2 * (w_L_votesOf_1 r (nI j) 0 n))))) else (w_L_coalitions_1 n r 0 (w_L_votesOf_1 r (w_L_activeSet_1 r 0 n) 0 n) (fun _ => 0) j).2.1) : Int32) := rfl
      rw [e, d_X11_differenceBySets_L1, pw_aE, pw_vE, pw_vE]
      by_cases h : ((nI j) &&& ((w_L_activeSet_1 r 0 n) ^^^ (-1))) = 0
      · rw [if_pos h, if_pos h]
      · rw [if_neg h, if_neg h]
  have h := key (2 ^ n) 0
  rw [Nat.zero_add] at h
  unfold d_X11_differenceBySets
  rw [pw_aE, pw_vE]
  exact h
section PWCO
variable {B n : Nat} {r : Nat → Int32}
theorem pw_acB (h7 : n ≤ 7) : ∀ j, j ≤ n → ∃ A, A < 128 ∧ w_L_activeSet_1 r 0 j = nI A ∧ ∀ i, i < 7 → (A / 2 ^ i % 2 = 1 ↔ i < j ∧ r (7 + 6 * i + 5) = 0) := by
  have ho : ∀ D, D < 128 → ∀ m, m < 7 → nI D ||| ((1 : Int32) <<< (nI m &&& 31)) = nI (D ||| 2 ^ m) ∧ D ||| 2 ^ m < 128 := by decide +kernel
  have hbt : ∀ D, D < 128 → ∀ m, m < 7 → ∀ j, j < 7 → (D ||| 2 ^ m) / 2 ^ j % 2 = if j = m then 1 else D / 2 ^ j % 2 := by decide +kernel
  intro j
  induction j with
  | zero => intro _; exact ⟨0, by decide, rfl, fun i _ => by rw [Nat.zero_div]; exact ⟨fun h => absurd h (by decide), fun h => absurd h.1 (Nat.not_lt_zero _)⟩⟩
  | succ j ih =>
    intro hj
    obtain ⟨A, a1, a2, a3⟩ := ih (by omega)
    have e : w_L_activeSet_1 r 0 (j + 1) = w_L_activeSet_1 r 0 j ||| ((if (pw_st r j) = 98 then 0 else (1 <<< ((nI j) &&& 31))) : Int32) := rfl
    by_cases h : r (7 + 6 * j + 5) = 0
    · refine ⟨A ||| 2 ^ j, (ho A a1 j (by omega)).2, by rw [e, a2, if_neg (fun e => pw_st98.mp e h), (ho A a1 j (by omega)).1], fun i hi => ?_⟩
      rw [hbt A a1 j (by omega) i hi]
      by_cases hij : i = j
      · subst hij
        rw [if_pos rfl]
        exact ⟨fun _ => ⟨by omega, h⟩, fun _ => rfl⟩
      · rw [if_neg hij]
        exact (a3 i hi).trans ⟨fun ⟨x, y⟩ => ⟨by omega, y⟩, fun ⟨x, y⟩ => ⟨by omega, y⟩⟩
    · refine ⟨A, a1, by rw [e, a2, if_pos (pw_st98.mpr h), Int32.or_zero], fun i hi => (a3 i hi).trans ⟨fun ⟨x, y⟩ => ⟨by omega, y⟩, fun ⟨x, y⟩ => ⟨?_, y⟩⟩⟩
      have : i ≠ j := fun e => h (e ▸ y)
      omega
theorem pw_bj {k : Nat} : ∀ (d : Nat), k + 1 + d ≤ 7 → ∀ (H : Nat → Nat), pn_sum (fun S => if S / 2 ^ k % 2 = 1 then H (S - 2 ^ k) else 0) (2 ^ (k + 1 + d)) = pn_sum (fun S => if S / 2 ^ k % 2 = 1 then 0 else H S) (2 ^ (k + 1 + d)) := by
  have hp7 : ∀ m, m ≤ 7 → 2 ^ m ≤ 128 := fun m hm => pm_p7 hm
  intro d
  induction d with
  | zero =>
    intro hk H
    have h2 : 2 ^ (k + 1 + 0) = 2 ^ k + 2 ^ k := by rw [Nat.add_zero, Nat.pow_succ]; omega
    have hp := hp7 (k + 1) (by omega)
    rw [Nat.add_zero] at h2
    rw [Nat.add_zero, h2, pn_sum_two, pn_sum_two]
    have hlow : ∀ j, j < 2 ^ k → j / 2 ^ k % 2 = 0 := fun j hj => by rw [Nat.div_eq_of_lt hj]
    have hhi : ∀ j, j < 2 ^ k → (2 ^ k + j) / 2 ^ k % 2 = 1 := fun j hj => (pn_top k (by omega) j (by omega) hj).2.1
    rw [pn_sum_z (F := fun S => if S / 2 ^ k % 2 = 1 then H (S - 2 ^ k) else 0) (2 ^ k) (fun j hj => by show (if j / 2 ^ k % 2 = 1 then _ else 0) = 0; rw [hlow j hj, if_neg (by decide)]),
      pn_sum_z (F := fun j => (fun S => if S / 2 ^ k % 2 = 1 then 0 else H S) (2 ^ k + j)) (2 ^ k) (fun j hj => by show (if (2 ^ k + j) / 2 ^ k % 2 = 1 then 0 else _) = 0; rw [hhi j hj, if_pos rfl]), Nat.zero_add, Nat.add_zero]
    refine pn_sum_cg _ fun j hj => ?_
    show (if (2 ^ k + j) / 2 ^ k % 2 = 1 then H (2 ^ k + j - 2 ^ k) else 0) = if j / 2 ^ k % 2 = 1 then 0 else H j
    rw [hhi j hj, if_pos rfl, hlow j hj, if_neg (by decide), Nat.add_sub_cancel_left]
  | succ d ih =>
    intro hk H
    have h2 : 2 ^ (k + 1 + (d + 1)) = 2 ^ (k + 1 + d) + 2 ^ (k + 1 + d) := by rw [← Nat.add_assoc, Nat.pow_succ]; omega
    have hp := hp7 (k + 1 + (d + 1)) (by omega)
    rw [h2, pn_sum_two, pn_sum_two, ih (by omega) H]
    congr 1
    have hb : ∀ j, j < 2 ^ (k + 1 + d) → (2 ^ (k + 1 + d) + j) / 2 ^ k % 2 = j / 2 ^ k % 2 := fun j hj => (pn_top (k + 1 + d) (by omega) j (by omega) hj).2.2 k (by omega)
    have hih := ih (by omega) (fun T => H (2 ^ (k + 1 + d) + T))
    refine Eq.trans (pn_sum_cg _ fun j hj => ?_) (Eq.trans hih (pn_sum_cg _ fun j hj => ?_))
    · show (if (2 ^ (k + 1 + d) + j) / 2 ^ k % 2 = 1 then H (2 ^ (k + 1 + d) + j - 2 ^ k) else 0) = if j / 2 ^ k % 2 = 1 then H (2 ^ (k + 1 + d) + (j - 2 ^ k)) else 0
      rw [hb j hj]
      by_cases h : j / 2 ^ k % 2 = 1
      · have hge : 2 ^ k ≤ j := Nat.le_of_not_lt fun e => by rw [Nat.div_eq_of_lt e] at h; exact absurd h (by decide)
        rw [if_pos h, if_pos h, Nat.add_sub_assoc hge]
      · rw [if_neg h, if_neg h]
    · show (if j / 2 ^ k % 2 = 1 then 0 else H (2 ^ (k + 1 + d) + j)) = if (2 ^ (k + 1 + d) + j) / 2 ^ k % 2 = 1 then 0 else H (2 ^ (k + 1 + d) + j)
      rw [hb j hj]
theorem pw_cw3 {j1 k : Nat} {x0 : Nat → Int32} : ∀ m, w_L_coalitions_3 n r j1 x0 m k = if k < m then x0 k + ((if (((nI j1) >>> ((nI k) &&& 31)) &&& 1) = 1 then (if ((if (w_L_votesOf_1 r (nI j1) 0 n) < (r 3) then 0 else 1) : Int32) = 0 then 0 else (if (r 3) ≤ (w_L_votesOf_1 r ((nI j1) &&& ((1 <<< ((nI k) &&& 31)) ^^^ (-1))) 0 n) then 0 else 1)) else 0) : Int32) else x0 k := by
  intro m
  induction m with
  | zero => rw [if_neg (Nat.not_lt_zero _)]; rfl
  | succ m ih =>
    show (upd (w_L_coalitions_3 n r j1 x0 m) m (w_L_coalitions_3 n r j1 x0 m m + _)) k = _
    by_cases hkm : k = m
    · subst hkm
      rw [pk_us, if_pos (Nat.lt_succ_self _), ih, if_neg (Nat.lt_irrefl _)]
    · rw [pk_un hkm, ih]
      by_cases h : k < m
      · rw [if_pos h, if_pos (show k < m + 1 by omega)]
      · rw [if_neg h, if_neg (show ¬ k < m + 1 by omega)]
theorem pw_vk {V : Nat → Nat} {S k : Nat} (hS : S < 128) (hk : k < 7) (hb : S / 2 ^ k % 2 = 1) : ∀ j, j ≤ 7 → pn_v V S j = pn_v V (S - 2 ^ k) j + (if k < j then V k else 0) := by
  have hbt : ∀ S, S < 128 → ∀ k, k < 7 → S / 2 ^ k % 2 = 1 → ∀ i, i < 7 → (S - 2 ^ k) / 2 ^ i % 2 = if i = k then 0 else S / 2 ^ i % 2 := by decide +kernel
  intro j
  induction j with
  | zero => intro _; rw [if_neg (Nat.not_lt_zero _)]; rfl
  | succ j ih =>
    intro hj
    show pn_v V S j + (if S / 2 ^ j % 2 = 1 then V j else 0) = pn_v V (S - 2 ^ k) j + (if (S - 2 ^ k) / 2 ^ j % 2 = 1 then V j else 0) + _
    rw [ih (by omega), hbt S hS k hk hb j (by omega)]
    by_cases hjk : j = k
    · subst hjk
      rw [if_neg (Nat.lt_irrefl _), if_pos rfl, if_pos hb, if_neg (show ¬ (0 : Nat) = 1 by decide), if_pos (Nat.lt_succ_self _)]
    · rw [if_neg hjk]
      by_cases h : k < j
      · rw [if_pos h, if_pos (show k < j + 1 by omega)]; omega
      · rw [if_neg h, if_neg (show ¬ k < j + 1 by omega)]; omega
theorem pw_co1 {k : Nat} (hI : pm_I B n r) (hk : k < n) : pw_sw n r k = ((if (((w_L_activeSet_1 r 0 n) >>> ((nI k) &&& 31)) &&& 1) = 1 then ((w_L_coalitions_1 n r 0 (w_L_votesOf_1 r (w_L_activeSet_1 r 0 n) 0 n) (fun _ => 0) (2 ^ n)).2.2 k) else (-13)) : Int32) := by
  have h7 := hI.1.2.1
  have hw := hI.2.1
  have h128 := pm_p7 h7
  obtain ⟨A, a1, a2, a3⟩ := pw_acB (r := r) h7 n (Nat.le_refl n)
  obtain ⟨θ, t1, t2, t3⟩ := hI.1.2.2.2.2.1
  have hA : (A / 2 ^ k % 2 = 1 ↔ r (7 + 6 * k + 5) = 0) := (a3 k (by omega)).trans ⟨fun h => h.2, fun h => ⟨hk, h⟩⟩
  unfold pw_sw
  rw [a2, pm_tb a1 (by omega)]
  by_cases hbn : ¬ r (7 + 6 * k + 5) = 0
  · have h0 : A / 2 ^ k % 2 = 0 := by
      have := mt hA.mp hbn
      omega
    rw [if_neg hbn, h0, if_neg (by decide)]
  have hb := Classical.not_not.mp hbn
  have hAk := hA.mpr hb
  rw [if_pos hb, hAk, if_pos (show nI 1 = (1 : Int32) from rfl)]
  -- the law's count
  have hoth : ∀ S, S < 128 → ∀ k, k < 7 → S / 2 ^ k % 2 = 1 → S &&& (127 - 2 ^ k) = S - 2 ^ k := by decide +kernel
  have hbS : ∀ S, S < 128 → ∀ k, k < 7 → S / 2 ^ k % 2 = 1 → ∀ i, i < 7 → (S - 2 ^ k) / 2 ^ i % 2 = if i = k then 0 else S / 2 ^ i % 2 := by decide +kernel
  have hbO : ∀ S, S < 128 → ∀ k, k < 7 → ∀ i, i < 7 → (S &&& (127 - 2 ^ k)) / 2 ^ i % 2 = if i = k then 0 else S / 2 ^ i % 2 := by decide +kernel
  have hvo : ∀ S, S < 128 → w_L_votesOf_1 r (nI S) 0 n = nI (pn_v (pn_V r) S n) := fun S hS => pw_vE.symm.trans (pn_vo hS hw h7)
  have hvl : ∀ S, pn_v (pn_V r) S n ≤ 140 := fun S => by
    have := pn_v_le (S := S) n (pn_VV hw)
    omega
  have hVk : r (7 + 6 * k + 1) = nI (pn_V r k) := (hw k hk).2.1.1
  have hV20 : pn_V r k ≤ 20 := pn_VV hw k hk
  have law : ∀ j, j ≤ 2 ^ n → (w_L_coalitions_1 n r 0 (w_L_votesOf_1 r (nI A) 0 n) (fun _ => 0) j).2.2 k = nI (pn_sum (fun S => if pn_sb S A ∧ S / 2 ^ k % 2 = 1 ∧ θ ≤ pn_v (pn_V r) S n ∧ pn_v (pn_V r) (S - 2 ^ k) n < θ then 1 else 0) j) := by
    intro j
    induction j with
    | zero => intro _; rfl
    | succ j ih =>
      intro hj
      have hj1 : j < 128 := by omega
      have e : (w_L_coalitions_1 n r 0 (w_L_votesOf_1 r (nI A) 0 n) (fun _ => 0) (j + 1)).2.2 k = (((if ((nI j) &&& ((w_L_activeSet_1 r 0 n) ^^^ (-1))) = 0 then (w_L_coalitions_3 n r j (w_L_coalitions_1 n r 0 (w_L_votesOf_1 r (nI A) 0 n) (fun _ => 0) j).2.2 n) else (w_L_coalitions_1 n r 0 (w_L_votesOf_1 r (nI A) 0 n) (fun _ => 0) j).2.2) : (Nat → Int32))) k := rfl
      rw [e, a2, pn_sum]
      have hsub := pm_subi j hj1 A a1
      by_cases hs : pn_sb j A
      · rw [if_pos (hsub.mpr hs), pw_cw3, if_pos hk, ih (by omega), pm_tb hj1 (by omega)]
        by_cases hjk : j / 2 ^ k % 2 = 1
        · rw [hjk, if_pos (show nI 1 = (1 : Int32) from rfl), (pm_oth j hj1 k (by omega)).1, hoth j hj1 k (by omega) hjk, hvo j hj1, hvo (j - 2 ^ k) (Nat.lt_of_le_of_lt (Nat.sub_le _ _) hj1), t1]
          have v1 := hvl j
          have v2 := hvl (j - 2 ^ k)
          by_cases c1 : pn_v (pn_V r) j n < θ
          · rw [if_pos ((nI_ltI (by omega) (by omega)).mpr c1), if_pos rfl, Int32.add_zero, if_neg (fun h => by have := h.2.2.1; omega), Nat.add_zero]
          · rw [if_neg (fun h => c1 ((nI_ltI (by omega) (by omega)).mp h)), if_neg (by decide)]
            by_cases c2 : θ ≤ pn_v (pn_V r) (j - 2 ^ k) n
            · rw [if_pos ((nI_leI (by omega) (by omega)).mpr c2), Int32.add_zero, if_neg (fun h => by have := h.2.2.2; omega), Nat.add_zero]
            · rw [if_neg (fun h => c2 ((nI_leI (by omega) (by omega)).mp h)), nI_1, if_pos ⟨hs, rfl, by omega, by omega⟩]
        · have hjk0 : j / 2 ^ k % 2 = 0 := by omega
          rw [hjk0, if_neg (show ¬ nI 0 = (1 : Int32) by decide), Int32.add_zero, if_neg (fun h => absurd h.2.1 (by decide)), Nat.add_zero]
      · rw [if_neg (fun h => hs (hsub.mp h)), ih (by omega), if_neg (fun h => hs h.1), Nat.add_zero]
  rw [law (2 ^ n) (Nat.le_refl _)]
  -- the class's count
  obtain ⟨p1, p2, p3⟩ := pm_oth A a1 k (by omega)
  have eo : d_X10_activeSet n r &&& (((1 : Int32) <<< (nI k &&& 31)) ^^^ (-1)) = nI (A &&& (127 - 2 ^ k)) := by rw [pw_aE, a2]; exact p1
  have cls := pn_swS (i := k) (O := A &&& (127 - 2 ^ k)) (by omega) hw h7 eo (2 ^ n) 0 0 (by omega)
  show d_X11_swingsBySets_L1 k n r (2 ^ n) 0 (nI 0) = _
  rw [cls, Nat.zero_add]
  congr 1
  have pair := pw_bj (k := k) (n - (k + 1)) (by omega) (fun T => if pn_sb T (A &&& (127 - 2 ^ k)) ∧ pn_v (pn_V r) T n < θ ∧ θ ≤ pn_v (pn_V r) T n + pn_V r k then 1 else 0)
  rw [show k + 1 + (n - (k + 1)) = n by omega] at pair
  refine Eq.trans (pn_sum_cg _ fun S hS => ?_) (Eq.trans pair.symm (pn_sum_cg _ fun S hS => ?_))
  · have hS1 : S < 128 := by omega
    have v1 := hvl S
    simp only [Nat.zero_add]
    have sw : (¬ d_X11_isSwing (nI (pn_v (pn_V r) S n)) k n r = 0) ↔ (pn_v (pn_V r) S n < θ ∧ θ ≤ pn_v (pn_V r) S n + pn_V r k) := by
      unfold d_X11_isSwing
      rw [t1, hVk, nI_add]
      by_cases c1 : θ ≤ pn_v (pn_V r) S n
      · rw [if_pos ((nI_leI (by omega) (by omega)).mpr c1)]
        exact ⟨fun h => absurd rfl h, fun h => by omega⟩
      · rw [if_neg (fun h => c1 ((nI_leI (by omega) (by omega)).mp h))]
        by_cases c2 : pn_v (pn_V r) S n + pn_V r k < θ
        · rw [if_pos ((nI_ltI (by omega) (by omega)).mpr c2)]
          exact ⟨fun h => absurd rfl h, fun h => by omega⟩
        · rw [if_neg (fun h => c2 ((nI_ltI (by omega) (by omega)).mp h))]
          exact ⟨fun _ => ⟨by omega, by omega⟩, fun _ => by decide⟩
    by_cases hSk : S / 2 ^ k % 2 = 1
    · rw [if_pos hSk, if_neg (fun h => by
        have := h.1 k (by omega) hSk
        omega)]
    · rw [if_neg hSk]
      by_cases h : pn_sb S (A &&& (127 - 2 ^ k)) ∧ ¬ d_X11_isSwing (nI (pn_v (pn_V r) S n)) k n r = 0
      · rw [if_pos h, if_pos ⟨h.1, sw.mp h.2⟩]
      · rw [if_neg h, if_neg (fun h9 => h ⟨h9.1, sw.mpr h9.2⟩)]
  · have hS1 : S < 128 := by omega
    show (if S / 2 ^ k % 2 = 1 then (if pn_sb (S - 2 ^ k) (A &&& (127 - 2 ^ k)) ∧ pn_v (pn_V r) (S - 2 ^ k) n < θ ∧ θ ≤ pn_v (pn_V r) (S - 2 ^ k) n + pn_V r k then 1 else 0) else 0) = _
    by_cases hSk : S / 2 ^ k % 2 = 1
    · rw [if_pos hSk]
      have hv := pw_vk (V := pn_V r) hS1 (by omega) hSk n h7
      rw [if_pos hk] at hv
      have hsb : pn_sb (S - 2 ^ k) (A &&& (127 - 2 ^ k)) ↔ pn_sb S A := by
        constructor
        · intro h i hi hb9
          by_cases hik : i = k
          · rw [hik]; exact hAk
          · have h1 := h i hi (by rw [hbS S hS1 k (by omega) hSk i hi, if_neg hik]; exact hb9)
            rw [hbO A a1 k (by omega) i hi, if_neg hik] at h1
            exact h1
        · intro h i hi hb9
          rw [hbS S hS1 k (by omega) hSk i hi] at hb9
          by_cases hik : i = k
          · rw [if_pos hik] at hb9; exact absurd hb9 (by decide)
          · rw [if_neg hik] at hb9
            rw [hbO A a1 k (by omega) i hi, if_neg hik]
            exact h i hi hb9
      by_cases h : pn_sb (S - 2 ^ k) (A &&& (127 - 2 ^ k)) ∧ pn_v (pn_V r) (S - 2 ^ k) n < θ ∧ θ ≤ pn_v (pn_V r) (S - 2 ^ k) n + pn_V r k
      · rw [if_pos h, if_pos ⟨hsb.mp h.1, hSk, by omega, h.2.1⟩]
      · rw [if_neg h, if_neg (fun h9 => h ⟨hsb.mpr h9.1, h9.2.2.2, by have := h9.2.2.1; omega⟩)]
    · rw [if_neg hSk, if_neg (fun h => hSk h.2.1)]
end PWCO
/-! the law: coalitions -/
theorem dL_coalitions_0 : decode cL_coalitions 0 = .ok (.aload_n 0, 1) := by decide +kernel
theorem dL_coalitions_1 : decode cL_coalitions 1 = .ok (.invokestatic 180, 3) := by decide +kernel
theorem dL_coalitions_4 : decode cL_coalitions 4 = .ok (.istore_n 1, 1) := by decide +kernel
theorem dL_coalitions_5 : decode cL_coalitions 5 = .ok (.aload_n 0, 1) := by decide +kernel
theorem dL_coalitions_6 : decode cL_coalitions 6 = .ok (.iload_n 1, 1) := by decide +kernel
theorem dL_coalitions_7 : decode cL_coalitions 7 = .ok (.invokestatic 287, 3) := by decide +kernel
theorem dL_coalitions_10 : decode cL_coalitions 10 = .ok (.istore_n 2, 1) := by decide +kernel
theorem dL_coalitions_11 : decode cL_coalitions 11 = .ok (.iconst 0, 1) := by decide +kernel
theorem dL_coalitions_12 : decode cL_coalitions 12 = .ok (.istore_n 3, 1) := by decide +kernel
theorem dL_coalitions_13 : decode cL_coalitions 13 = .ok (.iload_n 2, 1) := by decide +kernel
theorem dL_coalitions_14 : decode cL_coalitions 14 = .ok (.istore 4, 2) := by decide +kernel
theorem dL_coalitions_16 : decode cL_coalitions 16 = .ok (.bipush 7, 2) := by decide +kernel
theorem dL_coalitions_18 : decode cL_coalitions 18 = .ok (.newarray .int, 2) := by decide +kernel
theorem dL_coalitions_20 : decode cL_coalitions 20 = .ok (.astore 5, 2) := by decide +kernel
theorem dL_coalitions_22 : decode cL_coalitions 22 = .ok (.aload_n 0, 1) := by decide +kernel
theorem dL_coalitions_23 : decode cL_coalitions 23 = .ok (.invokestatic 290, 3) := by decide +kernel
theorem dL_coalitions_26 : decode cL_coalitions 26 = .ok (.istore 6, 2) := by decide +kernel
theorem dL_coalitions_28 : decode cL_coalitions 28 = .ok (.iconst 0, 1) := by decide +kernel
theorem dL_coalitions_29 : decode cL_coalitions 29 = .ok (.istore 7, 2) := by decide +kernel
theorem dL_coalitions_31 : decode cL_coalitions 31 = .ok (.iload 7, 2) := by decide +kernel
theorem dL_coalitions_33 : decode cL_coalitions 33 = .ok (.iconst 1, 1) := by decide +kernel
theorem dL_coalitions_34 : decode cL_coalitions 34 = .ok (.aload_n 0, 1) := by decide +kernel
theorem dL_coalitions_35 : decode cL_coalitions 35 = .ok (.invokevirtual 177, 3) := by decide +kernel
theorem dL_coalitions_38 : decode cL_coalitions 38 = .ok (.ishl, 1) := by decide +kernel
theorem dL_coalitions_39 : decode cL_coalitions 39 = .ok (.if_icmp .ge 134, 3) := by decide +kernel
theorem dL_coalitions_42 : decode cL_coalitions 42 = .ok (.iload 7, 2) := by decide +kernel
theorem dL_coalitions_44 : decode cL_coalitions 44 = .ok (.iload_n 1, 1) := by decide +kernel
theorem dL_coalitions_45 : decode cL_coalitions 45 = .ok (.iconst (-1), 1) := by decide +kernel
theorem dL_coalitions_46 : decode cL_coalitions 46 = .ok (.ixor, 1) := by decide +kernel
theorem dL_coalitions_47 : decode cL_coalitions 47 = .ok (.iand, 1) := by decide +kernel
theorem dL_coalitions_48 : decode cL_coalitions 48 = .ok (.ifCond .ne 119, 3) := by decide +kernel
theorem dL_coalitions_51 : decode cL_coalitions 51 = .ok (.aload_n 0, 1) := by decide +kernel
theorem dL_coalitions_52 : decode cL_coalitions 52 = .ok (.iload 7, 2) := by decide +kernel
theorem dL_coalitions_54 : decode cL_coalitions 54 = .ok (.invokestatic 287, 3) := by decide +kernel
theorem dL_coalitions_57 : decode cL_coalitions 57 = .ok (.iload 6, 2) := by decide +kernel
theorem dL_coalitions_59 : decode cL_coalitions 59 = .ok (.if_icmp .lt 7, 3) := by decide +kernel
theorem dL_coalitions_62 : decode cL_coalitions 62 = .ok (.iconst 1, 1) := by decide +kernel
theorem dL_coalitions_63 : decode cL_coalitions 63 = .ok (.goto 4, 3) := by decide +kernel
theorem dL_coalitions_66 : decode cL_coalitions 66 = .ok (.iconst 0, 1) := by decide +kernel
theorem dL_coalitions_67 : decode cL_coalitions 67 = .ok (.istore 8, 2) := by decide +kernel
theorem dL_coalitions_69 : decode cL_coalitions 69 = .ok (.iload_n 3, 1) := by decide +kernel
theorem dL_coalitions_70 : decode cL_coalitions 70 = .ok (.iload 8, 2) := by decide +kernel
theorem dL_coalitions_72 : decode cL_coalitions 72 = .ok (.ifCond .eq 7, 3) := by decide +kernel
theorem dL_coalitions_75 : decode cL_coalitions 75 = .ok (.iconst 1, 1) := by decide +kernel
theorem dL_coalitions_76 : decode cL_coalitions 76 = .ok (.goto 4, 3) := by decide +kernel
theorem dL_coalitions_79 : decode cL_coalitions 79 = .ok (.iconst 0, 1) := by decide +kernel
theorem dL_coalitions_80 : decode cL_coalitions 80 = .ok (.iadd, 1) := by decide +kernel
theorem dL_coalitions_81 : decode cL_coalitions 81 = .ok (.istore_n 3, 1) := by decide +kernel
theorem dL_coalitions_82 : decode cL_coalitions 82 = .ok (.iload 4, 2) := by decide +kernel
theorem dL_coalitions_84 : decode cL_coalitions 84 = .ok (.iload_n 2, 1) := by decide +kernel
theorem dL_coalitions_85 : decode cL_coalitions 85 = .ok (.iconst 2, 1) := by decide +kernel
theorem dL_coalitions_86 : decode cL_coalitions 86 = .ok (.aload_n 0, 1) := by decide +kernel
theorem dL_coalitions_87 : decode cL_coalitions 87 = .ok (.iload 7, 2) := by decide +kernel
theorem dL_coalitions_89 : decode cL_coalitions 89 = .ok (.invokestatic 287, 3) := by decide +kernel
theorem dL_coalitions_92 : decode cL_coalitions 92 = .ok (.imul, 1) := by decide +kernel
theorem dL_coalitions_93 : decode cL_coalitions 93 = .ok (.isub, 1) := by decide +kernel
theorem dL_coalitions_94 : decode cL_coalitions 94 = .ok (.invokestatic 293, 3) := by decide +kernel
theorem dL_coalitions_97 : decode cL_coalitions 97 = .ok (.invokestatic 275, 3) := by decide +kernel
theorem dL_coalitions_100 : decode cL_coalitions 100 = .ok (.istore 4, 2) := by decide +kernel
theorem dL_coalitions_102 : decode cL_coalitions 102 = .ok (.iconst 0, 1) := by decide +kernel
theorem dL_coalitions_103 : decode cL_coalitions 103 = .ok (.istore 9, 2) := by decide +kernel
theorem dL_coalitions_105 : decode cL_coalitions 105 = .ok (.iload 9, 2) := by decide +kernel
theorem dL_coalitions_107 : decode cL_coalitions 107 = .ok (.aload_n 0, 1) := by decide +kernel
theorem dL_coalitions_108 : decode cL_coalitions 108 = .ok (.invokevirtual 177, 3) := by decide +kernel
theorem dL_coalitions_111 : decode cL_coalitions 111 = .ok (.if_icmp .ge 56, 3) := by decide +kernel
theorem dL_coalitions_114 : decode cL_coalitions 114 = .ok (.aload 5, 2) := by decide +kernel
theorem dL_coalitions_116 : decode cL_coalitions 116 = .ok (.iload 9, 2) := by decide +kernel
theorem dL_coalitions_118 : decode cL_coalitions 118 = .ok (.dup2, 1) := by decide +kernel
theorem dL_coalitions_119 : decode cL_coalitions 119 = .ok (.iaload, 1) := by decide +kernel
theorem dL_coalitions_120 : decode cL_coalitions 120 = .ok (.iload 7, 2) := by decide +kernel
theorem dL_coalitions_122 : decode cL_coalitions 122 = .ok (.iload 9, 2) := by decide +kernel
theorem dL_coalitions_124 : decode cL_coalitions 124 = .ok (.ishr, 1) := by decide +kernel
theorem dL_coalitions_125 : decode cL_coalitions 125 = .ok (.iconst 1, 1) := by decide +kernel
theorem dL_coalitions_126 : decode cL_coalitions 126 = .ok (.iand, 1) := by decide +kernel
theorem dL_coalitions_127 : decode cL_coalitions 127 = .ok (.iconst 1, 1) := by decide +kernel
theorem dL_coalitions_128 : decode cL_coalitions 128 = .ok (.if_icmp .ne 30, 3) := by decide +kernel
theorem dL_coalitions_131 : decode cL_coalitions 131 = .ok (.iload 8, 2) := by decide +kernel
theorem dL_coalitions_133 : decode cL_coalitions 133 = .ok (.ifCond .eq 25, 3) := by decide +kernel
theorem dL_coalitions_136 : decode cL_coalitions 136 = .ok (.aload_n 0, 1) := by decide +kernel
theorem dL_coalitions_137 : decode cL_coalitions 137 = .ok (.iload 7, 2) := by decide +kernel
theorem dL_coalitions_139 : decode cL_coalitions 139 = .ok (.iconst 1, 1) := by decide +kernel
theorem dL_coalitions_140 : decode cL_coalitions 140 = .ok (.iload 9, 2) := by decide +kernel
theorem dL_coalitions_142 : decode cL_coalitions 142 = .ok (.ishl, 1) := by decide +kernel
theorem dL_coalitions_143 : decode cL_coalitions 143 = .ok (.iconst (-1), 1) := by decide +kernel
theorem dL_coalitions_144 : decode cL_coalitions 144 = .ok (.ixor, 1) := by decide +kernel
theorem dL_coalitions_145 : decode cL_coalitions 145 = .ok (.iand, 1) := by decide +kernel
theorem dL_coalitions_146 : decode cL_coalitions 146 = .ok (.invokestatic 287, 3) := by decide +kernel
theorem dL_coalitions_149 : decode cL_coalitions 149 = .ok (.iload 6, 2) := by decide +kernel
theorem dL_coalitions_151 : decode cL_coalitions 151 = .ok (.if_icmp .ge 7, 3) := by decide +kernel
theorem dL_coalitions_154 : decode cL_coalitions 154 = .ok (.iconst 1, 1) := by decide +kernel
theorem dL_coalitions_155 : decode cL_coalitions 155 = .ok (.goto 4, 3) := by decide +kernel
theorem dL_coalitions_158 : decode cL_coalitions 158 = .ok (.iconst 0, 1) := by decide +kernel
theorem dL_coalitions_159 : decode cL_coalitions 159 = .ok (.iadd, 1) := by decide +kernel
theorem dL_coalitions_160 : decode cL_coalitions 160 = .ok (.iastore, 1) := by decide +kernel
theorem dL_coalitions_161 : decode cL_coalitions 161 = .ok (.iinc 9 1, 3) := by decide +kernel
theorem dL_coalitions_164 : decode cL_coalitions 164 = .ok (.goto (-59), 3) := by decide +kernel
theorem dL_coalitions_167 : decode cL_coalitions 167 = .ok (.iinc 7 1, 3) := by decide +kernel
theorem dL_coalitions_170 : decode cL_coalitions 170 = .ok (.goto (-139), 3) := by decide +kernel
theorem dL_coalitions_173 : decode cL_coalitions 173 = .ok (.iconst 0, 1) := by decide +kernel
theorem dL_coalitions_174 : decode cL_coalitions 174 = .ok (.istore 7, 2) := by decide +kernel
theorem dL_coalitions_176 : decode cL_coalitions 176 = .ok (.iload 7, 2) := by decide +kernel
theorem dL_coalitions_178 : decode cL_coalitions 178 = .ok (.aload_n 0, 1) := by decide +kernel
theorem dL_coalitions_179 : decode cL_coalitions 179 = .ok (.invokevirtual 177, 3) := by decide +kernel
theorem dL_coalitions_182 : decode cL_coalitions 182 = .ok (.if_icmp .ge 55, 3) := by decide +kernel
theorem dL_coalitions_185 : decode cL_coalitions 185 = .ok (.iload_n 1, 1) := by decide +kernel
theorem dL_coalitions_186 : decode cL_coalitions 186 = .ok (.iload 7, 2) := by decide +kernel
theorem dL_coalitions_188 : decode cL_coalitions 188 = .ok (.ishr, 1) := by decide +kernel
theorem dL_coalitions_189 : decode cL_coalitions 189 = .ok (.iconst 1, 1) := by decide +kernel
theorem dL_coalitions_190 : decode cL_coalitions 190 = .ok (.iand, 1) := by decide +kernel
theorem dL_coalitions_191 : decode cL_coalitions 191 = .ok (.iconst 1, 1) := by decide +kernel
theorem dL_coalitions_192 : decode cL_coalitions 192 = .ok (.if_icmp .ne 11, 3) := by decide +kernel
theorem dL_coalitions_195 : decode cL_coalitions 195 = .ok (.aload 5, 2) := by decide +kernel
theorem dL_coalitions_197 : decode cL_coalitions 197 = .ok (.iload 7, 2) := by decide +kernel
theorem dL_coalitions_199 : decode cL_coalitions 199 = .ok (.iaload, 1) := by decide +kernel
theorem dL_coalitions_200 : decode cL_coalitions 200 = .ok (.goto 5, 3) := by decide +kernel
theorem dL_coalitions_203 : decode cL_coalitions 203 = .ok (.bipush (-13), 2) := by decide +kernel
theorem dL_coalitions_205 : decode cL_coalitions 205 = .ok (.istore 8, 2) := by decide +kernel
theorem dL_coalitions_207 : decode cL_coalitions 207 = .ok (.aload_n 0, 1) := by decide +kernel
theorem dL_coalitions_208 : decode cL_coalitions 208 = .ok (.iload 7, 2) := by decide +kernel
theorem dL_coalitions_210 : decode cL_coalitions 210 = .ok (.invokestatic 296, 3) := by decide +kernel
theorem dL_coalitions_213 : decode cL_coalitions 213 = .ok (.iload 8, 2) := by decide +kernel
theorem dL_coalitions_215 : decode cL_coalitions 215 = .ok (.if_icmp .ne 14, 3) := by decide +kernel
theorem dL_coalitions_218 : decode cL_coalitions 218 = .ok (.aload_n 0, 1) := by decide +kernel
theorem dL_coalitions_219 : decode cL_coalitions 219 = .ok (.iload 7, 2) := by decide +kernel
theorem dL_coalitions_221 : decode cL_coalitions 221 = .ok (.invokestatic 298, 3) := by decide +kernel
theorem dL_coalitions_224 : decode cL_coalitions 224 = .ok (.iload 8, 2) := by decide +kernel
theorem dL_coalitions_226 : decode cL_coalitions 226 = .ok (.if_icmp .eq 5, 3) := by decide +kernel
theorem dL_coalitions_229 : decode cL_coalitions 229 = .ok (.iconst 0, 1) := by decide +kernel
theorem dL_coalitions_230 : decode cL_coalitions 230 = .ok (.ireturn, 1) := by decide +kernel
theorem dL_coalitions_231 : decode cL_coalitions 231 = .ok (.iinc 7 1, 3) := by decide +kernel
theorem dL_coalitions_234 : decode cL_coalitions 234 = .ok (.goto (-58), 3) := by decide +kernel
theorem dL_coalitions_237 : decode cL_coalitions 237 = .ok (.aload_n 0, 1) := by decide +kernel
theorem dL_coalitions_238 : decode cL_coalitions 238 = .ok (.invokevirtual 301, 3) := by decide +kernel
theorem dL_coalitions_241 : decode cL_coalitions 241 = .ok (.iload_n 3, 1) := by decide +kernel
theorem dL_coalitions_242 : decode cL_coalitions 242 = .ok (.if_icmp .ne 48, 3) := by decide +kernel
theorem dL_coalitions_245 : decode cL_coalitions 245 = .ok (.aload_n 0, 1) := by decide +kernel
theorem dL_coalitions_246 : decode cL_coalitions 246 = .ok (.invokevirtual 304, 3) := by decide +kernel
theorem dL_coalitions_249 : decode cL_coalitions 249 = .ok (.iload 4, 2) := by decide +kernel
theorem dL_coalitions_251 : decode cL_coalitions 251 = .ok (.if_icmp .ne 39, 3) := by decide +kernel
theorem dL_coalitions_254 : decode cL_coalitions 254 = .ok (.aload_n 0, 1) := by decide +kernel
theorem dL_coalitions_255 : decode cL_coalitions 255 = .ok (.invokevirtual 307, 3) := by decide +kernel
theorem dL_coalitions_258 : decode cL_coalitions 258 = .ok (.iload 4, 2) := by decide +kernel
theorem dL_coalitions_260 : decode cL_coalitions 260 = .ok (.if_icmp .ne 30, 3) := by decide +kernel
theorem dL_coalitions_263 : decode cL_coalitions 263 = .ok (.aload_n 0, 1) := by decide +kernel
theorem dL_coalitions_264 : decode cL_coalitions 264 = .ok (.aload_n 0, 1) := by decide +kernel
theorem dL_coalitions_265 : decode cL_coalitions 265 = .ok (.invokevirtual 177, 3) := by decide +kernel
theorem dL_coalitions_268 : decode cL_coalitions 268 = .ok (.invokestatic 296, 3) := by decide +kernel
theorem dL_coalitions_271 : decode cL_coalitions 271 = .ok (.bipush (-11), 2) := by decide +kernel
theorem dL_coalitions_273 : decode cL_coalitions 273 = .ok (.if_icmp .ne 17, 3) := by decide +kernel
theorem dL_coalitions_276 : decode cL_coalitions 276 = .ok (.aload_n 0, 1) := by decide +kernel
theorem dL_coalitions_277 : decode cL_coalitions 277 = .ok (.iconst (-1), 1) := by decide +kernel
theorem dL_coalitions_278 : decode cL_coalitions 278 = .ok (.invokestatic 298, 3) := by decide +kernel
theorem dL_coalitions_281 : decode cL_coalitions 281 = .ok (.bipush (-11), 2) := by decide +kernel
theorem dL_coalitions_283 : decode cL_coalitions 283 = .ok (.if_icmp .ne 7, 3) := by decide +kernel
theorem dL_coalitions_286 : decode cL_coalitions 286 = .ok (.iconst 1, 1) := by decide +kernel
theorem dL_coalitions_287 : decode cL_coalitions 287 = .ok (.goto 4, 3) := by decide +kernel
theorem dL_coalitions_290 : decode cL_coalitions 290 = .ok (.iconst 0, 1) := by decide +kernel
theorem dL_coalitions_291 : decode cL_coalitions 291 = .ok (.ireturn, 1) := by decide +kernel
theorem mt_L_coalitions : pm_Mt yL_coalitions cL_coalitions 10 (some .boolean) 1 := ⟨pm_T_in 1030 (by decide +kernel) (by decide +kernel), pm_T_in 34 (by decide +kernel) (by decide +kernel), ⟨by decide +kernel, by decide +kernel, by decide +kernel⟩, by decide +kernel, by decide⟩
set_option maxRecDepth 100000 in
set_option maxHeartbeats 8000000 in
theorem c_L_coalitions {l : Launch} {z : Nat} {D : va_G} {kA : Nat → ClassId} {kE : Nat → Nat} {B n : Nat} {r : Nat → Int32} {hs : List (Nat → Int32)} {u : Nat × List Nat} {ar : List (Nat × va_E)}  (hI : pm_I B n r) : ∀ nx M, (pw_W z kA kE (B, r, hs, u) ar) nx M → pm_C l z D kA kE yL_coalitions cL_coalitions 10 (some .boolean) 60 43733 262387 [.ref (z + 0)] nx M (pw_P (some (.int 1)) (fun nx M => ∃ hs', pw_W z kA kE (B + 693, r, hs', u) ar nx M)) := by
  refine pw_mk (own := RL) (nm := "coalitions") mt_L_coalitions rfl rfl rfl rfl fun X B9 => ?_
  have h7 : n ≤ 7 := hI.1.2.1
  have h128 : 2 ^ n ≤ 128 := pm_p7 h7
  refine pw_l (fun _ _ _ _ k => pm_loc (L' := [some (.ref (z + 0)), none, none, none, none, none, none, none, none, none]) rfl k) ?_
  refine pw_l (fun _ _ _ _ k => pm_aload_n B9 dL_coalitions_0 rfl k) ?_
  refine pw_cS (As := [.ref (z + 0)]) (c2 := (43733 - (32) + 0)) (s2 := (262387 - (192) + 0)) B9 (c_L_activeSet hI) mt_L_activeSet ss_L_180 dL_coalitions_1 rfl rfl rfl (by omega) (by omega) ?_
  refine pw_l (fun _ _ _ _ k => pm_stk (st' := [.int (w_L_activeSet_1 r 0 n)]) rfl k) ?_
  refine pw_l (fun _ _ _ _ k => pm_istore_n B9 dL_coalitions_4 rfl rfl k) ?_
  refine pw_l (fun _ _ _ _ k => pm_loc (L' := [some (.ref (z + 0)), some (.int (w_L_activeSet_1 r 0 n)), none, none, none, none, none, none, none, none]) rfl k) ?_
  refine pw_l (fun _ _ _ _ k => pm_aload_n B9 dL_coalitions_5 rfl k) ?_
  refine pw_l (fun _ _ _ _ k => pm_iload_n B9 dL_coalitions_6 rfl k) ?_
  refine pw_cS (As := [.ref (z + 0), .int (w_L_activeSet_1 r 0 n)]) (c2 := (43733 - (64) + 0)) (s2 := (262387 - (384) + 0)) B9 (c_L_votesOf (x := (w_L_activeSet_1 r 0 n)) hI) mt_L_votesOf ss_L_287 dL_coalitions_7 rfl rfl rfl (by omega) (by omega) ?_
  refine pw_l (fun _ _ _ _ k => pm_stk (st' := [.int (w_L_votesOf_1 r (w_L_activeSet_1 r 0 n) 0 n)]) rfl k) ?_
  refine pw_l (fun _ _ _ _ k => pm_istore_n B9 dL_coalitions_10 rfl rfl k) ?_
  refine pw_l (fun _ _ _ _ k => pm_loc (L' := [some (.ref (z + 0)), some (.int (w_L_activeSet_1 r 0 n)), some (.int (w_L_votesOf_1 r (w_L_activeSet_1 r 0 n) 0 n)), none, none, none, none, none, none, none]) rfl k) ?_
  refine pw_l (fun _ _ _ _ k => pm_iconst (v := 0) B9 dL_coalitions_11 (by decide) k) ?_
  refine pw_l (fun _ _ _ _ k => pm_istore_n B9 dL_coalitions_12 rfl rfl k) ?_
  refine pw_l (fun _ _ _ _ k => pm_loc (L' := [some (.ref (z + 0)), some (.int (w_L_activeSet_1 r 0 n)), some (.int (w_L_votesOf_1 r (w_L_activeSet_1 r 0 n) 0 n)), some (.int 0), none, none, none, none, none, none]) rfl k) ?_
  refine pw_l (fun _ _ _ _ k => pm_iload_n B9 dL_coalitions_13 rfl k) ?_
  refine pw_l (fun _ _ _ _ k => pm_istore B9 dL_coalitions_14 rfl rfl k) ?_
  refine pw_l (fun _ _ _ _ k => pm_loc (L' := [some (.ref (z + 0)), some (.int (w_L_activeSet_1 r 0 n)), some (.int (w_L_votesOf_1 r (w_L_activeSet_1 r 0 n) 0 n)), some (.int 0), some (.int (w_L_votesOf_1 r (w_L_activeSet_1 r 0 n) 0 n)), none, none, none, none, none]) rfl k) ?_
  refine pw_l (fun _ _ _ _ k => pm_bipush (v := 7) B9 dL_coalitions_16 (by decide) k) ?_
  refine pw_newi (c2 := (43733 - (65) + 0)) (s2 := (262387 - (391) + 0)) (N := 7) B9 dL_coalitions_18 rfl rfl (by omega) (by omega) (fun w1 hw1 => ?_)
  refine pw_l (fun _ _ _ _ k => pm_astore B9 dL_coalitions_20 rfl rfl k) ?_
  refine pw_l (fun _ _ _ _ k => pm_loc (L' := [some (.ref (z + 0)), some (.int (w_L_activeSet_1 r 0 n)), some (.int (w_L_votesOf_1 r (w_L_activeSet_1 r 0 n) 0 n)), some (.int 0), some (.int (w_L_votesOf_1 r (w_L_activeSet_1 r 0 n) 0 n)), some (.ref (z + w1)), none, none, none, none]) rfl k) ?_
  refine pw_l (fun _ _ _ _ k => pm_aload_n B9 dL_coalitions_22 rfl k) ?_
  refine pw_cS (As := [.ref (z + 0)]) (c2 := (43733 - (71) + 0)) (s2 := (262387 - (415) + 0)) B9 (c_L_thresholdOf hI) mt_L_thresholdOf ss_L_290 dL_coalitions_23 rfl rfl rfl (by omega) (by omega) ?_
  refine pw_l (fun _ _ _ _ k => pm_stk (st' := [.int (r 3)]) rfl k) ?_
  refine pw_ex fun hs2 => ?_
  have hI := pm_I_le (C := B + 693) (by omega) hI
  refine pw_l (fun _ _ _ _ k => pm_istore B9 dL_coalitions_26 rfl rfl k) ?_
  refine pw_l (fun _ _ _ _ k => pm_loc (L' := [some (.ref (z + 0)), some (.int (w_L_activeSet_1 r 0 n)), some (.int (w_L_votesOf_1 r (w_L_activeSet_1 r 0 n) 0 n)), some (.int 0), some (.int (w_L_votesOf_1 r (w_L_activeSet_1 r 0 n) 0 n)), some (.ref (z + w1)), some (.int (r 3)), none, none, none]) rfl k) ?_
  refine pw_l (fun _ _ _ _ k => pm_iconst (v := 0) B9 dL_coalitions_28 (by decide) k) ?_
  refine pw_l (fun _ _ _ _ k => pm_istore B9 dL_coalitions_29 rfl rfl k) ?_
  refine pw_l (fun _ _ _ _ k => pm_loc (L' := [some (.ref (z + 0)), some (.int (w_L_activeSet_1 r 0 n)), some (.int (w_L_votesOf_1 r (w_L_activeSet_1 r 0 n) 0 n)), some (.int 0), some (.int (w_L_votesOf_1 r (w_L_activeSet_1 r 0 n) 0 n)), some (.ref (z + w1)), some (.int (r 3)), some (.int 0), none, none]) rfl k) ?_
  refine pw_l (fun _ _ _ _ k => pm_loc (L' := [some (.ref (z + 0)), some (.int (w_L_activeSet_1 r 0 n)), some (.int (w_L_votesOf_1 r (w_L_activeSet_1 r 0 n) 0 n)), some (.int 0), some (.int (w_L_votesOf_1 r (w_L_activeSet_1 r 0 n) 0 n)), some (.ref (z + w1)), some (.int (r 3)), some (.int (nI 0)), none, none]) (congrArg (fun yy : Int32 => ([some (.ref (z + 0)), some (.int (w_L_activeSet_1 r 0 n)), some (.int (w_L_votesOf_1 r (w_L_activeSet_1 r 0 n) 0 n)), some (.int 0), some (.int (w_L_votesOf_1 r (w_L_activeSet_1 r 0 n) 0 n)), some (.ref (z + w1)), some (.int (r 3)), some (.int yy), none, none] : List (Option Value))) rfl) k) ?_
  have hx1 : pw_J l z D X 43733 262387 (pm_Q z D (pw_P (some (.int 1)) (fun nx M => ∃ hs', pw_W z kA kE (B + 693, r, hs', u) ar nx M)) 43733 262387 X) (pw_W z kA kE (B + 693, r, hs2, u) ((w1, .inl (kA 0, 7, .inl ((w_L_coalitions_1 n r 0 (w_L_votesOf_1 r (w_L_activeSet_1 r 0 n) 0 n) (fun _ => 0) (2 ^ n)).2.2))) :: ar)) (43733 - (71 + 129 * 338) + 0) (262387 - (415 + 129 * 2028) + 0) 173 [some (.ref (z + 0)), some (.int (w_L_activeSet_1 r 0 n)), none, some (.int (w_L_coalitions_1 n r 0 (w_L_votesOf_1 r (w_L_activeSet_1 r 0 n) 0 n) (fun _ => 0) (2 ^ n)).1), some (.int (w_L_coalitions_1 n r 0 (w_L_votesOf_1 r (w_L_activeSet_1 r 0 n) 0 n) (fun _ => 0) (2 ^ n)).2.1), some (.ref (z + w1)), none, none, none, none] [] := by
    refine pw_l (fun _ _ _ _ k => pm_iconst (v := 0) B9 dL_coalitions_173 (by decide) k) ?_
    refine pw_l (fun _ _ _ _ k => pm_istore B9 dL_coalitions_174 rfl rfl k) ?_
    refine pw_l (fun _ _ _ _ k => pm_loc (L' := [some (.ref (z + 0)), some (.int (w_L_activeSet_1 r 0 n)), none, some (.int (w_L_coalitions_1 n r 0 (w_L_votesOf_1 r (w_L_activeSet_1 r 0 n) 0 n) (fun _ => 0) (2 ^ n)).1), some (.int (w_L_coalitions_1 n r 0 (w_L_votesOf_1 r (w_L_activeSet_1 r 0 n) 0 n) (fun _ => 0) (2 ^ n)).2.1), some (.ref (z + w1)), none, some (.int 0), none, none]) rfl k) ?_
    refine pw_l (fun _ _ _ _ k => pm_loc (L' := [some (.ref (z + 0)), some (.int (w_L_activeSet_1 r 0 n)), none, some (.int (w_L_coalitions_1 n r 0 (w_L_votesOf_1 r (w_L_activeSet_1 r 0 n) 0 n) (fun _ => 0) (2 ^ n)).1), some (.int (w_L_coalitions_1 n r 0 (w_L_votesOf_1 r (w_L_activeSet_1 r 0 n) 0 n) (fun _ => 0) (2 ^ n)).2.1), some (.ref (z + w1)), none, some (.int (nI 0)), none, none]) (congrArg (fun yy : Int32 => ([some (.ref (z + 0)), some (.int (w_L_activeSet_1 r 0 n)), none, some (.int (w_L_coalitions_1 n r 0 (w_L_votesOf_1 r (w_L_activeSet_1 r 0 n) 0 n) (fun _ => 0) (2 ^ n)).1), some (.int (w_L_coalitions_1 n r 0 (w_L_votesOf_1 r (w_L_activeSet_1 r 0 n) 0 n) (fun _ => 0) (2 ^ n)).2.1), some (.ref (z + w1)), none, some (.int yy), none, none] : List (Option Value))) rfl) k) ?_
    have hx2 : pw_J l z D X 43733 262387 (pm_Q z D (pw_P (some (.int 1)) (fun nx M => ∃ hs', pw_W z kA kE (B + 693, r, hs', u) ar nx M)) 43733 262387 X) (pw_W z kA kE (B + 693, r, hs2, u) ((w1, .inl (kA 0, 7, .inl ((w_L_coalitions_1 n r 0 (w_L_votesOf_1 r (w_L_activeSet_1 r 0 n) 0 n) (fun _ => 0) (2 ^ n)).2.2))) :: ar)) (43733 - (71 + 129 * 338 + 8 * 6) + 0) (262387 - (415 + 129 * 2028 + 8 * 36) + 0) 237 [some (.ref (z + 0)), none, none, some (.int (w_L_coalitions_1 n r 0 (w_L_votesOf_1 r (w_L_activeSet_1 r 0 n) 0 n) (fun _ => 0) (2 ^ n)).1), some (.int (w_L_coalitions_1 n r 0 (w_L_votesOf_1 r (w_L_activeSet_1 r 0 n) 0 n) (fun _ => 0) (2 ^ n)).2.1), none, none, none, none, none] [] := by
      refine pw_l (fun _ _ _ _ k => pm_aload_n B9 dL_coalitions_237 rfl k) ?_
      refine pw_cV (As := []) (c2 := (43733 - (73 + 129 * 338 + 8 * 6) + 0)) (s2 := (262387 - (427 + 129 * 2028 + 8 * 36) + 0)) B9 (fun _ _ hW => pw_0 hW) rfl (a_X12_winningCoalitions hI) mt_X12_winningCoalitions sv_L_301 dL_coalitions_238 rfl rfl rfl (by omega) (by omega) ?_
      refine pw_l (fun _ _ _ _ k => pm_stk (st' := [.int (d_X11_winners n r)]) rfl k) ?_
      refine pw_l (fun _ _ _ _ k => pm_iload_n B9 dL_coalitions_241 rfl k) ?_
      refine pw_l (fun _ _ _ _ k => pm_icmp_ne (tgt := 290) B9 dL_coalitions_242 (by decide) (fun h => absurd ((pw_co2 hI)) h) (fun _ => k)) ?_
      refine pw_l (fun _ _ _ _ k => pm_aload_n B9 dL_coalitions_245 rfl k) ?_
      refine pw_cV (As := []) (c2 := (43733 - (75 + 129 * 338 + 8 * 6) + 0)) (s2 := (262387 - (439 + 129 * 2028 + 8 * 36) + 0)) B9 (fun _ _ hW => pw_0 hW) rfl (a_X12_leastDifference hI) mt_X12_leastDifference sv_L_304 dL_coalitions_246 rfl rfl rfl (by omega) (by omega) ?_
      refine pw_l (fun _ _ _ _ k => pm_stk (st' := [.int (d_X11_differenceBySets n r)]) rfl k) ?_
      refine pw_l (fun _ _ _ _ k => pm_iload B9 dL_coalitions_249 rfl k) ?_
      refine pw_l (fun _ _ _ _ k => pm_icmp_ne (tgt := 290) B9 dL_coalitions_251 (by decide) (fun h => absurd ((pw_co3 hI)) h) (fun _ => k)) ?_
      refine pw_l (fun _ _ _ _ k => pm_aload_n B9 dL_coalitions_254 rfl k) ?_
      refine pw_cV (As := []) (c2 := (43733 - (77 + 129 * 338 + 8 * 6) + 0)) (s2 := (262387 - (451 + 129 * 2028 + 8 * 36) + 0)) B9 (fun _ _ hW => pw_0 hW) rfl (a_X12_leastDifferenceBySums hI) mt_X12_leastDifferenceBySums sv_L_307 dL_coalitions_255 rfl rfl rfl (by omega) (by omega) ?_
      refine pw_l (fun _ _ _ _ k => pm_stk (st' := [.int (d_X11_differenceBySets n r)]) rfl k) ?_
      refine pw_l (fun _ _ _ _ k => pm_iload B9 dL_coalitions_258 rfl k) ?_
      refine pw_l (fun _ _ _ _ k => pm_icmp_ne (tgt := 290) B9 dL_coalitions_260 (by decide) (fun h => absurd ((pw_co3 hI)) h) (fun _ => k)) ?_
      refine pw_l (fun _ _ _ _ k => pm_aload_n B9 dL_coalitions_263 rfl k) ?_
      refine pw_l (fun _ _ _ _ k => pm_aload_n B9 dL_coalitions_264 rfl k) ?_
      refine pw_cV (As := []) (c2 := (43733 - (79 + 129 * 338 + 8 * 6) + 0)) (s2 := (262387 - (463 + 129 * 2028 + 8 * 36) + 0)) B9 (fun _ _ hW => pw_0 hW) rfl (a_X12_memberCount hI) mt_X12_memberCount sv_L_177 dL_coalitions_265 rfl rfl rfl (by omega) (by omega) ?_
      refine pw_l (fun _ _ _ _ k => pm_stk (st' := [.int (nI n), .ref (z + 0)]) rfl k) ?_
      refine pw_cSW (As := [.ref (z + 0), .int (nI n)]) (c2 := (43733 - (81 + 129 * 338 + 8 * 6) + 0)) (s2 := (262387 - (475 + 129 * 2028 + 8 * 36) + 0)) B9 (pv_as (pv_L_swings_n hI.1.2.1) (b_L_swings hI)) mt_L_swings ss_L_296 dL_coalitions_268 rfl rfl rfl (by omega) (by omega) ?_
      refine pw_l (fun _ _ _ _ k => pm_stk (st' := [.int (-11)]) rfl k) ?_
      refine pw_l (fun _ _ _ _ k => pm_bipush (v := (-11)) B9 dL_coalitions_271 (by decide) k) ?_
      refine pw_l (fun _ _ _ _ k => pm_icmp_ne (tgt := 290) B9 dL_coalitions_273 (by decide) (fun h => absurd (by decide) h) (fun _ => k)) ?_
      refine pw_l (fun _ _ _ _ k => pm_aload_n B9 dL_coalitions_276 rfl k) ?_
      refine pw_l (fun _ _ _ _ k => pm_iconst (v := (-1)) B9 dL_coalitions_277 (by decide) k) ?_
      refine pw_cSW (As := [.ref (z + 0), .int (-1)]) (c2 := (43733 - (83 + 129 * 338 + 8 * 6) + 0)) (s2 := (262387 - (487 + 129 * 2028 + 8 * 36) + 0)) B9 (pv_as pv_L_byCounts_z (b_L_byCounts hI)) mt_L_byCounts ss_L_298 dL_coalitions_278 rfl rfl rfl (by omega) (by omega) ?_
      refine pw_l (fun _ _ _ _ k => pm_stk (st' := [.int (-11)]) rfl k) ?_
      refine pw_l (fun _ _ _ _ k => pm_bipush (v := (-11)) B9 dL_coalitions_281 (by decide) k) ?_
      refine pw_l (fun _ _ _ _ k => pm_icmp_ne (tgt := 290) B9 dL_coalitions_283 (by decide) (fun h => absurd (by decide) h) (fun _ => k)) ?_
      refine pw_l (fun _ _ _ _ k => pm_iconst (v := 1) B9 dL_coalitions_286 (by decide) k) ?_
      refine pw_l (fun _ _ _ _ k => pm_goto (tgt := 291) B9 dL_coalitions_287 (by decide) k) ?_
      exact fun cu su nx M h1 h2 hW => pm_ireturn B9 dL_coalitions_291 rfl (rfl) ⟨rfl, _, pw_drop hW (List.sublist_cons_self _ _)⟩ (Nat.ble_eq_true_of_le (by omega)) (Nat.ble_eq_true_of_le (by omega))
    have loop2 : ∀ k2 j2 : Nat, j2 + k2 = n → pw_J l z D X 43733 262387 (pm_Q z D (pw_P (some (.int 1)) (fun nx M => ∃ hs', pw_W z kA kE (B + 693, r, hs', u) ar nx M)) 43733 262387 X) (pw_W z kA kE (B + 693, r, hs2, u) ((w1, .inl (kA 0, 7, .inl ((w_L_coalitions_1 n r 0 (w_L_votesOf_1 r (w_L_activeSet_1 r 0 n) 0 n) (fun _ => 0) (2 ^ n)).2.2))) :: ar)) (k2 * 6 + (6 + (43733 - (71 + 129 * 338 + 8 * 6) + 0))) (k2 * 36 + (36 + (262387 - (415 + 129 * 2028 + 8 * 36) + 0))) 176 [some (.ref (z + 0)), some (.int (w_L_activeSet_1 r 0 n)), none, some (.int (w_L_coalitions_1 n r 0 (w_L_votesOf_1 r (w_L_activeSet_1 r 0 n) 0 n) (fun _ => 0) (2 ^ n)).1), some (.int (w_L_coalitions_1 n r 0 (w_L_votesOf_1 r (w_L_activeSet_1 r 0 n) 0 n) (fun _ => 0) (2 ^ n)).2.1), some (.ref (z + w1)), none, some (.int (nI j2)), none, none] [] := by
      intro k2
      induction k2 with
      | zero =>
        intro j2 hj2
        have hjn2 : j2 = n := by omega
        refine pw_cr (c2 := (6 - (0) + (43733 - (71 + 129 * 338 + 8 * 6) + 0))) (s2 := (36 - (0) + (262387 - (415 + 129 * 2028 + 8 * 36) + 0))) (by omega) (by omega) ?_
        refine pw_l (fun _ _ _ _ k => pm_iload B9 dL_coalitions_176 rfl k) ?_
        refine pw_l (fun _ _ _ _ k => pm_aload_n B9 dL_coalitions_178 rfl k) ?_
        refine pw_cV (As := []) (c2 := (6 - (2) + (43733 - (71 + 129 * 338 + 8 * 6) + 0))) (s2 := (36 - (12) + (262387 - (415 + 129 * 2028 + 8 * 36) + 0))) B9 (fun _ _ hW => pw_0 hW) rfl (a_X12_memberCount hI) mt_X12_memberCount sv_L_177 dL_coalitions_179 rfl rfl rfl (by omega) (by omega) ?_
        refine pw_l (fun _ _ _ _ k => pm_stk (st' := [.int (nI n), .int (nI j2)]) rfl k) ?_
        refine pw_l (fun _ _ _ _ k => pm_icmp_ge (tgt := 237) B9 dL_coalitions_182 (by decide) (fun _ => k) (fun h => absurd ((by rw [show (nI n) = nI n from rfl, show (nI j2) = nI j2 from rfl]; exact (nI_leI (by omega) (by omega)).mpr (by omega))) h)) ?_
        refine pw_l (fun _ _ _ _ k => pm_wk (L' := [some (.ref (z + 0)), none, none, some (.int (w_L_coalitions_1 n r 0 (w_L_votesOf_1 r (w_L_activeSet_1 r 0 n) 0 n) (fun _ => 0) (2 ^ n)).1), some (.int (w_L_coalitions_1 n r 0 (w_L_votesOf_1 r (w_L_activeSet_1 r 0 n) 0 n) (fun _ => 0) (2 ^ n)).2.1), none, none, none, none, none]) ⟨rfl, ⟨rfl, ⟨rfl, trivial⟩⟩⟩ k) ?_
        exact pw_cr (by omega) (by omega) hx2
      | succ k2 ih2 =>
        intro j2 hj2
        have hjn2 : j2 < n := by omega
        refine pw_cr (c2 := (6 - (0) + (k2 * 6 + (6 + (43733 - (71 + 129 * 338 + 8 * 6) + 0))))) (s2 := (36 - (0) + (k2 * 36 + (36 + (262387 - (415 + 129 * 2028 + 8 * 36) + 0))))) (by rw [Nat.succ_mul]; omega) (by rw [Nat.succ_mul]; omega) ?_
        refine pw_l (fun _ _ _ _ k => pm_iload B9 dL_coalitions_176 rfl k) ?_
        refine pw_l (fun _ _ _ _ k => pm_aload_n B9 dL_coalitions_178 rfl k) ?_
        refine pw_cV (As := []) (c2 := (6 - (2) + (k2 * 6 + (6 + (43733 - (71 + 129 * 338 + 8 * 6) + 0))))) (s2 := (36 - (12) + (k2 * 36 + (36 + (262387 - (415 + 129 * 2028 + 8 * 36) + 0))))) B9 (fun _ _ hW => pw_0 hW) rfl (a_X12_memberCount hI) mt_X12_memberCount sv_L_177 dL_coalitions_179 rfl rfl rfl (by omega) (by omega) ?_
        refine pw_l (fun _ _ _ _ k => pm_stk (st' := [.int (nI n), .int (nI j2)]) rfl k) ?_
        refine pw_l (fun _ _ _ _ k => pm_icmp_ge (tgt := 237) B9 dL_coalitions_182 (by decide) (fun h => absurd h ((by rw [show (nI n) = nI n from rfl, show (nI j2) = nI j2 from rfl]; exact fun e => absurd ((nI_leI (by omega) (by omega)).mp e) (by omega)))) (fun _ => k)) ?_
        refine pw_l (fun _ _ _ _ k => pm_iload_n B9 dL_coalitions_185 rfl k) ?_
        refine pw_l (fun _ _ _ _ k => pm_iload B9 dL_coalitions_186 rfl k) ?_
        refine pw_l (fun _ _ _ _ k => pm_ishr B9 dL_coalitions_188 k) ?_
        refine pw_l (fun _ _ _ _ k => pm_iconst (v := 1) B9 dL_coalitions_189 (by decide) k) ?_
        refine pw_l (fun _ _ _ _ k => pm_iand B9 dL_coalitions_190 k) ?_
        refine pw_l (fun _ _ _ _ k => pm_iconst (v := 1) B9 dL_coalitions_191 (by decide) k) ?_
        suffices hj9 : pw_J l z D X 43733 262387 (pm_Q z D (pw_P (some (.int 1)) (fun nx M => ∃ hs', pw_W z kA kE (B + 693, r, hs', u) ar nx M)) 43733 262387 X) (pw_W z kA kE (B + 693, r, hs2, u) ((w1, .inl (kA 0, 7, .inl ((w_L_coalitions_1 n r 0 (w_L_votesOf_1 r (w_L_activeSet_1 r 0 n) 0 n) (fun _ => 0) (2 ^ n)).2.2))) :: ar)) (6 - (2) + (k2 * 6 + (6 + (43733 - (71 + 129 * 338 + 8 * 6) + 0)))) (36 - (12) + (k2 * 36 + (36 + (262387 - (415 + 129 * 2028 + 8 * 36) + 0)))) 205 [some (.ref (z + 0)), some (.int (w_L_activeSet_1 r 0 n)), none, some (.int (w_L_coalitions_1 n r 0 (w_L_votesOf_1 r (w_L_activeSet_1 r 0 n) 0 n) (fun _ => 0) (2 ^ n)).1), some (.int (w_L_coalitions_1 n r 0 (w_L_votesOf_1 r (w_L_activeSet_1 r 0 n) 0 n) (fun _ => 0) (2 ^ n)).2.1), some (.ref (z + w1)), none, some (.int (nI j2)), none, none] [.int ((if (((w_L_activeSet_1 r 0 n) >>> ((nI j2) &&& 31)) &&& 1) = 1 then ((w_L_coalitions_1 n r 0 (w_L_votesOf_1 r (w_L_activeSet_1 r 0 n) 0 n) (fun _ => 0) (2 ^ n)).2.2 j2) else (-13)) : Int32)] by
          refine pw_l2 (fun _ _ _ _ k1 k2 => pm_icmp_ne (tgt := 203) B9 dL_coalitions_192 (by decide) k1 k2) (fun hq10 => ?_) (fun hq10 => ?_)
          · refine pw_l (fun _ _ _ _ k => pm_bipush (v := (-13)) B9 dL_coalitions_203 (by decide) k) ?_
            exact pw_cr (by omega) (by omega) (pw_eq (by first | with_reducible rfl | ((try rw [if_neg hq10]); done) | simp only [if_neg hq10]) (by first | with_reducible rfl | ((try rw [if_neg hq10]); done) | simp only [if_neg hq10]) (by first | with_reducible rfl | ((try rw [if_neg hq10]); done) | simp only [if_neg hq10]) hj9)
          · refine pw_l (fun _ _ _ _ k => pm_aload B9 dL_coalitions_195 rfl k) ?_
            refine pw_l (fun _ _ _ _ k => pm_iload B9 dL_coalitions_197 rfl k) ?_
            refine pw_lw (fun _ _ _ _ hW k => pm_iald_n B9 dL_coalitions_199 (pw_at hW 0 rfl) j2 (by first | assumption | omega) (by decide) k) ?_
            refine pw_l (fun _ _ _ _ k => pm_goto (tgt := 205) B9 dL_coalitions_200 (by decide) k) ?_
            exact pw_cr (by omega) (by omega) (pw_eq (by first | with_reducible rfl | ((try rw [if_pos hq10]); done) | simp only [if_pos hq10]) (by first | with_reducible rfl | ((try rw [if_pos hq10]); done) | simp only [if_pos hq10]) (by first | with_reducible rfl | ((try rw [if_pos hq10]); done) | simp only [if_pos hq10]) hj9)
        refine pw_l (fun _ _ _ _ k => pm_istore B9 dL_coalitions_205 rfl rfl k) ?_
        refine pw_l (fun _ _ _ _ k => pm_loc (L' := [some (.ref (z + 0)), some (.int (w_L_activeSet_1 r 0 n)), none, some (.int (w_L_coalitions_1 n r 0 (w_L_votesOf_1 r (w_L_activeSet_1 r 0 n) 0 n) (fun _ => 0) (2 ^ n)).1), some (.int (w_L_coalitions_1 n r 0 (w_L_votesOf_1 r (w_L_activeSet_1 r 0 n) 0 n) (fun _ => 0) (2 ^ n)).2.1), some (.ref (z + w1)), none, some (.int (nI j2)), some (.int ((if (((w_L_activeSet_1 r 0 n) >>> ((nI j2) &&& 31)) &&& 1) = 1 then ((w_L_coalitions_1 n r 0 (w_L_votesOf_1 r (w_L_activeSet_1 r 0 n) 0 n) (fun _ => 0) (2 ^ n)).2.2 j2) else (-13)) : Int32)), none]) rfl k) ?_
        refine pw_l (fun _ _ _ _ k => pm_aload_n B9 dL_coalitions_207 rfl k) ?_
        refine pw_l (fun _ _ _ _ k => pm_iload B9 dL_coalitions_208 rfl k) ?_
        refine pw_cSW (As := [.ref (z + 0), .int (nI j2)]) (c2 := (6 - (4) + (k2 * 6 + (6 + (43733 - (71 + 129 * 338 + 8 * 6) + 0))))) (s2 := (36 - (24) + (k2 * 36 + (36 + (262387 - (415 + 129 * 2028 + 8 * 36) + 0))))) B9 (pv_as (pv_L_swings_in (i := j2) (by omega) hI.1.2.1) (b_L_swings hI)) mt_L_swings ss_L_296 dL_coalitions_210 rfl rfl rfl (by omega) (by omega) ?_
        refine pw_l (fun _ _ _ _ k => pm_stk (st' := [.int (pw_sw n r j2)]) rfl k) ?_
        refine pw_l (fun _ _ _ _ k => pm_iload B9 dL_coalitions_213 rfl k) ?_
        refine pw_l (fun _ _ _ _ k => pm_icmp_ne (tgt := 229) B9 dL_coalitions_215 (by decide) (fun h => absurd ((pw_co1 hI (by omega))) h) (fun _ => k)) ?_
        refine pw_l (fun _ _ _ _ k => pm_aload_n B9 dL_coalitions_218 rfl k) ?_
        refine pw_l (fun _ _ _ _ k => pm_iload B9 dL_coalitions_219 rfl k) ?_
        refine pw_cSW (As := [.ref (z + 0), .int (nI j2)]) (c2 := (6 - (6) + (k2 * 6 + (6 + (43733 - (71 + 129 * 338 + 8 * 6) + 0))))) (s2 := (36 - (36) + (k2 * 36 + (36 + (262387 - (415 + 129 * 2028 + 8 * 36) + 0))))) B9 (pv_as (pv_L_byCounts_in (i := j2) (by omega) hI.1.2.1) (b_L_byCounts hI)) mt_L_byCounts ss_L_298 dL_coalitions_221 rfl rfl rfl (by omega) (by omega) ?_
        refine pw_l (fun _ _ _ _ k => pm_stk (st' := [.int (pw_sw n r j2)]) rfl k) ?_
        refine pw_l (fun _ _ _ _ k => pm_iload B9 dL_coalitions_224 rfl k) ?_
        refine pw_l (fun _ _ _ _ k => pm_icmp_eq (tgt := 231) B9 dL_coalitions_226 (by decide) (fun _ => k) (fun h => absurd ((pw_co1 hI (by omega))) h)) ?_
        refine pw_l (fun _ _ _ _ k => pm_iinc B9 dL_coalitions_231 rfl rfl rfl k) ?_
        refine pw_l (fun _ _ _ _ k => pm_loc (L' := [some (.ref (z + 0)), some (.int (w_L_activeSet_1 r 0 n)), none, some (.int (w_L_coalitions_1 n r 0 (w_L_votesOf_1 r (w_L_activeSet_1 r 0 n) 0 n) (fun _ => 0) (2 ^ n)).1), some (.int (w_L_coalitions_1 n r 0 (w_L_votesOf_1 r (w_L_activeSet_1 r 0 n) 0 n) (fun _ => 0) (2 ^ n)).2.1), some (.ref (z + w1)), none, some (.int (nI (j2 + 1))), some (.int ((if (((w_L_activeSet_1 r 0 n) >>> ((nI j2) &&& 31)) &&& 1) = 1 then ((w_L_coalitions_1 n r 0 (w_L_votesOf_1 r (w_L_activeSet_1 r 0 n) 0 n) (fun _ => 0) (2 ^ n)).2.2 j2) else (-13)) : Int32)), none]) (by rw [show ((nI j2) : Int32) + Int32.ofInt 1 = (nI (j2 + 1)) from nI_1 _]; rfl) k) ?_
        refine pw_l (fun _ _ _ _ k => pm_goto (tgt := 176) B9 dL_coalitions_234 (by decide) k) ?_
        refine pw_l (fun _ _ _ _ k => pm_wk (L' := [some (.ref (z + 0)), some (.int (w_L_activeSet_1 r 0 n)), none, some (.int (w_L_coalitions_1 n r 0 (w_L_votesOf_1 r (w_L_activeSet_1 r 0 n) 0 n) (fun _ => 0) (2 ^ n)).1), some (.int (w_L_coalitions_1 n r 0 (w_L_votesOf_1 r (w_L_activeSet_1 r 0 n) 0 n) (fun _ => 0) (2 ^ n)).2.1), some (.ref (z + w1)), none, some (.int (nI (j2 + 1))), none, none]) ⟨rfl, ⟨rfl, ⟨rfl, ⟨rfl, ⟨rfl, ⟨rfl, trivial⟩⟩⟩⟩⟩⟩ k) ?_
        exact pw_cr (by omega) (by omega) (ih2 (j2 + 1) (by omega))
    exact pw_cr (by omega) (by omega) (loop2 n 0 (by omega))
  have loop1 : ∀ k1 j1 : Nat, j1 + k1 = (2 ^ n) → ∀ (a3_1 : Int32), a3_1 = (w_L_coalitions_1 n r 0 (w_L_votesOf_1 r (w_L_activeSet_1 r 0 n) 0 n) (fun _ => 0) j1).1 → ∀ (a4_1 : Int32), a4_1 = (w_L_coalitions_1 n r 0 (w_L_votesOf_1 r (w_L_activeSet_1 r 0 n) 0 n) (fun _ => 0) j1).2.1 → ∀ (q0_1 : (Nat → Int32)), q0_1 = (w_L_coalitions_1 n r 0 (w_L_votesOf_1 r (w_L_activeSet_1 r 0 n) 0 n) (fun _ => 0) j1).2.2 → pw_J l z D X 43733 262387 (pm_Q z D (pw_P (some (.int 1)) (fun nx M => ∃ hs', pw_W z kA kE (B + 693, r, hs', u) ar nx M)) 43733 262387 X) (pw_W z kA kE (B + 693, r, hs2, u) ((w1, .inl (kA 0, 7, .inl q0_1)) :: ar)) (k1 * 338 + (338 + (43733 - (71 + 129 * 338) + 0))) (k1 * 2028 + (2028 + (262387 - (415 + 129 * 2028) + 0))) 31 [some (.ref (z + 0)), some (.int (w_L_activeSet_1 r 0 n)), some (.int (w_L_votesOf_1 r (w_L_activeSet_1 r 0 n) 0 n)), some (.int a3_1), some (.int a4_1), some (.ref (z + w1)), some (.int (r 3)), some (.int (nI j1)), none, none] [] := by
    intro k1
    induction k1 with
    | zero =>
      intro j1 hj1 a3_1 ea3_1 a4_1 ea4_1 q0_1 eq0_1
      have hjn1 : j1 = (2 ^ n) := by omega
      refine pw_cr (c2 := (338 - (0) + (43733 - (71 + 129 * 338) + 0))) (s2 := (2028 - (0) + (262387 - (415 + 129 * 2028) + 0))) (by omega) (by omega) ?_
      refine pw_l (fun _ _ _ _ k => pm_iload B9 dL_coalitions_31 rfl k) ?_
      refine pw_l (fun _ _ _ _ k => pm_iconst (v := 1) B9 dL_coalitions_33 (by decide) k) ?_
      refine pw_l (fun _ _ _ _ k => pm_aload_n B9 dL_coalitions_34 rfl k) ?_
      refine pw_cV (As := []) (c2 := (338 - (2) + (43733 - (71 + 129 * 338) + 0))) (s2 := (2028 - (12) + (262387 - (415 + 129 * 2028) + 0))) B9 (fun _ _ hW => pw_0 hW) rfl (a_X12_memberCount hI) mt_X12_memberCount sv_L_177 dL_coalitions_35 rfl rfl rfl (by omega) (by omega) ?_
      refine pw_l (fun _ _ _ _ k => pm_stk (st' := [.int (nI n), .int 1, .int (nI j1)]) rfl k) ?_
      refine pw_l (fun _ _ _ _ k => pm_ishl B9 dL_coalitions_38 k) ?_
      refine pw_l (fun _ _ _ _ k => pm_stk (st' := [.int (nI (2 ^ n)), .int (nI j1)]) (congrArg (fun yy : Int32 => ([.int yy, .int (nI j1)] : List Value)) (show (1 <<< ((nI n) &&& 31)) = (nI (2 ^ n)) from pm_sh1 n h7)) k) ?_
      refine pw_l (fun _ _ _ _ k => pm_icmp_ge (tgt := 173) B9 dL_coalitions_39 (by decide) (fun _ => k) (fun h => absurd ((by rw [show (nI (2 ^ n)) = nI (2 ^ n) from rfl, show (nI j1) = nI j1 from rfl]; exact (nI_leI (by omega) (by omega)).mpr (by omega))) h)) ?_
      refine pw_l (fun _ _ _ _ k => pm_wk (L' := [some (.ref (z + 0)), some (.int (w_L_activeSet_1 r 0 n)), none, some (.int a3_1), some (.int a4_1), some (.ref (z + w1)), none, none, none, none]) ⟨rfl, ⟨rfl, ⟨rfl, ⟨rfl, ⟨rfl, trivial⟩⟩⟩⟩⟩ k) ?_
      exact pw_cr (by omega) (by omega) (pw_eq (by first | with_reducible rfl | simp only [ea3_1, ea4_1, eq0_1, hjn1]) (by first | with_reducible rfl | simp only [ea3_1, ea4_1, eq0_1, hjn1]) rfl hx1)
    | succ k1 ih1 =>
      intro j1 hj1 a3_1 ea3_1 a4_1 ea4_1 q0_1 eq0_1
      have hjn1 : j1 < (2 ^ n) := by omega
      refine pw_cr (c2 := (338 - (0) + (k1 * 338 + (338 + (43733 - (71 + 129 * 338) + 0))))) (s2 := (2028 - (0) + (k1 * 2028 + (2028 + (262387 - (415 + 129 * 2028) + 0))))) (by rw [Nat.succ_mul]; omega) (by rw [Nat.succ_mul]; omega) ?_
      refine pw_l (fun _ _ _ _ k => pm_iload B9 dL_coalitions_31 rfl k) ?_
      refine pw_l (fun _ _ _ _ k => pm_iconst (v := 1) B9 dL_coalitions_33 (by decide) k) ?_
      refine pw_l (fun _ _ _ _ k => pm_aload_n B9 dL_coalitions_34 rfl k) ?_
      refine pw_cV (As := []) (c2 := (338 - (2) + (k1 * 338 + (338 + (43733 - (71 + 129 * 338) + 0))))) (s2 := (2028 - (12) + (k1 * 2028 + (2028 + (262387 - (415 + 129 * 2028) + 0))))) B9 (fun _ _ hW => pw_0 hW) rfl (a_X12_memberCount hI) mt_X12_memberCount sv_L_177 dL_coalitions_35 rfl rfl rfl (by omega) (by omega) ?_
      refine pw_l (fun _ _ _ _ k => pm_stk (st' := [.int (nI n), .int 1, .int (nI j1)]) rfl k) ?_
      refine pw_l (fun _ _ _ _ k => pm_ishl B9 dL_coalitions_38 k) ?_
      refine pw_l (fun _ _ _ _ k => pm_stk (st' := [.int (nI (2 ^ n)), .int (nI j1)]) (congrArg (fun yy : Int32 => ([.int yy, .int (nI j1)] : List Value)) (show (1 <<< ((nI n) &&& 31)) = (nI (2 ^ n)) from pm_sh1 n h7)) k) ?_
      refine pw_l (fun _ _ _ _ k => pm_icmp_ge (tgt := 173) B9 dL_coalitions_39 (by decide) (fun h => absurd h ((by rw [show (nI (2 ^ n)) = nI (2 ^ n) from rfl, show (nI j1) = nI j1 from rfl]; exact fun e => absurd ((nI_leI (by omega) (by omega)).mp e) (by omega)))) (fun _ => k)) ?_
      refine pw_l (fun _ _ _ _ k => pm_iload B9 dL_coalitions_42 rfl k) ?_
      refine pw_l (fun _ _ _ _ k => pm_iload_n B9 dL_coalitions_44 rfl k) ?_
      refine pw_l (fun _ _ _ _ k => pm_iconst (v := (-1)) B9 dL_coalitions_45 (by decide) k) ?_
      refine pw_l (fun _ _ _ _ k => pm_ixor B9 dL_coalitions_46 k) ?_
      refine pw_l (fun _ _ _ _ k => pm_iand B9 dL_coalitions_47 k) ?_
      refine pw_l2 (fun _ _ _ _ k1 k2 => pm_if_ne (tgt := 167) B9 dL_coalitions_48 (by decide) k1 k2) (fun hq15 => ?_) (fun hq15 => ?_)
      · refine pw_l (fun _ _ _ _ k => pm_iinc B9 dL_coalitions_167 rfl rfl rfl k) ?_
        refine pw_l (fun _ _ _ _ k => pm_loc (L' := [some (.ref (z + 0)), some (.int (w_L_activeSet_1 r 0 n)), some (.int (w_L_votesOf_1 r (w_L_activeSet_1 r 0 n) 0 n)), some (.int a3_1), some (.int a4_1), some (.ref (z + w1)), some (.int (r 3)), some (.int (nI (j1 + 1))), none, none]) (by rw [show ((nI j1) : Int32) + Int32.ofInt 1 = (nI (j1 + 1)) from nI_1 _]; rfl) k) ?_
        refine pw_l (fun _ _ _ _ k => pm_goto (tgt := 31) B9 dL_coalitions_170 (by decide) k) ?_
        exact pw_cr (by omega) (by omega) (ih1 (j1 + 1) (by omega) _ (by subst ea3_1; subst ea4_1; subst eq0_1; first | rfl | exact (if_neg hq15).symm | simp only [w_L_coalitions_1, if_neg hq15]) _ (by subst ea3_1; subst ea4_1; subst eq0_1; first | rfl | exact (if_neg hq15).symm | simp only [w_L_coalitions_1, if_neg hq15]) _ (by subst ea3_1; subst ea4_1; subst eq0_1; first | rfl | exact (if_neg hq15).symm | simp only [w_L_coalitions_1, if_neg hq15]))
      · refine pw_l (fun _ _ _ _ k => pm_aload_n B9 dL_coalitions_51 rfl k) ?_
        refine pw_l (fun _ _ _ _ k => pm_iload B9 dL_coalitions_52 rfl k) ?_
        refine pw_cS (As := [.ref (z + 0), .int (nI j1)]) (c2 := (338 - (34) + (k1 * 338 + (338 + (43733 - (71 + 129 * 338) + 0))))) (s2 := (2028 - (204) + (k1 * 2028 + (2028 + (262387 - (415 + 129 * 2028) + 0))))) B9 (c_L_votesOf (x := (nI j1)) hI) mt_L_votesOf ss_L_287 dL_coalitions_54 rfl rfl rfl (by omega) (by omega) ?_
        refine pw_l (fun _ _ _ _ k => pm_stk (st' := [.int (w_L_votesOf_1 r (nI j1) 0 n)]) rfl k) ?_
        refine pw_l (fun _ _ _ _ k => pm_iload B9 dL_coalitions_57 rfl k) ?_
        suffices hj16 : pw_J l z D X 43733 262387 (pm_Q z D (pw_P (some (.int 1)) (fun nx M => ∃ hs', pw_W z kA kE (B + 693, r, hs', u) ar nx M)) 43733 262387 X) (pw_W z kA kE (B + 693, r, hs2, u) ((w1, .inl (kA 0, 7, .inl q0_1)) :: ar)) (338 - (34) + (k1 * 338 + (338 + (43733 - (71 + 129 * 338) + 0)))) (2028 - (204) + (k1 * 2028 + (2028 + (262387 - (415 + 129 * 2028) + 0)))) 67 [some (.ref (z + 0)), some (.int (w_L_activeSet_1 r 0 n)), some (.int (w_L_votesOf_1 r (w_L_activeSet_1 r 0 n) 0 n)), some (.int a3_1), some (.int a4_1), some (.ref (z + w1)), some (.int (r 3)), some (.int (nI j1)), none, none] [.int ((if (w_L_votesOf_1 r (nI j1) 0 n) < (r 3) then 0 else 1) : Int32)] by
          refine pw_l2 (fun _ _ _ _ k1 k2 => pm_icmp_lt (tgt := 66) B9 dL_coalitions_59 (by decide) k1 k2) (fun hq17 => ?_) (fun hq17 => ?_)
          · refine pw_l (fun _ _ _ _ k => pm_iconst (v := 0) B9 dL_coalitions_66 (by decide) k) ?_
            exact pw_cr (by omega) (by omega) (pw_eq (by first | with_reducible rfl | ((try rw [if_pos hq17]); done) | simp only [if_pos hq17]) (by first | with_reducible rfl | ((try rw [if_pos hq17]); done) | simp only [if_pos hq17]) (by first | with_reducible rfl | ((try rw [if_pos hq17]); done) | simp only [if_pos hq17]) hj16)
          · refine pw_l (fun _ _ _ _ k => pm_iconst (v := 1) B9 dL_coalitions_62 (by decide) k) ?_
            refine pw_l (fun _ _ _ _ k => pm_goto (tgt := 67) B9 dL_coalitions_63 (by decide) k) ?_
            exact pw_cr (by omega) (by omega) (pw_eq (by first | with_reducible rfl | ((try rw [if_neg hq17]); done) | simp only [if_neg hq17]) (by first | with_reducible rfl | ((try rw [if_neg hq17]); done) | simp only [if_neg hq17]) (by first | with_reducible rfl | ((try rw [if_neg hq17]); done) | simp only [if_neg hq17]) hj16)
        refine pw_l (fun _ _ _ _ k => pm_istore B9 dL_coalitions_67 rfl rfl k) ?_
        refine pw_l (fun _ _ _ _ k => pm_loc (L' := [some (.ref (z + 0)), some (.int (w_L_activeSet_1 r 0 n)), some (.int (w_L_votesOf_1 r (w_L_activeSet_1 r 0 n) 0 n)), some (.int a3_1), some (.int a4_1), some (.ref (z + w1)), some (.int (r 3)), some (.int (nI j1)), some (.int ((if (w_L_votesOf_1 r (nI j1) 0 n) < (r 3) then 0 else 1) : Int32)), none]) rfl k) ?_
        refine pw_l (fun _ _ _ _ k => pm_iload_n B9 dL_coalitions_69 rfl k) ?_
        refine pw_l (fun _ _ _ _ k => pm_iload B9 dL_coalitions_70 rfl k) ?_
        suffices hj18 : pw_J l z D X 43733 262387 (pm_Q z D (pw_P (some (.int 1)) (fun nx M => ∃ hs', pw_W z kA kE (B + 693, r, hs', u) ar nx M)) 43733 262387 X) (pw_W z kA kE (B + 693, r, hs2, u) ((w1, .inl (kA 0, 7, .inl q0_1)) :: ar)) (338 - (34) + (k1 * 338 + (338 + (43733 - (71 + 129 * 338) + 0)))) (2028 - (204) + (k1 * 2028 + (2028 + (262387 - (415 + 129 * 2028) + 0)))) 80 [some (.ref (z + 0)), some (.int (w_L_activeSet_1 r 0 n)), some (.int (w_L_votesOf_1 r (w_L_activeSet_1 r 0 n) 0 n)), none, some (.int a4_1), some (.ref (z + w1)), some (.int (r 3)), some (.int (nI j1)), some (.int ((if (w_L_votesOf_1 r (nI j1) 0 n) < (r 3) then 0 else 1) : Int32)), none] [.int ((if ((if (w_L_votesOf_1 r (nI j1) 0 n) < (r 3) then 0 else 1) : Int32) = 0 then 0 else 1) : Int32), .int a3_1] by
          refine pw_l2 (fun _ _ _ _ k1 k2 => pm_if_eq (tgt := 79) B9 dL_coalitions_72 (by decide) k1 k2) (fun hq19 => ?_) (fun hq19 => ?_)
          · refine pw_l (fun _ _ _ _ k => pm_iconst (v := 0) B9 dL_coalitions_79 (by decide) k) ?_
            refine pw_l (fun _ _ _ _ k => pm_wk (L' := [some (.ref (z + 0)), some (.int (w_L_activeSet_1 r 0 n)), some (.int (w_L_votesOf_1 r (w_L_activeSet_1 r 0 n) 0 n)), none, some (.int a4_1), some (.ref (z + w1)), some (.int (r 3)), some (.int (nI j1)), some (.int ((if (w_L_votesOf_1 r (nI j1) 0 n) < (r 3) then 0 else 1) : Int32)), none]) ⟨rfl, ⟨rfl, ⟨rfl, ⟨rfl, ⟨rfl, ⟨rfl, ⟨rfl, ⟨rfl, trivial⟩⟩⟩⟩⟩⟩⟩⟩ k) ?_
            exact pw_cr (by omega) (by omega) (pw_eq (by first | with_reducible rfl | ((try rw [if_pos hq19]); done) | simp only [if_pos hq19]) (by first | with_reducible rfl | ((try rw [if_pos hq19]); done) | simp only [if_pos hq19]) (by first | with_reducible rfl | ((try rw [if_pos hq19]); done) | simp only [if_pos hq19]) hj18)
          · refine pw_l (fun _ _ _ _ k => pm_iconst (v := 1) B9 dL_coalitions_75 (by decide) k) ?_
            refine pw_l (fun _ _ _ _ k => pm_goto (tgt := 80) B9 dL_coalitions_76 (by decide) k) ?_
            refine pw_l (fun _ _ _ _ k => pm_wk (L' := [some (.ref (z + 0)), some (.int (w_L_activeSet_1 r 0 n)), some (.int (w_L_votesOf_1 r (w_L_activeSet_1 r 0 n) 0 n)), none, some (.int a4_1), some (.ref (z + w1)), some (.int (r 3)), some (.int (nI j1)), some (.int ((if (w_L_votesOf_1 r (nI j1) 0 n) < (r 3) then 0 else 1) : Int32)), none]) ⟨rfl, ⟨rfl, ⟨rfl, ⟨rfl, ⟨rfl, ⟨rfl, ⟨rfl, ⟨rfl, trivial⟩⟩⟩⟩⟩⟩⟩⟩ k) ?_
            exact pw_cr (by omega) (by omega) (pw_eq (by first | with_reducible rfl | ((try rw [if_neg hq19]); done) | simp only [if_neg hq19]) (by first | with_reducible rfl | ((try rw [if_neg hq19]); done) | simp only [if_neg hq19]) (by first | with_reducible rfl | ((try rw [if_neg hq19]); done) | simp only [if_neg hq19]) hj18)
        refine pw_l (fun _ _ _ _ k => pm_iadd B9 dL_coalitions_80 k) ?_
        refine pw_l (fun _ _ _ _ k => pm_istore_n B9 dL_coalitions_81 rfl rfl k) ?_
        refine pw_l (fun _ _ _ _ k => pm_loc (L' := [some (.ref (z + 0)), some (.int (w_L_activeSet_1 r 0 n)), some (.int (w_L_votesOf_1 r (w_L_activeSet_1 r 0 n) 0 n)), some (.int (a3_1 + ((if ((if (w_L_votesOf_1 r (nI j1) 0 n) < (r 3) then 0 else 1) : Int32) = 0 then 0 else 1) : Int32))), some (.int a4_1), some (.ref (z + w1)), some (.int (r 3)), some (.int (nI j1)), some (.int ((if (w_L_votesOf_1 r (nI j1) 0 n) < (r 3) then 0 else 1) : Int32)), none]) rfl k) ?_
        refine pw_l (fun _ _ _ _ k => pm_iload B9 dL_coalitions_82 rfl k) ?_
        refine pw_l (fun _ _ _ _ k => pm_iload_n B9 dL_coalitions_84 rfl k) ?_
        refine pw_l (fun _ _ _ _ k => pm_iconst (v := 2) B9 dL_coalitions_85 (by decide) k) ?_
        refine pw_l (fun _ _ _ _ k => pm_aload_n B9 dL_coalitions_86 rfl k) ?_
        refine pw_l (fun _ _ _ _ k => pm_iload B9 dL_coalitions_87 rfl k) ?_
        refine pw_cS (As := [.ref (z + 0), .int (nI j1)]) (c2 := (338 - (66) + (k1 * 338 + (338 + (43733 - (71 + 129 * 338) + 0))))) (s2 := (2028 - (396) + (k1 * 2028 + (2028 + (262387 - (415 + 129 * 2028) + 0))))) B9 (c_L_votesOf (x := (nI j1)) hI) mt_L_votesOf ss_L_287 dL_coalitions_89 rfl rfl rfl (by omega) (by omega) ?_
        refine pw_l (fun _ _ _ _ k => pm_stk (st' := [.int (w_L_votesOf_1 r (nI j1) 0 n), .int 2, .int (w_L_votesOf_1 r (w_L_activeSet_1 r 0 n) 0 n), .int a4_1]) rfl k) ?_
        refine pw_l (fun _ _ _ _ k => pm_imul B9 dL_coalitions_92 k) ?_
        refine pw_l (fun _ _ _ _ k => pm_isub B9 dL_coalitions_93 k) ?_
        refine pw_lb (fun _ _ _ _ hc hs k => pm_mabs B9 dL_coalitions_94 (pm_T_in 1065 (by decide +kernel) (by decide +kernel)) rfl rfl (Nat.ble_eq_true_of_le hc) (Nat.ble_eq_true_of_le hs) k) ?_
        refine pw_lb (fun _ _ _ _ hc hs k => pm_mmin B9 dL_coalitions_97 (pm_T_in 999 (by decide +kernel) (by decide +kernel)) rfl rfl (Nat.ble_eq_true_of_le hc) (Nat.ble_eq_true_of_le hs) k) ?_
        refine pw_l (fun _ _ _ _ k => pm_istore B9 dL_coalitions_100 rfl rfl k) ?_
        refine pw_l (fun _ _ _ _ k => pm_loc (L' := [some (.ref (z + 0)), some (.int (w_L_activeSet_1 r 0 n)), some (.int (w_L_votesOf_1 r (w_L_activeSet_1 r 0 n) 0 n)), some (.int (a3_1 + ((if ((if (w_L_votesOf_1 r (nI j1) 0 n) < (r 3) then 0 else 1) : Int32) = 0 then 0 else 1) : Int32))), some (.int (pm_min a4_1 (pm_abs ((w_L_votesOf_1 r (w_L_activeSet_1 r 0 n) 0 n) - (2 * (w_L_votesOf_1 r (nI j1) 0 n)))))), some (.ref (z + w1)), some (.int (r 3)), some (.int (nI j1)), some (.int ((if (w_L_votesOf_1 r (nI j1) 0 n) < (r 3) then 0 else 1) : Int32)), none]) rfl k) ?_
        refine pw_l (fun _ _ _ _ k => pm_iconst (v := 0) B9 dL_coalitions_102 (by decide) k) ?_
        refine pw_l (fun _ _ _ _ k => pm_istore B9 dL_coalitions_103 rfl rfl k) ?_
        refine pw_l (fun _ _ _ _ k => pm_loc (L' := [some (.ref (z + 0)), some (.int (w_L_activeSet_1 r 0 n)), some (.int (w_L_votesOf_1 r (w_L_activeSet_1 r 0 n) 0 n)), some (.int (a3_1 + ((if ((if (w_L_votesOf_1 r (nI j1) 0 n) < (r 3) then 0 else 1) : Int32) = 0 then 0 else 1) : Int32))), some (.int (pm_min a4_1 (pm_abs ((w_L_votesOf_1 r (w_L_activeSet_1 r 0 n) 0 n) - (2 * (w_L_votesOf_1 r (nI j1) 0 n)))))), some (.ref (z + w1)), some (.int (r 3)), some (.int (nI j1)), some (.int ((if (w_L_votesOf_1 r (nI j1) 0 n) < (r 3) then 0 else 1) : Int32)), some (.int 0)]) rfl k) ?_
        refine pw_l (fun _ _ _ _ k => pm_loc (L' := [some (.ref (z + 0)), some (.int (w_L_activeSet_1 r 0 n)), some (.int (w_L_votesOf_1 r (w_L_activeSet_1 r 0 n) 0 n)), some (.int (a3_1 + ((if ((if (w_L_votesOf_1 r (nI j1) 0 n) < (r 3) then 0 else 1) : Int32) = 0 then 0 else 1) : Int32))), some (.int (pm_min a4_1 (pm_abs ((w_L_votesOf_1 r (w_L_activeSet_1 r 0 n) 0 n) - (2 * (w_L_votesOf_1 r (nI j1) 0 n)))))), some (.ref (z + w1)), some (.int (r 3)), some (.int (nI j1)), some (.int ((if (w_L_votesOf_1 r (nI j1) 0 n) < (r 3) then 0 else 1) : Int32)), some (.int (nI 0))]) (congrArg (fun yy : Int32 => ([some (.ref (z + 0)), some (.int (w_L_activeSet_1 r 0 n)), some (.int (w_L_votesOf_1 r (w_L_activeSet_1 r 0 n) 0 n)), some (.int (a3_1 + ((if ((if (w_L_votesOf_1 r (nI j1) 0 n) < (r 3) then 0 else 1) : Int32) = 0 then 0 else 1) : Int32))), some (.int (pm_min a4_1 (pm_abs ((w_L_votesOf_1 r (w_L_activeSet_1 r 0 n) 0 n) - (2 * (w_L_votesOf_1 r (nI j1) 0 n)))))), some (.ref (z + w1)), some (.int (r 3)), some (.int (nI j1)), some (.int ((if (w_L_votesOf_1 r (nI j1) 0 n) < (r 3) then 0 else 1) : Int32)), some (.int yy)] : List (Option Value))) rfl) k) ?_
        have hx3 : pw_J l z D X 43733 262387 (pm_Q z D (pw_P (some (.int 1)) (fun nx M => ∃ hs', pw_W z kA kE (B + 693, r, hs', u) ar nx M)) 43733 262387 X) (pw_W z kA kE (B + 693, r, hs2, u) ((w1, .inl (kA 0, 7, .inl (w_L_coalitions_3 n r j1 q0_1 n))) :: ar)) (338 - (66 + 8 * 34) + (k1 * 338 + (338 + (43733 - (71 + 129 * 338) + 0)))) (2028 - (396 + 8 * 204) + (k1 * 2028 + (2028 + (262387 - (415 + 129 * 2028) + 0)))) 167 [some (.ref (z + 0)), some (.int (w_L_activeSet_1 r 0 n)), some (.int (w_L_votesOf_1 r (w_L_activeSet_1 r 0 n) 0 n)), some (.int (a3_1 + ((if ((if (w_L_votesOf_1 r (nI j1) 0 n) < (r 3) then 0 else 1) : Int32) = 0 then 0 else 1) : Int32))), some (.int (pm_min a4_1 (pm_abs ((w_L_votesOf_1 r (w_L_activeSet_1 r 0 n) 0 n) - (2 * (w_L_votesOf_1 r (nI j1) 0 n)))))), some (.ref (z + w1)), some (.int (r 3)), some (.int (nI j1)), none, none] [] := by
          refine pw_l (fun _ _ _ _ k => pm_iinc B9 dL_coalitions_167 rfl rfl rfl k) ?_
          refine pw_l (fun _ _ _ _ k => pm_loc (L' := [some (.ref (z + 0)), some (.int (w_L_activeSet_1 r 0 n)), some (.int (w_L_votesOf_1 r (w_L_activeSet_1 r 0 n) 0 n)), some (.int (a3_1 + ((if ((if (w_L_votesOf_1 r (nI j1) 0 n) < (r 3) then 0 else 1) : Int32) = 0 then 0 else 1) : Int32))), some (.int (pm_min a4_1 (pm_abs ((w_L_votesOf_1 r (w_L_activeSet_1 r 0 n) 0 n) - (2 * (w_L_votesOf_1 r (nI j1) 0 n)))))), some (.ref (z + w1)), some (.int (r 3)), some (.int (nI (j1 + 1))), none, none]) (by rw [show ((nI j1) : Int32) + Int32.ofInt 1 = (nI (j1 + 1)) from nI_1 _]; rfl) k) ?_
          refine pw_l (fun _ _ _ _ k => pm_goto (tgt := 31) B9 dL_coalitions_170 (by decide) k) ?_
          exact pw_cr (by omega) (by omega) (ih1 (j1 + 1) (by omega) _ (by subst ea3_1; subst ea4_1; subst eq0_1; first | rfl | exact (if_pos hq15).symm | simp only [w_L_coalitions_1, if_pos hq15]) _ (by subst ea3_1; subst ea4_1; subst eq0_1; first | rfl | exact (if_pos hq15).symm | simp only [w_L_coalitions_1, if_pos hq15]) _ (by subst ea3_1; subst ea4_1; subst eq0_1; first | rfl | exact (if_pos hq15).symm | simp only [w_L_coalitions_1, if_pos hq15]))
        have loop3 : ∀ k3 j3 : Nat, j3 + k3 = n → ∀ (q0_3 : (Nat → Int32)), q0_3 = (w_L_coalitions_3 n r j1 q0_1 j3) → pw_J l z D X 43733 262387 (pm_Q z D (pw_P (some (.int 1)) (fun nx M => ∃ hs', pw_W z kA kE (B + 693, r, hs', u) ar nx M)) 43733 262387 X) (pw_W z kA kE (B + 693, r, hs2, u) ((w1, .inl (kA 0, 7, .inl q0_3)) :: ar)) (k3 * 34 + (34 + (338 - (66 + 8 * 34) + (k1 * 338 + (338 + (43733 - (71 + 129 * 338) + 0)))))) (k3 * 204 + (204 + (2028 - (396 + 8 * 204) + (k1 * 2028 + (2028 + (262387 - (415 + 129 * 2028) + 0)))))) 105 [some (.ref (z + 0)), some (.int (w_L_activeSet_1 r 0 n)), some (.int (w_L_votesOf_1 r (w_L_activeSet_1 r 0 n) 0 n)), some (.int (a3_1 + ((if ((if (w_L_votesOf_1 r (nI j1) 0 n) < (r 3) then 0 else 1) : Int32) = 0 then 0 else 1) : Int32))), some (.int (pm_min a4_1 (pm_abs ((w_L_votesOf_1 r (w_L_activeSet_1 r 0 n) 0 n) - (2 * (w_L_votesOf_1 r (nI j1) 0 n)))))), some (.ref (z + w1)), some (.int (r 3)), some (.int (nI j1)), some (.int ((if (w_L_votesOf_1 r (nI j1) 0 n) < (r 3) then 0 else 1) : Int32)), some (.int (nI j3))] [] := by
          intro k3
          induction k3 with
          | zero =>
            intro j3 hj3 q0_3 eq0_3
            have hjn3 : j3 = n := by omega
            refine pw_cr (c2 := (34 - (0) + (338 - (66 + 8 * 34) + (k1 * 338 + (338 + (43733 - (71 + 129 * 338) + 0)))))) (s2 := (204 - (0) + (2028 - (396 + 8 * 204) + (k1 * 2028 + (2028 + (262387 - (415 + 129 * 2028) + 0)))))) (by omega) (by omega) ?_
            refine pw_l (fun _ _ _ _ k => pm_iload B9 dL_coalitions_105 rfl k) ?_
            refine pw_l (fun _ _ _ _ k => pm_aload_n B9 dL_coalitions_107 rfl k) ?_
            refine pw_cV (As := []) (c2 := (34 - (2) + (338 - (66 + 8 * 34) + (k1 * 338 + (338 + (43733 - (71 + 129 * 338) + 0)))))) (s2 := (204 - (12) + (2028 - (396 + 8 * 204) + (k1 * 2028 + (2028 + (262387 - (415 + 129 * 2028) + 0)))))) B9 (fun _ _ hW => pw_0 hW) rfl (a_X12_memberCount hI) mt_X12_memberCount sv_L_177 dL_coalitions_108 rfl rfl rfl (by omega) (by omega) ?_
            refine pw_l (fun _ _ _ _ k => pm_stk (st' := [.int (nI n), .int (nI j3)]) rfl k) ?_
            refine pw_l (fun _ _ _ _ k => pm_icmp_ge (tgt := 167) B9 dL_coalitions_111 (by decide) (fun _ => k) (fun h => absurd ((by rw [show (nI n) = nI n from rfl, show (nI j3) = nI j3 from rfl]; exact (nI_leI (by omega) (by omega)).mpr (by omega))) h)) ?_
            refine pw_l (fun _ _ _ _ k => pm_wk (L' := [some (.ref (z + 0)), some (.int (w_L_activeSet_1 r 0 n)), some (.int (w_L_votesOf_1 r (w_L_activeSet_1 r 0 n) 0 n)), some (.int (a3_1 + ((if ((if (w_L_votesOf_1 r (nI j1) 0 n) < (r 3) then 0 else 1) : Int32) = 0 then 0 else 1) : Int32))), some (.int (pm_min a4_1 (pm_abs ((w_L_votesOf_1 r (w_L_activeSet_1 r 0 n) 0 n) - (2 * (w_L_votesOf_1 r (nI j1) 0 n)))))), some (.ref (z + w1)), some (.int (r 3)), some (.int (nI j1)), none, none]) ⟨rfl, ⟨rfl, ⟨rfl, ⟨rfl, ⟨rfl, ⟨rfl, ⟨rfl, ⟨rfl, trivial⟩⟩⟩⟩⟩⟩⟩⟩ k) ?_
            exact pw_cr (by omega) (by omega) (pw_eq (by first | with_reducible rfl | simp only [eq0_3, hjn3]) (by first | with_reducible rfl | simp only [eq0_3, hjn3]) rfl hx3)
          | succ k3 ih3 =>
            intro j3 hj3 q0_3 eq0_3
            have hjn3 : j3 < n := by omega
            refine pw_cr (c2 := (34 - (0) + (k3 * 34 + (34 + (338 - (66 + 8 * 34) + (k1 * 338 + (338 + (43733 - (71 + 129 * 338) + 0)))))))) (s2 := (204 - (0) + (k3 * 204 + (204 + (2028 - (396 + 8 * 204) + (k1 * 2028 + (2028 + (262387 - (415 + 129 * 2028) + 0)))))))) (by rw [Nat.succ_mul]; omega) (by rw [Nat.succ_mul]; omega) ?_
            refine pw_l (fun _ _ _ _ k => pm_iload B9 dL_coalitions_105 rfl k) ?_
            refine pw_l (fun _ _ _ _ k => pm_aload_n B9 dL_coalitions_107 rfl k) ?_
            refine pw_cV (As := []) (c2 := (34 - (2) + (k3 * 34 + (34 + (338 - (66 + 8 * 34) + (k1 * 338 + (338 + (43733 - (71 + 129 * 338) + 0)))))))) (s2 := (204 - (12) + (k3 * 204 + (204 + (2028 - (396 + 8 * 204) + (k1 * 2028 + (2028 + (262387 - (415 + 129 * 2028) + 0)))))))) B9 (fun _ _ hW => pw_0 hW) rfl (a_X12_memberCount hI) mt_X12_memberCount sv_L_177 dL_coalitions_108 rfl rfl rfl (by omega) (by omega) ?_
            refine pw_l (fun _ _ _ _ k => pm_stk (st' := [.int (nI n), .int (nI j3)]) rfl k) ?_
            refine pw_l (fun _ _ _ _ k => pm_icmp_ge (tgt := 167) B9 dL_coalitions_111 (by decide) (fun h => absurd h ((by rw [show (nI n) = nI n from rfl, show (nI j3) = nI j3 from rfl]; exact fun e => absurd ((nI_leI (by omega) (by omega)).mp e) (by omega)))) (fun _ => k)) ?_
            refine pw_l (fun _ _ _ _ k => pm_aload B9 dL_coalitions_114 rfl k) ?_
            refine pw_l (fun _ _ _ _ k => pm_iload B9 dL_coalitions_116 rfl k) ?_
            refine pw_l (fun _ _ _ _ k => pm_dup2 B9 dL_coalitions_118 rfl rfl k) ?_
            refine pw_lw (fun _ _ _ _ hW k => pm_iald_n B9 dL_coalitions_119 (pw_at hW 0 rfl) j3 (by first | assumption | omega) (by decide) k) ?_
            refine pw_l (fun _ _ _ _ k => pm_iload B9 dL_coalitions_120 rfl k) ?_
            refine pw_l (fun _ _ _ _ k => pm_iload B9 dL_coalitions_122 rfl k) ?_
            refine pw_l (fun _ _ _ _ k => pm_ishr B9 dL_coalitions_124 k) ?_
            refine pw_l (fun _ _ _ _ k => pm_iconst (v := 1) B9 dL_coalitions_125 (by decide) k) ?_
            refine pw_l (fun _ _ _ _ k => pm_iand B9 dL_coalitions_126 k) ?_
            refine pw_l (fun _ _ _ _ k => pm_iconst (v := 1) B9 dL_coalitions_127 (by decide) k) ?_
            suffices hj22 : pw_J l z D X 43733 262387 (pm_Q z D (pw_P (some (.int 1)) (fun nx M => ∃ hs', pw_W z kA kE (B + 693, r, hs', u) ar nx M)) 43733 262387 X) (pw_W z kA kE (B + 693, r, hs2, u) ((w1, .inl (kA 0, 7, .inl q0_3)) :: ar)) (34 - (34) + (k3 * 34 + (34 + (338 - (66 + 8 * 34) + (k1 * 338 + (338 + (43733 - (71 + 129 * 338) + 0))))))) (204 - (204) + (k3 * 204 + (204 + (2028 - (396 + 8 * 204) + (k1 * 2028 + (2028 + (262387 - (415 + 129 * 2028) + 0))))))) 159 [some (.ref (z + 0)), some (.int (w_L_activeSet_1 r 0 n)), some (.int (w_L_votesOf_1 r (w_L_activeSet_1 r 0 n) 0 n)), some (.int (a3_1 + ((if ((if (w_L_votesOf_1 r (nI j1) 0 n) < (r 3) then 0 else 1) : Int32) = 0 then 0 else 1) : Int32))), some (.int (pm_min a4_1 (pm_abs ((w_L_votesOf_1 r (w_L_activeSet_1 r 0 n) 0 n) - (2 * (w_L_votesOf_1 r (nI j1) 0 n)))))), some (.ref (z + w1)), some (.int (r 3)), some (.int (nI j1)), some (.int ((if (w_L_votesOf_1 r (nI j1) 0 n) < (r 3) then 0 else 1) : Int32)), some (.int (nI j3))] [.int ((if (((nI j1) >>> ((nI j3) &&& 31)) &&& 1) = 1 then (if ((if (w_L_votesOf_1 r (nI j1) 0 n) < (r 3) then 0 else 1) : Int32) = 0 then 0 else (if (r 3) ≤ (w_L_votesOf_1 r ((nI j1) &&& ((1 <<< ((nI j3) &&& 31)) ^^^ (-1))) 0 n) then 0 else 1)) else 0) : Int32), .int (q0_3 j3), .int (nI j3), .ref (z + w1)] by
              refine pw_l2 (fun _ _ _ _ k1 k2 => pm_icmp_ne (tgt := 158) B9 dL_coalitions_128 (by decide) k1 k2) (fun hq23 => ?_) (fun hq23 => ?_)
              · refine pw_l (fun _ _ _ _ k => pm_iconst (v := 0) B9 dL_coalitions_158 (by decide) k) ?_
                exact pw_cr (by omega) (by omega) (pw_eq (by first | with_reducible rfl | ((try rw [if_neg hq23]); done) | simp only [if_neg hq23]) (by first | with_reducible rfl | ((try rw [if_neg hq23]); done) | simp only [if_neg hq23]) (by first | with_reducible rfl | ((try rw [if_neg hq23]); done) | simp only [if_neg hq23]) hj22)
              · refine pw_l (fun _ _ _ _ k => pm_iload B9 dL_coalitions_131 rfl k) ?_
                refine pw_l2 (fun _ _ _ _ k1 k2 => pm_if_eq (tgt := 158) B9 dL_coalitions_133 (by decide) k1 k2) (fun hq24 => ?_) (fun hq24 => ?_)
                · refine pw_l (fun _ _ _ _ k => pm_iconst (v := 0) B9 dL_coalitions_158 (by decide) k) ?_
                  exact pw_cr (by omega) (by omega) (pw_eq (by first | with_reducible rfl | ((try rw [if_pos hq23]); (try rw [if_pos hq24]); done) | simp only [if_pos hq23, if_pos hq24]) (by first | with_reducible rfl | ((try rw [if_pos hq23]); (try rw [if_pos hq24]); done) | simp only [if_pos hq23, if_pos hq24]) (by first | with_reducible rfl | ((try rw [if_pos hq23]); (try rw [if_pos hq24]); done) | simp only [if_pos hq23, if_pos hq24]) hj22)
                · refine pw_l (fun _ _ _ _ k => pm_aload_n B9 dL_coalitions_136 rfl k) ?_
                  refine pw_l (fun _ _ _ _ k => pm_iload B9 dL_coalitions_137 rfl k) ?_
                  refine pw_l (fun _ _ _ _ k => pm_iconst (v := 1) B9 dL_coalitions_139 (by decide) k) ?_
                  refine pw_l (fun _ _ _ _ k => pm_iload B9 dL_coalitions_140 rfl k) ?_
                  refine pw_l (fun _ _ _ _ k => pm_ishl B9 dL_coalitions_142 k) ?_
                  refine pw_l (fun _ _ _ _ k => pm_iconst (v := (-1)) B9 dL_coalitions_143 (by decide) k) ?_
                  refine pw_l (fun _ _ _ _ k => pm_ixor B9 dL_coalitions_144 k) ?_
                  refine pw_l (fun _ _ _ _ k => pm_iand B9 dL_coalitions_145 k) ?_
                  refine pw_cS (As := [.ref (z + 0), .int ((nI j1) &&& ((1 <<< ((nI j3) &&& 31)) ^^^ (-1)))]) (c2 := (34 - (34) + (k3 * 34 + (34 + (338 - (66 + 8 * 34) + (k1 * 338 + (338 + (43733 - (71 + 129 * 338) + 0)))))))) (s2 := (204 - (204) + (k3 * 204 + (204 + (2028 - (396 + 8 * 204) + (k1 * 2028 + (2028 + (262387 - (415 + 129 * 2028) + 0)))))))) B9 (c_L_votesOf (x := ((nI j1) &&& ((1 <<< ((nI j3) &&& 31)) ^^^ (-1)))) hI) mt_L_votesOf ss_L_287 dL_coalitions_146 rfl rfl rfl (by omega) (by omega) ?_
                  refine pw_l (fun _ _ _ _ k => pm_stk (st' := [.int (w_L_votesOf_1 r ((nI j1) &&& ((1 <<< ((nI j3) &&& 31)) ^^^ (-1))) 0 n), .int (q0_3 j3), .int (nI j3), .ref (z + w1)]) rfl k) ?_
                  refine pw_l (fun _ _ _ _ k => pm_iload B9 dL_coalitions_149 rfl k) ?_
                  refine pw_l2 (fun _ _ _ _ k1 k2 => pm_icmp_ge (tgt := 158) B9 dL_coalitions_151 (by decide) k1 k2) (fun hq25 => ?_) (fun hq25 => ?_)
                  · refine pw_l (fun _ _ _ _ k => pm_iconst (v := 0) B9 dL_coalitions_158 (by decide) k) ?_
                    exact pw_cr (by omega) (by omega) (pw_eq (by first | with_reducible rfl | ((try rw [if_pos hq23]); (try rw [if_neg hq24]); (try rw [if_pos hq25]); done) | simp only [if_pos hq23, if_neg hq24, if_pos hq25]) (by first | with_reducible rfl | ((try rw [if_pos hq23]); (try rw [if_neg hq24]); (try rw [if_pos hq25]); done) | simp only [if_pos hq23, if_neg hq24, if_pos hq25]) (by first | with_reducible rfl | ((try rw [if_pos hq23]); (try rw [if_neg hq24]); (try rw [if_pos hq25]); done) | simp only [if_pos hq23, if_neg hq24, if_pos hq25]) hj22)
                  · refine pw_l (fun _ _ _ _ k => pm_iconst (v := 1) B9 dL_coalitions_154 (by decide) k) ?_
                    refine pw_l (fun _ _ _ _ k => pm_goto (tgt := 159) B9 dL_coalitions_155 (by decide) k) ?_
                    exact pw_cr (by omega) (by omega) (pw_eq (by first | with_reducible rfl | ((try rw [if_pos hq23]); (try rw [if_neg hq24]); (try rw [if_neg hq25]); done) | simp only [if_pos hq23, if_neg hq24, if_neg hq25]) (by first | with_reducible rfl | ((try rw [if_pos hq23]); (try rw [if_neg hq24]); (try rw [if_neg hq25]); done) | simp only [if_pos hq23, if_neg hq24, if_neg hq25]) (by first | with_reducible rfl | ((try rw [if_pos hq23]); (try rw [if_neg hq24]); (try rw [if_neg hq25]); done) | simp only [if_pos hq23, if_neg hq24, if_neg hq25]) hj22)
            refine pw_l (fun _ _ _ _ k => pm_iadd B9 dL_coalitions_159 k) ?_
            refine pw_up (W' := (pw_W z kA kE (B + 693, r, hs2, u) ((w1, .inl (kA 0, 7, .inl (upd q0_3 j3 ((q0_3 j3) + ((if (((nI j1) >>> ((nI j3) &&& 31)) &&& 1) = 1 then (if ((if (w_L_votesOf_1 r (nI j1) 0 n) < (r 3) then 0 else 1) : Int32) = 0 then 0 else (if (r 3) ≤ (w_L_votesOf_1 r ((nI j1) &&& ((1 <<< ((nI j3) &&& 31)) ^^^ (-1))) 0 n) then 0 else 1)) else 0) : Int32))))) :: ar))) (fun _ _ _ _ hW k => pm_iast_n B9 dL_coalitions_160 (pw_at hW 0 rfl) j3 (by first | assumption | omega) (by decide) (k _ (pw_set0 hW))) ?_
            refine pw_l (fun _ _ _ _ k => pm_iinc B9 dL_coalitions_161 rfl rfl rfl k) ?_
            refine pw_l (fun _ _ _ _ k => pm_loc (L' := [some (.ref (z + 0)), some (.int (w_L_activeSet_1 r 0 n)), some (.int (w_L_votesOf_1 r (w_L_activeSet_1 r 0 n) 0 n)), some (.int (a3_1 + ((if ((if (w_L_votesOf_1 r (nI j1) 0 n) < (r 3) then 0 else 1) : Int32) = 0 then 0 else 1) : Int32))), some (.int (pm_min a4_1 (pm_abs ((w_L_votesOf_1 r (w_L_activeSet_1 r 0 n) 0 n) - (2 * (w_L_votesOf_1 r (nI j1) 0 n)))))), some (.ref (z + w1)), some (.int (r 3)), some (.int (nI j1)), some (.int ((if (w_L_votesOf_1 r (nI j1) 0 n) < (r 3) then 0 else 1) : Int32)), some (.int (nI (j3 + 1)))]) (by rw [show ((nI j3) : Int32) + Int32.ofInt 1 = (nI (j3 + 1)) from nI_1 _]; rfl) k) ?_
            refine pw_l (fun _ _ _ _ k => pm_goto (tgt := 105) B9 dL_coalitions_164 (by decide) k) ?_
            exact pw_cr (by omega) (by omega) (ih3 (j3 + 1) (by omega) _ (by subst eq0_3; first | rfl))
        exact pw_cr (by omega) (by omega) (loop3 n 0 (by omega) _ rfl)
  exact pw_cr (by omega) (by omega) (loop1 (2 ^ n) 0 (by omega) _ rfl _ rfl _ rfl)
