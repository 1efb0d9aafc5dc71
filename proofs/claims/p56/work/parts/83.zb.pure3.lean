/-! what the askers answer, without the class's own rows -/
def pw_gr (r : Nat → Int32) (k : Nat) : Int32 :=
  if k < 5 then r k else if k = 5 then r 5 + r 6 else if k = 6 then r 6 else if k < 42 then (if (k - 7) % 5 < 4 then r (7 + 6 * ((k - 7) / 5) + (k - 7) % 5) else r (7 + 6 * ((k - 7) / 5) + 4) - r (7 + 6 * ((k - 7) / 5) + 5)) else pm_bt (r (49 + (k - 42) / 7)) ((k - 42) % 7)
theorem pw_gr_m {r : Nat → Int32} {i w : Nat} (hi : i < 7) (hw : w < 5) : pw_gr r (7 + 5 * i + w) = if w < 4 then r (7 + 6 * i + w) else r (7 + 6 * i + 4) - r (7 + 6 * i + 5) := by
  unfold pw_gr
  rw [if_neg (by omega), if_neg (by omega), if_neg (by omega), if_pos (by omega), show (7 + 5 * i + w - 7) % 5 = w by omega, show (7 + 5 * i + w - 7) / 5 = i by omega]
theorem pw_rs {n : Nat} (r : Nat → Int32) (h7 : n ≤ 7) : ∃ g, pm_RS n r g := by
  refine ⟨pw_gr r, ⟨rfl, rfl, rfl, rfl, rfl, rfl, rfl⟩, fun i hi => ⟨?_, ?_, ?_, ?_, ?_⟩, fun i j hi hj => ?_⟩
  · rw [pw_gr_m (by omega) (by omega)]; rfl
  · rw [pw_gr_m (by omega) (by omega)]; rfl
  · rw [pw_gr_m (by omega) (by omega)]; rfl
  · rw [pw_gr_m (by omega) (by omega)]; rfl
  · rw [pw_gr_m (by omega) (by omega)]; rfl
  · unfold pw_gr
    rw [if_neg (by omega), if_neg (by omega), if_neg (by omega), if_neg (by omega), show (42 + 7 * i + j - 42) / 7 = i by omega, show (42 + 7 * i + j - 42) % 7 = j by omega]
def pw_st (r : Nat → Int32) (i : Nat) : Int32 := if (r (7 + 6 * i + 5)) = 0 ∧ (r (7 + 6 * i + 4)) = 0 then 108 else (if (r (7 + 6 * i + 5)) = 0 then 119 else 98)
def pw_wa (r : Nat → Int32) (i : Nat) : Int32 := if (r (7 + 6 * i + 4)) = 0 then -13 else r (7 + 6 * i + 4)
def pw_ba (r : Nat → Int32) (i : Nat) : Int32 := if (r (7 + 6 * i + 5)) = 0 then -13 else r (7 + 6 * i + 5)
def pw_xs (r : Nat → Int32) (i : Nat) : Int32 := pm_max 0 ((r (7 + 6 * i + 3)) - (r (7 + 6 * i + 2)))
def pw_lk (r : Nat → Int32) (i j : Nat) : Int32 := if (r (49 + i) >>> (nI j &&& 31)) &&& 1 = 1 then 1 else 0
def pw_sw (n : Nat) (r : Nat → Int32) (i : Nat) : Int32 := if (r (7 + 6 * i + 5)) = 0 then d_X11_swingsBySets i n r else -13
def pw_lc (r : Nat → Int32) : Int32 := pm_lt (fun j => r (49 + j)) 7 / 2
def pw_fa (n : Nat) (r : Nat → Int32) : Int32 := pm_fw (fun j => r (49 + j)) n (2 ^ n)
def pw_fb (n : Nat) (r : Nat → Int32) : Int32 := pm_ff (fun j => r (49 + j)) n 0 0
/-- the member of a rank -/
def pw_bx (n : Nat) (r : Nat → Int32) (k : Nat) : Nat := pm_n (d_X12_memberByExcess (nI k) n r (fun _ => 0)).2
/-- the member that is drawn at a place -/
def pw_dr (n : Nat) (r : Nat → Int32) (i : Nat) : Int32 := nI (pm_dm n (pm_ds n (pm_n (r 2)) i).1 (pm_ds n (pm_n (r 2)) i).2)
/-- a quota by a rule -/
def pw_qb (n : Nat) (r : Nat → Int32) (x y : Int32) (i : Nat) : Int32 := (d_X1_apportion x y n r (fun _ => 0) (fun _ => 0)).1 i
/-- a share of the common fine -/
def pw_sh (n : Nat) (r : Nat → Int32) (i : Nat) : Int32 := nI (pm_sf (fun u => pm_fc n / ps_cn (pm_rv r) n u) (pm_rv r i) 1)
theorem pw_hm {i n : Nat} {r : Nat → Int32} (hi : i < n) (h7 : n ≤ 7) : ¬ d_X10_hasMember (nI i) n r = 0 := by
  unfold d_X10_hasMember
  rw [if_neg (nI_pos (by omega)), if_neg (fun h => by have := (nI_leI (a := n) (b := i) (by omega) (by omega)).mp h; omega)]
  decide
theorem pw_hn {n : Nat} {r : Nat → Int32} (h7 : n ≤ 7) : d_X10_hasMember (nI n) n r = 0 := by
  unfold d_X10_hasMember
  rw [if_neg (nI_pos (by omega)), if_pos (Int32.le_refl _)]
theorem pw_hz {n : Nat} {r : Nat → Int32} : d_X10_hasMember (-1) n r = 0 := by
  unfold d_X10_hasMember
  rw [if_pos (by decide)]
theorem pw_bxE {n k : Nat} {r to : Nat → Int32} (hw : ∀ i, i < n → pm_rw r i) (h7 : n ≤ 7) (hk : k < n) : d_X12_memberByExcess (nI k) n r to = (0, nI (pw_bx n r k)) ∧ pw_bx n r k < n ∧ pm_sf (pm_ai (pm_rv r) (pm_rz r) (pw_bx n r k)) n 0 = k := by
  obtain ⟨g, hRS⟩ := pw_rs r h7
  obtain ⟨m, hmn, em⟩ := pm_rkX (v := pm_rv r) (s := pm_rz r) h7 hk
  have key : ∀ i, i < n → (d_X10_membersAheadOf i n r = nI k ↔ i = m) := by
    intro i hi
    obtain ⟨e1, e2⟩ := pm_ahE hRS hw h7 hi
    rw [e1, nI_eq (by omega) (by omega)]
    constructor
    · intro e
      exact pm_rkU hi hmn (e.trans em.symm)
    · intro e
      rw [e]
      exact em
  have h1 : ∀ to, d_X12_memberByExcess (nI k) n r to = (0, nI m) := fun to => by
    unfold d_X12_memberByExcess
    exact pm_exY key n 0 (by omega) (Nat.zero_le _) hmn
  have h2 : pw_bx n r k = m := by unfold pw_bx; rw [h1]; exact pm_n_nI (by omega)
  rw [h2]
  exact ⟨h1 to, hmn, em⟩
theorem pw_bxN {n : Nat} {r to : Nat → Int32} (hw : ∀ i, i < n → pm_rw r i) (h7 : n ≤ 7) : d_X12_memberByExcess (nI n) n r to = (4, 0) := by
  obtain ⟨g, hRS⟩ := pw_rs r h7
  unfold d_X12_memberByExcess
  refine pm_exN (fun i hi e => ?_) n 0 (by omega)
  obtain ⟨e1, e2⟩ := pm_ahE hRS hw h7 hi
  rw [e1] at e
  have := (nI_eq (by omega) (by omega)).mp e
  omega
theorem pw_drE {n i : Nat} {r dr : Nat → Int32} (hi : i < n) (h7 : n ≤ 7) (hs : pm_n (r 2) < 1024) : (d_X7_drawMembers (i + 1) n r dr).2 i = pw_dr n r i := by
  unfold d_X7_drawMembers
  rw [if_neg (nI_ne0 (by omega) (by omega))]
  have h := (pm_drC (n := n) (s0 := pm_n (r 2)) (w := i + 1) (by omega) h7 hs (by omega) (i + 1) 0 dr (by omega)).2.1 i (Nat.zero_le _) (by omega)
  exact h
theorem pw_qbE {n T i : Nat} {y : Int32} {r q rm : Nat → Int32} (hw : ∀ i, i < n → pm_rw r i) (h7 : n ≤ 7) (hT : T ≤ 300) (hy : y = 0 ∨ y = 1) (hi : i < n) : (d_X1_apportion (nI T) y n r q rm).1 i = pw_qb n r (nI T) y i := by
  obtain ⟨g, hRS⟩ := pw_rs r h7
  obtain ⟨Q, hQ⟩ := (pm_apEq (q := q) (rm := rm) (f := fun _ => 0) (gq := fun _ => 0) hw hRS.2.1 h7 hT hy).1
  obtain ⟨Q2, hQ2⟩ := (pm_apEq (q := fun _ => 0) (rm := fun _ => 0) (f := fun _ => 0) (gq := fun _ => 0) hw hRS.2.1 h7 hT hy).1
  unfold pw_qb
  rw [(hQ i hi).2.1, (hQ2 i hi).2.1, ← (hQ i hi).2.2, ← (hQ2 i hi).2.2]
theorem pw_shE {n i : Nat} {r un cu : Nat → Int32} (hw : ∀ i, i < n → pm_rw r i) (h7 : n ≤ 7) (hi : i < n) : (d_X3_byOrders i n r un cu).1 = pw_sh n r i ∧ (d_X3_bySteps i n r un cu).1 = pw_sh n r i := by
  obtain ⟨g, hRS⟩ := pw_rs r h7
  obtain ⟨h1, h2, h3⟩ := pm_shX (un := un) (cu := cu) hRS hw
  have e2 := (pm_soE (cu := (d_X3_readUnits n r un cu).2) h1 h2 h7 hi n 0 0 0 0 (by omega) (by decide) (by rw [show pm_pc 0 n = 0 from pm_pc0 ⟨n, by omega⟩]; omega) (by decide)).2 (by rw [Nat.zero_div])
  have hle := pm_sf_b (F := fun i => if 0 < pm_rv r i then 1 else 0) (b := 1) n 0 (fun i _ _ => by (try dsimp only); split <;> omega)
  have e3 := pm_stL (cu := cu) h1 h2 h7 hi n 0 0 0 (Nat.zero_le _) (by omega) rfl
  constructor
  · unfold d_X3_byOrders pw_sh
    refine e2.trans ?_
    rw [pm_sf_cg (G := fun u => pm_fc n / ps_cn (pm_rv r) n u) (fun u u1 _ => by (try dsimp only); rw [if_neg (by omega), pm_cs0])]
  · unfold d_X3_bySteps pw_sh
    show (d_X3_bySteps_L2 i n r un cu (d_X3_bySteps_L1 ((2 + (n - 1)) - 2) 2 1) n 0 0 0).1 = _
    rw [(pm_fcR n (by omega)).2.1]
    exact e3
theorem pw_in01 {x : Int32} (h : ¬ pm_in x 0 1 = 0) : x = 0 ∨ x = 1 := by
  obtain ⟨k, rfl, -, h1⟩ := pm_inR (lo := 0) (hi := 1) (by decide) (by decide) h
  have h2 : k = 0 ∨ k = 1 := by omega
  rcases h2 with rfl | rfl
  · exact Or.inl rfl
  · exact Or.inr rfl
theorem pw_qbG {n i : Nat} {x y : Int32} {r q rm : Nat → Int32} (hw : ∀ i, i < n → pm_rw r i) (h7 : n ≤ 7) (hx : ¬ pm_in x 0 300 = 0) (hy : ¬ pm_in y 0 1 = 0) (hi : i < n) : (d_X1_apportion x y n r q rm).1 i = pw_qb n r x y i := by
  obtain ⟨T, rfl, -, hT⟩ := pm_inR (lo := 0) (hi := 300) (by decide) (by decide) hx
  exact pw_qbE hw h7 hT (pw_in01 hy) hi
theorem pw_bxL {x : Int32} {n : Nat} {r : Nat → Int32} : ∀ (k j : Nat), (d_X12_memberByExcess_L1 x n r (4, 0) k j).1 = 0 ∨ d_X12_memberByExcess_L1 x n r (4, 0) k j = (4, 0) := by
  intro k
  induction k with
  | zero => intro j; exact Or.inr rfl
  | succ k ih =>
    intro j
    simp only [d_X12_memberByExcess_L1]
    split
    · exact Or.inl rfl
    · exact ih (j + 1)
theorem pw_bxC (x : Int32) (n : Nat) (r to : Nat → Int32) : (d_X12_memberByExcess x n r to).1 = 0 ∨ (d_X12_memberByExcess x n r to).1 = 4 := by
  rcases pw_bxL (x := x) (r := r) n 0 with h | h
  · exact Or.inl h
  · refine Or.inr ?_
    unfold d_X12_memberByExcess
    rw [h]
theorem pw_bxD (x : Int32) (n : Nat) (r to : Nat → Int32) (h0 : ¬ (d_X12_memberByExcess x n r to).1 = 0) : (d_X12_memberByExcess x n r to).2 = 0 := by
  rcases pw_bxL (x := x) (r := r) n 0 with h | h
  · exact absurd h h0
  · unfold d_X12_memberByExcess
    rw [h]
