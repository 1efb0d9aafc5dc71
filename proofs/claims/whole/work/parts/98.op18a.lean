/-! shares of the common fine: closed -/
def pm_fc : Nat → Nat
  | 0 => 1
  | k + 1 => (k + 1) * pm_fc k
theorem pm_fcR : ∀ n, n < 8 → d_X13_share_L1 ((2 + (n - 1)) - 2) 2 1 = nI (pm_fc n) ∧ d_X3_bySteps_L1 ((2 + (n - 1)) - 2) 2 1 = nI (pm_fc n) ∧ pm_fc n ≤ 5040 := by decide +kernel
theorem pm_fcX : ∀ k, k < 7 → ∀ c, c < 8 → 1 ≤ c → c ≤ k + 1 → pm_fc k + pm_fc k / c * (k + 1 - c) = pm_fc (k + 1) / c := by decide +kernel
theorem pm_pcI : ∀ D, D < 128 → ∀ m, m < 7 → D / 2 ^ m % 2 = 0 → ∀ n, n < 8 → m < n → pm_pc (D ||| 2 ^ m) n = pm_pc D n + 1 := by decide +kernel
theorem pm_sf_0 : ∀ (k j : Nat), pm_sf (fun _ => 0) k j = 0 := by
  intro k
  induction k with
  | zero => intro j; rfl
  | succ k ih => intro j; simp only [pm_sf]; rw [ih]
theorem pm_sf_k {c : Nat} : ∀ (k j : Nat), pm_sf (fun _ => c) k j = c * k := by
  intro k
  induction k with
  | zero => intro j; rfl
  | succ k ih => intro j; simp only [pm_sf]; rw [ih, Nat.mul_succ, Nat.add_comm]
theorem pm_sf_one {c m : Nat} : ∀ (k j : Nat), j ≤ m → m < j + k → pm_sf (fun i => if i = m then c else 0) k j = c := by
  intro k
  induction k with
  | zero => intro j h1 h2; omega
  | succ k ih =>
    intro j h1 h2
    simp only [pm_sf]
    by_cases h : j = m
    · rw [if_pos h, (pm_sf_cg (fun i a b => if_neg (by omega))).trans (pm_sf_0 k (j + 1)), Nat.add_zero]
    · rw [if_neg h, ih (j + 1) (by omega) (by omega), Nat.zero_add]
theorem pm_sf_spl {F : Nat → Nat} : ∀ (a j b : Nat), pm_sf F (a + b) j = pm_sf F a j + pm_sf F b (j + a) := by
  intro a
  induction a with
  | zero => intro j b; rw [Nat.zero_add]; exact (Nat.zero_add _).symm
  | succ a ih =>
    intro j b
    rw [show a + 1 + b = (a + b) + 1 by omega, show j + (a + 1) = j + 1 + a by omega]
    simp only [pm_sf]
    rw [ih (j + 1) b]
    exact (Nat.add_assoc _ _ _).symm
theorem pm_sf_swp {h : Nat → Nat → Nat} {k2 j2 : Nat} : ∀ (k j : Nat), pm_sf (fun i => pm_sf (fun u => h i u) k2 j2) k j = pm_sf (fun u => pm_sf (fun i => h i u) k j) k2 j2 := by
  intro k
  induction k with
  | zero => intro j; exact (pm_sf_0 k2 j2).symm
  | succ k ih =>
    intro j
    have e := pm_sf_add (F := fun u => h j u) (G := fun u => pm_sf (fun i => h i u) k (j + 1)) k2 j2
    rw [← ih (j + 1)] at e
    exact e.symm
theorem pm_sf_gt {G c : Nat} : ∀ X, pm_sf (fun u => if u ≤ G then 0 else c) X 1 = c * (X - G) := by
  intro X
  induction X with
  | zero => rw [Nat.zero_sub]; rfl
  | succ X ih =>
    rw [pm_sf_top, ih]
    by_cases h : 1 + X ≤ G
    · rw [if_pos h, show X + 1 - G = 0 by omega, show X - G = 0 by omega, Nat.add_zero]
    · rw [if_neg h, show X + 1 - G = (X - G) + 1 by omega, Nat.mul_succ]
theorem pm_unC {S : Nat} : ∀ n, pm_sf (fun i => if S / 2 ^ i % 2 = 1 then 0 else 1) n 0 + pm_pc S n = n := by
  intro n
  induction n with
  | zero => rfl
  | succ n ih =>
    rw [pm_sf_top, pm_pc, Nat.zero_add]
    rcases Nat.mod_two_eq_zero_or_one (S / 2 ^ n) with h | h
    · rw [h, if_neg (by decide)]; omega
    · rw [h, if_pos rfl]; omega
def pm_cs (X : Nat → Nat) (S n u : Nat) : Nat := pm_sf (fun i => if S / 2 ^ i % 2 = 1 ∨ X i < u then 0 else 1) n 0
def ps_cn (X : Nat → Nat) (n u : Nat) : Nat := pm_sf (fun i => if X i < u then 0 else 1) n 0
theorem pm_cs0 {X : Nat → Nat} {n u : Nat} : pm_cs X 0 n u = ps_cn X n u := by
  unfold pm_cs ps_cn
  refine pm_sf_cg fun i _ _ => ?_
  have : ¬ 0 / 2 ^ i % 2 = 1 := by rw [Nat.zero_div]; decide
  by_cases h : X i < u
  · rw [if_pos (Or.inr h), if_pos h]
  · rw [if_neg (fun e => e.elim this h), if_neg h]
