/-! ways by sums: closed -/
def pn_sum (F : Nat → Nat) : Nat → Nat
  | 0 => 0
  | k + 1 => pn_sum F k + F k
theorem pn_sum_cg {F G : Nat → Nat} : ∀ k, (∀ j, j < k → F j = G j) → pn_sum F k = pn_sum G k := by
  intro k
  induction k with
  | zero => intro _; rfl
  | succ k ih => intro h; rw [pn_sum, pn_sum, ih (fun j hj => h j (by omega)), h k (by omega)]
theorem pn_sum_add {F G : Nat → Nat} : ∀ k, pn_sum (fun j => F j + G j) k = pn_sum F k + pn_sum G k := by
  intro k
  induction k with
  | zero => rfl
  | succ k ih => rw [pn_sum, pn_sum, pn_sum, ih]; omega
theorem pn_sum_z {F : Nat → Nat} : ∀ k, (∀ j, j < k → F j = 0) → pn_sum F k = 0 := by
  intro k
  induction k with
  | zero => intro _; rfl
  | succ k ih => intro h; rw [pn_sum, ih (fun j hj => h j (by omega)), h k (by omega)]
theorem pn_sum_two {F : Nat → Nat} (a : Nat) : ∀ b, pn_sum F (a + b) = pn_sum F a + pn_sum (fun j => F (a + j)) b := by
  intro b
  induction b with
  | zero => rfl
  | succ b ih => rw [← Nat.add_assoc, pn_sum, ih, pn_sum]; omega
theorem pn_sum_sh {h : Nat → Nat} (v : Nat) : ∀ m, pn_sum (fun t => if v ≤ t then h (t - v) else 0) m = pn_sum h (m - v) := by
  intro m
  induction m with
  | zero => rw [Nat.zero_sub]; rfl
  | succ m ih =>
    rw [pn_sum, ih]
    by_cases e : v ≤ m
    · rw [if_pos e, show m + 1 - v = (m - v) + 1 by omega, pn_sum]
    · rw [if_neg e, show m + 1 - v = 0 by omega, show m - v = 0 by omega, Nat.add_zero]
def pn_W (V : Nat → Nat) (X : Nat) : Nat → Nat → Nat
  | 0, s => if s = 0 then 1 else 0
  | j + 1, s => if X / 2 ^ j % 2 = 1 then pn_W V X j s + (if V j ≤ s then pn_W V X j (s - V j) else 0) else pn_W V X j s
def pn_v (V : Nat → Nat) (S : Nat) : Nat → Nat
  | 0 => 0
  | j + 1 => pn_v V S j + (if S / 2 ^ j % 2 = 1 then V j else 0)
abbrev pn_sb (S X : Nat) : Prop := ∀ j, j < 7 → S / 2 ^ j % 2 = 1 → X / 2 ^ j % 2 = 1
theorem pn_top : ∀ j, j < 7 → ∀ S, S < 128 → S < 2 ^ j → S / 2 ^ j % 2 = 0 ∧ (2 ^ j + S) / 2 ^ j % 2 = 1 ∧ ∀ i, i < j → (2 ^ j + S) / 2 ^ i % 2 = S / 2 ^ i % 2 := by decide +kernel
theorem pn_sbtop : ∀ j, j < 7 → ∀ S, S < 128 → S < 2 ^ j → ∀ X, X < 128 → (pn_sb (2 ^ j + S) X ↔ X / 2 ^ j % 2 = 1 ∧ pn_sb S X) := by
  intro j hj S hS hlt X hX
  have h128 : 2 ^ j < 128 := Nat.pow_lt_pow_right (by decide) hj
  have hbits : ∀ j, j < 7 → ∀ S, S < 128 → S < 2 ^ j → ∀ i, i < 7 → (2 ^ j + S) / 2 ^ i % 2 = if i = j then 1 else S / 2 ^ i % 2 := by decide +kernel
  have hb := hbits j hj S hS hlt
  constructor
  · intro h
    refine ⟨h j hj (by rw [hb j hj, if_pos rfl]), fun i hi e => h i hi ?_⟩
    rw [hb i hi]; split
    · rfl
    · exact e
  · intro h i hi e
    rw [hb i hi] at e
    by_cases hij : i = j
    · subst hij; exact h.1
    · rw [if_neg hij] at e; exact h.2 i hi e
theorem pn_v_cg {V : Nat → Nat} {S S' : Nat} : ∀ j, (∀ i, i < j → S / 2 ^ i % 2 = S' / 2 ^ i % 2) → pn_v V S j = pn_v V S' j := by
  intro j
  induction j with
  | zero => intro _; rfl
  | succ j ih => intro h; rw [pn_v, pn_v, ih (fun i hi => h i (by omega)), h j (by omega)]
theorem pn_core {V : Nat → Nat} {X : Nat} (hX : X < 128) (P : Nat → Prop) [DecidablePred P] : ∀ (j : Nat), j ≤ 7 → (∀ i, i < j → V i ≤ 20) → ∀ s m, 20 * j < m → pn_sum (fun S => if pn_sb S X ∧ P (s + pn_v V S j) then 1 else 0) (2 ^ j) = pn_sum (fun t => if P (s + t) then pn_W V X j t else 0) m := by
  intro j
  induction j with
  | zero =>
    intro _ _ s m hm
    have h1 : pn_sb 0 X := fun j hj e => by rw [Nat.zero_div] at e; exact absurd e (by decide)
    obtain ⟨k, rfl⟩ : ∃ k, m = 1 + k := ⟨m - 1, by omega⟩
    rw [pn_sum_two, pn_sum_z k]
    · show 0 + (if pn_sb 0 X ∧ P (s + 0) then 1 else 0) = 0 + (if P (s + 0) then (if (0 : Nat) = 0 then 1 else 0) else 0) + 0
      by_cases hp : P (s + 0)
      · rw [if_pos ⟨h1, hp⟩, if_pos hp]; rfl
      · rw [if_neg (fun e => hp e.2), if_neg hp]
    · intro t _
      show (if P (s + (1 + t)) then (if 1 + t = 0 then 1 else 0) else 0) = 0
      rw [if_neg (show ¬ 1 + t = 0 by omega)]
      split <;> rfl
  | succ j ih =>
    intro h7 hV s m hm
    have hj : j < 7 := by omega
    have h128 : 2 ^ j ≤ 64 := Nat.pow_le_pow_right (n := 2) (by decide) (show j ≤ 6 by omega)
    have ih2 := ih (by omega) (fun i hi => hV i (by omega))
    have hVj := hV j (by omega)
    have e1 : ∀ S, S < 2 ^ j → pn_v V S (j + 1) = pn_v V S j := by
      intro S hS
      rw [pn_v, if_neg]
      · rfl
      · rw [(pn_top j hj S (by omega) hS).1]; decide
    have e2 : ∀ S, S < 2 ^ j → pn_v V (2 ^ j + S) (j + 1) = V j + pn_v V S j := by
      intro S hS
      have := pn_top j hj S (by omega) hS
      rw [pn_v, if_pos this.2.1, pn_v_cg j this.2.2, Nat.add_comm]
    rw [show 2 ^ (j + 1) = 2 ^ j + 2 ^ j by rw [Nat.pow_succ]; omega, pn_sum_two]
    have a1 : pn_sum (fun S => if pn_sb S X ∧ P (s + pn_v V S (j + 1)) then 1 else 0) (2 ^ j) = pn_sum (fun S => if pn_sb S X ∧ P (s + pn_v V S j) then 1 else 0) (2 ^ j) :=
      pn_sum_cg _ fun S hS => by rw [e1 S hS]
    rw [a1, ih2 s m (by omega)]
    by_cases hb : X / 2 ^ j % 2 = 1
    · have a2 : pn_sum (fun S => if pn_sb (2 ^ j + S) X ∧ P (s + pn_v V (2 ^ j + S) (j + 1)) then 1 else 0) (2 ^ j) = pn_sum (fun S => if pn_sb S X ∧ P ((s + V j) + pn_v V S j) then 1 else 0) (2 ^ j) :=
        pn_sum_cg _ fun S hS => by
          rw [e2 S hS, Nat.add_assoc]
          have := pn_sbtop j hj S (by omega) hS X hX
          by_cases h3 : pn_sb S X ∧ P (s + (V j + pn_v V S j))
          · rw [if_pos h3, if_pos ⟨this.mpr ⟨hb, h3.1⟩, h3.2⟩]
          · rw [if_neg h3, if_neg (fun e => h3 ⟨(this.mp e.1).2, e.2⟩)]
      rw [a2, ih2 (s + V j) (m - V j) (by omega), ← pn_sum_sh (V j) m, ← pn_sum_add]
      refine pn_sum_cg _ fun t _ => ?_
      rw [pn_W, if_pos hb]
      by_cases hv : V j ≤ t
      · rw [if_pos hv, if_pos hv, show s + V j + (t - V j) = s + t by omega]
        split <;> rfl
      · rw [if_neg hv, if_neg hv, Nat.add_zero, Nat.add_zero]
    · rw [pn_sum_z (2 ^ j)]
      · rw [Nat.add_zero]
        refine pn_sum_cg _ fun t _ => ?_
        rw [pn_W, if_neg hb]
      · intro S hS
        rw [if_neg]
        intro e
        exact hb ((pn_sbtop j hj S (by omega) hS X hX).mp e.1).1
theorem pn_W_le (V : Nat → Nat) (X : Nat) : ∀ j t, pn_W V X j t ≤ 2 ^ j := by
  intro j
  induction j with
  | zero => intro t; rw [pn_W]; split <;> decide
  | succ j ih =>
    intro t
    rw [pn_W, Nat.pow_succ]
    have h1 := ih t
    have h2 := ih (t - V j)
    split
    · split <;> omega
    · omega
theorem pn_sum_pos {F : Nat → Nat} : ∀ k, (0 < pn_sum F k ↔ ∃ j, j < k ∧ 0 < F j) := by
  intro k
  induction k with
  | zero => exact ⟨fun h => absurd h (Nat.lt_irrefl 0), fun ⟨j, h, _⟩ => by omega⟩
  | succ k ih =>
    rw [pn_sum]
    constructor
    · intro h
      by_cases h0 : 0 < pn_sum F k
      · obtain ⟨j, a, b⟩ := ih.mp h0; exact ⟨j, by omega, b⟩
      · exact ⟨k, by omega, by omega⟩
    · rintro ⟨j, a, b⟩
      by_cases e : j = k
      · subst e; omega
      · have := ih.mpr ⟨j, by omega, b⟩; omega
theorem pn_sum_one {F : Nat → Nat} {t : Nat} : ∀ k, t < k → (∀ j, j < k → ¬ j = t → F j = 0) → pn_sum F k = F t := by
  intro k
  induction k with
  | zero => intro h; omega
  | succ k ih =>
    intro h h0
    rw [pn_sum]
    by_cases e : t = k
    · subst e; rw [pn_sum_z t (fun j hj => h0 j (by omega) (by omega)), Nat.zero_add]
    · rw [ih (by omega) (fun j hj hne => h0 j (by omega) hne), h0 k (by omega) (by omega), Nat.add_zero]
theorem pn_W_pos {V : Nat → Nat} {X j t : Nat} (hX : X < 128) (h7 : j ≤ 7) (hV : ∀ i, i < j → V i ≤ 20) (ht : t < 141) : 0 < pn_W V X j t ↔ ∃ S, S < 2 ^ j ∧ pn_sb S X ∧ pn_v V S j = t := by
  have h := pn_core hX (fun u => u = t) j h7 hV 0 141 (by omega)
  have h2 : pn_sum (fun u => if 0 + u = t then pn_W V X j u else 0) 141 = pn_W V X j t := by
    rw [pn_sum_one (t := t) 141 ht (fun u _ hu => if_neg (by omega))]
    exact if_pos (Nat.zero_add t)
  rw [h2] at h
  rw [← h, pn_sum_pos]
  constructor
  · rintro ⟨S, hS, hp⟩
    by_cases e : pn_sb S X ∧ 0 + pn_v V S j = t
    · exact ⟨S, hS, e.1, by omega⟩
    · rw [if_neg e] at hp; exact absurd hp (by decide)
  · rintro ⟨S, hS, h1, h2⟩
    exact ⟨S, hS, by rw [if_pos ⟨h1, by omega⟩]; decide⟩
section PWY
variable {n : Nat} {r g f : Nat → Int32}
def pn_V (r : Nat → Int32) (j : Nat) : Nat := pm_n (r (7 + 6 * j + 1))
theorem pn_addv {v : Nat} (hv : 1 ≤ v) : ∀ (k : Nat) (a : Int32) (wy : Nat → Int32) (t : Nat), (d_X11_addVoter_L1 v k a wy).2 t = if v ≤ t ∧ t < v + k then wy t + wy (t - v) else wy t := by
  intro k
  induction k with
  | zero => intro a wy t; rw [if_neg (by omega)]; rfl
  | succ k ih =>
    intro a wy t
    rw [d_X11_addVoter_L1, ih]
    by_cases h1 : v ≤ t ∧ t < v + k
    · rw [if_pos h1, if_pos (by omega), pk_un (by omega), pk_un (by omega)]
    · rw [if_neg h1]
      by_cases h2 : t = v + k
      · subst h2; rw [if_pos (by omega), pk_us, show v + k - v = k by omega]
      · rw [if_neg (by omega), pk_un h2]
theorem pn_cw1 : ∀ (k j : Nat) (wy : Nat → Int32) (t : Nat), d_X11_countWays_L1 k j wy t = if j ≤ t ∧ t < j + k then 0 else wy t := by
  intro k
  induction k with
  | zero => intro j wy t; rw [if_neg (by omega)]; rfl
  | succ k ih =>
    intro j wy t
    rw [d_X11_countWays_L1, ih]
    by_cases h1 : j + 1 ≤ t ∧ t < j + 1 + k
    · rw [if_pos h1, if_pos (by omega)]
    · rw [if_neg h1]
      by_cases h2 : t = j
      · subst h2; rw [if_pos (by omega), pk_us]
      · rw [if_neg (by omega), pk_un h2]
theorem pn_cw2 {X : Nat} (hX : X < 128) (hw : ∀ i, i < n → pm_rw r i) (h7 : n ≤ 7) : ∀ (k j : Nat) (wy : Nat → Int32), j + k = n → (∀ t, t < 141 → wy t = nI (pn_W (pn_V r) X j t)) → ∀ t, t < 141 → d_X11_countWays_L2 (nI X) r k j wy t = nI (pn_W (pn_V r) X n t) := by
  intro k
  induction k with
  | zero => intro j wy h hwy t ht; obtain rfl : j = n := (by omega); exact hwy t ht
  | succ k ih =>
    intro j wy h hwy t ht
    rw [d_X11_countWays_L2, pm_bt2 X hX j (by omega)]
    have hv := (hw j (by omega)).2.1
    rcases Nat.mod_two_eq_zero_or_one (X / 2 ^ j) with hb | hb
    · rw [hb, if_neg (show ¬ nI 0 = 1 by decide)]
      refine ih (j + 1) wy (by omega) (fun u hu => ?_) t ht
      rw [hwy u hu, pn_W, if_neg (by rw [hb]; decide)]
    · rw [hb, if_pos (show nI 1 = 1 from rfl)]
      refine ih (j + 1) _ (by omega) (fun u hu => ?_) t ht
      unfold d_X11_addVoter
      have hVj : pn_V r j = pm_n (r (7 + 6 * j + 1)) := rfl
      rw [pn_addv hv.2.1, pn_W, if_pos hb, hVj]
      by_cases h1 : pm_n (r (7 + 6 * j + 1)) ≤ u
      · rw [if_pos ⟨h1, by omega⟩, if_pos h1, hwy u hu, hwy _ (by omega), nI_add]
      · rw [if_neg (by omega), if_neg h1, hwy u hu, Nat.add_zero]
theorem pn_cw {X : Nat} {wy : Nat → Int32} (hX : X < 128) (hw : ∀ i, i < n → pm_rw r i) (h7 : n ≤ 7) {t : Nat} (ht : t < 141) : d_X11_countWays (nI X) n r wy t = nI (pn_W (pn_V r) X n t) := by
  refine pn_cw2 hX hw h7 n 0 _ (by omega) (fun u hu => ?_) t ht
  rw [pn_W]
  by_cases h0 : u = 0
  · subst h0; rw [pk_us]; rfl
  · rw [pk_un h0, pn_cw1, if_pos (by omega), if_neg h0]; rfl
theorem pn_voL {S : Nat} (hS : S < 128) (hw : ∀ i, i < n → pm_rw r i) (h7 : n ≤ 7) : ∀ (k j : Nat) (a : Int32), j + k = n → a = nI (pn_v (pn_V r) S j) → d_X11_votesOf_L1 (nI S) r k j a = nI (pn_v (pn_V r) S n) := by
  intro k
  induction k with
  | zero => intro j a h e; obtain rfl : j = n := (by omega); exact e
  | succ k ih =>
    intro j a h e
    rw [d_X11_votesOf_L1, pm_bt2 S hS j (by omega)]
    have hv := (hw j (by omega)).2.1
    rcases Nat.mod_two_eq_zero_or_one (S / 2 ^ j) with hb | hb
    · rw [hb, if_neg (show ¬ nI 0 = 1 by decide)]
      refine ih (j + 1) _ (by omega) ?_
      rw [e, pn_v, if_neg (by rw [hb]; decide)]; exact Int32.add_zero _
    · rw [hb, if_pos (show nI 1 = 1 from rfl)]
      refine ih (j + 1) _ (by omega) ?_
      rw [e, pn_v, if_pos hb, hv.1, nI_add]; rfl
theorem pn_vo {S : Nat} (hS : S < 128) (hw : ∀ i, i < n → pm_rw r i) (h7 : n ≤ 7) : d_X11_votesOf (nI S) n r = nI (pn_v (pn_V r) S n) := pn_voL hS hw h7 n 0 0 (by omega) rfl
theorem pn_VV (hw : ∀ i, i < n → pm_rw r i) : ∀ i, i < n → pn_V r i ≤ 20 := fun i hi => (hw i hi).2.1.2.2
theorem pn_swS {O i : Nat} (hO : O < 128) (hw : ∀ i, i < n → pm_rw r i) (h7 : n ≤ 7) (eo : d_X10_activeSet n r &&& (((1 : Int32) <<< (nI i &&& 31)) ^^^ (-1)) = nI O) : ∀ (k j a : Nat), j + k ≤ 128 → d_X11_swingsBySets_L1 i n r k j (nI a) = nI (a + pn_sum (fun S => if pn_sb (j + S) O ∧ ¬ d_X11_isSwing (nI (0 + pn_v (pn_V r) (j + S) n)) i n r = 0 then 1 else 0) k) := by
  intro k
  induction k with
  | zero => intro j a _; rfl
  | succ k ih =>
    intro j a h
    have e1 : ∀ x, x + pn_sum (fun S => if pn_sb (j + 1 + S) O ∧ ¬ d_X11_isSwing (nI (0 + pn_v (pn_V r) (j + 1 + S) n)) i n r = 0 then 1 else 0) k = x + pn_sum (fun S => (fun S => if pn_sb (j + S) O ∧ ¬ d_X11_isSwing (nI (0 + pn_v (pn_V r) (j + S) n)) i n r = 0 then 1 else 0) (1 + S)) k := fun x => by
      congr 1
      exact pn_sum_cg _ fun S _ => by simp only [show j + 1 + S = j + (1 + S) by omega]
    rw [show k + 1 = 1 + k by omega, pn_sum_two, show 1 + k = k + 1 by omega, d_X11_swingsBySets_L1, eo]
    have hsub := pm_subi j (by omega) O hO
    have hu : pn_sum (fun S => if pn_sb (j + S) O ∧ ¬ d_X11_isSwing (nI (0 + pn_v (pn_V r) (j + S) n)) i n r = 0 then 1 else 0) 1 = if pn_sb j O ∧ ¬ d_X11_isSwing (nI (pn_v (pn_V r) j n)) i n r = 0 then 1 else 0 := by
      show 0 + (if pn_sb (j + 0) O ∧ ¬ d_X11_isSwing (nI (0 + pn_v (pn_V r) (j + 0) n)) i n r = 0 then 1 else 0) = _
      rw [Nat.zero_add, Nat.zero_add, Nat.add_zero]
    rw [hu, pn_vo (by omega) hw h7]
    by_cases c1 : pn_sb j O
    · rw [if_pos (hsub.mpr c1)]
      by_cases c2 : d_X11_isSwing (nI (pn_v (pn_V r) j n)) i n r = 0
      · rw [if_pos c2, if_neg (fun e => e.2 c2), ih (j + 1) a (by omega), e1, Nat.zero_add]
      · rw [if_neg c2, if_pos ⟨c1, c2⟩, show nI a + Int32.ofInt 1 = nI (a + 1) from nI_add a 1, ih (j + 1) (a + 1) (by omega), e1, Nat.add_assoc]
    · rw [if_neg (fun e => c1 (hsub.mp e)), if_neg (fun e => c1 e.1), ih (j + 1) a (by omega), e1, Nat.zero_add]
theorem pn_swW {O i : Nat} {wy : Nat → Int32} (hO : O < 128) (hw : ∀ i, i < n → pm_rw r i) (h7 : n ≤ 7) (eo : d_X10_activeSet n r &&& (((1 : Int32) <<< (nI i &&& 31)) ^^^ (-1)) = nI O) : ∀ (k j a : Nat), j + k ≤ 141 → d_X11_swingsByWays_L1 i n r wy k j (nI a) = nI (a + pn_sum (fun t => if ¬ d_X11_isSwing (nI (0 + (j + t))) i n r = 0 then pn_W (pn_V r) O n (j + t) else 0) k) := by
  intro k
  induction k with
  | zero => intro j a _; rfl
  | succ k ih =>
    intro j a h
    have e1 : ∀ x, x + pn_sum (fun t => if ¬ d_X11_isSwing (nI (0 + (j + 1 + t))) i n r = 0 then pn_W (pn_V r) O n (j + 1 + t) else 0) k = x + pn_sum (fun S => (fun t => if ¬ d_X11_isSwing (nI (0 + (j + t))) i n r = 0 then pn_W (pn_V r) O n (j + t) else 0) (1 + S)) k := fun x => by
      congr 1
      exact pn_sum_cg _ fun S _ => by simp only [show j + 1 + S = j + (1 + S) by omega]
    rw [show k + 1 = 1 + k by omega, pn_sum_two, show 1 + k = k + 1 by omega, d_X11_swingsByWays_L1, eo]
    have hu : pn_sum (fun t => if ¬ d_X11_isSwing (nI (0 + (j + t))) i n r = 0 then pn_W (pn_V r) O n (j + t) else 0) 1 = if ¬ d_X11_isSwing (nI j) i n r = 0 then pn_W (pn_V r) O n j else 0 := by
      show 0 + (if ¬ d_X11_isSwing (nI (0 + (j + 0))) i n r = 0 then pn_W (pn_V r) O n (j + 0) else 0) = _
      rw [Nat.zero_add, Nat.zero_add, Nat.add_zero]
    rw [hu, pn_cw hO hw h7 (by omega)]
    by_cases c2 : d_X11_isSwing (nI j) i n r = 0
    · rw [if_pos c2, if_neg (fun e => e c2), ih (j + 1) a (by omega), e1, Nat.zero_add]
    · rw [if_neg c2, if_pos c2, nI_add, ih (j + 1) _ (by omega), e1, Nat.add_assoc]
theorem pn_swE {i : Nat} {wy : Nat → Int32} (hi : i < n) (hw : ∀ i, i < n → pm_rw r i) (h7 : n ≤ 7) : (d_X11_swingsByWays i n r wy).1 = d_X11_swingsBySets i n r := by
  obtain ⟨A, hA, e⟩ := pm_acN (r := r) h7 n 0 0 (by omega) (by decide)
  have h128 : 2 ^ n ≤ 128 := Nat.pow_le_pow_right (by decide) h7
  have ea : d_X10_activeSet n r = nI A := e
  obtain ⟨p1, p2, p3⟩ := pm_oth A (by omega) i (by omega)
  have eo : d_X10_activeSet n r &&& (((1 : Int32) <<< (nI i &&& 31)) ^^^ (-1)) = nI (A &&& (127 - 2 ^ i)) := by rw [ea]; exact p1
  have hO : A &&& (127 - 2 ^ i) < 128 := by omega
  show d_X11_swingsByWays_L1 i n r wy 141 0 (nI 0) = d_X11_swingsBySets_L1 i n r (2 ^ n) 0 (nI 0)
  rw [pn_swW hO hw h7 eo 141 0 0 (by omega), pn_swS hO hw h7 eo (2 ^ n) 0 0 (by omega)]
  have hc := pn_core hO (fun s => ¬ d_X11_isSwing (nI s) i n r = 0) n h7 (pn_VV hw) 0 141 (by omega)
  simp only [Nat.zero_add] at hc ⊢
  rw [hc]
/-! least difference -/
theorem pn_min1 (a b : Int32) : pm_min a b ≤ a := by
  unfold pm_min; split
  · rename_i h; exact Int32.le_of_lt h
  · exact Int32.le_refl a
theorem pn_min2 (a b : Int32) : pm_min a b ≤ b := by
  unfold pm_min; split
  · exact Int32.le_refl b
  · rename_i h; exact Int32.not_lt.mp h
theorem pn_min3 (a b : Int32) : pm_min a b = a ∨ pm_min a b = b := by
  unfold pm_min; split
  · exact Or.inr rfl
  · exact Or.inl rfl
def pn_isMin (a : Int32) (G : Nat → Int32) (p : Nat → Prop) (m : Int32) : Prop := m ≤ a ∧ (∀ v, p v → m ≤ G v) ∧ (m = a ∨ ∃ v, p v ∧ m = G v)
theorem pn_isMin_u {a : Int32} {G : Nat → Int32} {p : Nat → Prop} {m m' : Int32} (h : pn_isMin a G p m) (h' : pn_isMin a G p m') : m = m' := by
  obtain ⟨a1, a2, a3⟩ := h
  obtain ⟨b1, b2, b3⟩ := h'
  apply Int32.le_antisymm
  · rcases b3 with rfl | ⟨v, hv, rfl⟩
    · exact a1
    · exact a2 v hv
  · rcases a3 with rfl | ⟨v, hv, rfl⟩
    · exact b1
    · exact b2 v hv
theorem pn_dS {A : Nat} (hA : A < 128) (hw : ∀ i, i < n → pm_rw r i) (h7 : n ≤ 7) (ea : d_X10_activeSet n r = nI A) (G : Nat → Int32) (hG : ∀ v, G v = pm_abs (d_X11_votesOf (nI A) n r - 2 * nI v)) : ∀ (k j : Nat) (a : Int32), j + k ≤ 128 → pn_isMin a G (fun v => ∃ S, j ≤ S ∧ S < j + k ∧ pn_sb S A ∧ pn_v (pn_V r) S n = v) (d_X11_differenceBySets_L1 n r k j a) := by
  intro k
  induction k with
  | zero => intro j a _; exact ⟨Int32.le_refl _, fun v ⟨S, h1, h2, _⟩ => by omega, Or.inl rfl⟩
  | succ k ih =>
    intro j a h
    rw [d_X11_differenceBySets_L1, ea, pn_vo (S := j) (by omega) hw h7, ← hG]
    have hsub := pm_subi j (by omega) A hA
    by_cases c1 : pn_sb j A
    · rw [if_pos (hsub.mpr c1)]
      obtain ⟨x1, x2, x3⟩ := ih (j + 1) (pm_min a (G (pn_v (pn_V r) j n))) (by omega)
      refine ⟨Int32.le_trans x1 (pn_min1 _ _), ?_, ?_⟩
      · rintro v ⟨S, h1, h2, h3, h4⟩
        by_cases hSj : S = j
        · subst hSj; subst h4; exact Int32.le_trans x1 (pn_min2 _ _)
        · exact x2 v ⟨S, by omega, by omega, h3, h4⟩
      · rcases x3 with e | ⟨v, ⟨S, h1, h2, h3, h4⟩, e⟩
        · rcases pn_min3 a (G (pn_v (pn_V r) j n)) with e2 | e2
          · exact Or.inl (e.trans e2)
          · exact Or.inr ⟨_, ⟨j, by omega, by omega, c1, rfl⟩, e.trans e2⟩
        · exact Or.inr ⟨v, ⟨S, by omega, by omega, h3, h4⟩, e⟩
    · rw [if_neg (fun e => c1 (hsub.mp e))]
      obtain ⟨x1, x2, x3⟩ := ih (j + 1) a (by omega)
      refine ⟨x1, ?_, ?_⟩
      · rintro v ⟨S, h1, h2, h3, h4⟩
        by_cases hSj : S = j
        · subst hSj; exact absurd h3 c1
        · exact x2 v ⟨S, by omega, by omega, h3, h4⟩
      · rcases x3 with e | ⟨v, ⟨S, h1, h2, h3, h4⟩, e⟩
        · exact Or.inl e
        · exact Or.inr ⟨v, ⟨S, by omega, by omega, h3, h4⟩, e⟩
theorem pn_dW {A : Nat} {wy : Nat → Int32} (hA : A < 128) (hw : ∀ i, i < n → pm_rw r i) (h7 : n ≤ 7) (ea : d_X10_activeSet n r = nI A) (G : Nat → Int32) (hG : ∀ v, G v = pm_abs (d_X11_votesOf (nI A) n r - 2 * nI v)) : ∀ (k j : Nat) (a : Int32), j + k ≤ 141 → pn_isMin a G (fun v => j ≤ v ∧ v < j + k ∧ 0 < pn_W (pn_V r) A n v) (d_X11_differenceBySums_L1 n r wy k j a) := by
  have h128 : 2 ^ n ≤ 128 := Nat.pow_le_pow_right (by decide) h7
  intro k
  induction k with
  | zero => intro j a _; exact ⟨Int32.le_refl _, fun v ⟨h1, h2, _⟩ => by omega, Or.inl rfl⟩
  | succ k ih =>
    intro j a h
    have hle := pn_W_le (pn_V r) A n j
    rw [d_X11_differenceBySums_L1, ea, pn_cw hA hw h7 (by omega), ← hG]
    by_cases c1 : 0 < pn_W (pn_V r) A n j
    · rw [if_neg (show ¬ nI (pn_W (pn_V r) A n j) ≤ 0 from fun e => absurd (nI_lt (a := 0) c1 (by omega)) (Int32.not_lt.mpr e))]
      obtain ⟨x1, x2, x3⟩ := ih (j + 1) (pm_min a (G j)) (by omega)
      refine ⟨Int32.le_trans x1 (pn_min1 _ _), ?_, ?_⟩
      · rintro v ⟨h1, h2, h3⟩
        by_cases hv : v = j
        · subst hv; exact Int32.le_trans x1 (pn_min2 _ _)
        · exact x2 v ⟨by omega, by omega, h3⟩
      · rcases x3 with e | ⟨v, ⟨h1, h2, h3⟩, e⟩
        · rcases pn_min3 a (G j) with e2 | e2
          · exact Or.inl (e.trans e2)
          · exact Or.inr ⟨_, ⟨by omega, by omega, c1⟩, e.trans e2⟩
        · exact Or.inr ⟨v, ⟨by omega, by omega, h3⟩, e⟩
    · rw [show pn_W (pn_V r) A n j = 0 by omega, if_pos (by decide)]
      obtain ⟨x1, x2, x3⟩ := ih (j + 1) a (by omega)
      refine ⟨x1, ?_, ?_⟩
      · rintro v ⟨h1, h2, h3⟩
        by_cases hv : v = j
        · subst hv; exact absurd h3 c1
        · exact x2 v ⟨by omega, by omega, h3⟩
      · rcases x3 with e | ⟨v, ⟨h1, h2, h3⟩, e⟩
        · exact Or.inl e
        · exact Or.inr ⟨v, ⟨by omega, by omega, h3⟩, e⟩
theorem pn_v_le {S : Nat} {V : Nat → Nat} : ∀ j, (∀ i, i < j → V i ≤ 20) → pn_v V S j ≤ 20 * j := by
  intro j
  induction j with
  | zero => intro _; exact Nat.le_refl _
  | succ j ih =>
    intro h
    have h1 := ih (fun i hi => h i (by omega))
    have h2 := h j (by omega)
    rw [pn_v]; split <;> omega
theorem pn_dE {wy : Nat → Int32} (hw : ∀ i, i < n → pm_rw r i) (h7 : n ≤ 7) : (d_X11_differenceBySums n r wy).1 = d_X11_differenceBySets n r := by
  obtain ⟨A, hA, e⟩ := pm_acN (r := r) h7 n 0 0 (by omega) (by decide)
  have h128 : 2 ^ n ≤ 128 := Nat.pow_le_pow_right (by decide) h7
  have ea : d_X10_activeSet n r = nI A := e
  have hS := pn_dS (A := A) (by omega) hw h7 ea _ (fun v => rfl) (2 ^ n) 0 (d_X11_votesOf (d_X10_activeSet n r) n r) (by omega)
  have hW := pn_dW (A := A) (wy := wy) (by omega) hw h7 ea _ (fun v => rfl) 141 0 (d_X11_votesOf (d_X10_activeSet n r) n r) (by omega)
  refine pn_isMin_u hW ?_
  obtain ⟨x1, x2, x3⟩ := hS
  refine ⟨x1, ?_, ?_⟩
  · rintro v ⟨_, h2, h3⟩
    obtain ⟨S, s1, s2, s3⟩ := (pn_W_pos (by omega) h7 (pn_VV hw) (by omega)).mp h3
    exact x2 v ⟨S, by omega, by omega, s2, s3⟩
  · rcases x3 with e | ⟨v, ⟨S, s1, s2, s3, s4⟩, e⟩
    · exact Or.inl e
    · have hv : v < 141 := by
        have := pn_v_le (S := S) n (pn_VV hw)
        omega
      exact Or.inr ⟨v, ⟨by omega, by omega, (pn_W_pos (by omega) h7 (pn_VV hw) hv).mpr ⟨S, by omega, s3, s4⟩⟩, e⟩
theorem pn_a_swc {x : Int32} {to wy : Nat → Int32} (hRS : pm_RS n r g) (hw : ∀ i, i < n → pm_rw r i) (h7 : n ≤ 7) : pm_AS (d_X12_swingsByCounts x n r wy to).1 (d_X12_swingsByCounts x n r wy to).2.1 ((d_X13_swingsByCounts x n f g).2 6) (d_X13_swingsByCounts x n f g).1 [(1, 1), (4, 2)] := by
  have h := pm_a_swings (x := x) (to := to) (f := f) hRS hw h7
  have e : (d_X12_swingsByCounts x n r wy to).1 = (d_X12_swings x n r to).1 ∧ (d_X12_swingsByCounts x n r wy to).2.1 = (d_X12_swings x n r to).2 := by
    unfold d_X12_swingsByCounts d_X12_swings
    by_cases hm : d_X10_hasMember x n r = 0
    · rw [if_pos hm, if_pos hm]; exact ⟨rfl, rfl⟩
    · rw [if_neg hm, if_neg hm]
      obtain ⟨i, hi, rfl⟩ := pm_hmx h7 hm
      rw [pm_n_nI (by omega)]
      split
      · exact ⟨rfl, pn_swE hi hw h7⟩
      · exact ⟨rfl, rfl⟩
  rw [e.1, e.2]
  exact h
end PWY

set_option maxHeartbeats 1000000 in
theorem pm_op_31 {l : Launch} {z : Nat} {D : va_G} {kA : Nat → ClassId} {kE : Nat → Nat} {nm : String} {tb : List ExceptionTableEntry} {mc ms : Nat} {X : pm_X} {cu su : Nat} {Q : State → Prop} {nx : Nat} {M : pm_M} {b N i Bd : Nat} {xs : Nat → Int32} (B : pm_B l z D kA kE RL code 9 ret nm tb 2048 mc ms X) (hXs : va_X b N xs X.2.2.2.1 X.2.2.2.1.heap) (hbz : b < z) (hiN : i + 4 ≤ N) (hN : N ≤ 2048) (hcu : cu + 25 ≤ mc) (hsu : su + 78 ≤ ms) (hJ : pm_J z kA kE nx M Bd)
    (next : ∀ nx' M', nx ≤ nx' → pm_J z kA kE nx' M' (Bd + 693 * 11) → pm_G l z D X (cu + 25) (su + 78) Q nx' M' 2623 [some (.ref b), some (.ref (z + 0)), some (.ref (z + 140)), some (.ref (z + 149)), some (.ref (z + 150)), some (.int (nI i)), none, none, none] []) : pm_G l z D X cu su Q nx M 1798 [some (.ref b), some (.ref (z + 0)), some (.ref (z + 140)), some (.ref (z + 149)), some (.ref (z + 150)), some (.int (nI i)), none, none, none] [] := by
  obtain ⟨hnx, g, h, L, fo, fd, hT, hTM, hL, h149, h150, hRel⟩ := hJ
  obtain ⟨⟨n, hRS, hI⟩, ⟨ho, hk8, hf5, -⟩, -⟩ := id hRel
  have hn := hI.1.1
  have h7 := hI.1.2.1
  have hgn : h.2 1 0 = nI n := hRS.1.1.trans hn
  have hsd := hI.1.2.2.2.1
  have hgd : h.2 1 2 = nI (pm_n (h.2 1 2)) := by rw [hRS.1.2.2.1]; exact hsd.1
  have hgl : pm_n (h.2 1 2) < 1024 := by rw [hRS.1.2.2.1]; exact hsd.2
  have hC := pm_nas (hl := []) (hn := []) (th := 0) (mv := (d_X13_leastDifferenceBySums n h.1 (h.2 1)).1) (f_X12_leastDifferenceBySums (l := l) (D := D) hT hn h7 hI.2.1) hL (Or.inl ⟨rfl, rfl, by exact (pn_dE hI.2.1 h7).trans (pm_a_dif (f := h.1) hRS hI.2.1 h7)⟩) (fun e he => absurd he List.not_mem_nil)
  refine pm_lw_31 (Bd := Bd) (L := L) (fo := fo) (fd := fd) (N := N) (xs := xs) (dW := 20) (mcW := 2) (msW := 12) (dX := 4) (h2 := (pm_hf h ((d_X13_leastDifferenceBySums n h.1 (h.2 1)).2))) (mv := (d_X13_leastDifferenceBySums n h.1 (h.2 1)).1) rfl (by decide) (by decide) rfl B hcu hsu hnx hT hTM h149 h150 hC (fun n' M' hT' => ⟨_, c_X13_leastDifferenceBySums hT'.1 hT'.2.1 hgn h7, (pm_TM_f hT'), fun a ha => by rw [pm_up_n (by omega)]⟩) (fun v g2 L2 hR => ?_) next
  obtain ⟨rfl, rfl, e6, hv⟩ := hR
  exact ⟨hv rfl, pm_Rel_le (by omega) (pm_Rel_cg hRel (fun j hj => by rcases hj with rfl | rfl | rfl | rfl | rfl | rfl <;> rfl) rfl rfl (fun j hj => pk_un (by omega)) (fun j hj => by rcases hj with rfl | rfl | rfl | rfl | rfl <;> rfl))⟩
set_option maxHeartbeats 1000000 in
theorem pm_op_29 {l : Launch} {z : Nat} {D : va_G} {kA : Nat → ClassId} {kE : Nat → Nat} {nm : String} {tb : List ExceptionTableEntry} {mc ms : Nat} {X : pm_X} {cu su : Nat} {Q : State → Prop} {nx : Nat} {M : pm_M} {b N i Bd : Nat} {xs : Nat → Int32} (B : pm_B l z D kA kE RL code 9 ret nm tb 2048 mc ms X) (hXs : va_X b N xs X.2.2.2.1 X.2.2.2.1.heap) (hbz : b < z) (hiN : i + 4 ≤ N) (hN : N ≤ 2048) (hcu : cu + 25 ≤ mc) (hsu : su + 78 ≤ ms) (hJ : pm_J z kA kE nx M Bd)
    (next : ∀ nx' M', nx ≤ nx' → pm_J z kA kE nx' M' (Bd + 693 * 11) → pm_G l z D X (cu + 25) (su + 78) Q nx' M' 2623 [some (.ref b), some (.ref (z + 0)), some (.ref (z + 140)), some (.ref (z + 149)), some (.ref (z + 150)), some (.int (nI i)), none, none, none] []) : pm_G l z D X cu su Q nx M 1729 [some (.ref b), some (.ref (z + 0)), some (.ref (z + 140)), some (.ref (z + 149)), some (.ref (z + 150)), some (.int (nI i)), none, none, none] [] := by
  obtain ⟨hnx, g, h, L, fo, fd, hT, hTM, hL, h149, h150, hRel⟩ := hJ
  obtain ⟨⟨n, hRS, hI⟩, ⟨ho, hk8, hf5, -⟩, -⟩ := id hRel
  have hn := hI.1.1
  have h7 := hI.1.2.1
  have hgn : h.2 1 0 = nI n := hRS.1.1.trans hn
  have hsd := hI.1.2.2.2.1
  have hgd : h.2 1 2 = nI (pm_n (h.2 1 2)) := by rw [hRS.1.2.2.1]; exact hsd.1
  have hgl : pm_n (h.2 1 2) < 1024 := by rw [hRS.1.2.2.1]; exact hsd.2
  obtain ⟨-, -, hRs, hRt, hRf, hRl, hR9, hR10, hR11, hR1, hR2⟩ := id hRel
  have hC := pm_nas (hl := [("java/lang/IndexOutOfBoundsException", 1), ("java/util/NoSuchElementException", 2)]) (hn := [(1, 1), (4, 2)]) (f_X12_swingsByCounts (l := l) (D := D) (x := xs (i + 1)) hT hn h7 hI.2.1) hL (pn_a_swc (f := h.1) (wy := g.1 6) (to := g.1 12) hRS hI.2.1 h7) (by decide +kernel)
  refine pm_lw_29 (Bd := Bd) (L := L) (fo := fo) (fd := fd) (N := N) (xs := xs) (dW := 21) (mcW := 2) (msW := 12) (dX := 4) (h2 := (pm_hf h ((d_X13_swingsByCounts (xs (i + 1)) n h.1 (h.2 1)).2))) (mv := (d_X13_swingsByCounts (xs (i + 1)) n h.1 (h.2 1)).1) rfl (by decide) (by decide) rfl B hXs hbz hiN hN hcu hsu hnx hT h150
    (pm_CwPost (c_L_swingsByCounts (w := 149) (N := 1) (f := fo) (by decide) (by decide) hT.1 hC (fun v n' M1 hp => ⟨pm_clV hp, (hp.1 149 (by decide) (by omega)).trans h149⟩) (fun E n' M1 hp => by
      obtain ⟨e, he, rfl⟩ := pm_clE hp
      simp only [List.mem_cons, List.not_mem_nil, or_false] at he
      rcases he with he | he <;> rw [he] <;> simp)) (fun o n' M' hp => pm_wrN hTM h149 hnx (by decide +kernel) (by decide +kernel) hp))
    (fun n' M' hT' => ⟨_, c_X13_swingsByCounts hT'.1 hT'.2.1 hgn h7, (pm_TM_f hT'), fun a ha => by rw [pm_up_n (by omega)]⟩) (fun kc v g2 L2 hR => ?_) next
  obtain ⟨rfl, rfl, e6, hv⟩ := hR
  exact ⟨e6.symm, hv, pm_Rel_le (by omega) (pm_Rel_cg hRel (fun j hj => by rcases hj with rfl | rfl | rfl | rfl | rfl | rfl <;> rfl) rfl rfl (fun j hj => pm_fr_swings (by omega)) (fun j hj => by rcases hj with rfl | rfl | rfl | rfl | rfl <;> rfl))⟩
