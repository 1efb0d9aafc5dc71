/-! a State's eleven cells from b on as one row r: 0..6 its ints, 7 + 6 i + k the member i's k-th, 49 + j the partners of j -/
def pm_mr (z b : Nat) : Nat → Option Nat := fun i => if i < 7 then some (z + (b + 2 + i)) else none
theorem pm_mr_at {z b i : Nat} (h : i < 7) : va_rf (pm_mr z b i) = .ref (z + (b + 2 + i)) := by rw [pm_mr, if_pos h]; rfl
abbrev pm_mbr (r : Nat → Int32) (i : Nat) : va_E := pm_mb (r (7 + 6 * i + 0)) (r (7 + 6 * i + 1)) (r (7 + 6 * i + 2)) (r (7 + 6 * i + 3)) (r (7 + 6 * i + 4)) (r (7 + 6 * i + 5))
abbrev pm_so (z b : Nat) (r : Nat → Int32) : va_E := .inr (8, [.ref (z + (b + 1)), .ref (z + (b + 9)), .int (r 0), .int (r 1), .int (r 2), .int (r 3), .int (r 4), .int (r 5), .int (r 6)])
def pm_SA (z : Nat) (kA : Nat → ClassId) (b : Nat) (M : pm_M) (r : Nat → Int32) : Prop :=
  M b = some (pm_so z b r) ∧ M (b + 1) = some (.inl (kA 6, 7, .inr (.inr (.inr (.inr (pm_mr z b)))))) ∧ (∀ i, i < 7 → M (b + 2 + i) = some (pm_mbr r i)) ∧
  M (b + 9) = some (.inr (3, [.ref (z + (b + 10))])) ∧ M (b + 10) = some (.inl (kA 0, 7, .inl (fun j => r (49 + j))))
def pm_sw (z : Nat) (kA : Nat → ClassId) (b : Nat) (M : pm_M) (r : Nat → Int32) : pm_M := fun x =>
  if x = b then some (pm_so z b r) else if x = b + 1 then some (.inl (kA 6, 7, .inr (.inr (.inr (.inr (pm_mr z b)))))) else if x = b + 9 then some (.inr (3, [.ref (z + (b + 10))]))
  else if x = b + 10 then some (.inl (kA 0, 7, .inl (fun j => r (49 + j)))) else if b ≤ x ∧ x < b + 11 then some (pm_mbr r (x - (b + 2))) else M x
section SA
variable {z b a : Nat} {kA : Nat → ClassId} {M M1 : pm_M} {r r' : Nat → Int32} {e : va_E}
theorem pm_swS : pm_SA z kA b (pm_sw z kA b M r) r := by
  refine ⟨?_, ?_, ?_, ?_, ?_⟩
  · simp [pm_sw]
  · simp [pm_sw]
  · intro i hi
    unfold pm_sw
    rw [if_neg (by omega), if_neg (by omega), if_neg (by omega), if_neg (by omega), if_pos (by omega), Nat.add_sub_cancel_left]
  · simp [pm_sw]
  · simp [pm_sw]
theorem pm_sw_n {x : Nat} (h : x < b ∨ b + 11 ≤ x) : pm_sw z kA b M r x = M x := by
  unfold pm_sw
  rw [if_neg (by omega), if_neg (by omega), if_neg (by omega), if_neg (by omega), if_neg (by omega)]
/-- a memory that holds the row, and elsewhere what M holds -/
theorem pm_sw_ext (hS : pm_SA z kA b M1 r) (hn : ∀ x, x < b ∨ b + 11 ≤ x → M1 x = M x) : M1 = pm_sw z kA b M r := by
  obtain ⟨h1, h2, h3, h4, h5⟩ := hS
  obtain ⟨g1, g2, g3, g4, g5⟩ := pm_swS (z := z) (b := b) (kA := kA) (M := M) (r := r)
  funext x
  by_cases h : x < b ∨ b + 11 ≤ x
  · rw [hn x h, pm_sw_n h]
  · by_cases e1 : x = b
    · rw [e1, h1, g1]
    · by_cases e2 : x = b + 1
      · rw [e2, h2, g2]
      · by_cases e3 : x = b + 9
        · rw [e3, h4, g4]
        · by_cases e4 : x = b + 10
          · rw [e4, h5, g5]
          · obtain ⟨i, hi, rfl⟩ : ∃ i, i < 7 ∧ x = b + 2 + i := ⟨x - (b + 2), by omega, by omega⟩
            rw [h3 i hi, g3 i hi]
theorem pm_sw_id (hS : pm_SA z kA b M r) : pm_sw z kA b M r = M := (pm_sw_ext hS (fun _ _ => rfl)).symm
theorem pm_sw_sw : pm_sw z kA b (pm_sw z kA b M r) r' = pm_sw z kA b M r' := pm_sw_ext pm_swS (fun _ h => (pm_sw_n h).trans (pm_sw_n h))
/-- the row elsewhere than at a -/
theorem pm_SA_up (h : a < b ∨ b + 11 ≤ a) (hS : pm_SA z kA b M r) : pm_SA z kA b (pm_up M a e) r := by
  obtain ⟨h1, h2, h3, h4, h5⟩ := hS
  exact ⟨(pm_up_n (by omega)).trans h1, (pm_up_n (by omega)).trans h2, fun i hi => (pm_up_n (by omega)).trans (h3 i hi), (pm_up_n (by omega)).trans h4, (pm_up_n (by omega)).trans h5⟩
theorem pm_SA_sw {b2 : Nat} {r2 : Nat → Int32} (h : b2 + 11 ≤ b ∨ b + 11 ≤ b2) (hS : pm_SA z kA b M r) : pm_SA z kA b (pm_sw z kA b2 M r2) r := by
  obtain ⟨h1, h2, h3, h4, h5⟩ := hS
  exact ⟨(pm_sw_n (by omega)).trans h1, (pm_sw_n (by omega)).trans h2, fun i hi => (pm_sw_n (by omega)).trans (h3 i hi), (pm_sw_n (by omega)).trans h4, (pm_sw_n (by omega)).trans h5⟩
theorem pm_sw_c (h : a < b ∨ b + 11 ≤ a) : pm_up (pm_sw z kA b M r) a e = pm_sw z kA b (pm_up M a e) r := by
  refine pm_sw_ext (pm_SA_up h pm_swS) fun x hx => ?_
  by_cases hxa : x = a
  · subst hxa; rw [pm_up_s, pm_up_s]
  · rw [pm_up_n hxa, pm_up_n hxa, pm_sw_n hx]
theorem pm_swF (F : pm_SA z kA b (pm_up (pm_sw z kA b M r) a e) r') (h : b ≤ a ∧ a < b + 11) : pm_up (pm_sw z kA b M r) a e = pm_sw z kA b M r' :=
  pm_sw_ext F fun x hx => (pm_up_n (by omega)).trans (pm_sw_n hx)
theorem pm_mbr_eq {i : Nat} (h : ∀ k, k < 6 → r (7 + 6 * i + k) = r' (7 + 6 * i + k)) : pm_mbr r i = pm_mbr r' i := by
  simp only [pm_mbr]
  rw [h 0 (by decide), h 1 (by decide), h 2 (by decide), h 3 (by decide), h 4 (by decide), h 5 (by decide)]
theorem pm_sw_f0 {v : Int32} : pm_up (pm_sw z kA b M r) b (.inr (8, [.ref (z + (b + 1)), .ref (z + (b + 9)), .int v, .int (r 1), .int (r 2), .int (r 3), .int (r 4), .int (r 5), .int (r 6)])) = pm_sw z kA b M (upd r 0 v) := by
  obtain ⟨h1, h2, h3, h4, h5⟩ := pm_swS (z := z) (b := b) (kA := kA) (M := M) (r := r)
  refine pm_swF ⟨pm_up_s, (pm_up_n (by omega)).trans h2, fun i hi => (pm_up_n (by omega)).trans ((h3 i hi).trans (congrArg some (pm_mbr_eq fun q _ => (pk_un (by omega)).symm))), (pm_up_n (by omega)).trans h4, (pm_up_n (by omega)).trans (h5.trans ?_)⟩ (by omega)
  rw [show (fun j => r (49 + j)) = (fun j => upd r 0 v (49 + j)) from funext fun j => (pk_un (by omega)).symm]
theorem pm_sw_f1 {v : Int32} : pm_up (pm_sw z kA b M r) b (.inr (8, [.ref (z + (b + 1)), .ref (z + (b + 9)), .int (r 0), .int v, .int (r 2), .int (r 3), .int (r 4), .int (r 5), .int (r 6)])) = pm_sw z kA b M (upd r 1 v) := by
  obtain ⟨h1, h2, h3, h4, h5⟩ := pm_swS (z := z) (b := b) (kA := kA) (M := M) (r := r)
  refine pm_swF ⟨pm_up_s, (pm_up_n (by omega)).trans h2, fun i hi => (pm_up_n (by omega)).trans ((h3 i hi).trans (congrArg some (pm_mbr_eq fun q _ => (pk_un (by omega)).symm))), (pm_up_n (by omega)).trans h4, (pm_up_n (by omega)).trans (h5.trans ?_)⟩ (by omega)
  rw [show (fun j => r (49 + j)) = (fun j => upd r 1 v (49 + j)) from funext fun j => (pk_un (by omega)).symm]
theorem pm_sw_f2 {v : Int32} : pm_up (pm_sw z kA b M r) b (.inr (8, [.ref (z + (b + 1)), .ref (z + (b + 9)), .int (r 0), .int (r 1), .int v, .int (r 3), .int (r 4), .int (r 5), .int (r 6)])) = pm_sw z kA b M (upd r 2 v) := by
  obtain ⟨h1, h2, h3, h4, h5⟩ := pm_swS (z := z) (b := b) (kA := kA) (M := M) (r := r)
  refine pm_swF ⟨pm_up_s, (pm_up_n (by omega)).trans h2, fun i hi => (pm_up_n (by omega)).trans ((h3 i hi).trans (congrArg some (pm_mbr_eq fun q _ => (pk_un (by omega)).symm))), (pm_up_n (by omega)).trans h4, (pm_up_n (by omega)).trans (h5.trans ?_)⟩ (by omega)
  rw [show (fun j => r (49 + j)) = (fun j => upd r 2 v (49 + j)) from funext fun j => (pk_un (by omega)).symm]
theorem pm_sw_f3 {v : Int32} : pm_up (pm_sw z kA b M r) b (.inr (8, [.ref (z + (b + 1)), .ref (z + (b + 9)), .int (r 0), .int (r 1), .int (r 2), .int v, .int (r 4), .int (r 5), .int (r 6)])) = pm_sw z kA b M (upd r 3 v) := by
  obtain ⟨h1, h2, h3, h4, h5⟩ := pm_swS (z := z) (b := b) (kA := kA) (M := M) (r := r)
  refine pm_swF ⟨pm_up_s, (pm_up_n (by omega)).trans h2, fun i hi => (pm_up_n (by omega)).trans ((h3 i hi).trans (congrArg some (pm_mbr_eq fun q _ => (pk_un (by omega)).symm))), (pm_up_n (by omega)).trans h4, (pm_up_n (by omega)).trans (h5.trans ?_)⟩ (by omega)
  rw [show (fun j => r (49 + j)) = (fun j => upd r 3 v (49 + j)) from funext fun j => (pk_un (by omega)).symm]
theorem pm_sw_f4 {v : Int32} : pm_up (pm_sw z kA b M r) b (.inr (8, [.ref (z + (b + 1)), .ref (z + (b + 9)), .int (r 0), .int (r 1), .int (r 2), .int (r 3), .int v, .int (r 5), .int (r 6)])) = pm_sw z kA b M (upd r 4 v) := by
  obtain ⟨h1, h2, h3, h4, h5⟩ := pm_swS (z := z) (b := b) (kA := kA) (M := M) (r := r)
  refine pm_swF ⟨pm_up_s, (pm_up_n (by omega)).trans h2, fun i hi => (pm_up_n (by omega)).trans ((h3 i hi).trans (congrArg some (pm_mbr_eq fun q _ => (pk_un (by omega)).symm))), (pm_up_n (by omega)).trans h4, (pm_up_n (by omega)).trans (h5.trans ?_)⟩ (by omega)
  rw [show (fun j => r (49 + j)) = (fun j => upd r 4 v (49 + j)) from funext fun j => (pk_un (by omega)).symm]
theorem pm_sw_f5 {v : Int32} : pm_up (pm_sw z kA b M r) b (.inr (8, [.ref (z + (b + 1)), .ref (z + (b + 9)), .int (r 0), .int (r 1), .int (r 2), .int (r 3), .int (r 4), .int v, .int (r 6)])) = pm_sw z kA b M (upd r 5 v) := by
  obtain ⟨h1, h2, h3, h4, h5⟩ := pm_swS (z := z) (b := b) (kA := kA) (M := M) (r := r)
  refine pm_swF ⟨pm_up_s, (pm_up_n (by omega)).trans h2, fun i hi => (pm_up_n (by omega)).trans ((h3 i hi).trans (congrArg some (pm_mbr_eq fun q _ => (pk_un (by omega)).symm))), (pm_up_n (by omega)).trans h4, (pm_up_n (by omega)).trans (h5.trans ?_)⟩ (by omega)
  rw [show (fun j => r (49 + j)) = (fun j => upd r 5 v (49 + j)) from funext fun j => (pk_un (by omega)).symm]
theorem pm_sw_f6 {v : Int32} : pm_up (pm_sw z kA b M r) b (.inr (8, [.ref (z + (b + 1)), .ref (z + (b + 9)), .int (r 0), .int (r 1), .int (r 2), .int (r 3), .int (r 4), .int (r 5), .int v])) = pm_sw z kA b M (upd r 6 v) := by
  obtain ⟨h1, h2, h3, h4, h5⟩ := pm_swS (z := z) (b := b) (kA := kA) (M := M) (r := r)
  refine pm_swF ⟨pm_up_s, (pm_up_n (by omega)).trans h2, fun i hi => (pm_up_n (by omega)).trans ((h3 i hi).trans (congrArg some (pm_mbr_eq fun q _ => (pk_un (by omega)).symm))), (pm_up_n (by omega)).trans h4, (pm_up_n (by omega)).trans (h5.trans ?_)⟩ (by omega)
  rw [show (fun j => r (49 + j)) = (fun j => upd r 6 v (49 + j)) from funext fun j => (pk_un (by omega)).symm]
theorem pm_sw_m0 {v : Int32} {i : Nat} (hi : i < 7) (ha : a = b + 2 + i) : pm_up (pm_sw z kA b M r) a (.inr (4, [.int v, .int (r (7 + 6 * i + 1)), .int (r (7 + 6 * i + 2)), .int (r (7 + 6 * i + 3)), .int (r (7 + 6 * i + 4)), .int (r (7 + 6 * i + 5))])) = pm_sw z kA b M (upd r (7 + 6 * i + 0) v) := by
  subst ha
  obtain ⟨h1, h2, h3, h4, h5⟩ := pm_swS (z := z) (b := b) (kA := kA) (M := M) (r := r)
  refine pm_swF ⟨(pm_up_n (by omega)).trans (h1.trans ?_), (pm_up_n (by omega)).trans h2, fun q hq => ?_, (pm_up_n (by omega)).trans h4, (pm_up_n (by omega)).trans (h5.trans ?_)⟩ (by omega)
  · simp only [pm_so]
    rw [pk_un (f := r) (x := v) (show 0 ≠ 7 + 6 * i + 0 from by omega), pk_un (f := r) (x := v) (show 1 ≠ 7 + 6 * i + 0 from by omega), pk_un (f := r) (x := v) (show 2 ≠ 7 + 6 * i + 0 from by omega), pk_un (f := r) (x := v) (show 3 ≠ 7 + 6 * i + 0 from by omega), pk_un (f := r) (x := v) (show 4 ≠ 7 + 6 * i + 0 from by omega), pk_un (f := r) (x := v) (show 5 ≠ 7 + 6 * i + 0 from by omega), pk_un (f := r) (x := v) (show 6 ≠ 7 + 6 * i + 0 from by omega)]
  · by_cases hqi : q = i
    · subst hqi
      rw [pm_up_s]
      simp only [pm_mbr, pm_mb]
      rw [pk_us, pk_un (f := r) (x := v) (show 7 + 6 * q + 1 ≠ 7 + 6 * q + 0 from by omega), pk_un (f := r) (x := v) (show 7 + 6 * q + 2 ≠ 7 + 6 * q + 0 from by omega), pk_un (f := r) (x := v) (show 7 + 6 * q + 3 ≠ 7 + 6 * q + 0 from by omega), pk_un (f := r) (x := v) (show 7 + 6 * q + 4 ≠ 7 + 6 * q + 0 from by omega), pk_un (f := r) (x := v) (show 7 + 6 * q + 5 ≠ 7 + 6 * q + 0 from by omega)]
    · rw [pm_up_n (by omega), h3 q hq]
      exact congrArg some (pm_mbr_eq fun p hp => (pk_un (by omega)).symm)
  · rw [show (fun j => r (49 + j)) = (fun j => upd r (7 + 6 * i + 0) v (49 + j)) from funext fun j => (pk_un (by omega)).symm]
theorem pm_sw_m1 {v : Int32} {i : Nat} (hi : i < 7) (ha : a = b + 2 + i) : pm_up (pm_sw z kA b M r) a (.inr (4, [.int (r (7 + 6 * i + 0)), .int v, .int (r (7 + 6 * i + 2)), .int (r (7 + 6 * i + 3)), .int (r (7 + 6 * i + 4)), .int (r (7 + 6 * i + 5))])) = pm_sw z kA b M (upd r (7 + 6 * i + 1) v) := by
  subst ha
  obtain ⟨h1, h2, h3, h4, h5⟩ := pm_swS (z := z) (b := b) (kA := kA) (M := M) (r := r)
  refine pm_swF ⟨(pm_up_n (by omega)).trans (h1.trans ?_), (pm_up_n (by omega)).trans h2, fun q hq => ?_, (pm_up_n (by omega)).trans h4, (pm_up_n (by omega)).trans (h5.trans ?_)⟩ (by omega)
  · simp only [pm_so]
    rw [pk_un (f := r) (x := v) (show 0 ≠ 7 + 6 * i + 1 from by omega), pk_un (f := r) (x := v) (show 1 ≠ 7 + 6 * i + 1 from by omega), pk_un (f := r) (x := v) (show 2 ≠ 7 + 6 * i + 1 from by omega), pk_un (f := r) (x := v) (show 3 ≠ 7 + 6 * i + 1 from by omega), pk_un (f := r) (x := v) (show 4 ≠ 7 + 6 * i + 1 from by omega), pk_un (f := r) (x := v) (show 5 ≠ 7 + 6 * i + 1 from by omega), pk_un (f := r) (x := v) (show 6 ≠ 7 + 6 * i + 1 from by omega)]
  · by_cases hqi : q = i
    · subst hqi
      rw [pm_up_s]
      simp only [pm_mbr, pm_mb]
      rw [pk_un (f := r) (x := v) (show 7 + 6 * q + 0 ≠ 7 + 6 * q + 1 from by omega), pk_us, pk_un (f := r) (x := v) (show 7 + 6 * q + 2 ≠ 7 + 6 * q + 1 from by omega), pk_un (f := r) (x := v) (show 7 + 6 * q + 3 ≠ 7 + 6 * q + 1 from by omega), pk_un (f := r) (x := v) (show 7 + 6 * q + 4 ≠ 7 + 6 * q + 1 from by omega), pk_un (f := r) (x := v) (show 7 + 6 * q + 5 ≠ 7 + 6 * q + 1 from by omega)]
    · rw [pm_up_n (by omega), h3 q hq]
      exact congrArg some (pm_mbr_eq fun p hp => (pk_un (by omega)).symm)
  · rw [show (fun j => r (49 + j)) = (fun j => upd r (7 + 6 * i + 1) v (49 + j)) from funext fun j => (pk_un (by omega)).symm]
theorem pm_sw_m2 {v : Int32} {i : Nat} (hi : i < 7) (ha : a = b + 2 + i) : pm_up (pm_sw z kA b M r) a (.inr (4, [.int (r (7 + 6 * i + 0)), .int (r (7 + 6 * i + 1)), .int v, .int (r (7 + 6 * i + 3)), .int (r (7 + 6 * i + 4)), .int (r (7 + 6 * i + 5))])) = pm_sw z kA b M (upd r (7 + 6 * i + 2) v) := by
  subst ha
  obtain ⟨h1, h2, h3, h4, h5⟩ := pm_swS (z := z) (b := b) (kA := kA) (M := M) (r := r)
  refine pm_swF ⟨(pm_up_n (by omega)).trans (h1.trans ?_), (pm_up_n (by omega)).trans h2, fun q hq => ?_, (pm_up_n (by omega)).trans h4, (pm_up_n (by omega)).trans (h5.trans ?_)⟩ (by omega)
  · simp only [pm_so]
    rw [pk_un (f := r) (x := v) (show 0 ≠ 7 + 6 * i + 2 from by omega), pk_un (f := r) (x := v) (show 1 ≠ 7 + 6 * i + 2 from by omega), pk_un (f := r) (x := v) (show 2 ≠ 7 + 6 * i + 2 from by omega), pk_un (f := r) (x := v) (show 3 ≠ 7 + 6 * i + 2 from by omega), pk_un (f := r) (x := v) (show 4 ≠ 7 + 6 * i + 2 from by omega), pk_un (f := r) (x := v) (show 5 ≠ 7 + 6 * i + 2 from by omega), pk_un (f := r) (x := v) (show 6 ≠ 7 + 6 * i + 2 from by omega)]
  · by_cases hqi : q = i
    · subst hqi
      rw [pm_up_s]
      simp only [pm_mbr, pm_mb]
      rw [pk_un (f := r) (x := v) (show 7 + 6 * q + 0 ≠ 7 + 6 * q + 2 from by omega), pk_un (f := r) (x := v) (show 7 + 6 * q + 1 ≠ 7 + 6 * q + 2 from by omega), pk_us, pk_un (f := r) (x := v) (show 7 + 6 * q + 3 ≠ 7 + 6 * q + 2 from by omega), pk_un (f := r) (x := v) (show 7 + 6 * q + 4 ≠ 7 + 6 * q + 2 from by omega), pk_un (f := r) (x := v) (show 7 + 6 * q + 5 ≠ 7 + 6 * q + 2 from by omega)]
    · rw [pm_up_n (by omega), h3 q hq]
      exact congrArg some (pm_mbr_eq fun p hp => (pk_un (by omega)).symm)
  · rw [show (fun j => r (49 + j)) = (fun j => upd r (7 + 6 * i + 2) v (49 + j)) from funext fun j => (pk_un (by omega)).symm]
theorem pm_sw_m3 {v : Int32} {i : Nat} (hi : i < 7) (ha : a = b + 2 + i) : pm_up (pm_sw z kA b M r) a (.inr (4, [.int (r (7 + 6 * i + 0)), .int (r (7 + 6 * i + 1)), .int (r (7 + 6 * i + 2)), .int v, .int (r (7 + 6 * i + 4)), .int (r (7 + 6 * i + 5))])) = pm_sw z kA b M (upd r (7 + 6 * i + 3) v) := by
  subst ha
  obtain ⟨h1, h2, h3, h4, h5⟩ := pm_swS (z := z) (b := b) (kA := kA) (M := M) (r := r)
  refine pm_swF ⟨(pm_up_n (by omega)).trans (h1.trans ?_), (pm_up_n (by omega)).trans h2, fun q hq => ?_, (pm_up_n (by omega)).trans h4, (pm_up_n (by omega)).trans (h5.trans ?_)⟩ (by omega)
  · simp only [pm_so]
    rw [pk_un (f := r) (x := v) (show 0 ≠ 7 + 6 * i + 3 from by omega), pk_un (f := r) (x := v) (show 1 ≠ 7 + 6 * i + 3 from by omega), pk_un (f := r) (x := v) (show 2 ≠ 7 + 6 * i + 3 from by omega), pk_un (f := r) (x := v) (show 3 ≠ 7 + 6 * i + 3 from by omega), pk_un (f := r) (x := v) (show 4 ≠ 7 + 6 * i + 3 from by omega), pk_un (f := r) (x := v) (show 5 ≠ 7 + 6 * i + 3 from by omega), pk_un (f := r) (x := v) (show 6 ≠ 7 + 6 * i + 3 from by omega)]
  · by_cases hqi : q = i
    · subst hqi
      rw [pm_up_s]
      simp only [pm_mbr, pm_mb]
      rw [pk_un (f := r) (x := v) (show 7 + 6 * q + 0 ≠ 7 + 6 * q + 3 from by omega), pk_un (f := r) (x := v) (show 7 + 6 * q + 1 ≠ 7 + 6 * q + 3 from by omega), pk_un (f := r) (x := v) (show 7 + 6 * q + 2 ≠ 7 + 6 * q + 3 from by omega), pk_us, pk_un (f := r) (x := v) (show 7 + 6 * q + 4 ≠ 7 + 6 * q + 3 from by omega), pk_un (f := r) (x := v) (show 7 + 6 * q + 5 ≠ 7 + 6 * q + 3 from by omega)]
    · rw [pm_up_n (by omega), h3 q hq]
      exact congrArg some (pm_mbr_eq fun p hp => (pk_un (by omega)).symm)
  · rw [show (fun j => r (49 + j)) = (fun j => upd r (7 + 6 * i + 3) v (49 + j)) from funext fun j => (pk_un (by omega)).symm]
theorem pm_sw_m4 {v : Int32} {i : Nat} (hi : i < 7) (ha : a = b + 2 + i) : pm_up (pm_sw z kA b M r) a (.inr (4, [.int (r (7 + 6 * i + 0)), .int (r (7 + 6 * i + 1)), .int (r (7 + 6 * i + 2)), .int (r (7 + 6 * i + 3)), .int v, .int (r (7 + 6 * i + 5))])) = pm_sw z kA b M (upd r (7 + 6 * i + 4) v) := by
  subst ha
  obtain ⟨h1, h2, h3, h4, h5⟩ := pm_swS (z := z) (b := b) (kA := kA) (M := M) (r := r)
  refine pm_swF ⟨(pm_up_n (by omega)).trans (h1.trans ?_), (pm_up_n (by omega)).trans h2, fun q hq => ?_, (pm_up_n (by omega)).trans h4, (pm_up_n (by omega)).trans (h5.trans ?_)⟩ (by omega)
  · simp only [pm_so]
    rw [pk_un (f := r) (x := v) (show 0 ≠ 7 + 6 * i + 4 from by omega), pk_un (f := r) (x := v) (show 1 ≠ 7 + 6 * i + 4 from by omega), pk_un (f := r) (x := v) (show 2 ≠ 7 + 6 * i + 4 from by omega), pk_un (f := r) (x := v) (show 3 ≠ 7 + 6 * i + 4 from by omega), pk_un (f := r) (x := v) (show 4 ≠ 7 + 6 * i + 4 from by omega), pk_un (f := r) (x := v) (show 5 ≠ 7 + 6 * i + 4 from by omega), pk_un (f := r) (x := v) (show 6 ≠ 7 + 6 * i + 4 from by omega)]
  · by_cases hqi : q = i
    · subst hqi
      rw [pm_up_s]
      simp only [pm_mbr, pm_mb]
      rw [pk_un (f := r) (x := v) (show 7 + 6 * q + 0 ≠ 7 + 6 * q + 4 from by omega), pk_un (f := r) (x := v) (show 7 + 6 * q + 1 ≠ 7 + 6 * q + 4 from by omega), pk_un (f := r) (x := v) (show 7 + 6 * q + 2 ≠ 7 + 6 * q + 4 from by omega), pk_un (f := r) (x := v) (show 7 + 6 * q + 3 ≠ 7 + 6 * q + 4 from by omega), pk_us, pk_un (f := r) (x := v) (show 7 + 6 * q + 5 ≠ 7 + 6 * q + 4 from by omega)]
    · rw [pm_up_n (by omega), h3 q hq]
      exact congrArg some (pm_mbr_eq fun p hp => (pk_un (by omega)).symm)
  · rw [show (fun j => r (49 + j)) = (fun j => upd r (7 + 6 * i + 4) v (49 + j)) from funext fun j => (pk_un (by omega)).symm]
theorem pm_sw_m5 {v : Int32} {i : Nat} (hi : i < 7) (ha : a = b + 2 + i) : pm_up (pm_sw z kA b M r) a (.inr (4, [.int (r (7 + 6 * i + 0)), .int (r (7 + 6 * i + 1)), .int (r (7 + 6 * i + 2)), .int (r (7 + 6 * i + 3)), .int (r (7 + 6 * i + 4)), .int v])) = pm_sw z kA b M (upd r (7 + 6 * i + 5) v) := by
  subst ha
  obtain ⟨h1, h2, h3, h4, h5⟩ := pm_swS (z := z) (b := b) (kA := kA) (M := M) (r := r)
  refine pm_swF ⟨(pm_up_n (by omega)).trans (h1.trans ?_), (pm_up_n (by omega)).trans h2, fun q hq => ?_, (pm_up_n (by omega)).trans h4, (pm_up_n (by omega)).trans (h5.trans ?_)⟩ (by omega)
  · simp only [pm_so]
    rw [pk_un (f := r) (x := v) (show 0 ≠ 7 + 6 * i + 5 from by omega), pk_un (f := r) (x := v) (show 1 ≠ 7 + 6 * i + 5 from by omega), pk_un (f := r) (x := v) (show 2 ≠ 7 + 6 * i + 5 from by omega), pk_un (f := r) (x := v) (show 3 ≠ 7 + 6 * i + 5 from by omega), pk_un (f := r) (x := v) (show 4 ≠ 7 + 6 * i + 5 from by omega), pk_un (f := r) (x := v) (show 5 ≠ 7 + 6 * i + 5 from by omega), pk_un (f := r) (x := v) (show 6 ≠ 7 + 6 * i + 5 from by omega)]
  · by_cases hqi : q = i
    · subst hqi
      rw [pm_up_s]
      simp only [pm_mbr, pm_mb]
      rw [pk_un (f := r) (x := v) (show 7 + 6 * q + 0 ≠ 7 + 6 * q + 5 from by omega), pk_un (f := r) (x := v) (show 7 + 6 * q + 1 ≠ 7 + 6 * q + 5 from by omega), pk_un (f := r) (x := v) (show 7 + 6 * q + 2 ≠ 7 + 6 * q + 5 from by omega), pk_un (f := r) (x := v) (show 7 + 6 * q + 3 ≠ 7 + 6 * q + 5 from by omega), pk_un (f := r) (x := v) (show 7 + 6 * q + 4 ≠ 7 + 6 * q + 5 from by omega), pk_us]
    · rw [pm_up_n (by omega), h3 q hq]
      exact congrArg some (pm_mbr_eq fun p hp => (pk_un (by omega)).symm)
  · rw [show (fun j => r (49 + j)) = (fun j => upd r (7 + 6 * i + 5) v (49 + j)) from funext fun j => (pk_un (by omega)).symm]
theorem pm_sw_p {v : Int32} {j : Nat} (hj : j < 7) (ha : a = b + 10) : pm_up (pm_sw z kA b M r) a (.inl (kA 0, 7, .inl (upd (fun q => r (49 + q)) j v))) = pm_sw z kA b M (upd r (49 + j) v) := by
  subst ha
  obtain ⟨h1, h2, h3, h4, h5⟩ := pm_swS (z := z) (b := b) (kA := kA) (M := M) (r := r)
  refine pm_swF ⟨(pm_up_n (by omega)).trans (h1.trans ?_), (pm_up_n (by omega)).trans h2, fun i hi => (pm_up_n (by omega)).trans ((h3 i hi).trans (congrArg some (pm_mbr_eq fun q _ => (pk_un (by omega)).symm))), (pm_up_n (by omega)).trans h4, pm_up_s.trans ?_⟩ (by omega)
  · simp only [pm_so]
    rw [pk_un (f := r) (x := v) (show 0 ≠ 49 + j from by omega), pk_un (f := r) (x := v) (show 1 ≠ 49 + j from by omega), pk_un (f := r) (x := v) (show 2 ≠ 49 + j from by omega), pk_un (f := r) (x := v) (show 3 ≠ 49 + j from by omega), pk_un (f := r) (x := v) (show 4 ≠ 49 + j from by omega), pk_un (f := r) (x := v) (show 5 ≠ 49 + j from by omega), pk_un (f := r) (x := v) (show 6 ≠ 49 + j from by omega)]
  · rw [show (fun q => upd r (49 + j) v (49 + q)) = upd (fun q => r (49 + q)) j v from funext fun q => by
      by_cases hq : q = j
      · subst hq; rw [pk_us, pk_us]
      · rw [pk_un (by omega), pk_un hq]]
/-- all six of a member at once -/
abbrev pm_r6 (r : Nat → Int32) (i : Nat) (c v q s w x : Int32) : Nat → Int32 := upd (upd (upd (upd (upd (upd r (7 + 6 * i + 0) c) (7 + 6 * i + 1) v) (7 + 6 * i + 2) q) (7 + 6 * i + 3) s) (7 + 6 * i + 4) w) (7 + 6 * i + 5) x
theorem pm_sw_m6 {i : Nat} {c v q s w x : Int32} (hi : i < 7) (ha : a = b + 2 + i) : pm_up (pm_sw z kA b M r) a (pm_mb c v q s w x) = pm_sw z kA b M (pm_r6 r i c v q s w x) := by
  have hU : ∀ (r : Nat → Int32) (e1 e2 : va_E), pm_up (pm_up (pm_sw z kA b M r) a e1) a e2 = pm_up (pm_sw z kA b M r) a e2 := fun r e1 e2 => pm_up_up
  unfold pm_r6
  rw [← pm_sw_m5 hi ha, ← pm_sw_m4 hi ha, ← pm_sw_m3 hi ha, ← pm_sw_m2 hi ha, ← pm_sw_m1 hi ha, ← pm_sw_m0 hi ha]
  simp only [pm_up_up, pm_mb]
  congr 1
  simp [upd]
end SA
