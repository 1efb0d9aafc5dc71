/-! Office: refusal and carryOut, by the command's number -/
theorem pm_q0 {q : Int32 × Int32} (h : (if q.1 = 0 then ((0 : Int32), (0 : Int32)) else (q.1, q.2)).1 = 0) : q.1 = 0 := by
  by_cases e : q.1 = 0
  · exact e
  · rw [if_neg e] at h; exact h
theorem pm_in0 {x : Int32} {m : Nat} (hm : m < 2 ^ 31) (h : ¬ pm_in x 0 (nI m) = 0) : x = nI (pm_n x) ∧ pm_n x ≤ m := by
  unfold pm_in at h
  split at h
  · exact absurd rfl h
  · rename_i h1
    split at h
    · exact absurd rfl h
    · rename_i h2
      obtain ⟨j, hj, rfl⟩ := nI_of h1
      rw [pm_n_nI hj]
      rw [nI_ltI hm hj] at h2
      exact ⟨rfl, by omega⟩
theorem d_ref0_n {x y : Int32} {n : Nat} {r : Nat → Int32} (h7 : n ≤ 7) (h : (d_X7_refusalOfJoin x y n r).1 = 0) : n < 7 := by
  unfold d_X7_refusalOfJoin at h
  split at h
  · exact absurd h (by decide)
  · split at h
    · exact absurd h (by decide)
    · split at h
      · exact absurd h (by decide)
      · rename_i h9
        rw [show (7 : Int32) = nI 7 from rfl, nI_leI (by decide) (by omega)] at h9
        omega
theorem d_refR_in {x : Int32} {m : Nat} (hm : m < 2 ^ 31) (h : (d_X7_refusalOfRange x 0 (nI m)).1 = 0) : x = nI (pm_n x) ∧ pm_n x ≤ m := by
  unfold d_X7_refusalOfRange at h
  split at h
  · exact absurd h (by decide)
  · exact pm_in0 hm (by assumption)
theorem d_refS_in {x y : Int32} {n : Nat} {r : Nat → Int32} (h7 : n ≤ 7) (h : (d_X7_refusalOfSale x y n r).1 = 0) : x = nI (pm_n x) ∧ pm_n x < n := by
  unfold d_X7_refusalOfSale at h
  split at h
  · exact absurd h (by decide)
  · exact d_X10_hasMember_in h7 (by assumption)
theorem d_refP_in {x : Int32} {n : Nat} {r : Nat → Int32} (h7 : n ≤ 7) (h : (d_X7_refusalOfPardon x n r).1 = 0) : x = nI (pm_n x) ∧ pm_n x < n := by
  unfold d_X7_refusalOfPardon at h
  split at h
  · exact absurd h (by decide)
  · exact d_X10_hasMember_in h7 (by assumption)
theorem d_refA_in {x : Int32} {n : Nat} {r : Nat → Int32} (h7 : n ≤ 7) (h : (d_X7_refusalOfAudit x n r).1 = 0) : x = nI (pm_n x) ∧ 1 ≤ pm_n x ∧ pm_n x ≤ n := by
  unfold d_X7_refusalOfAudit at h
  split at h
  · exact absurd h (by decide)
  · rename_i h1
    obtain ⟨e, h2, h3⟩ := pm_in17 h1
    split at h
    · exact absurd h (show ¬ (6 : Int32) = 0 by decide)
    · rename_i h4
      rw [e, nI_ltI (by omega) (by omega)] at h4
      exact ⟨e, h2, by omega⟩
theorem d_refL_in {x y : Int32} {n : Nat} {r : Nat → Int32} (h7 : n ≤ 7) (h : (d_X7_refusalOfLink x y n r).1 = 0) : (x = nI (pm_n x) ∧ pm_n x < n) ∧ (y = nI (pm_n y) ∧ pm_n y < n) := by
  unfold d_X7_refusalOfLink at h
  by_cases e : (d_X7_refusalOfPair x y n r).1 = 0
  · exact d_X7_refusalOfPair_in h7 e
  · rw [if_neg e] at h; exact absurd h e
theorem d_refC_in {x y : Int32} {n : Nat} {r : Nat → Int32} (h7 : n ≤ 7) (h : (d_X7_refusalOfCut x y n r).1 = 0) : (x = nI (pm_n x) ∧ pm_n x < n) ∧ (y = nI (pm_n y) ∧ pm_n y < n) := by
  unfold d_X7_refusalOfCut at h
  by_cases e : (d_X7_refusalOfPair x y n r).1 = 0
  · exact d_X7_refusalOfPair_in h7 e
  · rw [if_neg e] at h; exact absurd h e
/-- why the change c is refused -/
def d_X7_ref (c : Nat) (x y : Int32) (n : Nat) (r : Nat → Int32) : Int32 × Int32 := match c with
  | 0 => d_X7_refusal0 x y n r
  | 1 => d_X7_refusal1 x y n r
  | 2 => d_X7_refusal2 x y n r
  | 3 => d_X7_refusal3 x y n r
  | 4 => d_X7_refusal4 x y n r
  | 5 => d_X7_refusal5 x y n r
  | 6 => d_X7_refusal6 x y n r
  | 7 => d_X7_refusal7 x y n r
  | 8 => d_X7_refusal8 x y n r
  | 9 => d_X7_refusal9 x y n r
  | _ => d_X7_refusal10 x y n r
theorem c_X7_ref {l : Launch} {z : Nat} {D : va_G} {kA : Nat → ClassId} {kE : Nat → Nat} {nx : Nat} {M : pm_M} {c : Nat} {x y : Int32} {n : Nat} {r : Nat → Int32} (hc : c < 11) (hS : pm_SA z kA 2 M r) (hO1 : M 1 = some (.inr (5, [.ref (z + 2), .ref (z + 13), .ref (z + 16)]))) (hn : r 0 = nI n) (h7 : n ≤ 7) (hnx : 140 ≤ nx) : pm_C l z D kA kE yX7_refusal cX7_refusal 4 (some (.object "ThunderCartel$Refusal")) 4 2 6 [.ref (z + 1), .ref (kE c), .int x, .int y] nx M (pm_rf z nx M (d_X7_ref c x y n r)) := by
  match c, hc with
  | 0, _ => exact c_X7_refusal0 hS hO1 hn h7 hnx
  | 1, _ => exact c_X7_refusal1 hS hn h7 hnx
  | 2, _ => exact c_X7_refusal2 hS hO1 hn h7 hnx
  | 3, _ => exact c_X7_refusal3 hS hO1 hn h7 hnx
  | 4, _ => exact c_X7_refusal4 hS hO1 hn h7 hnx
  | 5, _ => exact c_X7_refusal5 hS hn h7 hnx
  | 6, _ => exact c_X7_refusal6 hS hO1 hn h7 hnx
  | 7, _ => exact c_X7_refusal7 hS hO1 hn h7 hnx
  | 8, _ => exact c_X7_refusal8 hS hO1 hn h7 hnx
  | 9, _ => exact c_X7_refusal9 hS hO1 hn h7 hnx
  | 10, _ => exact c_X7_refusal10 hS hn h7 hnx
  | c + 11, h => exact absurd h (by omega)
/-- what the change c does: its answer, the state, the rows of quotas, remainders, drawn ones -/
def d_X7_do (c : Nat) (x y : Int32) (n : Nat) (r q rm dr : Nat → Int32) : Int32 × (Nat → Int32) × (Nat → Int32) × (Nat → Int32) × (Nat → Int32) := match c with
  | 0 => ((d_X7_do0 x y n r).1, (d_X7_do0 x y n r).2, q, rm, dr)
  | 1 => ((d_X7_do1 x y n r q rm).1, (d_X7_do1 x y n r q rm).2.1, (d_X7_do1 x y n r q rm).2.2.1, (d_X7_do1 x y n r q rm).2.2.2, dr)
  | 2 => ((d_X7_do2 x y n r).1, (d_X7_do2 x y n r).2, q, rm, dr)
  | 3 => ((d_X7_do3 (pm_n x) y n r).1, (d_X7_do3 (pm_n x) y n r).2, q, rm, dr)
  | 4 => ((d_X7_do4 (pm_n x) y n r dr).1, (d_X7_do4 (pm_n x) y n r dr).2.1, q, rm, (d_X7_do4 (pm_n x) y n r dr).2.2)
  | 5 => ((d_X7_do5 x y n r).1, (d_X7_do5 x y n r).2, q, rm, dr)
  | 6 => ((d_X7_do6 (pm_n x) (pm_n y) n r).1, (d_X7_do6 (pm_n x) (pm_n y) n r).2, q, rm, dr)
  | 7 => ((d_X7_do7 (pm_n x) (pm_n y) n r).1, (d_X7_do7 (pm_n x) (pm_n y) n r).2, q, rm, dr)
  | 8 => ((d_X7_do8 (pm_n x) y n r).1, (d_X7_do8 (pm_n x) y n r).2, q, rm, dr)
  | 9 => ((d_X7_do9 x y n r).1, (d_X7_do9 x y n r).2, q, rm, dr)
  | _ => ((d_X7_do10 x y n r).1, (d_X7_do10 x y n r).2, q, rm, dr)
theorem c_X7_do {l : Launch} {z : Nat} {D : va_G} {kA : Nat → ClassId} {kE : Nat → Nat} {nx : Nat} {M : pm_M} {c : Nat} {x y : Int32} {n : Nat} {r q rm dr : Nat → Int32} (hc : c < 11) (hS : pm_SA z kA 2 M r) (hq : M 14 = some (.inl (kA 0, 7, .inl q))) (hrm : M 15 = some (.inl (kA 0, 7, .inl rm))) (hdr : M 16 = some (.inl (kA 0, 7, .inl dr))) (hO1 : M 1 = some (.inr (5, [.ref (z + 2), .ref (z + 13), .ref (z + 16)]))) (hO13 : M 13 = some (.inr (0, [.ref (z + 14), .ref (z + 15)]))) (hn : r 0 = nI n) (h7 : n ≤ 7) (hsd : r 2 = nI (pm_n (r 2))) (hsl : pm_n (r 2) < 1024) (h0 : (d_X7_ref c x y n r).1 = 0) : pm_C l z D kA kE yX7_carryOut cX7_carryOut 4 (some .int) 5 0 0 [.ref (z + 1), .ref (kE c), .int x, .int y] nx M (pm_rt (some (.int (d_X7_do c x y n r q rm dr).1)) nx (pm_sw z kA 2 (pm_up (pm_up (pm_up M 14 (.inl (kA 0, 7, .inl (d_X7_do c x y n r q rm dr).2.2.1))) 15 (.inl (kA 0, 7, .inl (d_X7_do c x y n r q rm dr).2.2.2.1))) 16 (.inl (kA 0, 7, .inl (d_X7_do c x y n r q rm dr).2.2.2.2))) (d_X7_do c x y n r q rm dr).2.1)) := by
  have e0 : pm_up (pm_up (pm_up M 14 (.inl (kA 0, 7, .inl q))) 15 (.inl (kA 0, 7, .inl rm))) 16 (.inl (kA 0, 7, .inl dr)) = M := by rw [pm_up_id hq, pm_up_id hrm, pm_up_id hdr]
  match c, hc with
  | 0, _ =>
    have h6 := d_ref0_n h7 (pm_q0 h0)
    have h9 := c_X7_carryOut0 (l := l) (D := D) (kE := kE) (nx := nx) (x := x) (y := y) hS hO1 hn h7 h6
    show pm_C l z D kA kE _ _ _ _ _ _ _ _ _ _ (pm_rt _ _ (pm_sw z kA 2 (pm_up (pm_up (pm_up M 14 (.inl (kA 0, 7, .inl q))) 15 (.inl (kA 0, 7, .inl rm))) 16 (.inl (kA 0, 7, .inl dr))) _))
    rw [e0]; exact h9
  | 1, _ =>
    obtain ⟨hx, hl⟩ := d_refR_in (m := 300) (by decide) (pm_q0 h0)
    have h9 := c_X7_carryOut1 (l := l) (D := D) (kE := kE) (nx := nx) (x := x) (y := y) hS hq hrm hO1 hO13 hn h7 hx (by omega)
    have e1 : pm_up (pm_up (pm_up M 14 (.inl (kA 0, 7, .inl (d_X7_do1 x y n r q rm).2.2.1))) 15 (.inl (kA 0, 7, .inl (d_X7_do1 x y n r q rm).2.2.2))) 16 (.inl (kA 0, 7, .inl dr)) = pm_up (pm_up M 14 (.inl (kA 0, 7, .inl (d_X7_do1 x y n r q rm).2.2.1))) 15 (.inl (kA 0, 7, .inl (d_X7_do1 x y n r q rm).2.2.2)) := pm_up_id ((pm_up_n (by decide)).trans ((pm_up_n (by decide)).trans hdr))
    show pm_C l z D kA kE _ _ _ _ _ _ _ _ _ _ (pm_rt _ _ (pm_sw z kA 2 (pm_up (pm_up (pm_up M 14 (.inl (kA 0, 7, .inl (d_X7_do1 x y n r q rm).2.2.1))) 15 (.inl (kA 0, 7, .inl (d_X7_do1 x y n r q rm).2.2.2))) 16 (.inl (kA 0, 7, .inl dr))) _))
    rw [e1]; exact h9
  | 2, _ =>
    have h9 := c_X7_carryOut2 (l := l) (D := D) (kE := kE) (nx := nx) (x := x) (y := y) hS hO1 hn h7
    show pm_C l z D kA kE _ _ _ _ _ _ _ _ _ _ (pm_rt _ _ (pm_sw z kA 2 (pm_up (pm_up (pm_up M 14 (.inl (kA 0, 7, .inl q))) 15 (.inl (kA 0, 7, .inl rm))) 16 (.inl (kA 0, 7, .inl dr))) _))
    rw [e0]; exact h9
  | 3, _ =>
    obtain ⟨hx, hi⟩ := d_refS_in h7 (pm_q0 h0)
    have h9 := c_X7_carryOut3 (l := l) (D := D) (kE := kE) (nx := nx) (i := pm_n x) (y := y) hS hO1 hn h7 hi
    rw [← hx] at h9
    show pm_C l z D kA kE _ _ _ _ _ _ _ _ _ _ (pm_rt _ _ (pm_sw z kA 2 (pm_up (pm_up (pm_up M 14 (.inl (kA 0, 7, .inl q))) 15 (.inl (kA 0, 7, .inl rm))) 16 (.inl (kA 0, 7, .inl dr))) _))
    rw [e0]; exact h9
  | 4, _ =>
    obtain ⟨hx, hw1, hwn⟩ := d_refA_in h7 (pm_q0 h0)
    have h9 := c_X7_carryOut4 (l := l) (D := D) (kE := kE) (nx := nx) (w := pm_n x) (y := y) hS hdr hO1 hn h7 hsd hsl hw1 hwn
    rw [← hx] at h9
    show pm_C l z D kA kE _ _ _ _ _ _ _ _ _ _ (pm_rt _ _ (pm_sw z kA 2 (pm_up (pm_up (pm_up M 14 (.inl (kA 0, 7, .inl q))) 15 (.inl (kA 0, 7, .inl rm))) 16 _) _))
    rw [pm_up_id hq, pm_up_id hrm]; exact h9
  | 5, _ =>
    have h9 := c_X7_carryOut5 (l := l) (D := D) (kE := kE) (nx := nx) (x := x) (y := y) hS hO1 hn h7
    show pm_C l z D kA kE _ _ _ _ _ _ _ _ _ _ (pm_rt _ _ (pm_sw z kA 2 (pm_up (pm_up (pm_up M 14 (.inl (kA 0, 7, .inl q))) 15 (.inl (kA 0, 7, .inl rm))) 16 (.inl (kA 0, 7, .inl dr))) _))
    rw [e0]; exact h9
  | 6, _ =>
    obtain ⟨⟨hx, hi⟩, hy, hk⟩ := d_refL_in h7 (pm_q0 h0)
    have h9 := c_X7_carryOut6 (l := l) (D := D) (kE := kE) (nx := nx) (i := pm_n x) (k := pm_n y) hS hO1 hn h7 hi hk
    rw [← hx, ← hy] at h9
    show pm_C l z D kA kE _ _ _ _ _ _ _ _ _ _ (pm_rt _ _ (pm_sw z kA 2 (pm_up (pm_up (pm_up M 14 (.inl (kA 0, 7, .inl q))) 15 (.inl (kA 0, 7, .inl rm))) 16 (.inl (kA 0, 7, .inl dr))) _))
    rw [e0]; exact h9
  | 7, _ =>
    obtain ⟨⟨hx, hi⟩, hy, hk⟩ := d_refC_in h7 (pm_q0 h0)
    have h9 := c_X7_carryOut7 (l := l) (D := D) (kE := kE) (nx := nx) (i := pm_n x) (k := pm_n y) hS hO1 hn h7 hi hk
    rw [← hx, ← hy] at h9
    show pm_C l z D kA kE _ _ _ _ _ _ _ _ _ _ (pm_rt _ _ (pm_sw z kA 2 (pm_up (pm_up (pm_up M 14 (.inl (kA 0, 7, .inl q))) 15 (.inl (kA 0, 7, .inl rm))) 16 (.inl (kA 0, 7, .inl dr))) _))
    rw [e0]; exact h9
  | 8, _ =>
    obtain ⟨hx, hi⟩ := d_refP_in h7 (pm_q0 h0)
    have h9 := c_X7_carryOut8 (l := l) (D := D) (kE := kE) (nx := nx) (i := pm_n x) (y := y) hS hO1 hn h7 hi
    rw [← hx] at h9
    show pm_C l z D kA kE _ _ _ _ _ _ _ _ _ _ (pm_rt _ _ (pm_sw z kA 2 (pm_up (pm_up (pm_up M 14 (.inl (kA 0, 7, .inl q))) 15 (.inl (kA 0, 7, .inl rm))) 16 (.inl (kA 0, 7, .inl dr))) _))
    rw [e0]; exact h9
  | 9, _ =>
    have h9 := c_X7_carryOut9 (l := l) (D := D) (kE := kE) (nx := nx) (x := x) (y := y) hS hO1 hn h7
    show pm_C l z D kA kE _ _ _ _ _ _ _ _ _ _ (pm_rt _ _ (pm_sw z kA 2 (pm_up (pm_up (pm_up M 14 (.inl (kA 0, 7, .inl q))) 15 (.inl (kA 0, 7, .inl rm))) 16 (.inl (kA 0, 7, .inl dr))) _))
    rw [e0]; exact h9
  | 10, _ =>
    have h9 := c_X7_carryOut10 (l := l) (D := D) (kE := kE) (nx := nx) (x := x) (y := y) hS hO1 hn h7
    show pm_C l z D kA kE _ _ _ _ _ _ _ _ _ _ (pm_rt _ _ (pm_sw z kA 2 (pm_up (pm_up (pm_up M 14 (.inl (kA 0, 7, .inl q))) 15 (.inl (kA 0, 7, .inl rm))) 16 (.inl (kA 0, 7, .inl dr))) _))
    rw [e0]; exact h9
  | c + 11, h => exact absurd h (by omega)
