/-! the law: drawn -/
theorem pw_ushg (x y : Int32) (k : Nat) (hk : 0 < k) (hk2 : k < 32) (e : y.toUInt32 &&& Int32.toUInt32 31 = UInt32.ofNat k) : ∃ a, a < 2147483648 ∧ pm_ush x y = nI a := by
  have hx := x.toUInt32.toNat_lt
  have hb : x.toUInt32.toNat / 2 ^ k ≤ x.toUInt32.toNat / 2 := Nat.div_le_div_left (by
    obtain ⟨j, rfl⟩ : ∃ j, k = j + 1 := ⟨k - 1, by omega⟩
    rw [Nat.pow_succ]
    have := Nat.one_le_two_pow (n := j)
    omega) (by decide)
  refine ⟨x.toUInt32.toNat / 2 ^ k, by omega, ?_⟩
  unfold pm_ush
  rw [e]
  have e2 : (x.toUInt32 >>> UInt32.ofNat k) = UInt32.ofNat (x.toUInt32.toNat / 2 ^ k) := by
    apply UInt32.toNat_inj.mp
    rw [UInt32.toNat_shiftRight, UInt32.toNat_ofNat_of_lt' (by show _ < 2^32; omega), UInt32.toNat_ofNat_of_lt' (by show _ < 2^32; omega), Nat.mod_eq_of_lt hk2, Nat.shiftRight_eq_div_pow]
  rw [e2]
  rfl
theorem pw_md {x : Int32} (hx : ∃ a, a < 2147483648 ∧ x = nI a) {m : Nat} (hm : 0 < m) (hm2 : m < 100000) : ∃ t, t < m ∧ x - x / (nI m) * (nI m) = nI t := by
  obtain ⟨a, ha, rfl⟩ := hx
  exact ⟨a % m, Nat.mod_lt _ hm, pk_rem (by omega) hm (by omega)⟩
theorem pw_mdi {x : Int32} (hx : ∃ a, a < 2147483648 ∧ x = nI a) (p : Prop) [Decidable p] (m1 m2 M : Nat) (h1 : 0 < m1 ∧ m1 ≤ M) (h2 : 0 < m2 ∧ m2 ≤ M) (hM : M < 100000) : ∃ t, t < M ∧ x - x / ((if p then nI m1 else nI m2) : Int32) * (if p then nI m1 else nI m2) = nI t := by
  by_cases h : p
  · rw [if_pos h]
    obtain ⟨t, ht, e⟩ := pw_md hx h1.1 (by omega)
    exact ⟨t, by omega, e⟩
  · rw [if_neg h]
    obtain ⟨t, ht, e⟩ := pw_md hx h2.1 (by omega)
    exact ⟨t, by omega, e⟩
theorem pw_inN {a lo hi : Nat} (h1 : lo ≤ a) (h2 : a ≤ hi) (h3 : hi < 100000) : ¬ pm_in (nI a) (nI lo) (nI hi) = 0 := by
  unfold pm_in
  rw [if_neg (fun h => by have := (nI_ltI (by omega) (by omega)).mp h; omega), if_neg (fun h => by have := (nI_ltI (by omega) (by omega)).mp h; omega)]
  decide
theorem pw_rq1 (q : Int32 × Int32) : (if q.1 = 0 then ((0 : Int32), (0 : Int32)) else (q.1, q.2)).1 = q.1 := by
  by_cases h : q.1 = 0
  · rw [if_pos h, h]
  · rw [if_neg h]
section PWNV
variable {n : Nat} {r : Nat → Int32}
theorem pw_j0 {a b : Nat} (hn : n < 7) (ha : 1 ≤ a ∧ a ≤ 99) (hb : 1 ≤ b ∧ b ≤ 20) : (d_X7_ref 0 (nI a) (nI b) n r).1 = 0 := by
  have key : d_X7_refusalOfJoin (nI a) (nI b) n r = (0, 0) := by
    unfold d_X7_refusalOfJoin
    rw [if_neg (show ¬ pm_in (nI a) 1 99 = 0 from pw_inN (lo := 1) (hi := 99) ha.1 ha.2 (by decide)), if_neg (show ¬ pm_in (nI b) 1 20 = 0 from pw_inN (lo := 1) (hi := 20) hb.1 hb.2 (by decide)), if_neg (fun h => by have := (nI_leI (a := 7) (b := n) (by omega) (by omega)).mp h; omega)]
  simp only [d_X7_ref, d_X7_refusal0]
  rw [pw_rq1, key]
theorem pw_d3 {i : Nat} {y : Int32} (hi : i < n) (h7 : n ≤ 7) : (d_X7_ref 3 (nI i) y n r).1 ≠ -1 := by
  simp only [d_X7_ref, d_X7_refusal3]
  rw [pw_rq1]
  unfold d_X7_refusalOfSale
  rw [if_neg (pw_hm hi h7)]
  by_cases h1 : pm_in y 1 99 = 0
  · rw [if_pos h1]; decide
  rw [if_neg h1]
  by_cases h2 : (r (7 + 6 * (pm_n (nI i)) + 5)) = 0
  · rw [if_pos h2]
    by_cases h3 : ((r (7 + 6 * (pm_n (nI i)) + 0)) - (r (7 + 6 * (pm_n (nI i)) + 3))) < y
    · rw [if_pos h3]; show (3 : Int32) ≠ -1; decide
    · rw [if_neg h3]; decide
  · rw [if_neg h2]; show (2 : Int32) ≠ -1; decide
theorem pw_d1 {t : Nat} (ht : t ≤ 300) : (d_X7_ref 1 (nI t) 0 n r).1 ≠ -2 := by
  simp only [d_X7_ref, d_X7_refusal1]
  rw [pw_rq1]
  unfold d_X7_refusalOfRange
  rw [if_neg (show ¬ pm_in (nI t) 0 300 = 0 from pw_inN (lo := 0) (hi := 300) (by omega) ht (by decide))]
  decide
theorem pw_d4 {t : Nat} (h1 : 1 ≤ t) (ht : t ≤ 7) : (d_X7_ref 4 (nI t) 0 n r).1 ≠ -2 := by
  simp only [d_X7_ref, d_X7_refusal4]
  rw [pw_rq1]
  unfold d_X7_refusalOfAudit
  rw [if_neg (show ¬ pm_in (nI t) 1 7 = 0 from pw_inN (lo := 1) (hi := 7) h1 ht (by decide))]
  by_cases h : nI n < nI t
  · rw [if_pos h]; show (6 : Int32) ≠ -2; decide
  · rw [if_neg h]; decide
theorem pw_d2 {t : Nat} (ht : t < 2) : (d_X7_ref 2 (nI t) 0 n r).1 ≠ -2 := by
  simp only [d_X7_ref, d_X7_refusal2]
  rw [pw_rq1]
  unfold d_X7_refusalOfValue
  rw [if_neg (show ¬ pm_in (nI t) 0 1 = 0 from pw_inN (lo := 0) (hi := 1) (by omega) (by omega) (by decide))]
  by_cases h : nI t = r 1
  · rw [if_pos h]; show (7 : Int32) ≠ -2; decide
  · rw [if_neg h]; decide
theorem pw_d9 {t : Nat} (h1 : 1 ≤ t) (ht : t ≤ 99) : (d_X7_ref 9 (nI t) 0 n r).1 ≠ -2 := by
  simp only [d_X7_ref, d_X7_refusal9]
  rw [pw_rq1]
  unfold d_X7_refusalOfValue
  rw [if_neg (show ¬ pm_in (nI t) 1 99 = 0 from pw_inN (lo := 1) (hi := 99) (by omega) (by omega) (by decide))]
  by_cases h : nI t = r 3
  · rw [if_pos h]; show (7 : Int32) ≠ -2; decide
  · rw [if_neg h]; decide
theorem pw_d8 {i : Nat} (hi : i < n) (h7 : n ≤ 7) : (d_X7_ref 8 (nI i) 0 n r).1 ≠ -1 := by
  simp only [d_X7_ref, d_X7_refusal8]
  rw [pw_rq1]
  unfold d_X7_refusalOfPardon
  rw [if_neg (pw_hm hi h7)]
  by_cases h : (r (7 + 6 * (pm_n (nI i)) + 5)) = 0 ∧ (r (7 + 6 * (pm_n (nI i)) + 4)) = 0
  · rw [if_pos h]; show (5 : Int32) ≠ -1; decide
  · rw [if_neg h]; decide
theorem pw_d6 {i j : Nat} (hi : i < n) (hj : j < n) (h7 : n ≤ 7) : (d_X7_ref 6 (nI i) (nI j) n r).1 ≠ -1 := by
  simp only [d_X7_ref, d_X7_refusal6]
  rw [pw_rq1]
  have key : (d_X7_refusalOfPair (nI i) (nI j) n r).1 ≠ -1 := by
    unfold d_X7_refusalOfPair
    rw [if_neg (pw_hm hi h7), if_neg (pw_hm hj h7)]
    by_cases h : (nI (pm_n (nI i))) = (nI (pm_n (nI j)))
    · rw [if_pos h]; decide
    · rw [if_neg h]; decide
  unfold d_X7_refusalOfLink
  by_cases h : (d_X7_refusalOfPair (nI i) (nI j) n r).1 = 0
  · rw [if_pos h]
    by_cases h2 : r (49 + (pm_n (nI i))) >>> (nI (pm_n (nI j)) &&& 31) &&& 1 = 1
    · rw [if_pos h2]; show (4 : Int32) ≠ -1; decide
    · rw [if_neg h2]
      by_cases h3 : 12 ≤ (pm_lt (fun j => r (49 + j)) 7 / 2)
      · rw [if_pos h3]; show (1 : Int32) ≠ -1; decide
      · rw [if_neg h3]; decide
  · rw [if_neg h]; exact key
theorem pw_nv3 {d : Int32} (hd : d ≠ -1) : ∀ e ∈ ([("java/lang/IndexOutOfBoundsException", (-1)), ("java/lang/IllegalArgumentException", (-2)), ("java/lang/UnsupportedOperationException", (-3))] : List (String × Int32)), e.1 = pw_xc d → e.2 ≠ -1 := by
  intro e he hx
  simp only [List.mem_cons, List.not_mem_nil, or_false] at he
  rcases he with rfl | rfl | rfl
  · exact absurd (pw_xc1 hx.symm) hd
  · show (-2 : Int32) ≠ -1; decide
  · show (-3 : Int32) ≠ -1; decide
theorem pw_nv2 {d : Int32} (hd : d ≠ -2) : ∀ e ∈ ([("java/lang/IllegalArgumentException", (-1)), ("java/lang/UnsupportedOperationException", (-2))] : List (String × Int32)), e.1 = pw_xc d → e.2 ≠ -1 := by
  intro e he hx
  simp only [List.mem_cons, List.not_mem_nil, or_false] at he
  rcases he with rfl | rfl
  · exact absurd (pw_xc2 hx.symm) hd
  · show (-2 : Int32) ≠ -1; decide
theorem pw_nv1 {d : Int32} (hd : d ≠ -2) : ∀ e ∈ ([("java/lang/IllegalArgumentException", (-1))] : List (String × Int32)), e.1 = pw_xc d → e.2 ≠ -1 := by
  intro e he hx
  simp only [List.mem_cons, List.not_mem_nil, or_false] at he
  subst he
  exact absurd (pw_xc2 hx.symm) hd
theorem pw_nv8 {d : Int32} (hd : d ≠ -1) : ∀ e ∈ ([("java/lang/IndexOutOfBoundsException", (-1)), ("java/lang/UnsupportedOperationException", (-2))] : List (String × Int32)), e.1 = pw_xc d → e.2 ≠ -1 := by
  intro e he hx
  simp only [List.mem_cons, List.not_mem_nil, or_false] at he
  rcases he with rfl | rfl
  · exact absurd (pw_xc1 hx.symm) hd
  · show (-2 : Int32) ≠ -1; decide
end PWNV
/-- a world with n members -/
def pw_D (z : Nat) (kA : Nat → ClassId) (kE : Nat → Nat) (B n : Nat) (u : Nat × List Nat) (ar : List (Nat × va_E)) (nx : Nat) (M : pm_M) : Prop := ∃ r hs, r 0 = nI n ∧ pw_W z kA kE (B, r, hs, u) ar nx M
theorem pw_dJ {l : Launch} {z : Nat} {D : va_G} {X : pm_X} {mc ms : Nat} {Q : State → Prop} {c1 s1 pc : Nat} {L : List (Option Value)} {st : List Value} {kA : Nat → ClassId} {kE : Nat → Nat} {B n : Nat} {u : Nat × List Nat} {ar : List (Nat × va_E)} (h7 : n ≤ 7) (k : ∀ r hs, r 0 = nI n → pm_I B n r → pw_J l z D X mc ms Q (pw_W z kA kE (B, r, hs, u) ar) c1 s1 pc L st) : pw_J l z D X mc ms Q (pw_D z kA kE B n u ar) c1 s1 pc L st := by
  intro cu su nx M h1 h2 ⟨r, hs, h0, hW⟩
  exact k r hs h0 (pw_rn (pw_Wr hW) h0 h7) cu su nx M h1 h2 hW
theorem pw_cgD {l : Launch} {z : Nat} {D : va_G} {X : pm_X} {mc ms : Nat} {Q : State → Prop} {c1 s1 pc : Nat} {L : List (Option Value)} {st : List Value} {kA : Nat → ClassId} {kE : Nat → Nat} {B n : Nat} {r : Nat → Int32} {hs : List (Nat → Int32)} {u : Nat × List Nat} {ar : List (Nat × va_E)} {c : Nat} {x y v : Int32} {h : List (String × Int32)} (hc : c ≠ 0) (h0 : r 0 = nI n) (hv : ∀ e ∈ h, e.1 = pw_xc (d_X7_ref c x y n r).1 → e.2 ≠ -1)
    (k : v ≠ -1 → pw_J l z D X mc ms Q (pw_D z kA kE (B + 693) n u ar) c1 s1 pc L st) : pw_J l z D X mc ms Q (pw_cg z kA kE B n r hs u ar c x y h v) c1 s1 pc L st := by
  intro cu su nx M h1 h2 hW
  rcases hW with ⟨-, r', h3, h4⟩ | ⟨-, ⟨e, he, h5, h6⟩, h4⟩
  · exact k (fun e => h3.1 (by rw [e]; decide)) cu su nx M h1 h2 ⟨r', _, (h3.2.1 hc).trans h0, h4⟩
  · exact k (by rw [h6]; exact hv e he h5) cu su nx M h1 h2 ⟨r, hs, h0, pw_WB (by omega) h4⟩
theorem pw_cg0 {l : Launch} {z : Nat} {D : va_G} {X : pm_X} {mc ms : Nat} {Q : State → Prop} {c1 s1 pc : Nat} {L : List (Option Value)} {st : List Value} {kA : Nat → ClassId} {kE : Nat → Nat} {B n : Nat} {r : Nat → Int32} {hs : List (Nat → Int32)} {u : Nat × List Nat} {ar : List (Nat × va_E)} {x y v : Int32} {h : List (String × Int32)} (h0 : (d_X7_ref 0 x y n r).1 = 0)
    (k : v = nI n → pw_J l z D X mc ms Q (pw_D z kA kE (B + 693) (n + 1) u ar) c1 s1 pc L st) : pw_J l z D X mc ms Q (pw_cg z kA kE B n r hs u ar 0 x y h v) c1 s1 pc L st := by
  intro cu su nx M h1 h2 hW
  rcases hW with ⟨-, r', h3, h4⟩ | ⟨h5, -⟩
  · exact k (h3.2.2.1 rfl).1 cu su nx M h1 h2 ⟨r', _, (h3.2.2.1 rfl).2, h4⟩
  · exact absurd h0 h5
theorem pw_T0 {z : Nat} {kA : Nat → ClassId} {kE : Nat → Nat} {M : pm_M} (h : pm_T0 z kA kE M) : pw_D z kA kE 0 0 (0, []) [] 140 M := by
  have hI : pw_r 0 pm_r0 := by
    refine ⟨fun k hk => if_neg (by omega), ⟨rfl, by decide, Or.inl rfl, ⟨rfl, by decide⟩, ⟨10, rfl, by decide, by decide⟩, 0, 0, rfl, rfl, by decide⟩, fun i hi => absurd hi (Nat.not_lt_zero _), ?_⟩
    have hz : ∀ i, pm_r0 (49 + i) = 0 := fun i => if_neg (by omega)
    have hn : pm_n 0 = 0 := rfl
    refine ⟨fun i _ => ?_, fun i j _ _ => ?_, fun i _ => ?_, fun i j _ _ h => ?_, by decide⟩
    · rw [hz]; exact ⟨rfl, by decide⟩
    · rw [hz, hz, hn, Nat.zero_div, Nat.zero_div]
    · rw [hz, hn, Nat.zero_div]
    · rw [hz, hn, Nat.zero_div] at h; exact absurd h (by decide)
  refine ⟨pm_r0, [], rfl, Nat.le_refl _, fun p hp => absurd hp List.not_mem_nil, List.Pairwise.nil, pm_C0, pm_TC_0 h, rfl, fun k hk => if_neg (by omega), fun i k hk => if_neg (by omega), ⟨by decide, rfl, by decide, fun p hp => absurd hp (Nat.not_lt_zero _)⟩, ⟨hI, fun h hh => absurd hh List.not_mem_nil⟩, ⟨rfl, by decide⟩, ⟨rfl, by decide, fun i hi => absurd hi (Nat.not_lt_zero _)⟩⟩
