def w_L_watchers_3 (r : (Nat → Int32)) (j1 : Nat) (j2 : Nat) (x0 : Int32) (x1 : Int32) : Nat → (Int32 × Int32)
  | 0 => (x0, x1)
  | j3 + 1 => (((w_L_watchers_3 r j1 j2 x0 x1 j3).1 + ((if (nI j1) = 0 then (if (pw_lk r j2 j3) = 0 then 0 else 1) else 0) : Int32)), ((if (w_L_watchers_3 r j1 j2 x0 x1 j3).2 = 0 then 0 else (if (pw_lk r j2 j3) = 0 then 1 else (if (((nI j1) >>> ((nI j2) &&& 31)) &&& 1) = 1 then 1 else (if (((nI j1) >>> ((nI j3) &&& 31)) &&& 1) = 1 then 1 else 0)))) : Int32))
def w_L_watchers_2 (n : Nat) (r : (Nat → Int32)) (j1 : Nat) (x0 : Int32) (x1 : Int32) : Nat → (Int32 × Int32)
  | 0 => (x0, x1)
  | j2 + 1 => ((w_L_watchers_3 r j1 j2 (w_L_watchers_2 n r j1 x0 x1 j2).1 (w_L_watchers_2 n r j1 x0 x1 j2).2 n).1, (w_L_watchers_3 r j1 j2 (w_L_watchers_2 n r j1 x0 x1 j2).1 (w_L_watchers_2 n r j1 x0 x1 j2).2 n).2)
def w_L_watchers_1 (n : Nat) (r : (Nat → Int32)) (x0 : Int32) (x1 : Int32) : Nat → (Int32 × Int32)
  | 0 => (x0, x1)
  | j1 + 1 => ((w_L_watchers_2 n r j1 (w_L_watchers_1 n r x0 x1 j1).1 1 n).1, ((if (w_L_watchers_2 n r j1 (w_L_watchers_1 n r x0 x1 j1).1 1 n).2 = 0 then (w_L_watchers_1 n r x0 x1 j1).2 else (pm_min (w_L_watchers_1 n r x0 x1 j1).2 (pm_bc (nI j1)))) : Int32))
theorem pw_lk8 {r : Nat → Int32} {i j : Nat} : ((if pw_lk r i j = 1 then 1 else 0) : Int32) = pw_lk r i j := by
  unfold pw_lk
  split <;> rfl
theorem pw_lkb {B n : Nat} {r : Nat → Int32} (hI : pm_I B n r) {i j : Nat} (hi : i < 7) (hj : j < 7) : pw_lk r i j = nI (pm_n (r (49 + i)) / 2 ^ j % 2) := by
  obtain ⟨e, h⟩ := hI.2.2.1 i hi
  unfold pw_lk
  rw [e, pm_tb h hj, pm_n_nI (by omega)]
  by_cases hb : pm_n (r (49 + i)) / 2 ^ j % 2 = 1
  · rw [if_pos (by rw [hb]; rfl), hb]; rfl
  · have h0 : pm_n (r (49 + i)) / 2 ^ j % 2 = 0 := by omega
    rw [h0, if_neg (by decide)]; rfl
theorem pw_lkS {B n : Nat} {r : Nat → Int32} (hI : pm_I B n r) {i j : Nat} (hi : i < 7) (hj : j < 7) : pw_lk r i j = pw_lk r j i := by
  rw [pw_lkb hI hi hj, pw_lkb hI hj hi, hI.2.2.2.1 i j hi hj]
theorem pw_lkD {B n : Nat} {r : Nat → Int32} (hI : pm_I B n r) {i j : Nat} (hi : i < 7) (hj : j < 7) (h : nI i = nI j) : pw_lk r i j = 0 := by
  have e := (nI_eq (by omega) (by omega)).mp h
  subst e
  rw [pw_lkb hI hi hi, hI.2.2.2.2.1 i hi]
  rfl
section PWWT
variable {B n : Nat} {r : Nat → Int32}
theorem pw_w3b (hI : pm_I B n r) {s i : Nat} (hs : s < 128) (hi : i < 7) (x0 x1 : Int32) : ∀ m, m ≤ 7 → ((w_L_watchers_3 r s i x0 x1 m).2 = 0 ↔ x1 = 0 ∨ ∃ j, j < m ∧ pm_n (r (49 + i)) / 2 ^ j % 2 = 1 ∧ s / 2 ^ i % 2 = 0 ∧ s / 2 ^ j % 2 = 0) := by
  intro m
  induction m with
  | zero =>
    intro _
    constructor
    · intro h; exact Or.inl h
    · rintro (h | ⟨j, hj, -⟩)
      · exact h
      · omega
  | succ m ih =>
    intro hm
    have ih := ih (by omega)
    have hm7 : m < 7 := by omega
    show ((if (w_L_watchers_3 r s i x0 x1 m).2 = 0 then 0 else (if (pw_lk r i m) = 0 then 1 else (if (((nI s) >>> ((nI i) &&& 31)) &&& 1) = 1 then 1 else (if (((nI s) >>> ((nI m) &&& 31)) &&& 1) = 1 then 1 else 0)))) : Int32) = 0 ↔ _
    rw [pm_tb hs hi, pm_tb hs hm7, pw_lkb hI hi hm7]
    by_cases h0 : (w_L_watchers_3 r s i x0 x1 m).2 = 0
    · rw [if_pos h0]
      constructor
      · intro _
        rcases ih.mp h0 with h | ⟨j, hj, h⟩
        · exact Or.inl h
        · exact Or.inr ⟨j, by omega, h⟩
      · intro _; rfl
    · rw [if_neg h0]
      have hn := mt ih.mpr h0
      have hold : ∀ j, j < m → pm_n (r (49 + i)) / 2 ^ j % 2 = 1 → s / 2 ^ i % 2 = 0 → s / 2 ^ j % 2 = 0 → False := fun j hj a b c => hn (Or.inr ⟨j, hj, a, b, c⟩)
      by_cases c1 : pm_n (r (49 + i)) / 2 ^ m % 2 = 1
      · rw [c1, if_neg (by decide)]
        by_cases c2 : s / 2 ^ i % 2 = 1
        · rw [c2, if_pos (by decide)]
          constructor
          · intro h; exact absurd h (by decide)
          · rintro (h | ⟨j, hj, h1, h2, h3⟩)
            · exact absurd (Or.inl h) hn
            · omega
        · have c2' : s / 2 ^ i % 2 = 0 := by omega
          rw [c2', if_neg (by decide)]
          by_cases c3 : s / 2 ^ m % 2 = 1
          · rw [c3, if_pos (by decide)]
            constructor
            · intro h; exact absurd h (by decide)
            · rintro (h | ⟨j, hj, h1, h2, h3⟩)
              · exact absurd (Or.inl h) hn
              · rcases Nat.lt_succ_iff_lt_or_eq.mp hj with h | rfl
                · exact (hold j h h1 c2' h3).elim
                · omega
          · have c3' : s / 2 ^ m % 2 = 0 := by omega
            rw [c3', if_neg (by decide)]
            exact ⟨fun _ => Or.inr ⟨m, by omega, c1, rfl, c3'⟩, fun _ => rfl⟩
      · have c1' : pm_n (r (49 + i)) / 2 ^ m % 2 = 0 := by omega
        rw [c1', if_pos (by decide)]
        constructor
        · intro h; exact absurd h (by decide)
        · rintro (h | ⟨j, hj, h1, h2, h3⟩)
          · exact absurd (Or.inl h) hn
          · rcases Nat.lt_succ_iff_lt_or_eq.mp hj with h | rfl
            · exact (hold j h h1 h2 h3).elim
            · omega
theorem pw_w2b (hI : pm_I B n r) {s : Nat} (hs : s < 128) (x0 : Int32) : ∀ m, m ≤ n → ((w_L_watchers_2 n r s x0 1 m).2 = 0 ↔ ∃ i, i < m ∧ ∃ j, j < n ∧ pm_n (r (49 + i)) / 2 ^ j % 2 = 1 ∧ s / 2 ^ i % 2 = 0 ∧ s / 2 ^ j % 2 = 0) := by
  have h7 := hI.1.2.1
  intro m
  induction m with
  | zero =>
    intro _
    constructor
    · intro h; exact absurd (show (1 : Int32) = 0 from h) (by decide)
    · rintro ⟨i, hi, -⟩; omega
  | succ m ih =>
    intro hm
    have ih := ih (by omega)
    show (w_L_watchers_3 r s m (w_L_watchers_2 n r s x0 1 m).1 (w_L_watchers_2 n r s x0 1 m).2 n).2 = 0 ↔ _
    rw [pw_w3b hI hs (by omega) _ _ n h7, ih]
    constructor
    · rintro (⟨i, hi, h⟩ | h)
      · exact ⟨i, by omega, h⟩
      · exact ⟨m, by omega, h⟩
    · rintro ⟨i, hi, h⟩
      rcases Nat.lt_succ_iff_lt_or_eq.mp hi with h1 | rfl
      · exact Or.inl ⟨i, h1, h⟩
      · exact Or.inr h
theorem pw_wcv (hI : pm_I B n r) {s : Nat} (hs : s < 128) (x0 : Int32) : (w_L_watchers_2 n r s x0 1 n).2 = 0 ↔ ¬ pm_cvr r n s := by
  have h7 := hI.1.2.1
  rw [pw_w2b hI hs x0 n (Nat.le_refl n)]
  constructor
  · rintro ⟨i, hi, j, hj, b, s1, s2⟩ hc
    rcases Nat.lt_trichotomy j i with h | h | h
    · rcases hc i j hi h b with h9 | h9 <;> omega
    · subst h
      have := hI.2.2.2.2.1 j (by omega)
      omega
    · have hb := hI.2.2.2.1 i j (by omega) (by omega)
      rcases hc j i hj h (by omega) with h9 | h9 <;> omega
  · intro hc
    apply Classical.byContradiction
    intro hx
    apply hc
    intro i j hi hji hb
    by_cases h1 : s / 2 ^ i % 2 = 1
    · exact Or.inl h1
    · by_cases h2 : s / 2 ^ j % 2 = 1
      · exact Or.inr h2
      · exact (hx ⟨i, hi, j, by omega, hb, by omega, by omega⟩).elim
theorem pw_wfw (hI : pm_I B n r) (x0 : Int32) : ∀ j, j ≤ 2 ^ n → (w_L_watchers_1 n r x0 (nI n) j).2 = pm_fw (fun j => r (49 + j)) n j := by
  have h7 := hI.1.2.1
  have h128 := pm_p7 h7
  intro j
  induction j with
  | zero => intro _; rfl
  | succ j ih =>
    intro hj
    have ih := ih (by omega)
    have hu := pm_fuE (s := j) (by omega) hI.2.2 h7
    have hc := pw_wcv hI (s := j) (by omega) (w_L_watchers_1 n r x0 (nI n) j).1
    show ((if (w_L_watchers_2 n r j (w_L_watchers_1 n r x0 (nI n) j).1 1 n).2 = 0 then (w_L_watchers_1 n r x0 (nI n) j).2 else (pm_min (w_L_watchers_1 n r x0 (nI n) j).2 (pm_bc (nI j)))) : Int32) = (if pm_fu (fun j => r (49 + j)) (nI j) 0 7 < 0 then pm_min (pm_fw (fun j => r (49 + j)) n j) (pm_bc (nI j)) else pm_fw (fun j => r (49 + j)) n j)
    by_cases h : pm_cvr r n j
    · rw [if_neg (fun e => hc.mp e h), if_pos (hu.mpr h), ih]
    · rw [if_pos (hc.mpr h), if_neg (fun e => h (hu.mp e)), ih]
theorem pw_wt3 (hI : pm_I B n r) : (pw_fa n r) = (w_L_watchers_1 n r 0 (nI n) (2 ^ n)).2 := (pw_wfw hI 0 (2 ^ n) (Nat.le_refl _)).symm
theorem pw_fwI (hI : pm_I B n r) : ∀ j, j ≤ 2 ^ n → ∃ a, a ≤ n ∧ pm_fw (fun j => r (49 + j)) n j = nI a ∧ (a = n ∨ ∃ s, s < j ∧ pm_cvr r n s ∧ pm_pc s 7 = a) ∧ ∀ s, s < j → pm_cvr r n s → a ≤ pm_pc s 7 := by
  have h7 := hI.1.2.1
  have h128 := pm_p7 h7
  intro j
  induction j with
  | zero => intro _; exact ⟨n, Nat.le_refl _, rfl, Or.inl rfl, fun s hs => absurd hs (Nat.not_lt_zero _)⟩
  | succ j ih =>
    intro hj
    obtain ⟨a, a1, a2, a3, a4⟩ := ih (by omega)
    have hu := pm_fuE (s := j) (by omega) hI.2.2 h7
    have hp : pm_pc j 7 ≤ 7 := pn_pc7 _ (by omega)
    by_cases h : pm_cvr r n j
    · refine ⟨min a (pm_pc j 7), by omega, ?_, ?_, fun s hs hc => ?_⟩
      · rw [pm_fw, if_pos (hu.mpr h), a2, pm_bcN j (by omega), pm_minN (by omega) (by omega)]
      · by_cases hle : a ≤ pm_pc j 7
        · rw [Nat.min_eq_left hle]
          rcases a3 with e | ⟨s, hs, hc⟩
          · exact Or.inl e
          · exact Or.inr ⟨s, by omega, hc⟩
        · rw [Nat.min_eq_right (by omega)]
          exact Or.inr ⟨j, by omega, h, rfl⟩
      · rcases Nat.lt_succ_iff_lt_or_eq.mp hs with h1 | rfl
        · have := a4 s h1 hc
          omega
        · omega
    · refine ⟨a, a1, ?_, ?_, fun s hs hc => ?_⟩
      · rw [pm_fw, if_neg (fun e => h (hu.mp e)), a2]
      · rcases a3 with e | ⟨s, hs, hc⟩
        · exact Or.inl e
        · exact Or.inr ⟨s, by omega, hc⟩
      · rcases Nat.lt_succ_iff_lt_or_eq.mp hs with h1 | rfl
        · exact a4 s h1 hc
        · exact absurd hc h
theorem pw_full : ∀ n, n < 8 → pm_pc (2 ^ n - 1) 7 = n ∧ ∀ i, i < 7 → i < n → (2 ^ n - 1) / 2 ^ i % 2 = 1 := by decide +kernel
theorem pw_full2 : ∀ n, n < 8 → ∀ i, i < 7 → i < n → (2 ^ n - 1) / 2 ^ i % 2 = 1 := fun n hn => (pw_full n hn).2
theorem pw_full3 : ∀ n, n < 8 → pm_pc (2 ^ n - 1) n = n := by decide +kernel
theorem pw_wt4 (hI : pm_I B n r) : (pw_fb n r) = (w_L_watchers_1 n r 0 (nI n) (2 ^ n)).2 := by
  have h7 := hI.1.2.1
  rw [pw_wfw hI 0 (2 ^ n) (Nat.le_refl _)]
  obtain ⟨a, a1, a2, a3, a4⟩ := pw_fwI hI (2 ^ n) (Nat.le_refl _)
  have p0 : pm_pc 0 7 = 0 := by decide
  obtain ⟨m, m1, m2, ⟨S, S1, S2, S3, S4⟩, m4⟩ := pm_ffC hI.2.2 h7 n 0 0 (by omega) (Nat.two_pow_pos n) p0
  have hsub : ∀ T, pn_sub 0 T := fun T j _ h => by rw [Nat.zero_div] at h; exact absurd h (by decide)
  have e1 : a ≤ m := by rw [← S4]; exact a4 S S1 S2
  have e2 : m ≤ a := by
    rcases a3 with e | ⟨s, hs, hc, hp⟩
    · obtain ⟨f1, f2⟩ := pw_full n (by omega)
      have hpos := Nat.two_pow_pos n
      have := m4 (2 ^ n - 1) (by omega) (fun i j hi hji _ => Or.inl (f2 i (by omega) hi)) (hsub _)
      omega
    · rw [← hp]; exact m4 s hs hc (hsub _)
  rw [a2]
  show pm_ff (fun j => r (49 + j)) n (nI 0) 0 = nI a
  rw [m2, Nat.le_antisymm e1 e2]
/-- the links, counted -/
theorem pw_w3a (hI : pm_I B n r) {s i : Nat} (hs : s < 128) (hi : i < 7) (a : Nat) (x1 : Int32) : ∀ m, m ≤ 7 → (w_L_watchers_3 r s i (nI a) x1 m).1 = nI (a + if s = 0 then pm_pc (pm_n (r (49 + i))) m else 0) := by
  intro m
  induction m with
  | zero => intro _; show nI a = _; split <;> rfl
  | succ m ih =>
    intro hm
    show (w_L_watchers_3 r s i (nI a) x1 m).1 + ((if (nI s) = 0 then (if (pw_lk r i m) = 0 then 0 else 1) else 0) : Int32) = _
    rw [ih (by omega), pw_lkb hI hi (by omega)]
    by_cases h : s = 0
    · subst h
      rw [if_pos rfl, if_pos rfl, if_pos (show nI 0 = (0 : Int32) from rfl)]
      show _ = nI (a + (pm_pc (pm_n (r (49 + i))) m + pm_n (r (49 + i)) / 2 ^ m % 2))
      by_cases c1 : pm_n (r (49 + i)) / 2 ^ m % 2 = 1
      · rw [c1, if_neg (by decide), nI_1]; rfl
      · rw [show pm_n (r (49 + i)) / 2 ^ m % 2 = 0 by omega, if_pos (by decide), Int32.add_zero]; rfl
    · rw [if_neg h, if_neg h, if_neg (nI_ne0 (by omega) (by omega)), Int32.add_zero]
theorem pw_w2a (hI : pm_I B n r) {s : Nat} (hs : s < 128) (a : Nat) (x1 : Int32) : ∀ m, m ≤ n → (w_L_watchers_2 n r s (nI a) x1 m).1 = nI (a + if s = 0 then pm_sf (fun i => pm_pc (pm_n (r (49 + i))) n) m 0 else 0) := by
  have h7 := hI.1.2.1
  intro m
  induction m with
  | zero => intro _; show nI a = _; split <;> rfl
  | succ m ih =>
    intro hm
    show (w_L_watchers_3 r s m (w_L_watchers_2 n r s (nI a) x1 m).1 (w_L_watchers_2 n r s (nI a) x1 m).2 n).1 = _
    rw [ih (by omega), pw_w3a hI hs (by omega) _ _ n h7]
    by_cases h : s = 0
    · rw [if_pos h, if_pos h, if_pos h, pm_sf_top, Nat.zero_add, Nat.add_assoc]
    · rw [if_neg h, if_neg h, if_neg h]
theorem pw_w1a (hI : pm_I B n r) (y : Int32) : ∀ j, j < 2 ^ n → (w_L_watchers_1 n r 0 y (j + 1)).1 = nI (pm_sf (fun i => pm_pc (pm_n (r (49 + i))) n) n 0) := by
  have h7 := hI.1.2.1
  have h128 := pm_p7 h7
  intro j
  induction j with
  | zero =>
    intro _
    show (w_L_watchers_2 n r 0 (nI 0) 1 n).1 = _
    rw [pw_w2a hI (by decide) 0 1 n (Nat.le_refl n), if_pos rfl, Nat.zero_add]
  | succ j ih =>
    intro hj
    show (w_L_watchers_2 n r (j + 1) (w_L_watchers_1 n r 0 y (j + 1)).1 1 n).1 = _
    rw [ih (by omega), pw_w2a hI (by omega) _ 1 n (Nat.le_refl n), if_neg (by omega), Nat.add_zero]
theorem pw_pcz {D n : Nat} (h : ∀ k, n ≤ k → k < 7 → D / 2 ^ k % 2 = 0) : ∀ d, n + d ≤ 7 → pm_pc D (n + d) = pm_pc D n := by
  intro d
  induction d with
  | zero => intro _; rfl
  | succ d ih =>
    intro hd
    show pm_pc D (n + d) + D / 2 ^ (n + d) % 2 = _
    rw [ih (by omega), h (n + d) (by omega) (by omega)]
    rfl
theorem pw_sfz {F : Nat → Nat} {n : Nat} (h : ∀ k, n ≤ k → k < 7 → F k = 0) : ∀ d, n + d ≤ 7 → pm_sf F (n + d) 0 = pm_sf F n 0 := by
  intro d
  induction d with
  | zero => intro _; rfl
  | succ d ih =>
    intro hd
    rw [show n + (d + 1) = (n + d) + 1 by omega, pm_sf_top, ih (by omega), Nat.zero_add, h (n + d) (by omega) (by omega)]
    rfl
theorem pw_lsS (hI : pm_I B n r) : ∃ S, pm_sf (fun i => pm_pc (pm_n (r (49 + i))) n) n 0 = S ∧ pm_ls r = S / 2 ∧ S ≤ 24 := by
  have h7 := hI.1.2.1
  have hb := hI.2.2.2.2.2.1
  have e1 : pm_sf (fun i => pm_pc (pm_n (r (49 + i))) n) n 0 = pm_sf (fun i => pm_pc (pm_n (r (49 + i))) 7) n 0 := pm_sf_cg fun i _ hi => by
    have := pw_pcz (D := pm_n (r (49 + i))) (n := n) (fun k hk hk7 => by
      have h9 := hb i k (by omega) hk7
      have h8 : ¬ pm_n (r (49 + i)) / 2 ^ k % 2 = 1 := fun e => by have := (h9 e).2; omega
      omega) (7 - n) (by omega)
    rw [show n + (7 - n) = 7 by omega] at this
    exact this.symm
  have e2 : pm_sf (fun i => pm_pc (pm_n (r (49 + i))) 7) n 0 = pm_sf (fun i => pm_pc (pm_n (r (49 + i))) 7) 7 0 := by
    have := pw_sfz (F := fun i => pm_pc (pm_n (r (49 + i))) 7) (n := n) (fun k hk hk7 => by
      have h8 : ∀ j, j < 7 → pm_n (r (49 + k)) / 2 ^ j % 2 = 0 := fun j hj => by
        have h9 := hb k j hk7 hj
        have h8 : ¬ pm_n (r (49 + k)) / 2 ^ j % 2 = 1 := fun e => by have := (h9 e).1; omega
        omega
      show pm_pc (pm_n (r (49 + k))) 7 = 0
      rw [pm_pc7, h8 0 (by decide), h8 1 (by decide), h8 2 (by decide), h8 3 (by decide), h8 4 (by decide), h8 5 (by decide), h8 6 (by decide)]) (7 - n) (by omega)
    rw [show n + (7 - n) = 7 by omega] at this
    exact this.symm
  have e3 : pm_sf (fun i => pm_pc (pm_n (r (49 + i))) 7) 7 0 = pm_pc (pm_n (r (49 + 0))) 7 + (pm_pc (pm_n (r (49 + 1))) 7 + (pm_pc (pm_n (r (49 + 2))) 7 + (pm_pc (pm_n (r (49 + 3))) 7 + (pm_pc (pm_n (r (49 + 4))) 7 + (pm_pc (pm_n (r (49 + 5))) 7 + (pm_pc (pm_n (r (49 + 6))) 7 + 0)))))) := rfl
  refine ⟨_, rfl, ?_, ?_⟩
  · rw [e1, e2, e3]
    unfold pm_ls
    congr 1
    omega
  · rw [e1, e2, e3]
    have hl := hI.2.2.2.2.2.2
    unfold pm_ls at hl
    have sy := fun i j hi hj => hI.2.2.2.1 i j hi hj
    have dg := fun i hi => hI.2.2.2.2.1 i hi
    simp only [pm_pc7] at hl ⊢
    have d0 := dg 0 (by decide); have d1 := dg 1 (by decide); have d2 := dg 2 (by decide); have d3 := dg 3 (by decide); have d4 := dg 4 (by decide); have d5 := dg 5 (by decide); have d6 := dg 6 (by decide)
    have s01 := sy 0 1 (by decide) (by decide); have s02 := sy 0 2 (by decide) (by decide); have s03 := sy 0 3 (by decide) (by decide); have s04 := sy 0 4 (by decide) (by decide); have s05 := sy 0 5 (by decide) (by decide); have s06 := sy 0 6 (by decide) (by decide)
    have s12 := sy 1 2 (by decide) (by decide); have s13 := sy 1 3 (by decide) (by decide); have s14 := sy 1 4 (by decide) (by decide); have s15 := sy 1 5 (by decide) (by decide); have s16 := sy 1 6 (by decide) (by decide)
    have s23 := sy 2 3 (by decide) (by decide); have s24 := sy 2 4 (by decide) (by decide); have s25 := sy 2 5 (by decide) (by decide); have s26 := sy 2 6 (by decide) (by decide)
    have s34 := sy 3 4 (by decide) (by decide); have s35 := sy 3 5 (by decide) (by decide); have s36 := sy 3 6 (by decide) (by decide)
    have s45 := sy 4 5 (by decide) (by decide); have s46 := sy 4 6 (by decide) (by decide); have s56 := sy 5 6 (by decide) (by decide)
    rw [d0, d1, d2, d3, d4, d5, d6, ← s01, ← s02, ← s03, ← s04, ← s05, ← s06, ← s12, ← s13, ← s14, ← s15, ← s16, ← s23, ← s24, ← s25, ← s26, ← s34, ← s35, ← s36, ← s45, ← s46, ← s56] at hl ⊢
    omega
theorem pw_wt1 (hI : pm_I B n r) : pw_lc r = ((w_L_watchers_1 n r 0 (nI n) (2 ^ n)).1 / 2) := by
  obtain ⟨S, e1, e2, e3⟩ := pw_lsS hI
  have hpos := Nat.two_pow_pos n
  have hw := pw_w1a hI (nI n) (2 ^ n - 1) (by omega)
  rw [show 2 ^ n - 1 + 1 = 2 ^ n by omega, e1] at hw
  rw [hw]
  show pm_lt (fun j => r (49 + j)) 7 / 2 = _
  rw [(pm_ltN hI.2.2.1).1, e2]
  exact (pk_div (by omega) (by decide) (by decide)).symm
theorem pw_wt2 (hI : pm_I B n r) : ¬ 24 < (w_L_watchers_1 n r 0 (nI n) (2 ^ n)).1 := by
  obtain ⟨S, e1, e2, e3⟩ := pw_lsS hI
  have hpos := Nat.two_pow_pos n
  have hw := pw_w1a hI (nI n) (2 ^ n - 1) (by omega)
  rw [show 2 ^ n - 1 + 1 = 2 ^ n by omega, e1] at hw
  rw [hw]
  exact fun h => by have := (nI_ltI (a := 24) (b := S) (by omega) (by omega)).mp h; omega
end PWWT
/-! the law: watchers -/
theorem dL_watchers_0 : decode cL_watchers 0 = .ok (.aload_n 0, 1) := by decide +kernel
theorem dL_watchers_1 : decode cL_watchers 1 = .ok (.invokevirtual 177, 3) := by decide +kernel
theorem dL_watchers_4 : decode cL_watchers 4 = .ok (.istore_n 1, 1) := by decide +kernel
theorem dL_watchers_5 : decode cL_watchers 5 = .ok (.iconst 0, 1) := by decide +kernel
theorem dL_watchers_6 : decode cL_watchers 6 = .ok (.istore_n 2, 1) := by decide +kernel
theorem dL_watchers_7 : decode cL_watchers 7 = .ok (.iload_n 1, 1) := by decide +kernel
theorem dL_watchers_8 : decode cL_watchers 8 = .ok (.istore_n 3, 1) := by decide +kernel
theorem dL_watchers_9 : decode cL_watchers 9 = .ok (.iconst 0, 1) := by decide +kernel
theorem dL_watchers_10 : decode cL_watchers 10 = .ok (.istore 4, 2) := by decide +kernel
theorem dL_watchers_12 : decode cL_watchers 12 = .ok (.iload 4, 2) := by decide +kernel
theorem dL_watchers_14 : decode cL_watchers 14 = .ok (.iconst 1, 1) := by decide +kernel
theorem dL_watchers_15 : decode cL_watchers 15 = .ok (.iload_n 1, 1) := by decide +kernel
theorem dL_watchers_16 : decode cL_watchers 16 = .ok (.ishl, 1) := by decide +kernel
theorem dL_watchers_17 : decode cL_watchers 17 = .ok (.if_icmp .ge 173, 3) := by decide +kernel
theorem dL_watchers_20 : decode cL_watchers 20 = .ok (.iconst 1, 1) := by decide +kernel
theorem dL_watchers_21 : decode cL_watchers 21 = .ok (.istore 5, 2) := by decide +kernel
theorem dL_watchers_23 : decode cL_watchers 23 = .ok (.iconst 0, 1) := by decide +kernel
theorem dL_watchers_24 : decode cL_watchers 24 = .ok (.istore 6, 2) := by decide +kernel
theorem dL_watchers_26 : decode cL_watchers 26 = .ok (.iload 6, 2) := by decide +kernel
theorem dL_watchers_28 : decode cL_watchers 28 = .ok (.iload_n 1, 1) := by decide +kernel
theorem dL_watchers_29 : decode cL_watchers 29 = .ok (.if_icmp .ge 136, 3) := by decide +kernel
theorem dL_watchers_32 : decode cL_watchers 32 = .ok (.iconst 0, 1) := by decide +kernel
theorem dL_watchers_33 : decode cL_watchers 33 = .ok (.istore 7, 2) := by decide +kernel
theorem dL_watchers_35 : decode cL_watchers 35 = .ok (.iload 7, 2) := by decide +kernel
theorem dL_watchers_37 : decode cL_watchers 37 = .ok (.iload_n 1, 1) := by decide +kernel
theorem dL_watchers_38 : decode cL_watchers 38 = .ok (.if_icmp .ge 121, 3) := by decide +kernel
theorem dL_watchers_41 : decode cL_watchers 41 = .ok (.aload_n 0, 1) := by decide +kernel
theorem dL_watchers_42 : decode cL_watchers 42 = .ok (.iload 6, 2) := by decide +kernel
theorem dL_watchers_44 : decode cL_watchers 44 = .ok (.iload 7, 2) := by decide +kernel
theorem dL_watchers_46 : decode cL_watchers 46 = .ok (.invokestatic 268, 3) := by decide +kernel
theorem dL_watchers_49 : decode cL_watchers 49 = .ok (.iconst 1, 1) := by decide +kernel
theorem dL_watchers_50 : decode cL_watchers 50 = .ok (.if_icmp .ne 7, 3) := by decide +kernel
theorem dL_watchers_53 : decode cL_watchers 53 = .ok (.iconst 1, 1) := by decide +kernel
theorem dL_watchers_54 : decode cL_watchers 54 = .ok (.goto 4, 3) := by decide +kernel
theorem dL_watchers_57 : decode cL_watchers 57 = .ok (.iconst 0, 1) := by decide +kernel
theorem dL_watchers_58 : decode cL_watchers 58 = .ok (.istore 8, 2) := by decide +kernel
theorem dL_watchers_60 : decode cL_watchers 60 = .ok (.iload_n 2, 1) := by decide +kernel
theorem dL_watchers_61 : decode cL_watchers 61 = .ok (.iload 4, 2) := by decide +kernel
theorem dL_watchers_63 : decode cL_watchers 63 = .ok (.ifCond .ne 12, 3) := by decide +kernel
theorem dL_watchers_66 : decode cL_watchers 66 = .ok (.iload 8, 2) := by decide +kernel
theorem dL_watchers_68 : decode cL_watchers 68 = .ok (.ifCond .eq 7, 3) := by decide +kernel
theorem dL_watchers_71 : decode cL_watchers 71 = .ok (.iconst 1, 1) := by decide +kernel
theorem dL_watchers_72 : decode cL_watchers 72 = .ok (.goto 4, 3) := by decide +kernel
theorem dL_watchers_75 : decode cL_watchers 75 = .ok (.iconst 0, 1) := by decide +kernel
theorem dL_watchers_76 : decode cL_watchers 76 = .ok (.iadd, 1) := by decide +kernel
theorem dL_watchers_77 : decode cL_watchers 77 = .ok (.istore_n 2, 1) := by decide +kernel
theorem dL_watchers_78 : decode cL_watchers 78 = .ok (.iload 5, 2) := by decide +kernel
theorem dL_watchers_80 : decode cL_watchers 80 = .ok (.ifCond .eq 34, 3) := by decide +kernel
theorem dL_watchers_83 : decode cL_watchers 83 = .ok (.iload 8, 2) := by decide +kernel
theorem dL_watchers_85 : decode cL_watchers 85 = .ok (.ifCond .eq 25, 3) := by decide +kernel
theorem dL_watchers_88 : decode cL_watchers 88 = .ok (.iload 4, 2) := by decide +kernel
theorem dL_watchers_90 : decode cL_watchers 90 = .ok (.iload 6, 2) := by decide +kernel
theorem dL_watchers_92 : decode cL_watchers 92 = .ok (.ishr, 1) := by decide +kernel
theorem dL_watchers_93 : decode cL_watchers 93 = .ok (.iconst 1, 1) := by decide +kernel
theorem dL_watchers_94 : decode cL_watchers 94 = .ok (.iand, 1) := by decide +kernel
theorem dL_watchers_95 : decode cL_watchers 95 = .ok (.iconst 1, 1) := by decide +kernel
theorem dL_watchers_96 : decode cL_watchers 96 = .ok (.if_icmp .eq 14, 3) := by decide +kernel
theorem dL_watchers_99 : decode cL_watchers 99 = .ok (.iload 4, 2) := by decide +kernel
theorem dL_watchers_101 : decode cL_watchers 101 = .ok (.iload 7, 2) := by decide +kernel
theorem dL_watchers_103 : decode cL_watchers 103 = .ok (.ishr, 1) := by decide +kernel
theorem dL_watchers_104 : decode cL_watchers 104 = .ok (.iconst 1, 1) := by decide +kernel
theorem dL_watchers_105 : decode cL_watchers 105 = .ok (.iand, 1) := by decide +kernel
theorem dL_watchers_106 : decode cL_watchers 106 = .ok (.iconst 1, 1) := by decide +kernel
theorem dL_watchers_107 : decode cL_watchers 107 = .ok (.if_icmp .ne 7, 3) := by decide +kernel
theorem dL_watchers_110 : decode cL_watchers 110 = .ok (.iconst 1, 1) := by decide +kernel
theorem dL_watchers_111 : decode cL_watchers 111 = .ok (.goto 4, 3) := by decide +kernel
theorem dL_watchers_114 : decode cL_watchers 114 = .ok (.iconst 0, 1) := by decide +kernel
theorem dL_watchers_115 : decode cL_watchers 115 = .ok (.istore 5, 2) := by decide +kernel
theorem dL_watchers_117 : decode cL_watchers 117 = .ok (.iload 8, 2) := by decide +kernel
theorem dL_watchers_119 : decode cL_watchers 119 = .ok (.aload_n 0, 1) := by decide +kernel
theorem dL_watchers_120 : decode cL_watchers 120 = .ok (.iload 7, 2) := by decide +kernel
theorem dL_watchers_122 : decode cL_watchers 122 = .ok (.iload 6, 2) := by decide +kernel
theorem dL_watchers_124 : decode cL_watchers 124 = .ok (.invokestatic 268, 3) := by decide +kernel
theorem dL_watchers_127 : decode cL_watchers 127 = .ok (.iconst 1, 1) := by decide +kernel
theorem dL_watchers_128 : decode cL_watchers 128 = .ok (.if_icmp .ne 7, 3) := by decide +kernel
theorem dL_watchers_131 : decode cL_watchers 131 = .ok (.iconst 1, 1) := by decide +kernel
theorem dL_watchers_132 : decode cL_watchers 132 = .ok (.goto 4, 3) := by decide +kernel
theorem dL_watchers_135 : decode cL_watchers 135 = .ok (.iconst 0, 1) := by decide +kernel
theorem dL_watchers_136 : decode cL_watchers 136 = .ok (.if_icmp .ne 15, 3) := by decide +kernel
theorem dL_watchers_139 : decode cL_watchers 139 = .ok (.iload 6, 2) := by decide +kernel
theorem dL_watchers_141 : decode cL_watchers 141 = .ok (.iload 7, 2) := by decide +kernel
theorem dL_watchers_143 : decode cL_watchers 143 = .ok (.if_icmp .ne 10, 3) := by decide +kernel
theorem dL_watchers_146 : decode cL_watchers 146 = .ok (.iload 8, 2) := by decide +kernel
theorem dL_watchers_148 : decode cL_watchers 148 = .ok (.ifCond .eq 5, 3) := by decide +kernel
theorem dL_watchers_151 : decode cL_watchers 151 = .ok (.iconst 0, 1) := by decide +kernel
theorem dL_watchers_152 : decode cL_watchers 152 = .ok (.ireturn, 1) := by decide +kernel
theorem dL_watchers_153 : decode cL_watchers 153 = .ok (.iinc 7 1, 3) := by decide +kernel
theorem dL_watchers_156 : decode cL_watchers 156 = .ok (.goto (-121), 3) := by decide +kernel
theorem dL_watchers_159 : decode cL_watchers 159 = .ok (.iinc 6 1, 3) := by decide +kernel
theorem dL_watchers_162 : decode cL_watchers 162 = .ok (.goto (-136), 3) := by decide +kernel
theorem dL_watchers_165 : decode cL_watchers 165 = .ok (.iload 5, 2) := by decide +kernel
theorem dL_watchers_167 : decode cL_watchers 167 = .ok (.ifCond .eq 15, 3) := by decide +kernel
theorem dL_watchers_170 : decode cL_watchers 170 = .ok (.iload_n 3, 1) := by decide +kernel
theorem dL_watchers_171 : decode cL_watchers 171 = .ok (.iload 4, 2) := by decide +kernel
theorem dL_watchers_173 : decode cL_watchers 173 = .ok (.invokestatic 270, 3) := by decide +kernel
theorem dL_watchers_176 : decode cL_watchers 176 = .ok (.invokestatic 275, 3) := by decide +kernel
theorem dL_watchers_179 : decode cL_watchers 179 = .ok (.goto 4, 3) := by decide +kernel
theorem dL_watchers_182 : decode cL_watchers 182 = .ok (.iload_n 3, 1) := by decide +kernel
theorem dL_watchers_183 : decode cL_watchers 183 = .ok (.istore_n 3, 1) := by decide +kernel
theorem dL_watchers_184 : decode cL_watchers 184 = .ok (.iinc 4 1, 3) := by decide +kernel
theorem dL_watchers_187 : decode cL_watchers 187 = .ok (.goto (-175), 3) := by decide +kernel
theorem dL_watchers_190 : decode cL_watchers 190 = .ok (.aload_n 0, 1) := by decide +kernel
theorem dL_watchers_191 : decode cL_watchers 191 = .ok (.invokevirtual 278, 3) := by decide +kernel
theorem dL_watchers_194 : decode cL_watchers 194 = .ok (.iload_n 2, 1) := by decide +kernel
theorem dL_watchers_195 : decode cL_watchers 195 = .ok (.iconst 2, 1) := by decide +kernel
theorem dL_watchers_196 : decode cL_watchers 196 = .ok (.idiv, 1) := by decide +kernel
theorem dL_watchers_197 : decode cL_watchers 197 = .ok (.if_icmp .ne 51, 3) := by decide +kernel
theorem dL_watchers_200 : decode cL_watchers 200 = .ok (.iload_n 2, 1) := by decide +kernel
theorem dL_watchers_201 : decode cL_watchers 201 = .ok (.bipush 24, 2) := by decide +kernel
theorem dL_watchers_203 : decode cL_watchers 203 = .ok (.if_icmp .gt 45, 3) := by decide +kernel
theorem dL_watchers_206 : decode cL_watchers 206 = .ok (.aload_n 0, 1) := by decide +kernel
theorem dL_watchers_207 : decode cL_watchers 207 = .ok (.invokevirtual 281, 3) := by decide +kernel
theorem dL_watchers_210 : decode cL_watchers 210 = .ok (.iload_n 3, 1) := by decide +kernel
theorem dL_watchers_211 : decode cL_watchers 211 = .ok (.if_icmp .ne 37, 3) := by decide +kernel
theorem dL_watchers_214 : decode cL_watchers 214 = .ok (.aload_n 0, 1) := by decide +kernel
theorem dL_watchers_215 : decode cL_watchers 215 = .ok (.invokevirtual 284, 3) := by decide +kernel
theorem dL_watchers_218 : decode cL_watchers 218 = .ok (.iload_n 3, 1) := by decide +kernel
theorem dL_watchers_219 : decode cL_watchers 219 = .ok (.if_icmp .ne 29, 3) := by decide +kernel
theorem dL_watchers_222 : decode cL_watchers 222 = .ok (.aload_n 0, 1) := by decide +kernel
theorem dL_watchers_223 : decode cL_watchers 223 = .ok (.iload_n 1, 1) := by decide +kernel
theorem dL_watchers_224 : decode cL_watchers 224 = .ok (.iconst 0, 1) := by decide +kernel
theorem dL_watchers_225 : decode cL_watchers 225 = .ok (.invokestatic 268, 3) := by decide +kernel
theorem dL_watchers_228 : decode cL_watchers 228 = .ok (.bipush (-11), 2) := by decide +kernel
theorem dL_watchers_230 : decode cL_watchers 230 = .ok (.if_icmp .ne 18, 3) := by decide +kernel
theorem dL_watchers_233 : decode cL_watchers 233 = .ok (.aload_n 0, 1) := by decide +kernel
theorem dL_watchers_234 : decode cL_watchers 234 = .ok (.iconst 0, 1) := by decide +kernel
theorem dL_watchers_235 : decode cL_watchers 235 = .ok (.iconst (-1), 1) := by decide +kernel
theorem dL_watchers_236 : decode cL_watchers 236 = .ok (.invokestatic 268, 3) := by decide +kernel
theorem dL_watchers_239 : decode cL_watchers 239 = .ok (.bipush (-11), 2) := by decide +kernel
theorem dL_watchers_241 : decode cL_watchers 241 = .ok (.if_icmp .ne 7, 3) := by decide +kernel
theorem dL_watchers_244 : decode cL_watchers 244 = .ok (.iconst 1, 1) := by decide +kernel
theorem dL_watchers_245 : decode cL_watchers 245 = .ok (.goto 4, 3) := by decide +kernel
theorem dL_watchers_248 : decode cL_watchers 248 = .ok (.iconst 0, 1) := by decide +kernel
theorem dL_watchers_249 : decode cL_watchers 249 = .ok (.ireturn, 1) := by decide +kernel
theorem mt_L_watchers : pm_Mt yL_watchers cL_watchers 9 (some .boolean) 1 := ⟨pm_T_in 989 (by decide +kernel) (by decide +kernel), pm_T_in 34 (by decide +kernel) (by decide +kernel), ⟨by decide +kernel, by decide +kernel, by decide +kernel⟩, by decide +kernel, by decide⟩
set_option maxRecDepth 100000 in
set_option maxHeartbeats 8000000 in
theorem c_L_watchers {l : Launch} {z : Nat} {D : va_G} {kA : Nat → ClassId} {kE : Nat → Nat} {B n : Nat} {r : Nat → Int32} {hs : List (Nat → Int32)} {u : Nat × List Nat} {ar : List (Nat × va_E)}  (hI : pm_I B n r) (h0 : 0 < n) : ∀ nx M, (pw_W z kA kE (B, r, hs, u) ar) nx M → pm_C l z D kA kE yL_watchers cL_watchers 9 (some .boolean) 40 33036 198216 [.ref (z + 0)] nx M (pw_P (some (.int 1)) (pw_W z kA kE (B, r, hs, u) ar)) := by
  refine pw_mk (own := RL) (nm := "watchers") mt_L_watchers rfl rfl rfl rfl fun X B9 => ?_
  have h7 : n ≤ 7 := hI.1.2.1
  have h128 : 2 ^ n ≤ 128 := pm_p7 h7
  refine pw_l (fun _ _ _ _ k => pm_loc (L' := [some (.ref (z + 0)), none, none, none, none, none, none, none, none]) rfl k) ?_
  refine pw_l (fun _ _ _ _ k => pm_aload_n B9 dL_watchers_0 rfl k) ?_
  refine pw_cV (As := []) (c2 := (33036 - (2) + 0)) (s2 := (198216 - (12) + 0)) B9 (fun _ _ hW => pw_0 hW) rfl (a_X12_memberCount hI) mt_X12_memberCount sv_L_177 dL_watchers_1 rfl rfl rfl (by omega) (by omega) ?_
  refine pw_l (fun _ _ _ _ k => pm_stk (st' := [.int (nI n)]) rfl k) ?_
  refine pw_l (fun _ _ _ _ k => pm_istore_n B9 dL_watchers_4 rfl rfl k) ?_
  refine pw_l (fun _ _ _ _ k => pm_loc (L' := [some (.ref (z + 0)), some (.int (nI n)), none, none, none, none, none, none, none]) rfl k) ?_
  refine pw_l (fun _ _ _ _ k => pm_iconst (v := 0) B9 dL_watchers_5 (by decide) k) ?_
  refine pw_l (fun _ _ _ _ k => pm_istore_n B9 dL_watchers_6 rfl rfl k) ?_
  refine pw_l (fun _ _ _ _ k => pm_loc (L' := [some (.ref (z + 0)), some (.int (nI n)), some (.int 0), none, none, none, none, none, none]) rfl k) ?_
  refine pw_l (fun _ _ _ _ k => pm_iload_n B9 dL_watchers_7 rfl k) ?_
  refine pw_l (fun _ _ _ _ k => pm_istore_n B9 dL_watchers_8 rfl rfl k) ?_
  refine pw_l (fun _ _ _ _ k => pm_loc (L' := [some (.ref (z + 0)), some (.int (nI n)), some (.int 0), some (.int (nI n)), none, none, none, none, none]) rfl k) ?_
  refine pw_l (fun _ _ _ _ k => pm_iconst (v := 0) B9 dL_watchers_9 (by decide) k) ?_
  refine pw_l (fun _ _ _ _ k => pm_istore B9 dL_watchers_10 rfl rfl k) ?_
  refine pw_l (fun _ _ _ _ k => pm_loc (L' := [some (.ref (z + 0)), some (.int (nI n)), some (.int 0), some (.int (nI n)), some (.int 0), none, none, none, none]) rfl k) ?_
  refine pw_l (fun _ _ _ _ k => pm_loc (L' := [some (.ref (z + 0)), some (.int (nI n)), some (.int 0), some (.int (nI n)), some (.int (nI 0)), none, none, none, none]) (congrArg (fun yy : Int32 => ([some (.ref (z + 0)), some (.int (nI n)), some (.int 0), some (.int (nI n)), some (.int yy), none, none, none, none] : List (Option Value))) rfl) k) ?_
  have hx1 : pw_J l z D X 33036 198216 (pm_Q z D (pw_P (some (.int 1)) (pw_W z kA kE (B, r, hs, u) ar)) 33036 198216 X) (pw_W z kA kE (B, r, hs, u) ar) (33036 - (2 + 129 * 256) + 0) (198216 - (12 + 129 * 1536) + 0) 190 [some (.ref (z + 0)), some (.int (nI n)), some (.int (w_L_watchers_1 n r 0 (nI n) (2 ^ n)).1), some (.int (w_L_watchers_1 n r 0 (nI n) (2 ^ n)).2), none, none, none, none, none] [] := by
    refine pw_l (fun _ _ _ _ k => pm_aload_n B9 dL_watchers_190 rfl k) ?_
    refine pw_cV (As := []) (c2 := (33036 - (4 + 129 * 256) + 0)) (s2 := (198216 - (24 + 129 * 1536) + 0)) B9 (fun _ _ hW => pw_0 hW) rfl (a_X12_linkCount hI) mt_X12_linkCount sv_L_278 dL_watchers_191 rfl rfl rfl (by omega) (by omega) ?_
    refine pw_l (fun _ _ _ _ k => pm_stk (st' := [.int (pw_lc r)]) rfl k) ?_
    refine pw_l (fun _ _ _ _ k => pm_iload_n B9 dL_watchers_194 rfl k) ?_
    refine pw_l (fun _ _ _ _ k => pm_iconst (v := 2) B9 dL_watchers_195 (by decide) k) ?_
    refine pw_l (fun _ _ _ _ k => pm_idiv B9 dL_watchers_196 (by first | decide | assumption) k) ?_
    refine pw_l (fun _ _ _ _ k => pm_icmp_ne (tgt := 248) B9 dL_watchers_197 (by decide) (fun h => absurd ((pw_wt1 hI)) h) (fun _ => k)) ?_
    refine pw_l (fun _ _ _ _ k => pm_iload_n B9 dL_watchers_200 rfl k) ?_
    refine pw_l (fun _ _ _ _ k => pm_bipush (v := 24) B9 dL_watchers_201 (by decide) k) ?_
    refine pw_l (fun _ _ _ _ k => pm_icmp_gt (tgt := 248) B9 dL_watchers_203 (by decide) (fun h => absurd h ((pw_wt2 hI))) (fun _ => k)) ?_
    refine pw_l (fun _ _ _ _ k => pm_aload_n B9 dL_watchers_206 rfl k) ?_
    refine pw_cV (As := []) (c2 := (33036 - (6 + 129 * 256) + 0)) (s2 := (198216 - (36 + 129 * 1536) + 0)) B9 (fun _ _ hW => pw_0 hW) rfl (a_X12_fewestWatchers hI) mt_X12_fewestWatchers sv_L_281 dL_watchers_207 rfl rfl rfl (by omega) (by omega) ?_
    refine pw_l (fun _ _ _ _ k => pm_stk (st' := [.int (pw_fa n r)]) rfl k) ?_
    refine pw_l (fun _ _ _ _ k => pm_iload_n B9 dL_watchers_210 rfl k) ?_
    refine pw_l (fun _ _ _ _ k => pm_icmp_ne (tgt := 248) B9 dL_watchers_211 (by decide) (fun h => absurd ((pw_wt3 hI)) h) (fun _ => k)) ?_
    refine pw_l (fun _ _ _ _ k => pm_aload_n B9 dL_watchers_214 rfl k) ?_
    refine pw_cV (As := []) (c2 := (33036 - (8 + 129 * 256) + 0)) (s2 := (198216 - (48 + 129 * 1536) + 0)) B9 (fun _ _ hW => pw_0 hW) rfl (a_X12_fewestWatchersByBranching hI) mt_X12_fewestWatchersByBranching sv_L_284 dL_watchers_215 rfl rfl rfl (by omega) (by omega) ?_
    refine pw_l (fun _ _ _ _ k => pm_stk (st' := [.int (pw_fb n r)]) rfl k) ?_
    refine pw_l (fun _ _ _ _ k => pm_iload_n B9 dL_watchers_218 rfl k) ?_
    refine pw_l (fun _ _ _ _ k => pm_icmp_ne (tgt := 248) B9 dL_watchers_219 (by decide) (fun h => absurd ((pw_wt4 hI)) h) (fun _ => k)) ?_
    refine pw_l (fun _ _ _ _ k => pm_aload_n B9 dL_watchers_222 rfl k) ?_
    refine pw_l (fun _ _ _ _ k => pm_iload_n B9 dL_watchers_223 rfl k) ?_
    refine pw_l (fun _ _ _ _ k => pm_iconst (v := 0) B9 dL_watchers_224 (by decide) k) ?_
    refine pw_cSW (As := [.ref (z + 0), .int (nI n), .int 0]) (c2 := (33036 - (10 + 129 * 256) + 0)) (s2 := (198216 - (60 + 129 * 1536) + 0)) B9 (pv_as (pv_L_areLinked_n hI.1.2.1) (b_L_areLinked hI)) mt_L_areLinked ss_L_268 dL_watchers_225 rfl rfl rfl (by omega) (by omega) ?_
    refine pw_l (fun _ _ _ _ k => pm_stk (st' := [.int (-11)]) rfl k) ?_
    refine pw_l (fun _ _ _ _ k => pm_bipush (v := (-11)) B9 dL_watchers_228 (by decide) k) ?_
    refine pw_l (fun _ _ _ _ k => pm_icmp_ne (tgt := 248) B9 dL_watchers_230 (by decide) (fun h => absurd (by decide) h) (fun _ => k)) ?_
    refine pw_l (fun _ _ _ _ k => pm_aload_n B9 dL_watchers_233 rfl k) ?_
    refine pw_l (fun _ _ _ _ k => pm_iconst (v := 0) B9 dL_watchers_234 (by decide) k) ?_
    refine pw_l (fun _ _ _ _ k => pm_iconst (v := (-1)) B9 dL_watchers_235 (by decide) k) ?_
    refine pw_cSW (As := [.ref (z + 0), .int 0, .int (-1)]) (c2 := (33036 - (12 + 129 * 256) + 0)) (s2 := (198216 - (72 + 129 * 1536) + 0)) B9 (pv_as (pv_L_areLinked_z h0 hI.1.2.1) (b_L_areLinked hI)) mt_L_areLinked ss_L_268 dL_watchers_236 rfl rfl rfl (by omega) (by omega) ?_
    refine pw_l (fun _ _ _ _ k => pm_stk (st' := [.int (-11)]) rfl k) ?_
    refine pw_l (fun _ _ _ _ k => pm_bipush (v := (-11)) B9 dL_watchers_239 (by decide) k) ?_
    refine pw_l (fun _ _ _ _ k => pm_icmp_ne (tgt := 248) B9 dL_watchers_241 (by decide) (fun h => absurd (by decide) h) (fun _ => k)) ?_
    refine pw_l (fun _ _ _ _ k => pm_iconst (v := 1) B9 dL_watchers_244 (by decide) k) ?_
    refine pw_l (fun _ _ _ _ k => pm_goto (tgt := 249) B9 dL_watchers_245 (by decide) k) ?_
    exact fun cu su nx M h1 h2 hW => pm_ireturn B9 dL_watchers_249 rfl (rfl) ⟨rfl, hW⟩ (Nat.ble_eq_true_of_le (by omega)) (Nat.ble_eq_true_of_le (by omega))
  have loop1 : ∀ k1 j1 : Nat, j1 + k1 = (2 ^ n) → ∀ (a2_1 : Int32), a2_1 = (w_L_watchers_1 n r 0 (nI n) j1).1 → ∀ (a3_1 : Int32), a3_1 = (w_L_watchers_1 n r 0 (nI n) j1).2 → pw_J l z D X 33036 198216 (pm_Q z D (pw_P (some (.int 1)) (pw_W z kA kE (B, r, hs, u) ar)) 33036 198216 X) (pw_W z kA kE (B, r, hs, u) ar) (k1 * 256 + (256 + (33036 - (2 + 129 * 256) + 0))) (k1 * 1536 + (1536 + (198216 - (12 + 129 * 1536) + 0))) 12 [some (.ref (z + 0)), some (.int (nI n)), some (.int a2_1), some (.int a3_1), some (.int (nI j1)), none, none, none, none] [] := by
    intro k1
    induction k1 with
    | zero =>
      intro j1 hj1 a2_1 ea2_1 a3_1 ea3_1
      have hjn1 : j1 = (2 ^ n) := by omega
      refine pw_cr (c2 := (256 - (0) + (33036 - (2 + 129 * 256) + 0))) (s2 := (1536 - (0) + (198216 - (12 + 129 * 1536) + 0))) (by omega) (by omega) ?_
      refine pw_l (fun _ _ _ _ k => pm_iload B9 dL_watchers_12 rfl k) ?_
      refine pw_l (fun _ _ _ _ k => pm_iconst (v := 1) B9 dL_watchers_14 (by decide) k) ?_
      refine pw_l (fun _ _ _ _ k => pm_iload_n B9 dL_watchers_15 rfl k) ?_
      refine pw_l (fun _ _ _ _ k => pm_ishl B9 dL_watchers_16 k) ?_
      refine pw_l (fun _ _ _ _ k => pm_stk (st' := [.int (nI (2 ^ n)), .int (nI j1)]) (congrArg (fun yy : Int32 => ([.int yy, .int (nI j1)] : List Value)) (show (1 <<< ((nI n) &&& 31)) = (nI (2 ^ n)) from pm_sh1 n h7)) k) ?_
      refine pw_l (fun _ _ _ _ k => pm_icmp_ge (tgt := 190) B9 dL_watchers_17 (by decide) (fun _ => k) (fun h => absurd ((by rw [show (nI (2 ^ n)) = nI (2 ^ n) from rfl, show (nI j1) = nI j1 from rfl]; exact (nI_leI (by omega) (by omega)).mpr (by omega))) h)) ?_
      refine pw_l (fun _ _ _ _ k => pm_wk (L' := [some (.ref (z + 0)), some (.int (nI n)), some (.int a2_1), some (.int a3_1), none, none, none, none, none]) ⟨rfl, ⟨rfl, ⟨rfl, ⟨rfl, trivial⟩⟩⟩⟩ k) ?_
      exact pw_cr (by omega) (by omega) (pw_eq (by first | with_reducible rfl | simp only [ea2_1, ea3_1, hjn1]) (by first | with_reducible rfl | simp only [ea2_1, ea3_1, hjn1]) rfl hx1)
    | succ k1 ih1 =>
      intro j1 hj1 a2_1 ea2_1 a3_1 ea3_1
      have hjn1 : j1 < (2 ^ n) := by omega
      refine pw_cr (c2 := (256 - (0) + (k1 * 256 + (256 + (33036 - (2 + 129 * 256) + 0))))) (s2 := (1536 - (0) + (k1 * 1536 + (1536 + (198216 - (12 + 129 * 1536) + 0))))) (by rw [Nat.succ_mul]; omega) (by rw [Nat.succ_mul]; omega) ?_
      refine pw_l (fun _ _ _ _ k => pm_iload B9 dL_watchers_12 rfl k) ?_
      refine pw_l (fun _ _ _ _ k => pm_iconst (v := 1) B9 dL_watchers_14 (by decide) k) ?_
      refine pw_l (fun _ _ _ _ k => pm_iload_n B9 dL_watchers_15 rfl k) ?_
      refine pw_l (fun _ _ _ _ k => pm_ishl B9 dL_watchers_16 k) ?_
      refine pw_l (fun _ _ _ _ k => pm_stk (st' := [.int (nI (2 ^ n)), .int (nI j1)]) (congrArg (fun yy : Int32 => ([.int yy, .int (nI j1)] : List Value)) (show (1 <<< ((nI n) &&& 31)) = (nI (2 ^ n)) from pm_sh1 n h7)) k) ?_
      refine pw_l (fun _ _ _ _ k => pm_icmp_ge (tgt := 190) B9 dL_watchers_17 (by decide) (fun h => absurd h ((by rw [show (nI (2 ^ n)) = nI (2 ^ n) from rfl, show (nI j1) = nI j1 from rfl]; exact fun e => absurd ((nI_leI (by omega) (by omega)).mp e) (by omega)))) (fun _ => k)) ?_
      refine pw_l (fun _ _ _ _ k => pm_iconst (v := 1) B9 dL_watchers_20 (by decide) k) ?_
      refine pw_l (fun _ _ _ _ k => pm_istore B9 dL_watchers_21 rfl rfl k) ?_
      refine pw_l (fun _ _ _ _ k => pm_loc (L' := [some (.ref (z + 0)), some (.int (nI n)), some (.int a2_1), some (.int a3_1), some (.int (nI j1)), some (.int 1), none, none, none]) rfl k) ?_
      refine pw_l (fun _ _ _ _ k => pm_iconst (v := 0) B9 dL_watchers_23 (by decide) k) ?_
      refine pw_l (fun _ _ _ _ k => pm_istore B9 dL_watchers_24 rfl rfl k) ?_
      refine pw_l (fun _ _ _ _ k => pm_loc (L' := [some (.ref (z + 0)), some (.int (nI n)), some (.int a2_1), some (.int a3_1), some (.int (nI j1)), some (.int 1), some (.int 0), none, none]) rfl k) ?_
      refine pw_l (fun _ _ _ _ k => pm_loc (L' := [some (.ref (z + 0)), some (.int (nI n)), some (.int a2_1), some (.int a3_1), some (.int (nI j1)), some (.int 1), some (.int (nI 0)), none, none]) (congrArg (fun yy : Int32 => ([some (.ref (z + 0)), some (.int (nI n)), some (.int a2_1), some (.int a3_1), some (.int (nI j1)), some (.int 1), some (.int yy), none, none] : List (Option Value))) rfl) k) ?_
      have hx2 : pw_J l z D X 33036 198216 (pm_Q z D (pw_P (some (.int 1)) (pw_W z kA kE (B, r, hs, u) ar)) 33036 198216 X) (pw_W z kA kE (B, r, hs, u) ar) (256 - (8 * 32) + (k1 * 256 + (256 + (33036 - (2 + 129 * 256) + 0)))) (1536 - (8 * 192) + (k1 * 1536 + (1536 + (198216 - (12 + 129 * 1536) + 0)))) 165 [some (.ref (z + 0)), some (.int (nI n)), some (.int (w_L_watchers_2 n r j1 a2_1 1 n).1), some (.int a3_1), some (.int (nI j1)), some (.int (w_L_watchers_2 n r j1 a2_1 1 n).2), none, none, none] [] := by
        refine pw_l (fun _ _ _ _ k => pm_iload B9 dL_watchers_165 rfl k) ?_
        suffices hj9 : pw_J l z D X 33036 198216 (pm_Q z D (pw_P (some (.int 1)) (pw_W z kA kE (B, r, hs, u) ar)) 33036 198216 X) (pw_W z kA kE (B, r, hs, u) ar) (256 - (8 * 32) + (k1 * 256 + (256 + (33036 - (2 + 129 * 256) + 0)))) (1536 - (8 * 192) + (k1 * 1536 + (1536 + (198216 - (12 + 129 * 1536) + 0)))) 183 [some (.ref (z + 0)), some (.int (nI n)), some (.int (w_L_watchers_2 n r j1 a2_1 1 n).1), none, some (.int (nI j1)), none, none, none, none] [.int ((if (w_L_watchers_2 n r j1 a2_1 1 n).2 = 0 then a3_1 else (pm_min a3_1 (pm_bc (nI j1)))) : Int32)] by
          refine pw_l2 (fun _ _ _ _ k1 k2 => pm_if_eq (tgt := 182) B9 dL_watchers_167 (by decide) k1 k2) (fun hq10 => ?_) (fun hq10 => ?_)
          · refine pw_l (fun _ _ _ _ k => pm_iload_n B9 dL_watchers_182 rfl k) ?_
            refine pw_l (fun _ _ _ _ k => pm_wk (L' := [some (.ref (z + 0)), some (.int (nI n)), some (.int (w_L_watchers_2 n r j1 a2_1 1 n).1), none, some (.int (nI j1)), none, none, none, none]) ⟨rfl, ⟨rfl, ⟨rfl, ⟨rfl, trivial⟩⟩⟩⟩ k) ?_
            exact pw_cr (by omega) (by omega) (pw_eq (by first | with_reducible rfl | simp only [if_pos hq10]) (by first | with_reducible rfl | simp only [if_pos hq10]) (by first | with_reducible rfl | simp only [if_pos hq10]) hj9)
          · refine pw_l (fun _ _ _ _ k => pm_iload_n B9 dL_watchers_170 rfl k) ?_
            refine pw_l (fun _ _ _ _ k => pm_iload B9 dL_watchers_171 rfl k) ?_
            refine pw_lb (fun _ _ _ _ hc hs k => pm_cS (As := [.int (nI j1)]) (mc2 := 0) (ms2 := 0) B9 c_J6_bitCount_0f7a4 mt_J6_bitCount_0f7a4 ss_L_270 dL_watchers_173 rfl rfl rfl (Nat.ble_eq_true_of_le hc) (Nat.ble_eq_true_of_le hs) k) ?_
            refine pw_l (fun _ _ _ _ k => pm_stk (st' := [.int (pm_bc (nI j1)), .int a3_1]) rfl k) ?_
            refine pw_lb (fun _ _ _ _ hc hs k => pm_mmin B9 dL_watchers_176 (pm_T_in 999 (by decide +kernel) (by decide +kernel)) rfl rfl (Nat.ble_eq_true_of_le hc) (Nat.ble_eq_true_of_le hs) k) ?_
            refine pw_l (fun _ _ _ _ k => pm_goto (tgt := 183) B9 dL_watchers_179 (by decide) k) ?_
            refine pw_l (fun _ _ _ _ k => pm_wk (L' := [some (.ref (z + 0)), some (.int (nI n)), some (.int (w_L_watchers_2 n r j1 a2_1 1 n).1), none, some (.int (nI j1)), none, none, none, none]) ⟨rfl, ⟨rfl, ⟨rfl, ⟨rfl, trivial⟩⟩⟩⟩ k) ?_
            exact pw_cr (by omega) (by omega) (pw_eq (by first | with_reducible rfl | simp only [if_neg hq10]) (by first | with_reducible rfl | simp only [if_neg hq10]) (by first | with_reducible rfl | simp only [if_neg hq10]) hj9)
        refine pw_l (fun _ _ _ _ k => pm_istore_n B9 dL_watchers_183 rfl rfl k) ?_
        refine pw_l (fun _ _ _ _ k => pm_loc (L' := [some (.ref (z + 0)), some (.int (nI n)), some (.int (w_L_watchers_2 n r j1 a2_1 1 n).1), some (.int ((if (w_L_watchers_2 n r j1 a2_1 1 n).2 = 0 then a3_1 else (pm_min a3_1 (pm_bc (nI j1)))) : Int32)), some (.int (nI j1)), none, none, none, none]) rfl k) ?_
        refine pw_l (fun _ _ _ _ k => pm_iinc B9 dL_watchers_184 rfl rfl rfl k) ?_
        refine pw_l (fun _ _ _ _ k => pm_loc (L' := [some (.ref (z + 0)), some (.int (nI n)), some (.int (w_L_watchers_2 n r j1 a2_1 1 n).1), some (.int ((if (w_L_watchers_2 n r j1 a2_1 1 n).2 = 0 then a3_1 else (pm_min a3_1 (pm_bc (nI j1)))) : Int32)), some (.int (nI (j1 + 1))), none, none, none, none]) (by rw [show ((nI j1) : Int32) + Int32.ofInt 1 = (nI (j1 + 1)) from nI_1 _]; rfl) k) ?_
        refine pw_l (fun _ _ _ _ k => pm_goto (tgt := 12) B9 dL_watchers_187 (by decide) k) ?_
        exact pw_cr (by omega) (by omega) (ih1 (j1 + 1) (by omega) _ (by subst ea2_1; subst ea3_1; rfl) _ (by subst ea2_1; subst ea3_1; rfl))
      have loop2 : ∀ k2 j2 : Nat, j2 + k2 = n → ∀ (a2_2 : Int32), a2_2 = (w_L_watchers_2 n r j1 a2_1 1 j2).1 → ∀ (a5_2 : Int32), a5_2 = (w_L_watchers_2 n r j1 a2_1 1 j2).2 → pw_J l z D X 33036 198216 (pm_Q z D (pw_P (some (.int 1)) (pw_W z kA kE (B, r, hs, u) ar)) 33036 198216 X) (pw_W z kA kE (B, r, hs, u) ar) (k2 * 32 + (32 + (256 - (8 * 32) + (k1 * 256 + (256 + (33036 - (2 + 129 * 256) + 0)))))) (k2 * 192 + (192 + (1536 - (8 * 192) + (k1 * 1536 + (1536 + (198216 - (12 + 129 * 1536) + 0)))))) 26 [some (.ref (z + 0)), some (.int (nI n)), some (.int a2_2), some (.int a3_1), some (.int (nI j1)), some (.int a5_2), some (.int (nI j2)), none, none] [] := by
        intro k2
        induction k2 with
        | zero =>
          intro j2 hj2 a2_2 ea2_2 a5_2 ea5_2
          have hjn2 : j2 = n := by omega
          refine pw_cr (c2 := (32 - (0) + (256 - (8 * 32) + (k1 * 256 + (256 + (33036 - (2 + 129 * 256) + 0)))))) (s2 := (192 - (0) + (1536 - (8 * 192) + (k1 * 1536 + (1536 + (198216 - (12 + 129 * 1536) + 0)))))) (by omega) (by omega) ?_
          refine pw_l (fun _ _ _ _ k => pm_iload B9 dL_watchers_26 rfl k) ?_
          refine pw_l (fun _ _ _ _ k => pm_iload_n B9 dL_watchers_28 rfl k) ?_
          refine pw_l (fun _ _ _ _ k => pm_icmp_ge (tgt := 165) B9 dL_watchers_29 (by decide) (fun _ => k) (fun h => absurd ((by rw [show (nI n) = nI n from rfl, show (nI j2) = nI j2 from rfl]; exact (nI_leI (by omega) (by omega)).mpr (by omega))) h)) ?_
          refine pw_l (fun _ _ _ _ k => pm_wk (L' := [some (.ref (z + 0)), some (.int (nI n)), some (.int a2_2), some (.int a3_1), some (.int (nI j1)), some (.int a5_2), none, none, none]) ⟨rfl, ⟨rfl, ⟨rfl, ⟨rfl, ⟨rfl, ⟨rfl, trivial⟩⟩⟩⟩⟩⟩ k) ?_
          exact pw_cr (by omega) (by omega) (pw_eq (by first | with_reducible rfl | simp only [ea2_2, ea5_2, hjn2]) (by first | with_reducible rfl | simp only [ea2_2, ea5_2, hjn2]) rfl hx2)
        | succ k2 ih2 =>
          intro j2 hj2 a2_2 ea2_2 a5_2 ea5_2
          have hjn2 : j2 < n := by omega
          refine pw_cr (c2 := (32 - (0) + (k2 * 32 + (32 + (256 - (8 * 32) + (k1 * 256 + (256 + (33036 - (2 + 129 * 256) + 0)))))))) (s2 := (192 - (0) + (k2 * 192 + (192 + (1536 - (8 * 192) + (k1 * 1536 + (1536 + (198216 - (12 + 129 * 1536) + 0)))))))) (by rw [Nat.succ_mul]; omega) (by rw [Nat.succ_mul]; omega) ?_
          refine pw_l (fun _ _ _ _ k => pm_iload B9 dL_watchers_26 rfl k) ?_
          refine pw_l (fun _ _ _ _ k => pm_iload_n B9 dL_watchers_28 rfl k) ?_
          refine pw_l (fun _ _ _ _ k => pm_icmp_ge (tgt := 165) B9 dL_watchers_29 (by decide) (fun h => absurd h ((by rw [show (nI n) = nI n from rfl, show (nI j2) = nI j2 from rfl]; exact fun e => absurd ((nI_leI (by omega) (by omega)).mp e) (by omega)))) (fun _ => k)) ?_
          refine pw_l (fun _ _ _ _ k => pm_iconst (v := 0) B9 dL_watchers_32 (by decide) k) ?_
          refine pw_l (fun _ _ _ _ k => pm_istore B9 dL_watchers_33 rfl rfl k) ?_
          refine pw_l (fun _ _ _ _ k => pm_loc (L' := [some (.ref (z + 0)), some (.int (nI n)), some (.int a2_2), some (.int a3_1), some (.int (nI j1)), some (.int a5_2), some (.int (nI j2)), some (.int 0), none]) rfl k) ?_
          refine pw_l (fun _ _ _ _ k => pm_loc (L' := [some (.ref (z + 0)), some (.int (nI n)), some (.int a2_2), some (.int a3_1), some (.int (nI j1)), some (.int a5_2), some (.int (nI j2)), some (.int (nI 0)), none]) (congrArg (fun yy : Int32 => ([some (.ref (z + 0)), some (.int (nI n)), some (.int a2_2), some (.int a3_1), some (.int (nI j1)), some (.int a5_2), some (.int (nI j2)), some (.int yy), none] : List (Option Value))) rfl) k) ?_
          have hx3 : pw_J l z D X 33036 198216 (pm_Q z D (pw_P (some (.int 1)) (pw_W z kA kE (B, r, hs, u) ar)) 33036 198216 X) (pw_W z kA kE (B, r, hs, u) ar) (32 - (8 * 4) + (k2 * 32 + (32 + (256 - (8 * 32) + (k1 * 256 + (256 + (33036 - (2 + 129 * 256) + 0))))))) (192 - (8 * 24) + (k2 * 192 + (192 + (1536 - (8 * 192) + (k1 * 1536 + (1536 + (198216 - (12 + 129 * 1536) + 0))))))) 159 [some (.ref (z + 0)), some (.int (nI n)), some (.int (w_L_watchers_3 r j1 j2 a2_2 a5_2 n).1), some (.int a3_1), some (.int (nI j1)), some (.int (w_L_watchers_3 r j1 j2 a2_2 a5_2 n).2), some (.int (nI j2)), none, none] [] := by
            refine pw_l (fun _ _ _ _ k => pm_iinc B9 dL_watchers_159 rfl rfl rfl k) ?_
            refine pw_l (fun _ _ _ _ k => pm_loc (L' := [some (.ref (z + 0)), some (.int (nI n)), some (.int (w_L_watchers_3 r j1 j2 a2_2 a5_2 n).1), some (.int a3_1), some (.int (nI j1)), some (.int (w_L_watchers_3 r j1 j2 a2_2 a5_2 n).2), some (.int (nI (j2 + 1))), none, none]) (by rw [show ((nI j2) : Int32) + Int32.ofInt 1 = (nI (j2 + 1)) from nI_1 _]; rfl) k) ?_
            refine pw_l (fun _ _ _ _ k => pm_goto (tgt := 26) B9 dL_watchers_162 (by decide) k) ?_
            exact pw_cr (by omega) (by omega) (ih2 (j2 + 1) (by omega) _ (by subst ea2_2; subst ea5_2; rfl) _ (by subst ea2_2; subst ea5_2; rfl))
          have loop3 : ∀ k3 j3 : Nat, j3 + k3 = n → ∀ (a2_3 : Int32), a2_3 = (w_L_watchers_3 r j1 j2 a2_2 a5_2 j3).1 → ∀ (a5_3 : Int32), a5_3 = (w_L_watchers_3 r j1 j2 a2_2 a5_2 j3).2 → pw_J l z D X 33036 198216 (pm_Q z D (pw_P (some (.int 1)) (pw_W z kA kE (B, r, hs, u) ar)) 33036 198216 X) (pw_W z kA kE (B, r, hs, u) ar) (k3 * 4 + (4 + (32 - (8 * 4) + (k2 * 32 + (32 + (256 - (8 * 32) + (k1 * 256 + (256 + (33036 - (2 + 129 * 256) + 0))))))))) (k3 * 24 + (24 + (192 - (8 * 24) + (k2 * 192 + (192 + (1536 - (8 * 192) + (k1 * 1536 + (1536 + (198216 - (12 + 129 * 1536) + 0))))))))) 35 [some (.ref (z + 0)), some (.int (nI n)), some (.int a2_3), some (.int a3_1), some (.int (nI j1)), some (.int a5_3), some (.int (nI j2)), some (.int (nI j3)), none] [] := by
            intro k3
            induction k3 with
            | zero =>
              intro j3 hj3 a2_3 ea2_3 a5_3 ea5_3
              have hjn3 : j3 = n := by omega
              refine pw_cr (c2 := (4 - (0) + (32 - (8 * 4) + (k2 * 32 + (32 + (256 - (8 * 32) + (k1 * 256 + (256 + (33036 - (2 + 129 * 256) + 0))))))))) (s2 := (24 - (0) + (192 - (8 * 24) + (k2 * 192 + (192 + (1536 - (8 * 192) + (k1 * 1536 + (1536 + (198216 - (12 + 129 * 1536) + 0))))))))) (by omega) (by omega) ?_
              refine pw_l (fun _ _ _ _ k => pm_iload B9 dL_watchers_35 rfl k) ?_
              refine pw_l (fun _ _ _ _ k => pm_iload_n B9 dL_watchers_37 rfl k) ?_
              refine pw_l (fun _ _ _ _ k => pm_icmp_ge (tgt := 159) B9 dL_watchers_38 (by decide) (fun _ => k) (fun h => absurd ((by rw [show (nI n) = nI n from rfl, show (nI j3) = nI j3 from rfl]; exact (nI_leI (by omega) (by omega)).mpr (by omega))) h)) ?_
              refine pw_l (fun _ _ _ _ k => pm_wk (L' := [some (.ref (z + 0)), some (.int (nI n)), some (.int a2_3), some (.int a3_1), some (.int (nI j1)), some (.int a5_3), some (.int (nI j2)), none, none]) ⟨rfl, ⟨rfl, ⟨rfl, ⟨rfl, ⟨rfl, ⟨rfl, ⟨rfl, trivial⟩⟩⟩⟩⟩⟩⟩ k) ?_
              exact pw_cr (by omega) (by omega) (pw_eq (by first | with_reducible rfl | simp only [ea2_3, ea5_3, hjn3]) (by first | with_reducible rfl | simp only [ea2_3, ea5_3, hjn3]) rfl hx3)
            | succ k3 ih3 =>
              intro j3 hj3 a2_3 ea2_3 a5_3 ea5_3
              have hjn3 : j3 < n := by omega
              refine pw_cr (c2 := (4 - (0) + (k3 * 4 + (4 + (32 - (8 * 4) + (k2 * 32 + (32 + (256 - (8 * 32) + (k1 * 256 + (256 + (33036 - (2 + 129 * 256) + 0))))))))))) (s2 := (24 - (0) + (k3 * 24 + (24 + (192 - (8 * 24) + (k2 * 192 + (192 + (1536 - (8 * 192) + (k1 * 1536 + (1536 + (198216 - (12 + 129 * 1536) + 0))))))))))) (by rw [Nat.succ_mul]; omega) (by rw [Nat.succ_mul]; omega) ?_
              refine pw_l (fun _ _ _ _ k => pm_iload B9 dL_watchers_35 rfl k) ?_
              refine pw_l (fun _ _ _ _ k => pm_iload_n B9 dL_watchers_37 rfl k) ?_
              refine pw_l (fun _ _ _ _ k => pm_icmp_ge (tgt := 159) B9 dL_watchers_38 (by decide) (fun h => absurd h ((by rw [show (nI n) = nI n from rfl, show (nI j3) = nI j3 from rfl]; exact fun e => absurd ((nI_leI (by omega) (by omega)).mp e) (by omega)))) (fun _ => k)) ?_
              refine pw_l (fun _ _ _ _ k => pm_aload_n B9 dL_watchers_41 rfl k) ?_
              refine pw_l (fun _ _ _ _ k => pm_iload B9 dL_watchers_42 rfl k) ?_
              refine pw_l (fun _ _ _ _ k => pm_iload B9 dL_watchers_44 rfl k) ?_
              refine pw_cSW (As := [.ref (z + 0), .int (nI j2), .int (nI j3)]) (c2 := (4 - (2) + (k3 * 4 + (4 + (32 - (8 * 4) + (k2 * 32 + (32 + (256 - (8 * 32) + (k1 * 256 + (256 + (33036 - (2 + 129 * 256) + 0))))))))))) (s2 := (24 - (12) + (k3 * 24 + (24 + (192 - (8 * 24) + (k2 * 192 + (192 + (1536 - (8 * 192) + (k1 * 1536 + (1536 + (198216 - (12 + 129 * 1536) + 0))))))))))) B9 (pv_as (pv_L_areLinked_in (i := j2) (j := j3) (by omega) (by omega) hI.1.2.1) (b_L_areLinked hI)) mt_L_areLinked ss_L_268 dL_watchers_46 rfl rfl rfl (by omega) (by omega) ?_
              refine pw_l (fun _ _ _ _ k => pm_stk (st' := [.int (pw_lk r j2 j3)]) rfl k) ?_
              refine pw_l (fun _ _ _ _ k => pm_iconst (v := 1) B9 dL_watchers_49 (by decide) k) ?_
              suffices hj15 : pw_J l z D X 33036 198216 (pm_Q z D (pw_P (some (.int 1)) (pw_W z kA kE (B, r, hs, u) ar)) 33036 198216 X) (pw_W z kA kE (B, r, hs, u) ar) (4 - (2) + (k3 * 4 + (4 + (32 - (8 * 4) + (k2 * 32 + (32 + (256 - (8 * 32) + (k1 * 256 + (256 + (33036 - (2 + 129 * 256) + 0)))))))))) (24 - (12) + (k3 * 24 + (24 + (192 - (8 * 24) + (k2 * 192 + (192 + (1536 - (8 * 192) + (k1 * 1536 + (1536 + (198216 - (12 + 129 * 1536) + 0)))))))))) 58 [some (.ref (z + 0)), some (.int (nI n)), some (.int a2_3), some (.int a3_1), some (.int (nI j1)), some (.int a5_3), some (.int (nI j2)), some (.int (nI j3)), none] [.int ((if (pw_lk r j2 j3) = 1 then 1 else 0) : Int32)] by
                refine pw_l2 (fun _ _ _ _ k1 k2 => pm_icmp_ne (tgt := 57) B9 dL_watchers_50 (by decide) k1 k2) (fun hq16 => ?_) (fun hq16 => ?_)
                · refine pw_l (fun _ _ _ _ k => pm_iconst (v := 0) B9 dL_watchers_57 (by decide) k) ?_
                  exact pw_cr (by omega) (by omega) (pw_eq (by first | with_reducible rfl | simp only [if_neg hq16]) (by first | with_reducible rfl | simp only [if_neg hq16]) (by first | with_reducible rfl | simp only [if_neg hq16]) hj15)
                · refine pw_l (fun _ _ _ _ k => pm_iconst (v := 1) B9 dL_watchers_53 (by decide) k) ?_
                  refine pw_l (fun _ _ _ _ k => pm_goto (tgt := 58) B9 dL_watchers_54 (by decide) k) ?_
                  exact pw_cr (by omega) (by omega) (pw_eq (by first | with_reducible rfl | simp only [if_pos hq16]) (by first | with_reducible rfl | simp only [if_pos hq16]) (by first | with_reducible rfl | simp only [if_pos hq16]) hj15)
              refine pw_l (fun _ _ _ _ k => pm_stk (st' := [.int (pw_lk r j2 j3)]) (congrArg (fun yy : Int32 => ([.int yy] : List Value)) (show ((if (pw_lk r j2 j3) = 1 then 1 else 0) : Int32) = (pw_lk r j2 j3) from pw_lk8)) k) ?_
              refine pw_l (fun _ _ _ _ k => pm_istore B9 dL_watchers_58 rfl rfl k) ?_
              refine pw_l (fun _ _ _ _ k => pm_loc (L' := [some (.ref (z + 0)), some (.int (nI n)), some (.int a2_3), some (.int a3_1), some (.int (nI j1)), some (.int a5_3), some (.int (nI j2)), some (.int (nI j3)), some (.int (pw_lk r j2 j3))]) rfl k) ?_
              refine pw_l (fun _ _ _ _ k => pm_iload_n B9 dL_watchers_60 rfl k) ?_
              refine pw_l (fun _ _ _ _ k => pm_iload B9 dL_watchers_61 rfl k) ?_
              suffices hj17 : pw_J l z D X 33036 198216 (pm_Q z D (pw_P (some (.int 1)) (pw_W z kA kE (B, r, hs, u) ar)) 33036 198216 X) (pw_W z kA kE (B, r, hs, u) ar) (4 - (2) + (k3 * 4 + (4 + (32 - (8 * 4) + (k2 * 32 + (32 + (256 - (8 * 32) + (k1 * 256 + (256 + (33036 - (2 + 129 * 256) + 0)))))))))) (24 - (12) + (k3 * 24 + (24 + (192 - (8 * 24) + (k2 * 192 + (192 + (1536 - (8 * 192) + (k1 * 1536 + (1536 + (198216 - (12 + 129 * 1536) + 0)))))))))) 76 [some (.ref (z + 0)), some (.int (nI n)), none, some (.int a3_1), some (.int (nI j1)), some (.int a5_3), some (.int (nI j2)), some (.int (nI j3)), some (.int (pw_lk r j2 j3))] [.int ((if (nI j1) = 0 then (if (pw_lk r j2 j3) = 0 then 0 else 1) else 0) : Int32), .int a2_3] by
                refine pw_l2 (fun _ _ _ _ k1 k2 => pm_if_ne (tgt := 75) B9 dL_watchers_63 (by decide) k1 k2) (fun hq18 => ?_) (fun hq18 => ?_)
                · refine pw_l (fun _ _ _ _ k => pm_iconst (v := 0) B9 dL_watchers_75 (by decide) k) ?_
                  refine pw_l (fun _ _ _ _ k => pm_wk (L' := [some (.ref (z + 0)), some (.int (nI n)), none, some (.int a3_1), some (.int (nI j1)), some (.int a5_3), some (.int (nI j2)), some (.int (nI j3)), some (.int (pw_lk r j2 j3))]) ⟨rfl, ⟨rfl, ⟨rfl, ⟨rfl, ⟨rfl, ⟨rfl, ⟨rfl, ⟨rfl, trivial⟩⟩⟩⟩⟩⟩⟩⟩ k) ?_
                  exact pw_cr (by omega) (by omega) (pw_eq (by first | with_reducible rfl | simp only [if_neg hq18]) (by first | with_reducible rfl | simp only [if_neg hq18]) (by first | with_reducible rfl | simp only [if_neg hq18]) hj17)
                · refine pw_l (fun _ _ _ _ k => pm_iload B9 dL_watchers_66 rfl k) ?_
                  refine pw_l2 (fun _ _ _ _ k1 k2 => pm_if_eq (tgt := 75) B9 dL_watchers_68 (by decide) k1 k2) (fun hq19 => ?_) (fun hq19 => ?_)
                  · refine pw_l (fun _ _ _ _ k => pm_iconst (v := 0) B9 dL_watchers_75 (by decide) k) ?_
                    refine pw_l (fun _ _ _ _ k => pm_wk (L' := [some (.ref (z + 0)), some (.int (nI n)), none, some (.int a3_1), some (.int (nI j1)), some (.int a5_3), some (.int (nI j2)), some (.int (nI j3)), some (.int (pw_lk r j2 j3))]) ⟨rfl, ⟨rfl, ⟨rfl, ⟨rfl, ⟨rfl, ⟨rfl, ⟨rfl, ⟨rfl, trivial⟩⟩⟩⟩⟩⟩⟩⟩ k) ?_
                    exact pw_cr (by omega) (by omega) (pw_eq (by first | with_reducible rfl | simp only [if_pos hq18, if_pos hq19]) (by first | with_reducible rfl | simp only [if_pos hq18, if_pos hq19]) (by first | with_reducible rfl | simp only [if_pos hq18, if_pos hq19]) hj17)
                  · refine pw_l (fun _ _ _ _ k => pm_iconst (v := 1) B9 dL_watchers_71 (by decide) k) ?_
                    refine pw_l (fun _ _ _ _ k => pm_goto (tgt := 76) B9 dL_watchers_72 (by decide) k) ?_
                    refine pw_l (fun _ _ _ _ k => pm_wk (L' := [some (.ref (z + 0)), some (.int (nI n)), none, some (.int a3_1), some (.int (nI j1)), some (.int a5_3), some (.int (nI j2)), some (.int (nI j3)), some (.int (pw_lk r j2 j3))]) ⟨rfl, ⟨rfl, ⟨rfl, ⟨rfl, ⟨rfl, ⟨rfl, ⟨rfl, ⟨rfl, trivial⟩⟩⟩⟩⟩⟩⟩⟩ k) ?_
                    exact pw_cr (by omega) (by omega) (pw_eq (by first | with_reducible rfl | simp only [if_pos hq18, if_neg hq19]) (by first | with_reducible rfl | simp only [if_pos hq18, if_neg hq19]) (by first | with_reducible rfl | simp only [if_pos hq18, if_neg hq19]) hj17)
              refine pw_l (fun _ _ _ _ k => pm_iadd B9 dL_watchers_76 k) ?_
              refine pw_l (fun _ _ _ _ k => pm_istore_n B9 dL_watchers_77 rfl rfl k) ?_
              refine pw_l (fun _ _ _ _ k => pm_loc (L' := [some (.ref (z + 0)), some (.int (nI n)), some (.int (a2_3 + ((if (nI j1) = 0 then (if (pw_lk r j2 j3) = 0 then 0 else 1) else 0) : Int32))), some (.int a3_1), some (.int (nI j1)), some (.int a5_3), some (.int (nI j2)), some (.int (nI j3)), some (.int (pw_lk r j2 j3))]) rfl k) ?_
              refine pw_l (fun _ _ _ _ k => pm_iload B9 dL_watchers_78 rfl k) ?_
              suffices hj20 : pw_J l z D X 33036 198216 (pm_Q z D (pw_P (some (.int 1)) (pw_W z kA kE (B, r, hs, u) ar)) 33036 198216 X) (pw_W z kA kE (B, r, hs, u) ar) (4 - (2) + (k3 * 4 + (4 + (32 - (8 * 4) + (k2 * 32 + (32 + (256 - (8 * 32) + (k1 * 256 + (256 + (33036 - (2 + 129 * 256) + 0)))))))))) (24 - (12) + (k3 * 24 + (24 + (192 - (8 * 24) + (k2 * 192 + (192 + (1536 - (8 * 192) + (k1 * 1536 + (1536 + (198216 - (12 + 129 * 1536) + 0)))))))))) 115 [some (.ref (z + 0)), some (.int (nI n)), some (.int (a2_3 + ((if (nI j1) = 0 then (if (pw_lk r j2 j3) = 0 then 0 else 1) else 0) : Int32))), some (.int a3_1), some (.int (nI j1)), none, some (.int (nI j2)), some (.int (nI j3)), some (.int (pw_lk r j2 j3))] [.int ((if a5_3 = 0 then 0 else (if (pw_lk r j2 j3) = 0 then 1 else (if (((nI j1) >>> ((nI j2) &&& 31)) &&& 1) = 1 then 1 else (if (((nI j1) >>> ((nI j3) &&& 31)) &&& 1) = 1 then 1 else 0)))) : Int32)] by
                refine pw_l2 (fun _ _ _ _ k1 k2 => pm_if_eq (tgt := 114) B9 dL_watchers_80 (by decide) k1 k2) (fun hq21 => ?_) (fun hq21 => ?_)
                · refine pw_l (fun _ _ _ _ k => pm_iconst (v := 0) B9 dL_watchers_114 (by decide) k) ?_
                  refine pw_l (fun _ _ _ _ k => pm_wk (L' := [some (.ref (z + 0)), some (.int (nI n)), some (.int (a2_3 + ((if (nI j1) = 0 then (if (pw_lk r j2 j3) = 0 then 0 else 1) else 0) : Int32))), some (.int a3_1), some (.int (nI j1)), none, some (.int (nI j2)), some (.int (nI j3)), some (.int (pw_lk r j2 j3))]) ⟨rfl, ⟨rfl, ⟨rfl, ⟨rfl, ⟨rfl, ⟨rfl, ⟨rfl, ⟨rfl, trivial⟩⟩⟩⟩⟩⟩⟩⟩ k) ?_
                  exact pw_cr (by omega) (by omega) (pw_eq (by first | with_reducible rfl | simp only [if_pos hq21]) (by first | with_reducible rfl | simp only [if_pos hq21]) (by first | with_reducible rfl | simp only [if_pos hq21]) hj20)
                · refine pw_l (fun _ _ _ _ k => pm_iload B9 dL_watchers_83 rfl k) ?_
                  refine pw_l2 (fun _ _ _ _ k1 k2 => pm_if_eq (tgt := 110) B9 dL_watchers_85 (by decide) k1 k2) (fun hq22 => ?_) (fun hq22 => ?_)
                  · refine pw_l (fun _ _ _ _ k => pm_iconst (v := 1) B9 dL_watchers_110 (by decide) k) ?_
                    refine pw_l (fun _ _ _ _ k => pm_goto (tgt := 115) B9 dL_watchers_111 (by decide) k) ?_
                    refine pw_l (fun _ _ _ _ k => pm_wk (L' := [some (.ref (z + 0)), some (.int (nI n)), some (.int (a2_3 + ((if (nI j1) = 0 then (if (pw_lk r j2 j3) = 0 then 0 else 1) else 0) : Int32))), some (.int a3_1), some (.int (nI j1)), none, some (.int (nI j2)), some (.int (nI j3)), some (.int (pw_lk r j2 j3))]) ⟨rfl, ⟨rfl, ⟨rfl, ⟨rfl, ⟨rfl, ⟨rfl, ⟨rfl, ⟨rfl, trivial⟩⟩⟩⟩⟩⟩⟩⟩ k) ?_
                    exact pw_cr (by omega) (by omega) (pw_eq (by first | with_reducible rfl | simp only [if_neg hq21, if_pos hq22]) (by first | with_reducible rfl | simp only [if_neg hq21, if_pos hq22]) (by first | with_reducible rfl | simp only [if_neg hq21, if_pos hq22]) hj20)
                  · refine pw_l (fun _ _ _ _ k => pm_iload B9 dL_watchers_88 rfl k) ?_
                    refine pw_l (fun _ _ _ _ k => pm_iload B9 dL_watchers_90 rfl k) ?_
                    refine pw_l (fun _ _ _ _ k => pm_ishr B9 dL_watchers_92 k) ?_
                    refine pw_l (fun _ _ _ _ k => pm_iconst (v := 1) B9 dL_watchers_93 (by decide) k) ?_
                    refine pw_l (fun _ _ _ _ k => pm_iand B9 dL_watchers_94 k) ?_
                    refine pw_l (fun _ _ _ _ k => pm_iconst (v := 1) B9 dL_watchers_95 (by decide) k) ?_
                    refine pw_l2 (fun _ _ _ _ k1 k2 => pm_icmp_eq (tgt := 110) B9 dL_watchers_96 (by decide) k1 k2) (fun hq23 => ?_) (fun hq23 => ?_)
                    · refine pw_l (fun _ _ _ _ k => pm_iconst (v := 1) B9 dL_watchers_110 (by decide) k) ?_
                      refine pw_l (fun _ _ _ _ k => pm_goto (tgt := 115) B9 dL_watchers_111 (by decide) k) ?_
                      refine pw_l (fun _ _ _ _ k => pm_wk (L' := [some (.ref (z + 0)), some (.int (nI n)), some (.int (a2_3 + ((if (nI j1) = 0 then (if (pw_lk r j2 j3) = 0 then 0 else 1) else 0) : Int32))), some (.int a3_1), some (.int (nI j1)), none, some (.int (nI j2)), some (.int (nI j3)), some (.int (pw_lk r j2 j3))]) ⟨rfl, ⟨rfl, ⟨rfl, ⟨rfl, ⟨rfl, ⟨rfl, ⟨rfl, ⟨rfl, trivial⟩⟩⟩⟩⟩⟩⟩⟩ k) ?_
                      exact pw_cr (by omega) (by omega) (pw_eq (by first | with_reducible rfl | simp only [if_neg hq21, if_neg hq22, if_pos hq23]) (by first | with_reducible rfl | simp only [if_neg hq21, if_neg hq22, if_pos hq23]) (by first | with_reducible rfl | simp only [if_neg hq21, if_neg hq22, if_pos hq23]) hj20)
                    · refine pw_l (fun _ _ _ _ k => pm_iload B9 dL_watchers_99 rfl k) ?_
                      refine pw_l (fun _ _ _ _ k => pm_iload B9 dL_watchers_101 rfl k) ?_
                      refine pw_l (fun _ _ _ _ k => pm_ishr B9 dL_watchers_103 k) ?_
                      refine pw_l (fun _ _ _ _ k => pm_iconst (v := 1) B9 dL_watchers_104 (by decide) k) ?_
                      refine pw_l (fun _ _ _ _ k => pm_iand B9 dL_watchers_105 k) ?_
                      refine pw_l (fun _ _ _ _ k => pm_iconst (v := 1) B9 dL_watchers_106 (by decide) k) ?_
                      refine pw_l2 (fun _ _ _ _ k1 k2 => pm_icmp_ne (tgt := 114) B9 dL_watchers_107 (by decide) k1 k2) (fun hq24 => ?_) (fun hq24 => ?_)
                      · refine pw_l (fun _ _ _ _ k => pm_iconst (v := 0) B9 dL_watchers_114 (by decide) k) ?_
                        refine pw_l (fun _ _ _ _ k => pm_wk (L' := [some (.ref (z + 0)), some (.int (nI n)), some (.int (a2_3 + ((if (nI j1) = 0 then (if (pw_lk r j2 j3) = 0 then 0 else 1) else 0) : Int32))), some (.int a3_1), some (.int (nI j1)), none, some (.int (nI j2)), some (.int (nI j3)), some (.int (pw_lk r j2 j3))]) ⟨rfl, ⟨rfl, ⟨rfl, ⟨rfl, ⟨rfl, ⟨rfl, ⟨rfl, ⟨rfl, trivial⟩⟩⟩⟩⟩⟩⟩⟩ k) ?_
                        exact pw_cr (by omega) (by omega) (pw_eq (by first | with_reducible rfl | simp only [if_neg hq21, if_neg hq22, if_neg hq23, if_neg hq24]) (by first | with_reducible rfl | simp only [if_neg hq21, if_neg hq22, if_neg hq23, if_neg hq24]) (by first | with_reducible rfl | simp only [if_neg hq21, if_neg hq22, if_neg hq23, if_neg hq24]) hj20)
                      · refine pw_l (fun _ _ _ _ k => pm_iconst (v := 1) B9 dL_watchers_110 (by decide) k) ?_
                        refine pw_l (fun _ _ _ _ k => pm_goto (tgt := 115) B9 dL_watchers_111 (by decide) k) ?_
                        refine pw_l (fun _ _ _ _ k => pm_wk (L' := [some (.ref (z + 0)), some (.int (nI n)), some (.int (a2_3 + ((if (nI j1) = 0 then (if (pw_lk r j2 j3) = 0 then 0 else 1) else 0) : Int32))), some (.int a3_1), some (.int (nI j1)), none, some (.int (nI j2)), some (.int (nI j3)), some (.int (pw_lk r j2 j3))]) ⟨rfl, ⟨rfl, ⟨rfl, ⟨rfl, ⟨rfl, ⟨rfl, ⟨rfl, ⟨rfl, trivial⟩⟩⟩⟩⟩⟩⟩⟩ k) ?_
                        exact pw_cr (by omega) (by omega) (pw_eq (by first | with_reducible rfl | simp only [if_neg hq21, if_neg hq22, if_neg hq23, if_pos hq24]) (by first | with_reducible rfl | simp only [if_neg hq21, if_neg hq22, if_neg hq23, if_pos hq24]) (by first | with_reducible rfl | simp only [if_neg hq21, if_neg hq22, if_neg hq23, if_pos hq24]) hj20)
              refine pw_l (fun _ _ _ _ k => pm_istore B9 dL_watchers_115 rfl rfl k) ?_
              refine pw_l (fun _ _ _ _ k => pm_loc (L' := [some (.ref (z + 0)), some (.int (nI n)), some (.int (a2_3 + ((if (nI j1) = 0 then (if (pw_lk r j2 j3) = 0 then 0 else 1) else 0) : Int32))), some (.int a3_1), some (.int (nI j1)), some (.int ((if a5_3 = 0 then 0 else (if (pw_lk r j2 j3) = 0 then 1 else (if (((nI j1) >>> ((nI j2) &&& 31)) &&& 1) = 1 then 1 else (if (((nI j1) >>> ((nI j3) &&& 31)) &&& 1) = 1 then 1 else 0)))) : Int32)), some (.int (nI j2)), some (.int (nI j3)), some (.int (pw_lk r j2 j3))]) rfl k) ?_
              refine pw_l (fun _ _ _ _ k => pm_iload B9 dL_watchers_117 rfl k) ?_
              refine pw_l (fun _ _ _ _ k => pm_aload_n B9 dL_watchers_119 rfl k) ?_
              refine pw_l (fun _ _ _ _ k => pm_iload B9 dL_watchers_120 rfl k) ?_
              refine pw_l (fun _ _ _ _ k => pm_iload B9 dL_watchers_122 rfl k) ?_
              refine pw_cSW (As := [.ref (z + 0), .int (nI j3), .int (nI j2)]) (c2 := (4 - (4) + (k3 * 4 + (4 + (32 - (8 * 4) + (k2 * 32 + (32 + (256 - (8 * 32) + (k1 * 256 + (256 + (33036 - (2 + 129 * 256) + 0))))))))))) (s2 := (24 - (24) + (k3 * 24 + (24 + (192 - (8 * 24) + (k2 * 192 + (192 + (1536 - (8 * 192) + (k1 * 1536 + (1536 + (198216 - (12 + 129 * 1536) + 0))))))))))) B9 (pv_as (pv_L_areLinked_in (i := j3) (j := j2) (by omega) (by omega) hI.1.2.1) (b_L_areLinked hI)) mt_L_areLinked ss_L_268 dL_watchers_124 rfl rfl rfl (by omega) (by omega) ?_
              refine pw_l (fun _ _ _ _ k => pm_stk (st' := [.int (pw_lk r j3 j2), .int (pw_lk r j2 j3)]) rfl k) ?_
              refine pw_l (fun _ _ _ _ k => pm_iconst (v := 1) B9 dL_watchers_127 (by decide) k) ?_
              suffices hj25 : pw_J l z D X 33036 198216 (pm_Q z D (pw_P (some (.int 1)) (pw_W z kA kE (B, r, hs, u) ar)) 33036 198216 X) (pw_W z kA kE (B, r, hs, u) ar) (4 - (4) + (k3 * 4 + (4 + (32 - (8 * 4) + (k2 * 32 + (32 + (256 - (8 * 32) + (k1 * 256 + (256 + (33036 - (2 + 129 * 256) + 0)))))))))) (24 - (24) + (k3 * 24 + (24 + (192 - (8 * 24) + (k2 * 192 + (192 + (1536 - (8 * 192) + (k1 * 1536 + (1536 + (198216 - (12 + 129 * 1536) + 0)))))))))) 136 [some (.ref (z + 0)), some (.int (nI n)), some (.int (a2_3 + ((if (nI j1) = 0 then (if (pw_lk r j2 j3) = 0 then 0 else 1) else 0) : Int32))), some (.int a3_1), some (.int (nI j1)), some (.int ((if a5_3 = 0 then 0 else (if (pw_lk r j2 j3) = 0 then 1 else (if (((nI j1) >>> ((nI j2) &&& 31)) &&& 1) = 1 then 1 else (if (((nI j1) >>> ((nI j3) &&& 31)) &&& 1) = 1 then 1 else 0)))) : Int32)), some (.int (nI j2)), some (.int (nI j3)), some (.int (pw_lk r j2 j3))] [.int ((if (pw_lk r j3 j2) = 1 then 1 else 0) : Int32), .int (pw_lk r j2 j3)] by
                refine pw_l2 (fun _ _ _ _ k1 k2 => pm_icmp_ne (tgt := 135) B9 dL_watchers_128 (by decide) k1 k2) (fun hq26 => ?_) (fun hq26 => ?_)
                · refine pw_l (fun _ _ _ _ k => pm_iconst (v := 0) B9 dL_watchers_135 (by decide) k) ?_
                  exact pw_cr (by omega) (by omega) (pw_eq (by first | with_reducible rfl | simp only [if_neg hq26]) (by first | with_reducible rfl | simp only [if_neg hq26]) (by first | with_reducible rfl | simp only [if_neg hq26]) hj25)
                · refine pw_l (fun _ _ _ _ k => pm_iconst (v := 1) B9 dL_watchers_131 (by decide) k) ?_
                  refine pw_l (fun _ _ _ _ k => pm_goto (tgt := 136) B9 dL_watchers_132 (by decide) k) ?_
                  exact pw_cr (by omega) (by omega) (pw_eq (by first | with_reducible rfl | simp only [if_pos hq26]) (by first | with_reducible rfl | simp only [if_pos hq26]) (by first | with_reducible rfl | simp only [if_pos hq26]) hj25)
              refine pw_l (fun _ _ _ _ k => pm_stk (st' := [.int (pw_lk r j3 j2), .int (pw_lk r j2 j3)]) (congrArg (fun yy : Int32 => ([.int yy, .int (pw_lk r j2 j3)] : List Value)) (show ((if (pw_lk r j3 j2) = 1 then 1 else 0) : Int32) = (pw_lk r j3 j2) from pw_lk8)) k) ?_
              refine pw_l (fun _ _ _ _ k => pm_icmp_ne (tgt := 151) B9 dL_watchers_136 (by decide) (fun h => absurd ((pw_lkS hI (by omega) (by omega))) h) (fun _ => k)) ?_
              refine pw_l (fun _ _ _ _ k => pm_iload B9 dL_watchers_139 rfl k) ?_
              refine pw_l (fun _ _ _ _ k => pm_iload B9 dL_watchers_141 rfl k) ?_
              refine pw_l2 (fun _ _ _ _ k1 k2 => pm_icmp_ne (tgt := 153) B9 dL_watchers_143 (by decide) k1 k2) (fun hq28 => ?_) (fun hq28 => ?_)
              · refine pw_l (fun _ _ _ _ k => pm_iinc B9 dL_watchers_153 rfl rfl rfl k) ?_
                refine pw_l (fun _ _ _ _ k => pm_loc (L' := [some (.ref (z + 0)), some (.int (nI n)), some (.int (a2_3 + ((if (nI j1) = 0 then (if (pw_lk r j2 j3) = 0 then 0 else 1) else 0) : Int32))), some (.int a3_1), some (.int (nI j1)), some (.int ((if a5_3 = 0 then 0 else (if (pw_lk r j2 j3) = 0 then 1 else (if (((nI j1) >>> ((nI j2) &&& 31)) &&& 1) = 1 then 1 else (if (((nI j1) >>> ((nI j3) &&& 31)) &&& 1) = 1 then 1 else 0)))) : Int32)), some (.int (nI j2)), some (.int (nI (j3 + 1))), some (.int (pw_lk r j2 j3))]) (by rw [show ((nI j3) : Int32) + Int32.ofInt 1 = (nI (j3 + 1)) from nI_1 _]; rfl) k) ?_
                refine pw_l (fun _ _ _ _ k => pm_goto (tgt := 35) B9 dL_watchers_156 (by decide) k) ?_
                refine pw_l (fun _ _ _ _ k => pm_wk (L' := [some (.ref (z + 0)), some (.int (nI n)), some (.int (a2_3 + ((if (nI j1) = 0 then (if (pw_lk r j2 j3) = 0 then 0 else 1) else 0) : Int32))), some (.int a3_1), some (.int (nI j1)), some (.int ((if a5_3 = 0 then 0 else (if (pw_lk r j2 j3) = 0 then 1 else (if (((nI j1) >>> ((nI j2) &&& 31)) &&& 1) = 1 then 1 else (if (((nI j1) >>> ((nI j3) &&& 31)) &&& 1) = 1 then 1 else 0)))) : Int32)), some (.int (nI j2)), some (.int (nI (j3 + 1))), none]) ⟨rfl, ⟨rfl, ⟨rfl, ⟨rfl, ⟨rfl, ⟨rfl, ⟨rfl, ⟨rfl, trivial⟩⟩⟩⟩⟩⟩⟩⟩ k) ?_
                exact pw_cr (by omega) (by omega) (ih3 (j3 + 1) (by omega) _ (by subst ea2_3; subst ea5_3; rfl) _ (by subst ea2_3; subst ea5_3; rfl))
              · refine pw_l (fun _ _ _ _ k => pm_iload B9 dL_watchers_146 rfl k) ?_
                refine pw_l (fun _ _ _ _ k => pm_if_eq (tgt := 153) B9 dL_watchers_148 (by decide) (fun _ => k) (fun h => absurd ((pw_lkD hI (by omega) (by omega) hq28)) h)) ?_
                refine pw_l (fun _ _ _ _ k => pm_iinc B9 dL_watchers_153 rfl rfl rfl k) ?_
                refine pw_l (fun _ _ _ _ k => pm_loc (L' := [some (.ref (z + 0)), some (.int (nI n)), some (.int (a2_3 + ((if (nI j1) = 0 then (if (pw_lk r j2 j3) = 0 then 0 else 1) else 0) : Int32))), some (.int a3_1), some (.int (nI j1)), some (.int ((if a5_3 = 0 then 0 else (if (pw_lk r j2 j3) = 0 then 1 else (if (((nI j1) >>> ((nI j2) &&& 31)) &&& 1) = 1 then 1 else (if (((nI j1) >>> ((nI j3) &&& 31)) &&& 1) = 1 then 1 else 0)))) : Int32)), some (.int (nI j2)), some (.int (nI (j3 + 1))), some (.int (pw_lk r j2 j3))]) (by rw [show ((nI j3) : Int32) + Int32.ofInt 1 = (nI (j3 + 1)) from nI_1 _]; rfl) k) ?_
                refine pw_l (fun _ _ _ _ k => pm_goto (tgt := 35) B9 dL_watchers_156 (by decide) k) ?_
                refine pw_l (fun _ _ _ _ k => pm_wk (L' := [some (.ref (z + 0)), some (.int (nI n)), some (.int (a2_3 + ((if (nI j1) = 0 then (if (pw_lk r j2 j3) = 0 then 0 else 1) else 0) : Int32))), some (.int a3_1), some (.int (nI j1)), some (.int ((if a5_3 = 0 then 0 else (if (pw_lk r j2 j3) = 0 then 1 else (if (((nI j1) >>> ((nI j2) &&& 31)) &&& 1) = 1 then 1 else (if (((nI j1) >>> ((nI j3) &&& 31)) &&& 1) = 1 then 1 else 0)))) : Int32)), some (.int (nI j2)), some (.int (nI (j3 + 1))), none]) ⟨rfl, ⟨rfl, ⟨rfl, ⟨rfl, ⟨rfl, ⟨rfl, ⟨rfl, ⟨rfl, trivial⟩⟩⟩⟩⟩⟩⟩⟩ k) ?_
                exact pw_cr (by omega) (by omega) (ih3 (j3 + 1) (by omega) _ (by subst ea2_3; subst ea5_3; rfl) _ (by subst ea2_3; subst ea5_3; rfl))
          exact pw_cr (by omega) (by omega) (loop3 n 0 (by omega) _ rfl _ rfl)
      exact pw_cr (by omega) (by omega) (loop2 n 0 (by omega) _ rfl _ rfl)
  exact pw_cr (by omega) (by omega) (loop1 (2 ^ n) 0 (by omega) _ rfl _ rfl)
