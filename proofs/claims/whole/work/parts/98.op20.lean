/-! texts: a command -/
def pp_c (A : Nat → Int32) (q : Nat) : Nat → Nat × Nat × Nat × Nat
  | 0 => pp_cmd A [106, 111, 105, 110, 32] 2 [32] 2 q
  | 1 => pp_cmd A [97, 115, 115, 105, 103, 110, 32] 4 [] 0 q
  | 2 => pp_cmd A [114, 117, 108, 101, 32] 1 [] 0 q
  | 3 => pp_cmd A [115, 101, 108, 108, 32] 1 [32] 2 q
  | 4 => pp_cmd A [97, 117, 100, 105, 116, 32] 1 [] 0 q
  | 5 => pp_cmd A [99, 108, 111, 115, 101] 0 [] 0 q
  | 6 => pp_cmd A [108, 105, 110, 107, 32] 1 [45] 1 q
  | 7 => pp_cmd A [99, 117, 116, 32] 1 [45] 1 q
  | 8 => pp_cmd A [112, 97, 114, 100, 111, 110, 32] 1 [] 0 q
  | 9 => pp_cmd A [108, 105, 109, 105, 116, 32] 2 [] 0 q
  | _ => pp_cmd A [115, 101, 101, 100, 32] 4 [] 0 q
def pp_k1 (c : Nat) : Nat := ([2, 4, 1, 1, 1, 0, 1, 1, 1, 2, 4] : List Nat).getD c 0
def pp_k2 (c : Nat) : Nat := ([2, 0, 0, 2, 0, 0, 1, 1, 0, 0, 0] : List Nat).getD c 0
def pp_ch (c : Nat) : Nat := ([106, 97, 114, 115, 117, 99, 108, 116, 112, 109, 100] : List Nat).getD c 0
section PPT
variable {t : Nat} {tx gt : Nat → Int32}
theorem pp_mc {c i q : Nat} {fs sd sc : Nat → Int32} (hc : c < 11) (ht : t ≤ 60) (h6 : sc 6 = nI q) (hq : q ≤ t) : pp_M (pp_A t tx) (pp_c (pp_A t tx) q c) (pp_k1 c) (pp_k2 c) i t fs sd sc (d_X9_matches c i t tx fs sd sc) := by
  rcases (show c = 0 ∨ c = 1 ∨ c = 2 ∨ c = 3 ∨ c = 4 ∨ c = 5 ∨ c = 6 ∨ c = 7 ∨ c = 8 ∨ c = 9 ∨ c = 10 by omega) with rfl | rfl | rfl | rfl | rfl | rfl | rfl | rfl | rfl | rfl | rfl
  · exact pp_m2 (w := [106, 111, 105, 110, 32]) (s := 32) (k1 := 2) (k2 := 2) ht (by decide +kernel) (by decide +kernel) (by decide +kernel) (by decide +kernel) (by decide) (by decide) (by decide +kernel) (by decide +kernel) (by decide) (by decide) h6 hq
  · exact pp_m1 (w := [97, 115, 115, 105, 103, 110, 32]) (k1 := 4) ht (by decide +kernel) (by decide +kernel) (by decide +kernel) (by decide +kernel) (by decide) (by decide) h6 hq
  · exact pp_m1 (w := [114, 117, 108, 101, 32]) (k1 := 1) ht (by decide +kernel) (by decide +kernel) (by decide +kernel) (by decide +kernel) (by decide) (by decide) h6 hq
  · exact pp_m2 (w := [115, 101, 108, 108, 32]) (s := 32) (k1 := 1) (k2 := 2) ht (by decide +kernel) (by decide +kernel) (by decide +kernel) (by decide +kernel) (by decide) (by decide) (by decide +kernel) (by decide +kernel) (by decide) (by decide) h6 hq
  · exact pp_m1 (w := [97, 117, 100, 105, 116, 32]) (k1 := 1) ht (by decide +kernel) (by decide +kernel) (by decide +kernel) (by decide +kernel) (by decide) (by decide) h6 hq
  · exact pp_m0 (w := [99, 108, 111, 115, 101]) ht (by decide +kernel) (by decide +kernel) (by decide +kernel) h6 hq
  · exact pp_m2 (w := [108, 105, 110, 107, 32]) (s := 45) (k1 := 1) (k2 := 1) ht (by decide +kernel) (by decide +kernel) (by decide +kernel) (by decide +kernel) (by decide) (by decide) (by decide +kernel) (by decide +kernel) (by decide) (by decide) h6 hq
  · exact pp_m2 (w := [99, 117, 116, 32]) (s := 45) (k1 := 1) (k2 := 1) ht (by decide +kernel) (by decide +kernel) (by decide +kernel) (by decide +kernel) (by decide) (by decide) (by decide +kernel) (by decide +kernel) (by decide) (by decide) h6 hq
  · exact pp_m1 (w := [112, 97, 114, 100, 111, 110, 32]) (k1 := 1) ht (by decide +kernel) (by decide +kernel) (by decide +kernel) (by decide +kernel) (by decide) (by decide) h6 hq
  · exact pp_m1 (w := [108, 105, 109, 105, 116, 32]) (k1 := 2) ht (by decide +kernel) (by decide +kernel) (by decide +kernel) (by decide +kernel) (by decide) (by decide) h6 hq
  · exact pp_m1 (w := [115, 101, 101, 100, 32]) (k1 := 4) ht (by decide +kernel) (by decide +kernel) (by decide +kernel) (by decide +kernel) (by decide) (by decide) h6 hq
theorem pp_rcL {i q : Nat} {sc : Nat → Int32} (ht : t ≤ 60) (h6 : sc 6 = nI q) (hq : q ≤ t) : ∀ (k j F : Nat) (fs sd s1 c1 : Nat → Int32), j + k = 11 → q ≤ F → F ≤ t → (∀ x, x ≠ 6 → s1 x = sc x) →
    (∃ c, j ≤ c ∧ c < 11 ∧ (pp_c (pp_A t tx) q c).1 = 1 ∧ ∃ sc', pp_R sc sc' (pp_c (pp_A t tx) q c).2.1 ∧ (pp_c (pp_A t tx) q c).2.1 ≤ t ∧ d_X9_readCommand_L1 i t tx sc (fun a3_1 fs_1 sd_1 sc_1 cc_1 => (0, fs_1, sd_1, (upd sc_1 6 (nI (pm_n a3_1))), cc_1)) k j (nI F) fs sd s1 c1 = (1, upd fs i (pp_x (pp_k1 c) (pp_c (pp_A t tx) q c).2.2.1), upd sd i (pp_x (pp_k2 c) (pp_c (pp_A t tx) q c).2.2.2), sc', upd c1 i (nI c))) ∨
    ((∀ c, j ≤ c → c < 11 → (pp_c (pp_A t tx) q c).1 = 0) ∧ ∃ p sc', pp_R sc sc' p ∧ F ≤ p ∧ p ≤ t ∧ (∀ c, j ≤ c → c < 11 → (pp_c (pp_A t tx) q c).2.1 ≤ p) ∧ (p = F ∨ ∃ c, j ≤ c ∧ c < 11 ∧ p = (pp_c (pp_A t tx) q c).2.1) ∧ d_X9_readCommand_L1 i t tx sc (fun a3_1 fs_1 sd_1 sc_1 cc_1 => (0, fs_1, sd_1, (upd sc_1 6 (nI (pm_n a3_1))), cc_1)) k j (nI F) fs sd s1 c1 = (0, fs, sd, sc', c1)) := by
  intro k
  induction k with
  | zero =>
    intro j F fs sd s1 c1 h hF1 hF2 hs
    refine Or.inr ⟨fun c h1 h2 => by omega, F, upd s1 6 (nI F), ⟨pk_us, fun x hx => (pk_un hx).trans (hs x hx)⟩, Nat.le_refl _, hF2, fun c h1 h2 => by omega, Or.inl rfl, ?_⟩
    show (0, fs, sd, upd s1 6 (nI (pm_n (nI F))), c1) = _
    rw [pm_n_nI (by omega)]
  | succ k ih =>
    intro j F fs sd s1 c1 h hF1 hF2 hs
    obtain ⟨sc', r1, r2, hm⟩ := pp_mc (c := j) (i := i) (tx := tx) (fs := fs) (sd := sd) (sc := upd s1 6 (nI q)) (by omega) ht pk_us hq
    have r3 : pp_R sc sc' (pp_c (pp_A t tx) q j).2.1 := ⟨r1.1, fun x hx => (r1.2 x hx).trans ((pk_un hx).trans (hs x hx))⟩
    simp only [d_X9_readCommand_L1]
    rw [h6, pm_n_nI (show q < 2 ^ 31 by omega)]
    rcases hm with ⟨p1, e⟩ | ⟨p1, e⟩
    · rw [e]
      try dsimp only
      rw [if_neg (by decide)]
      exact Or.inl ⟨j, Nat.le_refl _, by omega, p1, sc', r3, r2, rfl⟩
    · rw [e]
      try dsimp only
      rw [if_pos rfl, r1.1, pm_n_nI (show F < 2 ^ 31 by omega), pm_n_nI (show (pp_c (pp_A t tx) q j).2.1 < 2 ^ 31 by omega)]
      rcases ih (j + 1) (max F (pp_c (pp_A t tx) q j).2.1) fs sd sc' c1 (by omega) (by omega) (by omega) r3.2 with ⟨c, c1, c2, c3, c4⟩ | ⟨a1, p, s2, b1, b2, b3, b4, b5, b6⟩
      · exact Or.inl ⟨c, by omega, c2, c3, c4⟩
      · refine Or.inr ⟨fun c h1 h2 => ?_, p, s2, b1, by omega, b3, fun c h1 h2 => ?_, ?_, b6⟩
        · by_cases hcj : c = j
          · rw [hcj]; exact p1
          · exact a1 c (by omega) h2
        · by_cases hcj : c = j
          · rw [hcj]; omega
          · exact b4 c (by omega) h2
        · rcases b5 with b5 | ⟨c, b5, b7, b8⟩
          · by_cases hm : F ≤ (pp_c (pp_A t tx) q j).2.1
            · exact Or.inr ⟨j, Nat.le_refl _, by omega, by omega⟩
            · exact Or.inl (by omega)
          · exact Or.inr ⟨c, by omega, b7, b8⟩
theorem pp_numG {A : Nat → Int32} : ∀ (k q v : Nat), q ≤ (pp_num A k q v).1 := by
  intro k
  induction k with
  | zero => intro q v; exact Nat.le_refl _
  | succ k ih =>
    intro q v
    simp only [pp_num]
    split
    · exact Nat.le_refl _
    · have := ih (q + 1) (10 * v + (pm_n (A q) - 48))
      omega
theorem pp_cmd_ge {A : Nat → Int32} {w sg : List Nat} {k1 k2 q : Nat} : q + pp_lit A w q ≤ (pp_cmd A w k1 sg k2 q).2.1 := by
  have h0 := pp_litL (A := A) w q
  have h1 := pp_numG (A := A) k1 (q + w.length) 0
  have h2 := pp_numG (A := A) k2 ((pp_num A k1 (q + w.length) 0).1 + sg.length) 0
  unfold pp_cmd
  (repeat' split) <;> dsimp only <;> omega
theorem pp_cmd_ok {A : Nat → Int32} {w sg : List Nat} {k1 k2 q : Nat} (h : (pp_cmd A w k1 sg k2 q).1 = 1) : q + w.length + (if k1 = 0 then 0 else 1) ≤ (pp_cmd A w k1 sg k2 q).2.1 := by
  have h0 := pp_litL (A := A) w q
  have h1 := pp_numG (A := A) k1 (q + w.length) 0
  have h2 := pp_numG (A := A) k2 ((pp_num A k1 (q + w.length) 0).1 + sg.length) 0
  unfold pp_cmd at h ⊢
  by_cases c1 : pp_lit A w q < w.length
  · rw [if_pos c1] at h; exact absurd h (show ¬ (0 : Nat) = 1 by decide)
  rw [if_neg c1] at h ⊢
  by_cases c2 : k1 = 0
  · rw [if_pos c2, if_pos c2]; exact Nat.le_refl _
  rw [if_neg c2] at h
  rw [if_neg c2, if_neg c2]
  by_cases c3 : (pp_num A k1 (q + w.length) 0).1 = q + w.length
  · rw [if_pos c3] at h; exact absurd h (show ¬ (0 : Nat) = 1 by decide)
  rw [if_neg c3] at h ⊢
  (repeat' split) <;> dsimp only <;> omega
theorem pp_bd {A : Nat → Int32} {w w2 sg sg2 : List Nat} {k1 k2 l1 l2 q m : Nat} (h : pp_lit A w q ≤ m) (hm : m < w.length) (h2 : m ≤ pp_lit A w2 q) : (pp_cmd A w k1 sg k2 q).1 = 0 ∧ (pp_cmd A w k1 sg k2 q).2.1 ≤ (pp_cmd A w2 l1 sg2 l2 q).2.1 := by
  have h3 := pp_cmd_ge (A := A) (w := w2) (sg := sg2) (k1 := l1) (k2 := l2) (q := q)
  have e : pp_cmd A w k1 sg k2 q = (0, q + pp_lit A w q, 0, 0) := by
    unfold pp_cmd
    rw [if_pos (by omega)]
  rw [e]
  exact ⟨rfl, by dsimp only; omega⟩
section PPL
variable {A : Nat → Int32} {q b1 b2 b3 : Nat} {w : List Nat}
theorem pp_l0 (h : ¬ A q = nI b1) : pp_lit A (b1 :: w) q ≤ 0 := by
  simp only [pp_lit]
  rw [if_neg h]
  exact Nat.le_refl _
theorem pp_l1 (h : ¬ A (q + 1) = nI b2) : pp_lit A (b1 :: b2 :: w) q ≤ 1 := by
  simp only [pp_lit]
  rw [if_neg h]
  split <;> omega
theorem pp_l2 (h : ¬ A (q + 2) = nI b3) : pp_lit A (b1 :: b2 :: b3 :: w) q ≤ 2 := by
  simp only [pp_lit]
  rw [if_neg (show ¬ A (q + 1 + 1) = nI b3 from h)]
  (repeat' split) <;> omega
theorem pp_g1 (h : A q = nI b1) : 1 ≤ pp_lit A (b1 :: w) q := by
  simp only [pp_lit]
  rw [if_pos h]
  omega
theorem pp_g2 (h : A q = nI b1) (h2 : A (q + 1) = nI b2) : 2 ≤ pp_lit A (b1 :: b2 :: w) q := by
  simp only [pp_lit]
  rw [if_pos h, if_pos h2]
  omega
end PPL
/-- which command begins at q -/
def pp_kd (A : Nat → Int32) (q : Nat) : Int32 := if A q = 97 then (if A (q + 1) = 117 then 117 else 97) else (if A q = 99 then (if A (q + 1) = 117 then 116 else 99) else (if A q = 108 then (if A (q + 1) = 105 then (if A (q + 2) = 109 then 109 else 108) else 108) else (if A q = 112 then 112 else (if A q = 114 then 114 else (if A q = 115 then (if A (q + 1) = 101 then (if A (q + 2) = 101 then 100 else 115) else 115) else 106)))))
theorem pp_ex {A : Nat → Int32} {q : Nat} : ∃ c, c < 11 ∧ pp_kd A q = nI (pp_ch c) ∧ ∀ c', c' < 11 → c' ≠ c → (pp_c A q c').1 = 0 ∧ (pp_c A q c').2.1 ≤ (pp_c A q c).2.1 := by
  unfold pp_kd
  by_cases h0 : A q = 97
  · rw [if_pos h0]
    by_cases h1 : A (q + 1) = 117
    · skip
      rw [if_pos h1]
      refine ⟨4, by decide, by decide, fun c' hc' hne => ?_⟩
      rcases (show c' = 0 ∨ c' = 1 ∨ c' = 2 ∨ c' = 3 ∨ c' = 4 ∨ c' = 5 ∨ c' = 6 ∨ c' = 7 ∨ c' = 8 ∨ c' = 9 ∨ c' = 10 by omega) with rfl | rfl | rfl | rfl | rfl | rfl | rfl | rfl | rfl | rfl | rfl
      · exact pp_bd (m := 0) (pp_l0 (by rw [h0]; decide)) (by decide) (Nat.zero_le _)
      · exact pp_bd (m := 1) (pp_l1 (by rw [h1]; decide)) (by decide) (pp_g1 h0)
      · exact pp_bd (m := 0) (pp_l0 (by rw [h0]; decide)) (by decide) (Nat.zero_le _)
      · exact pp_bd (m := 0) (pp_l0 (by rw [h0]; decide)) (by decide) (Nat.zero_le _)
      · exact absurd rfl hne
      · exact pp_bd (m := 0) (pp_l0 (by rw [h0]; decide)) (by decide) (Nat.zero_le _)
      · exact pp_bd (m := 0) (pp_l0 (by rw [h0]; decide)) (by decide) (Nat.zero_le _)
      · exact pp_bd (m := 0) (pp_l0 (by rw [h0]; decide)) (by decide) (Nat.zero_le _)
      · exact pp_bd (m := 0) (pp_l0 (by rw [h0]; decide)) (by decide) (Nat.zero_le _)
      · exact pp_bd (m := 0) (pp_l0 (by rw [h0]; decide)) (by decide) (Nat.zero_le _)
      · exact pp_bd (m := 0) (pp_l0 (by rw [h0]; decide)) (by decide) (Nat.zero_le _)
    · skip
      rw [if_neg h1]
      refine ⟨1, by decide, by decide, fun c' hc' hne => ?_⟩
      rcases (show c' = 0 ∨ c' = 1 ∨ c' = 2 ∨ c' = 3 ∨ c' = 4 ∨ c' = 5 ∨ c' = 6 ∨ c' = 7 ∨ c' = 8 ∨ c' = 9 ∨ c' = 10 by omega) with rfl | rfl | rfl | rfl | rfl | rfl | rfl | rfl | rfl | rfl | rfl
      · exact pp_bd (m := 0) (pp_l0 (by rw [h0]; decide)) (by decide) (Nat.zero_le _)
      · exact absurd rfl hne
      · exact pp_bd (m := 0) (pp_l0 (by rw [h0]; decide)) (by decide) (Nat.zero_le _)
      · exact pp_bd (m := 0) (pp_l0 (by rw [h0]; decide)) (by decide) (Nat.zero_le _)
      · exact pp_bd (m := 1) (pp_l1 (show ¬ A (q + 1) = nI 117 from h1)) (by decide) (pp_g1 h0)
      · exact pp_bd (m := 0) (pp_l0 (by rw [h0]; decide)) (by decide) (Nat.zero_le _)
      · exact pp_bd (m := 0) (pp_l0 (by rw [h0]; decide)) (by decide) (Nat.zero_le _)
      · exact pp_bd (m := 0) (pp_l0 (by rw [h0]; decide)) (by decide) (Nat.zero_le _)
      · exact pp_bd (m := 0) (pp_l0 (by rw [h0]; decide)) (by decide) (Nat.zero_le _)
      · exact pp_bd (m := 0) (pp_l0 (by rw [h0]; decide)) (by decide) (Nat.zero_le _)
      · exact pp_bd (m := 0) (pp_l0 (by rw [h0]; decide)) (by decide) (Nat.zero_le _)
  rw [if_neg h0]
  have n97 := h0
  clear h0
  by_cases h0 : A q = 99
  · rw [if_pos h0]
    by_cases h1 : A (q + 1) = 117
    · skip
      rw [if_pos h1]
      refine ⟨7, by decide, by decide, fun c' hc' hne => ?_⟩
      rcases (show c' = 0 ∨ c' = 1 ∨ c' = 2 ∨ c' = 3 ∨ c' = 4 ∨ c' = 5 ∨ c' = 6 ∨ c' = 7 ∨ c' = 8 ∨ c' = 9 ∨ c' = 10 by omega) with rfl | rfl | rfl | rfl | rfl | rfl | rfl | rfl | rfl | rfl | rfl
      · exact pp_bd (m := 0) (pp_l0 (by rw [h0]; decide)) (by decide) (Nat.zero_le _)
      · exact pp_bd (m := 0) (pp_l0 (by rw [h0]; decide)) (by decide) (Nat.zero_le _)
      · exact pp_bd (m := 0) (pp_l0 (by rw [h0]; decide)) (by decide) (Nat.zero_le _)
      · exact pp_bd (m := 0) (pp_l0 (by rw [h0]; decide)) (by decide) (Nat.zero_le _)
      · exact pp_bd (m := 0) (pp_l0 (by rw [h0]; decide)) (by decide) (Nat.zero_le _)
      · exact pp_bd (m := 1) (pp_l1 (by rw [h1]; decide)) (by decide) (pp_g1 h0)
      · exact pp_bd (m := 0) (pp_l0 (by rw [h0]; decide)) (by decide) (Nat.zero_le _)
      · exact absurd rfl hne
      · exact pp_bd (m := 0) (pp_l0 (by rw [h0]; decide)) (by decide) (Nat.zero_le _)
      · exact pp_bd (m := 0) (pp_l0 (by rw [h0]; decide)) (by decide) (Nat.zero_le _)
      · exact pp_bd (m := 0) (pp_l0 (by rw [h0]; decide)) (by decide) (Nat.zero_le _)
    · skip
      rw [if_neg h1]
      refine ⟨5, by decide, by decide, fun c' hc' hne => ?_⟩
      rcases (show c' = 0 ∨ c' = 1 ∨ c' = 2 ∨ c' = 3 ∨ c' = 4 ∨ c' = 5 ∨ c' = 6 ∨ c' = 7 ∨ c' = 8 ∨ c' = 9 ∨ c' = 10 by omega) with rfl | rfl | rfl | rfl | rfl | rfl | rfl | rfl | rfl | rfl | rfl
      · exact pp_bd (m := 0) (pp_l0 (by rw [h0]; decide)) (by decide) (Nat.zero_le _)
      · exact pp_bd (m := 0) (pp_l0 (by rw [h0]; decide)) (by decide) (Nat.zero_le _)
      · exact pp_bd (m := 0) (pp_l0 (by rw [h0]; decide)) (by decide) (Nat.zero_le _)
      · exact pp_bd (m := 0) (pp_l0 (by rw [h0]; decide)) (by decide) (Nat.zero_le _)
      · exact pp_bd (m := 0) (pp_l0 (by rw [h0]; decide)) (by decide) (Nat.zero_le _)
      · exact absurd rfl hne
      · exact pp_bd (m := 0) (pp_l0 (by rw [h0]; decide)) (by decide) (Nat.zero_le _)
      · exact pp_bd (m := 1) (pp_l1 (show ¬ A (q + 1) = nI 117 from h1)) (by decide) (pp_g1 h0)
      · exact pp_bd (m := 0) (pp_l0 (by rw [h0]; decide)) (by decide) (Nat.zero_le _)
      · exact pp_bd (m := 0) (pp_l0 (by rw [h0]; decide)) (by decide) (Nat.zero_le _)
      · exact pp_bd (m := 0) (pp_l0 (by rw [h0]; decide)) (by decide) (Nat.zero_le _)
  rw [if_neg h0]
  have n99 := h0
  clear h0
  by_cases h0 : A q = 108
  · rw [if_pos h0]
    by_cases h1 : A (q + 1) = 105
    · rw [if_pos h1]
      by_cases h2 : A (q + 2) = 109
      · skip
        rw [if_pos h2]
        refine ⟨9, by decide, by decide, fun c' hc' hne => ?_⟩
        rcases (show c' = 0 ∨ c' = 1 ∨ c' = 2 ∨ c' = 3 ∨ c' = 4 ∨ c' = 5 ∨ c' = 6 ∨ c' = 7 ∨ c' = 8 ∨ c' = 9 ∨ c' = 10 by omega) with rfl | rfl | rfl | rfl | rfl | rfl | rfl | rfl | rfl | rfl | rfl
        · exact pp_bd (m := 0) (pp_l0 (by rw [h0]; decide)) (by decide) (Nat.zero_le _)
        · exact pp_bd (m := 0) (pp_l0 (by rw [h0]; decide)) (by decide) (Nat.zero_le _)
        · exact pp_bd (m := 0) (pp_l0 (by rw [h0]; decide)) (by decide) (Nat.zero_le _)
        · exact pp_bd (m := 0) (pp_l0 (by rw [h0]; decide)) (by decide) (Nat.zero_le _)
        · exact pp_bd (m := 0) (pp_l0 (by rw [h0]; decide)) (by decide) (Nat.zero_le _)
        · exact pp_bd (m := 0) (pp_l0 (by rw [h0]; decide)) (by decide) (Nat.zero_le _)
        · exact pp_bd (m := 2) (pp_l2 (by rw [h2]; decide)) (by decide) (pp_g2 h0 h1)
        · exact pp_bd (m := 0) (pp_l0 (by rw [h0]; decide)) (by decide) (Nat.zero_le _)
        · exact pp_bd (m := 0) (pp_l0 (by rw [h0]; decide)) (by decide) (Nat.zero_le _)
        · exact absurd rfl hne
        · exact pp_bd (m := 0) (pp_l0 (by rw [h0]; decide)) (by decide) (Nat.zero_le _)
      · skip
        rw [if_neg h2]
        refine ⟨6, by decide, by decide, fun c' hc' hne => ?_⟩
        rcases (show c' = 0 ∨ c' = 1 ∨ c' = 2 ∨ c' = 3 ∨ c' = 4 ∨ c' = 5 ∨ c' = 6 ∨ c' = 7 ∨ c' = 8 ∨ c' = 9 ∨ c' = 10 by omega) with rfl | rfl | rfl | rfl | rfl | rfl | rfl | rfl | rfl | rfl | rfl
        · exact pp_bd (m := 0) (pp_l0 (by rw [h0]; decide)) (by decide) (Nat.zero_le _)
        · exact pp_bd (m := 0) (pp_l0 (by rw [h0]; decide)) (by decide) (Nat.zero_le _)
        · exact pp_bd (m := 0) (pp_l0 (by rw [h0]; decide)) (by decide) (Nat.zero_le _)
        · exact pp_bd (m := 0) (pp_l0 (by rw [h0]; decide)) (by decide) (Nat.zero_le _)
        · exact pp_bd (m := 0) (pp_l0 (by rw [h0]; decide)) (by decide) (Nat.zero_le _)
        · exact pp_bd (m := 0) (pp_l0 (by rw [h0]; decide)) (by decide) (Nat.zero_le _)
        · exact absurd rfl hne
        · exact pp_bd (m := 0) (pp_l0 (by rw [h0]; decide)) (by decide) (Nat.zero_le _)
        · exact pp_bd (m := 0) (pp_l0 (by rw [h0]; decide)) (by decide) (Nat.zero_le _)
        · exact pp_bd (m := 2) (pp_l2 (show ¬ A (q + 2) = nI 109 from h2)) (by decide) (pp_g2 h0 h1)
        · exact pp_bd (m := 0) (pp_l0 (by rw [h0]; decide)) (by decide) (Nat.zero_le _)
    · skip
      rw [if_neg h1]
      refine ⟨6, by decide, by decide, fun c' hc' hne => ?_⟩
      rcases (show c' = 0 ∨ c' = 1 ∨ c' = 2 ∨ c' = 3 ∨ c' = 4 ∨ c' = 5 ∨ c' = 6 ∨ c' = 7 ∨ c' = 8 ∨ c' = 9 ∨ c' = 10 by omega) with rfl | rfl | rfl | rfl | rfl | rfl | rfl | rfl | rfl | rfl | rfl
      · exact pp_bd (m := 0) (pp_l0 (by rw [h0]; decide)) (by decide) (Nat.zero_le _)
      · exact pp_bd (m := 0) (pp_l0 (by rw [h0]; decide)) (by decide) (Nat.zero_le _)
      · exact pp_bd (m := 0) (pp_l0 (by rw [h0]; decide)) (by decide) (Nat.zero_le _)
      · exact pp_bd (m := 0) (pp_l0 (by rw [h0]; decide)) (by decide) (Nat.zero_le _)
      · exact pp_bd (m := 0) (pp_l0 (by rw [h0]; decide)) (by decide) (Nat.zero_le _)
      · exact pp_bd (m := 0) (pp_l0 (by rw [h0]; decide)) (by decide) (Nat.zero_le _)
      · exact absurd rfl hne
      · exact pp_bd (m := 0) (pp_l0 (by rw [h0]; decide)) (by decide) (Nat.zero_le _)
      · exact pp_bd (m := 0) (pp_l0 (by rw [h0]; decide)) (by decide) (Nat.zero_le _)
      · exact pp_bd (m := 1) (pp_l1 (show ¬ A (q + 1) = nI 105 from h1)) (by decide) (pp_g1 h0)
      · exact pp_bd (m := 0) (pp_l0 (by rw [h0]; decide)) (by decide) (Nat.zero_le _)
  rw [if_neg h0]
  have n108 := h0
  clear h0
  by_cases h0 : A q = 112
  · skip
    rw [if_pos h0]
    refine ⟨8, by decide, by decide, fun c' hc' hne => ?_⟩
    rcases (show c' = 0 ∨ c' = 1 ∨ c' = 2 ∨ c' = 3 ∨ c' = 4 ∨ c' = 5 ∨ c' = 6 ∨ c' = 7 ∨ c' = 8 ∨ c' = 9 ∨ c' = 10 by omega) with rfl | rfl | rfl | rfl | rfl | rfl | rfl | rfl | rfl | rfl | rfl
    · exact pp_bd (m := 0) (pp_l0 (by rw [h0]; decide)) (by decide) (Nat.zero_le _)
    · exact pp_bd (m := 0) (pp_l0 (by rw [h0]; decide)) (by decide) (Nat.zero_le _)
    · exact pp_bd (m := 0) (pp_l0 (by rw [h0]; decide)) (by decide) (Nat.zero_le _)
    · exact pp_bd (m := 0) (pp_l0 (by rw [h0]; decide)) (by decide) (Nat.zero_le _)
    · exact pp_bd (m := 0) (pp_l0 (by rw [h0]; decide)) (by decide) (Nat.zero_le _)
    · exact pp_bd (m := 0) (pp_l0 (by rw [h0]; decide)) (by decide) (Nat.zero_le _)
    · exact pp_bd (m := 0) (pp_l0 (by rw [h0]; decide)) (by decide) (Nat.zero_le _)
    · exact pp_bd (m := 0) (pp_l0 (by rw [h0]; decide)) (by decide) (Nat.zero_le _)
    · exact absurd rfl hne
    · exact pp_bd (m := 0) (pp_l0 (by rw [h0]; decide)) (by decide) (Nat.zero_le _)
    · exact pp_bd (m := 0) (pp_l0 (by rw [h0]; decide)) (by decide) (Nat.zero_le _)
  rw [if_neg h0]
  have n112 := h0
  clear h0
  by_cases h0 : A q = 114
  · skip
    rw [if_pos h0]
    refine ⟨2, by decide, by decide, fun c' hc' hne => ?_⟩
    rcases (show c' = 0 ∨ c' = 1 ∨ c' = 2 ∨ c' = 3 ∨ c' = 4 ∨ c' = 5 ∨ c' = 6 ∨ c' = 7 ∨ c' = 8 ∨ c' = 9 ∨ c' = 10 by omega) with rfl | rfl | rfl | rfl | rfl | rfl | rfl | rfl | rfl | rfl | rfl
    · exact pp_bd (m := 0) (pp_l0 (by rw [h0]; decide)) (by decide) (Nat.zero_le _)
    · exact pp_bd (m := 0) (pp_l0 (by rw [h0]; decide)) (by decide) (Nat.zero_le _)
    · exact absurd rfl hne
    · exact pp_bd (m := 0) (pp_l0 (by rw [h0]; decide)) (by decide) (Nat.zero_le _)
    · exact pp_bd (m := 0) (pp_l0 (by rw [h0]; decide)) (by decide) (Nat.zero_le _)
    · exact pp_bd (m := 0) (pp_l0 (by rw [h0]; decide)) (by decide) (Nat.zero_le _)
    · exact pp_bd (m := 0) (pp_l0 (by rw [h0]; decide)) (by decide) (Nat.zero_le _)
    · exact pp_bd (m := 0) (pp_l0 (by rw [h0]; decide)) (by decide) (Nat.zero_le _)
    · exact pp_bd (m := 0) (pp_l0 (by rw [h0]; decide)) (by decide) (Nat.zero_le _)
    · exact pp_bd (m := 0) (pp_l0 (by rw [h0]; decide)) (by decide) (Nat.zero_le _)
    · exact pp_bd (m := 0) (pp_l0 (by rw [h0]; decide)) (by decide) (Nat.zero_le _)
  rw [if_neg h0]
  have n114 := h0
  clear h0
  by_cases h0 : A q = 115
  · rw [if_pos h0]
    by_cases h1 : A (q + 1) = 101
    · rw [if_pos h1]
      by_cases h2 : A (q + 2) = 101
      · skip
        rw [if_pos h2]
        refine ⟨10, by decide, by decide, fun c' hc' hne => ?_⟩
        rcases (show c' = 0 ∨ c' = 1 ∨ c' = 2 ∨ c' = 3 ∨ c' = 4 ∨ c' = 5 ∨ c' = 6 ∨ c' = 7 ∨ c' = 8 ∨ c' = 9 ∨ c' = 10 by omega) with rfl | rfl | rfl | rfl | rfl | rfl | rfl | rfl | rfl | rfl | rfl
        · exact pp_bd (m := 0) (pp_l0 (by rw [h0]; decide)) (by decide) (Nat.zero_le _)
        · exact pp_bd (m := 0) (pp_l0 (by rw [h0]; decide)) (by decide) (Nat.zero_le _)
        · exact pp_bd (m := 0) (pp_l0 (by rw [h0]; decide)) (by decide) (Nat.zero_le _)
        · exact pp_bd (m := 2) (pp_l2 (by rw [h2]; decide)) (by decide) (pp_g2 h0 h1)
        · exact pp_bd (m := 0) (pp_l0 (by rw [h0]; decide)) (by decide) (Nat.zero_le _)
        · exact pp_bd (m := 0) (pp_l0 (by rw [h0]; decide)) (by decide) (Nat.zero_le _)
        · exact pp_bd (m := 0) (pp_l0 (by rw [h0]; decide)) (by decide) (Nat.zero_le _)
        · exact pp_bd (m := 0) (pp_l0 (by rw [h0]; decide)) (by decide) (Nat.zero_le _)
        · exact pp_bd (m := 0) (pp_l0 (by rw [h0]; decide)) (by decide) (Nat.zero_le _)
        · exact pp_bd (m := 0) (pp_l0 (by rw [h0]; decide)) (by decide) (Nat.zero_le _)
        · exact absurd rfl hne
      · skip
        rw [if_neg h2]
        refine ⟨3, by decide, by decide, fun c' hc' hne => ?_⟩
        rcases (show c' = 0 ∨ c' = 1 ∨ c' = 2 ∨ c' = 3 ∨ c' = 4 ∨ c' = 5 ∨ c' = 6 ∨ c' = 7 ∨ c' = 8 ∨ c' = 9 ∨ c' = 10 by omega) with rfl | rfl | rfl | rfl | rfl | rfl | rfl | rfl | rfl | rfl | rfl
        · exact pp_bd (m := 0) (pp_l0 (by rw [h0]; decide)) (by decide) (Nat.zero_le _)
        · exact pp_bd (m := 0) (pp_l0 (by rw [h0]; decide)) (by decide) (Nat.zero_le _)
        · exact pp_bd (m := 0) (pp_l0 (by rw [h0]; decide)) (by decide) (Nat.zero_le _)
        · exact absurd rfl hne
        · exact pp_bd (m := 0) (pp_l0 (by rw [h0]; decide)) (by decide) (Nat.zero_le _)
        · exact pp_bd (m := 0) (pp_l0 (by rw [h0]; decide)) (by decide) (Nat.zero_le _)
        · exact pp_bd (m := 0) (pp_l0 (by rw [h0]; decide)) (by decide) (Nat.zero_le _)
        · exact pp_bd (m := 0) (pp_l0 (by rw [h0]; decide)) (by decide) (Nat.zero_le _)
        · exact pp_bd (m := 0) (pp_l0 (by rw [h0]; decide)) (by decide) (Nat.zero_le _)
        · exact pp_bd (m := 0) (pp_l0 (by rw [h0]; decide)) (by decide) (Nat.zero_le _)
        · exact pp_bd (m := 2) (pp_l2 (show ¬ A (q + 2) = nI 101 from h2)) (by decide) (pp_g2 h0 h1)
    · skip
      rw [if_neg h1]
      refine ⟨3, by decide, by decide, fun c' hc' hne => ?_⟩
      rcases (show c' = 0 ∨ c' = 1 ∨ c' = 2 ∨ c' = 3 ∨ c' = 4 ∨ c' = 5 ∨ c' = 6 ∨ c' = 7 ∨ c' = 8 ∨ c' = 9 ∨ c' = 10 by omega) with rfl | rfl | rfl | rfl | rfl | rfl | rfl | rfl | rfl | rfl | rfl
      · exact pp_bd (m := 0) (pp_l0 (by rw [h0]; decide)) (by decide) (Nat.zero_le _)
      · exact pp_bd (m := 0) (pp_l0 (by rw [h0]; decide)) (by decide) (Nat.zero_le _)
      · exact pp_bd (m := 0) (pp_l0 (by rw [h0]; decide)) (by decide) (Nat.zero_le _)
      · exact absurd rfl hne
      · exact pp_bd (m := 0) (pp_l0 (by rw [h0]; decide)) (by decide) (Nat.zero_le _)
      · exact pp_bd (m := 0) (pp_l0 (by rw [h0]; decide)) (by decide) (Nat.zero_le _)
      · exact pp_bd (m := 0) (pp_l0 (by rw [h0]; decide)) (by decide) (Nat.zero_le _)
      · exact pp_bd (m := 0) (pp_l0 (by rw [h0]; decide)) (by decide) (Nat.zero_le _)
      · exact pp_bd (m := 0) (pp_l0 (by rw [h0]; decide)) (by decide) (Nat.zero_le _)
      · exact pp_bd (m := 0) (pp_l0 (by rw [h0]; decide)) (by decide) (Nat.zero_le _)
      · exact pp_bd (m := 1) (pp_l1 (show ¬ A (q + 1) = nI 101 from h1)) (by decide) (pp_g1 h0)
  rw [if_neg h0]
  refine ⟨0, by decide, by decide, fun c' hc' hne => ?_⟩
  rcases (show c' = 0 ∨ c' = 1 ∨ c' = 2 ∨ c' = 3 ∨ c' = 4 ∨ c' = 5 ∨ c' = 6 ∨ c' = 7 ∨ c' = 8 ∨ c' = 9 ∨ c' = 10 by omega) with rfl | rfl | rfl | rfl | rfl | rfl | rfl | rfl | rfl | rfl | rfl
  · exact absurd rfl hne
  · exact pp_bd (m := 0) (pp_l0 (show ¬ A q = nI 97 from n97)) (by decide) (Nat.zero_le _)
  · exact pp_bd (m := 0) (pp_l0 (show ¬ A q = nI 114 from n114)) (by decide) (Nat.zero_le _)
  · exact pp_bd (m := 0) (pp_l0 (show ¬ A q = nI 115 from h0)) (by decide) (Nat.zero_le _)
  · exact pp_bd (m := 0) (pp_l0 (show ¬ A q = nI 97 from n97)) (by decide) (Nat.zero_le _)
  · exact pp_bd (m := 0) (pp_l0 (show ¬ A q = nI 99 from n99)) (by decide) (Nat.zero_le _)
  · exact pp_bd (m := 0) (pp_l0 (show ¬ A q = nI 108 from n108)) (by decide) (Nat.zero_le _)
  · exact pp_bd (m := 0) (pp_l0 (show ¬ A q = nI 99 from n99)) (by decide) (Nat.zero_le _)
  · exact pp_bd (m := 0) (pp_l0 (show ¬ A q = nI 112 from n112)) (by decide) (Nat.zero_le _)
  · exact pp_bd (m := 0) (pp_l0 (show ¬ A q = nI 108 from n108)) (by decide) (Nat.zero_le _)
  · exact pp_bd (m := 0) (pp_l0 (show ¬ A q = nI 115 from h0)) (by decide) (Nat.zero_le _)
end PPT
