/-! watchers by sets: closed -/
theorem pm_subi : ∀ a, a < 128 → ∀ s, s < 128 → (nI a &&& (nI s ^^^ (-1)) = 0 ↔ ∀ j, j < 7 → a / 2 ^ j % 2 = 1 → s / 2 ^ j % 2 = 1) := by decide +kernel
theorem pm_bitsN : ∀ a, a < 128 → d_X13_bits (nI a) = nI (pm_pc a 7) := by decide +kernel
theorem pm_fulB : ∀ n, n < 8 → ∀ i, i < n → (2 ^ n - 1) / 2 ^ i % 2 = 1 := by decide +kernel
theorem pm_fulC : ∀ n, n < 8 → pm_pc (2 ^ n - 1) 7 = n := by decide +kernel
theorem pm_minN {a b : Nat} (ha : a < 2 ^ 31) (hb : b < 2 ^ 31) : pm_min (nI a) (nI b) = nI (min a b) := by
  unfold pm_min
  by_cases h : b < a
  · rw [if_pos (nI_lt h ha), Nat.min_eq_right (by omega)]
  · rw [if_neg (nI_nlt (by omega) hb), Nat.min_eq_left (by omega)]
section PWA
variable {n : Nat} {r g f : Nat → Int32}
def pm_cvr (r : Nat → Int32) (n s : Nat) : Prop := ∀ i j, i < n → j < i → pm_n (r (49 + i)) / 2 ^ j % 2 = 1 → s / 2 ^ i % 2 = 1 ∨ s / 2 ^ j % 2 = 1
theorem pm_fuC {s : Nat} (hs : s < 128) (hl : pm_Il n r) : ∀ (k j : Nat), j + k = 7 → (pm_fu (fun j => r (49 + j)) (nI s) j k < 0 ↔ ∀ i, j ≤ i → i < 7 → s / 2 ^ i % 2 = 0 → ∀ t, t < 7 → pm_n (r (49 + i)) / 2 ^ t % 2 = 1 → s / 2 ^ t % 2 = 1) := by
  intro k
  induction k with
  | zero => intro j h; exact ⟨fun _ i h1 h2 => by omega, fun _ => by unfold pm_fu; decide⟩
  | succ k ih =>
    intro j h
    unfold pm_fu
    rw [pm_bt2 s hs j (by omega)]
    have ihj := ih (j + 1) (by omega)
    have hi := pm_subi _ (hl.1 j (by omega)).2 s hs
    rw [← (hl.1 j (by omega)).1] at hi
    rcases Nat.mod_two_eq_zero_or_one (s / 2 ^ j) with hb | hb
    · rw [hb, if_pos (show nI 0 = 0 from rfl)]
      by_cases hc : r (49 + j) &&& (nI s ^^^ (-1)) = 0
      · rw [if_pos hc, ihj]
        constructor
        · intro h1 i h2 h3 h4 t ht hbt
          by_cases hij : i = j
          · subst hij; exact hi.mp hc t ht hbt
          · exact h1 i (by omega) h3 h4 t ht hbt
        · intro h1 i h2; exact h1 i (by omega)
      · rw [if_neg hc]
        constructor
        · intro h1; exact absurd h1 (nI_pos (by omega))
        · intro h1; exact absurd (hi.mpr (h1 j (Nat.le_refl _) (by omega) hb)) hc
    · rw [hb, if_neg (show ¬ nI 1 = 0 by decide), ihj]
      constructor
      · intro h1 i h2 h3 h4
        by_cases hij : i = j
        · subst hij; rw [hb] at h4; exact absurd h4 (by decide)
        · exact h1 i (by omega) h3 h4
      · intro h1 i h2; exact h1 i (by omega)
theorem pm_fuE {s : Nat} (hs : s < 128) (hl : pm_Il n r) (h7 : n ≤ 7) : pm_fu (fun j => r (49 + j)) (nI s) 0 7 < 0 ↔ pm_cvr r n s := by
  rw [pm_fuC hs hl 7 0 (by omega)]
  constructor
  · intro h i j hi hj hb
    rcases Nat.mod_two_eq_zero_or_one (s / 2 ^ i) with h1 | h1
    · exact Or.inr (h i (Nat.zero_le _) (by omega) h1 j (by omega) hb)
    · exact Or.inl h1
  · intro h i _ hi h0 t ht hb
    have hn := hl.2.2.2.1 i t hi ht hb
    by_cases hti : t < i
    · rcases h i t hn.1 hti hb with h1 | h1
      · rw [h0] at h1; exact absurd h1 (by decide)
      · exact h1
    · by_cases hte : t = i
      · subst hte
        rw [hl.2.2.1 t ht] at hb
        exact absurd hb (by decide)
      · rw [hl.2.1 i t hi ht] at hb
        rcases h t i hn.2 (by omega) hb with h1 | h1
        · exact h1
        · rw [h0] at h1; exact absurd h1 (by decide)
theorem pm_wa2 {s i : Nat} {f : Nat → Int32} (hs : s < 128) (sl : pm_RSl r g) (hi : i < 7) : ∀ (k j : Nat) (a : Int32), j + k = i → (a = 0 ∨ a = 1) → (d_X13_watches_L2 (nI s) f g i k j a = 0 ∨ d_X13_watches_L2 (nI s) f g i k j a = 1) ∧ (d_X13_watches_L2 (nI s) f g i k j a = 1 ↔ a = 1 ∧ ∀ t, j ≤ t → t < i → pm_n (r (49 + i)) / 2 ^ t % 2 = 1 → s / 2 ^ i % 2 = 1 ∨ s / 2 ^ t % 2 = 1) := by
  intro k
  induction k with
  | zero => intro j a h ha; exact ⟨ha, fun e => ⟨e, fun t h1 h2 => by omega⟩, fun e => e.1⟩
  | succ k ih =>
    intro j a h ha
    simp only [d_X13_watches_L2, pm_bt2 s hs i hi, pm_bt2 s hs j (by omega)]
    have h0 := ih (j + 1) 0 (by omega) (Or.inl rfl)
    have h1 := ih (j + 1) 1 (by omega) (Or.inr rfl)
    have hlk : d_X13_linked i j f g = 0 ↔ ¬ pm_n (r (49 + i)) / 2 ^ j % 2 = 1 := by
      unfold d_X13_linked
      rw [sl i j hi (by omega)]
      unfold pm_bt
      rcases Nat.mod_two_eq_zero_or_one (pm_n (r (49 + i)) / 2 ^ j) with hb | hb <;> rw [hb] <;> decide
    have bad : ∀ (Y : Prop), (d_X13_watches_L2 (nI s) f g i k (j + 1) 0 = 1 ↔ (0 : Int32) = 1 ∧ Y) → ¬ d_X13_watches_L2 (nI s) f g i k (j + 1) 0 = 1 := fun Y hy e => absurd (hy.mp e).1 (by decide)
    rcases ha with rfl | rfl
    · rw [if_pos rfl]
      refine ⟨h0.1, fun e => absurd e (bad _ h0.2), fun e => absurd e.1 (by decide)⟩
    · rw [if_neg (by decide)]
      by_cases hc : pm_n (r (49 + i)) / 2 ^ j % 2 = 1
      · rw [if_neg (fun e => (hlk.mp e) hc)]
        have hsum : nI (s / 2 ^ i % 2) + nI (s / 2 ^ j % 2) ≤ 0 ↔ ¬ (s / 2 ^ i % 2 = 1 ∨ s / 2 ^ j % 2 = 1) := by
          rcases Nat.mod_two_eq_zero_or_one (s / 2 ^ i) with hb | hb <;> rcases Nat.mod_two_eq_zero_or_one (s / 2 ^ j) with hb2 | hb2 <;> rw [hb, hb2] <;> decide
        by_cases hz : s / 2 ^ i % 2 = 1 ∨ s / 2 ^ j % 2 = 1
        · rw [if_neg (fun e => (hsum.mp e) hz)]
          refine ⟨h1.1, fun e => ⟨rfl, fun t t1 t2 tb => ?_⟩, fun e => h1.2.mpr ⟨rfl, fun t t1 t2 tb => e.2 t (by omega) t2 tb⟩⟩
          by_cases htj : t = j
          · subst htj; exact hz
          · exact (h1.2.mp e).2 t (by omega) t2 tb
        · rw [if_pos (hsum.mpr hz)]
          refine ⟨h0.1, fun e => absurd e (bad _ h0.2), fun e => absurd (e.2 j (Nat.le_refl _) (by omega) hc) hz⟩
      · rw [if_pos (hlk.mpr hc)]
        refine ⟨h1.1, fun e => ⟨rfl, fun t t1 t2 tb => ?_⟩, fun e => h1.2.mpr ⟨rfl, fun t t1 t2 tb => e.2 t (by omega) t2 tb⟩⟩
        by_cases htj : t = j
        · subst htj; exact absurd tb hc
        · exact (h1.2.mp e).2 t (by omega) t2 tb
theorem pm_wa1 {s : Nat} {f : Nat → Int32} (hs : s < 128) (sl : pm_RSl r g) (h7 : n ≤ 7) : ∀ (k j : Nat) (a : Int32), j + k = n → (a = 0 ∨ a = 1) → (d_X13_watches_L1 (nI s) f g k j a = 0 ∨ d_X13_watches_L1 (nI s) f g k j a = 1) ∧ (d_X13_watches_L1 (nI s) f g k j a = 1 ↔ a = 1 ∧ ∀ i t, j ≤ i → i < n → t < i → pm_n (r (49 + i)) / 2 ^ t % 2 = 1 → s / 2 ^ i % 2 = 1 ∨ s / 2 ^ t % 2 = 1) := by
  intro k
  induction k with
  | zero => intro j a h ha; exact ⟨ha, fun e => ⟨e, fun i t h1 h2 => by omega⟩, fun e => e.1⟩
  | succ k ih =>
    intro j a h ha
    simp only [d_X13_watches_L1]
    obtain ⟨w1, w2⟩ := pm_wa2 (f := f) hs sl (show j < 7 by omega) j 0 a (by omega) ha
    obtain ⟨q1, q2⟩ := ih (j + 1) _ (by omega) w1
    refine ⟨q1, fun e => ?_, fun e => ?_⟩
    · obtain ⟨e1, e2⟩ := q2.mp e
      obtain ⟨e3, e4⟩ := w2.mp e1
      refine ⟨e3, fun i t h1 h2 h3 h4 => ?_⟩
      by_cases hij : i = j
      · subst hij; exact e4 t (Nat.zero_le _) h3 h4
      · exact e2 i t (by omega) h2 h3 h4
    · exact q2.mpr ⟨w2.mpr ⟨e.1, fun t _ t2 tb => e.2 j t (Nat.le_refl _) (by omega) t2 tb⟩, fun i t h1 h2 h3 h4 => e.2 i t (by omega) h2 h3 h4⟩
theorem pm_waE {s : Nat} {f : Nat → Int32} (hs : s < 128) (sl : pm_RSl r g) (h7 : n ≤ 7) : ¬ d_X13_watches (nI s) n f g = 0 ↔ pm_cvr r n s := by
  obtain ⟨w1, w2⟩ := pm_wa1 (f := f) hs sl h7 n 0 1 (by omega) (Or.inr rfl)
  show ¬ d_X13_watches_L1 (nI s) f g n 0 1 = 0 ↔ _
  constructor
  · intro h i j hi hj hb
    rcases w1 with e | e
    · exact absurd e h
    · exact (w2.mp e).2 i j (Nat.zero_le _) hi hj hb
  · intro h e
    have := w2.mpr ⟨rfl, fun i t _ hi ht hb => h i t hi ht hb⟩
    rw [e] at this
    exact absurd this (by decide)
theorem pm_fwL (hl : pm_Il n r) (sl : pm_RSl r g) (h7 : n ≤ 7) : ∀ (k j a : Nat), j + k ≤ 2 ^ n → a ≤ 7 → pm_fw (fun j => r (49 + j)) n j = nI (min n a) → ∃ a', a' ≤ 7 ∧ a' ≤ a ∧ d_X13_fewestWatchers_L1 n f g k j (nI a) = nI a' ∧ pm_fw (fun j => r (49 + j)) n (j + k) = nI (min n a') ∧ (∀ s, j ≤ s → s < j + k → pm_cvr r n s → a' ≤ pm_pc s 7) := by
  have h128 : 2 ^ n ≤ 128 := Nat.pow_le_pow_right (by decide) h7
  intro k
  induction k with
  | zero => intro j a _ ha e; exact ⟨a, ha, Nat.le_refl _, rfl, e, fun s h1 h2 => by omega⟩
  | succ k ih =>
    intro j a h ha e
    simp only [d_X13_fewestWatchers_L1]
    have hw := pm_waE (f := upd f 6 0) (show j < 128 by omega) sl h7
    have hu := pm_fuE (show j < 128 by omega) hl h7
    by_cases hc : pm_cvr r n j
    · have h77 : ∀ a, a < 128 → pm_pc a 7 ≤ 7 := by decide +kernel
      have h77j := h77 j (by omega)
      rw [if_neg (hw.mpr hc), pm_bitsN j (by omega), pm_minN (by omega) (by omega)]
      have e2 : pm_fw (fun j => r (49 + j)) n (j + 1) = nI (min n (min a (pm_pc j 7))) := by
        rw [pm_fw, if_pos (hu.mpr hc), e, pm_bcN j (by omega), pm_minN (by omega) (by omega), Nat.min_assoc]
      obtain ⟨a', x1, x2, x3, x4, x5⟩ := ih (j + 1) (min a (pm_pc j 7)) (by omega) (by omega) e2
      refine ⟨a', x1, by omega, x3, by rw [show j + (k + 1) = j + 1 + k by omega]; exact x4, fun s h1 h2 h3 => ?_⟩
      by_cases hsj : s = j
      · subst hsj; omega
      · exact x5 s (by omega) (by omega) h3
    · rw [if_pos (Decidable.not_not.mp (fun e3 => hc (hw.mp e3)))]
      have e2 : pm_fw (fun j => r (49 + j)) n (j + 1) = nI (min n a) := by rw [pm_fw, if_neg (fun e3 => hc (hu.mp e3)), e]
      obtain ⟨a', x1, x2, x3, x4, x5⟩ := ih (j + 1) a (by omega) ha e2
      refine ⟨a', x1, x2, x3, by rw [show j + (k + 1) = j + 1 + k by omega]; exact x4, fun s h1 h2 h3 => ?_⟩
      by_cases hsj : s = j
      · subst hsj; exact absurd h3 hc
      · exact x5 s (by omega) (by omega) h3
theorem pm_a_fw (hRS : pm_RS n r g) (hl : pm_Il n r) (h7 : n ≤ 7) : pm_fw (fun j => r (49 + j)) n (2 ^ n) = (d_X13_fewestWatchers n f g).1 := by
  obtain ⟨a', x1, x2, x3, x4, x5⟩ := pm_fwL (f := f) hl hRS.2.2 h7 (2 ^ n) 0 7 (by omega) (Nat.le_refl _) (by rw [Nat.min_eq_left h7]; rfl)
  rw [Nat.zero_add] at x4
  have hp : 0 < 2 ^ n := Nat.pow_pos (by decide)
  have hf := x5 (2 ^ n - 1) (Nat.zero_le _) (by omega) (fun i j hi hj _ => Or.inl (pm_fulB n (by omega) i hi))
  rw [pm_fulC n (by omega)] at hf
  rw [x4, Nat.min_eq_right hf]
  exact x3.symm
end PWA
set_option maxHeartbeats 1000000 in
theorem pm_op_24 {l : Launch} {z : Nat} {D : va_G} {kA : Nat → ClassId} {kE : Nat → Nat} {nm : String} {tb : List ExceptionTableEntry} {mc ms : Nat} {X : pm_X} {cu su : Nat} {Q : State → Prop} {nx : Nat} {M : pm_M} {b N i Bd : Nat} {xs : Nat → Int32} (B : pm_B l z D kA kE RL code 9 ret nm tb 2048 mc ms X) (hXs : va_X b N xs X.2.2.2.1 X.2.2.2.1.heap) (hbz : b < z) (hiN : i + 4 ≤ N) (hN : N ≤ 2048) (hcu : cu + 25 ≤ mc) (hsu : su + 78 ≤ ms) (hJ : pm_J z kA kE nx M Bd)
    (next : ∀ nx' M', nx ≤ nx' → pm_J z kA kE nx' M' (Bd + 693 * 11) → pm_G l z D X (cu + 25) (su + 78) Q nx' M' 2623 [some (.ref b), some (.ref (z + 0)), some (.ref (z + 140)), some (.ref (z + 149)), some (.ref (z + 150)), some (.int (nI i)), none, none, none] []) : pm_G l z D X cu su Q nx M 1578 [some (.ref b), some (.ref (z + 0)), some (.ref (z + 140)), some (.ref (z + 149)), some (.ref (z + 150)), some (.int (nI i)), none, none, none] [] := by
  obtain ⟨hnx, g, h, L, fo, fd, hT, hTM, hL, h149, h150, hRel⟩ := hJ
  obtain ⟨⟨n, hRS, hI⟩, ⟨ho, hk8, hf5, -⟩, -⟩ := id hRel
  have hn := hI.1.1
  have h7 := hI.1.2.1
  have hgn : h.2 1 0 = nI n := hRS.1.1.trans hn
  have hsd := hI.1.2.2.2.1
  have hgd : h.2 1 2 = nI (pm_n (h.2 1 2)) := by rw [hRS.1.2.2.1]; exact hsd.1
  have hgl : pm_n (h.2 1 2) < 1024 := by rw [hRS.1.2.2.1]; exact hsd.2
  have hC := pm_nas (hl := []) (hn := []) (th := 0) (mv := (d_X13_fewestWatchers n h.1 (h.2 1)).1) (f_X12_fewestWatchers (l := l) (D := D) hT hn h7) hL (Or.inl ⟨rfl, rfl, by exact pm_a_fw (f := h.1) hRS hI.2.2 h7⟩) (fun e he => absurd he List.not_mem_nil)
  refine pm_lw_24 (Bd := Bd) (L := L) (fo := fo) (fd := fd) (N := N) (xs := xs) (dW := 20) (mcW := 2) (msW := 12) (dX := 2) (h2 := (pm_hf h ((d_X13_fewestWatchers n h.1 (h.2 1)).2))) (mv := (d_X13_fewestWatchers n h.1 (h.2 1)).1) rfl (by decide) (by decide) rfl B hcu hsu hnx hT hTM h149 h150 hC (fun n' M' hT' => ⟨_, c_X13_fewestWatchers hT'.1 hT'.2.1 hgn h7, (pm_TM_f hT'), fun a ha => by rw [pm_up_n (by omega)]⟩) (fun v g2 L2 hR => ?_) next
  obtain ⟨rfl, rfl, e6, hv⟩ := hR
  exact ⟨hv rfl, pm_Rel_le (by omega) (pm_Rel_cg hRel (fun _ _ => rfl) rfl rfl (fun j hj => pk_un (by omega)) (fun _ _ => rfl))⟩
