/-! watchers by branching: closed -/
theorem pm_lowb : ∀ a, a < 128 → ∀ s, s < 128 → nI a &&& (nI s ^^^ (-1)) = 0 ∨ ∃ t, t < 7 ∧ (nI a &&& (nI s ^^^ (-1))) &&& (-(nI a &&& (nI s ^^^ (-1)))) = nI (2 ^ t) ∧ a / 2 ^ t % 2 = 1 ∧ s / 2 ^ t % 2 = 0 := by decide +kernel
theorem pn_or2 : ∀ A, A < 128 → ∀ j, j < 7 → nI A ||| nI (2 ^ j) = nI (A ||| 2 ^ j) := by decide +kernel
theorem pn_pc1 : ∀ A, A < 128 → ∀ j, j < 7 → A / 2 ^ j % 2 = 0 → pm_pc (A ||| 2 ^ j) 7 = pm_pc A 7 + 1 := by decide +kernel
theorem pm_obit : ∀ A, A < 128 → ∀ j, j < 7 → ∀ i, i < 7 → (A ||| 2 ^ j) / 2 ^ i % 2 = if i = j then 1 else A / 2 ^ i % 2 := by decide +kernel
theorem pm_subpc : ∀ s, s < 128 → ∀ S, S < 128 → (∀ j, j < 7 → s / 2 ^ j % 2 = 1 → S / 2 ^ j % 2 = 1) → pm_pc s 7 ≤ pm_pc S 7 := by decide +kernel
theorem pm_fulD : ∀ n, n < 8 → ∀ s, s < 128 → s < 2 ^ n → pm_pc s 7 = n → ∀ i, i < n → s / 2 ^ i % 2 = 1 := by decide +kernel
theorem pn_pc7 : ∀ a, a < 128 → pm_pc a 7 ≤ 7 := by decide +kernel
section PFF
variable {n : Nat} {r g f : Nat → Int32}
def pn_sub (s S : Nat) : Prop := ∀ j, j < 7 → s / 2 ^ j % 2 = 1 → S / 2 ^ j % 2 = 1
theorem pn_sub1 {s S i : Nat} (hs : s < 128) (hi : i < 7) (h : pn_sub s S) (hb : S / 2 ^ i % 2 = 1) : pn_sub (s ||| 2 ^ i) S := by
  intro j hj h1
  rw [pm_obit s hs i hi j hj] at h1
  by_cases e : j = i
  · subst e; exact hb
  · rw [if_neg e] at h1; exact h j hj h1
theorem pn_sub2 {s S i : Nat} (hs : s < 128) (hi : i < 7) (h : pn_sub (s ||| 2 ^ i) S) : pn_sub s S := by
  intro j hj h1
  refine h j hj ?_
  rw [pm_obit s hs i hi j hj]
  split
  · rfl
  · exact h1
theorem pm_fuS {s : Nat} (g : Nat → Int32) (hs : s < 128) : ∀ (k j : Nat), j + k ≤ 7 → pm_fu g (nI s) j k = -1 ∨ ∃ i, i < 7 ∧ pm_fu g (nI s) j k = nI i ∧ s / 2 ^ i % 2 = 0 ∧ ¬ g i &&& (nI s ^^^ (-1)) = 0 := by
  intro k
  induction k with
  | zero => intro j _; exact Or.inl rfl
  | succ k ih =>
    intro j h
    unfold pm_fu
    rw [pm_bt2 s hs j (by omega)]
    rcases Nat.mod_two_eq_zero_or_one (s / 2 ^ j) with hb | hb
    · rw [hb, if_pos (show nI 0 = 0 from rfl)]
      by_cases hc : g j &&& (nI s ^^^ (-1)) = 0
      · rw [if_pos hc]; exact ih (j + 1) (by omega)
      · rw [if_neg hc]; exact Or.inr ⟨j, by omega, rfl, hb, hc⟩
    · rw [hb, if_neg (show ¬ nI 1 = 0 by decide)]; exact ih (j + 1) (by omega)
theorem pm_ffC (hl : pm_Il n r) (h7 : n ≤ 7) : ∀ (k dep s : Nat), dep + k = n → s < 2 ^ n → pm_pc s 7 = dep → ∃ m, m ≤ 7 ∧ pm_ff (fun j => r (49 + j)) k (nI s) dep = nI m ∧ (∃ S, S < 2 ^ n ∧ pm_cvr r n S ∧ pn_sub s S ∧ pm_pc S 7 = m) ∧ (∀ S, S < 2 ^ n → pm_cvr r n S → pn_sub s S → m ≤ pm_pc S 7) := by
  have h128 : 2 ^ n ≤ 128 := Nat.pow_le_pow_right (by decide) h7
  intro k
  induction k with
  | zero =>
    intro dep s h hs hp
    obtain rfl : dep = n := by omega
    refine ⟨dep, h7, rfl, ⟨s, hs, fun i j hi _ _ => Or.inl (pm_fulD dep (by omega) s (by omega) hs hp i hi), fun j _ e => e, hp⟩, fun S hS _ hsub => ?_⟩
    rw [← hp]; exact pm_subpc s (by omega) S (by omega) hsub
  | succ k ih =>
    intro dep s h hs hp
    have hs7 : s < 128 := by omega
    unfold pm_ff
    by_cases hu : pm_fu (fun j => r (49 + j)) (nI s) 0 7 < 0
    · rw [if_pos hu]
      refine ⟨dep, by omega, rfl, ⟨s, hs, (pm_fuE hs7 hl h7).mp hu, fun j _ e => e, hp⟩, fun S hS _ hsub => ?_⟩
      rw [← hp]; exact pm_subpc s hs7 S (by omega) hsub
    · rw [if_neg hu]
      rcases pm_fuS (fun j => r (49 + j)) hs7 7 0 (by omega) with e | ⟨i, hi, e, hb, hne⟩
      · rw [e] at hu; exact absurd (by decide) hu
      · have hcl : (nI i).toNatClampNeg = i := pm_n_nI (by omega)
        have h49 := hl.1 i hi
        simp only [e, hcl]
        rw [h49.1] at hne ⊢
        rcases pm_lowb _ h49.2 s hs7 with e0 | ⟨t, ht, e1, e2, e3⟩
        · exact absurd e0 hne
        · have hn := hl.2.2.2.1 i t hi ht e2
          have hti : ¬ t = i := by
            rintro rfl
            rw [hl.2.2.1 t ht] at e2
            exact absurd e2 (by decide)
          rw [e1, pm_orb s hs7 i hi, pn_or2 s hs7 t ht]
          have hi2 : s ||| 2 ^ i < 2 ^ n := Nat.or_lt_two_pow hs (Nat.pow_lt_pow_right (by decide) hn.1)
          have ht2 : s ||| 2 ^ t < 2 ^ n := Nat.or_lt_two_pow hs (Nat.pow_lt_pow_right (by decide) hn.2)
          obtain ⟨m1, a1, a2, ⟨S1, b1, b2, b3, b4⟩, a4⟩ := ih (dep + 1) _ (by omega) hi2 (by rw [pn_pc1 s hs7 i hi hb, hp])
          obtain ⟨m2, c1, c2, ⟨S2, d1, d2, d3, d4⟩, c4⟩ := ih (dep + 1) _ (by omega) ht2 (by rw [pn_pc1 s hs7 t ht e3, hp])
          rw [a2, c2, pm_minN (by omega) (by omega)]
          refine ⟨min m1 m2, by omega, rfl, ?_, fun S hS hc hsub => ?_⟩
          · by_cases hm : m1 ≤ m2
            · rw [Nat.min_eq_left hm]; exact ⟨S1, b1, b2, pn_sub2 hs7 hi b3, b4⟩
            · rw [Nat.min_eq_right (by omega)]; exact ⟨S2, d1, d2, pn_sub2 hs7 ht d3, d4⟩
          · have hit : S / 2 ^ i % 2 = 1 ∨ S / 2 ^ t % 2 = 1 := by
              by_cases hlt : t < i
              · exact hc i t hn.1 hlt e2
              · rw [hl.2.1 i t hi ht] at e2
                exact (hc t i hn.2 (by omega) e2).symm
            rcases hit with x | x
            · have := a4 S hS hc (pn_sub1 hs7 hi hsub x); omega
            · have := c4 S hS hc (pn_sub1 hs7 ht hsub x); omega
theorem pm_fwA {f : Nat → Int32} (hl : pm_Il n r) (sl : pm_RSl r g) (h7 : n ≤ 7) : ∀ (k j a : Nat), j + k ≤ 2 ^ n → a ≤ 7 → ∃ a', a' ≤ 7 ∧ a' ≤ a ∧ d_X13_fewestWatchers_L1 n f g k j (nI a) = nI a' ∧ (a' = a ∨ ∃ s, s < 2 ^ n ∧ pm_cvr r n s ∧ pm_pc s 7 = a') ∧ (∀ s, j ≤ s → s < j + k → pm_cvr r n s → a' ≤ pm_pc s 7) := by
  have h128 : 2 ^ n ≤ 128 := Nat.pow_le_pow_right (by decide) h7
  intro k
  induction k with
  | zero => intro j a _ ha; exact ⟨a, ha, Nat.le_refl _, rfl, Or.inl rfl, fun s h1 h2 => by omega⟩
  | succ k ih =>
    intro j a h ha
    simp only [d_X13_fewestWatchers_L1]
    have hw := pm_waE (f := upd f 6 0) (show j < 128 by omega) sl h7
    by_cases hc : pm_cvr r n j
    · have h77j := pn_pc7 j (by omega)
      rw [if_neg (hw.mpr hc), pm_bitsN j (by omega), pm_minN (by omega) (by omega)]
      obtain ⟨a', x1, x2, x3, x4, x5⟩ := ih (j + 1) (min a (pm_pc j 7)) (by omega) (by omega)
      refine ⟨a', x1, by omega, x3, ?_, fun s h1 h2 h3 => ?_⟩
      · rcases x4 with e | e
        · by_cases hm : a ≤ pm_pc j 7
          · exact Or.inl (by omega)
          · exact Or.inr ⟨j, by omega, hc, by omega⟩
        · exact Or.inr e
      · by_cases hsj : s = j
        · subst hsj; omega
        · exact x5 s (by omega) (by omega) h3
    · rw [if_pos (Decidable.not_not.mp (fun e3 => hc (hw.mp e3)))]
      obtain ⟨a', x1, x2, x3, x4, x5⟩ := ih (j + 1) a (by omega) ha
      refine ⟨a', x1, x2, x3, x4, fun s h1 h2 h3 => ?_⟩
      by_cases hsj : s = j
      · subst hsj; exact absurd h3 hc
      · exact x5 s (by omega) (by omega) h3
theorem pm_a_ff (hRS : pm_RS n r g) (hl : pm_Il n r) (h7 : n ≤ 7) : pm_ff (fun j => r (49 + j)) n 0 0 = (d_X13_fewestWatchersByBranching n f g).1 := by
  have h128 : 2 ^ n ≤ 128 := Nat.pow_le_pow_right (by decide) h7
  obtain ⟨a', x1, x2, x3, x4, x5⟩ := pm_fwA (f := f) hl hRS.2.2 h7 (2 ^ n) 0 7 (by omega) (Nat.le_refl _)
  have hp : 0 < 2 ^ n := Nat.pow_pos (by decide)
  obtain ⟨m, y1, y2, ⟨S, z1, z2, z3, z4⟩, y4⟩ := pm_ffC hl h7 n 0 0 (by omega) hp (by decide)
  have hs0 : ∀ S, pn_sub 0 S := fun S j _ e => by rw [Nat.zero_div] at e; exact absurd e (by decide)
  have hfull : pm_cvr r n (2 ^ n - 1) := fun i j hi hj _ => Or.inl (pm_fulB n (by omega) i hi)
  have hx := x5 S (Nat.zero_le _) (by omega) z2
  have hm : m = a' := by
    rcases x4 with e | ⟨s, s1, s2, s3⟩
    · have hf := x5 (2 ^ n - 1) (Nat.zero_le _) (by omega) hfull
      rw [pm_fulC n (by omega)] at hf
      have := pn_pc7 S (by omega)
      omega
    · have := y4 s s1 s2 (hs0 s)
      omega
  have e0 : nI 0 = (0 : Int32) := rfl
  rw [e0] at y2
  rw [y2, hm]
  exact x3.symm
end PFF

set_option maxHeartbeats 1000000 in
theorem pm_op_25 {l : Launch} {z : Nat} {D : va_G} {kA : Nat → ClassId} {kE : Nat → Nat} {nm : String} {tb : List ExceptionTableEntry} {mc ms : Nat} {X : pm_X} {cu su : Nat} {Q : State → Prop} {nx : Nat} {M : pm_M} {b N i Bd : Nat} {xs : Nat → Int32} (B : pm_B l z D kA kE RL code 9 ret nm tb 2048 mc ms X) (hXs : va_X b N xs X.2.2.2.1 X.2.2.2.1.heap) (hbz : b < z) (hiN : i + 4 ≤ N) (hN : N ≤ 2048) (hcu : cu + 25 ≤ mc) (hsu : su + 78 ≤ ms) (hJ : pm_J z kA kE nx M Bd)
    (next : ∀ nx' M', nx ≤ nx' → pm_J z kA kE nx' M' (Bd + 693 * 11) → pm_G l z D X (cu + 25) (su + 78) Q nx' M' 2623 [some (.ref b), some (.ref (z + 0)), some (.ref (z + 140)), some (.ref (z + 149)), some (.ref (z + 150)), some (.int (nI i)), none, none, none] []) : pm_G l z D X cu su Q nx M 1591 [some (.ref b), some (.ref (z + 0)), some (.ref (z + 140)), some (.ref (z + 149)), some (.ref (z + 150)), some (.int (nI i)), none, none, none] [] := by
  obtain ⟨hnx, g, h, L, fo, fd, hT, hTM, hL, h149, h150, hRel⟩ := hJ
  obtain ⟨⟨n, hRS, hI⟩, ⟨ho, hk8, hf5, -⟩, -⟩ := id hRel
  have hn := hI.1.1
  have h7 := hI.1.2.1
  have hgn : h.2 1 0 = nI n := hRS.1.1.trans hn
  have hsd := hI.1.2.2.2.1
  have hgd : h.2 1 2 = nI (pm_n (h.2 1 2)) := by rw [hRS.1.2.2.1]; exact hsd.1
  have hgl : pm_n (h.2 1 2) < 1024 := by rw [hRS.1.2.2.1]; exact hsd.2
  have hC := pm_nas (hl := []) (hn := []) (th := 0) (mv := (d_X13_fewestWatchersByBranching n h.1 (h.2 1)).1) (f_X12_fewestWatchersByBranching (l := l) (D := D) hT hn h7) hL (Or.inl ⟨rfl, rfl, by exact pm_a_ff (f := h.1) hRS hI.2.2 h7⟩) (fun e he => absurd he List.not_mem_nil)
  refine pm_lw_25 (Bd := Bd) (L := L) (fo := fo) (fd := fd) (N := N) (xs := xs) (dW := 20) (mcW := 2) (msW := 12) (dX := 3) (h2 := (pm_hf h ((d_X13_fewestWatchersByBranching n h.1 (h.2 1)).2))) (mv := (d_X13_fewestWatchersByBranching n h.1 (h.2 1)).1) rfl (by decide) (by decide) rfl B hcu hsu hnx hT hTM h149 h150 hC (fun n' M' hT' => ⟨_, c_X13_fewestWatchersByBranching hT'.1 hT'.2.1 hgn h7, (pm_TM_f hT'), fun a ha => by rw [pm_up_n (by omega)]⟩) (fun v g2 L2 hR => ?_) next
  obtain ⟨rfl, rfl, e6, hv⟩ := hR
  exact ⟨hv rfl, pm_Rel_le (by omega) (pm_Rel_cg hRel (fun _ _ => rfl) rfl rfl (fun j hj => pk_un (by omega)) (fun _ _ => rfl))⟩
