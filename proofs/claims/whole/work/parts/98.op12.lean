/-! ranks: closed -/
def pm_ax (v s : Nat → Nat) (j i : Nat) : Prop := v i < v j ∨ (v i = v j ∧ (s i < s j ∨ (s i = s j ∧ j < i)))
def pm_ai (v s : Nat → Nat) (i j : Nat) : Nat := if v i < v j ∨ (v i = v j ∧ (s i < s j ∨ (s i = s j ∧ j < i))) then 1 else 0
theorem pm_best {v s : Nat → Nat} {Pp : Nat → Prop} : ∀ j, (∃ i, i < j ∧ Pp i) → ∃ m, m < j ∧ Pp m ∧ ∀ i, i < j → Pp i → i ≠ m → pm_ax v s m i := by
  intro j
  induction j with
  | zero => intro ⟨i, hi, _⟩; omega
  | succ j ih =>
    intro ⟨i, hi, hp⟩
    by_cases hex : ∃ i, i < j ∧ Pp i
    · obtain ⟨m, hm, h1, h2⟩ := ih hex
      by_cases hj : Pp j
      · by_cases hc : pm_ax v s m j
        · refine ⟨m, by omega, h1, fun t ht hpt htm => ?_⟩
          by_cases htj : t = j
          · subst htj; exact hc
          · exact h2 t (by omega) hpt htm
        · refine ⟨j, by omega, hj, fun t ht hpt htj => ?_⟩
          have hjm : pm_ax v s j m := by
            unfold pm_ax at hc ⊢
            omega
          by_cases htm : t = m
          · subst htm; exact hjm
          · have h3 := h2 t (by omega) hpt htm
            unfold pm_ax at hjm h3 ⊢
            omega
      · refine ⟨m, by omega, h1, fun t ht hpt htm => ?_⟩
        by_cases htj : t = j
        · subst htj; exact absurd hpt hj
        · exact h2 t (by omega) hpt htm
    · have hij : i = j := by
        apply Classical.byContradiction
        intro hne
        exact hex ⟨i, by omega, hp⟩
      subst hij
      exact ⟨i, by omega, hp, fun t ht hpt hti => absurd ⟨t, by omega, hpt⟩ hex⟩
theorem pm_sf1 : ∀ n, pm_sf (fun _ => 1) n 0 = n := by
  intro n
  induction n with
  | zero => rfl
  | succ n ih => rw [pm_sf_top, ih]
theorem pm_sf_lt {F G : Nat → Nat} {t : Nat} : ∀ n, (∀ i, i < n → F i ≤ G i) → t < n → F t < G t → pm_sf F n 0 < pm_sf G n 0 := by
  intro n
  induction n with
  | zero => intro _ h; omega
  | succ n ih =>
    intro h ht hs
    rw [pm_sf_top, pm_sf_top, Nat.zero_add]
    have h1 := h n (by omega)
    by_cases he : t = n
    · subst he
      have h2 := pm_sf_le t 0 (fun i _ hi => h i (by omega))
      omega
    · have h2 := ih (fun i hi => h i (by omega)) (by omega) hs
      omega
theorem pm_rank {v s : Nat → Nat} {n : Nat} (h7 : n ≤ 7) : ∀ p, p ≤ n → ∃ D, D < 128 ∧ pm_pc D n = p ∧ ∀ i m, i < n → m < n → D / 2 ^ i % 2 = 1 → D / 2 ^ m % 2 = 0 → pm_ax v s i m := by
  have hpc : ∀ D, D < 128 → ∀ m, m < 7 → D / 2 ^ m % 2 = 0 → ∀ n, n < 8 → m < n → pm_pc (D ||| 2 ^ m) n = pm_pc D n + 1 := by decide +kernel
  have p0 : ∀ n, n < 8 → pm_pc 0 n = 0 := by decide +kernel
  intro p
  induction p with
  | zero => intro _; exact ⟨0, by decide, p0 n (by omega), fun i m _ _ h => by rw [Nat.zero_div] at h; exact absurd h (by decide)⟩
  | succ p ih =>
    intro hp
    obtain ⟨D, d1, d2, d3⟩ := ih (by omega)
    have hex : ∃ i, i < n ∧ D / 2 ^ i % 2 = 0 := by
      apply Classical.byContradiction
      intro hno
      have h1 := pm_pc_sf (F := fun _ => 1) (D := D) n (fun i hi => by
        have : ¬ D / 2 ^ i % 2 = 0 := fun e => hno ⟨i, hi, e⟩
        show 1 ≤ _
        omega)
      rw [pm_sf1] at h1
      omega
    obtain ⟨m, m1, m2, m3⟩ := pm_best (v := v) (s := s) (Pp := fun i => D / 2 ^ i % 2 = 0) n hex
    obtain ⟨o1, o2⟩ := pm_or2 D d1 m (by omega)
    refine ⟨D ||| 2 ^ m, o1, by rw [hpc D d1 m (by omega) m2 n (by omega) m1, d2], fun i t hi ht hb ht0 => ?_⟩
    rw [o2 i (by omega)] at hb
    rw [o2 t (by omega)] at ht0
    have htm : t ≠ m := fun e => by rw [if_pos e] at ht0; exact absurd ht0 (by decide)
    rw [if_neg htm] at ht0
    by_cases him : i = m
    · subst him; exact m3 t ht ht0 htm
    · rw [if_neg him] at hb; exact d3 i t hi ht hb ht0
theorem pm_rkX {v s : Nat → Nat} {n p : Nat} (h7 : n ≤ 7) (hp : p < n) : ∃ m, m < n ∧ pm_sf (pm_ai v s m) n 0 = p := by
  obtain ⟨D, d1, d2, d3⟩ := pm_rank (v := v) (s := s) h7 p (by omega)
  have hex : ∃ i, i < n ∧ D / 2 ^ i % 2 = 0 := by
    apply Classical.byContradiction
    intro hno
    have h1 := pm_pc_sf (F := fun _ => 1) (D := D) n (fun i hi => by
      have : ¬ D / 2 ^ i % 2 = 0 := fun e => hno ⟨i, hi, e⟩
      show 1 ≤ _
      omega)
    rw [pm_sf1] at h1
    omega
  obtain ⟨m, m1, m2, m3⟩ := pm_best (v := v) (s := s) (Pp := fun i => D / 2 ^ i % 2 = 0) n hex
  refine ⟨m, m1, ?_⟩
  have a1 := pm_pc_sf (F := pm_ai v s m) (D := D) n (fun t ht => by
    by_cases hc : pm_ax v s t m
    · have hb : ¬ D / 2 ^ t % 2 = 0 := fun e => by
        have htm : t ≠ m := fun e2 => by
          subst e2
          unfold pm_ax at hc
          omega
        have h2 := m3 t ht e htm
        unfold pm_ax at hc h2
        omega
      rw [show pm_ai v s m t = 1 from if_pos hc]
      omega
    · rw [show pm_ai v s m t = 0 from if_neg hc]
      exact Nat.zero_le _)
  have a2 := pm_sf_pc (F := pm_ai v s m) (D := D) n (fun t ht => by
    by_cases hb : D / 2 ^ t % 2 = 1
    · rw [show pm_ai v s m t = 1 from if_pos (d3 t m ht m1 hb m2), hb]
      exact Nat.le_refl _
    · omega)
  omega
theorem pm_rkI {v s : Nat → Nat} {n i m : Nat} (hi : i < n) (hm : m < n) (hc : pm_ax v s i m) : pm_sf (pm_ai v s i) n 0 < pm_sf (pm_ai v s m) n 0 := by
  refine pm_sf_lt (t := i) n (fun t ht => ?_) hi ?_
  · by_cases h1 : pm_ax v s t i
    · have h2 : pm_ax v s t m := by
        unfold pm_ax at hc h1 ⊢
        omega
      rw [show pm_ai v s i t = 1 from if_pos h1, show pm_ai v s m t = 1 from if_pos h2]
      exact Nat.le_refl _
    · rw [show pm_ai v s i t = 0 from if_neg h1]
      exact Nat.zero_le _
  · rw [show pm_ai v s i i = 0 from if_neg (by omega), show pm_ai v s m i = 1 from if_pos hc]
    decide
theorem pm_rkU {v s : Nat → Nat} {n i m : Nat} (hi : i < n) (hm : m < n) (e : pm_sf (pm_ai v s i) n 0 = pm_sf (pm_ai v s m) n 0) : i = m := by
  apply Classical.byContradiction
  intro hne
  by_cases hc : pm_ax v s i m
  · have := pm_rkI hi hm hc; omega
  · have h2 : pm_ax v s m i := by
      unfold pm_ax at hc ⊢
      omega
    have := pm_rkI hm hi h2; omega
section PRK
variable {n : Nat} {r g f : Nat → Int32} {x : Int32}
def pm_rv (r : Nat → Int32) (i : Nat) : Nat := pm_n (pm_max 0 (r (7 + 6 * i + 3) - r (7 + 6 * i + 2)))
def pm_rz (r : Nat → Int32) (i : Nat) : Nat := pm_n (r (7 + 6 * i + 3))
theorem pm_ahN (hRS : pm_RS n r g) (hw : ∀ i, i < n → pm_rw r i) (h7 : n ≤ 7) {i : Nat} (hi : i < n) : ∀ (k j A : Nat), j + k = n → d_X10_membersAheadOf_L1 i n r k j (nI A) = nI (A + pm_sf (pm_ai (pm_rv r) (pm_rz r) i) k j) := by
  obtain ⟨vi, si, a1, a2, a3, a4, a5, a6⟩ := pm_ovr hRS hw hi
  have ev : pm_rv r i = vi := by unfold pm_rv; rw [a3, pm_n_nI (by omega)]
  have es : pm_rz r i = si := by unfold pm_rz; rw [a5, pm_n_nI (by omega)]
  intro k
  induction k with
  | zero => intro j A _; rfl
  | succ k ih =>
    intro j A h
    obtain ⟨vj, sj, b1, b2, b3, b4, b5, b6⟩ := pm_ovr hRS hw (show j < n by omega)
    have ev2 : pm_rv r j = vj := by unfold pm_rv; rw [b3, pm_n_nI (by omega)]
    have es2 : pm_rz r j = sj := by unfold pm_rz; rw [b5, pm_n_nI (by omega)]
    have e : d_X10_isAhead j i n r = nI (pm_ai (pm_rv r) (pm_rz r) i j) := by
      unfold d_X10_isAhead pm_ai
      rw [a3, b3, a5, b5, ev, es, ev2, es2]
      simp only [nI_eq (show vj < 2 ^ 31 by omega) (show vi < 2 ^ 31 by omega), nI_eq (show sj < 2 ^ 31 by omega) (show si < 2 ^ 31 by omega), nI_leI (show i < 2 ^ 31 by omega) (show j < 2 ^ 31 by omega), nI_leI (show sj < 2 ^ 31 by omega) (show si < 2 ^ 31 by omega), nI_leI (show vj < 2 ^ 31 by omega) (show vi < 2 ^ 31 by omega)]
      (repeat' split) <;> first | rfl | (exfalso; omega)
    simp only [d_X10_membersAheadOf_L1, pm_sf, e]
    have hle : pm_ai (pm_rv r) (pm_rz r) i j ≤ 1 := by unfold pm_ai; split <;> omega
    by_cases hz : pm_ai (pm_rv r) (pm_rz r) i j = 0
    · rw [hz, if_pos (show nI 0 = 0 from rfl), Int32.add_zero, ih _ _ (by omega), Nat.zero_add]
    · rw [show pm_ai (pm_rv r) (pm_rz r) i j = 1 by omega, if_neg (show ¬ nI 1 = 0 by decide), nI_1, ih _ _ (by omega), Nat.add_assoc]
theorem pm_ahE (hRS : pm_RS n r g) (hw : ∀ i, i < n → pm_rw r i) (h7 : n ≤ 7) {i : Nat} (hi : i < n) : d_X10_membersAheadOf i n r = nI (pm_sf (pm_ai (pm_rv r) (pm_rz r) i) n 0) ∧ pm_sf (pm_ai (pm_rv r) (pm_rz r) i) n 0 < n := by
  have h := pm_ahN hRS hw h7 hi n 0 0 (by omega)
  rw [Nat.zero_add] at h
  refine ⟨h, ?_⟩
  have h2 := pm_sf_lt (F := pm_ai (pm_rv r) (pm_rz r) i) (G := fun _ => 1) (t := i) n (fun t _ => by
    show _ ≤ 1
    unfold pm_ai
    split <;> omega) hi (by
    show _ < 1
    rw [show pm_ai (pm_rv r) (pm_rz r) i i = 0 from if_neg (by omega)]
    decide)
  rw [pm_sf1] at h2
  exact h2
theorem pm_exN {K : Nat × Int32} (h : ∀ i, i < n → ¬ d_X10_membersAheadOf i n r = x) : ∀ (k j : Nat), j + k = n → d_X12_memberByExcess_L1 x n r K k j = K := by
  intro k
  induction k with
  | zero => intro j _; rfl
  | succ k ih =>
    intro j hj
    simp only [d_X12_memberByExcess_L1]
    rw [if_neg (h j (by omega))]
    exact ih (j + 1) (by omega)
theorem pm_exY {K : Nat × Int32} {m : Nat} (h : ∀ i, i < n → (d_X10_membersAheadOf i n r = x ↔ i = m)) : ∀ (k j : Nat), j + k = n → j ≤ m → m < n → d_X12_memberByExcess_L1 x n r K k j = (0, nI m) := by
  intro k
  induction k with
  | zero => intro j _ _ _; omega
  | succ k ih =>
    intro j hj hjm hm
    simp only [d_X12_memberByExcess_L1]
    by_cases hc : j = m
    · rw [if_pos ((h j (by omega)).mpr hc), hc]
    · rw [if_neg (fun e => hc ((h j (by omega)).mp e))]
      exact ih (j + 1) (by omega) (by omega) hm
theorem pm_exM {m : Nat} (hin : ¬ pm_in x 0 (nI n - 1) = 0) (h : ∀ i, i < n → (d_X13_memberByExcess_L2 g i n 0 0 = x ↔ i = m)) : ∀ (k j : Nat) (a : Int32), j + k = n → d_X13_memberByExcess_L1 x n g k j a = if j ≤ m ∧ m < n then nI m else a := by
  intro k
  induction k with
  | zero => intro j a _; rw [if_neg (by omega)]; rfl
  | succ k ih =>
    intro j a hj
    simp only [d_X13_memberByExcess_L1]
    rw [if_neg hin]
    by_cases hc : j = m
    · rw [if_pos ((h j (by omega)).mpr hc), ih (j + 1) _ (by omega), if_neg (by omega), if_pos (by omega), hc]
    · rw [if_neg (fun e => hc ((h j (by omega)).mp e)), ih (j + 1) _ (by omega)]
      by_cases h2 : j + 1 ≤ m ∧ m < n
      · rw [if_pos h2, if_pos (by omega)]
      · rw [if_neg h2, if_neg (by omega)]
theorem pm_a_memberByExcess {to : Nat → Int32} (hRS : pm_RS n r g) (hw : ∀ i, i < n → pm_rw r i) (h7 : n ≤ 7) : pm_AS (d_X12_memberByExcess x n r to).1 (d_X12_memberByExcess x n r to).2 ((d_X13_memberByExcess x n f g).2 6) (d_X13_memberByExcess x n f g).1 [(4, 1)] := by
  unfold d_X12_memberByExcess d_X13_memberByExcess
  by_cases hm : d_X10_hasMember x n r = 0
  · rw [pm_hm (r := r) h7, hm, pm_exN (fun i hi e => ?_) n 0 (by omega)]
    · exact Or.inr ⟨(4, 1), List.mem_cons_self, rfl, (by dsimp only; rw [pk_us] <;> rfl)⟩
    · obtain ⟨e1, e2⟩ := pm_ahE hRS hw h7 hi
      rw [e1] at e
      subst e
      unfold d_X10_hasMember at hm
      rw [if_neg (nI_pos (by omega)), if_neg (nI_ge e2 (by omega))] at hm
      exact absurd hm (by decide)
  · have hin : ¬ pm_in x 0 (nI n - 1) = 0 := by rw [pm_hm (r := r) h7]; exact hm
    obtain ⟨p, hp, rfl⟩ := pm_hmx h7 hm
    obtain ⟨m, hmn, em⟩ := pm_rkX (v := pm_rv r) (s := pm_rz r) h7 hp
    have key : ∀ i, i < n → (d_X10_membersAheadOf i n r = nI p ↔ i = m) := by
      intro i hi
      obtain ⟨e1, e2⟩ := pm_ahE hRS hw h7 hi
      rw [e1, nI_eq (by omega) (by omega)]
      constructor
      · intro e
        exact pm_rkU hi hmn (e.trans em.symm)
      · intro e
        rw [e]
        exact em
    have key2 : ∀ i, i < n → (d_X13_memberByExcess_L2 g i n 0 0 = nI p ↔ i = m) := by
      intro i hi
      rw [pm_rkL hRS hw h7 hi n 0 0 (by omega)]
      exact key i hi
    rw [pm_exY key n 0 (by omega) (Nat.zero_le _) hmn, pm_exM hin key2 n 0 0 (by omega), if_pos ⟨Nat.zero_le _, hmn⟩, pm_hm (r := r) h7]
    exact Or.inl ⟨rfl, (by dsimp only; rw [pk_us] <;> exact if_neg hm), rfl⟩
theorem pm_fr_memberByExcess {j : Nat} (hj : j ≠ 6) : (d_X13_memberByExcess x n f g).2 j = f j := by
  unfold d_X13_memberByExcess
  exact pk_un hj
end PRK
set_option maxHeartbeats 1000000 in
theorem pm_op_8 {l : Launch} {z : Nat} {D : va_G} {kA : Nat → ClassId} {kE : Nat → Nat} {nm : String} {tb : List ExceptionTableEntry} {mc ms : Nat} {X : pm_X} {cu su : Nat} {Q : State → Prop} {nx : Nat} {M : pm_M} {b N i Bd : Nat} {xs : Nat → Int32} (B : pm_B l z D kA kE RL code 9 ret nm tb 2048 mc ms X) (hXs : va_X b N xs X.2.2.2.1 X.2.2.2.1.heap) (hbz : b < z) (hiN : i + 4 ≤ N) (hN : N ≤ 2048) (hcu : cu + 25 ≤ mc) (hsu : su + 78 ≤ ms) (hJ : pm_J z kA kE nx M Bd)
    (next : ∀ nx' M', nx ≤ nx' → pm_J z kA kE nx' M' (Bd + 693 * 11) → pm_G l z D X (cu + 25) (su + 78) Q nx' M' 2623 [some (.ref b), some (.ref (z + 0)), some (.ref (z + 140)), some (.ref (z + 149)), some (.ref (z + 150)), some (.int (nI i)), none, none, none] []) : pm_G l z D X cu su Q nx M 689 [some (.ref b), some (.ref (z + 0)), some (.ref (z + 140)), some (.ref (z + 149)), some (.ref (z + 150)), some (.int (nI i)), none, none, none] [] := by
  obtain ⟨hnx, g, h, L, fo, fd, hT, hTM, hL, h149, h150, hRel⟩ := hJ
  obtain ⟨⟨n, hRS, hI⟩, ⟨ho, hk8, hf5, -⟩, -⟩ := id hRel
  have hn := hI.1.1
  have h7 := hI.1.2.1
  have hgn : h.2 1 0 = nI n := hRS.1.1.trans hn
  have hsd := hI.1.2.2.2.1
  have hgd : h.2 1 2 = nI (pm_n (h.2 1 2)) := by rw [hRS.1.2.2.1]; exact hsd.1
  have hgl : pm_n (h.2 1 2) < 1024 := by rw [hRS.1.2.2.1]; exact hsd.2
  obtain ⟨-, -, hRs, hRt, hRf, hRl, hR9, hR10, hR11, hR1, hR2⟩ := id hRel
  have hC := pm_nas (hl := [("java/util/NoSuchElementException", 1)]) (hn := [(4, 1)]) (f_X12_memberByExcess (l := l) (D := D) (x := xs (i + 1)) hT hn h7) hL (pm_a_memberByExcess (f := h.1) hRS hI.2.1 h7) (by decide +kernel)
  refine pm_lw_8 (Bd := Bd) (L := L) (fo := fo) (fd := fd) (N := N) (xs := xs) (dW := 21) (mcW := 2) (msW := 12) (dX := 2) (h2 := (pm_hf h ((d_X13_memberByExcess (xs (i + 1)) n h.1 (h.2 1)).2))) (mv := (d_X13_memberByExcess (xs (i + 1)) n h.1 (h.2 1)).1) rfl (by decide) (by decide) rfl B hXs hbz hiN hN hcu hsu hnx hT h150
    (pm_CwPost (c_L_memberByExcess (w := 149) (N := 1) (f := fo) (by decide) (by decide) hT.1 hC (fun v n' M1 hp => ⟨pm_clV hp, (hp.1 149 (by decide) (by omega)).trans h149⟩) (fun E n' M1 hp => by
      obtain ⟨e, he, rfl⟩ := pm_clE hp
      simp only [List.mem_cons, List.not_mem_nil, or_false] at he
      rw [he])) (fun o n' M' hp => pm_wrN hTM h149 hnx (by decide +kernel) (by decide +kernel) hp))
    (fun n' M' hT' => ⟨_, c_X13_memberByExcess hT'.1 hT'.2.1 hgn h7, (pm_TM_f hT'), fun a ha => by rw [pm_up_n (by omega)]⟩) (fun kc v g2 L2 hR => ?_) next
  obtain ⟨rfl, rfl, e6, hv⟩ := hR
  exact ⟨e6.symm, hv, pm_Rel_le (by omega) (pm_Rel_cg hRel (fun _ _ => rfl) rfl rfl (fun j hj => pm_fr_memberByExcess (g := h.2 1) (by omega)) (fun _ _ => rfl))⟩
