/-! texts: class and reference, command by command -/
section PPO
variable {t : Nat} {tx gt : Nat → Int32}
theorem pp_c_ge {A : Nat → Int32} {q c : Nat} (hc : c < 11) : q ≤ (pp_c A q c).2.1 := by
  have key : ∀ (w sg : List Nat) (k1 k2 : Nat), q ≤ (pp_cmd A w k1 sg k2 q).2.1 := fun w sg k1 k2 => by
    have := pp_cmd_ge (A := A) (w := w) (sg := sg) (k1 := k1) (k2 := k2) (q := q)
    omega
  rcases (show c = 0 ∨ c = 1 ∨ c = 2 ∨ c = 3 ∨ c = 4 ∨ c = 5 ∨ c = 6 ∨ c = 7 ∨ c = 8 ∨ c = 9 ∨ c = 10 by omega) with rfl | rfl | rfl | rfl | rfl | rfl | rfl | rfl | rfl | rfl | rfl <;> exact key _ _ _ _
theorem pp_c_ok {A : Nat → Int32} {q c : Nat} (hc : c < 11) (h : (pp_c A q c).1 = 1) : q + 5 ≤ (pp_c A q c).2.1 := by
  have key : ∀ (w sg : List Nat) (k1 k2 : Nat), 5 ≤ w.length + (if k1 = 0 then 0 else 1) → (pp_cmd A w k1 sg k2 q).1 = 1 → q + 5 ≤ (pp_cmd A w k1 sg k2 q).2.1 := fun w sg k1 k2 h1 h2 => by
    have := pp_cmd_ok h2
    omega
  rcases (show c = 0 ∨ c = 1 ∨ c = 2 ∨ c = 3 ∨ c = 4 ∨ c = 5 ∨ c = 6 ∨ c = 7 ∨ c = 8 ∨ c = 9 ∨ c = 10 by omega) with rfl | rfl | rfl | rfl | rfl | rfl | rfl | rfl | rfl | rfl | rfl <;> exact key _ _ _ _ (by decide) h
theorem pp_one {j cm q : Nat} {fs sd sc cc f gc : Nat → Int32} (hA : ∀ i, i < t → gt i = tx i) (ht : t ≤ 60) (h6 : sc 6 = nI q) (hq : q ≤ t) (h17 : f 17 = 0) (h16 : f 16 = nI q) :
    ∃ c, c < 11 ∧ q ≤ (pp_c (pp_A t tx) q c).2.1 ∧ (pp_c (pp_A t tx) q c).2.1 ≤ t ∧ pp_RF (pp_c (pp_A t tx) q c) (nI (pp_ch c)) cm f gc (d_X13_readsCommand cm t f gt gc) ∧
      (((pp_c (pp_A t tx) q c).1 = 1 ∧ q + 5 ≤ (pp_c (pp_A t tx) q c).2.1 ∧ ∃ sc', pp_R sc sc' (pp_c (pp_A t tx) q c).2.1 ∧ d_X9_readCommand j t tx fs sd sc cc = (1, upd fs j (pp_x (pp_k1 c) (pp_c (pp_A t tx) q c).2.2.1), upd sd j (pp_x (pp_k2 c) (pp_c (pp_A t tx) q c).2.2.2), sc', upd cc j (nI c))) ∨
       ((pp_c (pp_A t tx) q c).1 = 0 ∧ ∃ sc', pp_R sc sc' (pp_c (pp_A t tx) q c).2.1 ∧ d_X9_readCommand j t tx fs sd sc cc = (0, fs, sd, sc', cc))) := by
  have eA := pp_A_eq hA
  obtain ⟨c, hc, hk, hex⟩ := pp_ex (A := pp_A t tx) (q := q)
  have hrf := pp_rf (gt := gt) (cm := cm) (gc := gc) hc ht (by rw [eA]; exact hk) h17 h16 hq
  rw [eA] at hrf
  refine ⟨c, hc, pp_c_ge hc, ?_⟩
  have hcl : d_X9_readCommand j t tx fs sd sc cc = d_X9_readCommand_L1 j t tx sc (fun a3_1 fs_1 sd_1 sc_1 cc_1 => (0, fs_1, sd_1, (upd sc_1 6 (nI (pm_n a3_1))), cc_1)) 11 0 (nI q) fs sd sc cc := by
    unfold d_X9_readCommand
    rw [h6, pm_n_nI (show q < 2 ^ 31 by omega)]
  rw [hcl]
  rcases pp_rcL (tx := tx) (i := j) ht h6 hq 11 0 q fs sd sc cc rfl (Nat.le_refl _) hq (fun _ _ => rfl) with ⟨c0, _, c2, c3, sc', r1, r2, r3⟩ | ⟨a1, p, sc', b1, b2, b3, b4, b5, b6⟩
  · have e : c0 = c := by
      apply Classical.byContradiction
      intro hne
      have := (hex c0 c2 hne).1
      omega
    subst e
    exact ⟨r2, hrf, Or.inl ⟨c3, pp_c_ok hc c3, sc', r1, r3⟩⟩
  · have e : p = (pp_c (pp_A t tx) q c).2.1 := by
      have h1 := b4 c (Nat.zero_le _) hc
      rcases b5 with b5 | ⟨c', _, b7, b8⟩
      · have := pp_c_ge (A := pp_A t tx) (q := q) hc
        omega
      · by_cases hcc : c' = c
        · rw [b8, hcc]
        · have := (hex c' b7 hcc).2
          omega
    subst e
    exact ⟨b3, hrf, Or.inr ⟨a1 c (Nat.zero_le _) hc, sc', b1, b6⟩⟩
/-- the reference goes on to read a command -/
def pp_go (t : Nat) (gt f : Nat → Int32) : Prop := f 17 = 0 ∧ d_X13_behind 0 t f gt = 59
def pp_rl (t : Nat) (gt : Nat → Int32) : Nat → (Nat → Int32) → (Nat → Int32) → (Nat → Int32) × (Nat → Int32)
  | 0, f, gc => (f, gc)
  | k + 1, f, gc => if f 17 = 0 then (if d_X13_behind 0 t f gt = 59 then pp_rl t gt k (d_X13_readsCommand (pm_n (f 20)) t (upd f 16 (nI (pm_n (f 16) + 1))) gt gc).1 (d_X13_readsCommand (pm_n (f 20)) t (upd f 16 (nI (pm_n (f 16) + 1))) gt gc).2 else (f, gc)) else (f, gc)
theorem pp_rlN {k : Nat} {f gc : Nat → Int32} (h : ¬ pp_go t gt f) : pp_rl t gt k f gc = (f, gc) := by
  cases k with
  | zero => rfl
  | succ k =>
    simp only [pp_rl]
    by_cases h1 : f 17 = 0
    · rw [if_pos h1, if_neg (fun e => h ⟨h1, e⟩)]
    · rw [if_neg h1]
/-- a command that both have read -/
def pp_cq (fs sd cc gc : Nat → Int32) (i : Nat) : Prop := ∃ c, c < 11 ∧ cc i = nI c ∧ gc (3 * i) = nI (pp_ch c) ∧ (¬ pp_k1 c = 0 → fs i = gc (3 * i + 1)) ∧ (¬ pp_k2 c = 0 → sd i = gc (3 * i + 2))
/-- what both say of a text -/
def pp_PO (t : Nat) (f f' gc' sc : Nat → Int32) (Pq : Int32 × (Nat → Int32) × (Nat → Int32) × (Nat → Int32) × (Nat → Int32)) : Prop :=
  (∀ x, x ≠ 16 → x ≠ 17 → x ≠ 20 → f' x = f x) ∧ (∀ x, x ≠ 5 → x ≠ 6 → Pq.2.2.2.1 x = sc x) ∧
  ((Pq.1 = 0 ∧ ∃ p, p ≤ t ∧ Pq.2.2.2.1 6 = nI p ∧ f' 16 = nI p ∧ (f' 17 = 1 ∨ (f' 17 = 0 ∧ p < t))) ∨
   (Pq.1 = 1 ∧ f' 17 = 0 ∧ f' 16 = nI t ∧ ∃ m, m ≤ 11 ∧ Pq.2.2.2.1 5 = nI m ∧ f' 20 = nI m ∧ ∀ i, i < m → pp_cq Pq.2.1 Pq.2.2.1 Pq.2.2.2.2 gc' i))
theorem pp_psL (hA : ∀ i, i < t → gt i = tx i) (ht : t ≤ 60) : ∀ (k j q : Nat) (fs sd sc cc f gc : Nat → Int32), j + k = 10 → 6 * j ≤ q → q ≤ t → sc 6 = nI q → f 17 = 0 → f 16 = nI q → (∀ i, i < j → pp_cq fs sd cc gc i) →
    pp_PO t f (pp_rl t gt k (d_X13_readsCommand j t f gt gc).1 (d_X13_readsCommand j t f gt gc).2).1 (pp_rl t gt k (d_X13_readsCommand j t f gt gc).1 (d_X13_readsCommand j t f gt gc).2).2 sc (d_X9_parse_L1 t tx (fun fs_1 sd_1 sc_1 cc_1 => (0, fs_1, sd_1, sc_1, cc_1)) (k + 1) j fs sd sc cc) ∧ ¬ pp_go t gt (pp_rl t gt k (d_X13_readsCommand j t f gt gc).1 (d_X13_readsCommand j t f gt gc).2).1 := by
  intro k
  induction k with
  | zero =>
    intro j q fs sd sc cc f gc hj h6j hq h6 h17 h16 hcq
    obtain ⟨c, hc, hg, hle, ⟨m16, mfr, m20, mgc, hm⟩, hr⟩ := pp_one (j := j) (cm := j) (fs := fs) (sd := sd) (cc := cc) (gc := gc) hA ht h6 hq h17 h16
    rcases hr with ⟨p1, p5, _⟩ | ⟨p1, sc', r1, r2⟩
    · omega
    · rcases hm with ⟨m1, _⟩ | ⟨_, m17⟩
      · omega
      have hgo : ¬ pp_go t gt (d_X13_readsCommand j t f gt gc).1 := fun e => by rw [e.1] at m17; exact absurd m17 (by decide)
      rw [pp_rlN hgo]
      simp only [d_X9_parse_L1]
      rw [r2]
      try dsimp only
      rw [if_pos rfl]
      exact ⟨⟨mfr, fun x h5 h6 => r1.2 x h6, Or.inl ⟨rfl, _, hle, r1.1, m16, Or.inl m17⟩⟩, hgo⟩
  | succ k ih =>
    intro j q fs sd sc cc f gc hj h6j hq h6 h17 h16 hcq
    obtain ⟨c, hc, hg, hle, ⟨m16, mfr, m20, mgc, hm⟩, hr⟩ := pp_one (j := j) (cm := j) (fs := fs) (sd := sd) (cc := cc) (gc := gc) hA ht h6 hq h17 h16
    rw [d_X9_parse_L1]
    rcases hr with ⟨p1, p5, sc', r1, r2⟩ | ⟨p1, sc', r1, r2⟩
    · obtain ⟨_, m17, g0, g1, g2⟩ := hm.resolve_right (fun e => by have := e.1; omega)
      rw [r2]
      try dsimp only
      rw [if_neg (by decide)]
      simp only [r1.1, pm_n_nI (show (pp_c (pp_A t tx) q c).2.1 < 2 ^ 31 by omega)]
      have hb : d_X13_behind 0 t (d_X13_readsCommand j t f gt gc).1 gt = pp_A t gt (pp_c (pp_A t tx) q c).2.1 := by
        rw [pp_bh ht m16 hle (by decide), Nat.add_zero]
      have hcq2 : ∀ i, i < j + 1 → pp_cq (upd fs j (pp_x (pp_k1 c) (pp_c (pp_A t tx) q c).2.2.1)) (upd sd j (pp_x (pp_k2 c) (pp_c (pp_A t tx) q c).2.2.2)) (upd cc j (nI c)) (d_X13_readsCommand j t f gt gc).2 i := by
        intro i hi
        by_cases hij : i = j
        · subst hij
          refine ⟨c, hc, pk_us, g0, fun h => ?_, fun h => ?_⟩
          · rw [pk_us, g1]; exact if_neg h
          · rw [pk_us, g2]; exact if_neg h
        · obtain ⟨c', a1, a2, a3, a4, a5⟩ := hcq i (by omega)
          refine ⟨c', a1, by rw [pk_un hij]; exact a2, by rw [mgc _ (by omega)]; exact a3, fun h => ?_, fun h => ?_⟩
          · rw [pk_un hij, mgc _ (by omega)]; exact a4 h
          · rw [pk_un hij, mgc _ (by omega)]; exact a5 h
      have hsc : ∀ (v : Int32) (x : Nat), x ≠ 5 → x ≠ 6 → upd sc' 5 v x = sc x := fun v x h5 h6 => (pk_un h5).trans (r1.2 x h6)
      by_cases hp : (pp_c (pp_A t tx) q c).2.1 < t
      · rw [if_pos (nI_lt hp (by omega))]
        by_cases h59 : tx (pp_c (pp_A t tx) q c).2.1 = 59
        · have hgo : d_X13_behind 0 t (d_X13_readsCommand j t f gt gc).1 gt = 59 := by rw [hb, pp_A_in hp, hA _ hp]; exact h59
          rw [if_pos h59, pp_rl, if_pos m17, if_pos hgo, m20, pm_n_nI (by omega), m16, pm_n_nI (by omega)]
          obtain ⟨⟨i1, i2, i3⟩, i4⟩ := ih (j + 1) ((pp_c (pp_A t tx) q c).2.1 + 1) (upd fs j (pp_x (pp_k1 c) (pp_c (pp_A t tx) q c).2.2.1)) (upd sd j (pp_x (pp_k2 c) (pp_c (pp_A t tx) q c).2.2.2)) (upd (upd sc' 5 (nI (j + 1))) 6 (nI ((pp_c (pp_A t tx) q c).2.1 + 1))) (upd cc j (nI c)) (upd (d_X13_readsCommand j t f gt gc).1 16 (nI ((pp_c (pp_A t tx) q c).2.1 + 1))) (d_X13_readsCommand j t f gt gc).2 (by omega) (by omega) (by omega) pk_us ((pk_un (by decide)).trans m17) pk_us hcq2
          exact ⟨⟨fun x a b c => (i1 x a b c).trans ((pk_un a).trans (mfr x a b c)), fun x a b => (i2 x a b).trans ((pk_un b).trans (hsc _ x a b)), i3⟩, i4⟩
        · have hgo : ¬ pp_go t gt (d_X13_readsCommand j t f gt gc).1 := fun e => h59 (by have := e.2; rw [hb, pp_A_in hp, hA _ hp] at this; exact this)
          rw [if_neg h59, pp_rlN hgo]
          exact ⟨⟨mfr, hsc _, Or.inl ⟨rfl, (pp_c (pp_A t tx) q c).2.1, hle, (show upd sc' 5 (nI (j + 1)) 6 = nI (pp_c (pp_A t tx) q c).2.1 from (pk_un (by decide)).trans r1.1), m16, Or.inr ⟨m17, hp⟩⟩⟩, hgo⟩
      · have hgo : ¬ pp_go t gt (d_X13_readsCommand j t f gt gc).1 := fun e => by
          have := e.2
          rw [hb, pp_A_out (by omega)] at this
          exact absurd this (by decide)
        have hpt : (pp_c (pp_A t tx) q c).2.1 = t := by omega
        rw [if_neg (nI_nlt (by omega) (by omega)), pp_rlN hgo]
        exact ⟨⟨mfr, hsc _, Or.inr ⟨rfl, m17, m16.trans (by rw [hpt]), j + 1, by omega, (show upd sc' 5 (nI (j + 1)) 5 = nI (j + 1) from pk_us), m20, hcq2⟩⟩, hgo⟩
    · rcases hm with ⟨m1, _⟩ | ⟨_, m17⟩
      · omega
      have hgo : ¬ pp_go t gt (d_X13_readsCommand j t f gt gc).1 := fun e => by rw [e.1] at m17; exact absurd m17 (by decide)
      rw [pp_rlN hgo, r2]
      try dsimp only
      rw [if_pos rfl]
      exact ⟨⟨mfr, fun x h5 h6 => r1.2 x h6, Or.inl ⟨rfl, _, hle, r1.1, m16, Or.inl m17⟩⟩, hgo⟩
theorem pp_ps {fs sd sc cc f gc : Nat → Int32} (hA : ∀ i, i < t → gt i = tx i) (ht : t ≤ 60) (h17 : f 17 = 0) (h16 : f 16 = 0) :
    pp_PO t f (pp_rl t gt 10 (d_X13_readsCommand 0 t f gt gc).1 (d_X13_readsCommand 0 t f gt gc).2).1 (pp_rl t gt 10 (d_X13_readsCommand 0 t f gt gc).1 (d_X13_readsCommand 0 t f gt gc).2).2 sc (d_X9_parse t tx fs sd sc cc) ∧ ¬ pp_go t gt (pp_rl t gt 10 (d_X13_readsCommand 0 t f gt gc).1 (d_X13_readsCommand 0 t f gt gc).2).1 := by
  have H := pp_psL hA ht 10 0 0 fs sd (upd (upd sc 5 0) 6 0) cc f gc rfl (Nat.zero_le _) (Nat.zero_le _) pk_us h17 h16 (fun i hi => absurd hi (Nat.not_lt_zero _))
  unfold d_X9_parse
  rw [show (10 : Nat) + 1 = 11 from rfl] at H
  generalize d_X9_parse_L1 t tx (fun fs_1 sd_1 sc_1 cc_1 => (0, fs_1, sd_1, sc_1, cc_1)) 11 0 fs sd (upd (upd sc 5 0) 6 0) cc = Q at H ⊢
  obtain ⟨⟨a, b, c⟩, d⟩ := H
  exact ⟨⟨a, fun x h5 h6 => (b x h5 h6).trans ((pk_un h6).trans (pk_un h5)), c⟩, d⟩
theorem pp_tx {cm : Nat} {f gc : Nat → Int32} (ht : t ≤ 60) (htx : pm_tx t f) (h17 : f 17 = 0) : pm_tx t (d_X13_readsCommand cm t f gt gc).1 ∧ (d_X13_readsCommand cm t f gt gc).1 20 = nI (cm + 1) := by
  obtain ⟨c, hc, _, hle, ⟨m16, mfr, m20, _, hm⟩, _⟩ := pp_one (t := t) (tx := gt) (gt := gt) (j := 0) (cm := cm) (fs := fun _ => 0) (sd := fun _ => 0) (sc := fun _ => nI (pm_n (f 16))) (cc := fun _ => 0) (f := f) (gc := gc) (fun _ _ => rfl) ht rfl htx.2.1 h17 htx.1
  refine ⟨⟨?_, ?_, ?_, ?_⟩, m20⟩
  · rw [m16, pm_n_nI (by omega)]
  · rw [m16, pm_n_nI (by omega)]; exact hle
  · rw [mfr 15 (by decide) (by decide) (by decide)]; exact htx.2.2.1
  · rcases hm with ⟨_, h, _⟩ | ⟨_, h⟩
    · exact Or.inl h
    · exact Or.inr h
end PPO
