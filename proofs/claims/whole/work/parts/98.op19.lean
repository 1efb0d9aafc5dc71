/-! texts: class and reference read alike -/
def pp_A (t : Nat) (tx : Nat → Int32) (q : Nat) : Int32 := if q < t then tx q else -1
def pp_lit (A : Nat → Int32) : List Nat → Nat → Nat
  | [], _ => 0
  | b :: w, q => if A q = nI b then pp_lit A w (q + 1) + 1 else 0
def pp_num (A : Nat → Int32) : Nat → Nat → Nat → Nat × Nat
  | 0, q, v => (q, v)
  | k + 1, q, v => if pm_in (A q) 48 57 = 0 then (q, v) else pp_num A k (q + 1) (10 * v + (pm_n (A q) - 48))
/-- a command at q: whether it is there, the place behind it or of its fault, its numbers -/
def pp_cmd (A : Nat → Int32) (w : List Nat) (k1 : Nat) (sg : List Nat) (k2 q : Nat) : Nat × Nat × Nat × Nat :=
  if pp_lit A w q < w.length then (0, q + pp_lit A w q, 0, 0) else
  if k1 = 0 then (1, q + w.length, 0, 0) else
  if (pp_num A k1 (q + w.length) 0).1 = q + w.length then (0, q + w.length, 0, 0) else
  if k2 = 0 then (1, (pp_num A k1 (q + w.length) 0).1, (pp_num A k1 (q + w.length) 0).2, 0) else
  if pp_lit A sg (pp_num A k1 (q + w.length) 0).1 < sg.length then (0, (pp_num A k1 (q + w.length) 0).1 + pp_lit A sg (pp_num A k1 (q + w.length) 0).1, 0, 0) else
  if (pp_num A k2 ((pp_num A k1 (q + w.length) 0).1 + sg.length) 0).1 = (pp_num A k1 (q + w.length) 0).1 + sg.length then (0, (pp_num A k1 (q + w.length) 0).1 + sg.length, 0, 0) else
  (1, (pp_num A k2 ((pp_num A k1 (q + w.length) 0).1 + sg.length) 0).1, (pp_num A k1 (q + w.length) 0).2, (pp_num A k2 ((pp_num A k1 (q + w.length) 0).1 + sg.length) 0).2)
section PPA
variable {t : Nat} {tx gt : Nat → Int32}
theorem pp_A_lt {q b : Nat} (hb : b < 2 ^ 31) (h : pp_A t tx q = nI b) : q < t ∧ tx q = nI b := by
  unfold pp_A at h
  split at h
  · rename_i h2; exact ⟨h2, h⟩
  · exact absurd (show nI b < 0 by rw [← h]; decide) (nI_pos hb)
theorem pp_A_in {q : Nat} (h : q < t) : pp_A t tx q = tx q := if_pos h
theorem pp_A_out {q : Nat} (h : t ≤ q) : pp_A t tx q = -1 := if_neg (by omega)
theorem pp_A_eq (h : ∀ i, i < t → gt i = tx i) : pp_A t gt = pp_A t tx := by
  funext q
  unfold pp_A
  by_cases hq : q < t
  · rw [if_pos hq, if_pos hq, h q hq]
  · rw [if_neg hq, if_neg hq]
theorem pp_dgt {q : Nat} (h : ¬ pm_in (pp_A t tx q) 48 57 = 0) : q < t ∧ ∃ d, 48 ≤ d ∧ d ≤ 57 ∧ tx q = nI d ∧ pp_A t tx q = nI d := by
  obtain ⟨d, e, h1, h2⟩ := pm_inR (lo := 48) (hi := 57) (by decide) (by decide) h
  obtain ⟨h3, h4⟩ := pp_A_lt (by omega) e
  exact ⟨h3, d, h1, h2, h4, e⟩
theorem pp_numF : ∀ (k q v : Nat), q ≤ t → q ≤ (pp_num (pp_A t tx) k q v).1 ∧ (pp_num (pp_A t tx) k q v).1 ≤ t ∧ (pp_num (pp_A t tx) k q v).2 + 1 ≤ (v + 1) * 10 ^ k := by
  intro k
  induction k with
  | zero => intro q v h; exact ⟨Nat.le_refl _, h, by rw [Nat.pow_zero, Nat.mul_one]; exact Nat.le_refl _⟩
  | succ k ih =>
    intro q v h
    simp only [pp_num]
    by_cases hd : pm_in (pp_A t tx q) 48 57 = 0
    · rw [if_pos hd]
      refine ⟨Nat.le_refl _, h, ?_⟩
      have : 1 ≤ 10 ^ (k + 1) := Nat.pow_pos (by decide)
      exact Nat.le_trans (by rw [Nat.mul_one]; exact Nat.le_refl _) (Nat.mul_le_mul_left (v + 1) this)
    · rw [if_neg hd]
      obtain ⟨h1, d, d1, d2, d3, d4⟩ := pp_dgt hd
      rw [d4, pm_n_nI (by omega)]
      obtain ⟨i1, i2, i3⟩ := ih (q + 1) (10 * v + (d - 48)) (by omega)
      refine ⟨by omega, i2, Nat.le_trans i3 ?_⟩
      rw [Nat.pow_succ, Nat.mul_comm (10 ^ k) 10, ← Nat.mul_assoc]
      exact Nat.mul_le_mul_right _ (by omega)
theorem pp_num4 {k q : Nat} (hk : k ≤ 4) (hq : q ≤ t) : (pp_num (pp_A t tx) k q 0).2 < 10000 := by
  have h := (pp_numF (tx := tx) k q 0 hq).2.2
  have : 10 ^ k ≤ 10 ^ 4 := Nat.pow_le_pow_right (by decide) hk
  rw [Nat.zero_add, Nat.one_mul] at h
  omega
theorem pp_litL {A : Nat → Int32} : ∀ (w : List Nat) (q : Nat), pp_lit A w q ≤ w.length := by
  intro w
  induction w with
  | nil => intro q; exact Nat.le_refl _
  | cons b w ih =>
    intro q
    simp only [pp_lit]
    split
    · have := ih (q + 1)
      rw [List.length_cons]
      omega
    · exact Nat.zero_le _
theorem pp_litT : ∀ (w : List Nat) (q : Nat), (∀ b ∈ w, b < 2 ^ 31) → q ≤ t → q + pp_lit (pp_A t tx) w q ≤ t := by
  intro w
  induction w with
  | nil => intro q _ h; exact h
  | cons b w ih =>
    intro q hb h
    simp only [pp_lit]
    by_cases e : pp_A t tx q = nI b
    · rw [if_pos e]
      have h1 := (pp_A_lt (hb b List.mem_cons_self) e).1
      have h2 := ih (q + 1) (fun b hb2 => hb b (List.mem_cons_of_mem _ hb2)) (by omega)
      omega
    · rw [if_neg e]
      exact h
/-- the class's script behind a reading: its place is p -/
def pp_R (sc sc' : Nat → Int32) (p : Nat) : Prop := sc' 6 = nI p ∧ ∀ j, j ≠ 6 → sc' j = sc j
theorem pp_R_s {sc : Nat → Int32} {q : Nat} (h : sc 6 = nI q) : pp_R sc sc q := ⟨h, fun _ _ => rfl⟩
theorem pp_R_u {sc : Nat → Int32} {q : Nat} : pp_R sc (upd sc 6 (nI q)) q := ⟨pk_us, fun _ h => pk_un h⟩
theorem pp_R_t {sc s1 s2 : Nat → Int32} {p q : Nat} (h1 : pp_R sc s1 p) (h2 : pp_R s1 s2 q) : pp_R sc s2 q := ⟨h2.1, fun j hj => (h2.2 j hj).trans (h1.2 j hj)⟩
theorem pp_nL (ht : t ≤ 60) : ∀ (k j q v c : Nat) (sc : Nat → Int32), sc 6 = nI q → q ≤ t → ∃ sc', pp_R sc sc' (pp_num (pp_A t tx) k q v).1 ∧ d_X9_readNumber_L1 t tx k j (nI v) (nI c) sc = (nI (pp_num (pp_A t tx) k q v).2, nI (c + ((pp_num (pp_A t tx) k q v).1 - q)), sc') := by
  intro k
  induction k with
  | zero =>
    intro j q v c sc h6 hq
    refine ⟨sc, pp_R_s h6, ?_⟩
    show (nI v, nI c, sc) = (nI v, nI (c + (q - q)), sc)
    rw [Nat.sub_self, Nat.add_zero]
  | succ k ih =>
    intro j q v c sc h6 hq
    simp only [d_X9_readNumber_L1, pp_num]
    rw [h6, pm_n_nI (by omega)]
    by_cases h0 : t ≤ q
    · rw [if_pos ((nI_leI (by omega) (by omega)).mpr h0), pp_A_out h0, if_pos (by decide)]
      refine ⟨sc, pp_R_s h6, ?_⟩
      try dsimp only
      rw [Nat.sub_self, Nat.add_zero]
    · rw [if_neg (fun e => h0 ((nI_leI (by omega) (by omega)).mp e)), pp_A_in (by omega)]
      by_cases h1 : tx q < 48
      · rw [if_pos h1, if_pos (show pm_in (tx q) 48 57 = 0 from if_pos h1)]
        refine ⟨sc, pp_R_s h6, ?_⟩
        try dsimp only
        rw [Nat.sub_self, Nat.add_zero]
      · by_cases h2 : tx q ≤ 57
        · have hin : ¬ pm_in (tx q) 48 57 = 0 := by
            unfold pm_in
            rw [if_neg h1, if_neg (Int32.not_lt.mpr h2)]
            decide
          obtain ⟨d, e, d1, d2⟩ := pm_inR (lo := 48) (hi := 57) (by decide) (by decide) hin
          rw [if_neg h1, if_pos h2, if_neg hin, e, pm_n_nI (by omega)]
          have ev : nI v * 10 + (nI d - 48) = nI (10 * v + (d - 48)) := by
            rw [show (48 : Int32) = nI 48 from rfl, pq_sub d1, show (10 : Int32) = nI 10 from rfl, pk_mul, nI_add, Nat.mul_comm]
          have ec : nI c + Int32.ofInt 1 = nI (c + 1) := nI_1 c
          rw [ev, ec]
          obtain ⟨sc', r1, r2⟩ := ih (j + 1) (q + 1) (10 * v + (d - 48)) (c + 1) (upd sc 6 (nI (q + 1))) pk_us (by omega)
          have hle := (pp_numF (t := t) (tx := tx) k (q + 1) (10 * v + (d - 48)) (by omega)).1
          refine ⟨sc', pp_R_t pp_R_u r1, r2.trans ?_⟩
          rw [show c + 1 + ((pp_num (pp_A t tx) k (q + 1) (10 * v + (d - 48))).1 - (q + 1)) = c + ((pp_num (pp_A t tx) k (q + 1) (10 * v + (d - 48))).1 - q) by omega]
        · have hin : pm_in (tx q) 48 57 = 0 := by
            unfold pm_in
            rw [if_neg h1, if_pos (Int32.not_le.mp h2)]
          rw [if_neg h1, if_neg h2, if_pos hin]
          refine ⟨sc, pp_R_s h6, ?_⟩
          try dsimp only
          rw [Nat.sub_self, Nat.add_zero]
theorem pp_rN {k q : Nat} {sc : Nat → Int32} (ht : t ≤ 60) (hk : k ≤ 4) (h6 : sc 6 = nI q) (hq : q ≤ t) :
    ((pp_num (pp_A t tx) k q 0).1 = q ∧ ∃ sc', pp_R sc sc' q ∧ d_X9_readNumber k t tx sc = (-1, sc')) ∨
    (q < (pp_num (pp_A t tx) k q 0).1 ∧ ∃ sc', pp_R sc sc' (pp_num (pp_A t tx) k q 0).1 ∧ d_X9_readNumber k t tx sc = (nI (pp_num (pp_A t tx) k q 0).2, sc')) := by
  obtain ⟨sc', r1, r2⟩ := pp_nL (tx := tx) ht k 0 q 0 0 sc h6 hq
  have hF := pp_numF (t := t) (tx := tx) k q 0 hq
  have r2 : d_X9_readNumber_L1 t tx k 0 0 0 sc = _ := r2
  unfold d_X9_readNumber
  rw [r2]
  try dsimp only
  by_cases h : (pp_num (pp_A t tx) k q 0).1 = q
  · rw [h] at r1 ⊢
    refine Or.inl ⟨rfl, sc', r1, ?_⟩
    rw [if_pos (by rw [Nat.sub_self]; rfl)]
  · refine Or.inr ⟨by omega, sc', r1, ?_⟩
    rw [if_neg (nI_ne0 (by omega) (by omega))]
section PPM
variable {c i : Nat} {fs sd : Nat → Int32} {K1 : Int32 → Int32 → (Nat → Int32) → (Int32 × (Nat → Int32) × (Nat → Int32) × (Nat → Int32))}
theorem pp_mL (ht : t ≤ 60) : ∀ (w : List Nat) (j k q : Nat) (a b : Int32) (sc : Nat → Int32), (∀ i, i < w.length → (pm_pt.getD c []).getD (j + i) 0 = w.getD i 0 ∧ d_X9_digitsOf (nI (w.getD i 0)) = 0 ∧ w.getD i 0 < 128) → sc 6 = nI q → q ≤ t →
    (pp_lit (pp_A t tx) w q = w.length ∧ ∃ sc', pp_R sc sc' (q + w.length) ∧ q + w.length ≤ t ∧ d_X9_matches_L1 c t tx fs sd K1 (w.length + k) j a b sc = d_X9_matches_L1 c t tx fs sd K1 k (j + w.length) a b sc') ∨
    (pp_lit (pp_A t tx) w q < w.length ∧ ∃ sc', pp_R sc sc' (q + pp_lit (pp_A t tx) w q) ∧ d_X9_matches_L1 c t tx fs sd K1 (w.length + k) j a b sc = (0, fs, sd, sc')) := by
  intro w
  induction w with
  | nil =>
    intro j k q a b sc _ h6 hq
    refine Or.inl ⟨rfl, sc, pp_R_s h6, hq, ?_⟩
    rw [show ([] : List Nat).length + k = k by rw [List.length_nil, Nat.zero_add]]
    rfl
  | cons x w ih =>
    intro j k q a b sc hp h6 hq
    obtain ⟨p1, p2, p3⟩ := hp 0 (by rw [List.length_cons]; omega)
    rw [Nat.add_zero] at p1
    have p1 : (pm_pt.getD c []).getD j 0 = x := p1
    have p2 : d_X9_digitsOf (nI x) = 0 := p2
    have p3 : x < 128 := p3
    rw [show (x :: w).length + k = (w.length + k) + 1 by rw [List.length_cons]; omega]
    simp only [d_X9_matches_L1, pp_lit]
    rw [p1, p2, if_pos (show nI (pm_n 0) ≤ 0 by decide), h6, pm_n_nI (by omega), List.length_cons]
    by_cases h0 : t ≤ q
    · rw [if_pos ((nI_leI (by omega) (by omega)).mpr h0), if_neg (fun e => by have := (pp_A_lt (by omega) e).1; omega)]
      exact Or.inr ⟨by omega, sc, pp_R_s h6, rfl⟩
    · rw [if_neg (fun e => h0 ((nI_leI (by omega) (by omega)).mp e)), pp_A_in (by omega)]
      by_cases h1 : tx q = nI x
      · rw [if_pos h1, if_pos h1]
        have hp2 : ∀ i, i < w.length → (pm_pt.getD c []).getD (j + 1 + i) 0 = w.getD i 0 ∧ d_X9_digitsOf (nI (w.getD i 0)) = 0 ∧ w.getD i 0 < 128 := fun i hi => by
          have := hp (i + 1) (by rw [List.length_cons]; omega)
          rw [show j + (i + 1) = j + 1 + i by omega, List.getD_cons_succ] at this
          exact this
        rcases ih (j + 1) k (q + 1) a b (upd sc 6 (nI (q + 1))) hp2 pk_us (by omega) with ⟨i1, sc', i2, i3, i4⟩ | ⟨i1, sc', i2, i3⟩
        · refine Or.inl ⟨by rw [i1], sc', ?_, by omega, ?_⟩
          · rw [show q + (w.length + 1) = q + 1 + w.length by omega]
            exact pp_R_t pp_R_u i2
          · rw [i4, show j + (w.length + 1) = j + 1 + w.length by omega]
        · refine Or.inr ⟨by omega, sc', ?_, i3⟩
          rw [show q + (pp_lit (pp_A t tx) w (q + 1) + 1) = q + 1 + pp_lit (pp_A t tx) w (q + 1) by omega]
          exact pp_R_t pp_R_u i2
      · rw [if_neg h1, if_neg h1]
        exact Or.inr ⟨by omega, sc, pp_R_s h6, rfl⟩
theorem pp_mN {kd j k q : Nat} {a b : Int32} {sc : Nat → Int32} (ht : t ≤ 60) (hk : d_X9_digitsOf (nI ((pm_pt.getD c []).getD j 0)) = nI kd) (h1 : 1 ≤ kd) (h4 : kd ≤ 4) (h6 : sc 6 = nI q) (hq : q ≤ t) :
    ((pp_num (pp_A t tx) kd q 0).1 = q ∧ ∃ sc', pp_R sc sc' q ∧ d_X9_matches_L1 c t tx fs sd K1 (k + 1) j a b sc = (0, fs, sd, sc')) ∨
    (q < (pp_num (pp_A t tx) kd q 0).1 ∧ ∃ sc', pp_R sc sc' (pp_num (pp_A t tx) kd q 0).1 ∧ (pp_num (pp_A t tx) kd q 0).1 ≤ t ∧ d_X9_matches_L1 c t tx fs sd K1 (k + 1) j a b sc = d_X9_matches_L1 c t tx fs sd K1 k (j + 1) (if 0 ≤ a then a else nI (pp_num (pp_A t tx) kd q 0).2) (if 0 ≤ a then nI (pp_num (pp_A t tx) kd q 0).2 else b) sc') := by
  simp only [d_X9_matches_L1]
  rw [hk, pm_n_nI (by omega), if_neg (show ¬ nI kd ≤ 0 from fun e => by rw [show (0 : Int32) = nI 0 from rfl, nI_leI (by omega) (by decide)] at e; omega)]
  rcases pp_rN (tx := tx) ht h4 h6 hq with ⟨e, sc', r1, r2⟩ | ⟨e, sc', r1, r2⟩
  · rw [r2]
    try dsimp only
    rw [if_neg (by decide)]
    exact Or.inl ⟨e, sc', r1, rfl⟩
  · rw [r2]
    try dsimp only
    have hv := pp_num4 (tx := tx) h4 hq
    rw [if_pos (nI_pos' (by omega))]
    exact Or.inr ⟨e, sc', r1, (pp_numF kd q 0 hq).2.1, rfl⟩
end PPM
section PPC
variable {c i : Nat} {fs sd : Nat → Int32}
def pp_x (k : Nat) (v : Nat) : Int32 := if k = 0 then -1 else nI v
/-- what a match says -/
def pp_M (A : Nat → Int32) (P : Nat × Nat × Nat × Nat) (k1 k2 i t : Nat) (fs sd sc : Nat → Int32) (m : Int32 × (Nat → Int32) × (Nat → Int32) × (Nat → Int32)) : Prop :=
  ∃ sc', pp_R sc sc' P.2.1 ∧ P.2.1 ≤ t ∧ ((P.1 = 1 ∧ m = (1, upd fs i (pp_x k1 P.2.2.1), upd sd i (pp_x k2 P.2.2.2), sc')) ∨ (P.1 = 0 ∧ m = (0, fs, sd, sc')))
theorem pp_m0 {w : List Nat} {q : Nat} {sc : Nat → Int32} (ht : t ≤ 60) (hlen : (pm_pt.getD c []).length = w.length) (hw : ∀ i, i < w.length → (pm_pt.getD c []).getD (0 + i) 0 = w.getD i 0 ∧ d_X9_digitsOf (nI (w.getD i 0)) = 0 ∧ w.getD i 0 < 128) (hb : ∀ b ∈ w, b < 2 ^ 31) (h6 : sc 6 = nI q) (hq : q ≤ t) : pp_M (pp_A t tx) (pp_cmd (pp_A t tx) w 0 [] 0 q) 0 0 i t fs sd sc (d_X9_matches c i t tx fs sd sc) := by
  unfold d_X9_matches pp_cmd
  rw [hlen]
  rcases pp_mL (c := c) (fs := fs) (sd := sd) (K1 := fun a3_1 a4_1 sc_1 => (1, upd fs i a3_1, upd sd i a4_1, sc_1)) (tx := tx) ht w 0 0 q (-1) (-1) sc hw h6 hq with ⟨e, sc', r1, r2, r3⟩ | ⟨e, sc', r1, r3⟩
  · rw [if_neg (by omega), if_pos rfl]
    exact ⟨sc', r1, r2, Or.inl ⟨rfl, r3⟩⟩
  · rw [if_pos e]
    exact ⟨sc', r1, pp_litT w q hb hq, Or.inr ⟨rfl, r3⟩⟩
theorem pp_m1 {w : List Nat} {k1 q : Nat} {sc : Nat → Int32} (ht : t ≤ 60) (hlen : (pm_pt.getD c []).length = w.length + 1) (hw : ∀ i, i < w.length → (pm_pt.getD c []).getD (0 + i) 0 = w.getD i 0 ∧ d_X9_digitsOf (nI (w.getD i 0)) = 0 ∧ w.getD i 0 < 128) (hb : ∀ b ∈ w, b < 2 ^ 31) (hk : d_X9_digitsOf (nI ((pm_pt.getD c []).getD (0 + w.length) 0)) = nI k1) (h1 : 1 ≤ k1) (h4 : k1 ≤ 4) (h6 : sc 6 = nI q) (hq : q ≤ t) : pp_M (pp_A t tx) (pp_cmd (pp_A t tx) w k1 [] 0 q) k1 0 i t fs sd sc (d_X9_matches c i t tx fs sd sc) := by
  unfold d_X9_matches pp_cmd
  rw [hlen]
  rcases pp_mL (c := c) (fs := fs) (sd := sd) (K1 := fun a3_1 a4_1 sc_1 => (1, upd fs i a3_1, upd sd i a4_1, sc_1)) (tx := tx) ht w 0 1 q (-1) (-1) sc hw h6 hq with ⟨e, sc', r1, r2, r3⟩ | ⟨e, sc', r1, r3⟩
  · rw [if_neg (by omega), if_neg (by omega), r3]
    rcases pp_mN (c := c) (fs := fs) (sd := sd) (K1 := fun a3_1 a4_1 sc_1 => (1, upd fs i a3_1, upd sd i a4_1, sc_1)) (tx := tx) (k := 0) (a := -1) (b := -1) ht hk h1 h4 r1.1 r2 with ⟨e2, s2, q1, q3⟩ | ⟨e2, s2, q1, q2, q3⟩
    · rw [if_pos e2]
      exact ⟨s2, pp_R_t r1 q1, r2, Or.inr ⟨rfl, q3⟩⟩
    · rw [if_neg (by omega), if_pos rfl]
      refine ⟨s2, pp_R_t r1 q1, q2, Or.inl ⟨rfl, q3.trans ?_⟩⟩
      rw [if_neg (by decide), if_neg (by decide)]
      unfold pp_x
      rw [if_neg (by omega), if_pos rfl]
      rfl
  · rw [if_pos e]
    exact ⟨sc', r1, pp_litT w q hb hq, Or.inr ⟨rfl, r3⟩⟩
theorem pp_m2 {w : List Nat} {s k1 k2 q : Nat} {sc : Nat → Int32} (ht : t ≤ 60) (hlen : (pm_pt.getD c []).length = w.length + 3) (hw : ∀ i, i < w.length → (pm_pt.getD c []).getD (0 + i) 0 = w.getD i 0 ∧ d_X9_digitsOf (nI (w.getD i 0)) = 0 ∧ w.getD i 0 < 128) (hb : ∀ b ∈ w, b < 2 ^ 31) (hk : d_X9_digitsOf (nI ((pm_pt.getD c []).getD (0 + w.length) 0)) = nI k1) (h1 : 1 ≤ k1) (h4 : k1 ≤ 4) (hs : (pm_pt.getD c []).getD (0 + w.length + 1) 0 = s ∧ d_X9_digitsOf (nI s) = 0 ∧ s < 128) (hk2 : d_X9_digitsOf (nI ((pm_pt.getD c []).getD (0 + w.length + 1 + 1) 0)) = nI k2) (h12 : 1 ≤ k2) (h42 : k2 ≤ 4) (h6 : sc 6 = nI q) (hq : q ≤ t) : pp_M (pp_A t tx) (pp_cmd (pp_A t tx) w k1 [s] k2 q) k1 k2 i t fs sd sc (d_X9_matches c i t tx fs sd sc) := by
  unfold d_X9_matches pp_cmd
  rw [hlen]
  rcases pp_mL (c := c) (fs := fs) (sd := sd) (K1 := fun a3_1 a4_1 sc_1 => (1, upd fs i a3_1, upd sd i a4_1, sc_1)) (tx := tx) ht w 0 3 q (-1) (-1) sc hw h6 hq with ⟨e, sc', r1, r2, r3⟩ | ⟨e, sc', r1, r3⟩
  · rw [if_neg (by omega), if_neg (by omega), r3]
    rcases pp_mN (c := c) (fs := fs) (sd := sd) (K1 := fun a3_1 a4_1 sc_1 => (1, upd fs i a3_1, upd sd i a4_1, sc_1)) (tx := tx) (k := 2) (a := -1) (b := -1) ht hk h1 h4 r1.1 r2 with ⟨e2, s2, q1, q3⟩ | ⟨e2, s2, q1, q2, q3⟩
    · rw [if_pos e2]
      exact ⟨s2, pp_R_t r1 q1, r2, Or.inr ⟨rfl, q3⟩⟩
    · rw [if_neg (by omega), if_neg (by omega), q3, if_neg (show ¬ (0 : Int32) ≤ -1 by decide), if_neg (show ¬ (0 : Int32) ≤ -1 by decide)]
      have hv := pp_num4 (tx := tx) h4 r2
      generalize pp_num (pp_A t tx) k1 (q + w.length) 0 = N at e2 q1 q2 hv ⊢
      rcases pp_mL (c := c) (fs := fs) (sd := sd) (K1 := fun a3_1 a4_1 sc_1 => (1, upd fs i a3_1, upd sd i a4_1, sc_1)) (tx := tx) ht [s] (0 + w.length + 1) 1 N.1 (nI N.2) (-1) s2 (fun i hi => by
        have hi0 : i = 0 := by rw [List.length_singleton] at hi; omega
        subst hi0
        exact hs) q1.1 q2 with ⟨e4, s4, x1, x2, x3⟩ | ⟨e4, s4, x1, x3⟩
      · rw [if_neg (by omega)]
        rcases pp_mN (c := c) (fs := fs) (sd := sd) (K1 := fun a3_1 a4_1 sc_1 => (1, upd fs i a3_1, upd sd i a4_1, sc_1)) (tx := tx) (k := 0) (j := 0 + w.length + 1 + [s].length) (a := nI N.2) (b := -1) ht hk2 h12 h42 x1.1 x2 with ⟨e5, s5, y1, y3⟩ | ⟨e5, s5, y1, y2, y3⟩
        · rw [if_pos e5]
          exact ⟨s5, pp_R_t r1 (pp_R_t q1 (pp_R_t x1 y1)), x2, Or.inr ⟨rfl, x3.trans y3⟩⟩
        · rw [if_neg (by omega)]
          refine ⟨s5, pp_R_t r1 (pp_R_t q1 (pp_R_t x1 y1)), y2, Or.inl ⟨rfl, (x3.trans y3).trans ?_⟩⟩
          rw [if_pos (nI_pos' (by omega)), if_pos (nI_pos' (by omega))]
          unfold pp_x
          rw [if_neg (by omega), if_neg (by omega)]
          rfl
      · rw [if_pos e4]
        refine ⟨s4, pp_R_t r1 (pp_R_t q1 x1), pp_litT [s] N.1 (fun b hb => by rw [List.mem_singleton.mp hb]; have := hs.2.2; omega) q2, Or.inr ⟨rfl, x3⟩⟩
  · rw [if_pos e]
    exact ⟨sc', r1, pp_litT w q hb hq, Or.inr ⟨rfl, r3⟩⟩
end PPC
end PPA
