/-! texts: the reference's reading -/
section PPR
variable {t : Nat} {gt : Nat → Int32}
theorem pp_bh {w q : Nat} {f : Nat → Int32} (ht : t ≤ 60) (h16 : f 16 = nI q) (hq : q ≤ t) (hw : w ≤ 2) : d_X13_behind w t f gt = pp_A t gt (q + w) := by
  unfold d_X13_behind pp_A
  rw [h16, pm_n_nI (by omega), nI_add]
  by_cases h : q + w < t
  · rw [if_neg (fun e => by rw [nI_leI (by omega) (by omega)] at e; omega), if_pos h]
  · rw [if_pos ((nI_leI (by omega) (by omega)).mpr (by omega)), if_neg h]
theorem pp_skwL {bs : List Nat} {k j : Nat} {f : Nat → Int32} (h : f 17 = 1) : d_X13_skip_L1 bs t gt k j f = f := by
  cases k with
  | zero => rfl
  | succ k =>
    simp only [d_X13_skip_L1]
    rw [if_neg (by rw [h]; decide)]
theorem pp_skL {bs : List Nat} (ht : t ≤ 60) : ∀ (w : List Nat) (j q : Nat) (f : Nat → Int32), (∀ i, i < w.length → bs.getD (j + i) 0 = w.getD i 0 ∧ w.getD i 0 < 128) → f 17 = 0 → f 16 = nI q → q ≤ t →
    ∃ f', d_X13_skip_L1 bs t gt w.length j f = f' ∧ f' 16 = nI (q + pp_lit (pp_A t gt) w q) ∧ ((pp_lit (pp_A t gt) w q = w.length ∧ f' 17 = 0 ∧ q + w.length ≤ t) ∨ (pp_lit (pp_A t gt) w q < w.length ∧ f' 17 = 1)) ∧ ∀ x, x ≠ 16 → x ≠ 17 → f' x = f x := by
  intro w
  induction w with
  | nil => intro j q f _ h17 h16 hq; exact ⟨f, rfl, h16, Or.inl ⟨rfl, h17, hq⟩, fun _ _ _ => rfl⟩
  | cons b w ih =>
    intro j q f hp h17 h16 hq
    obtain ⟨p1, p2⟩ := hp 0 (by rw [List.length_cons]; omega)
    rw [Nat.add_zero] at p1
    have p1 : bs.getD j 0 = b := p1
    have p2 : b < 128 := p2
    rw [List.length_cons]
    simp only [d_X13_skip_L1, pp_lit]
    rw [if_pos h17, p1, pp_bh ht h16 hq (by decide), Nat.add_zero, h16, pm_n_nI (by omega)]
    by_cases e : pp_A t gt q = nI b
    · rw [if_pos e, if_pos e]
      have hqt := (pp_A_lt (by omega) e).1
      obtain ⟨f', e1, e2, e3, e4⟩ := ih (j + 1) (q + 1) (upd (upd f 17 0) 16 (nI (q + 1))) (fun i hi => by
        have := hp (i + 1) (by rw [List.length_cons]; omega)
        rw [show j + (i + 1) = j + 1 + i by omega, List.getD_cons_succ] at this
        exact this) ((pk_un (by decide)).trans pk_us) pk_us (by omega)
      refine ⟨f', e1, by rw [e2, show q + 1 + pp_lit (pp_A t gt) w (q + 1) = q + (pp_lit (pp_A t gt) w (q + 1) + 1) by omega], ?_, fun x h1 h2 => (e4 x h1 h2).trans ((pk_un h1).trans (pk_un h2))⟩
      rcases e3 with ⟨a, b, c⟩ | ⟨a, b⟩
      · exact Or.inl ⟨by omega, b, by omega⟩
      · exact Or.inr ⟨by omega, b⟩
    · rw [if_neg e, if_neg e]
      refine ⟨_, rfl, ?_, Or.inr ⟨by omega, ?_⟩, fun x h1 h2 => ?_⟩
      · rw [pp_skwL ((pk_un (by decide)).trans pk_us)]
        exact pk_us
      · rw [pp_skwL ((pk_un (by decide)).trans pk_us)]
        exact (pk_un (by decide)).trans pk_us
      · rw [pp_skwL ((pk_un (by decide)).trans pk_us)]
        exact (pk_un h1).trans (pk_un h2)
theorem pp_sk {w : List Nat} {q : Nat} {f : Nat → Int32} (ht : t ≤ 60) (hw : ∀ i, i < w.length → w.getD (0 + i) 0 = w.getD i 0 ∧ w.getD i 0 < 128) (h17 : f 17 = 0) (h16 : f 16 = nI q) (hq : q ≤ t) :
    ∃ f', d_X13_skip w t f gt = f' ∧ f' 16 = nI (q + pp_lit (pp_A t gt) w q) ∧ ((pp_lit (pp_A t gt) w q = w.length ∧ f' 17 = 0 ∧ q + w.length ≤ t) ∨ (pp_lit (pp_A t gt) w q < w.length ∧ f' 17 = 1)) ∧ ∀ x, x ≠ 16 → x ≠ 17 → f' x = f x := pp_skL (bs := w) ht w 0 q f hw h17 h16 hq
theorem pp_skW {w : List Nat} {f : Nat → Int32} (h : f 17 = 1) : d_X13_skip w t f gt = f := pp_skwL h
theorem pp_dgW {f : Nat → Int32} (h : f 17 = 1) : d_X13_isDigit t f gt = 0 := by
  unfold d_X13_isDigit
  rw [if_neg (by rw [h]; decide)]
theorem pp_rnWL {k j : Nat} {a : Int32} {f : Nat → Int32} (h : f 17 = 1) : d_X13_readsNumber_L1 t gt k j a f = (a, f) := by
  cases k with
  | zero => rfl
  | succ k =>
    simp only [d_X13_readsNumber_L1]
    rw [if_pos (pp_dgW h)]
theorem pp_rnW {k : Nat} {f : Nat → Int32} (h : f 17 = 1) : ∃ f', d_X13_readsNumber k t f gt = (0, f') ∧ f' 17 = 1 ∧ f' 16 = f 16 ∧ ∀ x, x ≠ 17 → f' x = f x := by
  unfold d_X13_readsNumber
  rw [if_neg (by rw [h]; decide), pp_rnWL pk_us]
  exact ⟨upd f 17 1, rfl, pk_us, pk_un (by decide), fun x hx => pk_un hx⟩
theorem pp_rnL (ht : t ≤ 60) : ∀ (k j q v : Nat) (f : Nat → Int32), f 17 = 0 → f 16 = nI q → q ≤ t → ∃ f', d_X13_readsNumber_L1 t gt k j (nI v) f = (nI (pp_num (pp_A t gt) k q v).2, f') ∧ f' 16 = nI (pp_num (pp_A t gt) k q v).1 ∧ f' 17 = 0 ∧ ∀ x, x ≠ 16 → x ≠ 17 → f' x = f x := by
  intro k
  induction k with
  | zero => intro j q v f h17 h16 hq; exact ⟨f, rfl, h16, h17, fun _ _ _ => rfl⟩
  | succ k ih =>
    intro j q v f h17 h16 hq
    simp only [d_X13_readsNumber_L1, pp_num]
    have hd : d_X13_isDigit t f gt = if pm_in (pp_A t gt q) 48 57 = 0 then 0 else 1 := by
      unfold d_X13_isDigit
      rw [if_pos h17, pp_bh ht h16 hq (by decide), Nat.add_zero]
    rw [hd]
    by_cases hz : pm_in (pp_A t gt q) 48 57 = 0
    · rw [if_pos (if_pos hz), if_pos hz]
      exact ⟨f, rfl, h16, h17, fun _ _ _ => rfl⟩
    · rw [if_neg (by rw [if_neg hz]; decide), if_neg hz]
      obtain ⟨h1, d, d1, d2, d3, d4⟩ := pp_dgt hz
      rw [h16, pm_n_nI (by omega), d3, d4, pm_n_nI (by omega)]
      have ev : 10 * nI v + nI d - 48 = nI (10 * v + (d - 48)) := by
        rw [show (48 : Int32) = nI 48 from rfl, show (10 : Int32) = nI 10 from rfl, pk_mul, nI_add, pq_sub (by omega), show 10 * v + d - 48 = 10 * v + (d - 48) by omega]
      rw [ev]
      obtain ⟨f', e1, e2, e3, e4⟩ := ih (j + 1) (q + 1) (10 * v + (d - 48)) (upd f 16 (nI (q + 1))) ((pk_un (by decide)).trans h17) pk_us (by omega)
      exact ⟨f', e1, e2, e3, fun x h1 h2 => (e4 x h1 h2).trans (pk_un h1)⟩
theorem pp_rdn {k q : Nat} {f : Nat → Int32} (ht : t ≤ 60) (hk : 1 ≤ k) (h17 : f 17 = 0) (h16 : f 16 = nI q) (hq : q ≤ t) : ∃ f', d_X13_readsNumber k t f gt = (nI (pp_num (pp_A t gt) k q 0).2, f') ∧ f' 16 = nI (pp_num (pp_A t gt) k q 0).1 ∧ (((pp_num (pp_A t gt) k q 0).1 = q ∧ f' 17 = 1) ∨ (q < (pp_num (pp_A t gt) k q 0).1 ∧ f' 17 = 0 ∧ (pp_num (pp_A t gt) k q 0).1 ≤ t)) ∧ ∀ x, x ≠ 16 → x ≠ 17 → f' x = f x := by
  have hd : d_X13_isDigit t f gt = if pm_in (pp_A t gt q) 48 57 = 0 then 0 else 1 := by
    unfold d_X13_isDigit
    rw [if_pos h17, pp_bh ht h16 hq (by decide), Nat.add_zero]
  unfold d_X13_readsNumber
  rw [if_pos h17, hd]
  obtain ⟨k', rfl⟩ : ∃ k', k = k' + 1 := ⟨k - 1, by omega⟩
  by_cases hz : pm_in (pp_A t gt q) 48 57 = 0
  · rw [if_pos (if_pos hz), pp_rnWL pk_us]
    have e : pp_num (pp_A t gt) (k' + 1) q 0 = (q, 0) := by
      simp only [pp_num]
      rw [if_pos hz]
    rw [e]
    exact ⟨upd f 17 1, rfl, (pk_un (by decide)).trans h16, Or.inl ⟨rfl, pk_us⟩, fun x _ h2 => pk_un h2⟩
  · rw [if_neg (by rw [if_neg hz]; decide)]
    obtain ⟨f', e1, e2, e3, e4⟩ := pp_rnL (gt := gt) ht (k' + 1) 0 q 0 (upd f 17 0) pk_us ((pk_un (by decide)).trans h16) hq
    have hlt : q < (pp_num (pp_A t gt) (k' + 1) q 0).1 := by
      simp only [pp_num]
      rw [if_neg hz]
      have := pp_numG (A := pp_A t gt) k' (q + 1) (10 * 0 + (pm_n (pp_A t gt q) - 48))
      omega
    refine ⟨f', ?_, e2, Or.inr ⟨hlt, e3, (pp_numF (k' + 1) q 0 hq).2.1⟩, fun x h1 h2 => (e4 x h1 h2).trans (pk_un h2)⟩
    rw [show d_X13_readsNumber_L1 t gt (k' + 1) 0 0 (upd f 17 0) = _ from e1]
/-- what the reference's reading of a command says -/
def pp_RF (P : Nat × Nat × Nat × Nat) (x : Int32) (cm : Nat) (f gc : Nat → Int32) (m : (Nat → Int32) × (Nat → Int32)) : Prop :=
  m.1 16 = nI P.2.1 ∧ (∀ j, j ≠ 16 → j ≠ 17 → j ≠ 20 → m.1 j = f j) ∧ m.1 20 = nI (cm + 1) ∧ (∀ i, i < 3 * cm → m.2 i = gc i) ∧ ((P.1 = 1 ∧ m.1 17 = 0 ∧ m.2 (3 * cm) = x ∧ m.2 (3 * cm + 1) = nI P.2.2.1 ∧ m.2 (3 * cm + 2) = nI P.2.2.2) ∨ (P.1 = 0 ∧ m.1 17 = 1))
theorem pp_u3 {gc : Nat → Int32} {k : Nat} {a b c : Int32} : (∀ i, i < k → upd (upd (upd gc k a) (k + 1) b) (k + 2) c i = gc i) ∧ upd (upd (upd gc k a) (k + 1) b) (k + 2) c k = a ∧ upd (upd (upd gc k a) (k + 1) b) (k + 2) c (k + 1) = b ∧ upd (upd (upd gc k a) (k + 1) b) (k + 2) c (k + 2) = c :=
  ⟨fun i hi => by simp (disch := omega) only [pk_un], by simp (disch := omega) only [pk_us, pk_un], by simp (disch := omega) only [pk_us, pk_un], pk_us⟩
theorem pp_rd0 {w : List Nat} {x : Int32} {cm q : Nat} {f gc : Nat → Int32} (ht : t ≤ 60) (hw : ∀ i, i < w.length → w.getD (0 + i) 0 = w.getD i 0 ∧ w.getD i 0 < 128) (h17 : f 17 = 0) (h16 : f 16 = nI q) (hq : q ≤ t) : pp_RF (pp_cmd (pp_A t gt) w 0 [] 0 q) x cm f gc (d_X13_reads x 0 0 w [] cm t f gt gc) := by
  unfold d_X13_reads
  rw [if_pos (by decide), if_pos (by decide)]
  obtain ⟨f1, e1, e2, e3, e4⟩ := pp_sk (f := upd f 20 (nI (cm + 1))) (gt := gt) ht hw ((pk_un (by decide)).trans h17) ((pk_un (by decide)).trans h16) hq
  rw [e1, show d_X13_skip [] t f1 gt = f1 from rfl]
  unfold pp_cmd
  have hf : ∀ j, j ≠ 16 → j ≠ 17 → j ≠ 20 → f1 j = f j := fun j a b c => (e4 j a b).trans (pk_un c)
  have h20 : f1 20 = nI (cm + 1) := (e4 20 (by decide) (by decide)).trans pk_us
  rcases e3 with ⟨a, b, c⟩ | ⟨a, b⟩
  · rw [if_neg (by omega), if_pos rfl]
    exact ⟨e2.trans (by rw [a]), hf, h20, pp_u3.1, Or.inl ⟨rfl, b, pp_u3.2.1, pp_u3.2.2.1, pp_u3.2.2.2⟩⟩
  · rw [if_pos a]
    exact ⟨e2, hf, h20, pp_u3.1, Or.inr ⟨rfl, b⟩⟩
theorem pp_rd1 {w : List Nat} {x : Int32} {cm q k1 : Nat} {f gc : Nat → Int32} (ht : t ≤ 60) (h1 : 1 ≤ k1) (h4 : k1 ≤ 4) (hw : ∀ i, i < w.length → w.getD (0 + i) 0 = w.getD i 0 ∧ w.getD i 0 < 128) (h17 : f 17 = 0) (h16 : f 16 = nI q) (hq : q ≤ t) : pp_RF (pp_cmd (pp_A t gt) w k1 [] 0 q) x cm f gc (d_X13_reads x k1 0 w [] cm t f gt gc) := by
  unfold d_X13_reads
  rw [if_neg (fun e => by rw [show (0 : Int32) = nI 0 from rfl, nI_leI (by omega) (by decide)] at e; omega), if_pos (by decide)]
  obtain ⟨f1, e1, e2, e3, e4⟩ := pp_sk (f := upd f 20 (nI (cm + 1))) (gt := gt) ht hw ((pk_un (by decide)).trans h17) ((pk_un (by decide)).trans h16) hq
  rw [e1]
  unfold pp_cmd
  have hf : ∀ j, j ≠ 16 → j ≠ 17 → j ≠ 20 → f1 j = f j := fun j a b c => (e4 j a b).trans (pk_un c)
  have h20 : f1 20 = nI (cm + 1) := (e4 20 (by decide) (by decide)).trans pk_us
  rcases e3 with ⟨a, b, c⟩ | ⟨a, b⟩
  · rw [if_neg (by omega), if_neg (by omega)]
    obtain ⟨f2, g1, g2, g3, g4⟩ := pp_rdn (gt := gt) (k := k1) ht h1 b (by rw [e2, a]) c
    rw [g1, show d_X13_skip [] t (nI (pp_num (pp_A t gt) k1 (q + w.length) 0).2, f2).2 gt = f2 from rfl]
    have hf2 : ∀ j, j ≠ 16 → j ≠ 17 → j ≠ 20 → f2 j = f j := fun j a b c => (g4 j a b).trans (hf j a b c)
    have h202 : f2 20 = nI (cm + 1) := (g4 20 (by decide) (by decide)).trans h20
    rcases g3 with ⟨a2, b2⟩ | ⟨a2, b2, c2⟩
    · rw [if_pos a2]
      exact ⟨g2.trans (by rw [a2]), hf2, h202, pp_u3.1, Or.inr ⟨rfl, b2⟩⟩
    · rw [if_neg (by omega), if_pos rfl]
      exact ⟨g2, hf2, h202, pp_u3.1, Or.inl ⟨rfl, b2, pp_u3.2.1, pp_u3.2.2.1, pp_u3.2.2.2⟩⟩
  · rw [if_pos a]
    obtain ⟨f2, g1, g2, g3, g4⟩ := pp_rnW (gt := gt) (k := k1) (t := t) b
    rw [g1, show d_X13_skip [] t ((0 : Int32), f2).2 gt = f2 from rfl]
    exact ⟨g3.trans e2, fun j a b c => (g4 j b).trans (hf j a b c), (g4 20 (by decide)).trans h20, pp_u3.1, Or.inr ⟨rfl, g2⟩⟩
theorem pp_rd2 {w : List Nat} {x : Int32} {cm q k1 k2 s : Nat} {f gc : Nat → Int32} (ht : t ≤ 60) (h1 : 1 ≤ k1) (h4 : k1 ≤ 4) (h12 : 1 ≤ k2) (h42 : k2 ≤ 4) (hs : s < 128) (hw : ∀ i, i < w.length → w.getD (0 + i) 0 = w.getD i 0 ∧ w.getD i 0 < 128) (h17 : f 17 = 0) (h16 : f 16 = nI q) (hq : q ≤ t) : pp_RF (pp_cmd (pp_A t gt) w k1 [s] k2 q) x cm f gc (d_X13_reads x k1 k2 w [s] cm t f gt gc) := by
  unfold d_X13_reads
  rw [if_neg (fun e => by rw [show (0 : Int32) = nI 0 from rfl, nI_leI (by omega) (by decide)] at e; omega), if_neg (fun e => by rw [show (0 : Int32) = nI 0 from rfl, nI_leI (by omega) (by decide)] at e; omega)]
  obtain ⟨f1, e1, e2, e3, e4⟩ := pp_sk (f := upd f 20 (nI (cm + 1))) (gt := gt) ht hw ((pk_un (by decide)).trans h17) ((pk_un (by decide)).trans h16) hq
  rw [e1]
  unfold pp_cmd
  have hf : ∀ j, j ≠ 16 → j ≠ 17 → j ≠ 20 → f1 j = f j := fun j a b c => (e4 j a b).trans (pk_un c)
  have h20 : f1 20 = nI (cm + 1) := (e4 20 (by decide) (by decide)).trans pk_us
  -- what is wrong stays so
  have bad : ∀ (f2 : Nat → Int32) (v : Int32) (p : Nat), f2 17 = 1 → f2 16 = nI p → (∀ j, j ≠ 16 → j ≠ 17 → j ≠ 20 → f2 j = f j) → f2 20 = nI (cm + 1) → pp_RF (0, p, 0, 0) x cm f gc ((d_X13_readsNumber k2 t f2 gt).2, upd (upd (upd gc (3 * cm) x) (3 * cm + 1) v) (3 * cm + 2) (d_X13_readsNumber k2 t f2 gt).1) := by
    intro f2 v p b1 b2 b3 b4
    obtain ⟨f3, g1, g2, g3, g4⟩ := pp_rnW (gt := gt) (k := k2) (t := t) b1
    rw [g1]
    exact ⟨g3.trans b2, fun j a b c => (g4 j b).trans (b3 j a b c), (g4 20 (by decide)).trans b4, pp_u3.1, Or.inr ⟨rfl, g2⟩⟩
  rcases e3 with ⟨a, b, c⟩ | ⟨a, b⟩
  · rw [if_neg (by omega), if_neg (by omega)]
    obtain ⟨f2, g1, g2, g3, g4⟩ := pp_rdn (gt := gt) (k := k1) ht h1 b (by rw [e2, a]) c
    rw [g1]
    try dsimp only
    have hf2 : ∀ j, j ≠ 16 → j ≠ 17 → j ≠ 20 → f2 j = f j := fun j a b c => (g4 j a b).trans (hf j a b c)
    have h202 : f2 20 = nI (cm + 1) := (g4 20 (by decide) (by decide)).trans h20
    rcases g3 with ⟨a2, b2⟩ | ⟨a2, b2, c2⟩
    · rw [if_pos a2, pp_skW b2]
      exact bad f2 _ _ b2 (by rw [g2, a2]) hf2 h202
    · rw [if_neg (by omega), if_neg (by omega)]
      generalize pp_num (pp_A t gt) k1 (q + w.length) 0 = N at a2 g2 c2 ⊢
      obtain ⟨f3, x1, x2, x3, x4⟩ := pp_sk (w := [s]) (f := f2) (gt := gt) ht (fun i hi => by
        have hi0 : i = 0 := by rw [List.length_singleton] at hi; omega
        subst hi0
        exact ⟨rfl, hs⟩) b2 g2 c2
      rw [x1]
      have hf3 : ∀ j, j ≠ 16 → j ≠ 17 → j ≠ 20 → f3 j = f j := fun j a b c => (x4 j a b).trans (hf2 j a b c)
      have h203 : f3 20 = nI (cm + 1) := (x4 20 (by decide) (by decide)).trans h202
      rcases x3 with ⟨a3, b3, c3⟩ | ⟨a3, b3⟩
      · rw [if_neg (by omega)]
        obtain ⟨f4, y1, y2, y3, y4⟩ := pp_rdn (gt := gt) (k := k2) ht h12 b3 (by rw [x2, a3]) c3
        rw [y1]
        try dsimp only
        have hf4 : ∀ j, j ≠ 16 → j ≠ 17 → j ≠ 20 → f4 j = f j := fun j a b c => (y4 j a b).trans (hf3 j a b c)
        have h204 : f4 20 = nI (cm + 1) := (y4 20 (by decide) (by decide)).trans h203
        rcases y3 with ⟨a5, b5⟩ | ⟨a5, b5, c5⟩
        · rw [if_pos a5]
          exact ⟨y2.trans (by rw [a5]), hf4, h204, pp_u3.1, Or.inr ⟨rfl, b5⟩⟩
        · rw [if_neg (by omega)]
          exact ⟨y2, hf4, h204, pp_u3.1, Or.inl ⟨rfl, b5, pp_u3.2.1, pp_u3.2.2.1, pp_u3.2.2.2⟩⟩
      · rw [if_pos a3]
        exact bad f3 _ _ b3 x2 hf3 h203
  · rw [if_pos a]
    obtain ⟨f2, g1, g2, g3, g4⟩ := pp_rnW (gt := gt) (k := k1) (t := t) b
    rw [g1]
    try dsimp only
    rw [pp_skW g2]
    exact bad f2 _ _ g2 (g3.trans e2) (fun j a b c => (g4 j b).trans (hf j a b c)) ((g4 20 (by decide)).trans h20)
theorem pp_kE {q : Nat} {f : Nat → Int32} (ht : t ≤ 60) (h16 : f 16 = nI q) (hq : q ≤ t) : d_X13_kind t f gt = pp_kd (pp_A t gt) q := by
  unfold d_X13_kind pp_kd
  rw [pp_bh (w := 0) ht h16 hq (by decide), pp_bh (w := 1) ht h16 hq (by decide), pp_bh (w := 2) ht h16 hq (by decide), Nat.add_zero]
theorem pp_etaP {P : Nat × Nat × Nat × Nat} {x : Int32} {cm : Nat} {f gc : Nat → Int32} {m : (Nat → Int32) × (Nat → Int32)} (h : pp_RF P x cm f gc m) : pp_RF P x cm f gc (m.1, m.2) := h
theorem pp_rf {c cm q : Nat} {f gc : Nat → Int32} (hc : c < 11) (ht : t ≤ 60) (hk : pp_kd (pp_A t gt) q = nI (pp_ch c)) (h17 : f 17 = 0) (h16 : f 16 = nI q) (hq : q ≤ t) : pp_RF (pp_c (pp_A t gt) q c) (nI (pp_ch c)) cm f gc (d_X13_readsCommand cm t f gt gc) := by
  unfold d_X13_readsCommand
  rw [if_pos h17, pp_kE ht h16 hq, hk]
  clear hk
  rcases (show c = 0 ∨ c = 1 ∨ c = 2 ∨ c = 3 ∨ c = 4 ∨ c = 5 ∨ c = 6 ∨ c = 7 ∨ c = 8 ∨ c = 9 ∨ c = 10 by omega) with rfl | rfl | rfl | rfl | rfl | rfl | rfl | rfl | rfl | rfl | rfl
  · rw [if_neg (show ¬ nI (pp_ch 0) = 97 by decide), if_neg (show ¬ nI (pp_ch 0) = 99 by decide), if_neg (show ¬ nI (pp_ch 0) = 100 by decide), if_neg (show ¬ nI (pp_ch 0) = 108 by decide), if_neg (show ¬ nI (pp_ch 0) = 109 by decide), if_neg (show ¬ nI (pp_ch 0) = 112 by decide), if_neg (show ¬ nI (pp_ch 0) = 114 by decide), if_neg (show ¬ nI (pp_ch 0) = 115 by decide), if_neg (show ¬ nI (pp_ch 0) = 116 by decide), if_neg (show ¬ nI (pp_ch 0) = 117 by decide)]
    rw [show pp_c (pp_A t gt) q 0 = pp_cmd (pp_A t gt) [106, 111, 105, 110, 32] 2 [32] 2 q from rfl]
    exact pp_etaP (pp_rd2 (w := [106, 111, 105, 110, 32]) (s := 32) (k1 := 2) (k2 := 2) ht (by decide) (by decide) (by decide) (by decide) (by decide) (by decide +kernel) h17 h16 hq)
  · rw [if_pos (show nI (pp_ch 1) = 97 by decide)]
    rw [show pp_c (pp_A t gt) q 1 = pp_cmd (pp_A t gt) [97, 115, 115, 105, 103, 110, 32] 4 [] 0 q from rfl]
    exact pp_etaP (pp_rd1 (w := [97, 115, 115, 105, 103, 110, 32]) (k1 := 4) ht (by decide) (by decide) (by decide +kernel) h17 h16 hq)
  · rw [if_neg (show ¬ nI (pp_ch 2) = 97 by decide), if_neg (show ¬ nI (pp_ch 2) = 99 by decide), if_neg (show ¬ nI (pp_ch 2) = 100 by decide), if_neg (show ¬ nI (pp_ch 2) = 108 by decide), if_neg (show ¬ nI (pp_ch 2) = 109 by decide), if_neg (show ¬ nI (pp_ch 2) = 112 by decide), if_pos (show nI (pp_ch 2) = 114 by decide)]
    rw [show pp_c (pp_A t gt) q 2 = pp_cmd (pp_A t gt) [114, 117, 108, 101, 32] 1 [] 0 q from rfl]
    exact pp_etaP (pp_rd1 (w := [114, 117, 108, 101, 32]) (k1 := 1) ht (by decide) (by decide) (by decide +kernel) h17 h16 hq)
  · rw [if_neg (show ¬ nI (pp_ch 3) = 97 by decide), if_neg (show ¬ nI (pp_ch 3) = 99 by decide), if_neg (show ¬ nI (pp_ch 3) = 100 by decide), if_neg (show ¬ nI (pp_ch 3) = 108 by decide), if_neg (show ¬ nI (pp_ch 3) = 109 by decide), if_neg (show ¬ nI (pp_ch 3) = 112 by decide), if_neg (show ¬ nI (pp_ch 3) = 114 by decide), if_pos (show nI (pp_ch 3) = 115 by decide)]
    rw [show pp_c (pp_A t gt) q 3 = pp_cmd (pp_A t gt) [115, 101, 108, 108, 32] 1 [32] 2 q from rfl]
    exact pp_etaP (pp_rd2 (w := [115, 101, 108, 108, 32]) (s := 32) (k1 := 1) (k2 := 2) ht (by decide) (by decide) (by decide) (by decide) (by decide) (by decide +kernel) h17 h16 hq)
  · rw [if_neg (show ¬ nI (pp_ch 4) = 97 by decide), if_neg (show ¬ nI (pp_ch 4) = 99 by decide), if_neg (show ¬ nI (pp_ch 4) = 100 by decide), if_neg (show ¬ nI (pp_ch 4) = 108 by decide), if_neg (show ¬ nI (pp_ch 4) = 109 by decide), if_neg (show ¬ nI (pp_ch 4) = 112 by decide), if_neg (show ¬ nI (pp_ch 4) = 114 by decide), if_neg (show ¬ nI (pp_ch 4) = 115 by decide), if_neg (show ¬ nI (pp_ch 4) = 116 by decide), if_pos (show nI (pp_ch 4) = 117 by decide)]
    rw [show pp_c (pp_A t gt) q 4 = pp_cmd (pp_A t gt) [97, 117, 100, 105, 116, 32] 1 [] 0 q from rfl]
    exact pp_etaP (pp_rd1 (w := [97, 117, 100, 105, 116, 32]) (k1 := 1) ht (by decide) (by decide) (by decide +kernel) h17 h16 hq)
  · rw [if_neg (show ¬ nI (pp_ch 5) = 97 by decide), if_pos (show nI (pp_ch 5) = 99 by decide)]
    rw [show pp_c (pp_A t gt) q 5 = pp_cmd (pp_A t gt) [99, 108, 111, 115, 101] 0 [] 0 q from rfl]
    exact pp_etaP (pp_rd0 (w := [99, 108, 111, 115, 101]) ht (by decide +kernel) h17 h16 hq)
  · rw [if_neg (show ¬ nI (pp_ch 6) = 97 by decide), if_neg (show ¬ nI (pp_ch 6) = 99 by decide), if_neg (show ¬ nI (pp_ch 6) = 100 by decide), if_pos (show nI (pp_ch 6) = 108 by decide)]
    rw [show pp_c (pp_A t gt) q 6 = pp_cmd (pp_A t gt) [108, 105, 110, 107, 32] 1 [45] 1 q from rfl]
    exact pp_etaP (pp_rd2 (w := [108, 105, 110, 107, 32]) (s := 45) (k1 := 1) (k2 := 1) ht (by decide) (by decide) (by decide) (by decide) (by decide) (by decide +kernel) h17 h16 hq)
  · rw [if_neg (show ¬ nI (pp_ch 7) = 97 by decide), if_neg (show ¬ nI (pp_ch 7) = 99 by decide), if_neg (show ¬ nI (pp_ch 7) = 100 by decide), if_neg (show ¬ nI (pp_ch 7) = 108 by decide), if_neg (show ¬ nI (pp_ch 7) = 109 by decide), if_neg (show ¬ nI (pp_ch 7) = 112 by decide), if_neg (show ¬ nI (pp_ch 7) = 114 by decide), if_neg (show ¬ nI (pp_ch 7) = 115 by decide), if_pos (show nI (pp_ch 7) = 116 by decide)]
    rw [show pp_c (pp_A t gt) q 7 = pp_cmd (pp_A t gt) [99, 117, 116, 32] 1 [45] 1 q from rfl]
    exact pp_etaP (pp_rd2 (w := [99, 117, 116, 32]) (s := 45) (k1 := 1) (k2 := 1) ht (by decide) (by decide) (by decide) (by decide) (by decide) (by decide +kernel) h17 h16 hq)
  · rw [if_neg (show ¬ nI (pp_ch 8) = 97 by decide), if_neg (show ¬ nI (pp_ch 8) = 99 by decide), if_neg (show ¬ nI (pp_ch 8) = 100 by decide), if_neg (show ¬ nI (pp_ch 8) = 108 by decide), if_neg (show ¬ nI (pp_ch 8) = 109 by decide), if_pos (show nI (pp_ch 8) = 112 by decide)]
    rw [show pp_c (pp_A t gt) q 8 = pp_cmd (pp_A t gt) [112, 97, 114, 100, 111, 110, 32] 1 [] 0 q from rfl]
    exact pp_etaP (pp_rd1 (w := [112, 97, 114, 100, 111, 110, 32]) (k1 := 1) ht (by decide) (by decide) (by decide +kernel) h17 h16 hq)
  · rw [if_neg (show ¬ nI (pp_ch 9) = 97 by decide), if_neg (show ¬ nI (pp_ch 9) = 99 by decide), if_neg (show ¬ nI (pp_ch 9) = 100 by decide), if_neg (show ¬ nI (pp_ch 9) = 108 by decide), if_pos (show nI (pp_ch 9) = 109 by decide)]
    rw [show pp_c (pp_A t gt) q 9 = pp_cmd (pp_A t gt) [108, 105, 109, 105, 116, 32] 2 [] 0 q from rfl]
    exact pp_etaP (pp_rd1 (w := [108, 105, 109, 105, 116, 32]) (k1 := 2) ht (by decide) (by decide) (by decide +kernel) h17 h16 hq)
  · rw [if_neg (show ¬ nI (pp_ch 10) = 97 by decide), if_neg (show ¬ nI (pp_ch 10) = 99 by decide), if_pos (show nI (pp_ch 10) = 100 by decide)]
    rw [show pp_c (pp_A t gt) q 10 = pp_cmd (pp_A t gt) [115, 101, 101, 100, 32] 4 [] 0 q from rfl]
    exact pp_etaP (pp_rd1 (w := [115, 101, 101, 100, 32]) (k1 := 4) ht (by decide) (by decide) (by decide +kernel) h17 h16 hq)
end PPR
