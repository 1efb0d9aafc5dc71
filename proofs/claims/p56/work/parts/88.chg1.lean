/-! the changes over a world -/
theorem pw_asF (x : Int32) (n : Nat) (r q rm : Nat → Int32) {p : Nat} (hp : 56 ≤ p) : ∀ (k j : Nat) (a : Int32) (f : Nat → Int32), j + k ≤ 7 → (d_X7_assignTotal_L1 x n r q rm k j a f).2 p = f p := by
  intro k
  induction k with
  | zero => intro j a f _; rfl
  | succ k ih =>
    intro j a f h
    simp only [d_X7_assignTotal_L1]
    split <;> rw [ih _ _ _ (by omega), pk_un (by omega)]
theorem pw_asC (x : Int32) (n : Nat) (r q rm : Nat → Int32) : ∀ (k j a : Nat) (f : Nat → Int32), ∃ b, b ≤ a + k ∧ (d_X7_assignTotal_L1 x n r q rm k j (nI a) f).1 = nI b := by
  intro k
  induction k with
  | zero => intro j a f; exact ⟨a, by omega, rfl⟩
  | succ k ih =>
    intro j a f
    simp only [d_X7_assignTotal_L1]
    split
    · rw [Int32.add_zero]
      obtain ⟨b, hb, e⟩ := ih (j + 1) a (upd f (7 + 6 * j + 2) (((d_X1_apportion x (r 1) n r q rm).1) j))
      exact ⟨b, by omega, e⟩
    · rw [nI_1]
      obtain ⟨b, hb, e⟩ := ih (j + 1) (a + 1) (upd f (7 + 6 * j + 2) (((d_X1_apportion x (r 1) n r q rm).1) j))
      exact ⟨b, by omega, e⟩
theorem pw_clF {p : Nat} (hp : 56 ≤ p) : ∀ (k j : Nat) (a : Int32) (f : Nat → Int32), j + k ≤ 7 → (d_X7_closeMonth_L1 k j a f).2 p = f p := by
  intro k
  induction k with
  | zero => intro j a f _; rfl
  | succ k ih =>
    intro j a f h
    simp only [d_X7_closeMonth_L1]
    split
    · rw [ih _ _ _ (by omega), pk_un (by omega), pk_un (by omega), pk_un (by omega), pk_un (by omega)]
    · rw [ih _ _ _ (by omega), pk_un (by omega), pk_un (by omega)]
theorem pw_auF (w n : Nat) (r dr : Nat → Int32) (h7 : n ≤ 7) (hd : ∀ i, i < w → pm_n ((d_X7_drawMembers w n r dr).2 i) < n) {p : Nat} (hp : 56 ≤ p) : ∀ (k j : Nat) (a : Int32) (f : Nat → Int32), j + k ≤ w → (d_X7_auditMembers_L1 w n r dr k j a f).2 p = f p := by
  intro k
  induction k with
  | zero => intro j a f _; rfl
  | succ k ih =>
    intro j a f h
    have := hd j (by omega)
    simp only [d_X7_auditMembers_L1]
    (repeat' split) <;> first | rw [ih _ _ _ (by omega), pk_un (by omega), pk_un (by omega)] | rw [ih _ _ _ (by omega)]
theorem pw_auC (w n : Nat) (r dr : Nat → Int32) : ∀ (k j a : Nat) (f : Nat → Int32), ∃ b, b ≤ a + k ∧ (d_X7_auditMembers_L1 w n r dr k j (nI a) f).1 = nI b := by
  intro k
  induction k with
  | zero => intro j a f; exact ⟨a, by omega, rfl⟩
  | succ k ih =>
    intro j a f
    simp only [d_X7_auditMembers_L1]
    (repeat' split)
    · obtain ⟨b, hb, e⟩ := ih (j + 1) a f
      exact ⟨b, by omega, e⟩
    · rw [show Int32.ofInt 1 = 1 from rfl, nI_1]
      obtain ⟨b, hb, e⟩ := ih (j + 1) (a + 1) _
      exact ⟨b, by omega, e⟩
    · obtain ⟨b, hb, e⟩ := ih (j + 1) a f
      exact ⟨b, by omega, e⟩
theorem pw_loC (r : Nat → Int32) : ∀ (k j a : Nat), ∃ b, b ≤ a + k ∧ d_X10_loyalCount_L1 r k j (nI a) = nI b := by
  intro k
  induction k with
  | zero => intro j a; exact ⟨a, by omega, rfl⟩
  | succ k ih =>
    intro j a
    simp only [d_X10_loyalCount_L1]
    split
    · rw [nI_1]
      obtain ⟨b, hb, e⟩ := ih (j + 1) (a + 1)
      exact ⟨b, by omega, e⟩
    · rw [Int32.add_zero]
      obtain ⟨b, hb, e⟩ := ih (j + 1) a
      exact ⟨b, by omega, e⟩
theorem pw_ge {v : Int32} {k : Nat} (h : v = nI k) (hk : k ≤ 100000) : ¬ v < 0 := by rw [h]; exact nI_pos (by omega)
section PWCH
variable {B n : Nat} {x y : Int32} {r q rm dr : Nat → Int32}
/-- what a change that is done leaves: members, links behind them, its answer -/
def pw_ok (c n : Nat) (v : Int32) (r r' : Nat → Int32) : Prop := ¬ v < 0 ∧ (c ≠ 0 → r' 0 = r 0) ∧ (c = 0 → v = nI n ∧ r' 0 = nI (n + 1)) ∧ (c = 9 → v = r 3)
theorem pw_dm3 (h : (d_X7_refusalOfSale x y n r).1 = 0) (h7 : n ≤ 7) : (∃ i, i < n ∧ x = nI i) ∧ ∃ k, y = nI k ∧ k ≤ 99 := by
  unfold d_X7_refusalOfSale at h
  by_cases h1 : d_X10_hasMember x n r = 0
  · rw [if_pos h1] at h; exact absurd h (by decide)
  rw [if_neg h1] at h
  by_cases h2 : pm_in y 1 99 = 0
  · rw [if_pos h2] at h; exact absurd h (by decide)
  obtain ⟨k, hk, -, hk2⟩ := pm_inR (lo := 1) (hi := 99) (by decide) (by decide) h2
  exact ⟨pm_hmx h7 h1, k, hk, hk2⟩
theorem pw_dm6 (h : (d_X7_refusalOfPair x y n r).1 = 0) (h7 : n ≤ 7) : (∃ i, i < n ∧ x = nI i) ∧ ∃ i, i < n ∧ y = nI i := by
  unfold d_X7_refusalOfPair at h
  by_cases h1 : d_X10_hasMember x n r = 0
  · rw [if_pos h1] at h; exact absurd h (by decide)
  rw [if_neg h1] at h
  by_cases h2 : d_X10_hasMember y n r = 0
  · rw [if_pos h2] at h; exact absurd h (by decide)
  exact ⟨pm_hmx h7 h1, pm_hmx h7 h2⟩
theorem pw_dm6a (h : (d_X7_refusalOfLink x y n r).1 = 0) : (d_X7_refusalOfPair x y n r).1 = 0 := by
  unfold d_X7_refusalOfLink at h
  by_cases h1 : (d_X7_refusalOfPair x y n r).1 = 0
  · exact h1
  · rw [if_neg h1] at h; exact h
theorem pw_dm7a (h : (d_X7_refusalOfCut x y n r).1 = 0) : (d_X7_refusalOfPair x y n r).1 = 0 := by
  unfold d_X7_refusalOfCut at h
  by_cases h1 : (d_X7_refusalOfPair x y n r).1 = 0
  · exact h1
  · rw [if_neg h1] at h; exact h
theorem pw_dm8 (h : (d_X7_refusalOfPardon x n r).1 = 0) (h7 : n ≤ 7) : ∃ i, i < n ∧ x = nI i := by
  unfold d_X7_refusalOfPardon at h
  by_cases h1 : d_X10_hasMember x n r = 0
  · rw [if_pos h1] at h; exact absurd h (by decide)
  exact pm_hmx h7 h1
theorem pw_dm4 (h : (d_X7_refusalOfAudit x n r).1 = 0) (h7 : n ≤ 7) : ∃ w, x = nI w ∧ 1 ≤ w ∧ w ≤ n := by
  unfold d_X7_refusalOfAudit at h
  by_cases h1 : pm_in x 1 7 = 0
  · rw [if_pos h1] at h; exact absurd h (by decide)
  rw [if_neg h1] at h
  obtain ⟨k, rfl, hk1, hk2⟩ := pm_inR (lo := 1) (hi := 7) (by decide) (by decide) h1
  by_cases h2 : nI n < nI k
  · rw [if_pos h2] at h; exact absurd (show (6 : Int32) = 0 from h) (by decide)
  · exact ⟨k, rfl, hk1, by have := mt (nI_ltI (a := n) (b := k) (by omega) (by omega)).mpr h2; omega⟩
theorem pw_dok {c : Nat} (hc : c < 11) (hI : pm_I B n r) (h0 : (d_X7_ref c x y n r).1 = 0) : pw_ok c n (d_X7_do c x y n r q rm dr).1 r (d_X7_do c x y n r q rm dr).2.1 ∧ pm_I (B + 693) (pm_n ((d_X7_do c x y n r q rm dr).2.1 0)) (d_X7_do c x y n r q rm dr).2.1 ∧ ∀ k, 56 ≤ k → (d_X7_do c x y n r q rm dr).2.1 k = r k := by
  obtain ⟨⟨i0, h7, i1, ⟨i2, i2l⟩, ⟨it, i3, i3a, i3b⟩, ia, ib, i5, i6, iB⟩, iw, il⟩ := id hI
  obtain ⟨g, hR⟩ := pw_rs r h7
  have hE : ∃ n', pm_I (B + 693) n' (d_X7_do c x y n r q rm dr).2.1 := by
    rcases pm_eqc (c := c) (x := x) (y := y) (q := q) (rm := rm) (dr := dr) (f := fun _ => 0) (gq := fun _ => 0) hc hR hI with ⟨-, -, -, n', -, h⟩ | ⟨h | h, -⟩ | ⟨h, -⟩
    · exact ⟨n', h⟩
    · rw [h0] at h; exact absurd h (by decide)
    · rw [h0] at h; exact absurd h (by decide)
    · rw [h0] at h; exact absurd h (by decide)
  have hE2 : pm_I (B + 693) (pm_n ((d_X7_do c x y n r q rm dr).2.1 0)) (d_X7_do c x y n r q rm dr).2.1 := by
    obtain ⟨n', h⟩ := hE
    have e : pm_n ((d_X7_do c x y n r q rm dr).2.1 0) = n' := by rw [h.1.1]; exact pm_n_nI (by have := h.1.2.1; omega)
    rw [e]; exact h
  refine ⟨?_, hE2, ?_⟩
  · match c, hc with
    | 0, _ =>
      have e0 : (pm_r6 r n x y 0 0 0 0) 0 = r 0 := by
        unfold pm_r6; rw [pk_un (by omega), pk_un (by omega), pk_un (by omega), pk_un (by omega), pk_un (by omega), pk_un (by omega)]
      refine ⟨nI_pos (by omega), fun h => absurd rfl h, fun _ => ⟨rfl, ?_⟩, fun h => absurd h (by decide)⟩
      show (upd (pm_r6 r n x y 0 0 0 0) 0 ((pm_r6 r n x y 0 0 0 0) 0 + 1)) 0 = _
      rw [pk_us, e0, i0, nI_1]
    | 1, _ =>
      obtain ⟨b, hb, e⟩ := pw_asC x n r q rm n 0 0 r
      exact ⟨pw_ge (show (d_X7_assignTotal_L1 x n r q rm n 0 0 r).1 = nI b from e) (by omega), fun _ => d_X7_assign_fr _ _ _ _ _ (by decide) _ _ _ _, fun h => absurd h (by decide), fun h => absurd h (by decide)⟩
    | 2, _ =>
      refine ⟨?_, fun _ => (pk_un (by decide) : upd r 1 x 0 = r 0), fun h => absurd h (by decide), fun h => absurd h (by decide)⟩
      show ¬ r 1 < 0
      rcases i1 with e | e <;> rw [e] <;> decide
    | 3, _ =>
      obtain ⟨⟨i, hi, rfl⟩, k, rfl, hk⟩ := pw_dm3 (pm_q0 h0) h7
      obtain ⟨⟨w0, w0a, w0b⟩, -, -, ⟨w3, w3a⟩, -⟩ := iw i hi
      refine ⟨pw_ge (k := pm_n (r (7 + 6 * i + 3)) + k) ?_ (by omega), fun _ => (pk_un (by omega) : upd r (7 + 6 * pm_n (nI i) + 3) (r (7 + 6 * pm_n (nI i) + 3) + nI k) 0 = r 0), fun h => absurd h (by decide), fun h => absurd h (by decide)⟩
      show r (7 + 6 * pm_n (nI i) + 3) + nI k = _
      rw [pm_n_nI (by omega), w3, pm_n_nI (by omega), nI_add]
    | 4, _ =>
      obtain ⟨w, rfl, hw1, hwn⟩ := pw_dm4 (pm_q0 h0) h7
      obtain ⟨b, hb, e⟩ := pw_auC (pm_n (nI w)) n r dr (pm_n (nI w)) 0 0 (upd r 2 ((d_X7_drawMembers (pm_n (nI w)) n r dr).1))
      rw [pm_n_nI (i := w) (by omega)] at hb
      exact ⟨pw_ge (show (d_X7_auditMembers_L1 (pm_n (nI w)) n r dr (pm_n (nI w)) 0 0 (upd r 2 ((d_X7_drawMembers (pm_n (nI w)) n r dr).1))).1 = nI b from e) (by omega), fun _ => (d_X7_audit_fr _ _ _ _ (by decide) _ _ _ _).trans (pk_un (by decide)), fun h => absurd h (by decide), fun h => absurd h (by decide)⟩
    | 5, _ =>
      obtain ⟨⟨s0, s1, s2, s3, s4, s5, s6⟩, sm, sl⟩ := id hR
      have hc0 : pm_CL B 0 n 0 0 r g := ⟨rfl, rfl, by omega, ⟨s0, s1, s2, s3, s4, by rw [s5, Int32.add_zero], by rw [s6, Int32.add_zero]⟩, sm, sl, ⟨i0, h7, i1, ⟨i2, i2l⟩, ⟨it, i3, i3a, i3b⟩⟩, ⟨ia, ib, i5, i6, by omega⟩, iw, il⟩
      obtain ⟨a', ea, -, ha7, -⟩ := pm_clL n 0 B 0 0 0 r g (by omega) (by omega) hc0
      refine ⟨pw_ge (k := 3 * a') ?_ (by omega), fun _ => show (upd (upd (d_X7_closeMonth_L1 n 0 0 r).2 6 ((d_X7_closeMonth_L1 n 0 0 r).2 6 + (d_X7_closeMonth_L1 n 0 0 r).1)) 4 ((d_X7_closeMonth_L1 n 0 0 r).2 4 + 1)) 0 = r 0 from (pk_un (by decide)).trans ((pk_un (by decide)).trans (d_X7_close_fr (by decide) (by decide) _ _ _ _)), fun h => absurd h (by decide), fun h => absurd h (by decide)⟩
      show (d_X7_closeMonth_L1 n 0 0 r).1 * 3 = _
      rw [ea, show (3 : Int32) = nI 3 from rfl, pk_mul, Nat.mul_comm]
    | 6, _ =>
      obtain ⟨e1, e2⟩ := pm_ltN hE2.2.2.1
      exact ⟨pw_ge (k := pm_ls (d_X7_do 6 x y n r q rm dr).2.1) e1 (by omega), fun _ => (pk_un (by omega)).trans (pk_un (by omega)), fun h => absurd h (by decide), fun h => absurd h (by decide)⟩
    | 7, _ =>
      obtain ⟨e1, e2⟩ := pm_ltN hE2.2.2.1
      exact ⟨pw_ge (k := pm_ls (d_X7_do 7 x y n r q rm dr).2.1) e1 (by omega), fun _ => (pk_un (by omega)).trans (pk_un (by omega)), fun h => absurd h (by decide), fun h => absurd h (by decide)⟩
    | 8, _ =>
      obtain ⟨b, hb, e⟩ := pw_loC (upd (upd r (7 + 6 * pm_n x + 4) 0) (7 + 6 * pm_n x + 5) 0) n 0 0
      exact ⟨pw_ge (show d_X10_loyalCount_L1 (upd (upd r (7 + 6 * pm_n x + 4) 0) (7 + 6 * pm_n x + 5) 0) n 0 0 = nI b from e) (by omega), fun _ => show (upd (upd r (7 + 6 * pm_n x + 4) 0) (7 + 6 * pm_n x + 5) 0) 0 = r 0 from (pk_un (by omega)).trans (pk_un (by omega)), fun h => absurd h (by decide), fun h => absurd h (by decide)⟩
    | 9, _ => exact ⟨pw_ge (show r 3 = nI it from i3) (by omega), fun _ => (pk_un (by decide) : upd r 3 x 0 = r 0), fun h => absurd h (by decide), fun _ => rfl⟩
    | 10, _ => exact ⟨pw_ge (show r 2 = nI (pm_n (r 2)) from i2) (by omega), fun _ => (pk_un (by decide) : upd r 2 x 0 = r 0), fun h => absurd h (by decide), fun h => absurd h (by decide)⟩
    | c + 11, hc => exact absurd hc (by omega)
  · intro k hk
    match c, hc with
    | 0, _ =>
      have hn := d_ref0_n h7 (pm_q0 h0)
      show (upd (pm_r6 r n x y 0 0 0 0) 0 ((pm_r6 r n x y 0 0 0 0) 0 + 1)) k = _
      rw [pk_un (by omega)]
      unfold pm_r6; rw [pk_un (by omega), pk_un (by omega), pk_un (by omega), pk_un (by omega), pk_un (by omega), pk_un (by omega)]
    | 1, _ => exact pw_asF x n r q rm hk n 0 0 r (by omega)
    | 2, _ => exact (pk_un (by omega) : upd r 1 x k = r k)
    | 3, _ =>
      obtain ⟨⟨i, hi, rfl⟩, -⟩ := pw_dm3 (pm_q0 h0) h7
      have hi2 : pm_n (nI i) = i := pm_n_nI (by omega)
      exact (pk_un (by rw [hi2]; omega) : upd r (7 + 6 * pm_n (nI i) + 3) (r (7 + 6 * pm_n (nI i) + 3) + y) k = r k)
    | 4, _ =>
      obtain ⟨w, rfl, hw1, hwn⟩ := pw_dm4 (pm_q0 h0) h7
      have hw2 : pm_n (nI w) = w := pm_n_nI (by omega)
      refine (pw_auF (pm_n (nI w)) n r dr h7 (fun i hi => ?_) hk _ 0 _ _ (by omega)).trans (pk_un (by omega))
      rw [hw2] at hi ⊢
      unfold d_X7_drawMembers
      rw [if_neg (nI_ne0 (by omega) (by omega))]
      have h := (pm_drC (n := n) (s0 := pm_n (r 2)) (w := w) (by omega) h7 i2l (by omega) w 0 dr (by omega)).2.1 i (Nat.zero_le _) (by omega)
      show pm_n ((d_X7_drawMembers_L1 n w 0 (nI (pm_n (r 2))) 0 dr).2.2 i) < n
      rw [show (d_X7_drawMembers_L1 n w 0 (nI (pm_n (r 2))) 0 dr).2.2 i = _ from h]
      have h9 := (pm_dm_lt (n := n) (sd := (pm_ds n (pm_n (r 2)) i).1) (ds := (pm_ds n (pm_n (r 2)) i).2) (by omega) h7).1
      rw [pm_n_nI (by omega)]
      exact h9
    | 5, _ => exact (pk_un (by omega)).trans ((pk_un (by omega)).trans (pw_clF hk n 0 0 r (by omega)))
    | 6, _ =>
      obtain ⟨⟨i, hi, rfl⟩, j, hj, rfl⟩ := pw_dm6 (pw_dm6a (pm_q0 h0)) h7
      have e1 : pm_n (nI i) = i := pm_n_nI (by omega)
      have e2 : pm_n (nI j) = j := pm_n_nI (by omega)
      exact (pk_un (by rw [e2]; omega)).trans (pk_un (by rw [e1]; omega))
    | 7, _ =>
      obtain ⟨⟨i, hi, rfl⟩, j, hj, rfl⟩ := pw_dm6 (pw_dm7a (pm_q0 h0)) h7
      have e1 : pm_n (nI i) = i := pm_n_nI (by omega)
      have e2 : pm_n (nI j) = j := pm_n_nI (by omega)
      exact (pk_un (by rw [e2]; omega)).trans (pk_un (by rw [e1]; omega))
    | 8, _ =>
      obtain ⟨i, hi, rfl⟩ := pw_dm8 (pm_q0 h0) h7
      have e1 : pm_n (nI i) = i := pm_n_nI (by omega)
      exact (pk_un (by rw [e1]; omega)).trans (pk_un (by rw [e1]; omega))
    | 9, _ => exact (pk_un (by omega) : upd r 3 x k = r k)
    | 10, _ => exact (pk_un (by omega) : upd r 2 x k = r k)
    | c + 11, hc => exact absurd hc (by omega)
end PWCH
/-! the history's ring -/
def pw_hr (f : Nat → Nat → Int32) (o : Nat) (hs : List (Nat → Int32)) : Prop := ∀ p, p < hs.length → f ((o + p) % 8) = hs.getD (hs.length - 1 - p) (fun _ => 0)
theorem pw_hk {f : Nat → Nat → Int32} {o : Nat} {hs : List (Nat → Int32)} {r : Nat → Int32} (ho : o < 8) (hk : hs.length ≤ 8) (h : pw_hr f o hs) : pw_hr (fun i => if i = (o + hs.length) % 8 then r else f i) (if hs.length < 8 then o else (o + 1) % 8) ((r :: hs).take 8) := by
  intro p hp
  show (if ((if hs.length < 8 then o else (o + 1) % 8) + p) % 8 = (o + hs.length) % 8 then r else f (((if hs.length < 8 then o else (o + 1) % 8) + p) % 8)) = _
  by_cases h8 : hs.length < 8
  · have e : (r :: hs).take 8 = r :: hs := List.take_of_length_le (by simp; omega)
    rw [e] at hp ⊢
    rw [if_pos h8]
    rw [List.length_cons] at hp ⊢
    by_cases hpk : p = hs.length
    · subst hpk
      rw [if_pos rfl, show hs.length + 1 - 1 - hs.length = 0 by omega]; rfl
    · rw [if_neg (by omega), show hs.length + 1 - 1 - p = (hs.length - 1 - p) + 1 by omega, List.getD_cons_succ]
      exact h p (by omega)
  · have e8 : hs.length = 8 := by omega
    have el : ((r :: hs).take 8).length = 8 := by rw [List.length_take, List.length_cons]; omega
    rw [el] at hp ⊢
    rw [if_neg h8]
    by_cases hp7 : p = 7
    · subst hp7
      rw [if_pos (by omega)]; rfl
    · rw [if_neg (by omega), show 8 - 1 - p = (6 - p) + 1 by omega, List.take_succ_cons, List.getD_cons_succ]
      have h1 := h (p + 1) (by omega)
      rw [show ((o + 1) % 8 + p) % 8 = (o + (p + 1)) % 8 by omega, h1, show hs.length - 1 - (p + 1) = 6 - p by omega]
      simp only [List.getD_eq_getElem?_getD]
      rw [List.getElem?_take_of_lt (by omega)]
