/-! a month's close; links -/
def pm_CL (B a : Nat) (n : Nat) (ac am : Int32) (r g : Nat → Int32) : Prop := ac = nI a ∧ am = nI (3 * a) ∧ a ≤ 7 * 99 ∧
  (g 0 = r 0 ∧ g 1 = r 1 ∧ g 2 = r 2 ∧ g 3 = r 3 ∧ g 4 = r 4 ∧ g 5 = r 5 + (r 6 + ac) ∧ g 6 = r 6 + ac) ∧ (∀ i, i < n → pm_RSm r g i) ∧ pm_RSl r g ∧
  (r 0 = nI n ∧ n ≤ 7 ∧ (r 1 = 0 ∨ r 1 = 1) ∧ (r 2 = nI (pm_n (r 2)) ∧ pm_n (r 2) < 1024) ∧ (∃ t, r 3 = nI t ∧ 1 ≤ t ∧ t ≤ 99)) ∧ (∃ u v, r 5 = nI u ∧ r 6 = nI v ∧ u + v + a ≤ B) ∧ (∀ i, i < n → pm_rw r i) ∧ pm_Il n r
theorem pm_clL {n : Nat} : ∀ (k j : Nat) (B a : Nat) (ac am : Int32) (r g : Nat → Int32), j + k = n → a ≤ 99 * j → pm_CL B a n ac am r g →
    ∃ a', pm_CL (B + 99 * k) a' n (d_X7_closeMonth_L1 k j ac r).1 (d_X13_doClose_L1 k j am g).1 (d_X7_closeMonth_L1 k j ac r).2 (d_X13_doClose_L1 k j am g).2 := by
  intro k
  induction k with
  | zero => intro j B a ac am r g _ _ h; exact ⟨a, h⟩
  | succ k ih =>
    intro j B a ac am r g hjk ha h
    obtain ⟨ea, em, ha7, ⟨s0, s1, s2, s3, s4, s5, s6⟩, sm, sl, ⟨i0, i7, i1, ⟨i2, i2l⟩, ⟨it, i3, i3a, i3b⟩⟩, ⟨u, v, hu, hv, huv⟩, iw, il⟩ := h
    have hj : j < n := by omega
    obtain ⟨⟨w0, w0a, w0b⟩, w1, ⟨w2, w2a⟩, ⟨w3, w3a⟩, w4⟩ := id (iw j hj)
    obtain ⟨c0, c1, c2, c3, c4⟩ := id (sm j hj)
    have eo : pm_max 0 (r (7 + 6 * j + 3) - r (7 + 6 * j + 2)) = nI (pm_n (r (7 + 6 * j + 3)) - pm_n (r (7 + 6 * j + 2))) := by rw [w3, w2, pm_n_nI (by omega), pm_n_nI (by omega), pq_over (by omega) (by omega)]
    have eg : pm_mv g j = nI (pm_n (r (7 + 6 * j + 3)) - pm_n (r (7 + 6 * j + 2))) := by unfold pm_mv; rw [c3, c2, eo]
    have ew : r (7 + 6 * j + 3) - nI (pm_n (r (7 + 6 * j + 3)) - pm_n (r (7 + 6 * j + 2))) = nI (pm_n (r (7 + 6 * j + 3)) - (pm_n (r (7 + 6 * j + 3)) - pm_n (r (7 + 6 * j + 2)))) := by rw [w3, pm_n_nI (by omega), pq_sub (by omega)]
    have key : ∀ (r' g' : Nat → Int32), (∀ x, x < 49 → x ≠ 5 → x ≠ 7 + 6 * j + 3 → x ≠ 7 + 6 * j + 4 → x ≠ 7 + 6 * j + 5 → r' x = r x) → (∀ x, 49 ≤ x → r' x = r x) → r' 5 = r 5 + nI (pm_n (r (7 + 6 * j + 3)) - (pm_n (r (7 + 6 * j + 3)) - pm_n (r (7 + 6 * j + 2)))) → r' (7 + 6 * j + 3) = 0 →
        (∀ x, x < 42 → x ≠ 5 → x ≠ 6 → x ≠ 7 + 5 * j + 3 → x ≠ 7 + 5 * j + 4 → g' x = g x) → (∀ x, 42 ≤ x → g' x = g x) → g' 5 = g 5 + g (7 + 5 * j + 3) → g' 6 = g 6 + nI (pm_n (r (7 + 6 * j + 3)) - pm_n (r (7 + 6 * j + 2))) → g' (7 + 5 * j + 3) = 0 →
        ((r' (7 + 6 * j + 4) = 0 ∧ r' (7 + 6 * j + 5) = 0) ∨ (r' (7 + 6 * j + 4) = 1 ∧ r' (7 + 6 * j + 5) = 0) ∨ (r' (7 + 6 * j + 4) = 2 ∧ r' (7 + 6 * j + 5) = 0) ∨ (r' (7 + 6 * j + 4) = 0 ∧ r' (7 + 6 * j + 5) = 1) ∨ (r' (7 + 6 * j + 4) = 0 ∧ r' (7 + 6 * j + 5) = 2)) → g' (7 + 5 * j + 4) = r' (7 + 6 * j + 4) - r' (7 + 6 * j + 5) →
        pm_CL (B + 99) (a + (pm_n (r (7 + 6 * j + 3)) - pm_n (r (7 + 6 * j + 2)))) n (ac + nI (pm_n (r (7 + 6 * j + 3)) - pm_n (r (7 + 6 * j + 2)))) (am + 3 * nI (pm_n (r (7 + 6 * j + 3)) - pm_n (r (7 + 6 * j + 2)))) r' g' := by
      intro r' g' hr hrl h5 h3 hg hgl g5 g6 g3 hwb hst
      refine ⟨by rw [ea, nI_add], by rw [em, show (3 : Int32) = nI 3 from rfl, pk_mul, nI_add, Nat.mul_add], by omega, ⟨?_, ?_, ?_, ?_, ?_, ?_, ?_⟩, fun i hi => ?_, pm_RSl_of (fun i hi => hrl _ (by omega)) (fun k hk => hgl k hk) sl, ⟨?_, i7, ?_, ⟨?_, ?_⟩, ⟨it, ?_, i3a, i3b⟩⟩, ⟨u + (pm_n (r (7 + 6 * j + 3)) - (pm_n (r (7 + 6 * j + 3)) - pm_n (r (7 + 6 * j + 2)))), v, ?_, ?_, by omega⟩, fun i hi => ?_, pm_Il_of (fun i hi => hrl _ (by omega)) il⟩
      · rw [hg 0 (by omega) (by omega) (by omega) (by omega) (by omega), hr 0 (by omega) (by omega) (by omega) (by omega) (by omega)]; exact s0
      · rw [hg 1 (by omega) (by omega) (by omega) (by omega) (by omega), hr 1 (by omega) (by omega) (by omega) (by omega) (by omega)]; exact s1
      · rw [hg 2 (by omega) (by omega) (by omega) (by omega) (by omega), hr 2 (by omega) (by omega) (by omega) (by omega) (by omega)]; exact s2
      · rw [hg 3 (by omega) (by omega) (by omega) (by omega) (by omega), hr 3 (by omega) (by omega) (by omega) (by omega) (by omega)]; exact s3
      · rw [hg 4 (by omega) (by omega) (by omega) (by omega) (by omega), hr 4 (by omega) (by omega) (by omega) (by omega) (by omega)]; exact s4
      · rw [g5, h5, hr 6 (by omega) (by omega) (by omega) (by omega) (by omega), s5, c3, ea, hu, hv, w3, pm_n_nI (by omega), nI_add, nI_add, nI_add, nI_add, nI_add, nI_add, nI_add]
        congr 1
        omega
      · rw [g6, hr 6 (by omega) (by omega) (by omega) (by omega) (by omega), s6, Int32.add_assoc]
      · by_cases hij : i = j
        · subst hij
          refine ⟨?_, ?_, ?_, ?_, hst⟩
          · rw [hg _ (by omega) (by omega) (by omega) (by omega) (by omega), hr _ (by omega) (by omega) (by omega) (by omega) (by omega)]; exact c0
          · rw [hg _ (by omega) (by omega) (by omega) (by omega) (by omega), hr _ (by omega) (by omega) (by omega) (by omega) (by omega)]; exact c1
          · rw [hg _ (by omega) (by omega) (by omega) (by omega) (by omega), hr _ (by omega) (by omega) (by omega) (by omega) (by omega)]; exact c2
          · rw [g3, h3]
        · exact pm_RSm_of (fun w hw => hr _ (by omega) (by omega) (by omega) (by omega) (by omega)) (fun w hw => hg _ (by omega) (by omega) (by omega) (by omega) (by omega)) (sm i hi)
      · rw [hr 0 (by omega) (by omega) (by omega) (by omega) (by omega)]; exact i0
      · rw [hr 1 (by omega) (by omega) (by omega) (by omega) (by omega)]; exact i1
      · rw [hr 2 (by omega) (by omega) (by omega) (by omega) (by omega)]; exact i2
      · rw [hr 2 (by omega) (by omega) (by omega) (by omega) (by omega)]; exact i2l
      · rw [hr 3 (by omega) (by omega) (by omega) (by omega) (by omega)]; exact i3
      · rw [h5, hu, nI_add]
      · rw [hr 6 (by omega) (by omega) (by omega) (by omega) (by omega)]; exact hv
      · by_cases hij : i = j
        · subst hij
          unfold pm_rw
          rw [hr (7 + 6 * i + 0) (by omega) (by omega) (by omega) (by omega) (by omega), hr (7 + 6 * i + 1) (by omega) (by omega) (by omega) (by omega) (by omega), hr (7 + 6 * i + 2) (by omega) (by omega) (by omega) (by omega) (by omega), h3]
          exact ⟨⟨w0, w0a, w0b⟩, w1, ⟨w2, w2a⟩, ⟨by decide, by rw [show pm_n 0 = 0 from by decide]; omega⟩, hwb⟩
        · exact pm_rw_of (fun w hw => hr _ (by omega) (by omega) (by omega) (by omega) (by omega)) (iw i hi)
    have fin : ∀ (r' g' : Nat → Int32), pm_CL (B + 99) (a + (pm_n (r (7 + 6 * j + 3)) - pm_n (r (7 + 6 * j + 2)))) n (ac + nI (pm_n (r (7 + 6 * j + 3)) - pm_n (r (7 + 6 * j + 2)))) (am + 3 * nI (pm_n (r (7 + 6 * j + 3)) - pm_n (r (7 + 6 * j + 2)))) r' g' → ∃ a', pm_CL (B + 99 * (k + 1)) a' n (d_X7_closeMonth_L1 k (j + 1) (ac + nI (pm_n (r (7 + 6 * j + 3)) - pm_n (r (7 + 6 * j + 2)))) r').1 (d_X13_doClose_L1 k (j + 1) (am + 3 * nI (pm_n (r (7 + 6 * j + 3)) - pm_n (r (7 + 6 * j + 2)))) g').1 (d_X7_closeMonth_L1 k (j + 1) (ac + nI (pm_n (r (7 + 6 * j + 3)) - pm_n (r (7 + 6 * j + 2)))) r').2 (d_X13_doClose_L1 k (j + 1) (am + 3 * nI (pm_n (r (7 + 6 * j + 3)) - pm_n (r (7 + 6 * j + 2)))) g').2 := by
      intro r' g' h
      obtain ⟨a', h'⟩ := ih (j + 1) (B + 99) _ _ _ r' g' (by omega) (by omega) h
      exact ⟨a', by rw [show B + 99 * (k + 1) = B + 99 + 99 * k by omega]; exact h'⟩
    simp only [d_X7_closeMonth_L1, d_X13_doClose_L1, eo, eg, ew]
    have hst := pm_std (iw j hj) (sm j hj)
    by_cases hz : pm_n (r (7 + 6 * j + 3)) - pm_n (r (7 + 6 * j + 2)) = 0
    · rw [if_pos (show nI (pm_n (r (7 + 6 * j + 3)) - pm_n (r (7 + 6 * j + 2))) = 0 by rw [hz]; rfl), if_neg (show ¬ (0 : Int32) < nI (pm_n (r (7 + 6 * j + 3)) - pm_n (r (7 + 6 * j + 2))) by rw [hz]; decide)]
      rcases hst with ⟨x4, x5, y4⟩ | ⟨x4, x5, y4⟩ | ⟨x4, x5, y4⟩ | ⟨x4, x5, y4⟩ | ⟨x4, x5, y4⟩
      · rw [if_pos y4]
        refine fin _ _ (key _ _ ?_ ?_ ?_ ?_ ?_ ?_ ?_ ?_ ?_ ?_ ?_)
        · intro x h1 h2 h3 h4 h5; simp (disch := omega) only [pk_us, pk_un]
        · intro x h1; simp (disch := omega) only [pk_us, pk_un]
        · simp (disch := omega) only [pk_us, pk_un]
        · simp (disch := omega) only [pk_us, pk_un]
        · intro x h1 h2 h3 h4 h5; simp (disch := omega) only [pk_us, pk_un]
        · intro x h1; simp (disch := omega) only [pk_us, pk_un]
        · simp (disch := omega) only [pk_us, pk_un]
        · simp (disch := omega) only [pk_us, pk_un]
        · simp (disch := omega) only [pk_us, pk_un]
        · simp (disch := omega) only [pk_us, pk_un, x4, x5]; decide
        · simp (disch := omega) only [pk_us, pk_un, x4, x5, y4]; decide
      · rw [if_neg (show ¬ g (7 + 5 * j + 4) = 0 by rw [y4]; decide), if_neg (show ¬ g (7 + 5 * j + 4) ≤ 0 by rw [y4]; decide)]
        refine fin _ _ (key _ _ ?_ ?_ ?_ ?_ ?_ ?_ ?_ ?_ ?_ ?_ ?_)
        · intro x h1 h2 h3 h4 h5; simp (disch := omega) only [pk_us, pk_un]
        · intro x h1; simp (disch := omega) only [pk_us, pk_un]
        · simp (disch := omega) only [pk_us, pk_un]
        · simp (disch := omega) only [pk_us, pk_un]
        · intro x h1 h2 h3 h4 h5; simp (disch := omega) only [pk_us, pk_un]
        · intro x h1; simp (disch := omega) only [pk_us, pk_un]
        · simp (disch := omega) only [pk_us, pk_un]
        · simp (disch := omega) only [pk_us, pk_un]
        · simp (disch := omega) only [pk_us, pk_un]
        · simp (disch := omega) only [pk_us, pk_un, x4, x5]; decide
        · simp (disch := omega) only [pk_us, pk_un, x4, x5, y4]; decide
      · rw [if_neg (show ¬ g (7 + 5 * j + 4) = 0 by rw [y4]; decide), if_neg (show ¬ g (7 + 5 * j + 4) ≤ 0 by rw [y4]; decide)]
        refine fin _ _ (key _ _ ?_ ?_ ?_ ?_ ?_ ?_ ?_ ?_ ?_ ?_ ?_)
        · intro x h1 h2 h3 h4 h5; simp (disch := omega) only [pk_us, pk_un]
        · intro x h1; simp (disch := omega) only [pk_us, pk_un]
        · simp (disch := omega) only [pk_us, pk_un]
        · simp (disch := omega) only [pk_us, pk_un]
        · intro x h1 h2 h3 h4 h5; simp (disch := omega) only [pk_us, pk_un]
        · intro x h1; simp (disch := omega) only [pk_us, pk_un]
        · simp (disch := omega) only [pk_us, pk_un]
        · simp (disch := omega) only [pk_us, pk_un]
        · simp (disch := omega) only [pk_us, pk_un]
        · simp (disch := omega) only [pk_us, pk_un, x4, x5]; decide
        · simp (disch := omega) only [pk_us, pk_un, x4, x5, y4]; decide
      · rw [if_neg (show ¬ g (7 + 5 * j + 4) = 0 by rw [y4]; decide), if_pos (show g (7 + 5 * j + 4) ≤ 0 by rw [y4]; decide)]
        refine fin _ _ (key _ _ ?_ ?_ ?_ ?_ ?_ ?_ ?_ ?_ ?_ ?_ ?_)
        · intro x h1 h2 h3 h4 h5; simp (disch := omega) only [pk_us, pk_un]
        · intro x h1; simp (disch := omega) only [pk_us, pk_un]
        · simp (disch := omega) only [pk_us, pk_un]
        · simp (disch := omega) only [pk_us, pk_un]
        · intro x h1 h2 h3 h4 h5; simp (disch := omega) only [pk_us, pk_un]
        · intro x h1; simp (disch := omega) only [pk_us, pk_un]
        · simp (disch := omega) only [pk_us, pk_un]
        · simp (disch := omega) only [pk_us, pk_un]
        · simp (disch := omega) only [pk_us, pk_un]
        · simp (disch := omega) only [pk_us, pk_un, x4, x5]; decide
        · simp (disch := omega) only [pk_us, pk_un, x4, x5, y4]; decide
      · rw [if_neg (show ¬ g (7 + 5 * j + 4) = 0 by rw [y4]; decide), if_pos (show g (7 + 5 * j + 4) ≤ 0 by rw [y4]; decide)]
        refine fin _ _ (key _ _ ?_ ?_ ?_ ?_ ?_ ?_ ?_ ?_ ?_ ?_ ?_)
        · intro x h1 h2 h3 h4 h5; simp (disch := omega) only [pk_us, pk_un]
        · intro x h1; simp (disch := omega) only [pk_us, pk_un]
        · simp (disch := omega) only [pk_us, pk_un]
        · simp (disch := omega) only [pk_us, pk_un]
        · intro x h1 h2 h3 h4 h5; simp (disch := omega) only [pk_us, pk_un]
        · intro x h1; simp (disch := omega) only [pk_us, pk_un]
        · simp (disch := omega) only [pk_us, pk_un]
        · simp (disch := omega) only [pk_us, pk_un]
        · simp (disch := omega) only [pk_us, pk_un]
        · simp (disch := omega) only [pk_us, pk_un, x4, x5]; decide
        · simp (disch := omega) only [pk_us, pk_un, x4, x5, y4]; decide
    · have hp : (0 : Int32) < nI (pm_n (r (7 + 6 * j + 3)) - pm_n (r (7 + 6 * j + 2))) := nI_lt (a := 0) (by omega) (by omega)
      rw [if_neg (show ¬ nI (pm_n (r (7 + 6 * j + 3)) - pm_n (r (7 + 6 * j + 2))) = 0 from nI_ne0 (by omega) (by omega)), if_pos hp]
      refine fin _ _ (key _ _ ?_ ?_ ?_ ?_ ?_ ?_ ?_ ?_ ?_ ?_ ?_)
      · intro x h1 h2 h3 h4 h5; simp (disch := omega) only [pk_us, pk_un]
      · intro x h1; simp (disch := omega) only [pk_us, pk_un]
      · simp (disch := omega) only [pk_us, pk_un]
      · simp (disch := omega) only [pk_us, pk_un]
      · intro x h1 h2 h3 h4 h5; simp (disch := omega) only [pk_us, pk_un]
      · intro x h1; simp (disch := omega) only [pk_us, pk_un]
      · simp (disch := omega) only [pk_us, pk_un]
      · simp (disch := omega) only [pk_us, pk_un]
      · simp (disch := omega) only [pk_us, pk_un]
      · simp (disch := omega) only [pk_us, pk_un]; exact w4
      · simp (disch := omega) only [pk_us, pk_un]; exact c4
/-- close -/
theorem pm_eqc5 {B n : Nat} {x y : Int32} {r q rm dr f g gq : Nat → Int32} (hR : pm_RS n r g) (hI : pm_I B n r) : pm_EQ B n 5 x y r q rm dr f g gq := by
  obtain ⟨⟨i0, i7, i1, ⟨i2, i2l⟩, ⟨it, i3, i3a, i3b⟩, ia, ib, i5, i6, iB⟩, iw, il⟩ := id hI
  obtain ⟨⟨s0, s1, s2, s3, s4, s5, s6⟩, sm, sl⟩ := id hR
  have h0 : pm_CL B 0 n 0 0 r g := ⟨rfl, rfl, by omega, ⟨s0, s1, s2, s3, s4, by rw [s5, Int32.add_zero], by rw [s6, Int32.add_zero]⟩, sm, sl, ⟨i0, i7, i1, ⟨i2, i2l⟩, ⟨it, i3, i3a, i3b⟩⟩, ⟨ia, ib, i5, i6, by omega⟩, iw, il⟩
  obtain ⟨a', ea, em, _, ⟨t0, t1, t2, t3, t4, t5, t6⟩, tm, tl, ⟨j0, j7, j1, ⟨j2, j2l⟩, ⟨jt, j3, j3a, j3b⟩⟩, ⟨u, v, hu, hv, huv⟩, jw, jl⟩ := pm_clL n 0 B 0 0 0 r g (by omega) (by omega) h0
  refine pm_EQ_k (n' := n) (v := (d_X7_closeMonth_L1 n 0 0 r).1 * 3) (r' := upd (upd (d_X7_closeMonth_L1 n 0 0 r).2 6 ((d_X7_closeMonth_L1 n 0 0 r).2 6 + (d_X7_closeMonth_L1 n 0 0 r).1)) 4 ((d_X7_closeMonth_L1 n 0 0 r).2 4 + 1)) (g' := upd (d_X13_doClose_L1 n 0 0 g).2 4 ((d_X13_doClose_L1 n 0 0 g).2 4 + 1)) rfl rfl rfl (by show (d_X13_doClose_L1 n 0 0 g).1 = _; rw [em, ea, show (3 : Int32) = nI 3 from rfl, pk_mul, Nat.mul_comm]) rfl rfl (fun j _ => rfl) ⟨?_, fun i hi => ?_, ?_⟩ ⟨?_, fun i hi => ?_, ?_⟩
  · refine ⟨?_, ?_, ?_, ?_, ?_, ?_, ?_⟩ <;> simp (disch := omega) only [pk_us, pk_un] <;> first | assumption | rw [t4]
  · exact pm_RSm_of (fun w hw => by simp (disch := omega) only [pk_us, pk_un]) (fun w hw => by simp (disch := omega) only [pk_us, pk_un]) (tm i hi)
  · exact pm_RSl_of (fun k hk => by simp (disch := omega) only [pk_us, pk_un]) (fun k hk => by simp (disch := omega) only [pk_us, pk_un]) tl
  · refine ⟨?_, j7, ?_, ⟨?_, ?_⟩, ⟨jt, ?_, j3a, j3b⟩, u, v + a', ?_, ?_, by omega⟩ <;> simp (disch := omega) only [pk_us, pk_un] <;> first | assumption | rw [hv, ea, nI_add]
  · exact pm_rw_of (fun w hw => by simp (disch := omega) only [pk_us, pk_un]) (jw i hi)
  · exact pm_Il_of (fun k hk => by simp (disch := omega) only [pk_us, pk_un]) jl
theorem pm_bcN : ∀ a, a < 128 → pm_bc (nI a) = nI (pm_pc a 7) := by decide +kernel
theorem pm_pc7 (a : Nat) : pm_pc a 7 = a / 2 ^ 0 % 2 + a / 2 ^ 1 % 2 + a / 2 ^ 2 % 2 + a / 2 ^ 3 % 2 + a / 2 ^ 4 % 2 + a / 2 ^ 5 % 2 + a / 2 ^ 6 % 2 := by
  simp only [pm_pc, Nat.zero_add]
theorem pm_bitL {x : Int32} (hx : x = nI (pm_n x)) (h : pm_n x < 128) {k : Nat} (hk : k < 7) : (x >>> (nI k &&& 31)) &&& 1 = pm_bt x k := by
  have h2 : ∀ a, a < 128 → ∀ k, k < 7 → (nI a >>> (nI k &&& 31)) &&& 1 = nI (a / 2 ^ k % 2) := by decide +kernel
  unfold pm_bt
  rw [hx, h2 _ h k hk, pm_n_nI (by omega)]
theorem pm_xorL {x : Int32} (hx : x = nI (pm_n x)) (h : pm_n x < 128) {k : Nat} (hk : k < 7) : x ^^^ ((1 : Int32) <<< (nI k &&& 31)) = nI (pm_n x ^^^ 2 ^ k) ∧ pm_n x ^^^ 2 ^ k < 128 ∧ (∀ j, j < 7 → (pm_n x ^^^ 2 ^ k) / 2 ^ j % 2 = if j = k then 1 - pm_n x / 2 ^ j % 2 else pm_n x / 2 ^ j % 2) := by
  have h2 : ∀ a, a < 128 → ∀ k, k < 7 → nI a ^^^ ((1 : Int32) <<< (nI k &&& 31)) = nI (a ^^^ 2 ^ k) ∧ a ^^^ 2 ^ k < 128 := by decide +kernel
  have h3 : ∀ a, a < 128 → ∀ k, k < 7 → ∀ j, j < 7 → (a ^^^ 2 ^ k) / 2 ^ j % 2 = if j = k then 1 - a / 2 ^ j % 2 else a / 2 ^ j % 2 := by decide +kernel
  have h4 := h2 _ h k hk
  rw [← hx] at h4
  exact ⟨h4.1, h4.2, fun j hj => h3 _ h k hk j hj⟩
theorem pm_ltN {r : Nat → Int32} (h : ∀ i, i < 7 → r (49 + i) = nI (pm_n (r (49 + i))) ∧ pm_n (r (49 + i)) < 128) : pm_lt (fun j => r (49 + j)) 7 / 2 = nI (pm_ls r) ∧ pm_ls r ≤ 24 := by
  have b : ∀ i, i < 7 → pm_bc (r (49 + i)) = nI (pm_pc (pm_n (r (49 + i))) 7) := fun i hi => by
    rw [(h i hi).1, pm_bcN _ (h i hi).2, pm_n_nI (by have := (h i hi).2; omega)]
  have p : ∀ i, i < 7 → pm_pc (pm_n (r (49 + i))) 7 ≤ 7 := fun i hi => by
    rw [pm_pc7]
    have := Nat.mod_lt (pm_n (r (49 + i)) / 2 ^ 0) (show 0 < 2 by decide)
    have := Nat.mod_lt (pm_n (r (49 + i)) / 2 ^ 1) (show 0 < 2 by decide)
    have := Nat.mod_lt (pm_n (r (49 + i)) / 2 ^ 2) (show 0 < 2 by decide)
    have := Nat.mod_lt (pm_n (r (49 + i)) / 2 ^ 3) (show 0 < 2 by decide)
    have := Nat.mod_lt (pm_n (r (49 + i)) / 2 ^ 4) (show 0 < 2 by decide)
    have := Nat.mod_lt (pm_n (r (49 + i)) / 2 ^ 5) (show 0 < 2 by decide)
    have := Nat.mod_lt (pm_n (r (49 + i)) / 2 ^ 6) (show 0 < 2 by decide)
    omega
  have p0 := p 0 (by decide)
  have p1 := p 1 (by decide)
  have p2 := p 2 (by decide)
  have p3 := p 3 (by decide)
  have p4 := p 4 (by decide)
  have p5 := p 5 (by decide)
  have p6 := p 6 (by decide)
  have hh : ∀ t, t < 50 → nI t / 2 = nI (t / 2) := by decide +kernel
  constructor
  · simp only [pm_lt]
    rw [b 0 (by decide), b 1 (by decide), b 2 (by decide), b 3 (by decide), b 4 (by decide), b 5 (by decide), b 6 (by decide), show (0 : Int32) = nI 0 from rfl, nI_add, nI_add, nI_add, nI_add, nI_add, nI_add, nI_add, hh _ (by omega), Nat.zero_add]
    rfl
  · unfold pm_ls
    omega
theorem pm_lkL {g : Nat → Int32} {s : Nat → Nat} : ∀ (k j : Nat) (a : Nat), (∀ i, j ≤ i → i < j + k → g (42 + i) = nI (s i)) → d_X13_links_L1 g k j (nI a) = nI (a + ((List.range' j k).map s).sum) := by
  intro k
  induction k with
  | zero => intro j a _; rfl
  | succ k ih =>
    intro j a h
    simp only [d_X13_links_L1]
    rw [h j (Nat.le_refl _) (by omega), nI_add, ih (j + 1) _ (fun i h1 h2 => h i (by omega) (by omega))]
    congr 1
    rw [List.range'_succ, List.map_cons, List.sum_cons]
    omega
theorem pm_lkN {r g f : Nat → Int32} (h : ∀ i, i < 7 → r (49 + i) = nI (pm_n (r (49 + i))) ∧ pm_n (r (49 + i)) < 128) (hl : pm_RSl r g) : d_X13_links f g = pm_lt (fun j => r (49 + j)) 7 / 2 := by
  have e := pm_ltN h
  rw [e.1]
  unfold d_X13_links
  have hs := pm_lkL (g := g) (s := fun i => pm_n (r (49 + i / 7)) / 2 ^ (i % 7) % 2) 49 0 0 (fun i _ hi => by
    have := hl (i / 7) (i % 7) (by omega) (by omega)
    rw [show 42 + 7 * (i / 7) + i % 7 = 42 + i by omega] at this
    exact this)
  rw [show (0 : Int32) = nI 0 from rfl, hs]
  have hh : ∀ t, t < 50 → nI t / 2 = nI (t / 2) := by decide +kernel
  have e2 : ((List.range' 0 49).map (fun i => pm_n (r (49 + i / 7)) / 2 ^ (i % 7) % 2)).sum = (pm_pc (pm_n (r (49 + 0))) 7 + pm_pc (pm_n (r (49 + 1))) 7 + pm_pc (pm_n (r (49 + 2))) 7 + pm_pc (pm_n (r (49 + 3))) 7 + pm_pc (pm_n (r (49 + 4))) 7 + pm_pc (pm_n (r (49 + 5))) 7 + pm_pc (pm_n (r (49 + 6))) 7) := by
    rw [show List.range' 0 49 = [0,1,2,3,4,5,6,7,8,9,10,11,12,13,14,15,16,17,18,19,20,21,22,23,24,25,26,27,28,29,30,31,32,33,34,35,36,37,38,39,40,41,42,43,44,45,46,47,48] from by decide]
    simp only [List.map_cons, List.map_nil, List.sum_cons, List.sum_nil, pm_pc7, Nat.add_assoc, Nat.add_zero, Nat.reduceDiv, Nat.reduceMod, Nat.reduceAdd]
  have e3 := e.2
  unfold pm_ls at e3 ⊢
  rw [hh _ (by rw [e2]; omega), e2, Nat.zero_add]
