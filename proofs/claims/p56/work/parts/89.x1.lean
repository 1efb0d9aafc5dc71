/-! a text's run over a world -/
theorem pw_runL {fs sd cc : Nat → Int32} : ∀ (k j B : Nat) (r q rm dr : Nat → Int32), (∀ i, j ≤ i → i < j + k → pm_n (cc i) < 11) → pw_r B r → pw_r (B + 693 * k) (d_X9_run_L1 fs sd cc (fun (r_1 : (Nat → Int32)) (q_1 : (Nat → Int32)) (rm_1 : (Nat → Int32)) (dr_1 : (Nat → Int32)) => ((0, 0), 0, r_1, q_1, rm_1, dr_1)) k j r q rm dr).2.2.1 := by
  intro k
  induction k with
  | zero => intro j B r q rm dr _ h; exact h
  | succ k ih =>
    intro j B r q rm dr hc h
    simp only [d_X9_run_L1]
    by_cases h0 : (d_X7_ref (pm_n (cc j)) (fs j) (sd j) (pm_n (r 0)) r).1 = 0
    · rw [if_pos h0]
      obtain ⟨k1, k2, k3⟩ := pw_dok (q := q) (rm := rm) (dr := dr) (hc j (Nat.le_refl j) (by omega)) h.2 h0
      have h9 := ih (j + 1) (B + 693) _ ((d_X7_do (pm_n (cc j)) (fs j) (sd j) (pm_n (r 0)) r q rm dr).2.2.1) ((d_X7_do (pm_n (cc j)) (fs j) (sd j) (pm_n (r 0)) r q rm dr).2.2.2.1) ((d_X7_do (pm_n (cc j)) (fs j) (sd j) (pm_n (r 0)) r q rm dr).2.2.2.2) (fun i h1 h2 => hc i (by omega) (by omega)) ⟨fun x hx => (k3 x hx).trans (h.1 x hx), k2⟩
      rw [show B + 693 * (k + 1) = B + 693 + 693 * k by omega]
      exact h9
    · rw [if_neg h0]
      exact pw_rle (by omega) h
theorem pw_gk2 {B C t' : Nat} {r r' : Nat → Int32} {hs : List (Nat → Int32)} {u : Nat × List Nat} {g gx : pm_Cs} (hg : pw_g (B, r, hs, u) g) (x1 : gx.2.1 = g.2.1) (x2 : gx.2.2.1 = g.2.2.1) (hB : B ≤ C) (hr' : pw_r C r') (h0 : gx.1 0 = r') (h1 : pw_c (gx.1 1)) (h13 : gx.1 13 4 = nI t') (ht : t' ≤ 60) (h14 : gx.1 14 = g.1 14) {rr : Nat → Int32} (hrr : rr = r) : pw_g (C, r', (r :: hs).take 8, (t', u.2)) (pm_kep gx rr) := by
  subst hrr
  obtain ⟨f, gx1, gx2, ⟨gx3, gx4⟩⟩ := gx
  dsimp only at x1 x2 h0 h1 h13 h14
  subst x1
  subst x2
  obtain ⟨h1', h2, h3, ⟨h4, h5, h6, h7⟩, ⟨h8, h9⟩, h10, h11⟩ := hg
  have hc : pm_cpr rr (g.2.1 ((g.2.2.1 0 + g.2.2.1 1) % 8)) = rr := pw_cprE h8.1 (h3 _)
  have hL : ((rr :: hs).take 8).length = if g.2.2.1 1 < 8 then g.2.2.1 1 + 1 else g.2.2.1 1 := by
    rw [List.length_take, List.length_cons, h5]
    dsimp only at h6 ⊢
    split <;> omega
  refine ⟨h0, h1, fun i => ?_, ⟨?_, hL.symm, by rw [List.length_take]; omega, fun p hp => ?_⟩, ⟨hr', fun h hh => ?_⟩, ⟨h13, ht⟩, ⟨h11.1, h11.2.1, fun i hi => ?_⟩⟩
  · show pw_c (if i = (g.2.2.1 0 + g.2.2.1 1) % 8 then pm_cpr rr (g.2.1 ((g.2.2.1 0 + g.2.2.1 1) % 8)) else g.2.1 i)
    split
    · rw [hc]; exact h8.1
    · exact h3 i
  · show (if g.2.2.1 1 < 8 then g.2.2.1 0 else (g.2.2.1 0 + 1) % 8) < 8
    split
    · exact h4
    · exact Nat.mod_lt _ (by decide)
  · have hr := pw_hk (f := g.2.1) (o := g.2.2.1 0) (hs := hs) (r := rr) h4 h6 h7 p hp
    rw [← hr]
    show (if ((if g.2.2.1 1 < 8 then g.2.2.1 0 else (g.2.2.1 0 + 1) % 8) + p) % 8 = (g.2.2.1 0 + g.2.2.1 1) % 8 then pm_cpr rr (g.2.1 ((g.2.2.1 0 + g.2.2.1 1) % 8)) else g.2.1 (((if g.2.2.1 1 < 8 then g.2.2.1 0 else (g.2.2.1 0 + 1) % 8) + p) % 8)) = _
    rw [hc, h5]
  · have h12 := List.mem_of_mem_take hh
    rcases List.mem_cons.mp h12 with rfl | h12
    · exact pw_rle hB h8
    · exact pw_rle hB (h9 h h12)
  · show f 14 i = _ ∧ _
    rw [h14]
    exact h11.2.2 i hi
/-- a text's run: done, or the world as it was; the text is gone -/
def pw_eF (z : Nat) (kA : Nat → ClassId) (kE : Nat → Nat) (B : Nat) (r : Nat → Int32) (hs : List (Nat → Int32)) (u : Nat × List Nat) (ar : List (Nat × va_E)) : pm_Po := fun o n' M' =>
  (∃ v r', o = .inl (some (.int v)) ∧ ¬ v < 0 ∧ pw_W z kA kE (B + 7623, r', (r :: hs).take 8, (0, u.2)) ar n' M') ∨ ((o = .inr "java/lang/IllegalArgumentException" ∨ o = .inr "java/lang/UnsupportedOperationException") ∧ pw_W z kA kE (B, r, hs, (0, u.2)) ar n' M')
theorem a_X12_execute {l : Launch} {z : Nat} {D : va_G} {kA : Nat → ClassId} {kE : Nat → Nat} {B n : Nat} {r : Nat → Int32} {hs : List (Nat → Int32)} {u : Nat × List Nat} {ar : List (Nat × va_E)} (hI : pm_I B n r) : ∀ nx M, (pw_W z kA kE (B, r, hs, u) ar) nx M → pm_C l z D kA kE yX12_execute cX12_execute 3 (some .int) 20 25 78 [.ref (z + 0)] nx M (pw_eF z kA kE B r hs u ar) := by
  intro nx M hW
  obtain ⟨g, hT, hg⟩ := id hW.2.2.2
  have e : g.1 0 = r := hg.1
  obtain ⟨-, hrb, h3, ⟨ho, hk, hk8, hring⟩, ⟨hr, hhs⟩, ⟨hlen, hl60⟩, hline⟩ := id hg
  have h2 := hI.1.2.2.2.1
  have h7 := hI.1.2.1
  dsimp only at hk hk8 hlen hl60
  have hns : pm_nS (g.1 0) := by
    rw [e]
    have en : pm_n (r 0) = n := by rw [hI.1.1]; exact pm_n_nI (by omega)
    exact ⟨by rw [en]; exact hI.1.1, by rw [en]; exact h7, h2.1, h2.2⟩
  refine pm_Cpost (c_X12_executeT (t := u.1) hT hlen hl60 hns hW.1 ho (by omega)) fun o n' M' hp => ?_
  obtain ⟨p1, p2, hp⟩ := hp
  have ecp : pm_cpr (g.1 0) (g.1 1) = r := by rw [e]; exact pw_cprE hr.1 hrb
  have same : ∀ (rb qq rm dr fs sd sc cc to : Nat → Int32) (ldv : Value), pw_c rb → pw_g (B, r, hs, (0, u.2)) (pm_kex g r rb qq rm dr fs sd (d_X9_empty sc) cc to ldv) := fun rb qq rm dr fs sd sc cc to ldv hc => ⟨rfl, hc, h3, ⟨ho, hk, hk8, hring⟩, ⟨hr, hhs⟩, ⟨(show upd sc 4 0 4 = nI 0 from pk_us), Nat.zero_le 60⟩, hline⟩
  rcases hp with ⟨a1, a2, a3⟩ | ⟨a1, a2, a3, a4⟩ | ⟨a1, a2, a3, a, b, qz, -, -, -, -, -, -, a4⟩
  · refine Or.inr ⟨Or.inl a2, pw_to hW p2 p1 a3 ?_⟩
    rw [e]
    exact same _ _ _ _ _ _ _ _ _ _ hrb
  · obtain ⟨cm, c1, c2, c3⟩ := pm_prs a1
    have ecm : pm_n (d_X9_empty (d_X9_parse u.1 (g.1 8) (g.1 9) (g.1 10) (g.1 13) (g.1 11)).2.2.2.1 5) = cm := by rw [c1]; exact pm_n_nI (by omega)
    rw [ecm] at a2 a4
    refine Or.inl ⟨_, (d_X9_run cm (g.1 0) (g.1 3) (g.1 4) (g.1 5) (d_X9_parse u.1 (g.1 8) (g.1 9) (g.1 10) (g.1 13) (g.1 11)).2.1 (d_X9_parse u.1 (g.1 8) (g.1 9) (g.1 10) (g.1 13) (g.1 11)).2.2.1 (d_X9_empty (d_X9_parse u.1 (g.1 8) (g.1 9) (g.1 10) (g.1 13) (g.1 11)).2.2.2.1) (d_X9_parse u.1 (g.1 8) (g.1 9) (g.1 10) (g.1 13) (g.1 11)).2.2.2.2).2.2.1, a3, by rw [c1]; exact nI_pos (by omega), pw_to hW p2 p1 a4 ?_⟩
    have hrun := pw_runL (fs := (d_X9_parse u.1 (g.1 8) (g.1 9) (g.1 10) (g.1 13) (g.1 11)).2.1) (sd := (d_X9_parse u.1 (g.1 8) (g.1 9) (g.1 10) (g.1 13) (g.1 11)).2.2.1) cm 0 B r (g.1 3) (g.1 4) (g.1 5) (fun i _ h2 => c3 i (by omega)) hr
    rw [← e] at hrun
    refine pw_gk2 (B := B) (C := B + 7623) (t' := 0) hg ?_ ?_ (by omega) (pw_rle (B := B + 693 * cm) (by omega) hrun) ?_ ?_ ?_ (Nat.zero_le 60) ?_ ecp
    · rfl
    · rfl
    · rfl
    · show pw_c (pm_cpr (g.1 0) (g.1 1))
      rw [ecp]; exact hr.1
    · exact (show upd (d_X9_parse u.1 (g.1 8) (g.1 9) (g.1 10) (g.1 13) (g.1 11)).2.2.2.1 4 0 4 = nI 0 from pk_us)
    · rfl
  · obtain ⟨cm, c1, c2, c3⟩ := pm_prs a1
    have ecm : pm_n (d_X9_empty (d_X9_parse u.1 (g.1 8) (g.1 9) (g.1 10) (g.1 13) (g.1 11)).2.2.2.1 5) = cm := by rw [c1]; exact pm_n_nI (by omega)
    rw [ecm] at a2 a4
    have hrun := pw_runL (fs := (d_X9_parse u.1 (g.1 8) (g.1 9) (g.1 10) (g.1 13) (g.1 11)).2.1) (sd := (d_X9_parse u.1 (g.1 8) (g.1 9) (g.1 10) (g.1 13) (g.1 11)).2.2.1) cm 0 B r (g.1 3) (g.1 4) (g.1 5) (fun i _ h2 => c3 i (by omega)) hr
    rw [← e] at hrun
    rw [ecp] at a4
    have ecp2 := pw_cprE hr.1 hrun.1
    refine Or.inr ⟨Or.inr a3, pw_to hW p2 p1 a4 ?_⟩
    have e9 : pm_cpr r (d_X9_run cm (g.1 0) (g.1 3) (g.1 4) (g.1 5) (d_X9_parse u.1 (g.1 8) (g.1 9) (g.1 10) (g.1 13) (g.1 11)).2.1 (d_X9_parse u.1 (g.1 8) (g.1 9) (g.1 10) (g.1 13) (g.1 11)).2.2.1 (d_X9_empty (d_X9_parse u.1 (g.1 8) (g.1 9) (g.1 10) (g.1 13) (g.1 11)).2.2.2.1) (d_X9_parse u.1 (g.1 8) (g.1 9) (g.1 10) (g.1 13) (g.1 11)).2.2.2.2).2.2.1 = r := ecp2
    rw [e9]
    exact same _ _ _ _ _ _ _ _ _ _ hr.1
/-- the same behind the law's handler -/
def pw_eg (z : Nat) (kA : Nat → ClassId) (kE : Nat → Nat) (B : Nat) (r : Nat → Int32) (hs : List (Nat → Int32)) (u : Nat × List Nat) (ar : List (Nat × va_E)) (v : Int32) (n' : Nat) (M' : pm_M) : Prop :=
  (¬ v < 0 ∧ ∃ r', pw_W z kA kE (B + 7623, r', (r :: hs).take 8, (0, u.2)) ar n' M') ∨ (v < 0 ∧ pw_W z kA kE (B, r, hs, (0, u.2)) ar n' M')
theorem b_L_executes {l : Launch} {z : Nat} {D : va_G} {kA : Nat → ClassId} {kE : Nat → Nat} {B n : Nat} {r : Nat → Int32} {hs : List (Nat → Int32)} {u : Nat × List Nat} {ar : List (Nat × va_E)} (hI : pm_I B n r) : ∀ nx M, (pw_W z kA kE (B, r, hs, u) ar) nx M → pm_Cw l z D kA kE yL_executes cL_executes 2 (some .int) [(0, 4, 5, 14), (0, 4, 8, 16)] 21 25 78 [.ref (z + 0)] nx M (fun o n' M' => ∃ v, o = .inl (some (.int v)) ∧ pw_eg z kA kE B r hs u ar v n' M') := by
  intro nx M hW
  refine pm_Cwpost (c_L_executes hW.2.2.2.choose_spec.1.1 (a_X12_execute hI nx M hW) (fun v n' M1 h => ?_) fun E n' M1 h => ?_) fun o n' M' hp => ?_
  · rcases h with ⟨v2, r', h, -⟩ | ⟨h | h, -⟩
    · exact ⟨v2, Sum.inl.inj h⟩
    · cases h
    · cases h
  · rcases h with ⟨v2, r', h, -⟩ | ⟨h | h, -⟩
    · cases h
    · exact Or.inl (Sum.inr.inj h)
    · exact Or.inr (Sum.inr.inj h)
  · obtain ⟨v, rfl, hp | ⟨e, he, hp, rfl⟩⟩ := hp
    · rcases hp with ⟨v2, r', h, h2, h3⟩ | ⟨h | h, -⟩
      · cases h; exact ⟨_, rfl, Or.inl ⟨h2, r', h3⟩⟩
      · cases h
      · cases h
    · rcases hp with ⟨v2, r', h, h2, h3⟩ | ⟨-, h3⟩
      · cases h
      · refine ⟨_, rfl, Or.inr ⟨?_, h3⟩⟩
        simp only [List.mem_cons, List.not_mem_nil, or_false] at he
        rcases he with rfl | rfl
        · show (-1 : Int32) < 0; decide
        · show (-2 : Int32) < 0; decide
theorem b_L_feed {l : Launch} {z : Nat} {D : va_G} {kA : Nat → ClassId} {kE : Nat → Nat} {B t : Nat} {r : Nat → Int32} {hs : List (Nat → Int32)} {ln : List Nat} {ar : List (Nat × va_E)} {x : Int32} (ht : t < 60) : ∀ nx M, (pw_W z kA kE (B, r, hs, (t, ln)) ar) nx M → pm_Cw l z D kA kE yL_feed cL_feed 3 (some .int) [(0, 5, 6, 105)] 21 2 12 [.ref (z + 0), .int x] nx M (pw_P (some (.int (nI (t + 1)))) (pw_W z kA kE (B, r, hs, (t + 1, ln)) ar)) := by
  intro nx M hW
  obtain ⟨g, hT, hg⟩ := id hW.2.2.2
  obtain ⟨q0, q1, q3, q4, q5, ⟨hlen, hl60⟩, q7⟩ := id hg
  dsimp only at hlen hl60
  have hf := f_X12_feed (x := x) (l := l) (D := D) (nx := nx) hT hlen hl60
  have hfull : d_X9_isFull (g.1 8) (g.1 13) = 0 := by
    unfold d_X9_isFull
    rw [hlen, if_pos ((nI_ltI (a := t) (b := 60) (by omega) (by omega)).mpr ht)]
  have hap : d_X9_append x t (g.1 8) (g.1 13) = ((nI (t + 1)), (upd (g.1 8) t (vp_nar .char x)), (upd (g.1 13) 4 (nI (t + 1)))) := by
    unfold d_X9_append
    rw [if_neg (fun h => by have := (nI_leI (a := 60) (b := t) (by omega) (by omega)).mp h; omega)]
  have hD : d_X12_feed x t (g.1 8) (g.1 12) (g.1 13) = (0, nI (t + 1), (upd (g.1 8) t (vp_nar .char x)), (upd (g.1 13) 4 (nI (t + 1)))) := by
    unfold d_X12_feed
    rw [if_pos hfull, hap]
  rw [hD] at hf
  have hg2 : pw_g (B, r, hs, (t + 1, ln)) (pm_kfe g (upd (g.1 8) t (vp_nar .char x)) (upd (g.1 13) 4 (nI (t + 1)))) := ⟨q0, q1, q3, q4, q5, ⟨(show upd (g.1 13) 4 (nI (t + 1)) 4 = nI (t + 1) from pk_us), (show t + 1 ≤ 60 from ht)⟩, q7⟩
  refine pm_Cwpost (c_L_feed hT.1 hf (fun v n' M1 h => ?_) (fun E n' M1 h => ?_)) fun o n' M' hp => ?_
  · obtain ⟨-, -, -, ⟨-, h5⟩ | ⟨h5, -⟩⟩ := h
    · exact ⟨_, Sum.inl.inj h5⟩
    · exact absurd h5 (Nat.lt_irrefl 0)
  · obtain ⟨-, -, -, ⟨-, h5⟩ | ⟨h5, -⟩⟩ := h
    · cases h5
    · exact absurd h5 (Nat.lt_irrefl 0)
  · obtain ⟨v, rfl, hp | ⟨e, he, hp, rfl⟩⟩ := hp
    · obtain ⟨h1, h2, h3, ⟨-, h5⟩ | ⟨h5, -⟩⟩ := hp
      · exact ⟨h5, pw_to hW h2 h1 h3 hg2⟩
      · exact absurd h5 (Nat.lt_irrefl 0)
    · obtain ⟨-, -, -, ⟨-, h5⟩ | ⟨h5, -⟩⟩ := hp
      · cases h5
      · exact absurd h5 (Nat.lt_irrefl 0)
