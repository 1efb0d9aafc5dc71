/-! the changes, class and reference -/
def pm_Rcq (c : Nat) (Q : Int32 × Int32) (O : Int32 × (Nat → Int32) × (Nat → Int32) × (Nat → Int32) × (Nat → Int32)) (g : pm_Cs) (L : Int32 × Int32 × Int32) : Int32 → Int32 → pm_Cs → Int32 × Int32 × Int32 → Prop := fun kc v g' L' =>
  (Q.1 = 0 ∧ kc = 0 ∧ v = O.1 ∧ g' = pm_kdo (pm_kep g (g.1 0)) O.2.1 O.2.2.1 O.2.2.2.1 O.2.2.2.2 ∧ L' = L) ∨
  ((Q.1 = -1 ∨ Q.1 = -2) ∧ kc = pm_pl c Q.1 ∧ g' = g ∧ L' = L) ∨
  (0 < Q.1 ∧ kc = pm_pl c Q.1 ∧ (∃ ldv, g' = pm_kto g (g.1 12) ldv) ∧ L' = (Q.1, Q.2, 0))
abbrev pm_Rch (c : Nat) (x y : Int32) (n : Nat) (g : pm_Cs) (L : Int32 × Int32 × Int32) : Int32 → Int32 → pm_Cs → Int32 × Int32 × Int32 → Prop := pm_Rcq c (d_X7_ref c x y n (g.1 0)) (d_X7_do c x y n (g.1 0) (g.1 3) (g.1 4) (g.1 5)) g L
theorem pm_nch {l : Launch} {z : Nat} {D : va_G} {kA : Nat → ClassId} {kE : Nat → Nat} {nx : Nat} {M : pm_M} {g : pm_Cs} {L : Int32 × Int32 × Int32} {c n : Nat} {x y : Int32} {hl : List (String × Int32)} (hc : c < 11) (hT : pm_TC z kA kE M g) (hL : pm_LD z nx M g.2.2.2.2.2 L) (hn : g.1 0 0 = nI n) (h7 : n ≤ 7) (hnx : 151 ≤ nx) (hsd : g.1 0 2 = nI (pm_n (g.1 0 2))) (hsl : pm_n (g.1 0 2) < 1024) (ho : g.2.2.1 0 < 8) (hk : g.2.2.1 1 ≤ 8)
    (htri : (d_X7_ref c x y n (g.1 0)).1 = 0 ∨ ((d_X7_ref c x y n (g.1 0)).1 = -1 ∨ (d_X7_ref c x y n (g.1 0)).1 = -2) ∨ 0 < (d_X7_ref c x y n (g.1 0)).1) (h1 : (d_X7_ref c x y n (g.1 0)).1 = -1 → ("java/lang/IndexOutOfBoundsException", pm_pl c (d_X7_ref c x y n (g.1 0)).1) ∈ hl) (h2 : (d_X7_ref c x y n (g.1 0)).1 = -2 → ("java/lang/IllegalArgumentException", pm_pl c (d_X7_ref c x y n (g.1 0)).1) ∈ hl) (h3 : 0 < (d_X7_ref c x y n (g.1 0)).1 → ("java/lang/UnsupportedOperationException", pm_pl c (d_X7_ref c x y n (g.1 0)).1) ∈ hl) :
    pm_C l z D kA kE yX12_change cX12_change 5 (some .int) 20 3 12 [.ref (z + 0), .ref (kE c), .int x, .int y] nx M (pm_cl2 z kA kE nx M hl (pm_Rch c x y n g L)) := by
  refine pm_Cpost (c_X12_changeT hc hT hn h7 (by omega) hsd hsl ho hk) fun o n' M' hp => ?_
  obtain ⟨hF, hn', hp⟩ := hp
  refine ⟨hF, hn', ?_⟩
  rcases hp with ⟨q0, rfl, -, hT'⟩ | ⟨q1, rfl, hT'⟩ | ⟨q2, rfl, hT'⟩ | ⟨q0, q1, q2, rfl, hlt, hM, hT'⟩
  · exact ⟨_, L, hT', pm_LD_keep hL hn' (fun a h1 h2 => hF a (by omega) h2), Or.inl ⟨_, rfl, Or.inl ⟨q0, rfl, rfl, rfl, rfl⟩⟩⟩
  · exact ⟨_, L, hT', pm_LD_keep hL hn' (fun a h1 h2 => hF a (by omega) h2), Or.inr ⟨_, h1 q1, rfl, Or.inr (Or.inl ⟨Or.inl q1, rfl, rfl, rfl⟩)⟩⟩
  · exact ⟨_, L, hT', pm_LD_keep hL hn' (fun a h1 h2 => hF a (by omega) h2), Or.inr ⟨_, h2 q2, rfl, Or.inr (Or.inl ⟨Or.inr q2, rfl, rfl, rfl⟩)⟩⟩
  · have q3 : 0 < (d_X7_ref c x y n (g.1 0)).1 := by
      rcases htri with h | (h | h) | h
      · exact absurd h q0
      · exact absurd h q1
      · exact absurd h q2
      · exact h
    exact ⟨_, ((d_X7_ref c x y n (g.1 0)).1, (d_X7_ref c x y n (g.1 0)).2, 0), hT', Or.inr ⟨nx, hnx, hlt, rfl, q0, Or.inl ⟨hM, rfl⟩⟩, Or.inr ⟨_, h3 q3, rfl, Or.inr (Or.inr ⟨q3, rfl, ⟨_, rfl⟩, rfl⟩)⟩⟩
theorem pm_tri {B n c : Nat} {x y : Int32} {r q rm dr f g gq : Nat → Int32} (h : pm_EQ B n c x y r q rm dr f g gq) : (d_X7_ref c x y n r).1 = 0 ∨ ((d_X7_ref c x y n r).1 = -1 ∨ (d_X7_ref c x y n r).1 = -2) ∨ 0 < (d_X7_ref c x y n r).1 := by
  rcases h with h | h | h
  · exact Or.inl h.1
  · exact Or.inr (Or.inl h.1)
  · exact Or.inr (Or.inr h.1)
/-- rows by their places that count -/
theorem pm_RS_cg {n : Nat} {r r' g g' : Nat → Int32} (h : pm_RS n r g) (h7 : n ≤ 7) (hr : ∀ j, j < 56 → r' j = r j) (hg : ∀ j, j < 91 → g' j = g j) : pm_RS n r' g' := by
  obtain ⟨⟨s0, s1, s2, s3, s4, s5, s6⟩, sm, sl⟩ := h
  refine ⟨?_, fun i hi => pm_RSm_of (fun w hw => hr _ (by omega)) (fun w hw => hg _ (by omega)) (sm i hi), fun i j hi hj => by rw [hr _ (by omega), hg _ (by omega)]; exact sl i j hi hj⟩
  refine ⟨?_, ?_, ?_, ?_, ?_, ?_, ?_⟩ <;> rw [hg _ (by decide)] <;> simp only [hr 0 (by decide), hr 1 (by decide), hr 2 (by decide), hr 3 (by decide), hr 4 (by decide), hr 5 (by decide), hr 6 (by decide)] <;> assumption
theorem pm_I_cg {B n : Nat} {r r' : Nat → Int32} (h : pm_I B n r) (hr : ∀ j, j < 56 → r' j = r j) : pm_I B n r' := by
  obtain ⟨hs, hw, hl⟩ := h
  have h7 := hs.2.1
  refine ⟨?_, fun i hi => pm_rw_of (fun w hw => hr _ (by omega)) (hw i hi), pm_Il_of (fun i hi => hr _ (by omega)) hl⟩
  unfold pm_Is at hs ⊢
  rw [hr 0 (by decide), hr 1 (by decide), hr 2 (by decide), hr 3 (by decide), hr 5 (by decide), hr 6 (by decide)]
  exact hs
/-- a greater bound -/
theorem pm_Rel_le {B C : Nat} {g : pm_Cs} {h : pm_Ms} {L : Int32 × Int32 × Int32} (hB : B ≤ C) (hR : pm_Rel B g h L) : pm_Rel C g h L := by
  obtain ⟨⟨n, a1, a2⟩, ⟨b1, b2, b3, b4⟩, c, d⟩ := hR
  refine ⟨⟨n, a1, pm_I_le hB a2⟩, ⟨b1, b2, b3, fun p hp => ?_⟩, ?_, d⟩
  · obtain ⟨m, x1, x2⟩ := b4 p hp
    exact ⟨m, x1, pm_I_le hB x2⟩
  · rcases c with c | ⟨c1, c2, m, c3, c4⟩
    · exact Or.inl c
    · exact Or.inr ⟨c1, c2, m, c3, pm_I_le hB c4⟩
/-- the same but for what nobody asks -/
theorem pm_Rel_cg {B : Nat} {g g' : pm_Cs} {h h' : pm_Ms} {L : Int32 × Int32 × Int32} (hR : pm_Rel B g h L) (hg : ∀ j, (j = 0 ∨ j = 2 ∨ j = 8 ∨ j = 12 ∨ j = 13 ∨ j = 14) → g'.1 j = g.1 j) (hg2 : g'.2.1 = g.2.1) (hg3 : g'.2.2.1 = g.2.2.1) (hf : ∀ j, (j = 3 ∨ j = 5 ∨ j = 9 ∨ j = 10 ∨ j = 11 ∨ j = 15 ∨ j = 18 ∨ j = 22) → h'.1 j = h.1 j) (hh : ∀ j, (j = 1 ∨ j = 3 ∨ j = 4 ∨ j = 6 ∨ j = 8) → h'.2 j = h.2 j) : pm_Rel B g' h' L := by
  unfold pm_Rel at hR ⊢
  rw [hg 0 (by decide), hg 2 (by decide), hg 8 (by decide), hg 12 (by decide), hg 13 (by decide), hg 14 (by decide), hg2, hg3, hf 3 (by decide), hf 5 (by decide), hf 9 (by decide), hf 10 (by decide), hf 11 (by decide), hf 15 (by decide), hf 18 (by decide), hf 22 (by decide), hh 1 (by decide), hh 3 (by decide), hh 4 (by decide), hh 6 (by decide), hh 8 (by decide)]
  exact hR
theorem pm_pl_ne {c : Nat} {q : Int32} : ¬ pm_pl c q = 0 ∧ ¬ pm_pl c q ≤ 0 := by
  unfold pm_pl
  (repeat' split) <;> decide
theorem pm_gt0 {q : Int32} (h : 0 < q) : ¬ q ≤ 0 ∧ ¬ q < 0 := ⟨Int32.not_le.mpr h, fun h2 => Int32.lt_irrefl (Int32.lt_trans h h2)⟩
/-- a change, side by side -/
theorem pm_s_cq {B c n k : Nat} {g : pm_Cs} {h h2 : pm_Ms} {L : Int32 × Int32 × Int32} {Q : Int32 × Int32} {O : Int32 × (Nat → Int32) × (Nat → Int32) × (Nat → Int32) × (Nat → Int32)} {m E : Int32 × (Nat → Int32) × (Nat → Int32) × (Nat → Int32)} {fk gbk gq : Nat → Int32} (hRel : pm_Rel B g h L) (hRS : pm_RS n (g.1 0) (h.2 1)) (hI : pm_I B n (g.1 0)) (hk : k = g.2.2.1 1)
    (f6 : fk 6 = 0) (f7 : fk 7 = 0) (fo : ∀ j, j ≠ 6 → j ≠ 7 → fk j = h.1 j) (gbe : ∀ j, j < 91 → gbk j = h.2 1 j)
    (hE : (Q.1 = 0 ∧ m.1 = O.1 ∧ (∀ j, j ≠ 13 → m.2.1 j = fk j) ∧ ∃ n', pm_RS n' O.2.1 m.2.2.1 ∧ pm_I (B + 693) n' O.2.1) ∨ ((Q.1 = -1 ∨ Q.1 = -2) ∧ m = (0, upd fk 6 (pm_pl c Q.1), h.2 1, gq)) ∨ (0 < Q.1 ∧ m = (0, upd (upd (upd fk 7 Q.1) 8 Q.2) 6 (pm_pl c Q.1), h.2 1, gq)))
    (eE : E = d_X13_ends m.1 0 k m.2.1 m.2.2.1 gbk (h.2 4)) (e1 : h2.1 = E.2.1) (e2 : h2.2 1 = E.2.2.1) (e4 : h2.2 4 = E.2.2.2) (e3 : h2.2 3 = h.2 3) (e6 : h2.2 6 = h.2 6) (e8 : h2.2 8 = h.2 8) : ∀ kc v g' L', pm_Rcq c Q O g L kc v g' L' → h2.1 6 = kc ∧ (kc = 0 → v = E.1) ∧ pm_Rel (B + 693 * 11) g' h2 L' := by
  intro kc v g' L' hR
  have h7 := hI.1.2.1
  obtain ⟨-, ⟨ho, hk8, h5, hp⟩, hsn, htx, hfa, hln, hl9, hl10, hl11, hl1, hl2⟩ := id hRel
  have low : ∀ (g3 : Nat → Int32), (∀ j, j < 91 → g3 j = h.2 1 j) → h2.2 1 = g3 → h2.2 4 = h.2 4 → (∀ j, (j = 3 ∨ j = 5 ∨ j = 15 ∨ j = 18 ∨ j = 22) → h2.1 j = h.1 j) → ∀ (g2 : pm_Cs) (L2 : Int32 × Int32 × Int32), g2.1 0 = g.1 0 → g2.1 2 = g.1 2 → g2.1 8 = g.1 8 → g2.1 12 = g.1 12 → g2.1 13 = g.1 13 → g2.1 14 = g.1 14 → g2.2.1 = g.2.1 → g2.2.2.1 = g.2.2.1 → (h2.1 9 = L2.1 ∧ h2.1 10 = L2.2.1 ∧ h2.1 11 = L2.2.2 ∧ ¬ L2.1 < 0 ∧ ¬ L2.2.2 < 0) → pm_Rel (B + 693 * 11) g2 h2 L2 := by
    intro g3 hg3 h21 h24 hf g2 L2 q0 q02 q08 q12 q13 q14 q2 q3 hL2
    refine pm_Rel_le (B := B) (by omega) ?_
    unfold pm_Rel
    rw [q0, q02, q08, q12, q13, q14, q2, q3, h24, e3, e6, e8, hf 3 (by decide), hf 5 (by decide), hf 15 (by decide), hf 18 (by decide), hf 22 (by decide)]
    exact ⟨⟨n, by rw [h21]; exact pm_RS_cg hRS h7 (fun _ _ => rfl) hg3, hI⟩, ⟨ho, hk8, h5, hp⟩, hsn, htx, hfa, hln, hL2⟩
  rcases hR with ⟨q0, rfl, rfl, rfl, rfl⟩ | ⟨q0, rfl, rfl, rfl⟩ | ⟨q0, rfl, ⟨ldv, rfl⟩, rfl⟩
  · rcases hE with ⟨-, E1, E2, n', E3, E4⟩ | ⟨hE, -⟩ | ⟨hE, -⟩
    · have m6 : m.2.1 6 = 0 := (E2 6 (by decide)).trans f6
      have m7 : m.2.1 7 = 0 := (E2 7 (by decide)).trans f7
      have mo : ∀ j, j ≠ 6 → j ≠ 7 → j ≠ 13 → m.2.1 j = h.1 j := fun j a b c => (E2 j c).trans (fo j a b)
      have key : ∀ (o' k' : Nat) (gp' : Nat → Int32), o' < 8 → k' ≤ 8 → h2.1 5 = nI k' → h2.2 4 = gp' → (∀ j, (j = 3 ∨ j = 9 ∨ j = 10 ∨ j = 11 ∨ j = 15 ∨ j = 18 ∨ j = 22) → h2.1 j = h.1 j) → h2.2 1 = m.2.2.1 →
          (∀ p, p < k' → ∃ n, pm_RS n ((pm_kep g (g.1 0)).2.1 ((o' + p) % 8)) (fun j => gp' (91 * p + j)) ∧ pm_I B n ((pm_kep g (g.1 0)).2.1 ((o' + p) % 8))) → (pm_kep g (g.1 0)).2.2.1 0 = o' → (pm_kep g (g.1 0)).2.2.1 1 = k' → (pm_kep g (g.1 0)).2.2.1 2 = g.2.2.1 2 →
          pm_Rel (B + 693 * 11) (pm_kdo (pm_kep g (g.1 0)) O.2.1 O.2.2.1 O.2.2.2.1 O.2.2.2.2) h2 L' := by
        intro o' k' gp' ho' hk' h5' h4' hf' h1' hp' w0 w1 w2
        refine ⟨⟨n', by rw [h1']; exact E3, pm_I_le (by omega) E4⟩, ⟨?_, ?_, ?_, ?_⟩, ?_, ?_, ?_, ?_, ?_⟩
        · show (pm_kep g (g.1 0)).2.2.1 0 < 8; rw [w0]; exact ho'
        · show (pm_kep g (g.1 0)).2.2.1 1 ≤ 8; rw [w1]; exact hk'
        · show h2.1 5 = nI ((pm_kep g (g.1 0)).2.2.1 1); rw [w1]; exact h5'
        · intro p hpk
          have hpk : p < (pm_kep g (g.1 0)).2.2.1 1 := hpk
          rw [w1] at hpk
          obtain ⟨m', x1, x2⟩ := hp' p hpk
          refine ⟨m', ?_, ?_⟩
          · show pm_RS m' ((pm_kep g (g.1 0)).2.1 (((pm_kep g (g.1 0)).2.2.1 0 + p) % 8)) (fun j => h2.2 4 (91 * p + j)); rw [w0, h4']; exact x1
          · show pm_I _ m' ((pm_kep g (g.1 0)).2.1 (((pm_kep g (g.1 0)).2.2.1 0 + p) % 8)); rw [w0]; exact pm_I_le (by omega) x2
        · show (g.1 12 9 = 0 ∧ h2.1 3 = 0) ∨ (¬ g.1 12 9 = 0 ∧ ¬ h2.1 3 = 0 ∧ ∃ n, pm_RS n (g.1 2) (h2.2 3) ∧ pm_I (B + 693 * 11) n (g.1 2))
          rw [hf' 3 (by decide)]
          rcases hsn with hsn | ⟨c1, c2, m', c3, c4⟩
          · exact Or.inl hsn
          · exact Or.inr ⟨c1, c2, m', by rw [e3]; exact c3, pm_I_le (by omega) c4⟩
        · show ∃ t, t ≤ 60 ∧ g.1 13 4 = nI t ∧ h2.1 15 = nI t ∧ ∀ i, i < t → h2.2 6 i = g.1 8 i
          rw [hf' 15 (by decide), e6]; exact htx
        · show (g.1 12 10 = 0 ∧ h2.1 18 = -1) ∨ (¬ g.1 12 10 = 0 ∧ h2.1 18 = g.1 12 11 ∧ ¬ g.1 12 11 < 0)
          rw [hf' 18 (by decide)]; exact hfa
        · show (pm_kep g (g.1 0)).2.2.1 2 ≤ 16 ∧ h2.1 22 = nI ((pm_kep g (g.1 0)).2.2.1 2) ∧ ∀ i, i < (pm_kep g (g.1 0)).2.2.1 2 → ∃ q, q < 128 ∧ g.1 14 i = nI q ∧ h2.2 8 i = nI q
          rw [w2, hf' 22 (by decide), e8]; exact hln
        · rw [hf' 9 (by decide), hf' 10 (by decide), hf' 11 (by decide)]; exact ⟨hl9, hl10, hl11, hl1, hl2⟩
      by_cases hk8' : k = 8
      · have eE2 : E = (m.1, upd (upd m.2.1 5 (nI (k - 1))) 5 (nI (k - 1) + 1), m.2.2.1, va_cpy gbk (va_cpy (h.2 4) (h.2 4) 91 0 637) 0 (91 * (k - 1)) 91) := by
          rw [eE]; unfold d_X13_ends
          rw [if_pos (show m.2.1 7 ≤ 0 by rw [m7]; decide), if_pos (show m.2.1 6 ≤ 0 by rw [m6]; decide), if_pos (show nI k = 8 by rw [hk8']; rfl)]
        subst eE2
        refine ⟨by rw [e1]; simp (disch := omega) only [pk_us, pk_un]; exact m6, fun _ => E1.symm, ?_⟩
        refine key ((g.2.2.1 0 + 1) % 8) 8 _ (Nat.mod_lt _ (by decide)) (Nat.le_refl _) (by rw [e1]; simp (disch := omega) only [pk_us, pk_un]; rw [hk8']; rfl) e4 (fun j hj => by rw [e1]; simp (disch := omega) only [pk_us, pk_un]; exact mo j (by omega) (by omega) (by omega)) e2 ?_ (if_neg (by omega)) (show (if g.2.2.1 1 < 8 then g.2.2.1 1 + 1 else g.2.2.1 1) = 8 by rw [if_neg (by omega)]; omega) rfl
        intro p hp8
        show ∃ n, pm_RS n (if ((g.2.2.1 0 + 1) % 8 + p) % 8 = (g.2.2.1 0 + g.2.2.1 1) % 8 then pm_cpr (g.1 0) (g.2.1 ((g.2.2.1 0 + g.2.2.1 1) % 8)) else g.2.1 (((g.2.2.1 0 + 1) % 8 + p) % 8)) (fun j => va_cpy gbk (va_cpy (h.2 4) (h.2 4) 91 0 637) 0 (91 * (k - 1)) 91 (91 * p + j)) ∧ pm_I B n (if ((g.2.2.1 0 + 1) % 8 + p) % 8 = (g.2.2.1 0 + g.2.2.1 1) % 8 then pm_cpr (g.1 0) (g.2.1 ((g.2.2.1 0 + g.2.2.1 1) % 8)) else g.2.1 (((g.2.2.1 0 + 1) % 8 + p) % 8))
        by_cases hp7 : p = 7
        · rw [if_pos (by omega)]
          refine ⟨n, pm_RS_cg hRS h7 (fun j hj => if_pos hj) (fun j hj => ?_), pm_I_cg hI (fun j hj => if_pos hj)⟩
          show va_cpy gbk (va_cpy (h.2 4) (h.2 4) 91 0 637) 0 (91 * (k - 1)) 91 (91 * p + j) = h.2 1 j
          rw [pk_cpy_in (by omega) (by omega), show 0 + (91 * p + j - 91 * (k - 1)) = j by omega]
          exact gbe j hj
        · rw [if_neg (by omega), show ((g.2.2.1 0 + 1) % 8 + p) % 8 = (g.2.2.1 0 + (p + 1)) % 8 by omega]
          obtain ⟨m', x1, x2⟩ := hp (p + 1) (by omega)
          refine ⟨m', pm_RS_cg x1 x2.1.2.1 (fun _ _ => rfl) (fun j hj => ?_), x2⟩
          show va_cpy gbk (va_cpy (h.2 4) (h.2 4) 91 0 637) 0 (91 * (k - 1)) 91 (91 * p + j) = h.2 4 (91 * (p + 1) + j)
          rw [pk_cpy_out (by omega), pk_cpy_in (by omega) (by omega), show 91 + (91 * p + j - 0) = 91 * (p + 1) + j by omega]
      · have eE2 : E = (m.1, upd m.2.1 5 (nI k + 1), m.2.2.1, va_cpy gbk (h.2 4) 0 (91 * k) 91) := by
          rw [eE]; unfold d_X13_ends
          rw [if_pos (show m.2.1 7 ≤ 0 by rw [m7]; decide), if_pos (show m.2.1 6 ≤ 0 by rw [m6]; decide), if_neg (show ¬ nI k = 8 from fun e => hk8' ((nI_eq (b := 8) (by omega) (by decide)).mp e))]
        subst eE2
        refine ⟨by rw [e1]; simp (disch := omega) only [pk_us, pk_un]; exact m6, fun _ => E1.symm, ?_⟩
        refine key (g.2.2.1 0) (k + 1) _ ho (by omega) (by rw [e1]; simp (disch := omega) only [pk_us, pk_un]; exact nI_1 k) e4 (fun j hj => by rw [e1]; simp (disch := omega) only [pk_us, pk_un]; exact mo j (by omega) (by omega) (by omega)) e2 ?_ (if_pos (by omega)) (show (if g.2.2.1 1 < 8 then g.2.2.1 1 + 1 else g.2.2.1 1) = k + 1 by rw [if_pos (by omega), hk]) rfl
        intro p hp8
        show ∃ n, pm_RS n (if (g.2.2.1 0 + p) % 8 = (g.2.2.1 0 + g.2.2.1 1) % 8 then pm_cpr (g.1 0) (g.2.1 ((g.2.2.1 0 + g.2.2.1 1) % 8)) else g.2.1 ((g.2.2.1 0 + p) % 8)) (fun j => va_cpy gbk (h.2 4) 0 (91 * k) 91 (91 * p + j)) ∧ pm_I B n (if (g.2.2.1 0 + p) % 8 = (g.2.2.1 0 + g.2.2.1 1) % 8 then pm_cpr (g.1 0) (g.2.1 ((g.2.2.1 0 + g.2.2.1 1) % 8)) else g.2.1 ((g.2.2.1 0 + p) % 8))
        by_cases hpk : p = k
        · rw [if_pos (by omega)]
          refine ⟨n, pm_RS_cg hRS h7 (fun j hj => if_pos hj) (fun j hj => ?_), pm_I_cg hI (fun j hj => if_pos hj)⟩
          show va_cpy gbk (h.2 4) 0 (91 * k) 91 (91 * p + j) = h.2 1 j
          rw [pk_cpy_in (by omega) (by omega), show 0 + (91 * p + j - 91 * k) = j by omega]
          exact gbe j hj
        · rw [if_neg (by omega)]
          obtain ⟨m', x1, x2⟩ := hp p (by omega)
          refine ⟨m', pm_RS_cg x1 x2.1.2.1 (fun _ _ => rfl) (fun j hj => ?_), x2⟩
          show va_cpy gbk (h.2 4) 0 (91 * k) 91 (91 * p + j) = h.2 4 (91 * p + j)
          rw [pk_cpy_out (Or.inl (by omega))]
    · rcases hE with hE | hE <;> rw [q0] at hE <;> exact absurd hE (by decide)
    · rw [q0] at hE; exact absurd hE (by decide)
  · rcases hE with ⟨hE, -⟩ | ⟨-, E1⟩ | ⟨hE, -⟩
    · rcases q0 with q0 | q0 <;> rw [q0] at hE <;> exact absurd hE (by decide)
    · have eE2 : E = (0, upd fk 6 (pm_pl c Q.1), va_cpy gbk (h.2 1) 0 0 91, h.2 4) := by
        rw [eE, E1]; unfold d_X13_ends
        rw [if_pos (show upd fk 6 (pm_pl c Q.1) 7 ≤ 0 by rw [pk_un (by decide), f7]; decide), if_neg (show ¬ upd fk 6 (pm_pl c Q.1) 6 ≤ 0 by rw [pk_us]; exact pm_pl_ne.2)]
      subst eE2
      refine ⟨by rw [e1]; simp (disch := omega) only [pk_us], fun e => absurd e pm_pl_ne.1, ?_⟩
      refine low (va_cpy gbk (h.2 1) 0 0 91) (fun j hj => ?_) e2 e4 (fun j hj => by rw [e1]; simp (disch := omega) only [pk_un]; exact fo j (by omega) (by omega)) _ _ rfl rfl rfl rfl rfl rfl rfl rfl ⟨?_, ?_, ?_, hl1, hl2⟩
      · rw [pk_cpy_in (Nat.zero_le _) (by omega), show 0 + (j - 0) = j by omega]; exact gbe j hj
      · rw [e1]; simp (disch := omega) only [pk_un]; rw [fo 9 (by decide) (by decide)]; exact hl9
      · rw [e1]; simp (disch := omega) only [pk_un]; rw [fo 10 (by decide) (by decide)]; exact hl10
      · rw [e1]; simp (disch := omega) only [pk_un]; rw [fo 11 (by decide) (by decide)]; exact hl11
    · rcases q0 with q0 | q0 <;> rw [q0] at hE <;> exact absurd hE (by decide)
  · rcases hE with ⟨hE, -⟩ | ⟨hE, -⟩ | ⟨-, E1⟩
    · rw [hE] at q0; exact absurd q0 (by decide)
    · rcases hE with hE | hE <;> rw [hE] at q0 <;> exact absurd q0 (by decide)
    · have g0 := pm_gt0 q0
      have eE2 : E = (0, upd (upd (upd (upd (upd (upd fk 7 Q.1) 8 Q.2) 6 (pm_pl c Q.1)) 9 Q.1) 10 Q.2) 11 0, va_cpy gbk (h.2 1) 0 0 91, h.2 4) := by
        have x7 : upd (upd (upd fk 7 Q.1) 8 Q.2) 6 (pm_pl c Q.1) 7 = Q.1 := by simp (disch := omega) only [pk_us, pk_un]
        have x8 : upd (upd (upd fk 7 Q.1) 8 Q.2) 6 (pm_pl c Q.1) 8 = Q.2 := by simp (disch := omega) only [pk_us, pk_un]
        have x6 : upd (upd (upd fk 7 Q.1) 8 Q.2) 6 (pm_pl c Q.1) 6 = pm_pl c Q.1 := pk_us
        rw [eE, E1]; unfold d_X13_ends
        simp only [x7, x8, x6]
        rw [if_neg g0.1, if_neg pm_pl_ne.2]
      subst eE2
      refine ⟨by rw [e1]; simp (disch := omega) only [pk_us, pk_un], fun e => absurd e pm_pl_ne.1, ?_⟩
      refine low (va_cpy gbk (h.2 1) 0 0 91) (fun j hj => ?_) e2 e4 (fun j hj => by rw [e1]; simp (disch := omega) only [pk_un]; exact fo j (by omega) (by omega)) _ _ rfl rfl rfl rfl rfl rfl rfl rfl ⟨?_, ?_, ?_, g0.2, (show ¬ (0 : Int32) < 0 by decide)⟩
      · rw [pk_cpy_in (Nat.zero_le _) (by omega), show 0 + (j - 0) = j by omega]; exact gbe j hj
      · rw [e1]; simp (disch := omega) only [pk_us, pk_un]
      · rw [e1]; simp (disch := omega) only [pk_us, pk_un]
      · rw [e1]; simp (disch := omega) only [pk_us, pk_un]
