theorem pw_wrI {z : Nat} {kA : Nat → ClassId} {kE : Nat → Nat} {G G2 : pw_G} {ar : List (Nat × va_E)} {nx n' k : Nat} {M M' : pm_M} {g' : pm_Cs} {v V : Int32} {o : pm_O} (hW : pw_W z kA kE G ar nx M) (hp : pw_wr (pm_fa z kA kE nx M k (some (.int v)) g') [("java/lang/IndexOutOfBoundsException", (-11))] o n' M') (hg : pw_g G2 g') (h : (k = 0 ∧ v = V) ∨ (k = 1 ∧ V = -11)) : pw_P (some (.int V)) (pw_W z kA kE G2 ar) o n' M' := by
  obtain ⟨val, rfl, hp | ⟨e, he, hp, rfl⟩⟩ := hp
  · obtain ⟨h1, h2, h3, ⟨h4, h5⟩ | ⟨-, h5⟩⟩ := hp
    · rcases h with ⟨-, rfl⟩ | ⟨h, -⟩
      · exact ⟨h5, pw_to hW h2 h1 h3 hg⟩
      · omega
    · cases h5
  · obtain ⟨h1, h2, h3, ⟨-, h5⟩ | ⟨h4, h5⟩⟩ := hp
    · cases h5
    · rcases h with ⟨h, -⟩ | ⟨-, rfl⟩
      · omega
      · rw [List.mem_singleton.mp he]
        exact ⟨rfl, pw_to hW h2 h1 h3 hg⟩
theorem pw_wrE {z : Nat} {kA : Nat → ClassId} {kE : Nat → Nat} {nx n' k : Nat} {M M' : pm_M} {g' : pm_Cs} {v : Option Value} {E : String} (hk : k = 0 ∨ k = 1) (h : pm_fa z kA kE nx M k v g' (.inr E) n' M') : E = "java/lang/IndexOutOfBoundsException" := by
  obtain ⟨-, -, -, ⟨-, h5⟩ | ⟨h4, h5⟩⟩ := h
  · cases h5
  · rcases hk with hk | hk
    · omega
    · subst hk
      exact Sum.inr.inj h5
theorem pw_wrV {z : Nat} {kA : Nat → ClassId} {kE : Nat → Nat} {nx n' k : Nat} {M M' : pm_M} {g' : pm_Cs} {x : Int32} {w : Option Value} (h : pm_fa z kA kE nx M k (some (.int x)) g' (.inl w) n' M') : ∃ k : Int32, w = some (.int k) := by
  obtain ⟨-, -, -, ⟨-, h5⟩ | ⟨-, h5⟩⟩ := h
  · exact ⟨_, Sum.inl.inj h5⟩
  · cases h5
theorem b_L_writeMember {l : Launch} {z : Nat} {D : va_G} {kA : Nat → ClassId} {kE : Nat → Nat} {B n : Nat} {r : Nat → Int32} {hs : List (Nat → Int32)} {t : Nat} {ln : List Nat} {ar : List (Nat × va_E)} (hI : pm_I B n r) {i : Nat} (hi : i < n) : ∀ nx M, (pw_W z kA kE (B, r, hs, (t, ln)) ar) nx M → pm_Cw l z D kA kE yL_writeMember cL_writeMember 3 (some .int) [(0, 5, 6, 22)] 21 1 6 [.ref (z + 0), .int (nI i)] nx M (pw_P (some (.int (nI (pw_ln r i).length))) (pw_W z kA kE (B, r, hs, (t, pw_ln r i)) ar)) := by
  intro nx M hW
  have h7 : n ≤ 7 := hI.1.2.1
  obtain ⟨g, hT, hg⟩ := id hW.2.2.2
  have e : g.1 0 = r := hg.1
  obtain ⟨q0, q1, q3, q4, q5, q6, ⟨q7, q8, q9⟩⟩ := id hg
  dsimp only at q7 q8
  have hf := f_X12_writeMember (x := (nI i)) (l := l) (D := D) (nx := nx) hT (by rw [e]; exact hI.1.1) h7 (by rw [e]; exact hI.2.1) (by omega)
  rw [e, if_neg (pw_hm hi h7), if_neg (pw_hm hi h7), show pm_n (nI i) = i from pm_n_nI (by omega)] at hf
  have hk : (if d_X10_hasMember (nI i) n r = 0 then 1 else 0) = 0 ∨ (if d_X10_hasMember (nI i) n r = 0 then 1 else 0) = 1 := by split <;> omega
  obtain ⟨⟨r1, r2, r3⟩, r4, r5, r6⟩ := pw_lnN hI hi (g.1 14)
  have hg2 : pw_g (B, r, hs, (t, pw_ln r i)) (pm_kln g (pm_lnr (g.1 14) r i).1 (pm_lnr (g.1 14) r i).2 (if g.2.2.1 2 = 0 then g.2.2.2.2.1 else 1)) := ⟨q0, q1, q3, q4, q5, q6, ⟨r1, (show (pw_ln r i).length ≤ 16 by omega), fun j hj => ⟨r2 j hj, ?_⟩⟩⟩
  · refine pm_Cwpost (c_L_writeMember hT.1 hf (fun v n' M1 h => pw_wrV h) (fun E n' M1 h => pw_wrE (Or.inl rfl) h)) fun o n' M' hp => pw_wrI hW hp hg2 (Or.inl ⟨rfl, by rw [r1]⟩)
  · show (pw_ln r i).getD j 0 < 128
    rw [List.getD_eq_getElem?_getD, List.getElem?_eq_getElem hj]
    exact r3 _ (List.getElem_mem hj)
theorem b_L_writeMember_n {l : Launch} {z : Nat} {D : va_G} {kA : Nat → ClassId} {kE : Nat → Nat} {B n : Nat} {r : Nat → Int32} {hs : List (Nat → Int32)} {t : Nat} {ln : List Nat} {ar : List (Nat × va_E)} (hI : pm_I B n r)  : ∀ nx M, (pw_W z kA kE (B, r, hs, (t, ln)) ar) nx M → pm_Cw l z D kA kE yL_writeMember cL_writeMember 3 (some .int) [(0, 5, 6, 22)] 21 1 6 [.ref (z + 0), .int (nI n)] nx M (pw_P (some (.int (-11))) (pw_W z kA kE (B, r, hs, (t, ln)) ar)) := by
  intro nx M hW
  have h7 : n ≤ 7 := hI.1.2.1
  obtain ⟨g, hT, hg⟩ := id hW.2.2.2
  have e : g.1 0 = r := hg.1
  obtain ⟨q0, q1, q3, q4, q5, q6, ⟨q7, q8, q9⟩⟩ := id hg
  dsimp only at q7 q8
  have hf := f_X12_writeMember (x := (nI n)) (l := l) (D := D) (nx := nx) hT (by rw [e]; exact hI.1.1) h7 (by rw [e]; exact hI.2.1) (by omega)
  rw [e, if_pos (pw_hn h7), if_pos (pw_hn h7)] at hf
  have hk : (if d_X10_hasMember (nI n) n r = 0 then 1 else 0) = 0 ∨ (if d_X10_hasMember (nI n) n r = 0 then 1 else 0) = 1 := by split <;> omega
  exact pm_Cwpost (c_L_writeMember hT.1 hf (fun v n' M1 h => pw_wrV h) (fun E n' M1 h => pw_wrE (Or.inr rfl) h)) fun o n' M' hp => pw_wrI hW hp hg (Or.inr ⟨rfl, rfl⟩)
theorem b_L_writeMember_z {l : Launch} {z : Nat} {D : va_G} {kA : Nat → ClassId} {kE : Nat → Nat} {B n : Nat} {r : Nat → Int32} {hs : List (Nat → Int32)} {t : Nat} {ln : List Nat} {ar : List (Nat × va_E)} (hI : pm_I B n r)  : ∀ nx M, (pw_W z kA kE (B, r, hs, (t, ln)) ar) nx M → pm_Cw l z D kA kE yL_writeMember cL_writeMember 3 (some .int) [(0, 5, 6, 22)] 21 1 6 [.ref (z + 0), .int (-1)] nx M (pw_P (some (.int (-11))) (pw_W z kA kE (B, r, hs, (t, ln)) ar)) := by
  intro nx M hW
  have h7 : n ≤ 7 := hI.1.2.1
  obtain ⟨g, hT, hg⟩ := id hW.2.2.2
  have e : g.1 0 = r := hg.1
  obtain ⟨q0, q1, q3, q4, q5, q6, ⟨q7, q8, q9⟩⟩ := id hg
  dsimp only at q7 q8
  have hf := f_X12_writeMember (x := (-1)) (l := l) (D := D) (nx := nx) hT (by rw [e]; exact hI.1.1) h7 (by rw [e]; exact hI.2.1) (by omega)
  rw [e, if_pos (pw_hz), if_pos (pw_hz)] at hf
  have hk : (if d_X10_hasMember (-1) n r = 0 then 1 else 0) = 0 ∨ (if d_X10_hasMember (-1) n r = 0 then 1 else 0) = 1 := by split <;> omega
  exact pm_Cwpost (c_L_writeMember hT.1 hf (fun v n' M1 h => pw_wrV h) (fun E n' M1 h => pw_wrE (Or.inr rfl) h)) fun o n' M' hp => pw_wrI hW hp hg (Or.inr ⟨rfl, rfl⟩)
theorem b_L_lineAt {l : Launch} {z : Nat} {D : va_G} {kA : Nat → ClassId} {kE : Nat → Nat} {B n : Nat} {r : Nat → Int32} {hs : List (Nat → Int32)} {t : Nat} {ln : List Nat} {ar : List (Nat × va_E)} {j : Nat} (hj : j < ln.length) : ∀ nx M, (pw_W z kA kE (B, r, hs, (t, ln)) ar) nx M → pm_Cw l z D kA kE yL_lineAt cL_lineAt 3 (some .int) [(0, 5, 6, 22)] 21 1 6 [.ref (z + 0), .int (nI j)] nx M (pw_P (some (.int (nI (ln.getD j 0)))) (pw_W z kA kE (B, r, hs, (t, ln)) ar)) := by
  intro nx M hW
  obtain ⟨g, hT, hg⟩ := id hW.2.2.2
  obtain ⟨q0, q1, q3, q4, q5, q6, ⟨q7, q8, q9⟩⟩ := id hg
  dsimp only at q7 q8 q9
  have hf := f_X12_lineCharacter (x := nI j) (l := l) (D := D) (nx := nx) hT (by omega) (fun i hi => ⟨_, (q9 i (by omega)).2, (q9 i (by omega)).1⟩)
  rw [if_neg (nI_pos (by omega)), if_pos ((nI_ltI (by omega) (by omega)).mpr (by omega)), show pm_n (nI j) = j from pm_n_nI (by omega)] at hf
  exact pm_Cwpost (c_L_lineAt hT.1 hf (fun v n' M1 h => pw_wrV h) (fun E n' M1 h => pw_wrE (Or.inl rfl) h)) fun o n' M' hp => pw_wrI hW hp hg (Or.inl ⟨rfl, (q9 j hj).1⟩)
theorem b_L_lineAt_n {l : Launch} {z : Nat} {D : va_G} {kA : Nat → ClassId} {kE : Nat → Nat} {B n : Nat} {r : Nat → Int32} {hs : List (Nat → Int32)} {t : Nat} {ln : List Nat} {ar : List (Nat × va_E)} {j : Nat} (hj : j = ln.length) : ∀ nx M, (pw_W z kA kE (B, r, hs, (t, ln)) ar) nx M → pm_Cw l z D kA kE yL_lineAt cL_lineAt 3 (some .int) [(0, 5, 6, 22)] 21 1 6 [.ref (z + 0), .int (nI j)] nx M (pw_P (some (.int (-11))) (pw_W z kA kE (B, r, hs, (t, ln)) ar)) := by
  intro nx M hW
  obtain ⟨g, hT, hg⟩ := id hW.2.2.2
  obtain ⟨q0, q1, q3, q4, q5, q6, ⟨q7, q8, q9⟩⟩ := id hg
  dsimp only at q7 q8 q9
  have hf := f_X12_lineCharacter (x := nI j) (l := l) (D := D) (nx := nx) hT (by omega) (fun i hi => ⟨_, (q9 i (by omega)).2, (q9 i (by omega)).1⟩)
  rw [if_neg (nI_pos (by omega)), if_neg (fun h => by have := (nI_ltI (by omega) (by omega)).mp h; omega)] at hf
  exact pm_Cwpost (c_L_lineAt hT.1 hf (fun v n' M1 h => pw_wrV h) (fun E n' M1 h => pw_wrE (Or.inr rfl) h)) fun o n' M' hp => pw_wrI hW hp hg (Or.inr ⟨rfl, rfl⟩)
