/-! a text's execution: closed -/
/-- side by side again, from what has changed -/
theorem pm_s_ex0 {B C : Nat} {g g' : pm_Cs} {h h' : pm_Ms} {L L' : Int32 × Int32 × Int32} (hRel : pm_Rel B g h L) (hBC : B ≤ C) (r0 : ∃ n, pm_RS n (g'.1 0) (h'.2 1) ∧ pm_I C n (g'.1 0)) (a1 : g'.2.1 = g.2.1) (a2 : g'.2.2.1 = g.2.2.1) (a3 : h'.1 5 = h.1 5) (a4 : h'.2 4 = h.2 4) (b1 : g'.1 2 = g.1 2) (b2 : g'.1 12 9 = g.1 12 9) (b3 : h'.1 3 = h.1 3) (b4 : h'.2 3 = h.2 3) (c1 : g'.1 13 4 = 0) (c2 : h'.1 15 = 0)
    (d : (g'.1 12 10 = 0 ∧ h'.1 18 = -1) ∨ (¬ g'.1 12 10 = 0 ∧ h'.1 18 = g'.1 12 11 ∧ ¬ g'.1 12 11 < 0)) (e1 : g'.1 14 = g.1 14) (e2 : h'.1 22 = h.1 22) (e3 : h'.2 8 = h.2 8) (f : h'.1 9 = L'.1 ∧ h'.1 10 = L'.2.1 ∧ h'.1 11 = L'.2.2 ∧ ¬ L'.1 < 0 ∧ ¬ L'.2.2 < 0) : pm_Rel C g' h' L' := by
  obtain ⟨-, ⟨ho, hk8, h5, hp⟩, hsn, -, -, hln, -⟩ := id hRel
  refine ⟨r0, ?_, ?_, ⟨0, by decide, c1, c2, fun i hi => absurd hi (Nat.not_lt_zero _)⟩, d, ?_, f⟩
  · rw [a1, a2, a3, a4]
    refine ⟨ho, hk8, h5, fun p hp2 => ?_⟩
    obtain ⟨m, x1, x2⟩ := hp p hp2
    exact ⟨m, x1, pm_I_le hBC x2⟩
  · rw [b1, b2, b3, b4]
    rcases hsn with hsn | ⟨c1, c2, m', c3, c4⟩
    · exact Or.inl hsn
    · exact Or.inr ⟨c1, c2, m', c3, pm_I_le hBC c4⟩
  · rw [e1, e2, e3, a2]
    exact hln
theorem pm_s_exD {B C n k : Nat} {g : pm_Cs} {h h2 : pm_Ms} {L : Int32 × Int32 × Int32} {Rr q rm dr fs sd sc cc f g2 gb : Nat → Int32} {ldv : Value} {x : Int32} {E : Int32 × (Nat → Int32) × (Nat → Int32) × (Nat → Int32)} (hRel : pm_Rel B g h L) (hRS : pm_RS n (g.1 0) (h.2 1)) (hI : pm_I B n (g.1 0)) (hk : k = g.2.2.1 1) (f6 : f 6 = 0) (f7 : f 7 = 0) (f15 : f 15 = 0) (fo : ∀ j, (j = 3 ∨ j = 9 ∨ j = 10 ∨ j = 11 ∨ j = 18 ∨ j = 22) → f j = h.1 j) (gbe : ∀ j, j < 91 → gb j = h.2 1 j) (hBC : B ≤ C) (hR : ∃ n', pm_RS n' Rr g2 ∧ pm_I C n' Rr) (hsc : sc 4 = 0)
    (eE : E = d_X13_ends x 0 k f g2 gb (h.2 4)) (e1 : h2.1 = E.2.1) (e2 : h2.2 1 = E.2.2.1) (e4 : h2.2 4 = E.2.2.2) (e3 : h2.2 3 = h.2 3) (e8 : h2.2 8 = h.2 8) : h2.1 6 = 0 ∧ E.1 = x ∧ pm_Rel C (pm_kep (pm_kex g Rr (pm_cpr (g.1 0) (g.1 1)) q rm dr fs sd sc cc (g.1 12) ldv) (pm_cpr (g.1 0) (g.1 1))) h2 L := by
  have h7 := hI.1.2.1
  obtain ⟨-, ⟨ho, hk8, h5, hp⟩, hsn, htx, hfa, hln, hl9, hl10, hl11, hl1, hl2⟩ := id hRel
  obtain ⟨n', E3, E4⟩ := hR
  have key : ∀ (o' k' : Nat) (gp' : Nat → Int32), o' < 8 → k' ≤ 8 → h2.1 5 = nI k' → h2.2 4 = gp' → (∀ j, (j = 3 ∨ j = 9 ∨ j = 10 ∨ j = 11 ∨ j = 18 ∨ j = 22) → h2.1 j = h.1 j) → h2.1 15 = 0 → h2.2 1 = g2 →
      (∀ p, p < k' → ∃ n, pm_RS n ((pm_kep (pm_kex g Rr (pm_cpr (g.1 0) (g.1 1)) q rm dr fs sd sc cc (g.1 12) ldv) (pm_cpr (g.1 0) (g.1 1))).2.1 ((o' + p) % 8)) (fun j => gp' (91 * p + j)) ∧ pm_I B n ((pm_kep (pm_kex g Rr (pm_cpr (g.1 0) (g.1 1)) q rm dr fs sd sc cc (g.1 12) ldv) (pm_cpr (g.1 0) (g.1 1))).2.1 ((o' + p) % 8))) → (pm_kep (pm_kex g Rr (pm_cpr (g.1 0) (g.1 1)) q rm dr fs sd sc cc (g.1 12) ldv) (pm_cpr (g.1 0) (g.1 1))).2.2.1 0 = o' → (pm_kep (pm_kex g Rr (pm_cpr (g.1 0) (g.1 1)) q rm dr fs sd sc cc (g.1 12) ldv) (pm_cpr (g.1 0) (g.1 1))).2.2.1 1 = k' → (pm_kep (pm_kex g Rr (pm_cpr (g.1 0) (g.1 1)) q rm dr fs sd sc cc (g.1 12) ldv) (pm_cpr (g.1 0) (g.1 1))).2.2.1 2 = g.2.2.1 2 →
      pm_Rel C (pm_kep (pm_kex g Rr (pm_cpr (g.1 0) (g.1 1)) q rm dr fs sd sc cc (g.1 12) ldv) (pm_cpr (g.1 0) (g.1 1))) h2 L := by
    intro o' k' gp' ho' hk' h5' h4' hf' h15' h1' hp' w0 w1 w2
    refine ⟨⟨n', by rw [h1']; exact E3, E4⟩, ⟨?_, ?_, ?_, ?_⟩, ?_, ⟨0, by decide, hsc, h15', fun i hi => absurd hi (Nat.not_lt_zero _)⟩, ?_, ?_, ?_⟩
    · rw [w0]; exact ho'
    · rw [w1]; exact hk'
    · rw [w1]; exact h5'
    · intro p hpk
      rw [w1] at hpk
      obtain ⟨m', x1, x2⟩ := hp' p hpk
      refine ⟨m', ?_, ?_⟩
      · rw [w0, h4']; exact x1
      · rw [w0]; exact pm_I_le hBC x2
    · show (g.1 12 9 = 0 ∧ h2.1 3 = 0) ∨ (¬ g.1 12 9 = 0 ∧ ¬ h2.1 3 = 0 ∧ ∃ n, pm_RS n (g.1 2) (h2.2 3) ∧ pm_I C n (g.1 2))
      rw [hf' 3 (by decide)]
      rcases hsn with hsn | ⟨c1, c2, m', c3, c4⟩
      · exact Or.inl hsn
      · exact Or.inr ⟨c1, c2, m', by rw [e3]; exact c3, pm_I_le hBC c4⟩
    · show (g.1 12 10 = 0 ∧ h2.1 18 = -1) ∨ (¬ g.1 12 10 = 0 ∧ h2.1 18 = g.1 12 11 ∧ ¬ g.1 12 11 < 0)
      rw [hf' 18 (by decide)]; exact hfa
    · rw [w2, hf' 22 (by decide), e8]; exact hln
    · rw [hf' 9 (by decide), hf' 10 (by decide), hf' 11 (by decide)]; exact ⟨hl9, hl10, hl11, hl1, hl2⟩
  have row : ∀ (old : Nat → Int32) (j : Nat), j < 56 → pm_cpr (pm_cpr (g.1 0) (g.1 1)) old j = g.1 0 j := fun old j hj => (if_pos hj).trans (if_pos hj)
  have h1e : E.2.2.1 = g2 := by
    rw [eE]; unfold d_X13_ends
    rw [if_pos (show f 7 ≤ 0 by rw [f7]; decide), if_pos (show f 6 ≤ 0 by rw [f6]; decide)]
    split <;> rfl
  by_cases hk8' : k = 8
  · have eE2 : E = (x, upd (upd f 5 (nI (k - 1))) 5 (nI (k - 1) + 1), g2, va_cpy gb (va_cpy (h.2 4) (h.2 4) 91 0 637) 0 (91 * (k - 1)) 91) := by
      rw [eE]; unfold d_X13_ends
      rw [if_pos (show f 7 ≤ 0 by rw [f7]; decide), if_pos (show f 6 ≤ 0 by rw [f6]; decide), if_pos (show nI k = 8 by rw [hk8']; rfl)]
    subst eE2
    refine ⟨by rw [e1]; simp (disch := omega) only [pk_un]; exact f6, rfl, ?_⟩
    refine key ((g.2.2.1 0 + 1) % 8) 8 _ (Nat.mod_lt _ (by decide)) (Nat.le_refl _) (by rw [e1]; simp (disch := omega) only [pk_us]; rw [hk8']; rfl) e4 (fun j hj => by rw [e1]; simp (disch := omega) only [pk_un]; exact fo j hj) (by rw [e1]; simp (disch := omega) only [pk_un]; exact f15) e2 ?_ (if_neg (show ¬ g.2.2.1 1 < 8 by omega)) (show (if g.2.2.1 1 < 8 then g.2.2.1 1 + 1 else g.2.2.1 1) = 8 by rw [if_neg (by omega)]; omega) rfl
    intro p hp8
    show ∃ n, pm_RS n (if ((g.2.2.1 0 + 1) % 8 + p) % 8 = (g.2.2.1 0 + g.2.2.1 1) % 8 then pm_cpr (pm_cpr (g.1 0) (g.1 1)) (g.2.1 ((g.2.2.1 0 + g.2.2.1 1) % 8)) else g.2.1 (((g.2.2.1 0 + 1) % 8 + p) % 8)) (fun j => va_cpy gb (va_cpy (h.2 4) (h.2 4) 91 0 637) 0 (91 * (k - 1)) 91 (91 * p + j)) ∧ pm_I B n (if ((g.2.2.1 0 + 1) % 8 + p) % 8 = (g.2.2.1 0 + g.2.2.1 1) % 8 then pm_cpr (pm_cpr (g.1 0) (g.1 1)) (g.2.1 ((g.2.2.1 0 + g.2.2.1 1) % 8)) else g.2.1 (((g.2.2.1 0 + 1) % 8 + p) % 8))
    by_cases hp7 : p = 7
    · rw [if_pos (by omega)]
      refine ⟨n, pm_RS_cg hRS h7 (row _) (fun j hj => ?_), pm_I_cg hI (row _)⟩
      show va_cpy gb (va_cpy (h.2 4) (h.2 4) 91 0 637) 0 (91 * (k - 1)) 91 (91 * p + j) = h.2 1 j
      rw [pk_cpy_in (by omega) (by omega), show 0 + (91 * p + j - 91 * (k - 1)) = j by omega]
      exact gbe j hj
    · rw [if_neg (by omega), show ((g.2.2.1 0 + 1) % 8 + p) % 8 = (g.2.2.1 0 + (p + 1)) % 8 by omega]
      obtain ⟨m', x1, x2⟩ := hp (p + 1) (by omega)
      refine ⟨m', pm_RS_cg x1 x2.1.2.1 (fun _ _ => rfl) (fun j hj => ?_), x2⟩
      show va_cpy gb (va_cpy (h.2 4) (h.2 4) 91 0 637) 0 (91 * (k - 1)) 91 (91 * p + j) = h.2 4 (91 * (p + 1) + j)
      rw [pk_cpy_out (by omega), pk_cpy_in (by omega) (by omega), show 91 + (91 * p + j - 0) = 91 * (p + 1) + j by omega]
  · have eE2 : E = (x, upd f 5 (nI k + 1), g2, va_cpy gb (h.2 4) 0 (91 * k) 91) := by
      rw [eE]; unfold d_X13_ends
      rw [if_pos (show f 7 ≤ 0 by rw [f7]; decide), if_pos (show f 6 ≤ 0 by rw [f6]; decide), if_neg (show ¬ nI k = 8 from fun e => hk8' ((nI_eq (b := 8) (by omega) (by decide)).mp e))]
    subst eE2
    refine ⟨by rw [e1]; simp (disch := omega) only [pk_un]; exact f6, rfl, ?_⟩
    refine key (g.2.2.1 0) (k + 1) _ ho (by omega) (by rw [e1]; simp (disch := omega) only [pk_us]; exact nI_1 k) e4 (fun j hj => by rw [e1]; simp (disch := omega) only [pk_un]; exact fo j hj) (by rw [e1]; simp (disch := omega) only [pk_un]; exact f15) e2 ?_ (if_pos (show g.2.2.1 1 < 8 by omega)) (show (if g.2.2.1 1 < 8 then g.2.2.1 1 + 1 else g.2.2.1 1) = k + 1 by rw [if_pos (by omega), hk]) rfl
    intro p hp8
    show ∃ n, pm_RS n (if (g.2.2.1 0 + p) % 8 = (g.2.2.1 0 + g.2.2.1 1) % 8 then pm_cpr (pm_cpr (g.1 0) (g.1 1)) (g.2.1 ((g.2.2.1 0 + g.2.2.1 1) % 8)) else g.2.1 ((g.2.2.1 0 + p) % 8)) (fun j => va_cpy gb (h.2 4) 0 (91 * k) 91 (91 * p + j)) ∧ pm_I B n (if (g.2.2.1 0 + p) % 8 = (g.2.2.1 0 + g.2.2.1 1) % 8 then pm_cpr (pm_cpr (g.1 0) (g.1 1)) (g.2.1 ((g.2.2.1 0 + g.2.2.1 1) % 8)) else g.2.1 ((g.2.2.1 0 + p) % 8))
    by_cases hpk : p = k
    · rw [if_pos (by omega)]
      refine ⟨n, pm_RS_cg hRS h7 (row _) (fun j hj => ?_), pm_I_cg hI (row _)⟩
      show va_cpy gb (h.2 4) 0 (91 * k) 91 (91 * p + j) = h.2 1 j
      rw [pk_cpy_in (by omega) (by omega), show 0 + (91 * p + j - 91 * k) = j by omega]
      exact gbe j hj
    · rw [if_neg (by omega)]
      obtain ⟨m', x1, x2⟩ := hp p (by omega)
      refine ⟨m', pm_RS_cg x1 x2.1.2.1 (fun _ _ => rfl) (fun j hj => ?_), x2⟩
      show va_cpy gb (h.2 4) 0 (91 * k) 91 (91 * p + j) = h.2 4 (91 * p + j)
      rw [pk_cpy_out (Or.inl (by omega))]
/-- what a call of execute says -/
def pm_Rex (g : pm_Cs) (L : Int32 × Int32 × Int32) (Pq : Int32 × (Nat → Int32) × (Nat → Int32) × (Nat → Int32) × (Nat → Int32)) (Rq : (Int32 × Int32) × Int32 × (Nat → Int32) × (Nat → Int32) × (Nat → Int32) × (Nat → Int32)) : Int32 → Int32 → pm_Cs → Int32 × Int32 × Int32 → Prop := fun kc v g' L' =>
  (Pq.1 = 0 ∧ kc = 1 ∧ g' = pm_kex g (g.1 0) (g.1 1) (g.1 3) (g.1 4) (g.1 5) Pq.2.1 Pq.2.2.1 (d_X9_empty Pq.2.2.2.1) Pq.2.2.2.2 (upd (upd (g.1 12) 10 1) 11 (d_X9_empty Pq.2.2.2.1 6)) g.2.2.2.2.2 ∧ L' = L) ∨
  (¬ Pq.1 = 0 ∧ Rq.1.1 = 0 ∧ kc = 0 ∧ v = d_X9_empty Pq.2.2.2.1 5 ∧ g' = pm_kep (pm_kex g Rq.2.2.1 (pm_cpr (g.1 0) (g.1 1)) Rq.2.2.2.1 Rq.2.2.2.2.1 Rq.2.2.2.2.2 Pq.2.1 Pq.2.2.1 (d_X9_empty Pq.2.2.2.1) Pq.2.2.2.2 (g.1 12) g.2.2.2.2.2) (pm_cpr (g.1 0) (g.1 1)) ∧ L' = L) ∨
  (¬ Pq.1 = 0 ∧ ¬ Rq.1.1 = 0 ∧ kc = 2 ∧ (∃ ldv, g' = pm_kex g (pm_cpr (pm_cpr (g.1 0) (g.1 1)) Rq.2.2.1) (pm_cpr (g.1 0) (g.1 1)) Rq.2.2.2.1 Rq.2.2.2.2.1 Rq.2.2.2.2.2 Pq.2.1 Pq.2.2.1 (d_X9_empty Pq.2.2.2.1) Pq.2.2.2.2 (g.1 12) ldv) ∧ L' = (8, Rq.2.1, if Rq.1.1 ≤ 0 then 9 else Rq.1.1))
theorem pm_exC {l : Launch} {z : Nat} {D : va_G} {kA : Nat → ClassId} {kE : Nat → Nat} {nx : Nat} {M : pm_M} {g : pm_Cs} {L : Int32 × Int32 × Int32} {y : MethodName} {cl : ByteArray} {nL d mc ms : Nat} {As : List Value} {Pq : Int32 × (Nat → Int32) × (Nat → Int32) × (Nat → Int32) × (Nat → Int32)} {Rq : (Int32 × Int32) × Int32 × (Nat → Int32) × (Nat → Int32) × (Nat → Int32) × (Nat → Int32)} (hnx : 151 ≤ nx) (hL : pm_LD z nx M g.2.2.2.2.2 L) (hC : pm_C l z D kA kE y cl nL (some .int) d mc ms As nx M (pm_eT z kA kE nx M g Pq Rq)) : pm_C l z D kA kE y cl nL (some .int) d mc ms As nx M (pm_cl2 z kA kE nx M [("java/lang/IllegalArgumentException", 1), ("java/lang/UnsupportedOperationException", 2)] (pm_Rex g L Pq Rq)) := by
  refine pm_Cpost hC fun o n' M' hp => ?_
  obtain ⟨hF, hn', hp⟩ := hp
  rcases hp with ⟨p0, rfl, hT'⟩ | ⟨p0, r0, rfl, hT'⟩ | ⟨p0, r0, rfl, a, b, qz, a1, a2, b1, b2, ma, mb, hT'⟩
  · exact ⟨hF, hn', _, L, hT', pm_LD_keep hL hn' (fun a h1 h2 => hF a (by omega) h2), Or.inr ⟨_, List.mem_cons_self, rfl, Or.inl ⟨p0, rfl, rfl, rfl⟩⟩⟩
  · exact ⟨hF, hn', _, L, hT', pm_LD_keep hL hn' (fun a h1 h2 => hF a (by omega) h2), Or.inl ⟨_, rfl, Or.inr (Or.inl ⟨p0, r0, rfl, rfl, rfl, rfl⟩)⟩⟩
  · refine ⟨hF, hn', _, (8, Rq.2.1, if Rq.1.1 ≤ 0 then 9 else Rq.1.1), hT', Or.inr ⟨a, by omega, a2, rfl, (show ¬ (8 : Int32) = 0 by decide), Or.inr ⟨b, qz, by omega, b2, ma, mb, ?_⟩⟩, Or.inr ⟨_, List.mem_cons_of_mem _ List.mem_cons_self, rfl, Or.inr (Or.inr ⟨p0, r0, rfl, ⟨_, rfl⟩, rfl⟩)⟩⟩
    show ¬ (if Rq.1.1 ≤ 0 then (9 : Int32) else Rq.1.1) = 0
    split
    · decide
    · exact r0
section PXX
variable {l : Launch} {z : Nat} {D : va_G} {kA : Nat → ClassId} {kE : Nat → Nat} {h : pm_Ms} {t : Nat}
theorem pp_xP {X : pm_X} {Q : State → Prop} {nx : Nat} {M : pm_M} (B : pm_B l z D kA kE RX13 cX13_execute 3 (some .int) "execute" [] 7 0 0 X) (hT : pm_TM z kA M h) (ht : t ≤ 60) (h15 : h.1 15 = nI t)
    (hgo : ¬ pp_go t (h.2 6) (pp_rl t (h.2 6) 10 (d_X13_readsCommand 0 t (upd (upd (upd h.1 16 0) 17 0) 20 0) (h.2 6) (h.2 7)).1 (d_X13_readsCommand 0 t (upd (upd (upd h.1 16 0) 17 0) 20 0) (h.2 6) (h.2 7)).2).1)
    (k : ∀ M', pm_TM z kA M' (pp_hr h (pp_rl t (h.2 6) 10 (d_X13_readsCommand 0 t (upd (upd (upd h.1 16 0) 17 0) 20 0) (h.2 6) (h.2 7)).1 (d_X13_readsCommand 0 t (upd (upd (upd h.1 16 0) 17 0) 20 0) (h.2 6) (h.2 7)).2)) → pm_frm M M' → pm_G l z D X 0 0 Q nx M' 53 [some (.ref (z + 140)), none, none] []) : pm_G l z D X 0 0 Q nx M 0 [some (.ref (z + 140)), none, none] [] := by
  have htx : pm_tx t (upd (upd (upd h.1 16 0) 17 0) 20 0) := by
    unfold pm_tx
    simp (disch := omega) only [pk_us, pk_un]
    exact ⟨by decide, by rw [show pm_n 0 = 0 from rfl]; omega, h15, Or.inl trivial⟩
  obtain ⟨tx1, t20⟩ := pp_tx (gt := h.2 6) (gc := h.2 7) (cm := 0) ht htx ((pk_un (by decide)).trans pk_us)
  refine pp_x0 B hT ht h15 fun M1 hT1 hF1 => ?_
  refine pp_xL B ht 10 M1 _ hT1 tx1 ?_ ?_ hgo (fun M2 hT2 hF2 => k M2 ?_ (pm_frm_t hF1 hF2))
  · show (d_X13_readsCommand 0 t _ _ _).1 20 = nI (pm_n ((d_X13_readsCommand 0 t _ _ _).1 20))
    rw [t20]; rfl
  · show pm_n ((d_X13_readsCommand 0 t _ _ _).1 20) + 10 < 60
    rw [t20]; decide
  · rw [pp_hr2] at hT2
    exact hT2
theorem pp_exec {Bd n : Nat} {g : pm_Cs} {L : Int32 × Int32 × Int32} (hRel : pm_Rel Bd g h L) (ht : t ≤ 60) (h15 : h.1 15 = nI t) (he : ∀ i, i < t → h.2 6 i = g.1 8 i) (hRS : pm_RS n (g.1 0) (h.2 1)) (hI : pm_I Bd n (g.1 0)) {Pq : Int32 × (Nat → Int32) × (Nat → Int32) × (Nat → Int32) × (Nat → Int32)} (eP : Pq = d_X9_parse t (g.1 8) (g.1 9) (g.1 10) (g.1 13) (g.1 11)) {Rq : (Int32 × Int32) × Int32 × (Nat → Int32) × (Nat → Int32) × (Nat → Int32) × (Nat → Int32)} (eR : Rq = d_X9_run (pm_n (d_X9_empty Pq.2.2.2.1 5)) (g.1 0) (g.1 3) (g.1 4) (g.1 5) Pq.2.1 Pq.2.2.1 (d_X9_empty Pq.2.2.2.1) Pq.2.2.2.2) :
    ∃ h2 mv, pm_xm l z D kA kE yX13_execute cX13_execute 3 (some .int) 7 [] h h2 (.int mv) ∧ ∀ kc v g' L', pm_Rex g L Pq Rq kc v g' L' → h2.1 6 = kc ∧ (kc = 0 → v = mv) ∧ pm_Rel (Bd + 693 * 11) g' h2 L' := by
  have h7 := hI.1.2.1
  obtain ⟨-, ⟨ho, hk8, h5, hp⟩, hsn, -, hfa, hln, hl9, hl10, hl11, hl1, hl2⟩ := id hRel
  obtain ⟨⟨p1, p2, p3⟩, hgo⟩ := pp_ps (t := t) (tx := g.1 8) (gt := h.2 6) (fs := g.1 9) (sd := g.1 10) (sc := g.1 13) (cc := g.1 11) (f := upd (upd (upd h.1 16 0) 17 0) 20 0) (gc := h.2 7) he ht ((pk_un (by decide)).trans pk_us) ((pk_un (by decide)).trans ((pk_un (by decide)).trans pk_us))
  rw [← eP] at p2 p3
  have start := fun {X : pm_X} {Q : State → Prop} {nx : Nat} {M : pm_M} (B : pm_B l z D kA kE RX13 cX13_execute 3 (some .int) "execute" [] 7 0 0 X) (hT : pm_TM z kA M h) => pp_xP (Q := Q) (nx := nx) B hT ht h15 hgo
  generalize pp_rl t (h.2 6) 10 (d_X13_readsCommand 0 t (upd (upd (upd h.1 16 0) 17 0) 20 0) (h.2 6) (h.2 7)).1 (d_X13_readsCommand 0 t (upd (upd (upd h.1 16 0) 17 0) 20 0) (h.2 6) (h.2 7)).2 = e at p1 p3 start
  have fr : ∀ x, x ≠ 16 → x ≠ 17 → x ≠ 20 → e.1 x = h.1 x := fun x a b c => (p1 x a b c).trans ((pk_un c).trans ((pk_un b).trans (pk_un a)))
  have e15 : e.1 15 = nI t := (fr 15 (by decide) (by decide) (by decide)).trans h15
  rcases p3 with ⟨q0, p, hpt, s6, e16, hw⟩ | ⟨q1, e17, e16, m, hm, s5, e20, hcq⟩
  · refine ⟨pm_hf (pp_hr h e) (upd (upd (upd (upd e.1 17 1) 18 (e.1 16)) 15 0) 6 1), 0, fun n' M' hT' => ⟨pp_cm z kA M' (pm_hf (pp_hr h e) (upd (upd (upd (upd e.1 17 1) 18 (e.1 16)) 15 0) 6 1)), ?_, pm_cnT, pm_cnF⟩, ?_⟩
    · refine pm_mk (own := RX13) (nm := "execute") mt_X13_execute rfl rfl rfl rfl fun X B => ?_
      refine pm_loc (L' := [some (.ref (z + 140)), none, none]) rfl ?_
      refine start B hT' fun M2 hT2 hF2 => ?_
      refine pp_xW1 (t := t) B rfl hF2 hT2 rfl e15 ht ?_
      rcases hw with hw | ⟨hw, hlt⟩
      · exact Or.inl hw
      · exact Or.inr ⟨hw, p, e16, hlt⟩
    · intro kc v g' L' hR
      rcases hR with ⟨-, rfl, rfl, rfl⟩ | ⟨hR, _⟩ | ⟨hR, _⟩
      · refine ⟨(show upd (upd (upd (upd e.1 17 1) 18 (e.1 16)) 15 0) 6 1 6 = 1 from pk_us), fun e0 => absurd e0 (by decide), ?_⟩
        have fz : ∀ x, x ≠ 6 → x ≠ 15 → x ≠ 16 → x ≠ 17 → x ≠ 18 → x ≠ 20 → upd (upd (upd (upd e.1 17 1) 18 (e.1 16)) 15 0) 6 1 x = h.1 x := fun x a b c d f1 f2 => (pk_un a).trans ((pk_un b).trans ((pk_un f1).trans ((pk_un d).trans (fr x c d f2))))
        have g6 : d_X9_empty Pq.2.2.2.1 6 = nI p := (pk_un (by decide)).trans s6
        refine pm_s_ex0 (L' := L') hRel (by omega) ⟨n, hRS, pm_I_le (by omega) hI⟩ rfl rfl (fz 5 (by decide) (by decide) (by decide) (by decide) (by decide) (by decide)) rfl rfl ?_ (fz 3 (by decide) (by decide) (by decide) (by decide) (by decide) (by decide)) rfl (show upd Pq.2.2.2.1 4 0 4 = 0 from pk_us) ?_ ?_ rfl (fz 22 (by decide) (by decide) (by decide) (by decide) (by decide) (by decide)) rfl ⟨?_, ?_, ?_, hl1, hl2⟩
        · show upd (upd (g.1 12) 10 1) 11 (d_X9_empty Pq.2.2.2.1 6) 9 = g.1 12 9
          simp (disch := omega) only [pk_un]
        · show upd (upd (upd (upd e.1 17 1) 18 (e.1 16)) 15 0) 6 1 15 = 0
          simp (disch := omega) only [pk_us, pk_un]
        · refine Or.inr ⟨?_, ?_, ?_⟩
          · show ¬ upd (upd (g.1 12) 10 1) 11 (d_X9_empty Pq.2.2.2.1 6) 10 = 0
            simp (disch := omega) only [pk_us, pk_un]
            decide
          · show upd (upd (upd (upd e.1 17 1) 18 (e.1 16)) 15 0) 6 1 18 = upd (upd (g.1 12) 10 1) 11 (d_X9_empty Pq.2.2.2.1 6) 11
            simp (disch := omega) only [pk_us, pk_un]
            rw [g6, e16]
          · show ¬ upd (upd (g.1 12) 10 1) 11 (d_X9_empty Pq.2.2.2.1 6) 11 < 0
            rw [pk_us, g6]
            exact nI_pos (by omega)
        · exact (fz 9 (by decide) (by decide) (by decide) (by decide) (by decide) (by decide)).trans hl9
        · exact (fz 10 (by decide) (by decide) (by decide) (by decide) (by decide) (by decide)).trans hl10
        · exact (fz 11 (by decide) (by decide) (by decide) (by decide) (by decide) (by decide)).trans hl11
      · exact absurd q0 hR
      · exact absurd q0 hR
  · have q0 : ¬ Pq.1 = 0 := by rw [q1]; decide
    have em : pm_n (d_X9_empty Pq.2.2.2.1 5) = m := by
      rw [show d_X9_empty Pq.2.2.2.1 5 = nI m from (pk_un (by decide)).trans s5]
      exact pm_n_nI (by omega)
    rw [em] at eR
    obtain ⟨f4, ef4⟩ : ∃ f4, f4 = upd (upd (upd (upd (upd e.1 17 0) 18 (e.1 18)) 15 0) 6 0) 7 0 := ⟨_, rfl⟩
    have fz : ∀ x, x ≠ 6 → x ≠ 7 → x ≠ 15 → x ≠ 16 → x ≠ 17 → x ≠ 20 → f4 x = h.1 x := by
      intro x a b c d f1 f2
      rw [ef4]
      by_cases hx : x = 18
      · rw [hx]
        simp (disch := omega) only [pk_us, pk_un]
        exact fr 18 (by decide) (by decide) (by decide)
      · rw [pk_un b, pk_un a, pk_un c, pk_un hx, pk_un f1]
        exact fr x d f1 f2
    have f46 : f4 6 = 0 := by rw [ef4]; simp (disch := omega) only [pk_us, pk_un]
    have f47 : f4 7 = 0 := by rw [ef4]; exact pk_us
    have f415 : f4 15 = 0 := by rw [ef4]; simp (disch := omega) only [pk_us, pk_un]
    have f420 : f4 20 = nI m := by rw [ef4]; simp (disch := omega) only [pk_un]; exact e20
    have f45 : f4 5 = nI (g.2.2.1 1) := (fz 5 (by decide) (by decide) (by decide) (by decide) (by decide) (by decide)).trans h5
    have hrun := pp_rnE (m := m) hcq m 0 Bd n (g.1 0) (g.1 3) (g.1 4) (g.1 5) f4 (h.2 1) (h.2 5) (by omega) hRS hI f46 f47
    rw [show d_X9_run_L1 Pq.2.1 Pq.2.2.1 Pq.2.2.2.2 (fun r_1 q_1 rm_1 dr_1 => ((0, 0), 0, r_1, q_1, rm_1, dr_1)) m 0 (g.1 0) (g.1 3) (g.1 4) (g.1 5) = Rq from eR.symm] at hrun
    have gbe : ∀ j, j < 91 → va_cpy (h.2 1) (h.2 2) 0 0 91 j = h.2 1 j := fun j hj => by
      rw [pk_cpy_in (Nat.zero_le _) (by omega), show 0 + (j - 0) = j by omega]
    have kinds : ∀ i, i < m → ∃ c, c < 11 ∧ e.2 (3 * i) = nI (pp_ch c) := fun i hi => by
      obtain ⟨c, c1, _, c3, _⟩ := hcq i hi
      exact ⟨c, c1, c3⟩
    have walk := fun {X : pm_X} {Q : State → Prop} {nx : Nat} {M : pm_M} (B : pm_B l z D kA kE RX13 cX13_execute 3 (some .int) "execute" [] 7 0 0 X) (hT : pm_TM z kA M h)
        (n0 : ∀ M', (pp_rn e.2 m 0 f4 (h.2 1) (h.2 5)).1 = 0 → pm_TM z kA M' (pp_h3 (pm_hk (pm_hf (pp_hr h e) f4) 2 (va_cpy (h.2 1) (h.2 2) 0 0 91)) (pp_rn e.2 m 0 f4 (h.2 1) (h.2 5)).2.2.1 (pp_rn e.2 m 0 f4 (h.2 1) (h.2 5)).2.2.2.1 (pp_rn e.2 m 0 f4 (h.2 1) (h.2 5)).2.2.2.2) → pm_frm M M' → (pp_rn e.2 m 0 f4 (h.2 1) (h.2 5)).2.2.1 5 = f4 5 → (pp_rn e.2 m 0 f4 (h.2 1) (h.2 5)).2.2.1 20 = nI m → pm_G l z D X 0 0 Q nx M' 183 [some (.ref (z + 140)), none, none] [])
        (n1 : ∀ M', (pp_rn e.2 m 0 f4 (h.2 1) (h.2 5)).1 = 1 → pm_TM z kA M' (pp_h3 (pm_hk (pm_hf (pp_hr h e) f4) 2 (va_cpy (h.2 1) (h.2 2) 0 0 91)) (pp_rn e.2 m 0 f4 (h.2 1) (h.2 5)).2.2.1 (pp_rn e.2 m 0 f4 (h.2 1) (h.2 5)).2.2.2.1 (pp_rn e.2 m 0 f4 (h.2 1) (h.2 5)).2.2.2.2) → pm_frm M M' → (pp_rn e.2 m 0 f4 (h.2 1) (h.2 5)).2.2.1 5 = f4 5 → pm_G l z D X 0 0 Q nx M' 146 [some (.ref (z + 140)), some (.int (nI (pp_rn e.2 m 0 f4 (h.2 1) (h.2 5)).2.1)), none] []) => by
      have : pm_G l z D X 0 0 Q nx M 0 [some (.ref (z + 140)), none, none] [] := by
        refine start B hT fun M2 hT2 hF2 => ?_
        refine pp_xO (t := t) B hT2 e15 e16 e17 fun M3 hT3 hF3 => ?_
        have hT3 : pm_TM z kA M3 (pm_hk (pm_hf (pp_hr h e) f4) 2 (va_cpy (h.2 1) (h.2 2) 0 0 91)) := by rw [ef4]; exact hT3
        exact pp_xR B hm m 0 M3 (pm_hk (pm_hf (pp_hr h e) f4) 2 (va_cpy (h.2 1) (h.2 2) 0 0 91)) (by omega) hT3 f420 ⟨Bd, n, g.1 0, hRS, hI⟩ f46 f47 kinds (fun M' a b c d e2 => n0 M' a b (pm_frm_t hF2 (pm_frm_t hF3 c)) d e2) (fun M' a b c d => n1 M' a b (pm_frm_t hF2 (pm_frm_t hF3 c)) d)
      exact this
    generalize pp_rn e.2 m 0 f4 (h.2 1) (h.2 5) = R at hrun walk
    rcases hrun with ⟨r1, _, r3, r4, n', r5, r6⟩ | ⟨r1, r2, r3, r4, r5, r6⟩
    · have R5 : R.2.2.1 5 = nI (g.2.2.1 1) := (r4 5 (by decide)).trans f45
      obtain ⟨E, eE⟩ : ∃ E, E = d_X13_ends (R.2.2.1 20) 0 (g.2.2.1 1) R.2.2.1 R.2.2.2.1 (va_cpy (h.2 1) (h.2 2) 0 0 91) (h.2 4) := ⟨_, rfl⟩
      refine ⟨pm_hk (pm_hk (pm_hf (pp_h3 (pm_hk (pm_hf (pp_hr h e) f4) 2 (va_cpy (h.2 1) (h.2 2) 0 0 91)) R.2.2.1 R.2.2.2.1 R.2.2.2.2) E.2.1) 1 E.2.2.1) 4 E.2.2.2, E.1, fun n' M' hT' => ⟨pp_cm z kA M' _, ?_, pm_cnT, pm_cnF⟩, ?_⟩
      · refine pm_mk (own := RX13) (nm := "execute") mt_X13_execute rfl rfl rfl rfl fun X B => ?_
        refine pm_loc (L' := [some (.ref (z + 140)), none, none]) rfl ?_
        refine walk B hT' (fun M2 _ hT2 hF2 d5 d20 => ?_) (fun M2 a _ _ _ => absurd (a.symm.trans r1) (by decide))
        exact pp_xD (k := g.2.2.1 1) B rfl hF2 hT2 R5 hk8 (by rw [eE]; rfl) (by rw [eE]; rfl)
      · intro kc v g' L' hR
        rcases hR with ⟨hR, _⟩ | ⟨_, _, rfl, rfl, rfl, rfl⟩ | ⟨_, hR, _⟩
        · exact absurd hR q0
        · have hs := pm_s_exD (B := Bd) (C := Bd + 693 * 11) (k := g.2.2.1 1) (h2 := pm_hk (pm_hk (pm_hf (pp_h3 (pm_hk (pm_hf (pp_hr h e) f4) 2 (va_cpy (h.2 1) (h.2 2) 0 0 91)) R.2.2.1 R.2.2.2.1 R.2.2.2.2) E.2.1) 1 E.2.2.1) 4 E.2.2.2) (Rr := Rq.2.2.1) (q := Rq.2.2.2.1) (rm := Rq.2.2.2.2.1) (dr := Rq.2.2.2.2.2) (fs := Pq.2.1) (sd := Pq.2.2.1) (sc := d_X9_empty Pq.2.2.2.1) (cc := Pq.2.2.2.2) (f := R.2.2.1) (g2 := R.2.2.2.1) (gb := va_cpy (h.2 1) (h.2 2) 0 0 91) (ldv := g.2.2.2.2.2) hRel hRS hI rfl ((r4 6 (by decide)).trans f46) ((r4 7 (by decide)).trans f47) ((r4 15 (by decide)).trans f415) (fun j hj => (r4 j (by omega)).trans (fz j (by omega) (by omega) (by omega) (by omega) (by omega) (by omega))) gbe (by omega) ⟨n', r5, pm_I_le (by omega) r6⟩ pk_us eE rfl rfl rfl rfl rfl
          refine ⟨hs.1, fun _ => ?_, hs.2.2⟩
          rw [hs.2.1, r4 20 (by decide), f420]
          exact (pk_un (by decide)).trans s5
        · exact absurd r3 hR
    · have R5 : R.2.2.1 5 = nI (g.2.2.1 1) := (r5 5 (by decide) (by decide) (by decide) (by decide)).trans f45
      obtain ⟨cs, ecs⟩ : ∃ cs, cs = if R.2.2.1 7 ≤ 0 then (9 : Int32) else R.2.2.1 7 := ⟨_, rfl⟩
      obtain ⟨fd, efd⟩ : ∃ fd, fd = upd (upd (upd R.2.2.1 7 8) 8 (nI R.2.1)) 6 2 := ⟨_, rfl⟩
      have eE : d_X13_ends 0 cs (g.2.2.1 1) fd R.2.2.2.1 (va_cpy (h.2 1) (h.2 2) 0 0 91) (h.2 4) = (0, upd (upd (upd fd 9 (fd 7)) 10 (fd 8)) 11 cs, va_cpy (va_cpy (h.2 1) (h.2 2) 0 0 91) R.2.2.2.1 0 0 91, h.2 4) := by
        unfold d_X13_ends
        rw [if_neg (show ¬ fd 7 ≤ 0 by rw [efd]; simp (disch := omega) only [pk_us, pk_un]; decide), if_neg (show ¬ fd 6 ≤ 0 by rw [efd]; simp (disch := omega) only [pk_us, pk_un]; decide)]
      refine ⟨pm_hk (pm_hk (pm_hf (pp_h3 (pm_hk (pm_hf (pp_hr h e) f4) 2 (va_cpy (h.2 1) (h.2 2) 0 0 91)) R.2.2.1 R.2.2.2.1 R.2.2.2.2) (upd (upd (upd fd 9 (fd 7)) 10 (fd 8)) 11 cs)) 1 (va_cpy (va_cpy (h.2 1) (h.2 2) 0 0 91) R.2.2.2.1 0 0 91)) 4 (h.2 4), 0, fun n' M' hT' => ⟨pp_cm z kA M' _, ?_, pm_cnT, pm_cnF⟩, ?_⟩
      · refine pm_mk (own := RX13) (nm := "execute") mt_X13_execute rfl rfl rfl rfl fun X B => ?_
        refine pm_loc (L' := [some (.ref (z + 140)), none, none]) rfl ?_
        refine walk B hT' (fun M2 a _ _ _ _ => absurd (a.symm.trans r1) (by decide)) (fun M2 _ hT2 hF2 d5 => ?_)
        refine pp_xF (k := g.2.2.1 1) (cs := cs) (fd := fd) B rfl hF2 hT2 R5 hk8 ecs efd ?_ ?_
        · show (0 : Int32) = (d_X13_ends 0 cs (g.2.2.1 1) fd R.2.2.2.1 (va_cpy (h.2 1) (h.2 2) 0 0 91) (h.2 4)).1
          rw [eE]
        · show _ = pm_hk (pm_hk (pm_hf _ (d_X13_ends 0 cs (g.2.2.1 1) fd R.2.2.2.1 (va_cpy (h.2 1) (h.2 2) 0 0 91) (h.2 4)).2.1) 1 (d_X13_ends 0 cs (g.2.2.1 1) fd R.2.2.2.1 (va_cpy (h.2 1) (h.2 2) 0 0 91) (h.2 4)).2.2.1) 4 (d_X13_ends 0 cs (g.2.2.1 1) fd R.2.2.2.1 (va_cpy (h.2 1) (h.2 2) 0 0 91) (h.2 4)).2.2.2
          rw [eE]
      · intro kc v g' L' hR
        rcases hR with ⟨hR, _⟩ | ⟨_, hR, _⟩ | ⟨_, _, rfl, ⟨ldv, rfl⟩, rfl⟩
        · exact absurd hR q0
        · exact absurd hR r3
        · have fy : ∀ x, x ≠ 6 → x ≠ 7 → x ≠ 8 → x ≠ 9 → x ≠ 10 → x ≠ 11 → x ≠ 13 → upd (upd (upd fd 9 (fd 7)) 10 (fd 8)) 11 cs x = f4 x := by
            intro x a b c d e1 e2 e3
            rw [pk_un e2, pk_un e1, pk_un d, efd, pk_un a, pk_un c, pk_un b]
            exact r5 x a b c e3
          refine ⟨?_, fun e0 => absurd e0 (by decide), ?_⟩
          · show upd (upd (upd fd 9 (fd 7)) 10 (fd 8)) 11 cs 6 = 2
            rw [efd]
            simp (disch := omega) only [pk_us, pk_un]
          have row : ∀ j, j < 56 → pm_cpr (pm_cpr (g.1 0) (g.1 1)) Rq.2.2.1 j = g.1 0 j := fun j hj => (if_pos hj).trans (if_pos hj)
          have fw : ∀ x, (x = 3 ∨ x = 5 ∨ x = 18 ∨ x = 22) → upd (upd (upd fd 9 (fd 7)) 10 (fd 8)) 11 cs x = h.1 x := fun x hx => (fy x (by omega) (by omega) (by omega) (by omega) (by omega) (by omega) (by omega)).trans (fz x (by omega) (by omega) (by omega) (by omega) (by omega) (by omega))
          refine pm_s_ex0 hRel (by omega) ⟨n, pm_RS_cg hRS h7 row (fun j hj => ?_), pm_I_le (by omega) (pm_I_cg hI row)⟩ rfl rfl (fw 5 (by decide)) rfl rfl rfl (fw 3 (by decide)) rfl (show upd Pq.2.2.2.1 4 0 4 = 0 from pk_us) ((fy 15 (by decide) (by decide) (by decide) (by decide) (by decide) (by decide) (by decide)).trans f415) ?_ rfl (fw 22 (by decide)) rfl ⟨?_, ?_, ?_, ?_, ?_⟩
          · show va_cpy (va_cpy (h.2 1) (h.2 2) 0 0 91) R.2.2.2.1 0 0 91 j = h.2 1 j
            rw [pk_cpy_in (Nat.zero_le _) (by omega), show 0 + (j - 0) = j by omega]
            exact gbe j hj
          · show (g.1 12 10 = 0 ∧ upd (upd (upd fd 9 (fd 7)) 10 (fd 8)) 11 cs 18 = -1) ∨ (¬ g.1 12 10 = 0 ∧ upd (upd (upd fd 9 (fd 7)) 10 (fd 8)) 11 cs 18 = g.1 12 11 ∧ ¬ g.1 12 11 < 0)
            rw [fw 18 (by decide)]
            exact hfa
          · show upd (upd (upd fd 9 (fd 7)) 10 (fd 8)) 11 cs 9 = 8
            rw [efd]
            simp (disch := omega) only [pk_us, pk_un]
          · show upd (upd (upd fd 9 (fd 7)) 10 (fd 8)) 11 cs 10 = Rq.2.1
            rw [efd, r4]
            simp (disch := omega) only [pk_us, pk_un]
          · show upd (upd (upd fd 9 (fd 7)) 10 (fd 8)) 11 cs 11 = if Rq.1.1 ≤ 0 then 9 else Rq.1.1
            rw [pk_us, ecs, r6]
          · show ¬ (8 : Int32) < 0
            decide
          · show ¬ (if Rq.1.1 ≤ 0 then (9 : Int32) else Rq.1.1) < 0
            split
            · decide
            · rename_i hn
              exact fun hc => hn (Int32.le_of_lt hc)
end PXX
