/-! the law's cases, closed: changes -/
theorem pm_plU {c : Nat} {q : Int32} (h : 0 < q) : pm_pl c q = if c = 3 ∨ c = 6 ∨ c = 7 then 3 else 2 := by
  unfold pm_pl
  rw [if_neg (show ¬ q = -1 from fun e => by rw [e] at h; exact absurd h (by decide)), if_neg (show ¬ q = -2 from fun e => by rw [e] at h; exact absurd h (by decide))]
theorem pm_rs0 {x y : Int32} {n : Nat} {r : Nat → Int32} : ¬ (d_X7_ref 0 x y n r).1 = -1 := by
  have h : (d_X7_refusalOfJoin x y n r).1 = -2 ∨ (d_X7_refusalOfJoin x y n r).1 = 1 ∨ (d_X7_refusalOfJoin x y n r).1 = 0 := by
    unfold d_X7_refusalOfJoin
    (repeat' split) <;> first | exact Or.inl rfl | exact Or.inr (Or.inl rfl) | exact Or.inr (Or.inr rfl)
  show ¬ (d_X7_refusal0 x y n r).1 = -1
  unfold d_X7_refusal0
  split
  · decide
  · show ¬ (d_X7_refusalOfJoin x y n r).1 = -1
    rcases h with h | h | h <;> rw [h] <;> decide
theorem pm_rs1 {x y : Int32} {n : Nat} {r : Nat → Int32} : ¬ (d_X7_ref 1 x y n r).1 = -1 ∧ ¬ 0 < (d_X7_ref 1 x y n r).1 := by
  have h : (d_X7_refusalOfRange x 0 300).1 = -2 ∨ (d_X7_refusalOfRange x 0 300).1 = 0 := by
    unfold d_X7_refusalOfRange
    (repeat' split) <;> first | exact Or.inl rfl | exact Or.inr rfl
  show ¬ (d_X7_refusal1 x y n r).1 = -1 ∧ ¬ 0 < (d_X7_refusal1 x y n r).1
  unfold d_X7_refusal1
  split
  · decide
  · show ¬ (d_X7_refusalOfRange x 0 300).1 = -1 ∧ ¬ 0 < (d_X7_refusalOfRange x 0 300).1
    rcases h with h | h <;> rw [h] <;> decide
theorem pm_rs2 {x y : Int32} {n : Nat} {r : Nat → Int32} : ¬ (d_X7_ref 2 x y n r).1 = -1 := by
  have h : (d_X7_refusalOfValue x 0 1 (r 1)).1 = -2 ∨ (d_X7_refusalOfValue x 0 1 (r 1)).1 = 7 ∨ (d_X7_refusalOfValue x 0 1 (r 1)).1 = 0 := by
    unfold d_X7_refusalOfValue
    (repeat' split) <;> first | exact Or.inl rfl | exact Or.inr (Or.inl rfl) | exact Or.inr (Or.inr rfl)
  show ¬ (d_X7_refusal2 x y n r).1 = -1
  unfold d_X7_refusal2
  split
  · decide
  · show ¬ (d_X7_refusalOfValue x 0 1 (r 1)).1 = -1
    rcases h with h | h | h <;> rw [h] <;> decide
theorem pm_rs4 {x y : Int32} {n : Nat} {r : Nat → Int32} : ¬ (d_X7_ref 4 x y n r).1 = -1 := by
  have h : (d_X7_refusalOfAudit x n r).1 = -2 ∨ (d_X7_refusalOfAudit x n r).1 = 6 ∨ (d_X7_refusalOfAudit x n r).1 = 0 := by
    unfold d_X7_refusalOfAudit
    (repeat' split) <;> first | exact Or.inl rfl | exact Or.inr (Or.inl rfl) | exact Or.inr (Or.inr rfl)
  show ¬ (d_X7_refusal4 x y n r).1 = -1
  unfold d_X7_refusal4
  split
  · decide
  · show ¬ (d_X7_refusalOfAudit x n r).1 = -1
    rcases h with h | h | h <;> rw [h] <;> decide
theorem pm_rs8 {x y : Int32} {n : Nat} {r : Nat → Int32} : ¬ (d_X7_ref 8 x y n r).1 = -2 := by
  have h : (d_X7_refusalOfPardon x n r).1 = -1 ∨ (d_X7_refusalOfPardon x n r).1 = 5 ∨ (d_X7_refusalOfPardon x n r).1 = 0 := by
    unfold d_X7_refusalOfPardon
    (repeat' split) <;> first | exact Or.inl rfl | exact Or.inr (Or.inl rfl) | exact Or.inr (Or.inr rfl)
  show ¬ (d_X7_refusal8 x y n r).1 = -2
  unfold d_X7_refusal8
  split
  · decide
  · show ¬ (d_X7_refusalOfPardon x n r).1 = -2
    rcases h with h | h | h <;> rw [h] <;> decide
theorem pm_rs9 {x y : Int32} {n : Nat} {r : Nat → Int32} : ¬ (d_X7_ref 9 x y n r).1 = -1 := by
  have h : (d_X7_refusalOfValue x 1 99 (r 3)).1 = -2 ∨ (d_X7_refusalOfValue x 1 99 (r 3)).1 = 7 ∨ (d_X7_refusalOfValue x 1 99 (r 3)).1 = 0 := by
    unfold d_X7_refusalOfValue
    (repeat' split) <;> first | exact Or.inl rfl | exact Or.inr (Or.inl rfl) | exact Or.inr (Or.inr rfl)
  show ¬ (d_X7_refusal9 x y n r).1 = -1
  unfold d_X7_refusal9
  split
  · decide
  · show ¬ (d_X7_refusalOfValue x 1 99 (r 3)).1 = -1
    rcases h with h | h | h <;> rw [h] <;> decide
theorem pm_rs10 {x y : Int32} {n : Nat} {r : Nat → Int32} : ¬ (d_X7_ref 10 x y n r).1 = -1 ∧ ¬ 0 < (d_X7_ref 10 x y n r).1 := by
  have h : (d_X7_refusalOfRange x 0 1023).1 = -2 ∨ (d_X7_refusalOfRange x 0 1023).1 = 0 := by
    unfold d_X7_refusalOfRange
    (repeat' split) <;> first | exact Or.inl rfl | exact Or.inr rfl
  show ¬ (d_X7_refusal10 x y n r).1 = -1 ∧ ¬ 0 < (d_X7_refusal10 x y n r).1
  unfold d_X7_refusal10
  split
  · decide
  · show ¬ (d_X7_refusalOfRange x 0 1023).1 = -1 ∧ ¬ 0 < (d_X7_refusalOfRange x 0 1023).1
    rcases h with h | h <;> rw [h] <;> decide
set_option maxHeartbeats 1000000 in
theorem pm_op_0 {l : Launch} {z : Nat} {D : va_G} {kA : Nat → ClassId} {kE : Nat → Nat} {nm : String} {tb : List ExceptionTableEntry} {mc ms : Nat} {X : pm_X} {cu su : Nat} {Q : State → Prop} {nx : Nat} {M : pm_M} {b N i Bd : Nat} {xs : Nat → Int32} (B : pm_B l z D kA kE RL code 9 ret nm tb 2048 mc ms X) (hXs : va_X b N xs X.2.2.2.1 X.2.2.2.1.heap) (hbz : b < z) (hiN : i + 4 ≤ N) (hN : N ≤ 2048) (hcu : cu + 25 ≤ mc) (hsu : su + 78 ≤ ms) (hJ : pm_J z kA kE nx M Bd)
    (next : ∀ nx' M', nx ≤ nx' → pm_J z kA kE nx' M' (Bd + 693 * 11) → pm_G l z D X (cu + 25) (su + 78) Q nx' M' 2623 [some (.ref b), some (.ref (z + 0)), some (.ref (z + 140)), some (.ref (z + 149)), some (.ref (z + 150)), some (.int (nI i)), none, none, none] []) : pm_G l z D X cu su Q nx M 272 [some (.ref b), some (.ref (z + 0)), some (.ref (z + 140)), some (.ref (z + 149)), some (.ref (z + 150)), some (.int (nI i)), none, none, none] [] := by
  obtain ⟨hnx, g, h, L, fo, fd, hT, hTM, hL, h149, h150, hRel⟩ := hJ
  obtain ⟨⟨n, hRS, hI⟩, ⟨ho, hk8, hf5, -⟩, -⟩ := id hRel
  have hn := hI.1.1
  have h7 := hI.1.2.1
  have hgn : h.2 1 0 = nI n := hRS.1.1.trans hn
  have hsd := hI.1.2.2.2.1
  have hgd : h.2 1 2 = nI (pm_n (h.2 1 2)) := by rw [hRS.1.2.2.1]; exact hsd.1
  have hgl : pm_n (h.2 1 2) < 1024 := by rw [hRS.1.2.2.1]; exact hsd.2
  have hE := pm_eqc (c := 0) (x := (xs (i + 1))) (y := (xs (i + 2))) (q := g.1 3) (rm := g.1 4) (dr := g.1 5) (f := (d_X13_keep h.1 (h.2 1) (h.2 2)).1) (gq := h.2 5) (by decide) hRS hI
  have hC := pm_nch (l := l) (D := D) (hl := [("java/lang/IllegalArgumentException", 1), ("java/lang/UnsupportedOperationException", 2)]) (c := 0) (x := (xs (i + 1))) (y := (xs (i + 2))) (by decide) hT hL hn h7 hnx hsd.1 hsd.2 ho hk8 (pm_tri hE) (fun e => absurd e pm_rs0) (fun e => by rw [e]; exact List.mem_cons_self) (fun e => by rw [pm_plU e]; exact List.mem_cons_of_mem _ (List.mem_cons_self))
  refine pm_lw_0 (Bd := Bd) (L := L) (fo := fo) (fd := fd) (N := N) (xs := xs) (dW := 22) (mcW := 3) (msW := 12) (dX := 3) (h2 := (pm_hk (pm_hk (pm_hk (pm_hf h ((d_X13_addMember (xs (i + 1)) (xs (i + 2)) n (g.2.2.1 1) h.1 (h.2 1) (h.2 2) (h.2 4)).2.1)) 1 ((d_X13_addMember (xs (i + 1)) (xs (i + 2)) n (g.2.2.1 1) h.1 (h.2 1) (h.2 2) (h.2 4)).2.2.1)) 2 ((d_X13_addMember (xs (i + 1)) (xs (i + 2)) n (g.2.2.1 1) h.1 (h.2 1) (h.2 2) (h.2 4)).2.2.2.1)) 4 ((d_X13_addMember (xs (i + 1)) (xs (i + 2)) n (g.2.2.1 1) h.1 (h.2 1) (h.2 2) (h.2 4)).2.2.2.2))) (mv := (d_X13_addMember (xs (i + 1)) (xs (i + 2)) n (g.2.2.1 1) h.1 (h.2 1) (h.2 2) (h.2 4)).1) rfl (by decide) (by decide) rfl B hXs hbz hiN hN hcu hsu hnx hT h150
    (pm_CwPost (c_L_addMember (w := 149) (N := 1) (f := fo) (by decide) (by decide) hT.1 (c_X12_addMember (fun w n' M' hp => pm_clV hp) hT.1 hC) (fun v n' M1 hp => ⟨pm_clV hp, (hp.1 149 (by decide) (by omega)).trans h149⟩) (fun E n' M1 hp => by
      obtain ⟨e, he, rfl⟩ := pm_clE hp
      simp only [List.mem_cons, List.not_mem_nil, or_false] at he
      rcases he with he | he <;> rw [he] <;> simp)) (fun o n' M' hp => pm_wrN hTM h149 hnx (by decide +kernel) (by decide +kernel) hp))
    (fun n' M' hT' => ⟨_, c_X13_addMember hT'.1 hT'.2.1 hT'.2.2.1 hT'.2.2.2.2.1 hgn h7 hf5 hk8, (pm_TM_4 (pm_TM_2 (pm_TM_1 (pm_TM_f hT')))), fun a ha => by rw [pm_up_n (by omega), pm_up_n (by omega), pm_up_n (by omega), pm_up_n (by omega)]⟩) (pm_s_cq (h2 := (pm_hk (pm_hk (pm_hk (pm_hf h ((d_X13_addMember (xs (i + 1)) (xs (i + 2)) n (g.2.2.1 1) h.1 (h.2 1) (h.2 2) (h.2 4)).2.1)) 1 ((d_X13_addMember (xs (i + 1)) (xs (i + 2)) n (g.2.2.1 1) h.1 (h.2 1) (h.2 2) (h.2 4)).2.2.1)) 2 ((d_X13_addMember (xs (i + 1)) (xs (i + 2)) n (g.2.2.1 1) h.1 (h.2 1) (h.2 2) (h.2 4)).2.2.2.1)) 4 ((d_X13_addMember (xs (i + 1)) (xs (i + 2)) n (g.2.2.1 1) h.1 (h.2 1) (h.2 2) (h.2 4)).2.2.2.2))) (c := 0) (Q := d_X7_ref 0 (xs (i + 1)) (xs (i + 2)) n (g.1 0)) (O := d_X7_do 0 (xs (i + 1)) (xs (i + 2)) n (g.1 0) (g.1 3) (g.1 4) (g.1 5)) (m := pm_mc 0 (xs (i + 1)) (xs (i + 2)) n (d_X13_keep h.1 (h.2 1) (h.2 2)).1 (h.2 1) (h.2 5)) (fk := (d_X13_keep h.1 (h.2 1) (h.2 2)).1) (gbk := (d_X13_keep h.1 (h.2 1) (h.2 2)).2) (gq := h.2 5) hRel hRS hI rfl rfl rfl (fun j a b => (pk_un b).trans (pk_un a)) (fun j hj => by
      show va_cpy (h.2 1) (h.2 2) 0 0 91 j = _
      rw [pk_cpy_in (Nat.zero_le _) (by omega), show 0 + (j - 0) = j by omega]) hE rfl rfl rfl rfl rfl rfl rfl) next
set_option maxHeartbeats 1000000 in
theorem pm_op_1 {l : Launch} {z : Nat} {D : va_G} {kA : Nat → ClassId} {kE : Nat → Nat} {nm : String} {tb : List ExceptionTableEntry} {mc ms : Nat} {X : pm_X} {cu su : Nat} {Q : State → Prop} {nx : Nat} {M : pm_M} {b N i Bd : Nat} {xs : Nat → Int32} (B : pm_B l z D kA kE RL code 9 ret nm tb 2048 mc ms X) (hXs : va_X b N xs X.2.2.2.1 X.2.2.2.1.heap) (hbz : b < z) (hiN : i + 4 ≤ N) (hN : N ≤ 2048) (hcu : cu + 25 ≤ mc) (hsu : su + 78 ≤ ms) (hJ : pm_J z kA kE nx M Bd)
    (next : ∀ nx' M', nx ≤ nx' → pm_J z kA kE nx' M' (Bd + 693 * 11) → pm_G l z D X (cu + 25) (su + 78) Q nx' M' 2623 [some (.ref b), some (.ref (z + 0)), some (.ref (z + 140)), some (.ref (z + 149)), some (.ref (z + 150)), some (.int (nI i)), none, none, none] []) : pm_G l z D X cu su Q nx M 340 [some (.ref b), some (.ref (z + 0)), some (.ref (z + 140)), some (.ref (z + 149)), some (.ref (z + 150)), some (.int (nI i)), none, none, none] [] := by
  obtain ⟨hnx, g, h, L, fo, fd, hT, hTM, hL, h149, h150, hRel⟩ := hJ
  obtain ⟨⟨n, hRS, hI⟩, ⟨ho, hk8, hf5, -⟩, -⟩ := id hRel
  have hn := hI.1.1
  have h7 := hI.1.2.1
  have hgn : h.2 1 0 = nI n := hRS.1.1.trans hn
  have hsd := hI.1.2.2.2.1
  have hgd : h.2 1 2 = nI (pm_n (h.2 1 2)) := by rw [hRS.1.2.2.1]; exact hsd.1
  have hgl : pm_n (h.2 1 2) < 1024 := by rw [hRS.1.2.2.1]; exact hsd.2
  have hE := pm_eqc (c := 8) (x := (xs (i + 1))) (y := 0) (q := g.1 3) (rm := g.1 4) (dr := g.1 5) (f := (d_X13_keep h.1 (h.2 1) (h.2 2)).1) (gq := h.2 5) (by decide) hRS hI
  have hC := pm_nch (l := l) (D := D) (hl := [("java/lang/IndexOutOfBoundsException", 1), ("java/lang/UnsupportedOperationException", 2)]) (c := 8) (x := (xs (i + 1))) (y := 0) (by decide) hT hL hn h7 hnx hsd.1 hsd.2 ho hk8 (pm_tri hE) (fun e => by rw [e]; exact List.mem_cons_self) (fun e => absurd e pm_rs8) (fun e => by rw [pm_plU e]; exact List.mem_cons_of_mem _ (List.mem_cons_self))
  refine pm_lw_1 (Bd := Bd) (L := L) (fo := fo) (fd := fd) (N := N) (xs := xs) (dW := 22) (mcW := 3) (msW := 12) (dX := 3) (h2 := (pm_hk (pm_hk (pm_hk (pm_hf h ((d_X13_pardon (xs (i + 1)) n (g.2.2.1 1) h.1 (h.2 1) (h.2 2) (h.2 4)).2.1)) 1 ((d_X13_pardon (xs (i + 1)) n (g.2.2.1 1) h.1 (h.2 1) (h.2 2) (h.2 4)).2.2.1)) 2 ((d_X13_pardon (xs (i + 1)) n (g.2.2.1 1) h.1 (h.2 1) (h.2 2) (h.2 4)).2.2.2.1)) 4 ((d_X13_pardon (xs (i + 1)) n (g.2.2.1 1) h.1 (h.2 1) (h.2 2) (h.2 4)).2.2.2.2))) (mv := (d_X13_pardon (xs (i + 1)) n (g.2.2.1 1) h.1 (h.2 1) (h.2 2) (h.2 4)).1) rfl (by decide) (by decide) rfl B hXs hbz hiN hN hcu hsu hnx hT h150
    (pm_CwPost (c_L_pardon (w := 149) (N := 1) (f := fo) (by decide) (by decide) hT.1 (c_X12_pardon (fun w n' M' hp => pm_clV hp) hT.1 hC) (fun v n' M1 hp => ⟨pm_clV hp, (hp.1 149 (by decide) (by omega)).trans h149⟩) (fun E n' M1 hp => by
      obtain ⟨e, he, rfl⟩ := pm_clE hp
      simp only [List.mem_cons, List.not_mem_nil, or_false] at he
      rcases he with he | he <;> rw [he] <;> simp)) (fun o n' M' hp => pm_wrN hTM h149 hnx (by decide +kernel) (by decide +kernel) hp))
    (fun n' M' hT' => ⟨_, c_X13_pardon hT'.1 hT'.2.1 hT'.2.2.1 hT'.2.2.2.2.1 hgn h7 hf5 hk8, (pm_TM_4 (pm_TM_2 (pm_TM_1 (pm_TM_f hT')))), fun a ha => by rw [pm_up_n (by omega), pm_up_n (by omega), pm_up_n (by omega), pm_up_n (by omega)]⟩) (pm_s_cq (h2 := (pm_hk (pm_hk (pm_hk (pm_hf h ((d_X13_pardon (xs (i + 1)) n (g.2.2.1 1) h.1 (h.2 1) (h.2 2) (h.2 4)).2.1)) 1 ((d_X13_pardon (xs (i + 1)) n (g.2.2.1 1) h.1 (h.2 1) (h.2 2) (h.2 4)).2.2.1)) 2 ((d_X13_pardon (xs (i + 1)) n (g.2.2.1 1) h.1 (h.2 1) (h.2 2) (h.2 4)).2.2.2.1)) 4 ((d_X13_pardon (xs (i + 1)) n (g.2.2.1 1) h.1 (h.2 1) (h.2 2) (h.2 4)).2.2.2.2))) (c := 8) (Q := d_X7_ref 8 (xs (i + 1)) 0 n (g.1 0)) (O := d_X7_do 8 (xs (i + 1)) 0 n (g.1 0) (g.1 3) (g.1 4) (g.1 5)) (m := pm_mc 8 (xs (i + 1)) 0 n (d_X13_keep h.1 (h.2 1) (h.2 2)).1 (h.2 1) (h.2 5)) (fk := (d_X13_keep h.1 (h.2 1) (h.2 2)).1) (gbk := (d_X13_keep h.1 (h.2 1) (h.2 2)).2) (gq := h.2 5) hRel hRS hI rfl rfl rfl (fun j a b => (pk_un b).trans (pk_un a)) (fun j hj => by
      show va_cpy (h.2 1) (h.2 2) 0 0 91 j = _
      rw [pk_cpy_in (Nat.zero_le _) (by omega), show 0 + (j - 0) = j by omega]) hE rfl rfl rfl rfl rfl rfl rfl) next
set_option maxHeartbeats 1000000 in
theorem pm_op_9 {l : Launch} {z : Nat} {D : va_G} {kA : Nat → ClassId} {kE : Nat → Nat} {nm : String} {tb : List ExceptionTableEntry} {mc ms : Nat} {X : pm_X} {cu su : Nat} {Q : State → Prop} {nx : Nat} {M : pm_M} {b N i Bd : Nat} {xs : Nat → Int32} (B : pm_B l z D kA kE RL code 9 ret nm tb 2048 mc ms X) (hXs : va_X b N xs X.2.2.2.1 X.2.2.2.1.heap) (hbz : b < z) (hiN : i + 4 ≤ N) (hN : N ≤ 2048) (hcu : cu + 25 ≤ mc) (hsu : su + 78 ≤ ms) (hJ : pm_J z kA kE nx M Bd)
    (next : ∀ nx' M', nx ≤ nx' → pm_J z kA kE nx' M' (Bd + 693 * 11) → pm_G l z D X (cu + 25) (su + 78) Q nx' M' 2623 [some (.ref b), some (.ref (z + 0)), some (.ref (z + 140)), some (.ref (z + 149)), some (.ref (z + 150)), some (.int (nI i)), none, none, none] []) : pm_G l z D X cu su Q nx M 745 [some (.ref b), some (.ref (z + 0)), some (.ref (z + 140)), some (.ref (z + 149)), some (.ref (z + 150)), some (.int (nI i)), none, none, none] [] := by
  obtain ⟨hnx, g, h, L, fo, fd, hT, hTM, hL, h149, h150, hRel⟩ := hJ
  obtain ⟨⟨n, hRS, hI⟩, ⟨ho, hk8, hf5, -⟩, -⟩ := id hRel
  have hn := hI.1.1
  have h7 := hI.1.2.1
  have hgn : h.2 1 0 = nI n := hRS.1.1.trans hn
  have hsd := hI.1.2.2.2.1
  have hgd : h.2 1 2 = nI (pm_n (h.2 1 2)) := by rw [hRS.1.2.2.1]; exact hsd.1
  have hgl : pm_n (h.2 1 2) < 1024 := by rw [hRS.1.2.2.1]; exact hsd.2
  have hE := pm_eqc (c := 2) (x := (xs (i + 1))) (y := 0) (q := g.1 3) (rm := g.1 4) (dr := g.1 5) (f := (d_X13_keep h.1 (h.2 1) (h.2 2)).1) (gq := h.2 5) (by decide) hRS hI
  have hC := pm_nch (l := l) (D := D) (hl := [("java/lang/IllegalArgumentException", 1), ("java/lang/UnsupportedOperationException", 2)]) (c := 2) (x := (xs (i + 1))) (y := 0) (by decide) hT hL hn h7 hnx hsd.1 hsd.2 ho hk8 (pm_tri hE) (fun e => absurd e pm_rs2) (fun e => by rw [e]; exact List.mem_cons_self) (fun e => by rw [pm_plU e]; exact List.mem_cons_of_mem _ (List.mem_cons_self))
  refine pm_lw_9 (Bd := Bd) (L := L) (fo := fo) (fd := fd) (N := N) (xs := xs) (dW := 22) (mcW := 3) (msW := 12) (dX := 3) (h2 := (pm_hk (pm_hk (pm_hk (pm_hf h ((d_X13_setRule (xs (i + 1)) (g.2.2.1 1) h.1 (h.2 1) (h.2 2) (h.2 4)).2.1)) 1 ((d_X13_setRule (xs (i + 1)) (g.2.2.1 1) h.1 (h.2 1) (h.2 2) (h.2 4)).2.2.1)) 2 ((d_X13_setRule (xs (i + 1)) (g.2.2.1 1) h.1 (h.2 1) (h.2 2) (h.2 4)).2.2.2.1)) 4 ((d_X13_setRule (xs (i + 1)) (g.2.2.1 1) h.1 (h.2 1) (h.2 2) (h.2 4)).2.2.2.2))) (mv := (d_X13_setRule (xs (i + 1)) (g.2.2.1 1) h.1 (h.2 1) (h.2 2) (h.2 4)).1) rfl (by decide) (by decide) rfl B hXs hbz hiN hN hcu hsu hnx hT h150
    (pm_CwPost (c_L_setRule (w := 149) (N := 1) (f := fo) (by decide) (by decide) hT.1 (c_X12_setRule (fun w n' M' hp => pm_clV hp) hT.1 hC) (fun v n' M1 hp => ⟨pm_clV hp, (hp.1 149 (by decide) (by omega)).trans h149⟩) (fun E n' M1 hp => by
      obtain ⟨e, he, rfl⟩ := pm_clE hp
      simp only [List.mem_cons, List.not_mem_nil, or_false] at he
      rcases he with he | he <;> rw [he] <;> simp)) (fun o n' M' hp => pm_wrN hTM h149 hnx (by decide +kernel) (by decide +kernel) hp))
    (fun n' M' hT' => ⟨_, c_X13_setRule hT'.1 hT'.2.1 hT'.2.2.1 hT'.2.2.2.2.1 hf5 hk8, (pm_TM_4 (pm_TM_2 (pm_TM_1 (pm_TM_f hT')))), fun a ha => by rw [pm_up_n (by omega), pm_up_n (by omega), pm_up_n (by omega), pm_up_n (by omega)]⟩) (pm_s_cq (h2 := (pm_hk (pm_hk (pm_hk (pm_hf h ((d_X13_setRule (xs (i + 1)) (g.2.2.1 1) h.1 (h.2 1) (h.2 2) (h.2 4)).2.1)) 1 ((d_X13_setRule (xs (i + 1)) (g.2.2.1 1) h.1 (h.2 1) (h.2 2) (h.2 4)).2.2.1)) 2 ((d_X13_setRule (xs (i + 1)) (g.2.2.1 1) h.1 (h.2 1) (h.2 2) (h.2 4)).2.2.2.1)) 4 ((d_X13_setRule (xs (i + 1)) (g.2.2.1 1) h.1 (h.2 1) (h.2 2) (h.2 4)).2.2.2.2))) (c := 2) (Q := d_X7_ref 2 (xs (i + 1)) 0 n (g.1 0)) (O := d_X7_do 2 (xs (i + 1)) 0 n (g.1 0) (g.1 3) (g.1 4) (g.1 5)) (m := pm_mc 2 (xs (i + 1)) 0 n (d_X13_keep h.1 (h.2 1) (h.2 2)).1 (h.2 1) (h.2 5)) (fk := (d_X13_keep h.1 (h.2 1) (h.2 2)).1) (gbk := (d_X13_keep h.1 (h.2 1) (h.2 2)).2) (gq := h.2 5) hRel hRS hI rfl rfl rfl (fun j a b => (pk_un b).trans (pk_un a)) (fun j hj => by
      show va_cpy (h.2 1) (h.2 2) 0 0 91 j = _
      rw [pk_cpy_in (Nat.zero_le _) (by omega), show 0 + (j - 0) = j by omega]) hE rfl rfl rfl rfl rfl rfl rfl) next
set_option maxHeartbeats 1000000 in
theorem pm_op_10 {l : Launch} {z : Nat} {D : va_G} {kA : Nat → ClassId} {kE : Nat → Nat} {nm : String} {tb : List ExceptionTableEntry} {mc ms : Nat} {X : pm_X} {cu su : Nat} {Q : State → Prop} {nx : Nat} {M : pm_M} {b N i Bd : Nat} {xs : Nat → Int32} (B : pm_B l z D kA kE RL code 9 ret nm tb 2048 mc ms X) (hXs : va_X b N xs X.2.2.2.1 X.2.2.2.1.heap) (hbz : b < z) (hiN : i + 4 ≤ N) (hN : N ≤ 2048) (hcu : cu + 25 ≤ mc) (hsu : su + 78 ≤ ms) (hJ : pm_J z kA kE nx M Bd)
    (next : ∀ nx' M', nx ≤ nx' → pm_J z kA kE nx' M' (Bd + 693 * 11) → pm_G l z D X (cu + 25) (su + 78) Q nx' M' 2623 [some (.ref b), some (.ref (z + 0)), some (.ref (z + 140)), some (.ref (z + 149)), some (.ref (z + 150)), some (.int (nI i)), none, none, none] []) : pm_G l z D X cu su Q nx M 801 [some (.ref b), some (.ref (z + 0)), some (.ref (z + 140)), some (.ref (z + 149)), some (.ref (z + 150)), some (.int (nI i)), none, none, none] [] := by
  obtain ⟨hnx, g, h, L, fo, fd, hT, hTM, hL, h149, h150, hRel⟩ := hJ
  obtain ⟨⟨n, hRS, hI⟩, ⟨ho, hk8, hf5, -⟩, -⟩ := id hRel
  have hn := hI.1.1
  have h7 := hI.1.2.1
  have hgn : h.2 1 0 = nI n := hRS.1.1.trans hn
  have hsd := hI.1.2.2.2.1
  have hgd : h.2 1 2 = nI (pm_n (h.2 1 2)) := by rw [hRS.1.2.2.1]; exact hsd.1
  have hgl : pm_n (h.2 1 2) < 1024 := by rw [hRS.1.2.2.1]; exact hsd.2
  have hE := pm_eqc (c := 1) (x := (xs (i + 1))) (y := 0) (q := g.1 3) (rm := g.1 4) (dr := g.1 5) (f := (d_X13_keep h.1 (h.2 1) (h.2 2)).1) (gq := h.2 5) (by decide) hRS hI
  have hC := pm_nch (l := l) (D := D) (hl := [("java/lang/IllegalArgumentException", 1)]) (c := 1) (x := (xs (i + 1))) (y := 0) (by decide) hT hL hn h7 hnx hsd.1 hsd.2 ho hk8 (pm_tri hE) (fun e => absurd e pm_rs1.1) (fun e => by rw [e]; exact List.mem_cons_self) (fun e => absurd e pm_rs1.2)
  refine pm_lw_10 (Bd := Bd) (L := L) (fo := fo) (fd := fd) (N := N) (xs := xs) (dW := 22) (mcW := 3) (msW := 12) (dX := 5) (h2 := (pm_hk (pm_hk (pm_hk (pm_hk (pm_hf h ((d_X13_assign (xs (i + 1)) n (g.2.2.1 1) h.1 (h.2 1) (h.2 2) (h.2 4) (h.2 5)).2.1)) 1 ((d_X13_assign (xs (i + 1)) n (g.2.2.1 1) h.1 (h.2 1) (h.2 2) (h.2 4) (h.2 5)).2.2.1)) 2 ((d_X13_assign (xs (i + 1)) n (g.2.2.1 1) h.1 (h.2 1) (h.2 2) (h.2 4) (h.2 5)).2.2.2.1)) 4 ((d_X13_assign (xs (i + 1)) n (g.2.2.1 1) h.1 (h.2 1) (h.2 2) (h.2 4) (h.2 5)).2.2.2.2.1)) 5 ((d_X13_assign (xs (i + 1)) n (g.2.2.1 1) h.1 (h.2 1) (h.2 2) (h.2 4) (h.2 5)).2.2.2.2.2))) (mv := (d_X13_assign (xs (i + 1)) n (g.2.2.1 1) h.1 (h.2 1) (h.2 2) (h.2 4) (h.2 5)).1) rfl (by decide) (by decide) rfl B hXs hbz hiN hN hcu hsu hnx hT h150
    (pm_CwPost (c_L_assign (w := 149) (N := 1) (f := fo) (by decide) (by decide) hT.1 (c_X12_assign (fun w n' M' hp => pm_clV hp) hT.1 hC) (fun v n' M1 hp => ⟨pm_clV hp, (hp.1 149 (by decide) (by omega)).trans h149⟩) (fun E n' M1 hp => by
      obtain ⟨e, he, rfl⟩ := pm_clE hp
      simp only [List.mem_cons, List.not_mem_nil, or_false] at he
      rw [he])) (fun o n' M' hp => pm_wrN hTM h149 hnx (by decide +kernel) (by decide +kernel) hp))
    (fun n' M' hT' => ⟨_, c_X13_assign hT'.1 hT'.2.1 hT'.2.2.1 hT'.2.2.2.2.1 hT'.2.2.2.2.2.1 hgn h7 hf5 hk8 (fun hz f gq => (by
      obtain ⟨T, hTe, _, hT3⟩ := pm_inR (lo := 0) (hi := 300) (by decide) (by decide) hz
      rw [hTe]
      exact (pm_apEq (q := fun _ => 0) (rm := fun _ => 0) hI.2.1 hRS.2.1 h7 hT3 (by rw [hRS.1.2.1]; exact hI.1.2.2.1)).2)), (pm_TM_5 (pm_TM_4 (pm_TM_2 (pm_TM_1 (pm_TM_f hT'))))), fun a ha => by rw [pm_up_n (by omega), pm_up_n (by omega), pm_up_n (by omega), pm_up_n (by omega), pm_up_n (by omega)]⟩) (pm_s_cq (h2 := (pm_hk (pm_hk (pm_hk (pm_hk (pm_hf h ((d_X13_assign (xs (i + 1)) n (g.2.2.1 1) h.1 (h.2 1) (h.2 2) (h.2 4) (h.2 5)).2.1)) 1 ((d_X13_assign (xs (i + 1)) n (g.2.2.1 1) h.1 (h.2 1) (h.2 2) (h.2 4) (h.2 5)).2.2.1)) 2 ((d_X13_assign (xs (i + 1)) n (g.2.2.1 1) h.1 (h.2 1) (h.2 2) (h.2 4) (h.2 5)).2.2.2.1)) 4 ((d_X13_assign (xs (i + 1)) n (g.2.2.1 1) h.1 (h.2 1) (h.2 2) (h.2 4) (h.2 5)).2.2.2.2.1)) 5 ((d_X13_assign (xs (i + 1)) n (g.2.2.1 1) h.1 (h.2 1) (h.2 2) (h.2 4) (h.2 5)).2.2.2.2.2))) (c := 1) (Q := d_X7_ref 1 (xs (i + 1)) 0 n (g.1 0)) (O := d_X7_do 1 (xs (i + 1)) 0 n (g.1 0) (g.1 3) (g.1 4) (g.1 5)) (m := pm_mc 1 (xs (i + 1)) 0 n (d_X13_keep h.1 (h.2 1) (h.2 2)).1 (h.2 1) (h.2 5)) (fk := (d_X13_keep h.1 (h.2 1) (h.2 2)).1) (gbk := (d_X13_keep h.1 (h.2 1) (h.2 2)).2) (gq := h.2 5) hRel hRS hI rfl rfl rfl (fun j a b => (pk_un b).trans (pk_un a)) (fun j hj => by
      show va_cpy (h.2 1) (h.2 2) 0 0 91 j = _
      rw [pk_cpy_in (Nat.zero_le _) (by omega), show 0 + (j - 0) = j by omega]) hE rfl rfl rfl rfl rfl rfl rfl) next
set_option maxHeartbeats 1000000 in
theorem pm_op_11 {l : Launch} {z : Nat} {D : va_G} {kA : Nat → ClassId} {kE : Nat → Nat} {nm : String} {tb : List ExceptionTableEntry} {mc ms : Nat} {X : pm_X} {cu su : Nat} {Q : State → Prop} {nx : Nat} {M : pm_M} {b N i Bd : Nat} {xs : Nat → Int32} (B : pm_B l z D kA kE RL code 9 ret nm tb 2048 mc ms X) (hXs : va_X b N xs X.2.2.2.1 X.2.2.2.1.heap) (hbz : b < z) (hiN : i + 4 ≤ N) (hN : N ≤ 2048) (hcu : cu + 25 ≤ mc) (hsu : su + 78 ≤ ms) (hJ : pm_J z kA kE nx M Bd)
    (next : ∀ nx' M', nx ≤ nx' → pm_J z kA kE nx' M' (Bd + 693 * 11) → pm_G l z D X (cu + 25) (su + 78) Q nx' M' 2623 [some (.ref b), some (.ref (z + 0)), some (.ref (z + 140)), some (.ref (z + 149)), some (.ref (z + 150)), some (.int (nI i)), none, none, none] []) : pm_G l z D X cu su Q nx M 857 [some (.ref b), some (.ref (z + 0)), some (.ref (z + 140)), some (.ref (z + 149)), some (.ref (z + 150)), some (.int (nI i)), none, none, none] [] := by
  obtain ⟨hnx, g, h, L, fo, fd, hT, hTM, hL, h149, h150, hRel⟩ := hJ
  obtain ⟨⟨n, hRS, hI⟩, ⟨ho, hk8, hf5, -⟩, -⟩ := id hRel
  have hn := hI.1.1
  have h7 := hI.1.2.1
  have hgn : h.2 1 0 = nI n := hRS.1.1.trans hn
  have hsd := hI.1.2.2.2.1
  have hgd : h.2 1 2 = nI (pm_n (h.2 1 2)) := by rw [hRS.1.2.2.1]; exact hsd.1
  have hgl : pm_n (h.2 1 2) < 1024 := by rw [hRS.1.2.2.1]; exact hsd.2
  have hE := pm_eqc (c := 3) (x := (xs (i + 1))) (y := (xs (i + 2))) (q := g.1 3) (rm := g.1 4) (dr := g.1 5) (f := (d_X13_keep h.1 (h.2 1) (h.2 2)).1) (gq := h.2 5) (by decide) hRS hI
  have hC := pm_nch (l := l) (D := D) (hl := [("java/lang/IndexOutOfBoundsException", 1), ("java/lang/IllegalArgumentException", 2), ("java/lang/UnsupportedOperationException", 3)]) (c := 3) (x := (xs (i + 1))) (y := (xs (i + 2))) (by decide) hT hL hn h7 hnx hsd.1 hsd.2 ho hk8 (pm_tri hE) (fun e => by rw [e]; exact List.mem_cons_self) (fun e => by rw [e]; exact List.mem_cons_of_mem _ (List.mem_cons_self)) (fun e => by rw [pm_plU e]; exact List.mem_cons_of_mem _ (List.mem_cons_of_mem _ (List.mem_cons_self)))
  refine pm_lw_11 (Bd := Bd) (L := L) (fo := fo) (fd := fd) (N := N) (xs := xs) (dW := 22) (mcW := 3) (msW := 12) (dX := 3) (h2 := (pm_hk (pm_hk (pm_hk (pm_hf h ((d_X13_sell (xs (i + 1)) (xs (i + 2)) n (g.2.2.1 1) h.1 (h.2 1) (h.2 2) (h.2 4)).2.1)) 1 ((d_X13_sell (xs (i + 1)) (xs (i + 2)) n (g.2.2.1 1) h.1 (h.2 1) (h.2 2) (h.2 4)).2.2.1)) 2 ((d_X13_sell (xs (i + 1)) (xs (i + 2)) n (g.2.2.1 1) h.1 (h.2 1) (h.2 2) (h.2 4)).2.2.2.1)) 4 ((d_X13_sell (xs (i + 1)) (xs (i + 2)) n (g.2.2.1 1) h.1 (h.2 1) (h.2 2) (h.2 4)).2.2.2.2))) (mv := (d_X13_sell (xs (i + 1)) (xs (i + 2)) n (g.2.2.1 1) h.1 (h.2 1) (h.2 2) (h.2 4)).1) rfl (by decide) (by decide) rfl B hXs hbz hiN hN hcu hsu hnx hT h150
    (pm_CwPost (c_L_sell (w := 149) (N := 1) (f := fo) (by decide) (by decide) hT.1 (c_X12_sell (fun w n' M' hp => pm_clV hp) hT.1 hC) (fun v n' M1 hp => ⟨pm_clV hp, (hp.1 149 (by decide) (by omega)).trans h149⟩) (fun E n' M1 hp => by
      obtain ⟨e, he, rfl⟩ := pm_clE hp
      simp only [List.mem_cons, List.not_mem_nil, or_false] at he
      rcases he with he | he | he <;> rw [he] <;> simp)) (fun o n' M' hp => pm_wrN hTM h149 hnx (by decide +kernel) (by decide +kernel) hp))
    (fun n' M' hT' => ⟨_, c_X13_sell hT'.1 hT'.2.1 hT'.2.2.1 hT'.2.2.2.2.1 hgn h7 hf5 hk8, (pm_TM_4 (pm_TM_2 (pm_TM_1 (pm_TM_f hT')))), fun a ha => by rw [pm_up_n (by omega), pm_up_n (by omega), pm_up_n (by omega), pm_up_n (by omega)]⟩) (pm_s_cq (h2 := (pm_hk (pm_hk (pm_hk (pm_hf h ((d_X13_sell (xs (i + 1)) (xs (i + 2)) n (g.2.2.1 1) h.1 (h.2 1) (h.2 2) (h.2 4)).2.1)) 1 ((d_X13_sell (xs (i + 1)) (xs (i + 2)) n (g.2.2.1 1) h.1 (h.2 1) (h.2 2) (h.2 4)).2.2.1)) 2 ((d_X13_sell (xs (i + 1)) (xs (i + 2)) n (g.2.2.1 1) h.1 (h.2 1) (h.2 2) (h.2 4)).2.2.2.1)) 4 ((d_X13_sell (xs (i + 1)) (xs (i + 2)) n (g.2.2.1 1) h.1 (h.2 1) (h.2 2) (h.2 4)).2.2.2.2))) (c := 3) (Q := d_X7_ref 3 (xs (i + 1)) (xs (i + 2)) n (g.1 0)) (O := d_X7_do 3 (xs (i + 1)) (xs (i + 2)) n (g.1 0) (g.1 3) (g.1 4) (g.1 5)) (m := pm_mc 3 (xs (i + 1)) (xs (i + 2)) n (d_X13_keep h.1 (h.2 1) (h.2 2)).1 (h.2 1) (h.2 5)) (fk := (d_X13_keep h.1 (h.2 1) (h.2 2)).1) (gbk := (d_X13_keep h.1 (h.2 1) (h.2 2)).2) (gq := h.2 5) hRel hRS hI rfl rfl rfl (fun j a b => (pk_un b).trans (pk_un a)) (fun j hj => by
      show va_cpy (h.2 1) (h.2 2) 0 0 91 j = _
      rw [pk_cpy_in (Nat.zero_le _) (by omega), show 0 + (j - 0) = j by omega]) hE rfl rfl rfl rfl rfl rfl rfl) next
set_option maxHeartbeats 1000000 in
theorem pm_op_12 {l : Launch} {z : Nat} {D : va_G} {kA : Nat → ClassId} {kE : Nat → Nat} {nm : String} {tb : List ExceptionTableEntry} {mc ms : Nat} {X : pm_X} {cu su : Nat} {Q : State → Prop} {nx : Nat} {M : pm_M} {b N i Bd : Nat} {xs : Nat → Int32} (B : pm_B l z D kA kE RL code 9 ret nm tb 2048 mc ms X) (hXs : va_X b N xs X.2.2.2.1 X.2.2.2.1.heap) (hbz : b < z) (hiN : i + 4 ≤ N) (hN : N ≤ 2048) (hcu : cu + 25 ≤ mc) (hsu : su + 78 ≤ ms) (hJ : pm_J z kA kE nx M Bd)
    (next : ∀ nx' M', nx ≤ nx' → pm_J z kA kE nx' M' (Bd + 693 * 11) → pm_G l z D X (cu + 25) (su + 78) Q nx' M' 2623 [some (.ref b), some (.ref (z + 0)), some (.ref (z + 140)), some (.ref (z + 149)), some (.ref (z + 150)), some (.int (nI i)), none, none, none] []) : pm_G l z D X cu su Q nx M 925 [some (.ref b), some (.ref (z + 0)), some (.ref (z + 140)), some (.ref (z + 149)), some (.ref (z + 150)), some (.int (nI i)), none, none, none] [] := by
  obtain ⟨hnx, g, h, L, fo, fd, hT, hTM, hL, h149, h150, hRel⟩ := hJ
  obtain ⟨⟨n, hRS, hI⟩, ⟨ho, hk8, hf5, -⟩, -⟩ := id hRel
  have hn := hI.1.1
  have h7 := hI.1.2.1
  have hgn : h.2 1 0 = nI n := hRS.1.1.trans hn
  have hsd := hI.1.2.2.2.1
  have hgd : h.2 1 2 = nI (pm_n (h.2 1 2)) := by rw [hRS.1.2.2.1]; exact hsd.1
  have hgl : pm_n (h.2 1 2) < 1024 := by rw [hRS.1.2.2.1]; exact hsd.2
  have hE := pm_eqc (c := 5) (x := 0) (y := 0) (q := g.1 3) (rm := g.1 4) (dr := g.1 5) (f := (d_X13_keep h.1 (h.2 1) (h.2 2)).1) (gq := h.2 5) (by decide) hRS hI
  have hC := pm_nch (l := l) (D := D) (hl := []) (c := 5) (x := 0) (y := 0) (by decide) hT hL hn h7 hnx hsd.1 hsd.2 ho hk8 (pm_tri hE) (fun e => absurd (show (0 : Int32) = -1 from e) (by decide)) (fun e => absurd (show (0 : Int32) = -2 from e) (by decide)) (fun e => absurd (show (0 : Int32) < 0 from e) (by decide))
  refine pm_lw_12 (Bd := Bd) (L := L) (fo := fo) (fd := fd) (N := N) (xs := xs) (dW := 21) (mcW := 3) (msW := 12) (dX := 3) (h2 := (pm_hk (pm_hk (pm_hk (pm_hf h ((d_X13_close n (g.2.2.1 1) h.1 (h.2 1) (h.2 2) (h.2 4)).2.1)) 1 ((d_X13_close n (g.2.2.1 1) h.1 (h.2 1) (h.2 2) (h.2 4)).2.2.1)) 2 ((d_X13_close n (g.2.2.1 1) h.1 (h.2 1) (h.2 2) (h.2 4)).2.2.2.1)) 4 ((d_X13_close n (g.2.2.1 1) h.1 (h.2 1) (h.2 2) (h.2 4)).2.2.2.2))) (mv := (d_X13_close n (g.2.2.1 1) h.1 (h.2 1) (h.2 2) (h.2 4)).1) rfl (by decide) (by decide) rfl B hcu hsu hnx hT hTM h149 h150 (c_X12_close (fun w n' M' hp => pm_clV hp) hT.1 hC) (fun n' M' hT' => ⟨_, c_X13_close hT'.1 hT'.2.1 hT'.2.2.1 hT'.2.2.2.2.1 hgn h7 hf5 hk8, (pm_TM_4 (pm_TM_2 (pm_TM_1 (pm_TM_f hT')))), fun a ha => by rw [pm_up_n (by omega), pm_up_n (by omega), pm_up_n (by omega), pm_up_n (by omega)]⟩) (fun v g' L' hR => ?_) next
  have hz := pm_s_cq (h2 := (pm_hk (pm_hk (pm_hk (pm_hf h ((d_X13_close n (g.2.2.1 1) h.1 (h.2 1) (h.2 2) (h.2 4)).2.1)) 1 ((d_X13_close n (g.2.2.1 1) h.1 (h.2 1) (h.2 2) (h.2 4)).2.2.1)) 2 ((d_X13_close n (g.2.2.1 1) h.1 (h.2 1) (h.2 2) (h.2 4)).2.2.2.1)) 4 ((d_X13_close n (g.2.2.1 1) h.1 (h.2 1) (h.2 2) (h.2 4)).2.2.2.2))) (c := 5) (Q := d_X7_ref 5 0 0 n (g.1 0)) (O := d_X7_do 5 0 0 n (g.1 0) (g.1 3) (g.1 4) (g.1 5)) (m := pm_mc 5 0 0 n (d_X13_keep h.1 (h.2 1) (h.2 2)).1 (h.2 1) (h.2 5)) (fk := (d_X13_keep h.1 (h.2 1) (h.2 2)).1) (gbk := (d_X13_keep h.1 (h.2 1) (h.2 2)).2) (gq := h.2 5) hRel hRS hI rfl rfl rfl (fun j a b => (pk_un b).trans (pk_un a)) (fun j hj => by
      show va_cpy (h.2 1) (h.2 2) 0 0 91 j = _
      rw [pk_cpy_in (Nat.zero_le _) (by omega), show 0 + (j - 0) = j by omega]) hE rfl rfl rfl rfl rfl rfl rfl 0 v g' L' hR
  exact ⟨hz.2.1 rfl, hz.2.2⟩
set_option maxHeartbeats 1000000 in
theorem pm_op_17 {l : Launch} {z : Nat} {D : va_G} {kA : Nat → ClassId} {kE : Nat → Nat} {nm : String} {tb : List ExceptionTableEntry} {mc ms : Nat} {X : pm_X} {cu su : Nat} {Q : State → Prop} {nx : Nat} {M : pm_M} {b N i Bd : Nat} {xs : Nat → Int32} (B : pm_B l z D kA kE RL code 9 ret nm tb 2048 mc ms X) (hXs : va_X b N xs X.2.2.2.1 X.2.2.2.1.heap) (hbz : b < z) (hiN : i + 4 ≤ N) (hN : N ≤ 2048) (hcu : cu + 25 ≤ mc) (hsu : su + 78 ≤ ms) (hJ : pm_J z kA kE nx M Bd)
    (next : ∀ nx' M', nx ≤ nx' → pm_J z kA kE nx' M' (Bd + 693 * 11) → pm_G l z D X (cu + 25) (su + 78) Q nx' M' 2623 [some (.ref b), some (.ref (z + 0)), some (.ref (z + 140)), some (.ref (z + 149)), some (.ref (z + 150)), some (.int (nI i)), none, none, none] []) : pm_G l z D X cu su Q nx M 1186 [some (.ref b), some (.ref (z + 0)), some (.ref (z + 140)), some (.ref (z + 149)), some (.ref (z + 150)), some (.int (nI i)), none, none, none] [] := by
  obtain ⟨hnx, g, h, L, fo, fd, hT, hTM, hL, h149, h150, hRel⟩ := hJ
  obtain ⟨⟨n, hRS, hI⟩, ⟨ho, hk8, hf5, -⟩, -⟩ := id hRel
  have hn := hI.1.1
  have h7 := hI.1.2.1
  have hgn : h.2 1 0 = nI n := hRS.1.1.trans hn
  have hsd := hI.1.2.2.2.1
  have hgd : h.2 1 2 = nI (pm_n (h.2 1 2)) := by rw [hRS.1.2.2.1]; exact hsd.1
  have hgl : pm_n (h.2 1 2) < 1024 := by rw [hRS.1.2.2.1]; exact hsd.2
  have hE := pm_eqc (c := 4) (x := (xs (i + 1))) (y := 0) (q := g.1 3) (rm := g.1 4) (dr := g.1 5) (f := (d_X13_keep h.1 (h.2 1) (h.2 2)).1) (gq := h.2 5) (by decide) hRS hI
  have hC := pm_nch (l := l) (D := D) (hl := [("java/lang/IllegalArgumentException", 1), ("java/lang/UnsupportedOperationException", 2)]) (c := 4) (x := (xs (i + 1))) (y := 0) (by decide) hT hL hn h7 hnx hsd.1 hsd.2 ho hk8 (pm_tri hE) (fun e => absurd e pm_rs4) (fun e => by rw [e]; exact List.mem_cons_self) (fun e => by rw [pm_plU e]; exact List.mem_cons_of_mem _ (List.mem_cons_self))
  refine pm_lw_17 (Bd := Bd) (L := L) (fo := fo) (fd := fd) (N := N) (xs := xs) (dW := 22) (mcW := 3) (msW := 12) (dX := 3) (h2 := (pm_hk (pm_hk (pm_hk (pm_hf h ((d_X13_audit (xs (i + 1)) n (g.2.2.1 1) h.1 (h.2 1) (h.2 2) (h.2 4)).2.1)) 1 ((d_X13_audit (xs (i + 1)) n (g.2.2.1 1) h.1 (h.2 1) (h.2 2) (h.2 4)).2.2.1)) 2 ((d_X13_audit (xs (i + 1)) n (g.2.2.1 1) h.1 (h.2 1) (h.2 2) (h.2 4)).2.2.2.1)) 4 ((d_X13_audit (xs (i + 1)) n (g.2.2.1 1) h.1 (h.2 1) (h.2 2) (h.2 4)).2.2.2.2))) (mv := (d_X13_audit (xs (i + 1)) n (g.2.2.1 1) h.1 (h.2 1) (h.2 2) (h.2 4)).1) rfl (by decide) (by decide) rfl B hXs hbz hiN hN hcu hsu hnx hT h150
    (pm_CwPost (c_L_audit (w := 149) (N := 1) (f := fo) (by decide) (by decide) hT.1 (c_X12_audit (fun w n' M' hp => pm_clV hp) hT.1 hC) (fun v n' M1 hp => ⟨pm_clV hp, (hp.1 149 (by decide) (by omega)).trans h149⟩) (fun E n' M1 hp => by
      obtain ⟨e, he, rfl⟩ := pm_clE hp
      simp only [List.mem_cons, List.not_mem_nil, or_false] at he
      rcases he with he | he <;> rw [he] <;> simp)) (fun o n' M' hp => pm_wrN hTM h149 hnx (by decide +kernel) (by decide +kernel) hp))
    (fun n' M' hT' => ⟨_, c_X13_audit hT'.1 hT'.2.1 hT'.2.2.1 hT'.2.2.2.2.1 hgn h7 hf5 hk8 hgd hgl, (pm_TM_4 (pm_TM_2 (pm_TM_1 (pm_TM_f hT')))), fun a ha => by rw [pm_up_n (by omega), pm_up_n (by omega), pm_up_n (by omega), pm_up_n (by omega)]⟩) (pm_s_cq (h2 := (pm_hk (pm_hk (pm_hk (pm_hf h ((d_X13_audit (xs (i + 1)) n (g.2.2.1 1) h.1 (h.2 1) (h.2 2) (h.2 4)).2.1)) 1 ((d_X13_audit (xs (i + 1)) n (g.2.2.1 1) h.1 (h.2 1) (h.2 2) (h.2 4)).2.2.1)) 2 ((d_X13_audit (xs (i + 1)) n (g.2.2.1 1) h.1 (h.2 1) (h.2 2) (h.2 4)).2.2.2.1)) 4 ((d_X13_audit (xs (i + 1)) n (g.2.2.1 1) h.1 (h.2 1) (h.2 2) (h.2 4)).2.2.2.2))) (c := 4) (Q := d_X7_ref 4 (xs (i + 1)) 0 n (g.1 0)) (O := d_X7_do 4 (xs (i + 1)) 0 n (g.1 0) (g.1 3) (g.1 4) (g.1 5)) (m := pm_mc 4 (xs (i + 1)) 0 n (d_X13_keep h.1 (h.2 1) (h.2 2)).1 (h.2 1) (h.2 5)) (fk := (d_X13_keep h.1 (h.2 1) (h.2 2)).1) (gbk := (d_X13_keep h.1 (h.2 1) (h.2 2)).2) (gq := h.2 5) hRel hRS hI rfl rfl rfl (fun j a b => (pk_un b).trans (pk_un a)) (fun j hj => by
      show va_cpy (h.2 1) (h.2 2) 0 0 91 j = _
      rw [pk_cpy_in (Nat.zero_le _) (by omega), show 0 + (j - 0) = j by omega]) hE rfl rfl rfl rfl rfl rfl rfl) next
set_option maxHeartbeats 1000000 in
theorem pm_op_18 {l : Launch} {z : Nat} {D : va_G} {kA : Nat → ClassId} {kE : Nat → Nat} {nm : String} {tb : List ExceptionTableEntry} {mc ms : Nat} {X : pm_X} {cu su : Nat} {Q : State → Prop} {nx : Nat} {M : pm_M} {b N i Bd : Nat} {xs : Nat → Int32} (B : pm_B l z D kA kE RL code 9 ret nm tb 2048 mc ms X) (hXs : va_X b N xs X.2.2.2.1 X.2.2.2.1.heap) (hbz : b < z) (hiN : i + 4 ≤ N) (hN : N ≤ 2048) (hcu : cu + 25 ≤ mc) (hsu : su + 78 ≤ ms) (hJ : pm_J z kA kE nx M Bd)
    (next : ∀ nx' M', nx ≤ nx' → pm_J z kA kE nx' M' (Bd + 693 * 11) → pm_G l z D X (cu + 25) (su + 78) Q nx' M' 2623 [some (.ref b), some (.ref (z + 0)), some (.ref (z + 140)), some (.ref (z + 149)), some (.ref (z + 150)), some (.int (nI i)), none, none, none] []) : pm_G l z D X cu su Q nx M 1242 [some (.ref b), some (.ref (z + 0)), some (.ref (z + 140)), some (.ref (z + 149)), some (.ref (z + 150)), some (.int (nI i)), none, none, none] [] := by
  obtain ⟨hnx, g, h, L, fo, fd, hT, hTM, hL, h149, h150, hRel⟩ := hJ
  obtain ⟨⟨n, hRS, hI⟩, ⟨ho, hk8, hf5, -⟩, -⟩ := id hRel
  have hn := hI.1.1
  have h7 := hI.1.2.1
  have hgn : h.2 1 0 = nI n := hRS.1.1.trans hn
  have hsd := hI.1.2.2.2.1
  have hgd : h.2 1 2 = nI (pm_n (h.2 1 2)) := by rw [hRS.1.2.2.1]; exact hsd.1
  have hgl : pm_n (h.2 1 2) < 1024 := by rw [hRS.1.2.2.1]; exact hsd.2
  have hE := pm_eqc (c := 10) (x := (xs (i + 1))) (y := 0) (q := g.1 3) (rm := g.1 4) (dr := g.1 5) (f := (d_X13_keep h.1 (h.2 1) (h.2 2)).1) (gq := h.2 5) (by decide) hRS hI
  have hC := pm_nch (l := l) (D := D) (hl := [("java/lang/IllegalArgumentException", 1)]) (c := 10) (x := (xs (i + 1))) (y := 0) (by decide) hT hL hn h7 hnx hsd.1 hsd.2 ho hk8 (pm_tri hE) (fun e => absurd e pm_rs10.1) (fun e => by rw [e]; exact List.mem_cons_self) (fun e => absurd e pm_rs10.2)
  refine pm_lw_18 (Bd := Bd) (L := L) (fo := fo) (fd := fd) (N := N) (xs := xs) (dW := 22) (mcW := 3) (msW := 12) (dX := 3) (h2 := (pm_hk (pm_hk (pm_hk (pm_hf h ((d_X13_setSeed (xs (i + 1)) (g.2.2.1 1) h.1 (h.2 1) (h.2 2) (h.2 4)).2.1)) 1 ((d_X13_setSeed (xs (i + 1)) (g.2.2.1 1) h.1 (h.2 1) (h.2 2) (h.2 4)).2.2.1)) 2 ((d_X13_setSeed (xs (i + 1)) (g.2.2.1 1) h.1 (h.2 1) (h.2 2) (h.2 4)).2.2.2.1)) 4 ((d_X13_setSeed (xs (i + 1)) (g.2.2.1 1) h.1 (h.2 1) (h.2 2) (h.2 4)).2.2.2.2))) (mv := (d_X13_setSeed (xs (i + 1)) (g.2.2.1 1) h.1 (h.2 1) (h.2 2) (h.2 4)).1) rfl (by decide) (by decide) rfl B hXs hbz hiN hN hcu hsu hnx hT h150
    (pm_CwPost (c_L_setSeed (w := 149) (N := 1) (f := fo) (by decide) (by decide) hT.1 (c_X12_setSeed (fun w n' M' hp => pm_clV hp) hT.1 hC) (fun v n' M1 hp => ⟨pm_clV hp, (hp.1 149 (by decide) (by omega)).trans h149⟩) (fun E n' M1 hp => by
      obtain ⟨e, he, rfl⟩ := pm_clE hp
      simp only [List.mem_cons, List.not_mem_nil, or_false] at he
      rw [he])) (fun o n' M' hp => pm_wrN hTM h149 hnx (by decide +kernel) (by decide +kernel) hp))
    (fun n' M' hT' => ⟨_, c_X13_setSeed hT'.1 hT'.2.1 hT'.2.2.1 hT'.2.2.2.2.1 hf5 hk8, (pm_TM_4 (pm_TM_2 (pm_TM_1 (pm_TM_f hT')))), fun a ha => by rw [pm_up_n (by omega), pm_up_n (by omega), pm_up_n (by omega), pm_up_n (by omega)]⟩) (pm_s_cq (h2 := (pm_hk (pm_hk (pm_hk (pm_hf h ((d_X13_setSeed (xs (i + 1)) (g.2.2.1 1) h.1 (h.2 1) (h.2 2) (h.2 4)).2.1)) 1 ((d_X13_setSeed (xs (i + 1)) (g.2.2.1 1) h.1 (h.2 1) (h.2 2) (h.2 4)).2.2.1)) 2 ((d_X13_setSeed (xs (i + 1)) (g.2.2.1 1) h.1 (h.2 1) (h.2 2) (h.2 4)).2.2.2.1)) 4 ((d_X13_setSeed (xs (i + 1)) (g.2.2.1 1) h.1 (h.2 1) (h.2 2) (h.2 4)).2.2.2.2))) (c := 10) (Q := d_X7_ref 10 (xs (i + 1)) 0 n (g.1 0)) (O := d_X7_do 10 (xs (i + 1)) 0 n (g.1 0) (g.1 3) (g.1 4) (g.1 5)) (m := pm_mc 10 (xs (i + 1)) 0 n (d_X13_keep h.1 (h.2 1) (h.2 2)).1 (h.2 1) (h.2 5)) (fk := (d_X13_keep h.1 (h.2 1) (h.2 2)).1) (gbk := (d_X13_keep h.1 (h.2 1) (h.2 2)).2) (gq := h.2 5) hRel hRS hI rfl rfl rfl (fun j a b => (pk_un b).trans (pk_un a)) (fun j hj => by
      show va_cpy (h.2 1) (h.2 2) 0 0 91 j = _
      rw [pk_cpy_in (Nat.zero_le _) (by omega), show 0 + (j - 0) = j by omega]) hE rfl rfl rfl rfl rfl rfl rfl) next
set_option maxHeartbeats 1000000 in
theorem pm_op_20 {l : Launch} {z : Nat} {D : va_G} {kA : Nat → ClassId} {kE : Nat → Nat} {nm : String} {tb : List ExceptionTableEntry} {mc ms : Nat} {X : pm_X} {cu su : Nat} {Q : State → Prop} {nx : Nat} {M : pm_M} {b N i Bd : Nat} {xs : Nat → Int32} (B : pm_B l z D kA kE RL code 9 ret nm tb 2048 mc ms X) (hXs : va_X b N xs X.2.2.2.1 X.2.2.2.1.heap) (hbz : b < z) (hiN : i + 4 ≤ N) (hN : N ≤ 2048) (hcu : cu + 25 ≤ mc) (hsu : su + 78 ≤ ms) (hJ : pm_J z kA kE nx M Bd)
    (next : ∀ nx' M', nx ≤ nx' → pm_J z kA kE nx' M' (Bd + 693 * 11) → pm_G l z D X (cu + 25) (su + 78) Q nx' M' 2623 [some (.ref b), some (.ref (z + 0)), some (.ref (z + 140)), some (.ref (z + 149)), some (.ref (z + 150)), some (.int (nI i)), none, none, none] []) : pm_G l z D X cu su Q nx M 1354 [some (.ref b), some (.ref (z + 0)), some (.ref (z + 140)), some (.ref (z + 149)), some (.ref (z + 150)), some (.int (nI i)), none, none, none] [] := by
  obtain ⟨hnx, g, h, L, fo, fd, hT, hTM, hL, h149, h150, hRel⟩ := hJ
  obtain ⟨⟨n, hRS, hI⟩, ⟨ho, hk8, hf5, -⟩, -⟩ := id hRel
  have hn := hI.1.1
  have h7 := hI.1.2.1
  have hgn : h.2 1 0 = nI n := hRS.1.1.trans hn
  have hsd := hI.1.2.2.2.1
  have hgd : h.2 1 2 = nI (pm_n (h.2 1 2)) := by rw [hRS.1.2.2.1]; exact hsd.1
  have hgl : pm_n (h.2 1 2) < 1024 := by rw [hRS.1.2.2.1]; exact hsd.2
  have hE := pm_eqc (c := 6) (x := (xs (i + 1))) (y := (xs (i + 2))) (q := g.1 3) (rm := g.1 4) (dr := g.1 5) (f := (d_X13_keep h.1 (h.2 1) (h.2 2)).1) (gq := h.2 5) (by decide) hRS hI
  have hC := pm_nch (l := l) (D := D) (hl := [("java/lang/IndexOutOfBoundsException", 1), ("java/lang/IllegalArgumentException", 2), ("java/lang/UnsupportedOperationException", 3)]) (c := 6) (x := (xs (i + 1))) (y := (xs (i + 2))) (by decide) hT hL hn h7 hnx hsd.1 hsd.2 ho hk8 (pm_tri hE) (fun e => by rw [e]; exact List.mem_cons_self) (fun e => by rw [e]; exact List.mem_cons_of_mem _ (List.mem_cons_self)) (fun e => by rw [pm_plU e]; exact List.mem_cons_of_mem _ (List.mem_cons_of_mem _ (List.mem_cons_self)))
  refine pm_lw_20 (Bd := Bd) (L := L) (fo := fo) (fd := fd) (N := N) (xs := xs) (dW := 22) (mcW := 3) (msW := 12) (dX := 3) (h2 := (pm_hk (pm_hk (pm_hk (pm_hf h ((d_X13_link (xs (i + 1)) (xs (i + 2)) n (g.2.2.1 1) h.1 (h.2 1) (h.2 2) (h.2 4)).2.1)) 1 ((d_X13_link (xs (i + 1)) (xs (i + 2)) n (g.2.2.1 1) h.1 (h.2 1) (h.2 2) (h.2 4)).2.2.1)) 2 ((d_X13_link (xs (i + 1)) (xs (i + 2)) n (g.2.2.1 1) h.1 (h.2 1) (h.2 2) (h.2 4)).2.2.2.1)) 4 ((d_X13_link (xs (i + 1)) (xs (i + 2)) n (g.2.2.1 1) h.1 (h.2 1) (h.2 2) (h.2 4)).2.2.2.2))) (mv := (d_X13_link (xs (i + 1)) (xs (i + 2)) n (g.2.2.1 1) h.1 (h.2 1) (h.2 2) (h.2 4)).1) rfl (by decide) (by decide) rfl B hXs hbz hiN hN hcu hsu hnx hT h150
    (pm_CwPost (c_L_link (w := 149) (N := 1) (f := fo) (by decide) (by decide) hT.1 (c_X12_link (fun w n' M' hp => pm_clV hp) hT.1 hC) (fun v n' M1 hp => ⟨pm_clV hp, (hp.1 149 (by decide) (by omega)).trans h149⟩) (fun E n' M1 hp => by
      obtain ⟨e, he, rfl⟩ := pm_clE hp
      simp only [List.mem_cons, List.not_mem_nil, or_false] at he
      rcases he with he | he | he <;> rw [he] <;> simp)) (fun o n' M' hp => pm_wrN hTM h149 hnx (by decide +kernel) (by decide +kernel) hp))
    (fun n' M' hT' => ⟨_, c_X13_link hT'.1 hT'.2.1 hT'.2.2.1 hT'.2.2.2.2.1 hgn h7 hf5 hk8, (pm_TM_4 (pm_TM_2 (pm_TM_1 (pm_TM_f hT')))), fun a ha => by rw [pm_up_n (by omega), pm_up_n (by omega), pm_up_n (by omega), pm_up_n (by omega)]⟩) (pm_s_cq (h2 := (pm_hk (pm_hk (pm_hk (pm_hf h ((d_X13_link (xs (i + 1)) (xs (i + 2)) n (g.2.2.1 1) h.1 (h.2 1) (h.2 2) (h.2 4)).2.1)) 1 ((d_X13_link (xs (i + 1)) (xs (i + 2)) n (g.2.2.1 1) h.1 (h.2 1) (h.2 2) (h.2 4)).2.2.1)) 2 ((d_X13_link (xs (i + 1)) (xs (i + 2)) n (g.2.2.1 1) h.1 (h.2 1) (h.2 2) (h.2 4)).2.2.2.1)) 4 ((d_X13_link (xs (i + 1)) (xs (i + 2)) n (g.2.2.1 1) h.1 (h.2 1) (h.2 2) (h.2 4)).2.2.2.2))) (c := 6) (Q := d_X7_ref 6 (xs (i + 1)) (xs (i + 2)) n (g.1 0)) (O := d_X7_do 6 (xs (i + 1)) (xs (i + 2)) n (g.1 0) (g.1 3) (g.1 4) (g.1 5)) (m := pm_mc 6 (xs (i + 1)) (xs (i + 2)) n (d_X13_keep h.1 (h.2 1) (h.2 2)).1 (h.2 1) (h.2 5)) (fk := (d_X13_keep h.1 (h.2 1) (h.2 2)).1) (gbk := (d_X13_keep h.1 (h.2 1) (h.2 2)).2) (gq := h.2 5) hRel hRS hI rfl rfl rfl (fun j a b => (pk_un b).trans (pk_un a)) (fun j hj => by
      show va_cpy (h.2 1) (h.2 2) 0 0 91 j = _
      rw [pk_cpy_in (Nat.zero_le _) (by omega), show 0 + (j - 0) = j by omega]) hE rfl rfl rfl rfl rfl rfl rfl) next
set_option maxHeartbeats 1000000 in
theorem pm_op_21 {l : Launch} {z : Nat} {D : va_G} {kA : Nat → ClassId} {kE : Nat → Nat} {nm : String} {tb : List ExceptionTableEntry} {mc ms : Nat} {X : pm_X} {cu su : Nat} {Q : State → Prop} {nx : Nat} {M : pm_M} {b N i Bd : Nat} {xs : Nat → Int32} (B : pm_B l z D kA kE RL code 9 ret nm tb 2048 mc ms X) (hXs : va_X b N xs X.2.2.2.1 X.2.2.2.1.heap) (hbz : b < z) (hiN : i + 4 ≤ N) (hN : N ≤ 2048) (hcu : cu + 25 ≤ mc) (hsu : su + 78 ≤ ms) (hJ : pm_J z kA kE nx M Bd)
    (next : ∀ nx' M', nx ≤ nx' → pm_J z kA kE nx' M' (Bd + 693 * 11) → pm_G l z D X (cu + 25) (su + 78) Q nx' M' 2623 [some (.ref b), some (.ref (z + 0)), some (.ref (z + 140)), some (.ref (z + 149)), some (.ref (z + 150)), some (.int (nI i)), none, none, none] []) : pm_G l z D X cu su Q nx M 1422 [some (.ref b), some (.ref (z + 0)), some (.ref (z + 140)), some (.ref (z + 149)), some (.ref (z + 150)), some (.int (nI i)), none, none, none] [] := by
  obtain ⟨hnx, g, h, L, fo, fd, hT, hTM, hL, h149, h150, hRel⟩ := hJ
  obtain ⟨⟨n, hRS, hI⟩, ⟨ho, hk8, hf5, -⟩, -⟩ := id hRel
  have hn := hI.1.1
  have h7 := hI.1.2.1
  have hgn : h.2 1 0 = nI n := hRS.1.1.trans hn
  have hsd := hI.1.2.2.2.1
  have hgd : h.2 1 2 = nI (pm_n (h.2 1 2)) := by rw [hRS.1.2.2.1]; exact hsd.1
  have hgl : pm_n (h.2 1 2) < 1024 := by rw [hRS.1.2.2.1]; exact hsd.2
  have hE := pm_eqc (c := 7) (x := (xs (i + 1))) (y := (xs (i + 2))) (q := g.1 3) (rm := g.1 4) (dr := g.1 5) (f := (d_X13_keep h.1 (h.2 1) (h.2 2)).1) (gq := h.2 5) (by decide) hRS hI
  have hC := pm_nch (l := l) (D := D) (hl := [("java/lang/IndexOutOfBoundsException", 1), ("java/lang/IllegalArgumentException", 2), ("java/lang/UnsupportedOperationException", 3)]) (c := 7) (x := (xs (i + 1))) (y := (xs (i + 2))) (by decide) hT hL hn h7 hnx hsd.1 hsd.2 ho hk8 (pm_tri hE) (fun e => by rw [e]; exact List.mem_cons_self) (fun e => by rw [e]; exact List.mem_cons_of_mem _ (List.mem_cons_self)) (fun e => by rw [pm_plU e]; exact List.mem_cons_of_mem _ (List.mem_cons_of_mem _ (List.mem_cons_self)))
  refine pm_lw_21 (Bd := Bd) (L := L) (fo := fo) (fd := fd) (N := N) (xs := xs) (dW := 22) (mcW := 3) (msW := 12) (dX := 3) (h2 := (pm_hk (pm_hk (pm_hk (pm_hf h ((d_X13_unlink (xs (i + 1)) (xs (i + 2)) n (g.2.2.1 1) h.1 (h.2 1) (h.2 2) (h.2 4)).2.1)) 1 ((d_X13_unlink (xs (i + 1)) (xs (i + 2)) n (g.2.2.1 1) h.1 (h.2 1) (h.2 2) (h.2 4)).2.2.1)) 2 ((d_X13_unlink (xs (i + 1)) (xs (i + 2)) n (g.2.2.1 1) h.1 (h.2 1) (h.2 2) (h.2 4)).2.2.2.1)) 4 ((d_X13_unlink (xs (i + 1)) (xs (i + 2)) n (g.2.2.1 1) h.1 (h.2 1) (h.2 2) (h.2 4)).2.2.2.2))) (mv := (d_X13_unlink (xs (i + 1)) (xs (i + 2)) n (g.2.2.1 1) h.1 (h.2 1) (h.2 2) (h.2 4)).1) rfl (by decide) (by decide) rfl B hXs hbz hiN hN hcu hsu hnx hT h150
    (pm_CwPost (c_L_unlink (w := 149) (N := 1) (f := fo) (by decide) (by decide) hT.1 (c_X12_unlink (fun w n' M' hp => pm_clV hp) hT.1 hC) (fun v n' M1 hp => ⟨pm_clV hp, (hp.1 149 (by decide) (by omega)).trans h149⟩) (fun E n' M1 hp => by
      obtain ⟨e, he, rfl⟩ := pm_clE hp
      simp only [List.mem_cons, List.not_mem_nil, or_false] at he
      rcases he with he | he | he <;> rw [he] <;> simp)) (fun o n' M' hp => pm_wrN hTM h149 hnx (by decide +kernel) (by decide +kernel) hp))
    (fun n' M' hT' => ⟨_, c_X13_unlink hT'.1 hT'.2.1 hT'.2.2.1 hT'.2.2.2.2.1 hgn h7 hf5 hk8, (pm_TM_4 (pm_TM_2 (pm_TM_1 (pm_TM_f hT')))), fun a ha => by rw [pm_up_n (by omega), pm_up_n (by omega), pm_up_n (by omega), pm_up_n (by omega)]⟩) (pm_s_cq (h2 := (pm_hk (pm_hk (pm_hk (pm_hf h ((d_X13_unlink (xs (i + 1)) (xs (i + 2)) n (g.2.2.1 1) h.1 (h.2 1) (h.2 2) (h.2 4)).2.1)) 1 ((d_X13_unlink (xs (i + 1)) (xs (i + 2)) n (g.2.2.1 1) h.1 (h.2 1) (h.2 2) (h.2 4)).2.2.1)) 2 ((d_X13_unlink (xs (i + 1)) (xs (i + 2)) n (g.2.2.1 1) h.1 (h.2 1) (h.2 2) (h.2 4)).2.2.2.1)) 4 ((d_X13_unlink (xs (i + 1)) (xs (i + 2)) n (g.2.2.1 1) h.1 (h.2 1) (h.2 2) (h.2 4)).2.2.2.2))) (c := 7) (Q := d_X7_ref 7 (xs (i + 1)) (xs (i + 2)) n (g.1 0)) (O := d_X7_do 7 (xs (i + 1)) (xs (i + 2)) n (g.1 0) (g.1 3) (g.1 4) (g.1 5)) (m := pm_mc 7 (xs (i + 1)) (xs (i + 2)) n (d_X13_keep h.1 (h.2 1) (h.2 2)).1 (h.2 1) (h.2 5)) (fk := (d_X13_keep h.1 (h.2 1) (h.2 2)).1) (gbk := (d_X13_keep h.1 (h.2 1) (h.2 2)).2) (gq := h.2 5) hRel hRS hI rfl rfl rfl (fun j a b => (pk_un b).trans (pk_un a)) (fun j hj => by
      show va_cpy (h.2 1) (h.2 2) 0 0 91 j = _
      rw [pk_cpy_in (Nat.zero_le _) (by omega), show 0 + (j - 0) = j by omega]) hE rfl rfl rfl rfl rfl rfl rfl) next
set_option maxHeartbeats 1000000 in
theorem pm_op_26 {l : Launch} {z : Nat} {D : va_G} {kA : Nat → ClassId} {kE : Nat → Nat} {nm : String} {tb : List ExceptionTableEntry} {mc ms : Nat} {X : pm_X} {cu su : Nat} {Q : State → Prop} {nx : Nat} {M : pm_M} {b N i Bd : Nat} {xs : Nat → Int32} (B : pm_B l z D kA kE RL code 9 ret nm tb 2048 mc ms X) (hXs : va_X b N xs X.2.2.2.1 X.2.2.2.1.heap) (hbz : b < z) (hiN : i + 4 ≤ N) (hN : N ≤ 2048) (hcu : cu + 25 ≤ mc) (hsu : su + 78 ≤ ms) (hJ : pm_J z kA kE nx M Bd)
    (next : ∀ nx' M', nx ≤ nx' → pm_J z kA kE nx' M' (Bd + 693 * 11) → pm_G l z D X (cu + 25) (su + 78) Q nx' M' 2623 [some (.ref b), some (.ref (z + 0)), some (.ref (z + 140)), some (.ref (z + 149)), some (.ref (z + 150)), some (.int (nI i)), none, none, none] []) : pm_G l z D X cu su Q nx M 1604 [some (.ref b), some (.ref (z + 0)), some (.ref (z + 140)), some (.ref (z + 149)), some (.ref (z + 150)), some (.int (nI i)), none, none, none] [] := by
  obtain ⟨hnx, g, h, L, fo, fd, hT, hTM, hL, h149, h150, hRel⟩ := hJ
  obtain ⟨⟨n, hRS, hI⟩, ⟨ho, hk8, hf5, -⟩, -⟩ := id hRel
  have hn := hI.1.1
  have h7 := hI.1.2.1
  have hgn : h.2 1 0 = nI n := hRS.1.1.trans hn
  have hsd := hI.1.2.2.2.1
  have hgd : h.2 1 2 = nI (pm_n (h.2 1 2)) := by rw [hRS.1.2.2.1]; exact hsd.1
  have hgl : pm_n (h.2 1 2) < 1024 := by rw [hRS.1.2.2.1]; exact hsd.2
  have hE := pm_eqc (c := 9) (x := (xs (i + 1))) (y := 0) (q := g.1 3) (rm := g.1 4) (dr := g.1 5) (f := (d_X13_keep h.1 (h.2 1) (h.2 2)).1) (gq := h.2 5) (by decide) hRS hI
  have hC := pm_nch (l := l) (D := D) (hl := [("java/lang/IllegalArgumentException", 1), ("java/lang/UnsupportedOperationException", 2)]) (c := 9) (x := (xs (i + 1))) (y := 0) (by decide) hT hL hn h7 hnx hsd.1 hsd.2 ho hk8 (pm_tri hE) (fun e => absurd e pm_rs9) (fun e => by rw [e]; exact List.mem_cons_self) (fun e => by rw [pm_plU e]; exact List.mem_cons_of_mem _ (List.mem_cons_self))
  refine pm_lw_26 (Bd := Bd) (L := L) (fo := fo) (fd := fd) (N := N) (xs := xs) (dW := 22) (mcW := 3) (msW := 12) (dX := 3) (h2 := (pm_hk (pm_hk (pm_hk (pm_hf h ((d_X13_setThreshold (xs (i + 1)) (g.2.2.1 1) h.1 (h.2 1) (h.2 2) (h.2 4)).2.1)) 1 ((d_X13_setThreshold (xs (i + 1)) (g.2.2.1 1) h.1 (h.2 1) (h.2 2) (h.2 4)).2.2.1)) 2 ((d_X13_setThreshold (xs (i + 1)) (g.2.2.1 1) h.1 (h.2 1) (h.2 2) (h.2 4)).2.2.2.1)) 4 ((d_X13_setThreshold (xs (i + 1)) (g.2.2.1 1) h.1 (h.2 1) (h.2 2) (h.2 4)).2.2.2.2))) (mv := (d_X13_setThreshold (xs (i + 1)) (g.2.2.1 1) h.1 (h.2 1) (h.2 2) (h.2 4)).1) rfl (by decide) (by decide) rfl B hXs hbz hiN hN hcu hsu hnx hT h150
    (pm_CwPost (c_L_setThreshold (w := 149) (N := 1) (f := fo) (by decide) (by decide) hT.1 (c_X12_setThreshold (fun w n' M' hp => pm_clV hp) hT.1 hC) (fun v n' M1 hp => ⟨pm_clV hp, (hp.1 149 (by decide) (by omega)).trans h149⟩) (fun E n' M1 hp => by
      obtain ⟨e, he, rfl⟩ := pm_clE hp
      simp only [List.mem_cons, List.not_mem_nil, or_false] at he
      rcases he with he | he <;> rw [he] <;> simp)) (fun o n' M' hp => pm_wrN hTM h149 hnx (by decide +kernel) (by decide +kernel) hp))
    (fun n' M' hT' => ⟨_, c_X13_setThreshold hT'.1 hT'.2.1 hT'.2.2.1 hT'.2.2.2.2.1 hf5 hk8, (pm_TM_4 (pm_TM_2 (pm_TM_1 (pm_TM_f hT')))), fun a ha => by rw [pm_up_n (by omega), pm_up_n (by omega), pm_up_n (by omega), pm_up_n (by omega)]⟩) (pm_s_cq (h2 := (pm_hk (pm_hk (pm_hk (pm_hf h ((d_X13_setThreshold (xs (i + 1)) (g.2.2.1 1) h.1 (h.2 1) (h.2 2) (h.2 4)).2.1)) 1 ((d_X13_setThreshold (xs (i + 1)) (g.2.2.1 1) h.1 (h.2 1) (h.2 2) (h.2 4)).2.2.1)) 2 ((d_X13_setThreshold (xs (i + 1)) (g.2.2.1 1) h.1 (h.2 1) (h.2 2) (h.2 4)).2.2.2.1)) 4 ((d_X13_setThreshold (xs (i + 1)) (g.2.2.1 1) h.1 (h.2 1) (h.2 2) (h.2 4)).2.2.2.2))) (c := 9) (Q := d_X7_ref 9 (xs (i + 1)) 0 n (g.1 0)) (O := d_X7_do 9 (xs (i + 1)) 0 n (g.1 0) (g.1 3) (g.1 4) (g.1 5)) (m := pm_mc 9 (xs (i + 1)) 0 n (d_X13_keep h.1 (h.2 1) (h.2 2)).1 (h.2 1) (h.2 5)) (fk := (d_X13_keep h.1 (h.2 1) (h.2 2)).1) (gbk := (d_X13_keep h.1 (h.2 1) (h.2 2)).2) (gq := h.2 5) hRel hRS hI rfl rfl rfl (fun j a b => (pk_un b).trans (pk_un a)) (fun j hj => by
      show va_cpy (h.2 1) (h.2 2) 0 0 91 j = _
      rw [pk_cpy_in (Nat.zero_le _) (by omega), show 0 + (j - 0) = j by omega]) hE rfl rfl rfl rfl rfl rfl rfl) next
