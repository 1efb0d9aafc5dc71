/-! the law's cases, closed: askers -/
set_option maxHeartbeats 1000000 in
theorem pm_op_3 {l : Launch} {z : Nat} {D : va_G} {kA : Nat → ClassId} {kE : Nat → Nat} {nm : String} {tb : List ExceptionTableEntry} {mc ms : Nat} {X : pm_X} {cu su : Nat} {Q : State → Prop} {nx : Nat} {M : pm_M} {b N i Bd : Nat} {xs : Nat → Int32} (B : pm_B l z D kA kE RL code 9 ret nm tb 2048 mc ms X) (hXs : va_X b N xs X.2.2.2.1 X.2.2.2.1.heap) (hbz : b < z) (hiN : i + 4 ≤ N) (hN : N ≤ 2048) (hcu : cu + 25 ≤ mc) (hsu : su + 78 ≤ ms) (hJ : pm_J z kA kE nx M Bd)
    (next : ∀ nx' M', nx ≤ nx' → pm_J z kA kE nx' M' (Bd + 693 * 11) → pm_G l z D X (cu + 25) (su + 78) Q nx' M' 2623 [some (.ref b), some (.ref (z + 0)), some (.ref (z + 140)), some (.ref (z + 149)), some (.ref (z + 150)), some (.int (nI i)), none, none, none] []) : pm_G l z D X cu su Q nx M 409 [some (.ref b), some (.ref (z + 0)), some (.ref (z + 140)), some (.ref (z + 149)), some (.ref (z + 150)), some (.int (nI i)), none, none, none] [] := by
  obtain ⟨hnx, g, h, L, fo, fd, hT, hTM, hL, h149, h150, hRel⟩ := hJ
  obtain ⟨⟨n, hRS, hI⟩, ⟨ho, hk8, hf5, -⟩, -⟩ := id hRel
  have hn := hI.1.1
  have h7 := hI.1.2.1
  have hgn : h.2 1 0 = nI n := hRS.1.1.trans hn
  have hsd := hI.1.2.2.2.1
  have hgd : h.2 1 2 = nI (pm_n (h.2 1 2)) := by rw [hRS.1.2.2.1]; exact hsd.1
  have hgl : pm_n (h.2 1 2) < 1024 := by rw [hRS.1.2.2.1]; exact hsd.2
  obtain ⟨-, -, hRs, hRt, hRf, hRl, hR9, hR10, hR11, hR1, hR2⟩ := id hRel
  have hC := pm_nas (hl := [("java/lang/IndexOutOfBoundsException", 1)]) (hn := [(1, 1)]) (f_X12_capacity (l := l) (D := D) (x := xs (i + 1)) hT hn h7) hL (pm_a_capacity (f := h.1) hRS hI.2.1 h7) (by decide +kernel)
  refine pm_lw_3 (Bd := Bd) (L := L) (fo := fo) (fd := fd) (N := N) (xs := xs) (dW := 21) (mcW := 2) (msW := 12) (dX := 3) (h2 := (pm_hf h ((d_X13_capacity (xs (i + 1)) n h.1 (h.2 1)).2))) (mv := (d_X13_capacity (xs (i + 1)) n h.1 (h.2 1)).1) rfl (by decide) (by decide) rfl B hXs hbz hiN hN hcu hsu hnx hT h150
    (pm_CwPost (c_L_capacity (w := 149) (N := 1) (f := fo) (by decide) (by decide) hT.1 hC (fun v n' M1 hp => ⟨pm_clV hp, (hp.1 149 (by decide) (by omega)).trans h149⟩) (fun E n' M1 hp => by
      obtain ⟨e, he, rfl⟩ := pm_clE hp
      simp only [List.mem_cons, List.not_mem_nil, or_false] at he
      rw [he])) (fun o n' M' hp => pm_wrN hTM h149 hnx (by decide +kernel) (by decide +kernel) hp))
    (fun n' M' hT' => ⟨_, c_X13_capacity hT'.1 hT'.2.1 hgn h7, (pm_TM_f hT'), fun a ha => by rw [pm_up_n (by omega)]⟩) (fun kc v g2 L2 hR => ?_) next
  obtain ⟨rfl, rfl, e6, hv⟩ := hR
  exact ⟨e6.symm, hv, pm_Rel_le (by omega) (pm_Rel_cg hRel (fun _ _ => rfl) rfl rfl (fun j hj => pm_fr_capacity (by omega)) (fun _ _ => rfl))⟩
set_option maxHeartbeats 1000000 in
theorem pm_op_4 {l : Launch} {z : Nat} {D : va_G} {kA : Nat → ClassId} {kE : Nat → Nat} {nm : String} {tb : List ExceptionTableEntry} {mc ms : Nat} {X : pm_X} {cu su : Nat} {Q : State → Prop} {nx : Nat} {M : pm_M} {b N i Bd : Nat} {xs : Nat → Int32} (B : pm_B l z D kA kE RL code 9 ret nm tb 2048 mc ms X) (hXs : va_X b N xs X.2.2.2.1 X.2.2.2.1.heap) (hbz : b < z) (hiN : i + 4 ≤ N) (hN : N ≤ 2048) (hcu : cu + 25 ≤ mc) (hsu : su + 78 ≤ ms) (hJ : pm_J z kA kE nx M Bd)
    (next : ∀ nx' M', nx ≤ nx' → pm_J z kA kE nx' M' (Bd + 693 * 11) → pm_G l z D X (cu + 25) (su + 78) Q nx' M' 2623 [some (.ref b), some (.ref (z + 0)), some (.ref (z + 140)), some (.ref (z + 149)), some (.ref (z + 150)), some (.int (nI i)), none, none, none] []) : pm_G l z D X cu su Q nx M 465 [some (.ref b), some (.ref (z + 0)), some (.ref (z + 140)), some (.ref (z + 149)), some (.ref (z + 150)), some (.int (nI i)), none, none, none] [] := by
  obtain ⟨hnx, g, h, L, fo, fd, hT, hTM, hL, h149, h150, hRel⟩ := hJ
  obtain ⟨⟨n, hRS, hI⟩, ⟨ho, hk8, hf5, -⟩, -⟩ := id hRel
  have hn := hI.1.1
  have h7 := hI.1.2.1
  have hgn : h.2 1 0 = nI n := hRS.1.1.trans hn
  have hsd := hI.1.2.2.2.1
  have hgd : h.2 1 2 = nI (pm_n (h.2 1 2)) := by rw [hRS.1.2.2.1]; exact hsd.1
  have hgl : pm_n (h.2 1 2) < 1024 := by rw [hRS.1.2.2.1]; exact hsd.2
  obtain ⟨-, -, hRs, hRt, hRf, hRl, hR9, hR10, hR11, hR1, hR2⟩ := id hRel
  have hC := pm_nas (hl := [("java/lang/IndexOutOfBoundsException", 1)]) (hn := [(1, 1)]) (f_X12_votes (l := l) (D := D) (x := xs (i + 1)) hT hn h7) hL (pm_a_votes (f := h.1) hRS hI.2.1 h7) (by decide +kernel)
  refine pm_lw_4 (Bd := Bd) (L := L) (fo := fo) (fd := fd) (N := N) (xs := xs) (dW := 21) (mcW := 2) (msW := 12) (dX := 3) (h2 := (pm_hf h ((d_X13_votes (xs (i + 1)) n h.1 (h.2 1)).2))) (mv := (d_X13_votes (xs (i + 1)) n h.1 (h.2 1)).1) rfl (by decide) (by decide) rfl B hXs hbz hiN hN hcu hsu hnx hT h150
    (pm_CwPost (c_L_votes (w := 149) (N := 1) (f := fo) (by decide) (by decide) hT.1 hC (fun v n' M1 hp => ⟨pm_clV hp, (hp.1 149 (by decide) (by omega)).trans h149⟩) (fun E n' M1 hp => by
      obtain ⟨e, he, rfl⟩ := pm_clE hp
      simp only [List.mem_cons, List.not_mem_nil, or_false] at he
      rw [he])) (fun o n' M' hp => pm_wrN hTM h149 hnx (by decide +kernel) (by decide +kernel) hp))
    (fun n' M' hT' => ⟨_, c_X13_votes hT'.1 hT'.2.1 hgn h7, (pm_TM_f hT'), fun a ha => by rw [pm_up_n (by omega)]⟩) (fun kc v g2 L2 hR => ?_) next
  obtain ⟨rfl, rfl, e6, hv⟩ := hR
  exact ⟨e6.symm, hv, pm_Rel_le (by omega) (pm_Rel_cg hRel (fun _ _ => rfl) rfl rfl (fun j hj => pm_fr_votes (by omega)) (fun _ _ => rfl))⟩
set_option maxHeartbeats 1000000 in
theorem pm_op_14 {l : Launch} {z : Nat} {D : va_G} {kA : Nat → ClassId} {kE : Nat → Nat} {nm : String} {tb : List ExceptionTableEntry} {mc ms : Nat} {X : pm_X} {cu su : Nat} {Q : State → Prop} {nx : Nat} {M : pm_M} {b N i Bd : Nat} {xs : Nat → Int32} (B : pm_B l z D kA kE RL code 9 ret nm tb 2048 mc ms X) (hXs : va_X b N xs X.2.2.2.1 X.2.2.2.1.heap) (hbz : b < z) (hiN : i + 4 ≤ N) (hN : N ≤ 2048) (hcu : cu + 25 ≤ mc) (hsu : su + 78 ≤ ms) (hJ : pm_J z kA kE nx M Bd)
    (next : ∀ nx' M', nx ≤ nx' → pm_J z kA kE nx' M' (Bd + 693 * 11) → pm_G l z D X (cu + 25) (su + 78) Q nx' M' 2623 [some (.ref b), some (.ref (z + 0)), some (.ref (z + 140)), some (.ref (z + 149)), some (.ref (z + 150)), some (.int (nI i)), none, none, none] []) : pm_G l z D X cu su Q nx M 1018 [some (.ref b), some (.ref (z + 0)), some (.ref (z + 140)), some (.ref (z + 149)), some (.ref (z + 150)), some (.int (nI i)), none, none, none] [] := by
  obtain ⟨hnx, g, h, L, fo, fd, hT, hTM, hL, h149, h150, hRel⟩ := hJ
  obtain ⟨⟨n, hRS, hI⟩, ⟨ho, hk8, hf5, -⟩, -⟩ := id hRel
  have hn := hI.1.1
  have h7 := hI.1.2.1
  have hgn : h.2 1 0 = nI n := hRS.1.1.trans hn
  have hsd := hI.1.2.2.2.1
  have hgd : h.2 1 2 = nI (pm_n (h.2 1 2)) := by rw [hRS.1.2.2.1]; exact hsd.1
  have hgl : pm_n (h.2 1 2) < 1024 := by rw [hRS.1.2.2.1]; exact hsd.2
  obtain ⟨-, -, hRs, hRt, hRf, hRl, hR9, hR10, hR11, hR1, hR2⟩ := id hRel
  have hC := pm_nas (hl := [("java/lang/IndexOutOfBoundsException", 1)]) (hn := [(1, 1)]) (f_X12_quota (l := l) (D := D) (x := xs (i + 1)) hT hn h7) hL (pm_a_quota (f := h.1) hRS hI.2.1 h7) (by decide +kernel)
  refine pm_lw_14 (Bd := Bd) (L := L) (fo := fo) (fd := fd) (N := N) (xs := xs) (dW := 21) (mcW := 2) (msW := 12) (dX := 3) (h2 := (pm_hf h ((d_X13_quota (xs (i + 1)) n h.1 (h.2 1)).2))) (mv := (d_X13_quota (xs (i + 1)) n h.1 (h.2 1)).1) rfl (by decide) (by decide) rfl B hXs hbz hiN hN hcu hsu hnx hT h150
    (pm_CwPost (c_L_quota (w := 149) (N := 1) (f := fo) (by decide) (by decide) hT.1 hC (fun v n' M1 hp => ⟨pm_clV hp, (hp.1 149 (by decide) (by omega)).trans h149⟩) (fun E n' M1 hp => by
      obtain ⟨e, he, rfl⟩ := pm_clE hp
      simp only [List.mem_cons, List.not_mem_nil, or_false] at he
      rw [he])) (fun o n' M' hp => pm_wrN hTM h149 hnx (by decide +kernel) (by decide +kernel) hp))
    (fun n' M' hT' => ⟨_, c_X13_quota hT'.1 hT'.2.1 hgn h7, (pm_TM_f hT'), fun a ha => by rw [pm_up_n (by omega)]⟩) (fun kc v g2 L2 hR => ?_) next
  obtain ⟨rfl, rfl, e6, hv⟩ := hR
  exact ⟨e6.symm, hv, pm_Rel_le (by omega) (pm_Rel_cg hRel (fun _ _ => rfl) rfl rfl (fun j hj => pm_fr_quota (by omega)) (fun _ _ => rfl))⟩
set_option maxHeartbeats 1000000 in
theorem pm_op_15 {l : Launch} {z : Nat} {D : va_G} {kA : Nat → ClassId} {kE : Nat → Nat} {nm : String} {tb : List ExceptionTableEntry} {mc ms : Nat} {X : pm_X} {cu su : Nat} {Q : State → Prop} {nx : Nat} {M : pm_M} {b N i Bd : Nat} {xs : Nat → Int32} (B : pm_B l z D kA kE RL code 9 ret nm tb 2048 mc ms X) (hXs : va_X b N xs X.2.2.2.1 X.2.2.2.1.heap) (hbz : b < z) (hiN : i + 4 ≤ N) (hN : N ≤ 2048) (hcu : cu + 25 ≤ mc) (hsu : su + 78 ≤ ms) (hJ : pm_J z kA kE nx M Bd)
    (next : ∀ nx' M', nx ≤ nx' → pm_J z kA kE nx' M' (Bd + 693 * 11) → pm_G l z D X (cu + 25) (su + 78) Q nx' M' 2623 [some (.ref b), some (.ref (z + 0)), some (.ref (z + 140)), some (.ref (z + 149)), some (.ref (z + 150)), some (.int (nI i)), none, none, none] []) : pm_G l z D X cu su Q nx M 1074 [some (.ref b), some (.ref (z + 0)), some (.ref (z + 140)), some (.ref (z + 149)), some (.ref (z + 150)), some (.int (nI i)), none, none, none] [] := by
  obtain ⟨hnx, g, h, L, fo, fd, hT, hTM, hL, h149, h150, hRel⟩ := hJ
  obtain ⟨⟨n, hRS, hI⟩, ⟨ho, hk8, hf5, -⟩, -⟩ := id hRel
  have hn := hI.1.1
  have h7 := hI.1.2.1
  have hgn : h.2 1 0 = nI n := hRS.1.1.trans hn
  have hsd := hI.1.2.2.2.1
  have hgd : h.2 1 2 = nI (pm_n (h.2 1 2)) := by rw [hRS.1.2.2.1]; exact hsd.1
  have hgl : pm_n (h.2 1 2) < 1024 := by rw [hRS.1.2.2.1]; exact hsd.2
  obtain ⟨-, -, hRs, hRt, hRf, hRl, hR9, hR10, hR11, hR1, hR2⟩ := id hRel
  have hC := pm_nas (hl := [("java/lang/IndexOutOfBoundsException", 1)]) (hn := [(1, 1)]) (f_X12_sales (l := l) (D := D) (x := xs (i + 1)) hT hn h7) hL (pm_a_sales (f := h.1) hRS hI.2.1 h7) (by decide +kernel)
  refine pm_lw_15 (Bd := Bd) (L := L) (fo := fo) (fd := fd) (N := N) (xs := xs) (dW := 21) (mcW := 2) (msW := 12) (dX := 3) (h2 := (pm_hf h ((d_X13_sales (xs (i + 1)) n h.1 (h.2 1)).2))) (mv := (d_X13_sales (xs (i + 1)) n h.1 (h.2 1)).1) rfl (by decide) (by decide) rfl B hXs hbz hiN hN hcu hsu hnx hT h150
    (pm_CwPost (c_L_sales (w := 149) (N := 1) (f := fo) (by decide) (by decide) hT.1 hC (fun v n' M1 hp => ⟨pm_clV hp, (hp.1 149 (by decide) (by omega)).trans h149⟩) (fun E n' M1 hp => by
      obtain ⟨e, he, rfl⟩ := pm_clE hp
      simp only [List.mem_cons, List.not_mem_nil, or_false] at he
      rw [he])) (fun o n' M' hp => pm_wrN hTM h149 hnx (by decide +kernel) (by decide +kernel) hp))
    (fun n' M' hT' => ⟨_, c_X13_sales hT'.1 hT'.2.1 hgn h7, (pm_TM_f hT'), fun a ha => by rw [pm_up_n (by omega)]⟩) (fun kc v g2 L2 hR => ?_) next
  obtain ⟨rfl, rfl, e6, hv⟩ := hR
  exact ⟨e6.symm, hv, pm_Rel_le (by omega) (pm_Rel_cg hRel (fun _ _ => rfl) rfl rfl (fun j hj => pm_fr_sales (by omega)) (fun _ _ => rfl))⟩
set_option maxHeartbeats 1000000 in
theorem pm_op_16 {l : Launch} {z : Nat} {D : va_G} {kA : Nat → ClassId} {kE : Nat → Nat} {nm : String} {tb : List ExceptionTableEntry} {mc ms : Nat} {X : pm_X} {cu su : Nat} {Q : State → Prop} {nx : Nat} {M : pm_M} {b N i Bd : Nat} {xs : Nat → Int32} (B : pm_B l z D kA kE RL code 9 ret nm tb 2048 mc ms X) (hXs : va_X b N xs X.2.2.2.1 X.2.2.2.1.heap) (hbz : b < z) (hiN : i + 4 ≤ N) (hN : N ≤ 2048) (hcu : cu + 25 ≤ mc) (hsu : su + 78 ≤ ms) (hJ : pm_J z kA kE nx M Bd)
    (next : ∀ nx' M', nx ≤ nx' → pm_J z kA kE nx' M' (Bd + 693 * 11) → pm_G l z D X (cu + 25) (su + 78) Q nx' M' 2623 [some (.ref b), some (.ref (z + 0)), some (.ref (z + 140)), some (.ref (z + 149)), some (.ref (z + 150)), some (.int (nI i)), none, none, none] []) : pm_G l z D X cu su Q nx M 1130 [some (.ref b), some (.ref (z + 0)), some (.ref (z + 140)), some (.ref (z + 149)), some (.ref (z + 150)), some (.int (nI i)), none, none, none] [] := by
  obtain ⟨hnx, g, h, L, fo, fd, hT, hTM, hL, h149, h150, hRel⟩ := hJ
  obtain ⟨⟨n, hRS, hI⟩, ⟨ho, hk8, hf5, -⟩, -⟩ := id hRel
  have hn := hI.1.1
  have h7 := hI.1.2.1
  have hgn : h.2 1 0 = nI n := hRS.1.1.trans hn
  have hsd := hI.1.2.2.2.1
  have hgd : h.2 1 2 = nI (pm_n (h.2 1 2)) := by rw [hRS.1.2.2.1]; exact hsd.1
  have hgl : pm_n (h.2 1 2) < 1024 := by rw [hRS.1.2.2.1]; exact hsd.2
  obtain ⟨-, -, hRs, hRt, hRf, hRl, hR9, hR10, hR11, hR1, hR2⟩ := id hRel
  have hC := pm_nas (hl := [("java/lang/IndexOutOfBoundsException", 1)]) (hn := [(1, 1)]) (f_X12_excess (l := l) (D := D) (x := xs (i + 1)) hT hn h7) hL (pm_a_excess (f := h.1) hRS hI.2.1 h7) (by decide +kernel)
  refine pm_lw_16 (Bd := Bd) (L := L) (fo := fo) (fd := fd) (N := N) (xs := xs) (dW := 21) (mcW := 2) (msW := 12) (dX := 3) (h2 := (pm_hf h ((d_X13_excess (xs (i + 1)) n h.1 (h.2 1)).2))) (mv := (d_X13_excess (xs (i + 1)) n h.1 (h.2 1)).1) rfl (by decide) (by decide) rfl B hXs hbz hiN hN hcu hsu hnx hT h150
    (pm_CwPost (c_L_excess (w := 149) (N := 1) (f := fo) (by decide) (by decide) hT.1 hC (fun v n' M1 hp => ⟨pm_clV hp, (hp.1 149 (by decide) (by omega)).trans h149⟩) (fun E n' M1 hp => by
      obtain ⟨e, he, rfl⟩ := pm_clE hp
      simp only [List.mem_cons, List.not_mem_nil, or_false] at he
      rw [he])) (fun o n' M' hp => pm_wrN hTM h149 hnx (by decide +kernel) (by decide +kernel) hp))
    (fun n' M' hT' => ⟨_, c_X13_excess hT'.1 hT'.2.1 hgn h7, (pm_TM_f hT'), fun a ha => by rw [pm_up_n (by omega)]⟩) (fun kc v g2 L2 hR => ?_) next
  obtain ⟨rfl, rfl, e6, hv⟩ := hR
  exact ⟨e6.symm, hv, pm_Rel_le (by omega) (pm_Rel_cg hRel (fun _ _ => rfl) rfl rfl (fun j hj => pm_fr_excess (by omega)) (fun _ _ => rfl))⟩
set_option maxHeartbeats 1000000 in
theorem pm_op_5 {l : Launch} {z : Nat} {D : va_G} {kA : Nat → ClassId} {kE : Nat → Nat} {nm : String} {tb : List ExceptionTableEntry} {mc ms : Nat} {X : pm_X} {cu su : Nat} {Q : State → Prop} {nx : Nat} {M : pm_M} {b N i Bd : Nat} {xs : Nat → Int32} (B : pm_B l z D kA kE RL code 9 ret nm tb 2048 mc ms X) (hXs : va_X b N xs X.2.2.2.1 X.2.2.2.1.heap) (hbz : b < z) (hiN : i + 4 ≤ N) (hN : N ≤ 2048) (hcu : cu + 25 ≤ mc) (hsu : su + 78 ≤ ms) (hJ : pm_J z kA kE nx M Bd)
    (next : ∀ nx' M', nx ≤ nx' → pm_J z kA kE nx' M' (Bd + 693 * 11) → pm_G l z D X (cu + 25) (su + 78) Q nx' M' 2623 [some (.ref b), some (.ref (z + 0)), some (.ref (z + 140)), some (.ref (z + 149)), some (.ref (z + 150)), some (.int (nI i)), none, none, none] []) : pm_G l z D X cu su Q nx M 521 [some (.ref b), some (.ref (z + 0)), some (.ref (z + 140)), some (.ref (z + 149)), some (.ref (z + 150)), some (.int (nI i)), none, none, none] [] := by
  obtain ⟨hnx, g, h, L, fo, fd, hT, hTM, hL, h149, h150, hRel⟩ := hJ
  obtain ⟨⟨n, hRS, hI⟩, ⟨ho, hk8, hf5, -⟩, -⟩ := id hRel
  have hn := hI.1.1
  have h7 := hI.1.2.1
  have hgn : h.2 1 0 = nI n := hRS.1.1.trans hn
  have hsd := hI.1.2.2.2.1
  have hgd : h.2 1 2 = nI (pm_n (h.2 1 2)) := by rw [hRS.1.2.2.1]; exact hsd.1
  have hgl : pm_n (h.2 1 2) < 1024 := by rw [hRS.1.2.2.1]; exact hsd.2
  obtain ⟨-, -, hRs, hRt, hRf, hRl, hR9, hR10, hR11, hR1, hR2⟩ := id hRel
  have hC := pm_nas (hl := [("java/lang/IndexOutOfBoundsException", 1)]) (hn := [(1, 1)]) (f_X12_standing (l := l) (D := D) (x := xs (i + 1)) hT hn h7) hL (pm_a_standing (f := h.1) hRS hI.2.1 h7) (by decide +kernel)
  refine pm_lw_5 (Bd := Bd) (L := L) (fo := fo) (fd := fd) (N := N) (xs := xs) (dW := 21) (mcW := 2) (msW := 12) (dX := 3) (h2 := (pm_hf h ((d_X13_standing (xs (i + 1)) n h.1 (h.2 1)).2))) (mv := (d_X13_standing (xs (i + 1)) n h.1 (h.2 1)).1) rfl (by decide) (by decide) rfl B hXs hbz hiN hN hcu hsu hnx hT h150
    (pm_CwPost (c_L_standing (w := 149) (N := 1) (f := fo) (by decide) (by decide) hT.1 hC (fun v n' M1 hp => ⟨pm_clV hp, (hp.1 149 (by decide) (by omega)).trans h149⟩) (fun E n' M1 hp => by
      obtain ⟨e, he, rfl⟩ := pm_clE hp
      simp only [List.mem_cons, List.not_mem_nil, or_false] at he
      rw [he])) (fun o n' M' hp => pm_wrN hTM h149 hnx (by decide +kernel) (by decide +kernel) hp))
    (fun n' M' hT' => ⟨_, c_X13_standing hT'.1 hT'.2.1 hgn h7, (pm_TM_f hT'), fun a ha => by rw [pm_up_n (by omega)]⟩) (fun kc v g2 L2 hR => ?_) next
  obtain ⟨rfl, rfl, e6, hv⟩ := hR
  exact ⟨e6.symm, hv, pm_Rel_le (by omega) (pm_Rel_cg hRel (fun _ _ => rfl) rfl rfl (fun j hj => pm_fr_standing (by omega)) (fun _ _ => rfl))⟩
set_option maxHeartbeats 1000000 in
theorem pm_op_6 {l : Launch} {z : Nat} {D : va_G} {kA : Nat → ClassId} {kE : Nat → Nat} {nm : String} {tb : List ExceptionTableEntry} {mc ms : Nat} {X : pm_X} {cu su : Nat} {Q : State → Prop} {nx : Nat} {M : pm_M} {b N i Bd : Nat} {xs : Nat → Int32} (B : pm_B l z D kA kE RL code 9 ret nm tb 2048 mc ms X) (hXs : va_X b N xs X.2.2.2.1 X.2.2.2.1.heap) (hbz : b < z) (hiN : i + 4 ≤ N) (hN : N ≤ 2048) (hcu : cu + 25 ≤ mc) (hsu : su + 78 ≤ ms) (hJ : pm_J z kA kE nx M Bd)
    (next : ∀ nx' M', nx ≤ nx' → pm_J z kA kE nx' M' (Bd + 693 * 11) → pm_G l z D X (cu + 25) (su + 78) Q nx' M' 2623 [some (.ref b), some (.ref (z + 0)), some (.ref (z + 140)), some (.ref (z + 149)), some (.ref (z + 150)), some (.int (nI i)), none, none, none] []) : pm_G l z D X cu su Q nx M 577 [some (.ref b), some (.ref (z + 0)), some (.ref (z + 140)), some (.ref (z + 149)), some (.ref (z + 150)), some (.int (nI i)), none, none, none] [] := by
  obtain ⟨hnx, g, h, L, fo, fd, hT, hTM, hL, h149, h150, hRel⟩ := hJ
  obtain ⟨⟨n, hRS, hI⟩, ⟨ho, hk8, hf5, -⟩, -⟩ := id hRel
  have hn := hI.1.1
  have h7 := hI.1.2.1
  have hgn : h.2 1 0 = nI n := hRS.1.1.trans hn
  have hsd := hI.1.2.2.2.1
  have hgd : h.2 1 2 = nI (pm_n (h.2 1 2)) := by rw [hRS.1.2.2.1]; exact hsd.1
  have hgl : pm_n (h.2 1 2) < 1024 := by rw [hRS.1.2.2.1]; exact hsd.2
  obtain ⟨-, -, hRs, hRt, hRf, hRl, hR9, hR10, hR11, hR1, hR2⟩ := id hRel
  have hC := pm_nas (hl := [("java/lang/IndexOutOfBoundsException", 1), ("java/util/NoSuchElementException", 2)]) (hn := [(1, 1), (4, 2)]) (f_X12_warnings (l := l) (D := D) (x := xs (i + 1)) hT hn h7) hL (pm_a_warnings (f := h.1) hRS hI.2.1 h7) (by decide +kernel)
  refine pm_lw_6 (Bd := Bd) (L := L) (fo := fo) (fd := fd) (N := N) (xs := xs) (dW := 21) (mcW := 2) (msW := 12) (dX := 3) (h2 := (pm_hf h ((d_X13_warnings (xs (i + 1)) n h.1 (h.2 1)).2))) (mv := (d_X13_warnings (xs (i + 1)) n h.1 (h.2 1)).1) rfl (by decide) (by decide) rfl B hXs hbz hiN hN hcu hsu hnx hT h150
    (pm_CwPost (c_L_warnings (w := 149) (N := 1) (f := fo) (by decide) (by decide) hT.1 hC (fun v n' M1 hp => ⟨pm_clV hp, (hp.1 149 (by decide) (by omega)).trans h149⟩) (fun E n' M1 hp => by
      obtain ⟨e, he, rfl⟩ := pm_clE hp
      simp only [List.mem_cons, List.not_mem_nil, or_false] at he
      rcases he with he | he <;> rw [he] <;> simp)) (fun o n' M' hp => pm_wrN hTM h149 hnx (by decide +kernel) (by decide +kernel) hp))
    (fun n' M' hT' => ⟨_, c_X13_warnings hT'.1 hT'.2.1 hgn h7, (pm_TM_f hT'), fun a ha => by rw [pm_up_n (by omega)]⟩) (fun kc v g2 L2 hR => ?_) next
  obtain ⟨rfl, rfl, e6, hv⟩ := hR
  exact ⟨e6.symm, hv, pm_Rel_le (by omega) (pm_Rel_cg hRel (fun _ _ => rfl) rfl rfl (fun j hj => pm_fr_warnings (by omega)) (fun _ _ => rfl))⟩
set_option maxHeartbeats 1000000 in
theorem pm_op_7 {l : Launch} {z : Nat} {D : va_G} {kA : Nat → ClassId} {kE : Nat → Nat} {nm : String} {tb : List ExceptionTableEntry} {mc ms : Nat} {X : pm_X} {cu su : Nat} {Q : State → Prop} {nx : Nat} {M : pm_M} {b N i Bd : Nat} {xs : Nat → Int32} (B : pm_B l z D kA kE RL code 9 ret nm tb 2048 mc ms X) (hXs : va_X b N xs X.2.2.2.1 X.2.2.2.1.heap) (hbz : b < z) (hiN : i + 4 ≤ N) (hN : N ≤ 2048) (hcu : cu + 25 ≤ mc) (hsu : su + 78 ≤ ms) (hJ : pm_J z kA kE nx M Bd)
    (next : ∀ nx' M', nx ≤ nx' → pm_J z kA kE nx' M' (Bd + 693 * 11) → pm_G l z D X (cu + 25) (su + 78) Q nx' M' 2623 [some (.ref b), some (.ref (z + 0)), some (.ref (z + 140)), some (.ref (z + 149)), some (.ref (z + 150)), some (.int (nI i)), none, none, none] []) : pm_G l z D X cu su Q nx M 633 [some (.ref b), some (.ref (z + 0)), some (.ref (z + 140)), some (.ref (z + 149)), some (.ref (z + 150)), some (.int (nI i)), none, none, none] [] := by
  obtain ⟨hnx, g, h, L, fo, fd, hT, hTM, hL, h149, h150, hRel⟩ := hJ
  obtain ⟨⟨n, hRS, hI⟩, ⟨ho, hk8, hf5, -⟩, -⟩ := id hRel
  have hn := hI.1.1
  have h7 := hI.1.2.1
  have hgn : h.2 1 0 = nI n := hRS.1.1.trans hn
  have hsd := hI.1.2.2.2.1
  have hgd : h.2 1 2 = nI (pm_n (h.2 1 2)) := by rw [hRS.1.2.2.1]; exact hsd.1
  have hgl : pm_n (h.2 1 2) < 1024 := by rw [hRS.1.2.2.1]; exact hsd.2
  obtain ⟨-, -, hRs, hRt, hRf, hRl, hR9, hR10, hR11, hR1, hR2⟩ := id hRel
  have hC := pm_nas (hl := [("java/lang/IndexOutOfBoundsException", 1), ("java/util/NoSuchElementException", 2)]) (hn := [(1, 1), (4, 2)]) (f_X12_barredMonths (l := l) (D := D) (x := xs (i + 1)) hT hn h7) hL (pm_a_barredMonths (f := h.1) hRS hI.2.1 h7) (by decide +kernel)
  refine pm_lw_7 (Bd := Bd) (L := L) (fo := fo) (fd := fd) (N := N) (xs := xs) (dW := 21) (mcW := 2) (msW := 12) (dX := 3) (h2 := (pm_hf h ((d_X13_barredMonths (xs (i + 1)) n h.1 (h.2 1)).2))) (mv := (d_X13_barredMonths (xs (i + 1)) n h.1 (h.2 1)).1) rfl (by decide) (by decide) rfl B hXs hbz hiN hN hcu hsu hnx hT h150
    (pm_CwPost (c_L_barredMonths (w := 149) (N := 1) (f := fo) (by decide) (by decide) hT.1 hC (fun v n' M1 hp => ⟨pm_clV hp, (hp.1 149 (by decide) (by omega)).trans h149⟩) (fun E n' M1 hp => by
      obtain ⟨e, he, rfl⟩ := pm_clE hp
      simp only [List.mem_cons, List.not_mem_nil, or_false] at he
      rcases he with he | he <;> rw [he] <;> simp)) (fun o n' M' hp => pm_wrN hTM h149 hnx (by decide +kernel) (by decide +kernel) hp))
    (fun n' M' hT' => ⟨_, c_X13_barredMonths hT'.1 hT'.2.1 hgn h7, (pm_TM_f hT'), fun a ha => by rw [pm_up_n (by omega)]⟩) (fun kc v g2 L2 hR => ?_) next
  obtain ⟨rfl, rfl, e6, hv⟩ := hR
  exact ⟨e6.symm, hv, pm_Rel_le (by omega) (pm_Rel_cg hRel (fun _ _ => rfl) rfl rfl (fun j hj => pm_fr_barredMonths (by omega)) (fun _ _ => rfl))⟩
set_option maxHeartbeats 1000000 in
theorem pm_op_43 {l : Launch} {z : Nat} {D : va_G} {kA : Nat → ClassId} {kE : Nat → Nat} {nm : String} {tb : List ExceptionTableEntry} {mc ms : Nat} {X : pm_X} {cu su : Nat} {Q : State → Prop} {nx : Nat} {M : pm_M} {b N i Bd : Nat} {xs : Nat → Int32} (B : pm_B l z D kA kE RL code 9 ret nm tb 2048 mc ms X) (hXs : va_X b N xs X.2.2.2.1 X.2.2.2.1.heap) (hbz : b < z) (hiN : i + 4 ≤ N) (hN : N ≤ 2048) (hcu : cu + 25 ≤ mc) (hsu : su + 78 ≤ ms) (hJ : pm_J z kA kE nx M Bd)
    (next : ∀ nx' M', nx ≤ nx' → pm_J z kA kE nx' M' (Bd + 693 * 11) → pm_G l z D X (cu + 25) (su + 78) Q nx' M' 2623 [some (.ref b), some (.ref (z + 0)), some (.ref (z + 140)), some (.ref (z + 149)), some (.ref (z + 150)), some (.int (nI i)), none, none, none] []) : pm_G l z D X cu su Q nx M 2221 [some (.ref b), some (.ref (z + 0)), some (.ref (z + 140)), some (.ref (z + 149)), some (.ref (z + 150)), some (.int (nI i)), none, none, none] [] := by
  obtain ⟨hnx, g, h, L, fo, fd, hT, hTM, hL, h149, h150, hRel⟩ := hJ
  obtain ⟨⟨n, hRS, hI⟩, ⟨ho, hk8, hf5, -⟩, -⟩ := id hRel
  have hn := hI.1.1
  have h7 := hI.1.2.1
  have hgn : h.2 1 0 = nI n := hRS.1.1.trans hn
  have hsd := hI.1.2.2.2.1
  have hgd : h.2 1 2 = nI (pm_n (h.2 1 2)) := by rw [hRS.1.2.2.1]; exact hsd.1
  have hgl : pm_n (h.2 1 2) < 1024 := by rw [hRS.1.2.2.1]; exact hsd.2
  obtain ⟨-, -, hRs, hRt, hRf, hRl, hR9, hR10, hR11, hR1, hR2⟩ := id hRel
  have hC := pm_nas (hl := [("java/util/NoSuchElementException", 1)]) (hn := [(4, 1)]) (f_X12_faultPosition (l := l) (D := D) hT) hL (pm_a_faultPosition hRf) (by decide +kernel)
  refine pm_lw_43 (Bd := Bd) (L := L) (fo := fo) (fd := fd) (N := N) (xs := xs) (dW := 21) (mcW := 2) (msW := 12) (dX := 2) (h2 := (pm_hf h ((d_X13_faultPosition h.1).2))) (mv := (d_X13_faultPosition h.1).1) rfl (by decide) (by decide) rfl B hXs hbz hiN hN hcu hsu hnx hT h150
    (pm_CwPost (c_L_faultPosition (w := 149) (N := 1) (f := fo) (by decide) (by decide) hT.1 hC (fun v n' M1 hp => ⟨pm_clV hp, (hp.1 149 (by decide) (by omega)).trans h149⟩) (fun E n' M1 hp => by
      obtain ⟨e, he, rfl⟩ := pm_clE hp
      simp only [List.mem_cons, List.not_mem_nil, or_false] at he
      rw [he])) (fun o n' M' hp => pm_wrN hTM h149 hnx (by decide +kernel) (by decide +kernel) hp))
    (fun n' M' hT' => ⟨_, c_X13_faultPosition hT'.1, (pm_TM_f hT'), fun a ha => by rw [pm_up_n (by omega)]⟩) (fun kc v g2 L2 hR => ?_) next
  obtain ⟨rfl, rfl, e6, hv⟩ := hR
  exact ⟨e6.symm, hv, pm_Rel_le (by omega) (pm_Rel_cg hRel (fun _ _ => rfl) rfl rfl (fun j hj => pm_fr_faultPosition (by omega)) (fun _ _ => rfl))⟩
set_option maxHeartbeats 1000000 in
theorem pm_op_46 {l : Launch} {z : Nat} {D : va_G} {kA : Nat → ClassId} {kE : Nat → Nat} {nm : String} {tb : List ExceptionTableEntry} {mc ms : Nat} {X : pm_X} {cu su : Nat} {Q : State → Prop} {nx : Nat} {M : pm_M} {b N i Bd : Nat} {xs : Nat → Int32} (B : pm_B l z D kA kE RL code 9 ret nm tb 2048 mc ms X) (hXs : va_X b N xs X.2.2.2.1 X.2.2.2.1.heap) (hbz : b < z) (hiN : i + 4 ≤ N) (hN : N ≤ 2048) (hcu : cu + 25 ≤ mc) (hsu : su + 78 ≤ ms) (hJ : pm_J z kA kE nx M Bd)
    (next : ∀ nx' M', nx ≤ nx' → pm_J z kA kE nx' M' (Bd + 693 * 11) → pm_G l z D X (cu + 25) (su + 78) Q nx' M' 2623 [some (.ref b), some (.ref (z + 0)), some (.ref (z + 140)), some (.ref (z + 149)), some (.ref (z + 150)), some (.int (nI i)), none, none, none] []) : pm_G l z D X cu su Q nx M 2377 [some (.ref b), some (.ref (z + 0)), some (.ref (z + 140)), some (.ref (z + 149)), some (.ref (z + 150)), some (.int (nI i)), none, none, none] [] := by
  obtain ⟨hnx, g, h, L, fo, fd, hT, hTM, hL, h149, h150, hRel⟩ := hJ
  obtain ⟨⟨n, hRS, hI⟩, ⟨ho, hk8, hf5, -⟩, -⟩ := id hRel
  have hn := hI.1.1
  have h7 := hI.1.2.1
  have hgn : h.2 1 0 = nI n := hRS.1.1.trans hn
  have hsd := hI.1.2.2.2.1
  have hgd : h.2 1 2 = nI (pm_n (h.2 1 2)) := by rw [hRS.1.2.2.1]; exact hsd.1
  have hgl : pm_n (h.2 1 2) < 1024 := by rw [hRS.1.2.2.1]; exact hsd.2
  obtain ⟨-, -, hRs, hRt, hRf, hRl, hR9, hR10, hR11, hR1, hR2⟩ := id hRel
  have hC := pm_nas (hl := [("java/util/NoSuchElementException", 1)]) (hn := [(4, 1)]) (f_X12_denial (l := l) (D := D) hT hL) hL (pm_a_denial hR9 hR10 hR1) (by decide +kernel)
  refine pm_lw_46 (Bd := Bd) (L := L) (fo := fo) (fd := fd) (N := N) (xs := xs) (dW := 21) (mcW := 2) (msW := 12) (dX := 2) (h2 := (pm_hf h ((d_X13_denial h.1).2))) (mv := (d_X13_denial h.1).1) rfl (by decide) (by decide) rfl B hXs hbz hiN hN hcu hsu hnx hT h150
    (pm_CwPost (c_L_denial (w := 149) (N := 1) (f := fo) (by decide) (by decide) hT.1 hC (fun v n' M1 hp => ⟨pm_clV hp, (hp.1 149 (by decide) (by omega)).trans h149⟩) (fun E n' M1 hp => by
      obtain ⟨e, he, rfl⟩ := pm_clE hp
      simp only [List.mem_cons, List.not_mem_nil, or_false] at he
      rw [he])) (fun o n' M' hp => pm_wrN hTM h149 hnx (by decide +kernel) (by decide +kernel) hp))
    (fun n' M' hT' => ⟨_, c_X13_denial hT'.1, (pm_TM_f hT'), fun a ha => by rw [pm_up_n (by omega)]⟩) (fun kc v g2 L2 hR => ?_) next
  obtain ⟨rfl, rfl, e6, hv⟩ := hR
  exact ⟨e6.symm, hv, pm_Rel_le (by omega) (pm_Rel_cg hRel (fun _ _ => rfl) rfl rfl (fun j hj => pm_fr_denial (by omega)) (fun _ _ => rfl))⟩
set_option maxHeartbeats 1000000 in
theorem pm_op_47 {l : Launch} {z : Nat} {D : va_G} {kA : Nat → ClassId} {kE : Nat → Nat} {nm : String} {tb : List ExceptionTableEntry} {mc ms : Nat} {X : pm_X} {cu su : Nat} {Q : State → Prop} {nx : Nat} {M : pm_M} {b N i Bd : Nat} {xs : Nat → Int32} (B : pm_B l z D kA kE RL code 9 ret nm tb 2048 mc ms X) (hXs : va_X b N xs X.2.2.2.1 X.2.2.2.1.heap) (hbz : b < z) (hiN : i + 4 ≤ N) (hN : N ≤ 2048) (hcu : cu + 25 ≤ mc) (hsu : su + 78 ≤ ms) (hJ : pm_J z kA kE nx M Bd)
    (next : ∀ nx' M', nx ≤ nx' → pm_J z kA kE nx' M' (Bd + 693 * 11) → pm_G l z D X (cu + 25) (su + 78) Q nx' M' 2623 [some (.ref b), some (.ref (z + 0)), some (.ref (z + 140)), some (.ref (z + 149)), some (.ref (z + 150)), some (.int (nI i)), none, none, none] []) : pm_G l z D X cu su Q nx M 2421 [some (.ref b), some (.ref (z + 0)), some (.ref (z + 140)), some (.ref (z + 149)), some (.ref (z + 150)), some (.int (nI i)), none, none, none] [] := by
  obtain ⟨hnx, g, h, L, fo, fd, hT, hTM, hL, h149, h150, hRel⟩ := hJ
  obtain ⟨⟨n, hRS, hI⟩, ⟨ho, hk8, hf5, -⟩, -⟩ := id hRel
  have hn := hI.1.1
  have h7 := hI.1.2.1
  have hgn : h.2 1 0 = nI n := hRS.1.1.trans hn
  have hsd := hI.1.2.2.2.1
  have hgd : h.2 1 2 = nI (pm_n (h.2 1 2)) := by rw [hRS.1.2.2.1]; exact hsd.1
  have hgl : pm_n (h.2 1 2) < 1024 := by rw [hRS.1.2.2.1]; exact hsd.2
  obtain ⟨-, -, hRs, hRt, hRf, hRl, hR9, hR10, hR11, hR1, hR2⟩ := id hRel
  have hC := pm_nas (hl := [("java/util/NoSuchElementException", 1)]) (hn := [(4, 1)]) (f_X12_denialDetail (l := l) (D := D) hT hL) hL (pm_a_denialDetail hR9 hR10 hR1) (by decide +kernel)
  refine pm_lw_47 (Bd := Bd) (L := L) (fo := fo) (fd := fd) (N := N) (xs := xs) (dW := 21) (mcW := 2) (msW := 12) (dX := 2) (h2 := (pm_hf h ((d_X13_denialDetail h.1).2))) (mv := (d_X13_denialDetail h.1).1) rfl (by decide) (by decide) rfl B hXs hbz hiN hN hcu hsu hnx hT h150
    (pm_CwPost (c_L_denialDetail (w := 149) (N := 1) (f := fo) (by decide) (by decide) hT.1 hC (fun v n' M1 hp => ⟨pm_clV hp, (hp.1 149 (by decide) (by omega)).trans h149⟩) (fun E n' M1 hp => by
      obtain ⟨e, he, rfl⟩ := pm_clE hp
      simp only [List.mem_cons, List.not_mem_nil, or_false] at he
      rw [he])) (fun o n' M' hp => pm_wrN hTM h149 hnx (by decide +kernel) (by decide +kernel) hp))
    (fun n' M' hT' => ⟨_, c_X13_denialDetail hT'.1, (pm_TM_f hT'), fun a ha => by rw [pm_up_n (by omega)]⟩) (fun kc v g2 L2 hR => ?_) next
  obtain ⟨rfl, rfl, e6, hv⟩ := hR
  exact ⟨e6.symm, hv, pm_Rel_le (by omega) (pm_Rel_cg hRel (fun _ _ => rfl) rfl rfl (fun j hj => pm_fr_denialDetail (by omega)) (fun _ _ => rfl))⟩
set_option maxHeartbeats 1000000 in
theorem pm_op_48 {l : Launch} {z : Nat} {D : va_G} {kA : Nat → ClassId} {kE : Nat → Nat} {nm : String} {tb : List ExceptionTableEntry} {mc ms : Nat} {X : pm_X} {cu su : Nat} {Q : State → Prop} {nx : Nat} {M : pm_M} {b N i Bd : Nat} {xs : Nat → Int32} (B : pm_B l z D kA kE RL code 9 ret nm tb 2048 mc ms X) (hXs : va_X b N xs X.2.2.2.1 X.2.2.2.1.heap) (hbz : b < z) (hiN : i + 4 ≤ N) (hN : N ≤ 2048) (hcu : cu + 25 ≤ mc) (hsu : su + 78 ≤ ms) (hJ : pm_J z kA kE nx M Bd)
    (next : ∀ nx' M', nx ≤ nx' → pm_J z kA kE nx' M' (Bd + 693 * 11) → pm_G l z D X (cu + 25) (su + 78) Q nx' M' 2623 [some (.ref b), some (.ref (z + 0)), some (.ref (z + 140)), some (.ref (z + 149)), some (.ref (z + 150)), some (.int (nI i)), none, none, none] []) : pm_G l z D X cu su Q nx M 2465 [some (.ref b), some (.ref (z + 0)), some (.ref (z + 140)), some (.ref (z + 149)), some (.ref (z + 150)), some (.int (nI i)), none, none, none] [] := by
  obtain ⟨hnx, g, h, L, fo, fd, hT, hTM, hL, h149, h150, hRel⟩ := hJ
  obtain ⟨⟨n, hRS, hI⟩, ⟨ho, hk8, hf5, -⟩, -⟩ := id hRel
  have hn := hI.1.1
  have h7 := hI.1.2.1
  have hgn : h.2 1 0 = nI n := hRS.1.1.trans hn
  have hsd := hI.1.2.2.2.1
  have hgd : h.2 1 2 = nI (pm_n (h.2 1 2)) := by rw [hRS.1.2.2.1]; exact hsd.1
  have hgl : pm_n (h.2 1 2) < 1024 := by rw [hRS.1.2.2.1]; exact hsd.2
  obtain ⟨-, -, hRs, hRt, hRf, hRl, hR9, hR10, hR11, hR1, hR2⟩ := id hRel
  have hC := pm_nas (hl := [("java/util/NoSuchElementException", 1)]) (hn := [(4, 1)]) (f_X12_denialCause (l := l) (D := D) hT hL) hL (pm_a_denialCause hR9 hR11 hR1 hR2 (pm_LD_z hL)) (by decide +kernel)
  refine pm_lw_48 (Bd := Bd) (L := L) (fo := fo) (fd := fd) (N := N) (xs := xs) (dW := 21) (mcW := 2) (msW := 12) (dX := 2) (h2 := (pm_hf h ((d_X13_denialCause h.1).2))) (mv := (d_X13_denialCause h.1).1) rfl (by decide) (by decide) rfl B hXs hbz hiN hN hcu hsu hnx hT h150
    (pm_CwPost (c_L_denialCause (w := 149) (N := 1) (f := fo) (by decide) (by decide) hT.1 hC (fun v n' M1 hp => ⟨pm_clV hp, (hp.1 149 (by decide) (by omega)).trans h149⟩) (fun E n' M1 hp => by
      obtain ⟨e, he, rfl⟩ := pm_clE hp
      simp only [List.mem_cons, List.not_mem_nil, or_false] at he
      rw [he])) (fun o n' M' hp => pm_wrN hTM h149 hnx (by decide +kernel) (by decide +kernel) hp))
    (fun n' M' hT' => ⟨_, c_X13_denialCause hT'.1, (pm_TM_f hT'), fun a ha => by rw [pm_up_n (by omega)]⟩) (fun kc v g2 L2 hR => ?_) next
  obtain ⟨rfl, rfl, e6, hv⟩ := hR
  exact ⟨e6.symm, hv, pm_Rel_le (by omega) (pm_Rel_cg hRel (fun _ _ => rfl) rfl rfl (fun j hj => pm_fr_denialCause (by omega)) (fun _ _ => rfl))⟩
set_option maxHeartbeats 1000000 in
theorem pm_op_2 {l : Launch} {z : Nat} {D : va_G} {kA : Nat → ClassId} {kE : Nat → Nat} {nm : String} {tb : List ExceptionTableEntry} {mc ms : Nat} {X : pm_X} {cu su : Nat} {Q : State → Prop} {nx : Nat} {M : pm_M} {b N i Bd : Nat} {xs : Nat → Int32} (B : pm_B l z D kA kE RL code 9 ret nm tb 2048 mc ms X) (hXs : va_X b N xs X.2.2.2.1 X.2.2.2.1.heap) (hbz : b < z) (hiN : i + 4 ≤ N) (hN : N ≤ 2048) (hcu : cu + 25 ≤ mc) (hsu : su + 78 ≤ ms) (hJ : pm_J z kA kE nx M Bd)
    (next : ∀ nx' M', nx ≤ nx' → pm_J z kA kE nx' M' (Bd + 693 * 11) → pm_G l z D X (cu + 25) (su + 78) Q nx' M' 2623 [some (.ref b), some (.ref (z + 0)), some (.ref (z + 140)), some (.ref (z + 149)), some (.ref (z + 150)), some (.int (nI i)), none, none, none] []) : pm_G l z D X cu su Q nx M 396 [some (.ref b), some (.ref (z + 0)), some (.ref (z + 140)), some (.ref (z + 149)), some (.ref (z + 150)), some (.int (nI i)), none, none, none] [] := by
  obtain ⟨hnx, g, h, L, fo, fd, hT, hTM, hL, h149, h150, hRel⟩ := hJ
  obtain ⟨⟨n, hRS, hI⟩, ⟨ho, hk8, hf5, -⟩, -⟩ := id hRel
  have hn := hI.1.1
  have h7 := hI.1.2.1
  have hgn : h.2 1 0 = nI n := hRS.1.1.trans hn
  have hsd := hI.1.2.2.2.1
  have hgd : h.2 1 2 = nI (pm_n (h.2 1 2)) := by rw [hRS.1.2.2.1]; exact hsd.1
  have hgl : pm_n (h.2 1 2) < 1024 := by rw [hRS.1.2.2.1]; exact hsd.2
  have hC := pm_nas (hl := []) (hn := []) (th := 0) (mv := (d_X13_memberCount h.1 (h.2 1)).1) (f_X12_memberCount (l := l) (D := D) hT hn h7) hL (Or.inl ⟨rfl, rfl, by exact hgn.symm⟩) (fun e he => absurd he List.not_mem_nil)
  refine pm_lw_2 (Bd := Bd) (L := L) (fo := fo) (fd := fd) (N := N) (xs := xs) (dW := 20) (mcW := 2) (msW := 12) (dX := 1) (h2 := (pm_hf h ((d_X13_memberCount h.1 (h.2 1)).2))) (mv := (d_X13_memberCount h.1 (h.2 1)).1) rfl (by decide) (by decide) rfl B hcu hsu hnx hT hTM h149 h150 hC (fun n' M' hT' => ⟨_, c_X13_memberCount hT'.1 hT'.2.1, (pm_TM_f hT'), fun a ha => by rw [pm_up_n (by omega)]⟩) (fun v g2 L2 hR => ?_) next
  obtain ⟨rfl, rfl, e6, hv⟩ := hR
  exact ⟨hv rfl, pm_Rel_le (by omega) (pm_Rel_cg hRel (fun _ _ => rfl) rfl rfl (fun j hj => pk_un (by omega)) (fun _ _ => rfl))⟩
set_option maxHeartbeats 1000000 in
theorem pm_op_34 {l : Launch} {z : Nat} {D : va_G} {kA : Nat → ClassId} {kE : Nat → Nat} {nm : String} {tb : List ExceptionTableEntry} {mc ms : Nat} {X : pm_X} {cu su : Nat} {Q : State → Prop} {nx : Nat} {M : pm_M} {b N i Bd : Nat} {xs : Nat → Int32} (B : pm_B l z D kA kE RL code 9 ret nm tb 2048 mc ms X) (hXs : va_X b N xs X.2.2.2.1 X.2.2.2.1.heap) (hbz : b < z) (hiN : i + 4 ≤ N) (hN : N ≤ 2048) (hcu : cu + 25 ≤ mc) (hsu : su + 78 ≤ ms) (hJ : pm_J z kA kE nx M Bd)
    (next : ∀ nx' M', nx ≤ nx' → pm_J z kA kE nx' M' (Bd + 693 * 11) → pm_G l z D X (cu + 25) (su + 78) Q nx' M' 2623 [some (.ref b), some (.ref (z + 0)), some (.ref (z + 140)), some (.ref (z + 149)), some (.ref (z + 150)), some (.int (nI i)), none, none, none] []) : pm_G l z D X cu su Q nx M 1923 [some (.ref b), some (.ref (z + 0)), some (.ref (z + 140)), some (.ref (z + 149)), some (.ref (z + 150)), some (.int (nI i)), none, none, none] [] := by
  obtain ⟨hnx, g, h, L, fo, fd, hT, hTM, hL, h149, h150, hRel⟩ := hJ
  obtain ⟨⟨n, hRS, hI⟩, ⟨ho, hk8, hf5, -⟩, -⟩ := id hRel
  have hn := hI.1.1
  have h7 := hI.1.2.1
  have hgn : h.2 1 0 = nI n := hRS.1.1.trans hn
  have hsd := hI.1.2.2.2.1
  have hgd : h.2 1 2 = nI (pm_n (h.2 1 2)) := by rw [hRS.1.2.2.1]; exact hsd.1
  have hgl : pm_n (h.2 1 2) < 1024 := by rw [hRS.1.2.2.1]; exact hsd.2
  have hC := pm_nas (hl := []) (hn := []) (th := 0) (mv := (d_X13_month h.1 (h.2 1)).1) (f_X12_month (l := l) (D := D) hT hn h7) hL (Or.inl ⟨rfl, rfl, by exact hRS.1.2.2.2.2.1.symm⟩) (fun e he => absurd he List.not_mem_nil)
  refine pm_lw_34 (Bd := Bd) (L := L) (fo := fo) (fd := fd) (N := N) (xs := xs) (dW := 20) (mcW := 2) (msW := 12) (dX := 2) (h2 := (pm_hf h ((d_X13_month h.1 (h.2 1)).2))) (mv := (d_X13_month h.1 (h.2 1)).1) rfl (by decide) (by decide) rfl B hcu hsu hnx hT hTM h149 h150 hC (fun n' M' hT' => ⟨_, c_X13_month hT'.1 hT'.2.1, (pm_TM_f hT'), fun a ha => by rw [pm_up_n (by omega)]⟩) (fun v g2 L2 hR => ?_) next
  obtain ⟨rfl, rfl, e6, hv⟩ := hR
  exact ⟨hv rfl, pm_Rel_le (by omega) (pm_Rel_cg hRel (fun _ _ => rfl) rfl rfl (fun j hj => pk_un (by omega)) (fun _ _ => rfl))⟩
set_option maxHeartbeats 1000000 in
theorem pm_op_35 {l : Launch} {z : Nat} {D : va_G} {kA : Nat → ClassId} {kE : Nat → Nat} {nm : String} {tb : List ExceptionTableEntry} {mc ms : Nat} {X : pm_X} {cu su : Nat} {Q : State → Prop} {nx : Nat} {M : pm_M} {b N i Bd : Nat} {xs : Nat → Int32} (B : pm_B l z D kA kE RL code 9 ret nm tb 2048 mc ms X) (hXs : va_X b N xs X.2.2.2.1 X.2.2.2.1.heap) (hbz : b < z) (hiN : i + 4 ≤ N) (hN : N ≤ 2048) (hcu : cu + 25 ≤ mc) (hsu : su + 78 ≤ ms) (hJ : pm_J z kA kE nx M Bd)
    (next : ∀ nx' M', nx ≤ nx' → pm_J z kA kE nx' M' (Bd + 693 * 11) → pm_G l z D X (cu + 25) (su + 78) Q nx' M' 2623 [some (.ref b), some (.ref (z + 0)), some (.ref (z + 140)), some (.ref (z + 149)), some (.ref (z + 150)), some (.int (nI i)), none, none, none] []) : pm_G l z D X cu su Q nx M 1936 [some (.ref b), some (.ref (z + 0)), some (.ref (z + 140)), some (.ref (z + 149)), some (.ref (z + 150)), some (.int (nI i)), none, none, none] [] := by
  obtain ⟨hnx, g, h, L, fo, fd, hT, hTM, hL, h149, h150, hRel⟩ := hJ
  obtain ⟨⟨n, hRS, hI⟩, ⟨ho, hk8, hf5, -⟩, -⟩ := id hRel
  have hn := hI.1.1
  have h7 := hI.1.2.1
  have hgn : h.2 1 0 = nI n := hRS.1.1.trans hn
  have hsd := hI.1.2.2.2.1
  have hgd : h.2 1 2 = nI (pm_n (h.2 1 2)) := by rw [hRS.1.2.2.1]; exact hsd.1
  have hgl : pm_n (h.2 1 2) < 1024 := by rw [hRS.1.2.2.1]; exact hsd.2
  have hC := pm_nas (hl := []) (hn := []) (th := 0) (mv := (d_X13_soldTotal h.1 (h.2 1)).1) (f_X12_soldTotal (l := l) (D := D) hT hn h7) hL (Or.inl ⟨rfl, rfl, by exact hRS.1.2.2.2.2.2.1.symm⟩) (fun e he => absurd he List.not_mem_nil)
  refine pm_lw_35 (Bd := Bd) (L := L) (fo := fo) (fd := fd) (N := N) (xs := xs) (dW := 20) (mcW := 2) (msW := 12) (dX := 2) (h2 := (pm_hf h ((d_X13_soldTotal h.1 (h.2 1)).2))) (mv := (d_X13_soldTotal h.1 (h.2 1)).1) rfl (by decide) (by decide) rfl B hcu hsu hnx hT hTM h149 h150 hC (fun n' M' hT' => ⟨_, c_X13_soldTotal hT'.1 hT'.2.1, (pm_TM_f hT'), fun a ha => by rw [pm_up_n (by omega)]⟩) (fun v g2 L2 hR => ?_) next
  obtain ⟨rfl, rfl, e6, hv⟩ := hR
  exact ⟨hv rfl, pm_Rel_le (by omega) (pm_Rel_cg hRel (fun _ _ => rfl) rfl rfl (fun j hj => pk_un (by omega)) (fun _ _ => rfl))⟩
set_option maxHeartbeats 1000000 in
theorem pm_op_36 {l : Launch} {z : Nat} {D : va_G} {kA : Nat → ClassId} {kE : Nat → Nat} {nm : String} {tb : List ExceptionTableEntry} {mc ms : Nat} {X : pm_X} {cu su : Nat} {Q : State → Prop} {nx : Nat} {M : pm_M} {b N i Bd : Nat} {xs : Nat → Int32} (B : pm_B l z D kA kE RL code 9 ret nm tb 2048 mc ms X) (hXs : va_X b N xs X.2.2.2.1 X.2.2.2.1.heap) (hbz : b < z) (hiN : i + 4 ≤ N) (hN : N ≤ 2048) (hcu : cu + 25 ≤ mc) (hsu : su + 78 ≤ ms) (hJ : pm_J z kA kE nx M Bd)
    (next : ∀ nx' M', nx ≤ nx' → pm_J z kA kE nx' M' (Bd + 693 * 11) → pm_G l z D X (cu + 25) (su + 78) Q nx' M' 2623 [some (.ref b), some (.ref (z + 0)), some (.ref (z + 140)), some (.ref (z + 149)), some (.ref (z + 150)), some (.int (nI i)), none, none, none] []) : pm_G l z D X cu su Q nx M 1949 [some (.ref b), some (.ref (z + 0)), some (.ref (z + 140)), some (.ref (z + 149)), some (.ref (z + 150)), some (.int (nI i)), none, none, none] [] := by
  obtain ⟨hnx, g, h, L, fo, fd, hT, hTM, hL, h149, h150, hRel⟩ := hJ
  obtain ⟨⟨n, hRS, hI⟩, ⟨ho, hk8, hf5, -⟩, -⟩ := id hRel
  have hn := hI.1.1
  have h7 := hI.1.2.1
  have hgn : h.2 1 0 = nI n := hRS.1.1.trans hn
  have hsd := hI.1.2.2.2.1
  have hgd : h.2 1 2 = nI (pm_n (h.2 1 2)) := by rw [hRS.1.2.2.1]; exact hsd.1
  have hgl : pm_n (h.2 1 2) < 1024 := by rw [hRS.1.2.2.1]; exact hsd.2
  have hC := pm_nas (hl := []) (hn := []) (th := 0) (mv := (d_X13_withinTotal h.1 (h.2 1)).1) (f_X12_withinTotal (l := l) (D := D) hT hn h7) hL (Or.inl ⟨rfl, rfl, by show g.1 0 5 = h.2 1 5 - h.2 1 6; rw [hRS.1.2.2.2.2.2.1, hRS.1.2.2.2.2.2.2, Int32.add_sub_cancel]⟩) (fun e he => absurd he List.not_mem_nil)
  refine pm_lw_36 (Bd := Bd) (L := L) (fo := fo) (fd := fd) (N := N) (xs := xs) (dW := 20) (mcW := 2) (msW := 12) (dX := 2) (h2 := (pm_hf h ((d_X13_withinTotal h.1 (h.2 1)).2))) (mv := (d_X13_withinTotal h.1 (h.2 1)).1) rfl (by decide) (by decide) rfl B hcu hsu hnx hT hTM h149 h150 hC (fun n' M' hT' => ⟨_, c_X13_withinTotal hT'.1 hT'.2.1, (pm_TM_f hT'), fun a ha => by rw [pm_up_n (by omega)]⟩) (fun v g2 L2 hR => ?_) next
  obtain ⟨rfl, rfl, e6, hv⟩ := hR
  exact ⟨hv rfl, pm_Rel_le (by omega) (pm_Rel_cg hRel (fun _ _ => rfl) rfl rfl (fun j hj => pk_un (by omega)) (fun _ _ => rfl))⟩
set_option maxHeartbeats 1000000 in
theorem pm_op_37 {l : Launch} {z : Nat} {D : va_G} {kA : Nat → ClassId} {kE : Nat → Nat} {nm : String} {tb : List ExceptionTableEntry} {mc ms : Nat} {X : pm_X} {cu su : Nat} {Q : State → Prop} {nx : Nat} {M : pm_M} {b N i Bd : Nat} {xs : Nat → Int32} (B : pm_B l z D kA kE RL code 9 ret nm tb 2048 mc ms X) (hXs : va_X b N xs X.2.2.2.1 X.2.2.2.1.heap) (hbz : b < z) (hiN : i + 4 ≤ N) (hN : N ≤ 2048) (hcu : cu + 25 ≤ mc) (hsu : su + 78 ≤ ms) (hJ : pm_J z kA kE nx M Bd)
    (next : ∀ nx' M', nx ≤ nx' → pm_J z kA kE nx' M' (Bd + 693 * 11) → pm_G l z D X (cu + 25) (su + 78) Q nx' M' 2623 [some (.ref b), some (.ref (z + 0)), some (.ref (z + 140)), some (.ref (z + 149)), some (.ref (z + 150)), some (.int (nI i)), none, none, none] []) : pm_G l z D X cu su Q nx M 1962 [some (.ref b), some (.ref (z + 0)), some (.ref (z + 140)), some (.ref (z + 149)), some (.ref (z + 150)), some (.int (nI i)), none, none, none] [] := by
  obtain ⟨hnx, g, h, L, fo, fd, hT, hTM, hL, h149, h150, hRel⟩ := hJ
  obtain ⟨⟨n, hRS, hI⟩, ⟨ho, hk8, hf5, -⟩, -⟩ := id hRel
  have hn := hI.1.1
  have h7 := hI.1.2.1
  have hgn : h.2 1 0 = nI n := hRS.1.1.trans hn
  have hsd := hI.1.2.2.2.1
  have hgd : h.2 1 2 = nI (pm_n (h.2 1 2)) := by rw [hRS.1.2.2.1]; exact hsd.1
  have hgl : pm_n (h.2 1 2) < 1024 := by rw [hRS.1.2.2.1]; exact hsd.2
  have hC := pm_nas (hl := []) (hn := []) (th := 0) (mv := (d_X13_finedTotal h.1 (h.2 1)).1) (f_X12_finedTotal (l := l) (D := D) hT hn h7) hL (Or.inl ⟨rfl, rfl, by exact hRS.1.2.2.2.2.2.2.symm⟩) (fun e he => absurd he List.not_mem_nil)
  refine pm_lw_37 (Bd := Bd) (L := L) (fo := fo) (fd := fd) (N := N) (xs := xs) (dW := 20) (mcW := 2) (msW := 12) (dX := 2) (h2 := (pm_hf h ((d_X13_finedTotal h.1 (h.2 1)).2))) (mv := (d_X13_finedTotal h.1 (h.2 1)).1) rfl (by decide) (by decide) rfl B hcu hsu hnx hT hTM h149 h150 hC (fun n' M' hT' => ⟨_, c_X13_finedTotal hT'.1 hT'.2.1, (pm_TM_f hT'), fun a ha => by rw [pm_up_n (by omega)]⟩) (fun v g2 L2 hR => ?_) next
  obtain ⟨rfl, rfl, e6, hv⟩ := hR
  exact ⟨hv rfl, pm_Rel_le (by omega) (pm_Rel_cg hRel (fun _ _ => rfl) rfl rfl (fun j hj => pk_un (by omega)) (fun _ _ => rfl))⟩
set_option maxHeartbeats 1000000 in
theorem pm_op_38 {l : Launch} {z : Nat} {D : va_G} {kA : Nat → ClassId} {kE : Nat → Nat} {nm : String} {tb : List ExceptionTableEntry} {mc ms : Nat} {X : pm_X} {cu su : Nat} {Q : State → Prop} {nx : Nat} {M : pm_M} {b N i Bd : Nat} {xs : Nat → Int32} (B : pm_B l z D kA kE RL code 9 ret nm tb 2048 mc ms X) (hXs : va_X b N xs X.2.2.2.1 X.2.2.2.1.heap) (hbz : b < z) (hiN : i + 4 ≤ N) (hN : N ≤ 2048) (hcu : cu + 25 ≤ mc) (hsu : su + 78 ≤ ms) (hJ : pm_J z kA kE nx M Bd)
    (next : ∀ nx' M', nx ≤ nx' → pm_J z kA kE nx' M' (Bd + 693 * 11) → pm_G l z D X (cu + 25) (su + 78) Q nx' M' 2623 [some (.ref b), some (.ref (z + 0)), some (.ref (z + 140)), some (.ref (z + 149)), some (.ref (z + 150)), some (.int (nI i)), none, none, none] []) : pm_G l z D X cu su Q nx M 1975 [some (.ref b), some (.ref (z + 0)), some (.ref (z + 140)), some (.ref (z + 149)), some (.ref (z + 150)), some (.int (nI i)), none, none, none] [] := by
  obtain ⟨hnx, g, h, L, fo, fd, hT, hTM, hL, h149, h150, hRel⟩ := hJ
  obtain ⟨⟨n, hRS, hI⟩, ⟨ho, hk8, hf5, -⟩, -⟩ := id hRel
  have hn := hI.1.1
  have h7 := hI.1.2.1
  have hgn : h.2 1 0 = nI n := hRS.1.1.trans hn
  have hsd := hI.1.2.2.2.1
  have hgd : h.2 1 2 = nI (pm_n (h.2 1 2)) := by rw [hRS.1.2.2.1]; exact hsd.1
  have hgl : pm_n (h.2 1 2) < 1024 := by rw [hRS.1.2.2.1]; exact hsd.2
  have hC := pm_nas (hl := []) (hn := []) (th := 0) (mv := (d_X13_fines h.1 (h.2 1)).1) (f_X12_fines (l := l) (D := D) hT hn h7) hL (Or.inl ⟨rfl, rfl, by show g.1 0 6 * 3 = 3 * h.2 1 6; rw [hRS.1.2.2.2.2.2.2, Int32.mul_comm]⟩) (fun e he => absurd he List.not_mem_nil)
  refine pm_lw_38 (Bd := Bd) (L := L) (fo := fo) (fd := fd) (N := N) (xs := xs) (dW := 20) (mcW := 2) (msW := 12) (dX := 2) (h2 := (pm_hf h ((d_X13_fines h.1 (h.2 1)).2))) (mv := (d_X13_fines h.1 (h.2 1)).1) rfl (by decide) (by decide) rfl B hcu hsu hnx hT hTM h149 h150 hC (fun n' M' hT' => ⟨_, c_X13_fines hT'.1 hT'.2.1, (pm_TM_f hT'), fun a ha => by rw [pm_up_n (by omega)]⟩) (fun v g2 L2 hR => ?_) next
  obtain ⟨rfl, rfl, e6, hv⟩ := hR
  exact ⟨hv rfl, pm_Rel_le (by omega) (pm_Rel_cg hRel (fun _ _ => rfl) rfl rfl (fun j hj => pk_un (by omega)) (fun _ _ => rfl))⟩
set_option maxHeartbeats 1000000 in
theorem pm_op_22 {l : Launch} {z : Nat} {D : va_G} {kA : Nat → ClassId} {kE : Nat → Nat} {nm : String} {tb : List ExceptionTableEntry} {mc ms : Nat} {X : pm_X} {cu su : Nat} {Q : State → Prop} {nx : Nat} {M : pm_M} {b N i Bd : Nat} {xs : Nat → Int32} (B : pm_B l z D kA kE RL code 9 ret nm tb 2048 mc ms X) (hXs : va_X b N xs X.2.2.2.1 X.2.2.2.1.heap) (hbz : b < z) (hiN : i + 4 ≤ N) (hN : N ≤ 2048) (hcu : cu + 25 ≤ mc) (hsu : su + 78 ≤ ms) (hJ : pm_J z kA kE nx M Bd)
    (next : ∀ nx' M', nx ≤ nx' → pm_J z kA kE nx' M' (Bd + 693 * 11) → pm_G l z D X (cu + 25) (su + 78) Q nx' M' 2623 [some (.ref b), some (.ref (z + 0)), some (.ref (z + 140)), some (.ref (z + 149)), some (.ref (z + 150)), some (.int (nI i)), none, none, none] []) : pm_G l z D X cu su Q nx M 1490 [some (.ref b), some (.ref (z + 0)), some (.ref (z + 140)), some (.ref (z + 149)), some (.ref (z + 150)), some (.int (nI i)), none, none, none] [] := by
  obtain ⟨hnx, g, h, L, fo, fd, hT, hTM, hL, h149, h150, hRel⟩ := hJ
  obtain ⟨⟨n, hRS, hI⟩, ⟨ho, hk8, hf5, -⟩, -⟩ := id hRel
  have hn := hI.1.1
  have h7 := hI.1.2.1
  have hgn : h.2 1 0 = nI n := hRS.1.1.trans hn
  have hsd := hI.1.2.2.2.1
  have hgd : h.2 1 2 = nI (pm_n (h.2 1 2)) := by rw [hRS.1.2.2.1]; exact hsd.1
  have hgl : pm_n (h.2 1 2) < 1024 := by rw [hRS.1.2.2.1]; exact hsd.2
  have hC := pm_nas (hl := []) (hn := []) (th := 0) (mv := (d_X13_linkCount h.1 (h.2 1)).1) (f_X12_linkCount (l := l) (D := D) hT hn h7) hL (Or.inl ⟨rfl, rfl, by exact (pm_lkN (f := upd h.1 6 0) hI.2.2.1 hRS.2.2).symm⟩) (fun e he => absurd he List.not_mem_nil)
  refine pm_lw_22 (Bd := Bd) (L := L) (fo := fo) (fd := fd) (N := N) (xs := xs) (dW := 20) (mcW := 2) (msW := 12) (dX := 1) (h2 := (pm_hf h ((d_X13_linkCount h.1 (h.2 1)).2))) (mv := (d_X13_linkCount h.1 (h.2 1)).1) rfl (by decide) (by decide) rfl B hcu hsu hnx hT hTM h149 h150 hC (fun n' M' hT' => ⟨_, c_X13_linkCount hT'.1 hT'.2.1, (pm_TM_f hT'), fun a ha => by rw [pm_up_n (by omega)]⟩) (fun v g2 L2 hR => ?_) next
  obtain ⟨rfl, rfl, e6, hv⟩ := hR
  exact ⟨hv rfl, pm_Rel_le (by omega) (pm_Rel_cg hRel (fun _ _ => rfl) rfl rfl (fun j hj => pk_un (by omega)) (fun _ _ => rfl))⟩
set_option maxHeartbeats 1000000 in
theorem pm_op_50 {l : Launch} {z : Nat} {D : va_G} {kA : Nat → ClassId} {kE : Nat → Nat} {nm : String} {tb : List ExceptionTableEntry} {mc ms : Nat} {X : pm_X} {cu su : Nat} {Q : State → Prop} {nx : Nat} {M : pm_M} {b N i Bd : Nat} {xs : Nat → Int32} (B : pm_B l z D kA kE RL code 9 ret nm tb 2048 mc ms X) (hXs : va_X b N xs X.2.2.2.1 X.2.2.2.1.heap) (hbz : b < z) (hiN : i + 4 ≤ N) (hN : N ≤ 2048) (hcu : cu + 25 ≤ mc) (hsu : su + 78 ≤ ms) (hJ : pm_J z kA kE nx M Bd)
    (next : ∀ nx' M', nx ≤ nx' → pm_J z kA kE nx' M' (Bd + 693 * 11) → pm_G l z D X (cu + 25) (su + 78) Q nx' M' 2623 [some (.ref b), some (.ref (z + 0)), some (.ref (z + 140)), some (.ref (z + 149)), some (.ref (z + 150)), some (.int (nI i)), none, none, none] []) : pm_G l z D X cu su Q nx M 2553 [some (.ref b), some (.ref (z + 0)), some (.ref (z + 140)), some (.ref (z + 149)), some (.ref (z + 150)), some (.int (nI i)), none, none, none] [] := by
  obtain ⟨hnx, g, h, L, fo, fd, hT, hTM, hL, h149, h150, hRel⟩ := hJ
  obtain ⟨⟨n, hRS, hI⟩, ⟨ho, hk8, hf5, -⟩, -⟩ := id hRel
  have hn := hI.1.1
  have h7 := hI.1.2.1
  have hgn : h.2 1 0 = nI n := hRS.1.1.trans hn
  have hsd := hI.1.2.2.2.1
  have hgd : h.2 1 2 = nI (pm_n (h.2 1 2)) := by rw [hRS.1.2.2.1]; exact hsd.1
  have hgl : pm_n (h.2 1 2) < 1024 := by rw [hRS.1.2.2.1]; exact hsd.2
  have hC := pm_nas (hl := []) (hn := []) (th := 0) (mv := (d_X13_undoCount h.1).1) (f_X12_undoCount (l := l) (D := D) hT) hL (Or.inl ⟨rfl, rfl, by exact hf5.symm⟩) (fun e he => absurd he List.not_mem_nil)
  refine pm_lw_50 (Bd := Bd) (L := L) (fo := fo) (fd := fd) (N := N) (xs := xs) (dW := 20) (mcW := 2) (msW := 12) (dX := 1) (h2 := (pm_hf h ((d_X13_undoCount h.1).2))) (mv := (d_X13_undoCount h.1).1) rfl (by decide) (by decide) rfl B hcu hsu hnx hT hTM h149 h150 hC (fun n' M' hT' => ⟨_, c_X13_undoCount hT'.1, (pm_TM_f hT'), fun a ha => by rw [pm_up_n (by omega)]⟩) (fun v g2 L2 hR => ?_) next
  obtain ⟨rfl, rfl, e6, hv⟩ := hR
  exact ⟨hv rfl, pm_Rel_le (by omega) (pm_Rel_cg hRel (fun _ _ => rfl) rfl rfl (fun j hj => pk_un (by omega)) (fun _ _ => rfl))⟩
