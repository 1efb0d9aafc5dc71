/-! shares: closed -/
set_option maxHeartbeats 1000000 in
theorem pm_op_32 {l : Launch} {z : Nat} {D : va_G} {kA : Nat → ClassId} {kE : Nat → Nat} {nm : String} {tb : List ExceptionTableEntry} {mc ms : Nat} {X : pm_X} {cu su : Nat} {Q : State → Prop} {nx : Nat} {M : pm_M} {b N i Bd : Nat} {xs : Nat → Int32} (B : pm_B l z D kA kE RL code 9 ret nm tb 2048 mc ms X) (hXs : va_X b N xs X.2.2.2.1 X.2.2.2.1.heap) (hbz : b < z) (hiN : i + 4 ≤ N) (hN : N ≤ 2048) (hcu : cu + 25 ≤ mc) (hsu : su + 78 ≤ ms) (hJ : pm_J z kA kE nx M Bd)
    (next : ∀ nx' M', nx ≤ nx' → pm_J z kA kE nx' M' (Bd + 693 * 11) → pm_G l z D X (cu + 25) (su + 78) Q nx' M' 2623 [some (.ref b), some (.ref (z + 0)), some (.ref (z + 140)), some (.ref (z + 149)), some (.ref (z + 150)), some (.int (nI i)), none, none, none] []) : pm_G l z D X cu su Q nx M 1811 [some (.ref b), some (.ref (z + 0)), some (.ref (z + 140)), some (.ref (z + 149)), some (.ref (z + 150)), some (.int (nI i)), none, none, none] [] := by
  obtain ⟨hnx, g, h, L, fo, fd, hT, hTM, hL, h149, h150, hRel⟩ := hJ
  obtain ⟨⟨n, hRS, hI⟩, ⟨ho, hk8, hf5, -⟩, -⟩ := id hRel
  have hn := hI.1.1
  have h7 := hI.1.2.1
  have hgn : h.2 1 0 = nI n := hRS.1.1.trans hn
  have hsd := hI.1.2.2.2.1
  have hgd : h.2 1 2 = nI (pm_n (h.2 1 2)) := by rw [hRS.1.2.2.1]; exact hsd.1
  have hgl : pm_n (h.2 1 2) < 1024 := by rw [hRS.1.2.2.1]; exact hsd.2
  obtain ⟨-, -, hRs, hRt, hRf, hRl, hR9, hR10, hR11, hR1, hR2⟩ := id hRel
  have hC := pm_nas (hl := [("java/lang/IndexOutOfBoundsException", 1)]) (hn := [(1, 1)]) (f_X12_share (l := l) (D := D) (x := xs (i + 1)) hT hn h7) hL (pm_a_share (f := h.1) hRS hI.2.1 h7) (by decide +kernel)
  refine pm_lw_32 (Bd := Bd) (L := L) (fo := fo) (fd := fd) (N := N) (xs := xs) (dW := 21) (mcW := 2) (msW := 12) (dX := 3) (h2 := (pm_hf h ((d_X13_share (xs (i + 1)) n h.1 (h.2 1)).2))) (mv := (d_X13_share (xs (i + 1)) n h.1 (h.2 1)).1) rfl (by decide) (by decide) rfl B hXs hbz hiN hN hcu hsu hnx hT h150
    (pm_CwPost (c_L_share (w := 149) (N := 1) (f := fo) (by decide) (by decide) hT.1 hC (fun v n' M1 hp => ⟨pm_clV hp, (hp.1 149 (by decide) (by omega)).trans h149⟩) (fun E n' M1 hp => by
      obtain ⟨e, he, rfl⟩ := pm_clE hp
      simp only [List.mem_cons, List.not_mem_nil, or_false] at he
      rw [he])) (fun o n' M' hp => pm_wrN hTM h149 hnx (by decide +kernel) (by decide +kernel) hp))
    (fun n' M' hT' => ⟨_, c_X13_share hT'.1 hT'.2.1 hgn h7 (pm_mv1k hRS hI.2.1), (pm_TM_f hT'), fun a ha => by rw [pm_up_n (by omega)]⟩) (fun kc v g2 L2 hR => ?_) next
  obtain ⟨rfl, rfl, e6, hv⟩ := hR
  exact ⟨e6.symm, hv, pm_Rel_le (by omega) (pm_Rel_cg hRel (fun j hj => by rcases hj with rfl | rfl | rfl | rfl | rfl | rfl <;> rfl) rfl rfl (fun j hj => pm_fr_share (by omega)) (fun j hj => by rcases hj with rfl | rfl | rfl | rfl | rfl <;> rfl))⟩
set_option maxHeartbeats 1000000 in
theorem pm_op_33 {l : Launch} {z : Nat} {D : va_G} {kA : Nat → ClassId} {kE : Nat → Nat} {nm : String} {tb : List ExceptionTableEntry} {mc ms : Nat} {X : pm_X} {cu su : Nat} {Q : State → Prop} {nx : Nat} {M : pm_M} {b N i Bd : Nat} {xs : Nat → Int32} (B : pm_B l z D kA kE RL code 9 ret nm tb 2048 mc ms X) (hXs : va_X b N xs X.2.2.2.1 X.2.2.2.1.heap) (hbz : b < z) (hiN : i + 4 ≤ N) (hN : N ≤ 2048) (hcu : cu + 25 ≤ mc) (hsu : su + 78 ≤ ms) (hJ : pm_J z kA kE nx M Bd)
    (next : ∀ nx' M', nx ≤ nx' → pm_J z kA kE nx' M' (Bd + 693 * 11) → pm_G l z D X (cu + 25) (su + 78) Q nx' M' 2623 [some (.ref b), some (.ref (z + 0)), some (.ref (z + 140)), some (.ref (z + 149)), some (.ref (z + 150)), some (.int (nI i)), none, none, none] []) : pm_G l z D X cu su Q nx M 1867 [some (.ref b), some (.ref (z + 0)), some (.ref (z + 140)), some (.ref (z + 149)), some (.ref (z + 150)), some (.int (nI i)), none, none, none] [] := by
  obtain ⟨hnx, g, h, L, fo, fd, hT, hTM, hL, h149, h150, hRel⟩ := hJ
  obtain ⟨⟨n, hRS, hI⟩, ⟨ho, hk8, hf5, -⟩, -⟩ := id hRel
  have hn := hI.1.1
  have h7 := hI.1.2.1
  have hgn : h.2 1 0 = nI n := hRS.1.1.trans hn
  have hsd := hI.1.2.2.2.1
  have hgd : h.2 1 2 = nI (pm_n (h.2 1 2)) := by rw [hRS.1.2.2.1]; exact hsd.1
  have hgl : pm_n (h.2 1 2) < 1024 := by rw [hRS.1.2.2.1]; exact hsd.2
  obtain ⟨-, -, hRs, hRt, hRf, hRl, hR9, hR10, hR11, hR1, hR2⟩ := id hRel
  have hC := pm_nas (hl := [("java/lang/IndexOutOfBoundsException", 1)]) (hn := [(1, 1)]) (f_X12_shareBySteps (l := l) (D := D) (x := xs (i + 1)) hT hn h7) hL (pm_a_shareBS (f := h.1) hRS hI.2.1 h7) (by decide +kernel)
  refine pm_lw_33 (Bd := Bd) (L := L) (fo := fo) (fd := fd) (N := N) (xs := xs) (dW := 21) (mcW := 2) (msW := 12) (dX := 4) (h2 := (pm_hf h ((d_X13_shareBySteps (xs (i + 1)) n h.1 (h.2 1)).2))) (mv := (d_X13_shareBySteps (xs (i + 1)) n h.1 (h.2 1)).1) rfl (by decide) (by decide) rfl B hXs hbz hiN hN hcu hsu hnx hT h150
    (pm_CwPost (c_L_shareBySteps (w := 149) (N := 1) (f := fo) (by decide) (by decide) hT.1 hC (fun v n' M1 hp => ⟨pm_clV hp, (hp.1 149 (by decide) (by omega)).trans h149⟩) (fun E n' M1 hp => by
      obtain ⟨e, he, rfl⟩ := pm_clE hp
      simp only [List.mem_cons, List.not_mem_nil, or_false] at he
      rw [he])) (fun o n' M' hp => pm_wrN hTM h149 hnx (by decide +kernel) (by decide +kernel) hp))
    (fun n' M' hT' => ⟨_, c_X13_shareBySteps hT'.1 hT'.2.1 hgn h7 (pm_mv1k hRS hI.2.1), (pm_TM_f hT'), fun a ha => by rw [pm_up_n (by omega)]⟩) (fun kc v g2 L2 hR => ?_) next
  obtain ⟨rfl, rfl, e6, hv⟩ := hR
  exact ⟨e6.symm, hv, pm_Rel_le (by omega) (pm_Rel_cg hRel (fun j hj => by rcases hj with rfl | rfl | rfl | rfl | rfl | rfl <;> rfl) rfl rfl (fun j hj => pm_fr_shareBS (by omega)) (fun j hj => by rcases hj with rfl | rfl | rfl | rfl | rfl <;> rfl))⟩
