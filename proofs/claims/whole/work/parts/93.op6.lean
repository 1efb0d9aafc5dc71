/-! the law's cases, closed: more askers -/
theorem pm_wrbN {z : Nat} {kA : Nat → ClassId} {kE : Nat → Nat} {nx n' : Nat} {M M' : pm_M} {h : pm_Ms} {hl : List (String × Int32)} {R : Int32 → Int32 → pm_Cs → Int32 × Int32 × Int32 → Prop} {fo : Nat → Int64} {o : pm_O} (hTM : pm_TM z kA M h) (h149 : M 149 = some (.inl (kA 1, 1, .inr (.inl fo)))) (hnx : 151 ≤ nx) (hd : ∀ e ∈ hl, ∀ e' ∈ hl, e.1 = e'.1 → e.2 = e'.2) (hz : ∀ e ∈ hl, ¬ e.2 = 0) (hp : pm_wrb kA 149 1 fo (pm_cl2 z kA kE nx M hl R) hl o n' M') : pm_oA z kA kE nx M h (fun fo' v => fo' 0 = if v = 0 then 0 else 1) R o n' M' := by
  rcases hp with ⟨v, M1, ⟨hF, hn, g', L', hT, hL, h3⟩, rfl, rfl⟩ | ⟨e, he, ⟨hF, hn, g', L', hT, hL, h3⟩, rfl⟩
  · rcases h3 with ⟨v2, hv, hR⟩ | ⟨e, _, hv, _⟩
    · cases hv
      exact ⟨0, v, g', L', _, rfl, hn, pm_TC_keep hT (fun x hx => pm_up_n (by omega)), pm_LD_keep hL (Nat.le_refl _) (fun a ha _ => pm_up_n (by omega)), pm_TM_keep hTM (fun x h1 h2 => (pm_up_n (by omega)).trans (hF x h1 (by omega))), pm_up_s, (pm_up_n (by decide)).trans (hF _ (by decide) (by omega)), fun _ => pk_uLs, hR⟩
    · cases hv
  · rcases h3 with ⟨v2, hv, hR⟩ | ⟨e2, he2, hv, hR⟩
    · cases hv
    · have e1 := hd e he e2 he2 (Sum.inr.inj hv)
      exact ⟨e.2, 0, g', L', fo, rfl, hn, hT, hL, pm_TM_keep hTM (fun x h1 h2 => hF x h1 (by omega)), (hF _ (by decide) (by omega)).trans h149, hF _ (by decide) (by omega), fun e0 => absurd e0 (hz e he), e1 ▸ hR⟩
set_option maxHeartbeats 1000000 in
theorem pm_op_23 {l : Launch} {z : Nat} {D : va_G} {kA : Nat → ClassId} {kE : Nat → Nat} {nm : String} {tb : List ExceptionTableEntry} {mc ms : Nat} {X : pm_X} {cu su : Nat} {Q : State → Prop} {nx : Nat} {M : pm_M} {b N i Bd : Nat} {xs : Nat → Int32} (B : pm_B l z D kA kE RL code 9 ret nm tb 2048 mc ms X) (hXs : va_X b N xs X.2.2.2.1 X.2.2.2.1.heap) (hbz : b < z) (hiN : i + 4 ≤ N) (hN : N ≤ 2048) (hcu : cu + 25 ≤ mc) (hsu : su + 78 ≤ ms) (hJ : pm_J z kA kE nx M Bd)
    (next : ∀ nx' M', nx ≤ nx' → pm_J z kA kE nx' M' (Bd + 693 * 11) → pm_G l z D X (cu + 25) (su + 78) Q nx' M' 2623 [some (.ref b), some (.ref (z + 0)), some (.ref (z + 140)), some (.ref (z + 149)), some (.ref (z + 150)), some (.int (nI i)), none, none, none] []) : pm_G l z D X cu su Q nx M 1503 [some (.ref b), some (.ref (z + 0)), some (.ref (z + 140)), some (.ref (z + 149)), some (.ref (z + 150)), some (.int (nI i)), none, none, none] [] := by
  obtain ⟨hnx, g, h, L, fo, fd, hT, hTM, hL, h149, h150, hRel⟩ := hJ
  obtain ⟨⟨n, hRS, hI⟩, ⟨ho, hk8, hf5, -⟩, -⟩ := id hRel
  have hn := hI.1.1
  have h7 := hI.1.2.1
  have hgn : h.2 1 0 = nI n := hRS.1.1.trans hn
  have hsd := hI.1.2.2.2.1
  have hgd : h.2 1 2 = nI (pm_n (h.2 1 2)) := by rw [hRS.1.2.2.1]; exact hsd.1
  have hgl : pm_n (h.2 1 2) < 1024 := by rw [hRS.1.2.2.1]; exact hsd.2
  obtain ⟨-, -, hRs, hRt, hRf, hRl, hR9, hR10, hR11, hR1, hR2⟩ := id hRel
  have hC := pm_nas (hl := [("java/lang/IndexOutOfBoundsException", 1)]) (hn := [(1, 1)]) (f_X12_areLinked (l := l) (D := D) (x := xs (i + 1)) (y := xs (i + 2)) hT hn h7) hL (pm_a_areLinked (f := h.1) hRS hI.2.2 h7) (by decide +kernel)
  refine pm_lw_23 (Bd := Bd) (L := L) (fo := fo) (fd := fd) (N := N) (xs := xs) (dW := 21) (mcW := 2) (msW := 12) (dX := 2) (h2 := (pm_hf h ((d_X13_areLinked (xs (i + 1)) (xs (i + 2)) n h.1 (h.2 1)).2))) (mv := (d_X13_areLinked (xs (i + 1)) (xs (i + 2)) n h.1 (h.2 1)).1) rfl (by decide) (by decide) rfl B hXs hbz hiN hN hcu hsu hnx hT h150
    (pm_CwPost (c_L_areLinked (w := 149) (N := 1) (f := fo) (by decide) (by decide) hT.1 hC (fun v n' M1 hp => ⟨pm_clV hp, (hp.1 149 (by decide) (by omega)).trans h149⟩) (fun E n' M1 hp => by
      obtain ⟨e, he, rfl⟩ := pm_clE hp
      simp only [List.mem_cons, List.not_mem_nil, or_false] at he
      rw [he])) (fun o n' M' hp => pm_wrbN hTM h149 hnx (by decide +kernel) (by decide +kernel) hp))
    (fun n' M' hT' => ⟨_, c_X13_areLinked hT'.1 hT'.2.1 hgn h7, (pm_TM_f hT'), fun a ha => by rw [pm_up_n (by omega)]⟩) (fun kc v g2 L2 hR => ?_) next
  obtain ⟨rfl, rfl, e6, hv⟩ := hR
  exact ⟨e6.symm, hv, pm_Rel_le (by omega) (pm_Rel_cg hRel (fun j hj => by rcases hj with rfl | rfl | rfl | rfl | rfl | rfl <;> rfl) rfl rfl (fun j hj => pm_fr_areLinked (by omega)) (fun j hj => by rcases hj with rfl | rfl | rfl | rfl | rfl <;> rfl))⟩
set_option maxHeartbeats 1000000 in
theorem pm_op_13 {l : Launch} {z : Nat} {D : va_G} {kA : Nat → ClassId} {kE : Nat → Nat} {nm : String} {tb : List ExceptionTableEntry} {mc ms : Nat} {X : pm_X} {cu su : Nat} {Q : State → Prop} {nx : Nat} {M : pm_M} {b N i Bd : Nat} {xs : Nat → Int32} (B : pm_B l z D kA kE RL code 9 ret nm tb 2048 mc ms X) (hXs : va_X b N xs X.2.2.2.1 X.2.2.2.1.heap) (hbz : b < z) (hiN : i + 4 ≤ N) (hN : N ≤ 2048) (hcu : cu + 25 ≤ mc) (hsu : su + 78 ≤ ms) (hJ : pm_J z kA kE nx M Bd)
    (next : ∀ nx' M', nx ≤ nx' → pm_J z kA kE nx' M' (Bd + 693 * 11) → pm_G l z D X (cu + 25) (su + 78) Q nx' M' 2623 [some (.ref b), some (.ref (z + 0)), some (.ref (z + 140)), some (.ref (z + 149)), some (.ref (z + 150)), some (.int (nI i)), none, none, none] []) : pm_G l z D X cu su Q nx M 938 [some (.ref b), some (.ref (z + 0)), some (.ref (z + 140)), some (.ref (z + 149)), some (.ref (z + 150)), some (.int (nI i)), none, none, none] [] := by
  obtain ⟨hnx, g, h, L, fo, fd, hT, hTM, hL, h149, h150, hRel⟩ := hJ
  obtain ⟨⟨n, hRS, hI⟩, ⟨ho, hk8, hf5, -⟩, -⟩ := id hRel
  have hn := hI.1.1
  have h7 := hI.1.2.1
  have hgn : h.2 1 0 = nI n := hRS.1.1.trans hn
  have hsd := hI.1.2.2.2.1
  have hgd : h.2 1 2 = nI (pm_n (h.2 1 2)) := by rw [hRS.1.2.2.1]; exact hsd.1
  have hgl : pm_n (h.2 1 2) < 1024 := by rw [hRS.1.2.2.1]; exact hsd.2
  obtain ⟨-, -, hRs, hRt, hRf, hRl, hR9, hR10, hR11, hR1, hR2⟩ := id hRel
  have hC := pm_nas (hl := [("java/lang/IndexOutOfBoundsException", 1), ("java/lang/IllegalArgumentException", 2)]) (hn := [(1, 1), (2, 2)]) (f_X12_quotaBy (l := l) (D := D) (x := xs (i + 1)) (y := xs (i + 2)) (w := xs (i + 3)) hT hn h7) hL (pm_a_quotaBy (f := h.1) (gq := h.2 5) hRS hI.2.1 h7) (by decide +kernel)
  refine pm_lw_13 (Bd := Bd) (L := L) (fo := fo) (fd := fd) (N := N) (xs := xs) (dW := 21) (mcW := 2) (msW := 12) (dX := 4) (h2 := (pm_hk (pm_hf h ((d_X13_quotaBy (xs (i + 1)) (xs (i + 2)) (xs (i + 3)) n h.1 (h.2 1) (h.2 5)).2.1)) 5 ((d_X13_quotaBy (xs (i + 1)) (xs (i + 2)) (xs (i + 3)) n h.1 (h.2 1) (h.2 5)).2.2))) (mv := (d_X13_quotaBy (xs (i + 1)) (xs (i + 2)) (xs (i + 3)) n h.1 (h.2 1) (h.2 5)).1) rfl (by decide) (by decide) rfl B hXs hbz hiN hN hcu hsu hnx hT h150
    (pm_CwPost (c_L_quotaBy (w := 149) (N := 1) (f := fo) (by decide) (by decide) hT.1 hC (fun v n' M1 hp => ⟨pm_clV hp, (hp.1 149 (by decide) (by omega)).trans h149⟩) (fun E n' M1 hp => by
      obtain ⟨e, he, rfl⟩ := pm_clE hp
      simp only [List.mem_cons, List.not_mem_nil, or_false] at he
      rcases he with he | he <;> rw [he] <;> simp)) (fun o n' M' hp => pm_wrN hTM h149 hnx (by decide +kernel) (by decide +kernel) hp))
    (fun n' M' hT' => ⟨_, c_X13_quotaBy hT'.1 hT'.2.1 hT'.2.2.2.2.2.1 hgn h7 (pm_okq hRS hI.2.1 h7), (pm_TM_5 (pm_TM_f hT')), fun a ha => by rw [pm_up_n (by omega), pm_up_n (by omega)]⟩) (fun kc v g2 L2 hR => ?_) next
  obtain ⟨rfl, rfl, e6, hv⟩ := hR
  exact ⟨e6.symm, hv, pm_Rel_le (by omega) (pm_Rel_cg hRel (fun j hj => by rcases hj with rfl | rfl | rfl | rfl | rfl | rfl <;> rfl) rfl rfl (fun j hj => pm_fr_quotaBy (by omega)) (fun j hj => by rcases hj with rfl | rfl | rfl | rfl | rfl <;> rfl))⟩
