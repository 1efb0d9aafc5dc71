/-! undoing, snapshots, the line: closed -/
def pm_Rud (g : pm_Cs) (L : Int32 × Int32 × Int32) : Int32 → Int32 → pm_Cs → Int32 × Int32 × Int32 → Prop := fun kc v g' L' => L' = L ∧ ((g.2.2.1 1 = 0 ∧ kc = 1 ∧ g' = g) ∨ (0 < g.2.2.1 1 ∧ kc = 0 ∧ v = nI (g.2.2.1 1 - 1) ∧ g' = pm_kset (pm_kho g (g.2.2.1 0) (g.2.2.1 1 - 1)) 0 (pm_cpr (g.2.1 ((g.2.2.1 0 + (g.2.2.1 1 - 1)) % 8)) (g.1 0))))
theorem pm_s_ud {B : Nat} {g : pm_Cs} {h : pm_Ms} {L : Int32 × Int32 × Int32} (hRel : pm_Rel B g h L) : ∀ kc v g' L', pm_Rud g L kc v g' L' → (d_X13_undo (g.2.2.1 1) h.1 (h.2 1) (h.2 4)).2.1 6 = kc ∧ (kc = 0 → v = (d_X13_undo (g.2.2.1 1) h.1 (h.2 1) (h.2 4)).1) ∧ pm_Rel (B + 693 * 11) g' (pm_hk (pm_hf h (d_X13_undo (g.2.2.1 1) h.1 (h.2 1) (h.2 4)).2.1) 1 (d_X13_undo (g.2.2.1 1) h.1 (h.2 1) (h.2 4)).2.2) L' := by
  intro kc v g' L' hR
  obtain ⟨rfl, ⟨k0, rfl, rfl⟩ | ⟨k0, rfl, rfl, rfl⟩⟩ := hR
  · have e : d_X13_undo (g'.2.2.1 1) h.1 (h.2 1) (h.2 4) = (0, upd h.1 6 1, h.2 1) := by
      unfold d_X13_undo
      rw [if_pos (show nI (g'.2.2.1 1) = 0 by rw [k0]; rfl)]
    rw [e]
    refine ⟨(show upd h.1 6 1 6 = 1 from pk_us), fun e0 => absurd e0 (by decide), pm_Rel_le (by omega) (pm_Rel_cg hRel (fun _ _ => rfl) rfl rfl (fun j hj => pk_un (by omega)) (fun j hj => ?_))⟩
    rcases hj with rfl | rfl | rfl | rfl | rfl <;> rfl
  · obtain ⟨-, ⟨ho, hk8, h5, hp⟩, hsn, htx, hfa, hln, hl9, hl10, hl11, hl1, hl2⟩ := id hRel
    have e : d_X13_undo (g.2.2.1 1) h.1 (h.2 1) (h.2 4) = (nI (g.2.2.1 1 - 1), upd (upd h.1 6 0) 5 (nI (g.2.2.1 1 - 1)), va_cpy (h.2 4) (h.2 1) (91 * (g.2.2.1 1 - 1)) 0 91) := by
      unfold d_X13_undo
      rw [if_neg (nI_ne0 k0 (by omega))]
    rw [e]
    obtain ⟨m, x1, x2⟩ := hp (g.2.2.1 1 - 1) (by omega)
    have fo : ∀ j, j ≠ 5 → j ≠ 6 → upd (upd h.1 6 0) 5 (nI (g.2.2.1 1 - 1)) j = h.1 j := fun j a b => (pk_un a).trans (pk_un b)
    refine ⟨(show upd (upd h.1 6 0) 5 (nI (g.2.2.1 1 - 1)) 6 = 0 from (pk_un (by decide)).trans pk_us), fun _ => rfl, ⟨m, ?_, ?_⟩, ⟨ho, ?_, (show upd (upd h.1 6 0) 5 (nI (g.2.2.1 1 - 1)) 5 = nI (g.2.2.1 1 - 1) from pk_us), fun p hp2 => ?_⟩, ?_, ?_, ?_, ?_, ?_⟩
    · refine pm_RS_cg x1 x2.1.2.1 (fun j hj => if_pos hj) (fun j hj => ?_)
      show va_cpy (h.2 4) (h.2 1) (91 * (g.2.2.1 1 - 1)) 0 91 j = h.2 4 (91 * (g.2.2.1 1 - 1) + j)
      rw [pk_cpy_in (Nat.zero_le _) (by omega)]
      rfl
    · exact pm_I_le (by omega) (pm_I_cg x2 (fun j hj => if_pos hj))
    · show g.2.2.1 1 - 1 ≤ 8
      omega
    · have hp2 : p < g.2.2.1 1 - 1 := hp2
      obtain ⟨m', y1, y2⟩ := hp p (by omega)
      exact ⟨m', y1, pm_I_le (by omega) y2⟩
    · show (g.1 12 9 = 0 ∧ upd (upd h.1 6 0) 5 (nI (g.2.2.1 1 - 1)) 3 = 0) ∨ (¬ g.1 12 9 = 0 ∧ ¬ upd (upd h.1 6 0) 5 (nI (g.2.2.1 1 - 1)) 3 = 0 ∧ ∃ n, pm_RS n (g.1 2) (h.2 3) ∧ pm_I (B + 693 * 11) n (g.1 2))
      rw [fo 3 (by decide) (by decide)]
      rcases hsn with hsn | ⟨c1, c2, m', c3, c4⟩
      · exact Or.inl hsn
      · exact Or.inr ⟨c1, c2, m', c3, pm_I_le (by omega) c4⟩
    · show ∃ t, t ≤ 60 ∧ g.1 13 4 = nI t ∧ upd (upd h.1 6 0) 5 (nI (g.2.2.1 1 - 1)) 15 = nI t ∧ ∀ i, i < t → h.2 6 i = g.1 8 i
      rw [fo 15 (by decide) (by decide)]; exact htx
    · show (g.1 12 10 = 0 ∧ upd (upd h.1 6 0) 5 (nI (g.2.2.1 1 - 1)) 18 = -1) ∨ (¬ g.1 12 10 = 0 ∧ upd (upd h.1 6 0) 5 (nI (g.2.2.1 1 - 1)) 18 = g.1 12 11 ∧ ¬ g.1 12 11 < 0)
      rw [fo 18 (by decide) (by decide)]; exact hfa
    · show g.2.2.1 2 ≤ 16 ∧ upd (upd h.1 6 0) 5 (nI (g.2.2.1 1 - 1)) 22 = nI (g.2.2.1 2) ∧ ∀ i, i < g.2.2.1 2 → ∃ q, q < 128 ∧ g.1 14 i = nI q ∧ h.2 8 i = nI q
      rw [fo 22 (by decide) (by decide)]; exact hln
    · exact ⟨(fo 9 (by decide) (by decide)).trans hl9, (fo 10 (by decide) (by decide)).trans hl10, (fo 11 (by decide) (by decide)).trans hl11, hl1, hl2⟩
def pm_Rrs (g : pm_Cs) (L : Int32 × Int32 × Int32) : Int32 → Int32 → pm_Cs → Int32 × Int32 × Int32 → Prop := fun kc v g' L' => L' = L ∧ ((g.1 12 9 = 0 ∧ kc = 1 ∧ g' = g) ∨ (¬ g.1 12 9 = 0 ∧ kc = 0 ∧ v = pm_cpr (g.1 2) (g.1 0) 0 ∧ g' = pm_kho (pm_kset g 0 (pm_cpr (g.1 2) (g.1 0))) (g.2.2.1 0) 0))
theorem pm_s_rs {B : Nat} {g : pm_Cs} {h : pm_Ms} {L : Int32 × Int32 × Int32} (hRel : pm_Rel B g h L) : ∀ kc v g' L', pm_Rrs g L kc v g' L' → (d_X13_restoreSnapshot h.1 (h.2 1) (h.2 3)).2.1 6 = kc ∧ (kc = 0 → v = (d_X13_restoreSnapshot h.1 (h.2 1) (h.2 3)).1) ∧ pm_Rel (B + 693 * 11) g' (pm_hk (pm_hf h (d_X13_restoreSnapshot h.1 (h.2 1) (h.2 3)).2.1) 1 (d_X13_restoreSnapshot h.1 (h.2 1) (h.2 3)).2.2) L' := by
  intro kc v g' L' hR
  obtain ⟨-, ⟨ho, hk8, h5, hp⟩, hsn, htx, hfa, hln, hl9, hl10, hl11, hl1, hl2⟩ := id hRel
  obtain ⟨rfl, ⟨k0, rfl, rfl⟩ | ⟨k0, rfl, rfl, rfl⟩⟩ := hR
  · have h3 : h.1 3 = 0 := by
      rcases hsn with hsn | hsn
      · exact hsn.2
      · exact absurd k0 hsn.1
    have e : d_X13_restoreSnapshot h.1 (h.2 1) (h.2 3) = (0, upd h.1 6 1, h.2 1) := by
      unfold d_X13_restoreSnapshot
      rw [if_pos h3]
    rw [e]
    refine ⟨(show upd h.1 6 1 6 = 1 from pk_us), fun e0 => absurd e0 (by decide), pm_Rel_le (by omega) (pm_Rel_cg hRel (fun _ _ => rfl) rfl rfl (fun j hj => pk_un (by omega)) (fun j hj => ?_))⟩
    rcases hj with rfl | rfl | rfl | rfl | rfl <;> rfl
  · rcases hsn with hsn | ⟨-, h3, m, x1, x2⟩
    · exact absurd hsn.1 k0
    have e : d_X13_restoreSnapshot h.1 (h.2 1) (h.2 3) = ((va_cpy (h.2 3) (h.2 1) 0 0 91) 0, upd (upd h.1 6 0) 5 0, va_cpy (h.2 3) (h.2 1) 0 0 91) := by
      unfold d_X13_restoreSnapshot
      rw [if_neg h3]
    rw [e]
    have fo : ∀ j, j ≠ 5 → j ≠ 6 → upd (upd h.1 6 0) 5 0 j = h.1 j := fun j a b => (pk_un a).trans (pk_un b)
    have ge : ∀ j, j < 91 → va_cpy (h.2 3) (h.2 1) 0 0 91 j = h.2 3 j := fun j hj => by
      rw [pk_cpy_in (Nat.zero_le _) (by omega), show 0 + (j - 0) = j by omega]
    refine ⟨(show upd (upd h.1 6 0) 5 0 6 = 0 from (pk_un (by decide)).trans pk_us), fun _ => ?_, ⟨m, pm_RS_cg x1 x2.1.2.1 (fun j hj => if_pos hj) ge, pm_I_le (by omega) (pm_I_cg x2 (fun j hj => if_pos hj))⟩, ⟨ho, Nat.zero_le _, (show upd (upd h.1 6 0) 5 0 5 = nI 0 from pk_us), fun p hp2 => absurd hp2 (Nat.not_lt_zero _)⟩, ?_, ?_, ?_, ?_, ?_⟩
    · show pm_cpr (g.1 2) (g.1 0) 0 = va_cpy (h.2 3) (h.2 1) 0 0 91 0
      rw [ge 0 (by decide), x1.1.1]
      exact if_pos (by decide)
    · refine Or.inr ⟨k0, ?_, m, x1, pm_I_le (by omega) x2⟩
      show ¬ upd (upd h.1 6 0) 5 0 3 = 0
      rw [fo 3 (by decide) (by decide)]; exact h3
    · show ∃ t, t ≤ 60 ∧ g.1 13 4 = nI t ∧ upd (upd h.1 6 0) 5 0 15 = nI t ∧ ∀ i, i < t → h.2 6 i = g.1 8 i
      rw [fo 15 (by decide) (by decide)]; exact htx
    · show (g.1 12 10 = 0 ∧ upd (upd h.1 6 0) 5 0 18 = -1) ∨ (¬ g.1 12 10 = 0 ∧ upd (upd h.1 6 0) 5 0 18 = g.1 12 11 ∧ ¬ g.1 12 11 < 0)
      rw [fo 18 (by decide) (by decide)]; exact hfa
    · show g.2.2.1 2 ≤ 16 ∧ upd (upd h.1 6 0) 5 0 22 = nI (g.2.2.1 2) ∧ ∀ i, i < g.2.2.1 2 → ∃ q, q < 128 ∧ g.1 14 i = nI q ∧ h.2 8 i = nI q
      rw [fo 22 (by decide) (by decide)]; exact hln
    · exact ⟨(fo 9 (by decide) (by decide)).trans hl9, (fo 10 (by decide) (by decide)).trans hl10, (fo 11 (by decide) (by decide)).trans hl11, hl1, hl2⟩
theorem pm_s_sv {B : Nat} {g : pm_Cs} {h : pm_Ms} {L : Int32 × Int32 × Int32} (hRel : pm_Rel B g h L) : pm_Rel (B + 693 * 11) (pm_kto (pm_kset g 2 (pm_cpr (g.1 0) (g.1 2))) (upd (g.1 12) 9 1) g.2.2.2.2.2) (pm_hk (pm_hf h (d_X13_saveSnapshot h.1 (h.2 1) (h.2 3)).2.1) 3 (d_X13_saveSnapshot h.1 (h.2 1) (h.2 3)).2.2) L := by
  obtain ⟨⟨n, x1, x2⟩, ⟨ho, hk8, h5, hp⟩, hsn, htx, hfa, hln, hl9, hl10, hl11, hl1, hl2⟩ := id hRel
  have fo : ∀ j, j ≠ 3 → j ≠ 6 → upd (upd h.1 6 0) 3 1 j = h.1 j := fun j a b => (pk_un a).trans (pk_un b)
  refine ⟨⟨n, x1, pm_I_le (by omega) x2⟩, ⟨ho, hk8, (fo 5 (by decide) (by decide)).trans h5, fun p hp2 => ?_⟩, ?_, ?_, ?_, ?_, ?_⟩
  · obtain ⟨m', y1, y2⟩ := hp p hp2
    exact ⟨m', y1, pm_I_le (by omega) y2⟩
  · refine Or.inr ⟨?_, ?_, n, pm_RS_cg x1 x2.1.2.1 (fun j hj => if_pos hj) (fun j hj => ?_), pm_I_le (by omega) (pm_I_cg x2 (fun j hj => if_pos hj))⟩
    · show ¬ upd (g.1 12) 9 1 9 = 0
      rw [pk_us]; decide
    · show ¬ upd (upd h.1 6 0) 3 1 3 = 0
      rw [pk_us]; decide
    · show va_cpy (h.2 1) (h.2 3) 0 0 91 j = h.2 1 j
      rw [pk_cpy_in (Nat.zero_le _) (by omega), show 0 + (j - 0) = j by omega]
  · show ∃ t, t ≤ 60 ∧ g.1 13 4 = nI t ∧ upd (upd h.1 6 0) 3 1 15 = nI t ∧ ∀ i, i < t → h.2 6 i = g.1 8 i
    rw [fo 15 (by decide) (by decide)]; exact htx
  · show (upd (g.1 12) 9 1 10 = 0 ∧ upd (upd h.1 6 0) 3 1 18 = -1) ∨ (¬ upd (g.1 12) 9 1 10 = 0 ∧ upd (upd h.1 6 0) 3 1 18 = upd (g.1 12) 9 1 11 ∧ ¬ upd (g.1 12) 9 1 11 < 0)
    rw [fo 18 (by decide) (by decide), pk_un (by decide), pk_un (by decide)]; exact hfa
  · show g.2.2.1 2 ≤ 16 ∧ upd (upd h.1 6 0) 3 1 22 = nI (g.2.2.1 2) ∧ ∀ i, i < g.2.2.1 2 → ∃ q, q < 128 ∧ g.1 14 i = nI q ∧ h.2 8 i = nI q
    rw [fo 22 (by decide) (by decide)]; exact hln
  · exact ⟨(fo 9 (by decide) (by decide)).trans hl9, (fo 10 (by decide) (by decide)).trans hl10, (fo 11 (by decide) (by decide)).trans hl11, hl1, hl2⟩
theorem pm_a_lineCharacter {x : Int32} {c : Nat} {f bs gl : Nat → Int32} (hc : c ≤ 16) (hb : ∀ i, i < c → ∃ q, q < 128 ∧ bs i = nI q ∧ gl i = nI q) : pm_AS (if x < 0 then 1 else if x < nI c then 0 else 1) (bs (pm_n x)) ((d_X13_lineCharacter x c f gl).2 6) (d_X13_lineCharacter x c f gl).1 [(1, 1)] := by
  unfold d_X13_lineCharacter
  by_cases h0 : x < 0
  · have e : pm_in x 0 (nI c - 1) = 0 := if_pos h0
    rw [if_pos h0, if_pos e, e]
    exact Or.inr ⟨(1, 1), List.mem_cons_self, rfl, (by dsimp only; rw [pk_us] <;> rfl)⟩
  · rw [if_neg h0]
    by_cases hz : pm_in x 0 (nI c - 1) = 0
    · have h1 : ¬ x < nI c := by
        obtain ⟨j, hj, rfl⟩ := nI_of h0
        intro h2
        rw [nI_ltI hj (by omega)] at h2
        unfold pm_in at hz
        rw [if_neg h0] at hz
        obtain ⟨c', rfl⟩ : ∃ c', c = c' + 1 := ⟨c - 1, by omega⟩
        rw [nI_pred, if_neg (nI_nlt (by omega) (by omega))] at hz
        exact absurd hz (by decide)
      rw [if_neg h1, if_pos hz, hz]
      exact Or.inr ⟨(1, 1), List.mem_cons_self, rfl, (by dsimp only; rw [pk_us] <;> rfl)⟩
    · obtain ⟨hx, hl⟩ := pm_in_nq (by omega) hz
      have h1 : x < nI c := by rw [hx]; exact nI_lt hl (by omega)
      rw [if_pos h1, if_neg hz]
      obtain ⟨q, _, e1, e2⟩ := hb _ hl
      exact Or.inl ⟨rfl, (by dsimp only; rw [pk_us] <;> exact if_neg hz), e1.trans e2.symm⟩
theorem pm_fr_lineCharacter {x : Int32} {c j : Nat} {f gl : Nat → Int32} (hj : j ≠ 6) : (d_X13_lineCharacter x c f gl).2 j = f j := by
  unfold d_X13_lineCharacter
  split <;> exact pk_un hj
set_option maxHeartbeats 1000000 in
theorem pm_op_49 {l : Launch} {z : Nat} {D : va_G} {kA : Nat → ClassId} {kE : Nat → Nat} {nm : String} {tb : List ExceptionTableEntry} {mc ms : Nat} {X : pm_X} {cu su : Nat} {Q : State → Prop} {nx : Nat} {M : pm_M} {b N i Bd : Nat} {xs : Nat → Int32} (B : pm_B l z D kA kE RL code 9 ret nm tb 2048 mc ms X) (hXs : va_X b N xs X.2.2.2.1 X.2.2.2.1.heap) (hbz : b < z) (hiN : i + 4 ≤ N) (hN : N ≤ 2048) (hcu : cu + 25 ≤ mc) (hsu : su + 78 ≤ ms) (hJ : pm_J z kA kE nx M Bd)
    (next : ∀ nx' M', nx ≤ nx' → pm_J z kA kE nx' M' (Bd + 693 * 11) → pm_G l z D X (cu + 25) (su + 78) Q nx' M' 2623 [some (.ref b), some (.ref (z + 0)), some (.ref (z + 140)), some (.ref (z + 149)), some (.ref (z + 150)), some (.int (nI i)), none, none, none] []) : pm_G l z D X cu su Q nx M 2509 [some (.ref b), some (.ref (z + 0)), some (.ref (z + 140)), some (.ref (z + 149)), some (.ref (z + 150)), some (.int (nI i)), none, none, none] [] := by
  obtain ⟨hnx, g, h, L, fo, fd, hT, hTM, hL, h149, h150, hRel⟩ := hJ
  obtain ⟨⟨n, hRS, hI⟩, ⟨ho, hk8, hf5, -⟩, -⟩ := id hRel
  have hn := hI.1.1
  have h7 := hI.1.2.1
  have hgn : h.2 1 0 = nI n := hRS.1.1.trans hn
  have hsd := hI.1.2.2.2.1
  have hgd : h.2 1 2 = nI (pm_n (h.2 1 2)) := by rw [hRS.1.2.2.1]; exact hsd.1
  have hgl : pm_n (h.2 1 2) < 1024 := by rw [hRS.1.2.2.1]; exact hsd.2
  have hC : pm_C l z D kA kE yX12_undo cX12_undo 1 (some .int) 20 3 12 [.ref (z + 0)] nx M (pm_cl2 z kA kE nx M [("java/lang/IllegalStateException", 1)] (pm_Rud g L)) := by
    refine pm_Cpost (c_X12_undoT hT ho hk8) fun o n' M' hp => ?_
    obtain ⟨hF, hn', ⟨k0, rfl, hT'⟩ | ⟨k0, rfl, rfl, hT'⟩⟩ := hp
    · exact ⟨fun a h1 _ => hF a h1, hn', g, L, hT', pm_LD_keep hL hn' (fun a h1 _ => hF a (by omega)), Or.inr ⟨_, List.mem_cons_self, rfl, rfl, Or.inl ⟨k0, rfl, rfl⟩⟩⟩
    · exact ⟨fun a h1 _ => hF a h1, hn', _, L, hT', pm_LD_keep hL hn' (fun a h1 _ => hF a (by omega)), Or.inl ⟨_, rfl, rfl, Or.inr ⟨k0, rfl, rfl, rfl⟩⟩⟩
  exact pm_lw_49 (Bd := Bd) (L := L) (fo := fo) (fd := fd) (N := N) (xs := xs) (dW := 21) (mcW := 3) (msW := 12) (dX := 2) (h2 := (pm_hk (pm_hf h ((d_X13_undo (g.2.2.1 1) h.1 (h.2 1) (h.2 4)).2.1)) 1 ((d_X13_undo (g.2.2.1 1) h.1 (h.2 1) (h.2 4)).2.2))) (mv := (d_X13_undo (g.2.2.1 1) h.1 (h.2 1) (h.2 4)).1) rfl (by decide) (by decide) rfl B hXs hbz hiN hN hcu hsu hnx hT h150
    (pm_CwPost (c_L_undo (w := 149) (N := 1) (f := fo) (by decide) (by decide) hT.1 hC (fun v n' M1 hp => ⟨pm_clV hp, (hp.1 149 (by decide) (by omega)).trans h149⟩) (fun E n' M1 hp => by
      obtain ⟨e, he, rfl⟩ := pm_clE hp
      simp only [List.mem_cons, List.not_mem_nil, or_false] at he
      rw [he])) (fun o n' M' hp => pm_wrN hTM h149 hnx (by decide +kernel) (by decide +kernel) hp))
    (fun n' M' hT' => ⟨_, c_X13_undo hT'.1 hT'.2.1 hT'.2.2.2.2.1 hf5 hk8, (pm_TM_1 (pm_TM_f hT')), fun a ha => by rw [pm_up_n (by omega), pm_up_n (by omega)]⟩) (pm_s_ud hRel) next
set_option maxHeartbeats 1000000 in
theorem pm_op_52 {l : Launch} {z : Nat} {D : va_G} {kA : Nat → ClassId} {kE : Nat → Nat} {nm : String} {tb : List ExceptionTableEntry} {mc ms : Nat} {X : pm_X} {cu su : Nat} {Q : State → Prop} {nx : Nat} {M : pm_M} {b N i Bd : Nat} {xs : Nat → Int32} (B : pm_B l z D kA kE RL code 9 ret nm tb 2048 mc ms X) (hXs : va_X b N xs X.2.2.2.1 X.2.2.2.1.heap) (hbz : b < z) (hiN : i + 4 ≤ N) (hN : N ≤ 2048) (hcu : cu + 25 ≤ mc) (hsu : su + 78 ≤ ms) (hJ : pm_J z kA kE nx M Bd)
    (next : ∀ nx' M', nx ≤ nx' → pm_J z kA kE nx' M' (Bd + 693 * 11) → pm_G l z D X (cu + 25) (su + 78) Q nx' M' 2623 [some (.ref b), some (.ref (z + 0)), some (.ref (z + 140)), some (.ref (z + 149)), some (.ref (z + 150)), some (.int (nI i)), none, none, none] []) : pm_G l z D X cu su Q nx M 2579 [some (.ref b), some (.ref (z + 0)), some (.ref (z + 140)), some (.ref (z + 149)), some (.ref (z + 150)), some (.int (nI i)), none, none, none] [] := by
  obtain ⟨hnx, g, h, L, fo, fd, hT, hTM, hL, h149, h150, hRel⟩ := hJ
  obtain ⟨⟨n, hRS, hI⟩, ⟨ho, hk8, hf5, -⟩, -⟩ := id hRel
  have hn := hI.1.1
  have h7 := hI.1.2.1
  have hgn : h.2 1 0 = nI n := hRS.1.1.trans hn
  have hsd := hI.1.2.2.2.1
  have hgd : h.2 1 2 = nI (pm_n (h.2 1 2)) := by rw [hRS.1.2.2.1]; exact hsd.1
  have hgl : pm_n (h.2 1 2) < 1024 := by rw [hRS.1.2.2.1]; exact hsd.2
  have hC : pm_C l z D kA kE yX12_restoreSnapshot cX12_restoreSnapshot 1 (some .int) 20 3 12 [.ref (z + 0)] nx M (pm_cl2 z kA kE nx M [("java/lang/IllegalStateException", 1)] (pm_Rrs g L)) := by
    refine pm_Cpost (c_X12_restT hT) fun o n' M' hp => ?_
    obtain ⟨hF, hn', ⟨k0, rfl, hT'⟩ | ⟨k0, rfl, rfl, hT'⟩⟩ := hp
    · exact ⟨fun a h1 _ => hF a h1, hn', g, L, hT', pm_LD_keep hL hn' (fun a h1 _ => hF a (by omega)), Or.inr ⟨_, List.mem_cons_self, rfl, rfl, Or.inl ⟨k0, rfl, rfl⟩⟩⟩
    · exact ⟨fun a h1 _ => hF a h1, hn', _, L, hT', pm_LD_keep hL hn' (fun a h1 _ => hF a (by omega)), Or.inl ⟨_, rfl, rfl, Or.inr ⟨k0, rfl, rfl, rfl⟩⟩⟩
  exact pm_lw_52 (Bd := Bd) (L := L) (fo := fo) (fd := fd) (N := N) (xs := xs) (dW := 21) (mcW := 3) (msW := 12) (dX := 2) (h2 := (pm_hk (pm_hf h ((d_X13_restoreSnapshot h.1 (h.2 1) (h.2 3)).2.1)) 1 ((d_X13_restoreSnapshot h.1 (h.2 1) (h.2 3)).2.2))) (mv := (d_X13_restoreSnapshot h.1 (h.2 1) (h.2 3)).1) rfl (by decide) (by decide) rfl B hXs hbz hiN hN hcu hsu hnx hT h150
    (pm_CwPost (c_L_restoreSnapshot (w := 149) (N := 1) (f := fo) (by decide) (by decide) hT.1 hC (fun v n' M1 hp => ⟨pm_clV hp, (hp.1 149 (by decide) (by omega)).trans h149⟩) (fun E n' M1 hp => by
      obtain ⟨e, he, rfl⟩ := pm_clE hp
      simp only [List.mem_cons, List.not_mem_nil, or_false] at he
      rw [he])) (fun o n' M' hp => pm_wrN hTM h149 hnx (by decide +kernel) (by decide +kernel) hp))
    (fun n' M' hT' => ⟨_, c_X13_restoreSnapshot hT'.1 hT'.2.1 hT'.2.2.2.1, (pm_TM_1 (pm_TM_f hT')), fun a ha => by rw [pm_up_n (by omega), pm_up_n (by omega)]⟩) (pm_s_rs hRel) next
set_option maxHeartbeats 1000000 in
theorem pm_op_51 {l : Launch} {z : Nat} {D : va_G} {kA : Nat → ClassId} {kE : Nat → Nat} {nm : String} {tb : List ExceptionTableEntry} {mc ms : Nat} {X : pm_X} {cu su : Nat} {Q : State → Prop} {nx : Nat} {M : pm_M} {b N i Bd : Nat} {xs : Nat → Int32} (B : pm_B l z D kA kE RL code 9 ret nm tb 2048 mc ms X) (hXs : va_X b N xs X.2.2.2.1 X.2.2.2.1.heap) (hbz : b < z) (hiN : i + 4 ≤ N) (hN : N ≤ 2048) (hcu : cu + 25 ≤ mc) (hsu : su + 78 ≤ ms) (hJ : pm_J z kA kE nx M Bd)
    (next : ∀ nx' M', nx ≤ nx' → pm_J z kA kE nx' M' (Bd + 693 * 11) → pm_G l z D X (cu + 25) (su + 78) Q nx' M' 2623 [some (.ref b), some (.ref (z + 0)), some (.ref (z + 140)), some (.ref (z + 149)), some (.ref (z + 150)), some (.int (nI i)), none, none, none] []) : pm_G l z D X cu su Q nx M 2566 [some (.ref b), some (.ref (z + 0)), some (.ref (z + 140)), some (.ref (z + 149)), some (.ref (z + 150)), some (.int (nI i)), none, none, none] [] := by
  obtain ⟨hnx, g, h, L, fo, fd, hT, hTM, hL, h149, h150, hRel⟩ := hJ
  obtain ⟨⟨n, hRS, hI⟩, ⟨ho, hk8, hf5, -⟩, -⟩ := id hRel
  have hn := hI.1.1
  have h7 := hI.1.2.1
  have hgn : h.2 1 0 = nI n := hRS.1.1.trans hn
  have hsd := hI.1.2.2.2.1
  have hgd : h.2 1 2 = nI (pm_n (h.2 1 2)) := by rw [hRS.1.2.2.1]; exact hsd.1
  have hgl : pm_n (h.2 1 2) < 1024 := by rw [hRS.1.2.2.1]; exact hsd.2
  have hC : pm_C l z D kA kE yX12_saveSnapshot cX12_saveSnapshot 1 (some .int) 5 0 0 [.ref (z + 0)] nx M (pm_cl2 z kA kE nx M [] (fun kc v g' L' => L' = L ∧ kc = 0 ∧ v = g.1 0 0 ∧ g' = pm_kto (pm_kset g 2 (pm_cpr (g.1 0) (g.1 2))) (upd (g.1 12) 9 1) g.2.2.2.2.2)) := by
    refine pm_Cpost (c_X12_saveT hT) fun o n' M' hp => ?_
    obtain ⟨hF, rfl, rfl, hT'⟩ := hp
    exact ⟨fun a h1 _ => hF a h1, Nat.le_refl _, _, L, hT', pm_LD_keep hL (Nat.le_refl _) (fun a h1 _ => hF a (by omega)), Or.inl ⟨_, rfl, rfl, rfl, rfl, rfl⟩⟩
  refine pm_lw_51 (Bd := Bd) (L := L) (fo := fo) (fd := fd) (N := N) (xs := xs) (dW := 5) (mcW := 0) (msW := 0) (dX := 2) (h2 := (pm_hk (pm_hf h ((d_X13_saveSnapshot h.1 (h.2 1) (h.2 3)).2.1)) 3 ((d_X13_saveSnapshot h.1 (h.2 1) (h.2 3)).2.2))) (mv := (d_X13_saveSnapshot h.1 (h.2 1) (h.2 3)).1) rfl (by decide) (by decide) rfl B hcu hsu hnx hT hTM h149 h150 hC (fun n' M' hT' => ⟨_, c_X13_saveSnapshot hT'.1 hT'.2.1 hT'.2.2.2.1, (pm_TM_3 (pm_TM_f hT')), fun a ha => by rw [pm_up_n (by omega), pm_up_n (by omega)]⟩) (fun v g2 L2 hR => ?_) next
  obtain ⟨rfl, -, rfl, rfl⟩ := hR
  exact ⟨hRS.1.1.symm, pm_s_sv hRel⟩
set_option maxHeartbeats 1000000 in
theorem pm_op_45 {l : Launch} {z : Nat} {D : va_G} {kA : Nat → ClassId} {kE : Nat → Nat} {nm : String} {tb : List ExceptionTableEntry} {mc ms : Nat} {X : pm_X} {cu su : Nat} {Q : State → Prop} {nx : Nat} {M : pm_M} {b N i Bd : Nat} {xs : Nat → Int32} (B : pm_B l z D kA kE RL code 9 ret nm tb 2048 mc ms X) (hXs : va_X b N xs X.2.2.2.1 X.2.2.2.1.heap) (hbz : b < z) (hiN : i + 4 ≤ N) (hN : N ≤ 2048) (hcu : cu + 25 ≤ mc) (hsu : su + 78 ≤ ms) (hJ : pm_J z kA kE nx M Bd)
    (next : ∀ nx' M', nx ≤ nx' → pm_J z kA kE nx' M' (Bd + 693 * 11) → pm_G l z D X (cu + 25) (su + 78) Q nx' M' 2623 [some (.ref b), some (.ref (z + 0)), some (.ref (z + 140)), some (.ref (z + 149)), some (.ref (z + 150)), some (.int (nI i)), none, none, none] []) : pm_G l z D X cu su Q nx M 2321 [some (.ref b), some (.ref (z + 0)), some (.ref (z + 140)), some (.ref (z + 149)), some (.ref (z + 150)), some (.int (nI i)), none, none, none] [] := by
  obtain ⟨hnx, g, h, L, fo, fd, hT, hTM, hL, h149, h150, hRel⟩ := hJ
  obtain ⟨⟨n, hRS, hI⟩, ⟨ho, hk8, hf5, -⟩, -⟩ := id hRel
  have hn := hI.1.1
  have h7 := hI.1.2.1
  have hgn : h.2 1 0 = nI n := hRS.1.1.trans hn
  have hsd := hI.1.2.2.2.1
  have hgd : h.2 1 2 = nI (pm_n (h.2 1 2)) := by rw [hRS.1.2.2.1]; exact hsd.1
  have hgl : pm_n (h.2 1 2) < 1024 := by rw [hRS.1.2.2.1]; exact hsd.2
  obtain ⟨-, -, hRs, hRt, hRf, hRl, hR9, hR10, hR11, hR1, hR2⟩ := id hRel
  have hRl1 := hRl.1
  have hC := pm_nas (hl := [("java/lang/IndexOutOfBoundsException", 1)]) (hn := [(1, 1)]) (f_X12_lineCharacter (l := l) (D := D) (x := xs (i + 1)) hT hRl.1 (fun i hi => (by
    obtain ⟨q, a, b_, _⟩ := hRl.2.2 i hi
    exact ⟨q, a, b_⟩))) hL (pm_a_lineCharacter (f := h.1) hRl.1 hRl.2.2) (by decide +kernel)
  refine pm_lw_45 (Bd := Bd) (L := L) (fo := fo) (fd := fd) (N := N) (xs := xs) (dW := 21) (mcW := 1) (msW := 6) (dX := 1) (h2 := (pm_hf h ((d_X13_lineCharacter (xs (i + 1)) (g.2.2.1 2) h.1 (h.2 8)).2))) (mv := (d_X13_lineCharacter (xs (i + 1)) (g.2.2.1 2) h.1 (h.2 8)).1) rfl (by decide) (by decide) rfl B hXs hbz hiN hN hcu hsu hnx hT h150
    (pm_CwPost (c_L_lineCharacter (w := 149) (N := 1) (f := fo) (by decide) (by decide) hT.1 hC (fun v n' M1 hp => ⟨pm_clV hp, (hp.1 149 (by decide) (by omega)).trans h149⟩) (fun E n' M1 hp => by
      obtain ⟨e, he, rfl⟩ := pm_clE hp
      simp only [List.mem_cons, List.not_mem_nil, or_false] at he
      rw [he])) (fun o n' M' hp => pm_wrN hTM h149 hnx (by decide +kernel) (by decide +kernel) hp))
    (fun n' M' hT' => ⟨_, c_X13_lineCharacter hT'.1 hT'.2.2.2.2.2.2.2.2 hRl.2.1 (Nat.le_trans hRl.1 (by decide)) (fun i hi => (by
      obtain ⟨q, a, _, b_⟩ := hRl.2.2 i hi
      exact ⟨q, by omega, b_⟩)), (pm_TM_f hT'), fun a ha => by rw [pm_up_n (by omega)]⟩) (fun kc v g2 L2 hR => ?_) next
  obtain ⟨rfl, rfl, e6, hv⟩ := hR
  exact ⟨e6.symm, hv, pm_Rel_le (by omega) (pm_Rel_cg hRel (fun j hj => by rcases hj with rfl | rfl | rfl | rfl | rfl | rfl <;> rfl) rfl rfl (fun j hj => pm_fr_lineCharacter (by omega)) (fun j hj => by rcases hj with rfl | rfl | rfl | rfl | rfl <;> rfl))⟩
