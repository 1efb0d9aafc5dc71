/-! feeding, drawing: closed -/
def d_X13_feedB (x : Int32) (t : Nat) (f : Nat → Int32) (gt : Nat → Int32) : (Int32 × (Nat → Int32) × (Nat → Int32)) := if (nI t) = 60 then (0, (upd f 6 1), gt) else ((nI (t + 1)), (upd (upd f 6 0) 15 (nI (t + 1))), (upd gt t (vp_nar .char x)))
set_option maxRecDepth 100000 in
set_option maxHeartbeats 8000000 in
theorem c_X13_feedB {l : Launch} {z : Nat} {D : va_G} {kA : Nat → ClassId} {kE : Nat → Nat} {nx : Nat} {M : pm_M} {x : Int32} {t : Nat}{m0 : Nat} {f : Nat → Int32} {gt : Nat → Int32} (hM : M m0 = some (pm_mo z m0 f)) (hgt : M (m0 + 6) = some (.inl (kA 3, 60, .inl gt))) (hf15 : f 15 = nI t) (ht : t ≤ 60) : pm_C l z D kA kE yX13_feed cX13_feed 2 (some .int) 0 0 0 [.ref (z + m0), .int x] nx M (pm_rt (some (.int ((d_X13_feedB x t f gt).1))) nx (pm_up (pm_up M m0 (pm_mo z m0 ((d_X13_feedB x t f gt).2.1))) (m0 + 6) (.inl (kA 3, 60, .inl ((d_X13_feedB x t f gt).2.2))))) := by
  refine pm_mk (own := RX13) (nm := "feed") mt_X13_feed rfl rfl rfl rfl fun X B => ?_
  refine pm_loc (L' := [some (.ref (z + m0)), some (.int x)]) rfl ?_
  refine pm_mem (M' := pm_up (pm_up M m0 (pm_mo z m0 f)) (m0 + 6) (.inl (kA 3, 60, .inl gt))) (by rw [pm_up_id hM, pm_up_id hgt]) ?_
  refine pm_aload_n B dX13_feed_0 rfl ?_
  refine pm_aload_n B dX13_feed_1 rfl ?_
  refine pm_get B dX13_feed_2 fl_X13_205 ((pm_up_n (by omega)).trans pm_up_s) rfl ?_
  refine pm_stk (st' := [.int (nI t), .ref (z + m0)]) (by rw [show (f 15) = (nI t) from by rw [hf15]]) ?_
  refine pm_bipush (v := 60) B dX13_feed_5 (by decide) ?_
  refine pm_icmp_ne (tgt := 14) B dX13_feed_7 (by decide) (fun hq1 => ?_) (fun hq1 => ?_)
  · have ht6 : t < 60 := by have h := hq1; rw [show (60 : Int32) = nI 60 from rfl, nI_eq (by omega) (by decide)] at h; omega
    refine pm_iconst (v := 0) B dX13_feed_14 (by decide) ?_
    refine pm_put B dX13_feed_15 fs_X13_39 ((pm_up_n (by omega)).trans pm_up_s) rfl rfl rfl ?_
    refine pm_mem (M' := pm_up (pm_up (pm_up M m0 (pm_mo z m0 f)) (m0 + 6) (.inl (kA 3, 60, .inl gt))) m0 (pm_mo z m0 (upd f 6 0))) rfl ?_
    refine pm_mem (M' := pm_up (pm_up M m0 (pm_mo z m0 (upd f 6 0))) (m0 + 6) (.inl (kA 3, 60, .inl gt))) (by rw [pm_up_sw (a := m0 + 6) (b := m0) (by omega), pm_up_up]) ?_
    refine pm_aload_n B dX13_feed_18 rfl ?_
    refine pm_get B dX13_feed_19 fl_X13_39 ((pm_up_n (by omega)).trans pm_up_s) rfl ?_
    refine pm_stk (st' := [.int 0]) rfl ?_
    refine pm_if_le (tgt := 27) B dX13_feed_22 (by decide) (fun hq2 => ?_) (fun hq2 => absurd (by decide) hq2)
    refine pm_aload_n B dX13_feed_27 rfl ?_
    refine pm_get B dX13_feed_28 fl_X13_25 ((pm_up_n (by omega)).trans pm_up_s) rfl ?_
    refine pm_stk (st' := [.ref (z + (m0 + 6))]) rfl ?_
    refine pm_aload_n B dX13_feed_31 rfl ?_
    refine pm_get B dX13_feed_32 fl_X13_205 ((pm_up_n (by omega)).trans pm_up_s) rfl ?_
    refine pm_stk (st' := [.int (f 15), .ref (z + (m0 + 6))]) rfl ?_
    refine pm_stk (st' := [.int (nI t), .ref (z + (m0 + 6))]) (by rw [show (f 15) = (nI t) from by rw [hf15]]) ?_
    refine pm_iload_n B dX13_feed_35 rfl ?_
    refine pm_cast_n B dX13_feed_36 pm_up_s t (by first | assumption | omega) (by decide) ?_
    refine pm_mem (M' := pm_up (pm_up M m0 (pm_mo z m0 (upd f 6 0))) (m0 + 6) (.inl (kA 3, 60, .inl (upd gt t (vp_nar .char x))))) pm_up_up ?_
    refine pm_aload_n B dX13_feed_37 rfl ?_
    refine pm_dup B dX13_feed_38 rfl ?_
    refine pm_get B dX13_feed_39 fl_X13_205 ((pm_up_n (by omega)).trans pm_up_s) rfl ?_
    refine pm_stk (st' := [.int (f 15), .ref (z + m0)]) rfl ?_
    refine pm_stk (st' := [.int (nI t), .ref (z + m0)]) (by rw [show (f 15) = (nI t) from by rw [hf15]]) ?_
    refine pm_iconst (v := 1) B dX13_feed_42 (by decide) ?_
    refine pm_iadd B dX13_feed_43 ?_
    refine pm_stk (st' := [.int (nI (t + 1)), .ref (z + m0)]) (by rw [show ((nI t) + 1) = (nI (t + 1)) from (by rw [show (nI t) = nI t from rfl, show 1 = nI 1 from rfl, nI_add])]) ?_
    refine pm_put B dX13_feed_44 fs_X13_205 ((pm_up_n (by omega)).trans pm_up_s) rfl rfl rfl ?_
    refine pm_mem (M' := pm_up (pm_up (pm_up M m0 (pm_mo z m0 (upd f 6 0))) (m0 + 6) (.inl (kA 3, 60, .inl (upd gt t (vp_nar .char x))))) m0 (pm_mo z m0 (upd (upd f 6 0) 15 (nI (t + 1))))) rfl ?_
    refine pm_mem (M' := pm_up (pm_up M m0 (pm_mo z m0 (upd (upd f 6 0) 15 (nI (t + 1))))) (m0 + 6) (.inl (kA 3, 60, .inl (upd gt t (vp_nar .char x))))) (by rw [pm_up_sw (a := m0 + 6) (b := m0) (by omega), pm_up_up]) ?_
    refine pm_aload_n B dX13_feed_47 rfl ?_
    refine pm_get B dX13_feed_48 fl_X13_205 ((pm_up_n (by omega)).trans pm_up_s) rfl ?_
    refine pm_stk (st' := [.int (nI (t + 1))]) rfl ?_
    have hDq3 : (d_X13_feedB x t f gt) = ((nI (t + 1)), (upd (upd f 6 0) 15 (nI (t + 1))), (upd gt t (vp_nar .char x))) := by rw [d_X13_feedB, if_neg hq1]
    exact pm_ireturn B dX13_feed_51 rfl (by first | rfl | (apply pm_nz; first | assumption | decide | exact pm_in01 _ _ _ | simp)) ⟨(by rw [hDq3]), rfl, by rw [hDq3]⟩ rfl rfl
  · refine pm_iconst (v := 1) B dX13_feed_10 (by decide) ?_
    refine pm_goto (tgt := 15) B dX13_feed_11 (by decide) ?_
    refine pm_put B dX13_feed_15 fs_X13_39 ((pm_up_n (by omega)).trans pm_up_s) rfl rfl rfl ?_
    refine pm_mem (M' := pm_up (pm_up (pm_up M m0 (pm_mo z m0 f)) (m0 + 6) (.inl (kA 3, 60, .inl gt))) m0 (pm_mo z m0 (upd f 6 1))) rfl ?_
    refine pm_mem (M' := pm_up (pm_up M m0 (pm_mo z m0 (upd f 6 1))) (m0 + 6) (.inl (kA 3, 60, .inl gt))) (by rw [pm_up_sw (a := m0 + 6) (b := m0) (by omega), pm_up_up]) ?_
    refine pm_aload_n B dX13_feed_18 rfl ?_
    refine pm_get B dX13_feed_19 fl_X13_39 ((pm_up_n (by omega)).trans pm_up_s) rfl ?_
    refine pm_stk (st' := [.int 1]) rfl ?_
    refine pm_if_le (tgt := 27) B dX13_feed_22 (by decide) (fun hq4 => absurd hq4 (by decide)) (fun hq4 => ?_)
    refine pm_iconst (v := 0) B dX13_feed_25 (by decide) ?_
    have hDq5 : (d_X13_feedB x t f gt) = (0, (upd f 6 1), gt) := by rw [d_X13_feedB, if_pos hq1]
    exact pm_ireturn B dX13_feed_26 rfl (by first | rfl | (apply pm_nz; first | assumption | decide | exact pm_in01 _ _ _ | simp)) ⟨(by rw [hDq5]), rfl, by rw [hDq5]⟩ rfl rfl
theorem pm_a_feed {x : Int32} {t : Nat} {tx to sc f gt : Nat → Int32} (h4 : sc 4 = nI t) (ht : t ≤ 60) : pm_AS (d_X12_feed x t tx to sc).1 (d_X12_feed x t tx to sc).2.1 ((d_X13_feedB x t f gt).2.1 6) (d_X13_feedB x t f gt).1 [(5, 1)] := by
  unfold d_X12_feed d_X13_feedB d_X9_isFull d_X9_append
  rw [h4]
  by_cases h6 : t = 60
  · subst h6
    rw [if_neg (show ¬ nI 60 < nI 60 by decide), if_neg (show ¬ (1 : Int32) = 0 by decide), if_pos (show nI 60 = 60 by rfl)]
    exact Or.inr ⟨(5, 1), List.mem_cons_self, rfl, (by dsimp only; rw [pk_us] <;> rfl)⟩
  · rw [if_pos (nI_lt (show t < 60 by omega) (by decide)), if_pos rfl, if_neg (nI_ge (show t < 60 by omega) (by decide)), if_neg (show ¬ nI t = 60 from fun e => h6 ((nI_eq (b := 60) (by omega) (by decide)).mp e))]
    exact Or.inl ⟨rfl, (by dsimp only; rw [pk_un (by decide), pk_us] <;> rfl), rfl⟩
theorem pm_s_fe {B t : Nat} {x : Int32} {g : pm_Cs} {h : pm_Ms} {L : Int32 × Int32 × Int32} (hRel : pm_Rel B g h L) (ht : t ≤ 60) (h4 : g.1 13 4 = nI t) (h15 : h.1 15 = nI t) (he : ∀ i, i < t → h.2 6 i = g.1 8 i) : pm_Rel (B + 693 * 11) (pm_kfe g (d_X12_feed x t (g.1 8) (g.1 12) (g.1 13)).2.2.1 (d_X12_feed x t (g.1 8) (g.1 12) (g.1 13)).2.2.2) (pm_hk (pm_hf h (d_X13_feedB x t h.1 (h.2 6)).2.1) 6 (d_X13_feedB x t h.1 (h.2 6)).2.2) L := by
  refine pm_Rel_le (B := B) (by omega) ?_
  obtain ⟨a, b, hsn, htx, hfa, hln, hl9, hl10, hl11, hl1, hl2⟩ := id hRel
  by_cases h6 : t = 60
  · have e1 : d_X12_feed x t (g.1 8) (g.1 12) (g.1 13) = (5, 0, g.1 8, g.1 13) := by
      unfold d_X12_feed d_X9_isFull
      rw [h4, h6, if_neg (show ¬ nI 60 < nI 60 by decide), if_neg (show ¬ (1 : Int32) = 0 by decide)]
    have e2 : d_X13_feedB x t h.1 (h.2 6) = (0, upd h.1 6 1, h.2 6) := by
      unfold d_X13_feedB
      rw [h6, if_pos (show nI 60 = 60 by rfl)]
    rw [e1, e2]
    refine pm_Rel_cg hRel (fun j hj => ?_) rfl rfl (fun j hj => pk_un (by omega)) (fun j hj => ?_)
    · rcases hj with rfl | rfl | rfl | rfl | rfl | rfl <;> rfl
    · rcases hj with rfl | rfl | rfl | rfl | rfl <;> rfl
  · have e1 : d_X12_feed x t (g.1 8) (g.1 12) (g.1 13) = (0, nI (t + 1), upd (g.1 8) t (vp_nar .char x), upd (g.1 13) 4 (nI (t + 1))) := by
      unfold d_X12_feed d_X9_isFull d_X9_append
      rw [h4, if_pos (nI_lt (show t < 60 by omega) (by decide)), if_pos rfl, if_neg (nI_ge (show t < 60 by omega) (by decide))]
    have e2 : d_X13_feedB x t h.1 (h.2 6) = (nI (t + 1), upd (upd h.1 6 0) 15 (nI (t + 1)), upd (h.2 6) t (vp_nar .char x)) := by
      unfold d_X13_feedB
      rw [if_neg (show ¬ nI t = 60 from fun e => h6 ((nI_eq (b := 60) (by omega) (by decide)).mp e))]
    rw [e1, e2]
    have fo : ∀ j, j ≠ 15 → j ≠ 6 → upd (upd h.1 6 0) 15 (nI (t + 1)) j = h.1 j := fun j a b => (pk_un a).trans (pk_un b)
    refine ⟨a, ⟨b.1, b.2.1, (fo 5 (by decide) (by decide)).trans b.2.2.1, b.2.2.2⟩, ?_, ⟨t + 1, by omega, ?_, ?_, fun i hi => ?_⟩, ?_, ?_, ?_⟩
    · show (g.1 12 9 = 0 ∧ upd (upd h.1 6 0) 15 (nI (t + 1)) 3 = 0) ∨ (¬ g.1 12 9 = 0 ∧ ¬ upd (upd h.1 6 0) 15 (nI (t + 1)) 3 = 0 ∧ ∃ n, pm_RS n (g.1 2) (h.2 3) ∧ pm_I B n (g.1 2))
      rw [fo 3 (by decide) (by decide)]; exact hsn
    · show upd (g.1 13) 4 (nI (t + 1)) 4 = nI (t + 1)
      exact pk_us
    · show upd (upd h.1 6 0) 15 (nI (t + 1)) 15 = nI (t + 1)
      exact pk_us
    · show upd (h.2 6) t (vp_nar .char x) i = upd (g.1 8) t (vp_nar .char x) i
      by_cases hit : i = t
      · subst hit; rw [pk_us, pk_us]
      · rw [pk_un hit, pk_un hit]; exact he i (by omega)
    · show (g.1 12 10 = 0 ∧ upd (upd h.1 6 0) 15 (nI (t + 1)) 18 = -1) ∨ (¬ g.1 12 10 = 0 ∧ upd (upd h.1 6 0) 15 (nI (t + 1)) 18 = g.1 12 11 ∧ ¬ g.1 12 11 < 0)
      rw [fo 18 (by decide) (by decide)]; exact hfa
    · show g.2.2.1 2 ≤ 16 ∧ upd (upd h.1 6 0) 15 (nI (t + 1)) 22 = nI (g.2.2.1 2) ∧ ∀ i, i < g.2.2.1 2 → ∃ q, q < 128 ∧ g.1 14 i = nI q ∧ h.2 8 i = nI q
      rw [fo 22 (by decide) (by decide)]; exact hln
    · exact ⟨(fo 9 (by decide) (by decide)).trans hl9, (fo 10 (by decide) (by decide)).trans hl10, (fo 11 (by decide) (by decide)).trans hl11, hl1, hl2⟩
theorem pm_dmL {n s0 : Nat} {g : Nat → Int32} (hn : 0 < n) (h7 : n ≤ 7) (hs : s0 < 1024) : ∀ (k j : Nat) (a : Int32) (f : Nat → Int32), f 13 = nI (pm_ds n s0 j).1 → (d_X13_drawnMember_L1 n g k j (nI (pm_ds n s0 j).2) a f).2.1 = (if k = 0 then a else nI (pm_dm n (pm_ds n s0 (j + k - 1)).1 (pm_ds n s0 (j + k - 1)).2)) ∧ ∀ q, q ≠ 13 → (d_X13_drawnMember_L1 n g k j (nI (pm_ds n s0 j).2) a f).2.2 q = f q := by
  intro k
  induction k with
  | zero => intro j a f _; exact ⟨(if_pos rfl).symm, fun _ _ => rfl⟩
  | succ k ih =>
    intro j a f hf
    have b := pm_ds_lt (n := n) hn h7 hs j
    have d := pm_dm_lt (sd := (pm_ds n s0 j).1) (ds := (pm_ds n s0 j).2) hn h7
    have ed : d_X13_draws (pm_ds n s0 j).2 n f g = (nI (pm_dm n (pm_ds n s0 j).1 (pm_ds n s0 j).2), upd f 13 (nI (pm_ds n s0 (j + 1)).1)) := by
      unfold d_X13_draws
      rw [hf, pm_n_nI (by omega), d.2]
      rfl
    have es : nI ((pm_ds n s0 j).2 ||| 2 ^ (pm_dm n (pm_ds n s0 j).1 (pm_ds n s0 j).2)) = nI (pm_ds n s0 (j + 1)).2 := rfl
    simp only [d_X13_drawnMember_L1, pm_n_nI (show (pm_ds n s0 j).2 < 2 ^ 31 by have := b.2; omega), ed, pm_n_nI (show pm_dm n (pm_ds n s0 j).1 (pm_ds n s0 j).2 < 2 ^ 31 by omega), es]
    obtain ⟨q1, q2⟩ := ih (j + 1) (nI (pm_dm n (pm_ds n s0 j).1 (pm_ds n s0 j).2)) (upd f 13 (nI (pm_ds n s0 (j + 1)).1)) pk_us
    refine ⟨q1.trans ?_, fun q hq => (q2 q hq).trans (pk_un hq)⟩
    rw [if_neg (show ¬ k + 1 = 0 by omega)]
    by_cases hk : k = 0
    · subst hk
      rw [if_pos rfl, show j + (0 + 1) - 1 = j by omega]
    · rw [if_neg hk, show j + 1 + k - 1 = j + (k + 1) - 1 by omega]
theorem pm_a_drawnMember {n : Nat} {x : Int32} {r g f dr to : Nat → Int32} (hRS : pm_RS n r g) (h7 : n ≤ 7) (hsd : r 2 = nI (pm_n (r 2))) (hsl : pm_n (r 2) < 1024) : pm_AS (d_X12_drawnMember x n r dr to).1 (d_X12_drawnMember x n r dr to).2.1 ((d_X13_drawnMember x n f g).2 6) (d_X13_drawnMember x n f g).1 [(4, 1)] ∧ ∀ j, j ≠ 6 → j ≠ 13 → (d_X13_drawnMember x n f g).2 j = f j := by
  unfold d_X12_drawnMember d_X13_drawnMember
  rw [pm_hm (r := r) h7]
  by_cases hm : d_X10_hasMember x n r = 0
  · rw [if_pos hm, if_pos hm, hm]
    have e : (if x < 0 then ((0 : Int32), (upd (upd f 13 (g 2)) 6 (pm_th 0))) else (0, (upd (upd f 13 (g 2)) 6 (pm_th 0)))) = (0, (upd (upd f 13 (g 2)) 6 (pm_th 0))) := by split <;> rfl
    rw [e]
    exact ⟨Or.inr ⟨(4, 1), List.mem_cons_self, rfl, (by dsimp only; rw [pk_us] <;> rfl)⟩, fun j a b => (pk_un a).trans (pk_un b)⟩
  · rw [if_neg hm, if_neg hm]
    obtain ⟨i, hi, rfl⟩ := pm_hmx h7 hm
    have hn0 : 0 < n := by omega
    rw [pm_n_nI (by omega), show pm_th (d_X10_hasMember (nI i) n r) = 0 from if_neg hm]
    have f13 : upd (upd f 13 (g 2)) 6 0 13 = nI (pm_ds n (pm_n (r 2)) 0).1 := by
      rw [pk_un (by decide), pk_us, hRS.1.2.2.1]
      exact hsd
    obtain ⟨q1, q2⟩ := pm_dmL (g := g) hn0 h7 hsl (i + 1) 0 0 (upd (upd f 13 (g 2)) 6 0) f13
    have z0 : nI (pm_ds n (pm_n (r 2)) 0).2 = 0 := rfl
    rw [z0] at q1 q2
    obtain ⟨d1, d2, d3⟩ := pm_drC hn0 h7 hsl (show i + 1 ≤ n by omega) (i + 1) 0 dr (by omega)
    have dd : d_X7_drawMembers (i + 1) n r dr = ((d_X7_drawMembers_L1 n (i + 1) 0 (nI (pm_n (r 2))) 0 dr).1, (d_X7_drawMembers_L1 n (i + 1) 0 (nI (pm_n (r 2))) 0 dr).2.2) := by unfold d_X7_drawMembers; rw [if_neg (nI_ne0 hn0 (by omega))]
    refine ⟨Or.inl ⟨rfl, ?_, ?_⟩, fun j a b => (q2 j b).trans ((pk_un a).trans (pk_un b))⟩
    · exact (q2 6 (by decide)).trans pk_us
    · rw [dd]
      refine ((d2 i (Nat.zero_le _) (by omega)).trans ?_).trans q1.symm
      rw [if_neg (by omega), show 0 + (i + 1) - 1 = i by omega]
set_option maxHeartbeats 1000000 in
theorem pm_op_19 {l : Launch} {z : Nat} {D : va_G} {kA : Nat → ClassId} {kE : Nat → Nat} {nm : String} {tb : List ExceptionTableEntry} {mc ms : Nat} {X : pm_X} {cu su : Nat} {Q : State → Prop} {nx : Nat} {M : pm_M} {b N i Bd : Nat} {xs : Nat → Int32} (B : pm_B l z D kA kE RL code 9 ret nm tb 2048 mc ms X) (hXs : va_X b N xs X.2.2.2.1 X.2.2.2.1.heap) (hbz : b < z) (hiN : i + 4 ≤ N) (hN : N ≤ 2048) (hcu : cu + 25 ≤ mc) (hsu : su + 78 ≤ ms) (hJ : pm_J z kA kE nx M Bd)
    (next : ∀ nx' M', nx ≤ nx' → pm_J z kA kE nx' M' (Bd + 693 * 11) → pm_G l z D X (cu + 25) (su + 78) Q nx' M' 2623 [some (.ref b), some (.ref (z + 0)), some (.ref (z + 140)), some (.ref (z + 149)), some (.ref (z + 150)), some (.int (nI i)), none, none, none] []) : pm_G l z D X cu su Q nx M 1298 [some (.ref b), some (.ref (z + 0)), some (.ref (z + 140)), some (.ref (z + 149)), some (.ref (z + 150)), some (.int (nI i)), none, none, none] [] := by
  obtain ⟨hnx, g, h, L, fo, fd, hT, hTM, hL, h149, h150, hRel⟩ := hJ
  obtain ⟨⟨n, hRS, hI⟩, ⟨ho, hk8, hf5, -⟩, -⟩ := id hRel
  have hn := hI.1.1
  have h7 := hI.1.2.1
  have hgn : h.2 1 0 = nI n := hRS.1.1.trans hn
  have hsd := hI.1.2.2.2.1
  have hgd : h.2 1 2 = nI (pm_n (h.2 1 2)) := by rw [hRS.1.2.2.1]; exact hsd.1
  have hgl : pm_n (h.2 1 2) < 1024 := by rw [hRS.1.2.2.1]; exact hsd.2
  obtain ⟨-, -, hRs, hRt, hRf, hRl, hR9, hR10, hR11, hR1, hR2⟩ := id hRel
  have hA := pm_a_drawnMember (x := xs (i + 1)) (f := h.1) (dr := g.1 5) (to := g.1 12) hRS h7 hsd.1 hsd.2
  have hC := pm_nas (hl := [("java/util/NoSuchElementException", 1)]) (hn := [(4, 1)]) (f_X12_drawnMember (l := l) (D := D) (x := xs (i + 1)) hT hn h7 hsd.1 hsd.2) hL (hA.1) (by decide +kernel)
  refine pm_lw_19 (Bd := Bd) (L := L) (fo := fo) (fd := fd) (N := N) (xs := xs) (dW := 21) (mcW := 2) (msW := 12) (dX := 2) (h2 := (pm_hf h ((d_X13_drawnMember (xs (i + 1)) n h.1 (h.2 1)).2))) (mv := (d_X13_drawnMember (xs (i + 1)) n h.1 (h.2 1)).1) rfl (by decide) (by decide) rfl B hXs hbz hiN hN hcu hsu hnx hT h150
    (pm_CwPost (c_L_drawnMember (w := 149) (N := 1) (f := fo) (by decide) (by decide) hT.1 hC (fun v n' M1 hp => ⟨pm_clV hp, (hp.1 149 (by decide) (by omega)).trans h149⟩) (fun E n' M1 hp => by
      obtain ⟨e, he, rfl⟩ := pm_clE hp
      simp only [List.mem_cons, List.not_mem_nil, or_false] at he
      rw [he])) (fun o n' M' hp => pm_wrN hTM h149 hnx (by decide +kernel) (by decide +kernel) hp))
    (fun n' M' hT' => ⟨_, c_X13_drawnMember hT'.1 hT'.2.1 hgn h7 hgd hgl, (pm_TM_f hT'), fun a ha => by rw [pm_up_n (by omega)]⟩) (fun kc v g2 L2 hR => ?_) next
  obtain ⟨rfl, rfl, e6, hv⟩ := hR
  exact ⟨e6.symm, hv, pm_Rel_le (by omega) (pm_Rel_cg hRel (fun j hj => by rcases hj with rfl | rfl | rfl | rfl | rfl | rfl <;> rfl) rfl rfl (fun j hj => hA.2 j (by omega) (by omega)) (fun j hj => by rcases hj with rfl | rfl | rfl | rfl | rfl <;> rfl))⟩
set_option maxHeartbeats 1000000 in
theorem pm_op_41 {l : Launch} {z : Nat} {D : va_G} {kA : Nat → ClassId} {kE : Nat → Nat} {nm : String} {tb : List ExceptionTableEntry} {mc ms : Nat} {X : pm_X} {cu su : Nat} {Q : State → Prop} {nx : Nat} {M : pm_M} {b N i Bd : Nat} {xs : Nat → Int32} (B : pm_B l z D kA kE RL code 9 ret nm tb 2048 mc ms X) (hXs : va_X b N xs X.2.2.2.1 X.2.2.2.1.heap) (hbz : b < z) (hiN : i + 4 ≤ N) (hN : N ≤ 2048) (hcu : cu + 25 ≤ mc) (hsu : su + 78 ≤ ms) (hJ : pm_J z kA kE nx M Bd)
    (next : ∀ nx' M', nx ≤ nx' → pm_J z kA kE nx' M' (Bd + 693 * 11) → pm_G l z D X (cu + 25) (su + 78) Q nx' M' 2623 [some (.ref b), some (.ref (z + 0)), some (.ref (z + 140)), some (.ref (z + 149)), some (.ref (z + 150)), some (.int (nI i)), none, none, none] []) : pm_G l z D X cu su Q nx M 2119 [some (.ref b), some (.ref (z + 0)), some (.ref (z + 140)), some (.ref (z + 149)), some (.ref (z + 150)), some (.int (nI i)), none, none, none] [] := by
  obtain ⟨hnx, g, h, L, fo, fd, hT, hTM, hL, h149, h150, hRel⟩ := hJ
  obtain ⟨⟨n, hRS, hI⟩, ⟨ho, hk8, hf5, -⟩, -⟩ := id hRel
  have hn := hI.1.1
  have h7 := hI.1.2.1
  have hgn : h.2 1 0 = nI n := hRS.1.1.trans hn
  have hsd := hI.1.2.2.2.1
  have hgd : h.2 1 2 = nI (pm_n (h.2 1 2)) := by rw [hRS.1.2.2.1]; exact hsd.1
  have hgl : pm_n (h.2 1 2) < 1024 := by rw [hRS.1.2.2.1]; exact hsd.2
  obtain ⟨-, -, hRs, ⟨t, ht, h4, h15, he⟩, -⟩ := id hRel
  have hC := pm_nas (hl := [("java/lang/IllegalStateException", 1)]) (hn := [(5, 1)]) (f_X12_feed (l := l) (D := D) (x := ((xs (i + 1)).toUInt32 % 65536).toInt32) hT h4 ht) hL (pm_a_feed (f := h.1) (gt := h.2 6) h4 ht) (by decide +kernel)
  refine pm_lw_41 (Bd := Bd) (L := L) (fo := fo) (fd := fd) (N := N) (xs := xs) (dW := 21) (mcW := 2) (msW := 12) (dX := 0) (h2 := (pm_hk (pm_hf h (d_X13_feedB ((xs (i + 1)).toUInt32 % 65536).toInt32 t h.1 (h.2 6)).2.1) 6 (d_X13_feedB ((xs (i + 1)).toUInt32 % 65536).toInt32 t h.1 (h.2 6)).2.2)) (mv := (d_X13_feedB ((xs (i + 1)).toUInt32 % 65536).toInt32 t h.1 (h.2 6)).1) rfl (by decide) (by decide) rfl B hXs hbz hiN hN hcu hsu hnx hT h150
    (pm_CwPost (c_L_feed (w := 149) (N := 1) (f := fo) (by decide) (by decide) hT.1 hC (fun v n' M1 hp => ⟨pm_clV hp, (hp.1 149 (by decide) (by omega)).trans h149⟩) (fun E n' M1 hp => by
      obtain ⟨e, he, rfl⟩ := pm_clE hp
      simp only [List.mem_cons, List.not_mem_nil, or_false] at he
      rw [he])) (fun o n' M' hp => pm_wrN hTM h149 hnx (by decide +kernel) (by decide +kernel) hp))
    (fun n' M' hT' => ⟨_, c_X13_feedB hT'.1 hT'.2.2.2.2.2.2.1 h15 ht, pm_TM_6 (pm_TM_f hT'), fun a ha => by rw [pm_up_n (by omega), pm_up_n (by omega)]⟩) (fun kc v g2 L2 hR => ?_) next
  obtain ⟨rfl, rfl, e6, hv⟩ := hR
  exact ⟨e6.symm, hv, pm_s_fe hRel ht h4 h15 he⟩
