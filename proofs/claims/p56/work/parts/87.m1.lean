/-! the law: votesOf, activeSet -/
theorem dL_votesOf_0 : decode cL_votesOf 0 = .ok (.iconst 0, 1) := by decide +kernel
theorem dL_votesOf_1 : decode cL_votesOf 1 = .ok (.istore_n 2, 1) := by decide +kernel
theorem dL_votesOf_2 : decode cL_votesOf 2 = .ok (.iconst 0, 1) := by decide +kernel
theorem dL_votesOf_3 : decode cL_votesOf 3 = .ok (.istore_n 3, 1) := by decide +kernel
theorem dL_votesOf_4 : decode cL_votesOf 4 = .ok (.iload_n 3, 1) := by decide +kernel
theorem dL_votesOf_5 : decode cL_votesOf 5 = .ok (.aload_n 0, 1) := by decide +kernel
theorem dL_votesOf_6 : decode cL_votesOf 6 = .ok (.invokevirtual 177, 3) := by decide +kernel
theorem dL_votesOf_9 : decode cL_votesOf 9 = .ok (.if_icmp .ge 30, 3) := by decide +kernel
theorem dL_votesOf_12 : decode cL_votesOf 12 = .ok (.iload_n 2, 1) := by decide +kernel
theorem dL_votesOf_13 : decode cL_votesOf 13 = .ok (.iload_n 1, 1) := by decide +kernel
theorem dL_votesOf_14 : decode cL_votesOf 14 = .ok (.iload_n 3, 1) := by decide +kernel
theorem dL_votesOf_15 : decode cL_votesOf 15 = .ok (.ishr, 1) := by decide +kernel
theorem dL_votesOf_16 : decode cL_votesOf 16 = .ok (.iconst 1, 1) := by decide +kernel
theorem dL_votesOf_17 : decode cL_votesOf 17 = .ok (.iand, 1) := by decide +kernel
theorem dL_votesOf_18 : decode cL_votesOf 18 = .ok (.iconst 1, 1) := by decide +kernel
theorem dL_votesOf_19 : decode cL_votesOf 19 = .ok (.if_icmp .ne 11, 3) := by decide +kernel
theorem dL_votesOf_22 : decode cL_votesOf 22 = .ok (.aload_n 0, 1) := by decide +kernel
theorem dL_votesOf_23 : decode cL_votesOf 23 = .ok (.iload_n 3, 1) := by decide +kernel
theorem dL_votesOf_24 : decode cL_votesOf 24 = .ok (.invokevirtual 27, 3) := by decide +kernel
theorem dL_votesOf_27 : decode cL_votesOf 27 = .ok (.goto 4, 3) := by decide +kernel
theorem dL_votesOf_30 : decode cL_votesOf 30 = .ok (.iconst 0, 1) := by decide +kernel
theorem dL_votesOf_31 : decode cL_votesOf 31 = .ok (.iadd, 1) := by decide +kernel
theorem dL_votesOf_32 : decode cL_votesOf 32 = .ok (.istore_n 2, 1) := by decide +kernel
theorem dL_votesOf_33 : decode cL_votesOf 33 = .ok (.iinc 3 1, 3) := by decide +kernel
theorem dL_votesOf_36 : decode cL_votesOf 36 = .ok (.goto (-32), 3) := by decide +kernel
theorem dL_votesOf_39 : decode cL_votesOf 39 = .ok (.iload_n 2, 1) := by decide +kernel
theorem dL_votesOf_40 : decode cL_votesOf 40 = .ok (.ireturn, 1) := by decide +kernel
theorem mt_L_votesOf : pm_Mt yL_votesOf cL_votesOf 4 (some .int) 2 := ⟨pm_T_in 1033 (by decide +kernel) (by decide +kernel), pm_T_in 34 (by decide +kernel) (by decide +kernel), ⟨by decide +kernel, by decide +kernel, by decide +kernel⟩, by decide +kernel, by decide⟩
theorem dL_activeSet_0 : decode cL_activeSet 0 = .ok (.iconst 0, 1) := by decide +kernel
theorem dL_activeSet_1 : decode cL_activeSet 1 = .ok (.istore_n 1, 1) := by decide +kernel
theorem dL_activeSet_2 : decode cL_activeSet 2 = .ok (.iconst 0, 1) := by decide +kernel
theorem dL_activeSet_3 : decode cL_activeSet 3 = .ok (.istore_n 2, 1) := by decide +kernel
theorem dL_activeSet_4 : decode cL_activeSet 4 = .ok (.iload_n 2, 1) := by decide +kernel
theorem dL_activeSet_5 : decode cL_activeSet 5 = .ok (.aload_n 0, 1) := by decide +kernel
theorem dL_activeSet_6 : decode cL_activeSet 6 = .ok (.invokevirtual 177, 3) := by decide +kernel
theorem dL_activeSet_9 : decode cL_activeSet 9 = .ok (.if_icmp .ge 29, 3) := by decide +kernel
theorem dL_activeSet_12 : decode cL_activeSet 12 = .ok (.iload_n 1, 1) := by decide +kernel
theorem dL_activeSet_13 : decode cL_activeSet 13 = .ok (.aload_n 0, 1) := by decide +kernel
theorem dL_activeSet_14 : decode cL_activeSet 14 = .ok (.iload_n 2, 1) := by decide +kernel
theorem dL_activeSet_15 : decode cL_activeSet 15 = .ok (.invokevirtual 30, 3) := by decide +kernel
theorem dL_activeSet_18 : decode cL_activeSet 18 = .ok (.bipush 98, 2) := by decide +kernel
theorem dL_activeSet_20 : decode cL_activeSet 20 = .ok (.if_icmp .ne 7, 3) := by decide +kernel
theorem dL_activeSet_23 : decode cL_activeSet 23 = .ok (.iconst 0, 1) := by decide +kernel
theorem dL_activeSet_24 : decode cL_activeSet 24 = .ok (.goto 6, 3) := by decide +kernel
theorem dL_activeSet_27 : decode cL_activeSet 27 = .ok (.iconst 1, 1) := by decide +kernel
theorem dL_activeSet_28 : decode cL_activeSet 28 = .ok (.iload_n 2, 1) := by decide +kernel
theorem dL_activeSet_29 : decode cL_activeSet 29 = .ok (.ishl, 1) := by decide +kernel
theorem dL_activeSet_30 : decode cL_activeSet 30 = .ok (.ior, 1) := by decide +kernel
theorem dL_activeSet_31 : decode cL_activeSet 31 = .ok (.istore_n 1, 1) := by decide +kernel
theorem dL_activeSet_32 : decode cL_activeSet 32 = .ok (.iinc 2 1, 3) := by decide +kernel
theorem dL_activeSet_35 : decode cL_activeSet 35 = .ok (.goto (-31), 3) := by decide +kernel
theorem dL_activeSet_38 : decode cL_activeSet 38 = .ok (.iload_n 1, 1) := by decide +kernel
theorem dL_activeSet_39 : decode cL_activeSet 39 = .ok (.ireturn, 1) := by decide +kernel
theorem mt_L_activeSet : pm_Mt yL_activeSet cL_activeSet 3 (some .int) 1 := ⟨pm_T_in 986 (by decide +kernel) (by decide +kernel), pm_T_in 34 (by decide +kernel) (by decide +kernel), ⟨by decide +kernel, by decide +kernel, by decide +kernel⟩, by decide +kernel, by decide⟩
def w_L_votesOf_1 (r : (Nat → Int32)) (x : Int32) (x0 : Int32) : Nat → Int32
  | 0 => x0
  | j1 + 1 => ((w_L_votesOf_1 r x x0 j1) + ((if ((x >>> ((nI j1) &&& 31)) &&& 1) = 1 then (r (7 + 6 * j1 + 1)) else 0) : Int32))
set_option maxRecDepth 100000 in
set_option maxHeartbeats 8000000 in
theorem c_L_votesOf {l : Launch} {z : Nat} {D : va_G} {kA : Nat → ClassId} {kE : Nat → Nat} {B n : Nat} {r : Nat → Int32} {hs : List (Nat → Int32)} {u : Nat × List Nat} {ar : List (Nat × va_E)} {x : Int32} (hI : pm_I B n r) : ∀ nx M, (pw_W z kA kE (B, r, hs, u) ar) nx M → pm_C l z D kA kE yL_votesOf cL_votesOf 4 (some .int) 40 32 192 [.ref (z + 0), .int x] nx M (pw_P (some (.int (w_L_votesOf_1 r x 0 n))) (pw_W z kA kE (B, r, hs, u) ar)) := by
  refine pw_mk (own := RL) (nm := "votesOf") mt_L_votesOf rfl rfl rfl rfl fun X B9 => ?_
  have h7 : n ≤ 7 := hI.1.2.1
  refine pw_l (fun _ _ _ _ k => pm_loc (L' := [some (.ref (z + 0)), some (.int x), none, none]) rfl k) ?_
  refine pw_l (fun _ _ _ _ k => pm_iconst (v := 0) B9 dL_votesOf_0 (by decide) k) ?_
  refine pw_l (fun _ _ _ _ k => pm_istore_n B9 dL_votesOf_1 rfl rfl k) ?_
  refine pw_l (fun _ _ _ _ k => pm_loc (L' := [some (.ref (z + 0)), some (.int x), some (.int 0), none]) rfl k) ?_
  refine pw_l (fun _ _ _ _ k => pm_iconst (v := 0) B9 dL_votesOf_2 (by decide) k) ?_
  refine pw_l (fun _ _ _ _ k => pm_istore_n B9 dL_votesOf_3 rfl rfl k) ?_
  refine pw_l (fun _ _ _ _ k => pm_loc (L' := [some (.ref (z + 0)), some (.int x), some (.int 0), some (.int 0)]) rfl k) ?_
  refine pw_l (fun _ _ _ _ k => pm_loc (L' := [some (.ref (z + 0)), some (.int x), some (.int 0), some (.int (nI 0))]) (congrArg (fun yy : Int32 => ([some (.ref (z + 0)), some (.int x), some (.int 0), some (.int yy)] : List (Option Value))) rfl) k) ?_
  have hx1 : pw_J l z D X 32 192 (pm_Q z D (pw_P (some (.int (w_L_votesOf_1 r x 0 n))) (pw_W z kA kE (B, r, hs, u) ar)) 32 192 X) (pw_W z kA kE (B, r, hs, u) ar) (32 - (8 * 4) + 0) (192 - (8 * 24) + 0) 39 [none, none, some (.int (w_L_votesOf_1 r x 0 n)), none] [] := by
    refine pw_l (fun _ _ _ _ k => pm_iload_n B9 dL_votesOf_39 rfl k) ?_
    exact fun cu su nx M h1 h2 hW => pm_ireturn B9 dL_votesOf_40 rfl (rfl) ⟨rfl, hW⟩ (Nat.ble_eq_true_of_le (by omega)) (Nat.ble_eq_true_of_le (by omega))
  have loop1 : ∀ k1 j1 : Nat, j1 + k1 = n → ∀ (a2_1 : Int32), a2_1 = (w_L_votesOf_1 r x 0 j1) → pw_J l z D X 32 192 (pm_Q z D (pw_P (some (.int (w_L_votesOf_1 r x 0 n))) (pw_W z kA kE (B, r, hs, u) ar)) 32 192 X) (pw_W z kA kE (B, r, hs, u) ar) (k1 * 4 + (4 + (32 - (8 * 4) + 0))) (k1 * 24 + (24 + (192 - (8 * 24) + 0))) 4 [some (.ref (z + 0)), some (.int x), some (.int a2_1), some (.int (nI j1))] [] := by
    intro k1
    induction k1 with
    | zero =>
      intro j1 hj1 a2_1 ea2_1
      have hjn1 : j1 = n := by omega
      refine pw_cr (c2 := (4 - (0) + (32 - (8 * 4) + 0))) (s2 := (24 - (0) + (192 - (8 * 24) + 0))) (by omega) (by omega) ?_
      refine pw_l (fun _ _ _ _ k => pm_iload_n B9 dL_votesOf_4 rfl k) ?_
      refine pw_l (fun _ _ _ _ k => pm_aload_n B9 dL_votesOf_5 rfl k) ?_
      refine pw_cV (As := []) (c2 := (4 - (2) + (32 - (8 * 4) + 0))) (s2 := (24 - (12) + (192 - (8 * 24) + 0))) B9 (fun _ _ hW => pw_0 hW) rfl (a_X12_memberCount hI) mt_X12_memberCount sv_L_177 dL_votesOf_6 rfl rfl rfl (by omega) (by omega) ?_
      refine pw_l (fun _ _ _ _ k => pm_stk (st' := [.int (nI n), .int (nI j1)]) rfl k) ?_
      refine pw_l (fun _ _ _ _ k => pm_icmp_ge (tgt := 39) B9 dL_votesOf_9 (by decide) (fun _ => k) (fun h => absurd ((by rw [show (nI n) = nI n from rfl, show (nI j1) = nI j1 from rfl]; exact (nI_leI (by omega) (by omega)).mpr (by omega))) h)) ?_
      refine pw_l (fun _ _ _ _ k => pm_wk (L' := [none, none, some (.int a2_1), none]) ⟨rfl, trivial⟩ k) ?_
      exact pw_cr (by omega) (by omega) (pw_eq (by first | with_reducible rfl | simp only [ea2_1, hjn1]) (by first | with_reducible rfl | simp only [ea2_1, hjn1]) rfl hx1)
    | succ k1 ih1 =>
      intro j1 hj1 a2_1 ea2_1
      have hjn1 : j1 < n := by omega
      refine pw_cr (c2 := (4 - (0) + (k1 * 4 + (4 + (32 - (8 * 4) + 0))))) (s2 := (24 - (0) + (k1 * 24 + (24 + (192 - (8 * 24) + 0))))) (by rw [Nat.succ_mul]; omega) (by rw [Nat.succ_mul]; omega) ?_
      refine pw_l (fun _ _ _ _ k => pm_iload_n B9 dL_votesOf_4 rfl k) ?_
      refine pw_l (fun _ _ _ _ k => pm_aload_n B9 dL_votesOf_5 rfl k) ?_
      refine pw_cV (As := []) (c2 := (4 - (2) + (k1 * 4 + (4 + (32 - (8 * 4) + 0))))) (s2 := (24 - (12) + (k1 * 24 + (24 + (192 - (8 * 24) + 0))))) B9 (fun _ _ hW => pw_0 hW) rfl (a_X12_memberCount hI) mt_X12_memberCount sv_L_177 dL_votesOf_6 rfl rfl rfl (by omega) (by omega) ?_
      refine pw_l (fun _ _ _ _ k => pm_stk (st' := [.int (nI n), .int (nI j1)]) rfl k) ?_
      refine pw_l (fun _ _ _ _ k => pm_icmp_ge (tgt := 39) B9 dL_votesOf_9 (by decide) (fun h => absurd h ((by rw [show (nI n) = nI n from rfl, show (nI j1) = nI j1 from rfl]; exact fun e => absurd ((nI_leI (by omega) (by omega)).mp e) (by omega)))) (fun _ => k)) ?_
      refine pw_l (fun _ _ _ _ k => pm_iload_n B9 dL_votesOf_12 rfl k) ?_
      refine pw_l (fun _ _ _ _ k => pm_iload_n B9 dL_votesOf_13 rfl k) ?_
      refine pw_l (fun _ _ _ _ k => pm_iload_n B9 dL_votesOf_14 rfl k) ?_
      refine pw_l (fun _ _ _ _ k => pm_ishr B9 dL_votesOf_15 k) ?_
      refine pw_l (fun _ _ _ _ k => pm_iconst (v := 1) B9 dL_votesOf_16 (by decide) k) ?_
      refine pw_l (fun _ _ _ _ k => pm_iand B9 dL_votesOf_17 k) ?_
      refine pw_l (fun _ _ _ _ k => pm_iconst (v := 1) B9 dL_votesOf_18 (by decide) k) ?_
      suffices hj3 : pw_J l z D X 32 192 (pm_Q z D (pw_P (some (.int (w_L_votesOf_1 r x 0 n))) (pw_W z kA kE (B, r, hs, u) ar)) 32 192 X) (pw_W z kA kE (B, r, hs, u) ar) (4 - (4) + (k1 * 4 + (4 + (32 - (8 * 4) + 0)))) (24 - (24) + (k1 * 24 + (24 + (192 - (8 * 24) + 0)))) 31 [some (.ref (z + 0)), some (.int x), none, some (.int (nI j1))] [.int ((if ((x >>> ((nI j1) &&& 31)) &&& 1) = 1 then (r (7 + 6 * j1 + 1)) else 0) : Int32), .int a2_1] by
        refine pw_l2 (fun _ _ _ _ k1 k2 => pm_icmp_ne (tgt := 30) B9 dL_votesOf_19 (by decide) k1 k2) (fun hq4 => ?_) (fun hq4 => ?_)
        · refine pw_l (fun _ _ _ _ k => pm_iconst (v := 0) B9 dL_votesOf_30 (by decide) k) ?_
          refine pw_l (fun _ _ _ _ k => pm_wk (L' := [some (.ref (z + 0)), some (.int x), none, some (.int (nI j1))]) ⟨rfl, ⟨rfl, ⟨rfl, trivial⟩⟩⟩ k) ?_
          exact pw_cr (by omega) (by omega) (pw_eq (by first | with_reducible rfl | ((try rw [if_neg hq4]); done) | simp only [if_neg hq4]) (by first | with_reducible rfl | ((try rw [if_neg hq4]); done) | simp only [if_neg hq4]) (by first | with_reducible rfl | ((try rw [if_neg hq4]); done) | simp only [if_neg hq4]) hj3)
        · refine pw_l (fun _ _ _ _ k => pm_aload_n B9 dL_votesOf_22 rfl k) ?_
          refine pw_l (fun _ _ _ _ k => pm_iload_n B9 dL_votesOf_23 rfl k) ?_
          refine pw_cV (As := [.int (nI j1)]) (c2 := (4 - (4) + (k1 * 4 + (4 + (32 - (8 * 4) + 0))))) (s2 := (24 - (24) + (k1 * 24 + (24 + (192 - (8 * 24) + 0))))) B9 (fun _ _ hW => pw_0 hW) rfl (a_X12_votes hI (i := j1) (by omega)) mt_X12_votes sv_L_27 dL_votesOf_24 rfl rfl rfl (by omega) (by omega) ?_
          refine pw_l (fun _ _ _ _ k => pm_stk (st' := [.int (r (7 + 6 * j1 + 1)), .int a2_1]) rfl k) ?_
          refine pw_l (fun _ _ _ _ k => pm_goto (tgt := 31) B9 dL_votesOf_27 (by decide) k) ?_
          refine pw_l (fun _ _ _ _ k => pm_wk (L' := [some (.ref (z + 0)), some (.int x), none, some (.int (nI j1))]) ⟨rfl, ⟨rfl, ⟨rfl, trivial⟩⟩⟩ k) ?_
          exact pw_cr (by omega) (by omega) (pw_eq (by first | with_reducible rfl | ((try rw [if_pos hq4]); done) | simp only [if_pos hq4]) (by first | with_reducible rfl | ((try rw [if_pos hq4]); done) | simp only [if_pos hq4]) (by first | with_reducible rfl | ((try rw [if_pos hq4]); done) | simp only [if_pos hq4]) hj3)
      refine pw_l (fun _ _ _ _ k => pm_iadd B9 dL_votesOf_31 k) ?_
      refine pw_l (fun _ _ _ _ k => pm_istore_n B9 dL_votesOf_32 rfl rfl k) ?_
      refine pw_l (fun _ _ _ _ k => pm_loc (L' := [some (.ref (z + 0)), some (.int x), some (.int (a2_1 + ((if ((x >>> ((nI j1) &&& 31)) &&& 1) = 1 then (r (7 + 6 * j1 + 1)) else 0) : Int32))), some (.int (nI j1))]) rfl k) ?_
      refine pw_l (fun _ _ _ _ k => pm_iinc B9 dL_votesOf_33 rfl rfl rfl k) ?_
      refine pw_l (fun _ _ _ _ k => pm_loc (L' := [some (.ref (z + 0)), some (.int x), some (.int (a2_1 + ((if ((x >>> ((nI j1) &&& 31)) &&& 1) = 1 then (r (7 + 6 * j1 + 1)) else 0) : Int32))), some (.int (nI (j1 + 1)))]) (by rw [show ((nI j1) : Int32) + Int32.ofInt 1 = (nI (j1 + 1)) from nI_1 _]; rfl) k) ?_
      refine pw_l (fun _ _ _ _ k => pm_goto (tgt := 4) B9 dL_votesOf_36 (by decide) k) ?_
      exact pw_cr (by omega) (by omega) (ih1 (j1 + 1) (by omega) _ (by subst ea2_1; first | rfl))
  exact pw_cr (by omega) (by omega) (loop1 n 0 (by omega) _ rfl)
def w_L_activeSet_1 (r : (Nat → Int32)) (x0 : Int32) : Nat → Int32
  | 0 => x0
  | j1 + 1 => ((w_L_activeSet_1 r x0 j1) ||| ((if (pw_st r j1) = 98 then 0 else (1 <<< ((nI j1) &&& 31))) : Int32))
set_option maxRecDepth 100000 in
set_option maxHeartbeats 8000000 in
theorem c_L_activeSet {l : Launch} {z : Nat} {D : va_G} {kA : Nat → ClassId} {kE : Nat → Nat} {B n : Nat} {r : Nat → Int32} {hs : List (Nat → Int32)} {u : Nat × List Nat} {ar : List (Nat × va_E)}  (hI : pm_I B n r) : ∀ nx M, (pw_W z kA kE (B, r, hs, u) ar) nx M → pm_C l z D kA kE yL_activeSet cL_activeSet 3 (some .int) 40 32 192 [.ref (z + 0)] nx M (pw_P (some (.int (w_L_activeSet_1 r 0 n))) (pw_W z kA kE (B, r, hs, u) ar)) := by
  refine pw_mk (own := RL) (nm := "activeSet") mt_L_activeSet rfl rfl rfl rfl fun X B9 => ?_
  have h7 : n ≤ 7 := hI.1.2.1
  refine pw_l (fun _ _ _ _ k => pm_loc (L' := [some (.ref (z + 0)), none, none]) rfl k) ?_
  refine pw_l (fun _ _ _ _ k => pm_iconst (v := 0) B9 dL_activeSet_0 (by decide) k) ?_
  refine pw_l (fun _ _ _ _ k => pm_istore_n B9 dL_activeSet_1 rfl rfl k) ?_
  refine pw_l (fun _ _ _ _ k => pm_loc (L' := [some (.ref (z + 0)), some (.int 0), none]) rfl k) ?_
  refine pw_l (fun _ _ _ _ k => pm_iconst (v := 0) B9 dL_activeSet_2 (by decide) k) ?_
  refine pw_l (fun _ _ _ _ k => pm_istore_n B9 dL_activeSet_3 rfl rfl k) ?_
  refine pw_l (fun _ _ _ _ k => pm_loc (L' := [some (.ref (z + 0)), some (.int 0), some (.int 0)]) rfl k) ?_
  refine pw_l (fun _ _ _ _ k => pm_loc (L' := [some (.ref (z + 0)), some (.int 0), some (.int (nI 0))]) (congrArg (fun yy : Int32 => ([some (.ref (z + 0)), some (.int 0), some (.int yy)] : List (Option Value))) rfl) k) ?_
  have hx1 : pw_J l z D X 32 192 (pm_Q z D (pw_P (some (.int (w_L_activeSet_1 r 0 n))) (pw_W z kA kE (B, r, hs, u) ar)) 32 192 X) (pw_W z kA kE (B, r, hs, u) ar) (32 - (8 * 4) + 0) (192 - (8 * 24) + 0) 38 [none, some (.int (w_L_activeSet_1 r 0 n)), none] [] := by
    refine pw_l (fun _ _ _ _ k => pm_iload_n B9 dL_activeSet_38 rfl k) ?_
    exact fun cu su nx M h1 h2 hW => pm_ireturn B9 dL_activeSet_39 rfl (rfl) ⟨rfl, hW⟩ (Nat.ble_eq_true_of_le (by omega)) (Nat.ble_eq_true_of_le (by omega))
  have loop1 : ∀ k1 j1 : Nat, j1 + k1 = n → ∀ (a1_1 : Int32), a1_1 = (w_L_activeSet_1 r 0 j1) → pw_J l z D X 32 192 (pm_Q z D (pw_P (some (.int (w_L_activeSet_1 r 0 n))) (pw_W z kA kE (B, r, hs, u) ar)) 32 192 X) (pw_W z kA kE (B, r, hs, u) ar) (k1 * 4 + (4 + (32 - (8 * 4) + 0))) (k1 * 24 + (24 + (192 - (8 * 24) + 0))) 4 [some (.ref (z + 0)), some (.int a1_1), some (.int (nI j1))] [] := by
    intro k1
    induction k1 with
    | zero =>
      intro j1 hj1 a1_1 ea1_1
      have hjn1 : j1 = n := by omega
      refine pw_cr (c2 := (4 - (0) + (32 - (8 * 4) + 0))) (s2 := (24 - (0) + (192 - (8 * 24) + 0))) (by omega) (by omega) ?_
      refine pw_l (fun _ _ _ _ k => pm_iload_n B9 dL_activeSet_4 rfl k) ?_
      refine pw_l (fun _ _ _ _ k => pm_aload_n B9 dL_activeSet_5 rfl k) ?_
      refine pw_cV (As := []) (c2 := (4 - (2) + (32 - (8 * 4) + 0))) (s2 := (24 - (12) + (192 - (8 * 24) + 0))) B9 (fun _ _ hW => pw_0 hW) rfl (a_X12_memberCount hI) mt_X12_memberCount sv_L_177 dL_activeSet_6 rfl rfl rfl (by omega) (by omega) ?_
      refine pw_l (fun _ _ _ _ k => pm_stk (st' := [.int (nI n), .int (nI j1)]) rfl k) ?_
      refine pw_l (fun _ _ _ _ k => pm_icmp_ge (tgt := 38) B9 dL_activeSet_9 (by decide) (fun _ => k) (fun h => absurd ((by rw [show (nI n) = nI n from rfl, show (nI j1) = nI j1 from rfl]; exact (nI_leI (by omega) (by omega)).mpr (by omega))) h)) ?_
      refine pw_l (fun _ _ _ _ k => pm_wk (L' := [none, some (.int a1_1), none]) ⟨rfl, trivial⟩ k) ?_
      exact pw_cr (by omega) (by omega) (pw_eq (by first | with_reducible rfl | simp only [ea1_1, hjn1]) (by first | with_reducible rfl | simp only [ea1_1, hjn1]) rfl hx1)
    | succ k1 ih1 =>
      intro j1 hj1 a1_1 ea1_1
      have hjn1 : j1 < n := by omega
      refine pw_cr (c2 := (4 - (0) + (k1 * 4 + (4 + (32 - (8 * 4) + 0))))) (s2 := (24 - (0) + (k1 * 24 + (24 + (192 - (8 * 24) + 0))))) (by rw [Nat.succ_mul]; omega) (by rw [Nat.succ_mul]; omega) ?_
      refine pw_l (fun _ _ _ _ k => pm_iload_n B9 dL_activeSet_4 rfl k) ?_
      refine pw_l (fun _ _ _ _ k => pm_aload_n B9 dL_activeSet_5 rfl k) ?_
      refine pw_cV (As := []) (c2 := (4 - (2) + (k1 * 4 + (4 + (32 - (8 * 4) + 0))))) (s2 := (24 - (12) + (k1 * 24 + (24 + (192 - (8 * 24) + 0))))) B9 (fun _ _ hW => pw_0 hW) rfl (a_X12_memberCount hI) mt_X12_memberCount sv_L_177 dL_activeSet_6 rfl rfl rfl (by omega) (by omega) ?_
      refine pw_l (fun _ _ _ _ k => pm_stk (st' := [.int (nI n), .int (nI j1)]) rfl k) ?_
      refine pw_l (fun _ _ _ _ k => pm_icmp_ge (tgt := 38) B9 dL_activeSet_9 (by decide) (fun h => absurd h ((by rw [show (nI n) = nI n from rfl, show (nI j1) = nI j1 from rfl]; exact fun e => absurd ((nI_leI (by omega) (by omega)).mp e) (by omega)))) (fun _ => k)) ?_
      refine pw_l (fun _ _ _ _ k => pm_iload_n B9 dL_activeSet_12 rfl k) ?_
      refine pw_l (fun _ _ _ _ k => pm_aload_n B9 dL_activeSet_13 rfl k) ?_
      refine pw_l (fun _ _ _ _ k => pm_iload_n B9 dL_activeSet_14 rfl k) ?_
      refine pw_cV (As := [.int (nI j1)]) (c2 := (4 - (4) + (k1 * 4 + (4 + (32 - (8 * 4) + 0))))) (s2 := (24 - (24) + (k1 * 24 + (24 + (192 - (8 * 24) + 0))))) B9 (fun _ _ hW => pw_0 hW) rfl (a_X12_standing hI (i := j1) (by omega)) mt_X12_standing sv_L_30 dL_activeSet_15 rfl rfl rfl (by omega) (by omega) ?_
      refine pw_l (fun _ _ _ _ k => pm_stk (st' := [.int (pw_st r j1), .int a1_1]) rfl k) ?_
      refine pw_l (fun _ _ _ _ k => pm_bipush (v := 98) B9 dL_activeSet_18 (by decide) k) ?_
      suffices hj3 : pw_J l z D X 32 192 (pm_Q z D (pw_P (some (.int (w_L_activeSet_1 r 0 n))) (pw_W z kA kE (B, r, hs, u) ar)) 32 192 X) (pw_W z kA kE (B, r, hs, u) ar) (4 - (4) + (k1 * 4 + (4 + (32 - (8 * 4) + 0)))) (24 - (24) + (k1 * 24 + (24 + (192 - (8 * 24) + 0)))) 30 [some (.ref (z + 0)), none, some (.int (nI j1))] [.int ((if (pw_st r j1) = 98 then 0 else (1 <<< ((nI j1) &&& 31))) : Int32), .int a1_1] by
        refine pw_l2 (fun _ _ _ _ k1 k2 => pm_icmp_ne (tgt := 27) B9 dL_activeSet_20 (by decide) k1 k2) (fun hq4 => ?_) (fun hq4 => ?_)
        · refine pw_l (fun _ _ _ _ k => pm_iconst (v := 1) B9 dL_activeSet_27 (by decide) k) ?_
          refine pw_l (fun _ _ _ _ k => pm_iload_n B9 dL_activeSet_28 rfl k) ?_
          refine pw_l (fun _ _ _ _ k => pm_ishl B9 dL_activeSet_29 k) ?_
          refine pw_l (fun _ _ _ _ k => pm_wk (L' := [some (.ref (z + 0)), none, some (.int (nI j1))]) ⟨rfl, ⟨rfl, trivial⟩⟩ k) ?_
          exact pw_cr (by omega) (by omega) (pw_eq (by first | with_reducible rfl | ((try rw [if_neg hq4]); done) | simp only [if_neg hq4]) (by first | with_reducible rfl | ((try rw [if_neg hq4]); done) | simp only [if_neg hq4]) (by first | with_reducible rfl | ((try rw [if_neg hq4]); done) | simp only [if_neg hq4]) hj3)
        · refine pw_l (fun _ _ _ _ k => pm_iconst (v := 0) B9 dL_activeSet_23 (by decide) k) ?_
          refine pw_l (fun _ _ _ _ k => pm_goto (tgt := 30) B9 dL_activeSet_24 (by decide) k) ?_
          refine pw_l (fun _ _ _ _ k => pm_wk (L' := [some (.ref (z + 0)), none, some (.int (nI j1))]) ⟨rfl, ⟨rfl, trivial⟩⟩ k) ?_
          exact pw_cr (by omega) (by omega) (pw_eq (by first | with_reducible rfl | ((try rw [if_pos hq4]); done) | simp only [if_pos hq4]) (by first | with_reducible rfl | ((try rw [if_pos hq4]); done) | simp only [if_pos hq4]) (by first | with_reducible rfl | ((try rw [if_pos hq4]); done) | simp only [if_pos hq4]) hj3)
      refine pw_l (fun _ _ _ _ k => pm_ior B9 dL_activeSet_30 k) ?_
      refine pw_l (fun _ _ _ _ k => pm_istore_n B9 dL_activeSet_31 rfl rfl k) ?_
      refine pw_l (fun _ _ _ _ k => pm_loc (L' := [some (.ref (z + 0)), some (.int (a1_1 ||| ((if (pw_st r j1) = 98 then 0 else (1 <<< ((nI j1) &&& 31))) : Int32))), some (.int (nI j1))]) rfl k) ?_
      refine pw_l (fun _ _ _ _ k => pm_iinc B9 dL_activeSet_32 rfl rfl rfl k) ?_
      refine pw_l (fun _ _ _ _ k => pm_loc (L' := [some (.ref (z + 0)), some (.int (a1_1 ||| ((if (pw_st r j1) = 98 then 0 else (1 <<< ((nI j1) &&& 31))) : Int32))), some (.int (nI (j1 + 1)))]) (by rw [show ((nI j1) : Int32) + Int32.ofInt 1 = (nI (j1 + 1)) from nI_1 _]; rfl) k) ?_
      refine pw_l (fun _ _ _ _ k => pm_goto (tgt := 4) B9 dL_activeSet_35 (by decide) k) ?_
      exact pw_cr (by omega) (by omega) (ih1 (j1 + 1) (by omega) _ (by subst ea1_1; first | rfl))
  exact pw_cr (by omega) (by omega) (loop1 n 0 (by omega) _ rfl)
