/-! ThunderCartelModel: assignments, audits -/
def d_X13_doAssign_L1 (x : Int32) (n : Nat) (f : Nat → Int32) (g : Nat → Int32) (gq : Nat → Int32) : Nat → Nat → Int32 → (Nat → Int32) → (Int32 × (Nat → Int32))
  | 0, _, a2_1, g_1 => (a2_1, g_1)
  | k1 + 1, j1, a2_1, g_1 => if (g_1 (7 + 5 * j1 + 2)) = ((d_X13_apportions x (g 1) n f g gq) j1) then (d_X13_doAssign_L1 x n f g gq k1 (j1 + 1) (a2_1 + 0) (upd g_1 (7 + 5 * j1 + 2) ((d_X13_apportions x (g 1) n f g gq) j1))) else (d_X13_doAssign_L1 x n f g gq k1 (j1 + 1) (a2_1 + 1) (upd g_1 (7 + 5 * j1 + 2) ((d_X13_apportions x (g 1) n f g gq) j1)))
def d_X13_doAssign (x : Int32) (n : Nat) (f : Nat → Int32) (g : Nat → Int32) (gq : Nat → Int32) : (Int32 × (Nat → Int32) × (Nat → Int32) × (Nat → Int32)) := if (pm_in x 0 300) = 0 then (0, (upd f 6 1), g, gq) else (((d_X13_doAssign_L1 x n f g gq n 0 0 g).1), f, ((d_X13_doAssign_L1 x n f g gq n 0 0 g).2), (d_X13_apportions x (g 1) n f g gq))
set_option maxRecDepth 100000 in
set_option maxHeartbeats 8000000 in
theorem c_X13_doAssign {l : Launch} {z : Nat} {D : va_G} {kA : Nat → ClassId} {kE : Nat → Nat} {nx : Nat} {M : pm_M} {x : Int32} {n : Nat}{m0 : Nat} {f : Nat → Int32} {g : Nat → Int32} {gq : Nat → Int32} (hM : M m0 = some (pm_mo z m0 f)) (hg : M (m0 + 1) = some (.inl (kA 0, 91, .inl g))) (hgq : M (m0 + 5) = some (.inl (kA 0, 7, .inl gq))) (hn : g 0 = nI n) (h7 : n ≤ 7) (hOK : ¬ pm_in x 0 300 = 0 → ∀ f gq, pm_apOK x (g 1) n f g gq) : pm_C l z D kA kE yX13_doAssign cX13_doAssign 4 (some .int) 4 0 0 [.ref (z + m0), .int x] nx M (pm_rt (some (.int ((d_X13_doAssign x n f g gq).1))) nx (pm_up (pm_up (pm_up M m0 (pm_mo z m0 ((d_X13_doAssign x n f g gq).2.1))) (m0 + 1) (.inl (kA 0, 91, .inl ((d_X13_doAssign x n f g gq).2.2.1)))) (m0 + 5) (.inl (kA 0, 7, .inl ((d_X13_doAssign x n f g gq).2.2.2))))) := by
  refine pm_mk (own := RX13) (nm := "doAssign") mt_X13_doAssign rfl rfl rfl rfl fun X B => ?_
  refine pm_loc (L' := [some (.ref (z + m0)), some (.int x), none, none]) rfl ?_
  refine pm_mem (M' := pm_up (pm_up (pm_up M m0 (pm_mo z m0 f)) (m0 + 1) (.inl (kA 0, 91, .inl g))) (m0 + 5) (.inl (kA 0, 7, .inl gq))) (by rw [pm_up_id hM, pm_up_id hg, pm_up_id hgq]) ?_
  refine pm_iload_n B dX13_doAssign_0 rfl ?_
  refine pm_iconst (v := 0) B dX13_doAssign_1 (by decide) ?_
  refine pm_sipush (v := 300) B dX13_doAssign_2 (by decide) ?_
  refine pm_cS (As := [.int x, .int 0, .int 300]) (mc2 := 0) (ms2 := 0) B c_X13_in mt_X13_in ss_X13_70 dX13_doAssign_5 rfl rfl rfl rfl rfl ?_
  refine pm_stk (st' := [.int (pm_in x 0 300)]) rfl ?_
  refine pm_if_ne (tgt := 17) B dX13_doAssign_8 (by decide) (fun hq1 => ?_) (fun hq1 => ?_)
  · refine pm_aload_n B dX13_doAssign_17 rfl ?_
    refine pm_iload_n B dX13_doAssign_18 rfl ?_
    refine pm_aload_n B dX13_doAssign_19 rfl ?_
    refine pm_get B dX13_doAssign_20 fl_X13_9 ((pm_up_n (by omega)).trans ((pm_up_n (by omega)).trans pm_up_s)) rfl ?_
    refine pm_iconst (v := 1) B dX13_doAssign_23 (by decide) ?_
    refine pm_iald_n B dX13_doAssign_24 ((pm_up_n (by omega)).trans pm_up_s) 1 (by decide) (by decide) ?_
    refine pm_cV (As := [.int x, .int (g 1)]) (mc2 := 0) (ms2 := 0) B rfl ((pm_up_n (by omega)).trans ((pm_up_n (by omega)).trans pm_up_s)) rfl (c_X13_apportions (x := x) (y := (g 1)) (n := n) (f := f) (g := g) (gq := gq) ((pm_up_n (by omega)).trans ((pm_up_n (by omega)).trans pm_up_s)) ((pm_up_n (by omega)).trans pm_up_s) pm_up_s hn (by first | assumption | omega) (hOK (by assumption) _ _)) mt_X13_apportions sv_X13_127 dX13_doAssign_25 rfl rfl rfl rfl rfl ?_
    refine pm_mem (M' := pm_up (pm_up (pm_up (pm_up M m0 (pm_mo z m0 f)) (m0 + 1) (.inl (kA 0, 91, .inl g))) (m0 + 5) (.inl (kA 0, 7, .inl gq))) (m0 + 5) (.inl (kA 0, 7, .inl (d_X13_apportions x (g 1) n f g gq)))) rfl ?_
    refine pm_mem (M' := pm_up (pm_up (pm_up M m0 (pm_mo z m0 f)) (m0 + 1) (.inl (kA 0, 91, .inl g))) (m0 + 5) (.inl (kA 0, 7, .inl (d_X13_apportions x (g 1) n f g gq)))) (by rw [pm_up_up (a := m0 + 5)]) ?_
    refine pm_stk (st' := []) rfl ?_
    refine pm_iconst (v := 0) B dX13_doAssign_28 (by decide) ?_
    refine pm_istore_n B dX13_doAssign_29 rfl rfl ?_
    refine pm_loc (L' := [some (.ref (z + m0)), some (.int x), some (.int 0), none]) rfl ?_
    refine pm_iconst (v := 0) B dX13_doAssign_30 (by decide) ?_
    refine pm_istore_n B dX13_doAssign_31 rfl rfl ?_
    refine pm_loc (L' := [some (.ref (z + m0)), some (.int x), some (.int 0), some (.int 0)]) rfl ?_
    refine pm_wk (L' := [some (.ref (z + m0)), none, some (.int 0), some (.int 0)]) ⟨rfl, ⟨rfl, ⟨rfl, trivial⟩⟩⟩ ?_
    refine pm_loc (L' := [some (.ref (z + m0)), none, some (.int 0), some (.int (nI 0))]) rfl ?_
    have loop1 : ∀ (K1 : (Int32 → (Nat → Int32) → (Int32 × (Nat → Int32) × (Nat → Int32) × (Nat → Int32)))), (∀ (a2_1 : Int32) (g_1 : (Nat → Int32)), (hn_1 : g_1 0 = nI n) → pm_G l z D X 0 0 (pm_Q z D (pm_rt (some (.int ((K1 a2_1 g_1).1))) nx (pm_up (pm_up (pm_up M m0 (pm_mo z m0 ((K1 a2_1 g_1).2.1))) (m0 + 1) (.inl (kA 0, 91, .inl ((K1 a2_1 g_1).2.2.1)))) (m0 + 5) (.inl (kA 0, 7, .inl ((K1 a2_1 g_1).2.2.2))))) 0 0 X) nx (pm_up (pm_up (pm_up M m0 (pm_mo z m0 f)) (m0 + 1) (.inl (kA 0, 91, .inl g_1))) (m0 + 5) (.inl (kA 0, 7, .inl (d_X13_apportions x (g 1) n f g gq)))) 83 [none, none, some (.int a2_1), none] []) → ∀ (k1 j1 : Nat), j1 + k1 = n → ∀ (a2_1 : Int32) (g_1 : (Nat → Int32)), (hn_1 : g_1 0 = nI n) → pm_G l z D X 0 0 (pm_Q z D (pm_rt (some (.int ((K1 ((d_X13_doAssign_L1 x n f g gq k1 j1 a2_1 g_1).1) ((d_X13_doAssign_L1 x n f g gq k1 j1 a2_1 g_1).2)).1))) nx (pm_up (pm_up (pm_up M m0 (pm_mo z m0 ((K1 ((d_X13_doAssign_L1 x n f g gq k1 j1 a2_1 g_1).1) ((d_X13_doAssign_L1 x n f g gq k1 j1 a2_1 g_1).2)).2.1))) (m0 + 1) (.inl (kA 0, 91, .inl ((K1 ((d_X13_doAssign_L1 x n f g gq k1 j1 a2_1 g_1).1) ((d_X13_doAssign_L1 x n f g gq k1 j1 a2_1 g_1).2)).2.2.1)))) (m0 + 5) (.inl (kA 0, 7, .inl ((K1 ((d_X13_doAssign_L1 x n f g gq k1 j1 a2_1 g_1).1) ((d_X13_doAssign_L1 x n f g gq k1 j1 a2_1 g_1).2)).2.2.2))))) 0 0 X) nx (pm_up (pm_up (pm_up M m0 (pm_mo z m0 f)) (m0 + 1) (.inl (kA 0, 91, .inl g_1))) (m0 + 5) (.inl (kA 0, 7, .inl (d_X13_apportions x (g 1) n f g gq)))) 32 [some (.ref (z + m0)), none, some (.int a2_1), some (.int (nI j1))] [] := by
      intro K1 hK1 k1
      induction k1 with
      | zero =>
        intro j1 hj1 a2_1 g_1 hn_1
        have hjn1 : j1 = n := by omega
        refine pm_iload_n B dX13_doAssign_32 rfl ?_
        refine pm_aload_n B dX13_doAssign_33 rfl ?_
        refine pm_get B dX13_doAssign_34 fl_X13_9 ((pm_up_n (by omega)).trans ((pm_up_n (by omega)).trans pm_up_s)) rfl ?_
        refine pm_iconst (v := 0) B dX13_doAssign_37 (by decide) ?_
        refine pm_iald_n B dX13_doAssign_38 ((pm_up_n (by omega)).trans pm_up_s) 0 (by decide) (by decide) ?_
        refine pm_stk (st' := [.int (nI n), .int (nI j1)]) (by rw [show (g_1 0) = (nI n) from by rw [hn_1]]) ?_
        refine pm_icmp_ge (tgt := 83) B dX13_doAssign_39 (by decide) (fun hq2 => ?_) (fun hq2 => absurd ((nI_leI (by first | omega | decide) (by first | omega | decide)).mpr (by omega)) hq2)
        refine pm_wk (L' := [none, none, some (.int a2_1), none]) ⟨rfl, trivial⟩ ?_
        have hDq3 : (K1 ((d_X13_doAssign_L1 x n f g gq 0 j1 a2_1 g_1).1) ((d_X13_doAssign_L1 x n f g gq 0 j1 a2_1 g_1).2)) = (K1 a2_1 g_1) := by rw [d_X13_doAssign_L1]
        refine pm_pst (post' := pm_rt (some (.int ((K1 a2_1 g_1).1))) nx (pm_up (pm_up (pm_up M m0 (pm_mo z m0 ((K1 a2_1 g_1).2.1))) (m0 + 1) (.inl (kA 0, 91, .inl ((K1 a2_1 g_1).2.2.1)))) (m0 + 5) (.inl (kA 0, 7, .inl ((K1 a2_1 g_1).2.2.2))))) (by rw [hDq3]) ?_
        exact hK1 a2_1 g_1 (hn_1)
      | succ k1 ih1 =>
        intro j1 hj1 a2_1 g_1 hn_1
        have hjn1 : j1 < n := by omega
        refine pm_iload_n B dX13_doAssign_32 rfl ?_
        refine pm_aload_n B dX13_doAssign_33 rfl ?_
        refine pm_get B dX13_doAssign_34 fl_X13_9 ((pm_up_n (by omega)).trans ((pm_up_n (by omega)).trans pm_up_s)) rfl ?_
        refine pm_iconst (v := 0) B dX13_doAssign_37 (by decide) ?_
        refine pm_iald_n B dX13_doAssign_38 ((pm_up_n (by omega)).trans pm_up_s) 0 (by decide) (by decide) ?_
        refine pm_stk (st' := [.int (nI n), .int (nI j1)]) (by rw [show (g_1 0) = (nI n) from by rw [hn_1]]) ?_
        refine pm_icmp_ge (tgt := 83) B dX13_doAssign_39 (by decide) (fun hq4 => absurd hq4 (fun e => absurd ((nI_leI (by first | omega | decide) (by first | omega | decide)).mp e) (by omega))) (fun hq4 => ?_)
        refine pm_iload_n B dX13_doAssign_42 rfl ?_
        refine pm_aload_n B dX13_doAssign_43 rfl ?_
        refine pm_iload_n B dX13_doAssign_44 rfl ?_
        refine pm_iconst (v := 2) B dX13_doAssign_45 (by decide) ?_
        refine pm_cV (As := [.int (nI j1), .int (nI 2)]) (mc2 := 0) (ms2 := 0) B rfl ((pm_up_n (by omega)).trans ((pm_up_n (by omega)).trans pm_up_s)) rfl (c_X13_of (f := f) ((pm_up_n (by omega)).trans ((pm_up_n (by omega)).trans pm_up_s)) ((pm_up_n (by omega)).trans pm_up_s) (i := j1) (w := 2) (by first | assumption | omega) (by first | assumption | omega)) mt_X13_of sv_X13_74 dX13_doAssign_46 rfl rfl rfl rfl rfl ?_
        refine pm_stk (st' := [.int (g_1 (7 + 5 * j1 + 2)), .int a2_1]) rfl ?_
        refine pm_aload_n B dX13_doAssign_49 rfl ?_
        refine pm_get B dX13_doAssign_50 fl_X13_22 ((pm_up_n (by omega)).trans ((pm_up_n (by omega)).trans pm_up_s)) rfl ?_
        refine pm_iload_n B dX13_doAssign_53 rfl ?_
        refine pm_iald_n B dX13_doAssign_54 pm_up_s j1 (by first | assumption | omega) (by decide) ?_
        refine pm_icmp_ne (tgt := 62) B dX13_doAssign_55 (by decide) (fun hq5 => ?_) (fun hq5 => ?_)
        · refine pm_iconst (v := 1) B dX13_doAssign_62 (by decide) ?_
          refine pm_iadd B dX13_doAssign_63 ?_
          refine pm_istore_n B dX13_doAssign_64 rfl rfl ?_
          refine pm_loc (L' := [some (.ref (z + m0)), none, some (.int (a2_1 + 1)), some (.int (nI j1))]) rfl ?_
          refine pm_aload_n B dX13_doAssign_65 rfl ?_
          refine pm_iload_n B dX13_doAssign_66 rfl ?_
          refine pm_iconst (v := 2) B dX13_doAssign_67 (by decide) ?_
          refine pm_aload_n B dX13_doAssign_68 rfl ?_
          refine pm_get B dX13_doAssign_69 fl_X13_22 ((pm_up_n (by omega)).trans ((pm_up_n (by omega)).trans pm_up_s)) rfl ?_
          refine pm_iload_n B dX13_doAssign_72 rfl ?_
          refine pm_iald_n B dX13_doAssign_73 pm_up_s j1 (by first | assumption | omega) (by decide) ?_
          refine pm_cV (As := [.int (nI j1), .int (nI 2), .int ((d_X13_apportions x (g 1) n f g gq) j1)]) (mc2 := 0) (ms2 := 0) B rfl ((pm_up_n (by omega)).trans ((pm_up_n (by omega)).trans pm_up_s)) rfl (c_X13_sets (f := f) ((pm_up_n (by omega)).trans ((pm_up_n (by omega)).trans pm_up_s)) ((pm_up_n (by omega)).trans pm_up_s) (i := j1) (w := 2) (by first | assumption | omega) (by first | assumption | omega)) mt_X13_sets sv_X13_87 dX13_doAssign_74 rfl rfl rfl rfl rfl ?_
          refine pm_mem (M' := pm_up (pm_up (pm_up (pm_up M m0 (pm_mo z m0 f)) (m0 + 1) (.inl (kA 0, 91, .inl g_1))) (m0 + 5) (.inl (kA 0, 7, .inl (d_X13_apportions x (g 1) n f g gq)))) (m0 + 1) (.inl (kA 0, 91, .inl (upd g_1 (7 + 5 * j1 + 2) ((d_X13_apportions x (g 1) n f g gq) j1))))) rfl ?_
          refine pm_mem (M' := pm_up (pm_up (pm_up M m0 (pm_mo z m0 f)) (m0 + 1) (.inl (kA 0, 91, .inl (upd g_1 (7 + 5 * j1 + 2) ((d_X13_apportions x (g 1) n f g gq) j1))))) (m0 + 5) (.inl (kA 0, 7, .inl (d_X13_apportions x (g 1) n f g gq)))) (by rw [pm_up_sw (a := m0 + 5) (b := m0 + 1) (by omega), pm_up_up]) ?_
          refine pm_stk (st' := []) rfl ?_
          refine pm_iinc B dX13_doAssign_77 rfl rfl rfl ?_
          refine pm_loc (L' := [some (.ref (z + m0)), none, some (.int (a2_1 + 1)), some (.int (nI (j1 + 1)))]) (by rw [show ((nI j1) : Int32) + Int32.ofInt 1 = (nI (j1 + 1)) from nI_1 _]; rfl) ?_
          refine pm_goto (tgt := 32) B dX13_doAssign_80 (by decide) ?_
          have hDq6 : (K1 ((d_X13_doAssign_L1 x n f g gq (k1 + 1) j1 a2_1 g_1).1) ((d_X13_doAssign_L1 x n f g gq (k1 + 1) j1 a2_1 g_1).2)) = (K1 ((d_X13_doAssign_L1 x n f g gq k1 (j1 + 1) (a2_1 + 1) (upd g_1 (7 + 5 * j1 + 2) ((d_X13_apportions x (g 1) n f g gq) j1))).1) ((d_X13_doAssign_L1 x n f g gq k1 (j1 + 1) (a2_1 + 1) (upd g_1 (7 + 5 * j1 + 2) ((d_X13_apportions x (g 1) n f g gq) j1))).2)) := by rw [d_X13_doAssign_L1, if_neg hq5]
          refine pm_pst (post' := pm_rt (some (.int ((K1 ((d_X13_doAssign_L1 x n f g gq k1 (j1 + 1) (a2_1 + 1) (upd g_1 (7 + 5 * j1 + 2) ((d_X13_apportions x (g 1) n f g gq) j1))).1) ((d_X13_doAssign_L1 x n f g gq k1 (j1 + 1) (a2_1 + 1) (upd g_1 (7 + 5 * j1 + 2) ((d_X13_apportions x (g 1) n f g gq) j1))).2)).1))) nx (pm_up (pm_up (pm_up M m0 (pm_mo z m0 ((K1 ((d_X13_doAssign_L1 x n f g gq k1 (j1 + 1) (a2_1 + 1) (upd g_1 (7 + 5 * j1 + 2) ((d_X13_apportions x (g 1) n f g gq) j1))).1) ((d_X13_doAssign_L1 x n f g gq k1 (j1 + 1) (a2_1 + 1) (upd g_1 (7 + 5 * j1 + 2) ((d_X13_apportions x (g 1) n f g gq) j1))).2)).2.1))) (m0 + 1) (.inl (kA 0, 91, .inl ((K1 ((d_X13_doAssign_L1 x n f g gq k1 (j1 + 1) (a2_1 + 1) (upd g_1 (7 + 5 * j1 + 2) ((d_X13_apportions x (g 1) n f g gq) j1))).1) ((d_X13_doAssign_L1 x n f g gq k1 (j1 + 1) (a2_1 + 1) (upd g_1 (7 + 5 * j1 + 2) ((d_X13_apportions x (g 1) n f g gq) j1))).2)).2.2.1)))) (m0 + 5) (.inl (kA 0, 7, .inl ((K1 ((d_X13_doAssign_L1 x n f g gq k1 (j1 + 1) (a2_1 + 1) (upd g_1 (7 + 5 * j1 + 2) ((d_X13_apportions x (g 1) n f g gq) j1))).1) ((d_X13_doAssign_L1 x n f g gq k1 (j1 + 1) (a2_1 + 1) (upd g_1 (7 + 5 * j1 + 2) ((d_X13_apportions x (g 1) n f g gq) j1))).2)).2.2.2))))) (by rw [hDq6]) ?_
          exact ih1 (j1 + 1) (by omega) (a2_1 + 1) (upd g_1 (7 + 5 * j1 + 2) ((d_X13_apportions x (g 1) n f g gq) j1)) ((show (upd g_1 (7 + 5 * j1 + 2) ((d_X13_apportions x (g 1) n f g gq) j1)) 0 = (nI n) from by rw [pk_un (show 0 ≠ 7 + 5 * j1 + 2 from (by omega)), hn_1]))
        · refine pm_iconst (v := 0) B dX13_doAssign_58 (by decide) ?_
          refine pm_goto (tgt := 63) B dX13_doAssign_59 (by decide) ?_
          refine pm_iadd B dX13_doAssign_63 ?_
          refine pm_istore_n B dX13_doAssign_64 rfl rfl ?_
          refine pm_loc (L' := [some (.ref (z + m0)), none, some (.int (a2_1 + 0)), some (.int (nI j1))]) rfl ?_
          refine pm_aload_n B dX13_doAssign_65 rfl ?_
          refine pm_iload_n B dX13_doAssign_66 rfl ?_
          refine pm_iconst (v := 2) B dX13_doAssign_67 (by decide) ?_
          refine pm_aload_n B dX13_doAssign_68 rfl ?_
          refine pm_get B dX13_doAssign_69 fl_X13_22 ((pm_up_n (by omega)).trans ((pm_up_n (by omega)).trans pm_up_s)) rfl ?_
          refine pm_iload_n B dX13_doAssign_72 rfl ?_
          refine pm_iald_n B dX13_doAssign_73 pm_up_s j1 (by first | assumption | omega) (by decide) ?_
          refine pm_cV (As := [.int (nI j1), .int (nI 2), .int ((d_X13_apportions x (g 1) n f g gq) j1)]) (mc2 := 0) (ms2 := 0) B rfl ((pm_up_n (by omega)).trans ((pm_up_n (by omega)).trans pm_up_s)) rfl (c_X13_sets (f := f) ((pm_up_n (by omega)).trans ((pm_up_n (by omega)).trans pm_up_s)) ((pm_up_n (by omega)).trans pm_up_s) (i := j1) (w := 2) (by first | assumption | omega) (by first | assumption | omega)) mt_X13_sets sv_X13_87 dX13_doAssign_74 rfl rfl rfl rfl rfl ?_
          refine pm_mem (M' := pm_up (pm_up (pm_up (pm_up M m0 (pm_mo z m0 f)) (m0 + 1) (.inl (kA 0, 91, .inl g_1))) (m0 + 5) (.inl (kA 0, 7, .inl (d_X13_apportions x (g 1) n f g gq)))) (m0 + 1) (.inl (kA 0, 91, .inl (upd g_1 (7 + 5 * j1 + 2) ((d_X13_apportions x (g 1) n f g gq) j1))))) rfl ?_
          refine pm_mem (M' := pm_up (pm_up (pm_up M m0 (pm_mo z m0 f)) (m0 + 1) (.inl (kA 0, 91, .inl (upd g_1 (7 + 5 * j1 + 2) ((d_X13_apportions x (g 1) n f g gq) j1))))) (m0 + 5) (.inl (kA 0, 7, .inl (d_X13_apportions x (g 1) n f g gq)))) (by rw [pm_up_sw (a := m0 + 5) (b := m0 + 1) (by omega), pm_up_up]) ?_
          refine pm_stk (st' := []) rfl ?_
          refine pm_iinc B dX13_doAssign_77 rfl rfl rfl ?_
          refine pm_loc (L' := [some (.ref (z + m0)), none, some (.int (a2_1 + 0)), some (.int (nI (j1 + 1)))]) (by rw [show ((nI j1) : Int32) + Int32.ofInt 1 = (nI (j1 + 1)) from nI_1 _]; rfl) ?_
          refine pm_goto (tgt := 32) B dX13_doAssign_80 (by decide) ?_
          have hDq7 : (K1 ((d_X13_doAssign_L1 x n f g gq (k1 + 1) j1 a2_1 g_1).1) ((d_X13_doAssign_L1 x n f g gq (k1 + 1) j1 a2_1 g_1).2)) = (K1 ((d_X13_doAssign_L1 x n f g gq k1 (j1 + 1) (a2_1 + 0) (upd g_1 (7 + 5 * j1 + 2) ((d_X13_apportions x (g 1) n f g gq) j1))).1) ((d_X13_doAssign_L1 x n f g gq k1 (j1 + 1) (a2_1 + 0) (upd g_1 (7 + 5 * j1 + 2) ((d_X13_apportions x (g 1) n f g gq) j1))).2)) := by rw [d_X13_doAssign_L1, if_pos hq5]
          refine pm_pst (post' := pm_rt (some (.int ((K1 ((d_X13_doAssign_L1 x n f g gq k1 (j1 + 1) (a2_1 + 0) (upd g_1 (7 + 5 * j1 + 2) ((d_X13_apportions x (g 1) n f g gq) j1))).1) ((d_X13_doAssign_L1 x n f g gq k1 (j1 + 1) (a2_1 + 0) (upd g_1 (7 + 5 * j1 + 2) ((d_X13_apportions x (g 1) n f g gq) j1))).2)).1))) nx (pm_up (pm_up (pm_up M m0 (pm_mo z m0 ((K1 ((d_X13_doAssign_L1 x n f g gq k1 (j1 + 1) (a2_1 + 0) (upd g_1 (7 + 5 * j1 + 2) ((d_X13_apportions x (g 1) n f g gq) j1))).1) ((d_X13_doAssign_L1 x n f g gq k1 (j1 + 1) (a2_1 + 0) (upd g_1 (7 + 5 * j1 + 2) ((d_X13_apportions x (g 1) n f g gq) j1))).2)).2.1))) (m0 + 1) (.inl (kA 0, 91, .inl ((K1 ((d_X13_doAssign_L1 x n f g gq k1 (j1 + 1) (a2_1 + 0) (upd g_1 (7 + 5 * j1 + 2) ((d_X13_apportions x (g 1) n f g gq) j1))).1) ((d_X13_doAssign_L1 x n f g gq k1 (j1 + 1) (a2_1 + 0) (upd g_1 (7 + 5 * j1 + 2) ((d_X13_apportions x (g 1) n f g gq) j1))).2)).2.2.1)))) (m0 + 5) (.inl (kA 0, 7, .inl ((K1 ((d_X13_doAssign_L1 x n f g gq k1 (j1 + 1) (a2_1 + 0) (upd g_1 (7 + 5 * j1 + 2) ((d_X13_apportions x (g 1) n f g gq) j1))).1) ((d_X13_doAssign_L1 x n f g gq k1 (j1 + 1) (a2_1 + 0) (upd g_1 (7 + 5 * j1 + 2) ((d_X13_apportions x (g 1) n f g gq) j1))).2)).2.2.2))))) (by rw [hDq7]) ?_
          exact ih1 (j1 + 1) (by omega) (a2_1 + 0) (upd g_1 (7 + 5 * j1 + 2) ((d_X13_apportions x (g 1) n f g gq) j1)) ((show (upd g_1 (7 + 5 * j1 + 2) ((d_X13_apportions x (g 1) n f g gq) j1)) 0 = (nI n) from by rw [pk_un (show 0 ≠ 7 + 5 * j1 + 2 from (by omega)), hn_1]))
    refine pm_pst (post' := pm_rt (some (.int ((((d_X13_doAssign_L1 x n f g gq n 0 0 g).1), f, ((d_X13_doAssign_L1 x n f g gq n 0 0 g).2), (d_X13_apportions x (g 1) n f g gq)).1))) nx (pm_up (pm_up (pm_up M m0 (pm_mo z m0 ((((d_X13_doAssign_L1 x n f g gq n 0 0 g).1), f, ((d_X13_doAssign_L1 x n f g gq n 0 0 g).2), (d_X13_apportions x (g 1) n f g gq)).2.1))) (m0 + 1) (.inl (kA 0, 91, .inl ((((d_X13_doAssign_L1 x n f g gq n 0 0 g).1), f, ((d_X13_doAssign_L1 x n f g gq n 0 0 g).2), (d_X13_apportions x (g 1) n f g gq)).2.2.1)))) (m0 + 5) (.inl (kA 0, 7, .inl ((((d_X13_doAssign_L1 x n f g gq n 0 0 g).1), f, ((d_X13_doAssign_L1 x n f g gq n 0 0 g).2), (d_X13_apportions x (g 1) n f g gq)).2.2.2))))) (by rw [show (d_X13_doAssign x n f g gq) = (((d_X13_doAssign_L1 x n f g gq n 0 0 g).1), f, ((d_X13_doAssign_L1 x n f g gq n 0 0 g).2), (d_X13_apportions x (g 1) n f g gq)) from by rw [d_X13_doAssign, if_neg hq1]]) ?_
    refine loop1 (fun (a2_1 : Int32) (g_1 : (Nat → Int32)) => (a2_1, f, g_1, (d_X13_apportions x (g 1) n f g gq))) ?_ n 0 (by omega) 0 g (hn)
    intro a2_1 g_1 hn_1
    refine pm_pst (post' := pm_rt (some (.int ((a2_1, f, g_1, (d_X13_apportions x (g 1) n f g gq)).1))) nx (pm_up (pm_up (pm_up M m0 (pm_mo z m0 ((a2_1, f, g_1, (d_X13_apportions x (g 1) n f g gq)).2.1))) (m0 + 1) (.inl (kA 0, 91, .inl ((a2_1, f, g_1, (d_X13_apportions x (g 1) n f g gq)).2.2.1)))) (m0 + 5) (.inl (kA 0, 7, .inl ((a2_1, f, g_1, (d_X13_apportions x (g 1) n f g gq)).2.2.2))))) rfl ?_
    refine pm_iload_n B dX13_doAssign_83 rfl ?_
    have hDq8 : ((a2_1, f, g_1, (d_X13_apportions x (g 1) n f g gq))) = (a2_1, f, g_1, (d_X13_apportions x (g 1) n f g gq)) := rfl
    exact pm_ireturn B dX13_doAssign_84 rfl (by first | rfl | (apply pm_nz; first | assumption | decide | exact pm_in01 _ _ _ | simp)) ⟨(by rw [hDq8]), rfl, by rw [hDq8]⟩ rfl rfl
  · refine pm_aload_n B dX13_doAssign_11 rfl ?_
    refine pm_iconst (v := 1) B dX13_doAssign_12 (by decide) ?_
    refine pm_cV (As := [.int 1]) (mc2 := 0) (ms2 := 0) B rfl ((pm_up_n (by omega)).trans ((pm_up_n (by omega)).trans pm_up_s)) rfl (c_X13_fails (f := f) ((pm_up_n (by omega)).trans ((pm_up_n (by omega)).trans pm_up_s))) mt_X13_fails sv_X13_66 dX13_doAssign_13 rfl rfl rfl rfl rfl ?_
    refine pm_mem (M' := pm_up (pm_up (pm_up (pm_up M m0 (pm_mo z m0 f)) (m0 + 1) (.inl (kA 0, 91, .inl g))) (m0 + 5) (.inl (kA 0, 7, .inl gq))) m0 (pm_mo z m0 (upd f 6 1))) rfl ?_
    refine pm_mem (M' := pm_up (pm_up (pm_up M m0 (pm_mo z m0 (upd f 6 1))) (m0 + 1) (.inl (kA 0, 91, .inl g))) (m0 + 5) (.inl (kA 0, 7, .inl gq))) (by rw [pm_up_sw (a := m0 + 5) (b := m0) (by omega), pm_up_sw (a := m0 + 1) (b := m0) (by omega), pm_up_up]) ?_
    refine pm_stk (st' := [.int 0]) rfl ?_
    have hDq9 : (d_X13_doAssign x n f g gq) = (0, (upd f 6 1), g, gq) := by rw [d_X13_doAssign, if_pos hq1]
    exact pm_ireturn B dX13_doAssign_16 rfl (by first | rfl | (apply pm_nz; first | assumption | decide | exact pm_in01 _ _ _ | simp)) ⟨(by rw [hDq9]), rfl, by rw [hDq9]⟩ rfl rfl
theorem d_X13_doAssign_k_f5 (x : Int32) (n : Nat) (f : Nat → Int32) (g : Nat → Int32) (gq : Nat → Int32) : ((d_X13_doAssign x n f g gq).2.1) 5 = f 5 := by
  unfold d_X13_doAssign
  (repeat' split) <;> rfl
def d_X13_assign (x : Int32) (n : Nat) (k : Nat) (f : Nat → Int32) (g : Nat → Int32) (gb : Nat → Int32) (gp : Nat → Int32) (gq : Nat → Int32) : (Int32 × (Nat → Int32) × (Nat → Int32) × (Nat → Int32) × (Nat → Int32) × (Nat → Int32)) := (((d_X13_ends ((d_X13_doAssign x n ((d_X13_keep f g gb).1) g gq).1) 0 k ((d_X13_doAssign x n ((d_X13_keep f g gb).1) g gq).2.1) ((d_X13_doAssign x n ((d_X13_keep f g gb).1) g gq).2.2.1) ((d_X13_keep f g gb).2) gp).1), ((d_X13_ends ((d_X13_doAssign x n ((d_X13_keep f g gb).1) g gq).1) 0 k ((d_X13_doAssign x n ((d_X13_keep f g gb).1) g gq).2.1) ((d_X13_doAssign x n ((d_X13_keep f g gb).1) g gq).2.2.1) ((d_X13_keep f g gb).2) gp).2.1), ((d_X13_ends ((d_X13_doAssign x n ((d_X13_keep f g gb).1) g gq).1) 0 k ((d_X13_doAssign x n ((d_X13_keep f g gb).1) g gq).2.1) ((d_X13_doAssign x n ((d_X13_keep f g gb).1) g gq).2.2.1) ((d_X13_keep f g gb).2) gp).2.2.1), ((d_X13_keep f g gb).2), ((d_X13_ends ((d_X13_doAssign x n ((d_X13_keep f g gb).1) g gq).1) 0 k ((d_X13_doAssign x n ((d_X13_keep f g gb).1) g gq).2.1) ((d_X13_doAssign x n ((d_X13_keep f g gb).1) g gq).2.2.1) ((d_X13_keep f g gb).2) gp).2.2.2), ((d_X13_doAssign x n ((d_X13_keep f g gb).1) g gq).2.2.2))
set_option maxRecDepth 100000 in
set_option maxHeartbeats 8000000 in
theorem c_X13_assign {l : Launch} {z : Nat} {D : va_G} {kA : Nat → ClassId} {kE : Nat → Nat} {nx : Nat} {M : pm_M} {x : Int32} {n : Nat} {k : Nat}{m0 : Nat} {f : Nat → Int32} {g : Nat → Int32} {gb : Nat → Int32} {gp : Nat → Int32} {gq : Nat → Int32} (hM : M m0 = some (pm_mo z m0 f)) (hg : M (m0 + 1) = some (.inl (kA 0, 91, .inl g))) (hgb : M (m0 + 2) = some (.inl (kA 0, 91, .inl gb))) (hgp : M (m0 + 4) = some (.inl (kA 0, 728, .inl gp))) (hgq : M (m0 + 5) = some (.inl (kA 0, 7, .inl gq))) (hn : g 0 = nI n) (h7 : n ≤ 7) (hf5 : f 5 = nI k) (h8 : k ≤ 8) (hOK : ¬ pm_in x 0 300 = 0 → ∀ f gq, pm_apOK x (g 1) n f g gq) : pm_C l z D kA kE yX13_assign cX13_assign 2 (some .int) 5 0 0 [.ref (z + m0), .int x] nx M (pm_rt (some (.int ((d_X13_assign x n k f g gb gp gq).1))) nx (pm_up (pm_up (pm_up (pm_up (pm_up M m0 (pm_mo z m0 ((d_X13_assign x n k f g gb gp gq).2.1))) (m0 + 1) (.inl (kA 0, 91, .inl ((d_X13_assign x n k f g gb gp gq).2.2.1)))) (m0 + 2) (.inl (kA 0, 91, .inl ((d_X13_assign x n k f g gb gp gq).2.2.2.1)))) (m0 + 4) (.inl (kA 0, 728, .inl ((d_X13_assign x n k f g gb gp gq).2.2.2.2.1)))) (m0 + 5) (.inl (kA 0, 7, .inl ((d_X13_assign x n k f g gb gp gq).2.2.2.2.2))))) := by
  refine pm_mk (own := RX13) (nm := "assign") mt_X13_assign rfl rfl rfl rfl fun X B => ?_
  refine pm_loc (L' := [some (.ref (z + m0)), some (.int x)]) rfl ?_
  refine pm_mem (M' := pm_up (pm_up (pm_up (pm_up (pm_up M m0 (pm_mo z m0 f)) (m0 + 1) (.inl (kA 0, 91, .inl g))) (m0 + 2) (.inl (kA 0, 91, .inl gb))) (m0 + 4) (.inl (kA 0, 728, .inl gp))) (m0 + 5) (.inl (kA 0, 7, .inl gq))) (by rw [pm_up_id hM, pm_up_id hg, pm_up_id hgb, pm_up_id hgp, pm_up_id hgq]) ?_
  refine pm_aload_n B dX13_assign_0 rfl ?_
  refine pm_cV (As := []) (mc2 := 0) (ms2 := 0) B rfl ((pm_up_n (by omega)).trans ((pm_up_n (by omega)).trans ((pm_up_n (by omega)).trans ((pm_up_n (by omega)).trans pm_up_s)))) rfl (c_X13_keep (f := f) (g := g) (gb := gb) ((pm_up_n (by omega)).trans ((pm_up_n (by omega)).trans ((pm_up_n (by omega)).trans ((pm_up_n (by omega)).trans pm_up_s)))) ((pm_up_n (by omega)).trans ((pm_up_n (by omega)).trans ((pm_up_n (by omega)).trans pm_up_s))) ((pm_up_n (by omega)).trans ((pm_up_n (by omega)).trans pm_up_s)) ) mt_X13_keep sv_X13_91 dX13_assign_1 rfl rfl rfl rfl rfl ?_
  refine pm_mem (M' := pm_up (pm_up (pm_up (pm_up (pm_up (pm_up (pm_up M m0 (pm_mo z m0 f)) (m0 + 1) (.inl (kA 0, 91, .inl g))) (m0 + 2) (.inl (kA 0, 91, .inl gb))) (m0 + 4) (.inl (kA 0, 728, .inl gp))) (m0 + 5) (.inl (kA 0, 7, .inl gq))) m0 (pm_mo z m0 ((d_X13_keep f g gb).1))) (m0 + 2) (.inl (kA 0, 91, .inl ((d_X13_keep f g gb).2)))) rfl ?_
  refine pm_mem (M' := pm_up (pm_up (pm_up (pm_up (pm_up (pm_up M m0 (pm_mo z m0 ((d_X13_keep f g gb).1))) (m0 + 1) (.inl (kA 0, 91, .inl g))) (m0 + 2) (.inl (kA 0, 91, .inl gb))) (m0 + 4) (.inl (kA 0, 728, .inl gp))) (m0 + 5) (.inl (kA 0, 7, .inl gq))) (m0 + 2) (.inl (kA 0, 91, .inl ((d_X13_keep f g gb).2)))) (by rw [pm_up_sw (a := m0 + 5) (b := m0) (by omega), pm_up_sw (a := m0 + 4) (b := m0) (by omega), pm_up_sw (a := m0 + 2) (b := m0) (by omega), pm_up_sw (a := m0 + 1) (b := m0) (by omega), pm_up_up (a := m0)]) ?_
  refine pm_mem (M' := pm_up (pm_up (pm_up (pm_up (pm_up M m0 (pm_mo z m0 ((d_X13_keep f g gb).1))) (m0 + 1) (.inl (kA 0, 91, .inl g))) (m0 + 2) (.inl (kA 0, 91, .inl ((d_X13_keep f g gb).2)))) (m0 + 4) (.inl (kA 0, 728, .inl gp))) (m0 + 5) (.inl (kA 0, 7, .inl gq))) (by rw [pm_up_sw (a := m0 + 5) (b := m0 + 2) (by omega), pm_up_sw (a := m0 + 4) (b := m0 + 2) (by omega), pm_up_up (a := m0 + 2)]) ?_
  refine pm_stk (st' := []) rfl ?_
  refine pm_aload_n B dX13_assign_4 rfl ?_
  refine pm_aload_n B dX13_assign_5 rfl ?_
  refine pm_iload_n B dX13_assign_6 rfl ?_
  refine pm_cV (As := [.int x]) (mc2 := 0) (ms2 := 0) B rfl ((pm_up_n (by omega)).trans ((pm_up_n (by omega)).trans ((pm_up_n (by omega)).trans ((pm_up_n (by omega)).trans pm_up_s)))) rfl (c_X13_doAssign (x := x) (n := n) (f := ((d_X13_keep f g gb).1)) (g := g) (gq := gq) ((pm_up_n (by omega)).trans ((pm_up_n (by omega)).trans ((pm_up_n (by omega)).trans ((pm_up_n (by omega)).trans pm_up_s)))) ((pm_up_n (by omega)).trans ((pm_up_n (by omega)).trans ((pm_up_n (by omega)).trans pm_up_s))) pm_up_s hn (by first | assumption | omega) (by assumption)) mt_X13_doAssign sv_X13_131 dX13_assign_7 rfl rfl rfl rfl rfl ?_
  refine pm_mem (M' := pm_up (pm_up (pm_up (pm_up (pm_up (pm_up (pm_up (pm_up M m0 (pm_mo z m0 ((d_X13_keep f g gb).1))) (m0 + 1) (.inl (kA 0, 91, .inl g))) (m0 + 2) (.inl (kA 0, 91, .inl ((d_X13_keep f g gb).2)))) (m0 + 4) (.inl (kA 0, 728, .inl gp))) (m0 + 5) (.inl (kA 0, 7, .inl gq))) m0 (pm_mo z m0 ((d_X13_doAssign x n ((d_X13_keep f g gb).1) g gq).2.1))) (m0 + 1) (.inl (kA 0, 91, .inl ((d_X13_doAssign x n ((d_X13_keep f g gb).1) g gq).2.2.1)))) (m0 + 5) (.inl (kA 0, 7, .inl ((d_X13_doAssign x n ((d_X13_keep f g gb).1) g gq).2.2.2)))) rfl ?_
  refine pm_mem (M' := pm_up (pm_up (pm_up (pm_up (pm_up (pm_up (pm_up M m0 (pm_mo z m0 ((d_X13_doAssign x n ((d_X13_keep f g gb).1) g gq).2.1))) (m0 + 1) (.inl (kA 0, 91, .inl g))) (m0 + 2) (.inl (kA 0, 91, .inl ((d_X13_keep f g gb).2)))) (m0 + 4) (.inl (kA 0, 728, .inl gp))) (m0 + 5) (.inl (kA 0, 7, .inl gq))) (m0 + 1) (.inl (kA 0, 91, .inl ((d_X13_doAssign x n ((d_X13_keep f g gb).1) g gq).2.2.1)))) (m0 + 5) (.inl (kA 0, 7, .inl ((d_X13_doAssign x n ((d_X13_keep f g gb).1) g gq).2.2.2)))) (by rw [pm_up_sw (a := m0 + 5) (b := m0) (by omega), pm_up_sw (a := m0 + 4) (b := m0) (by omega), pm_up_sw (a := m0 + 2) (b := m0) (by omega), pm_up_sw (a := m0 + 1) (b := m0) (by omega), pm_up_up (a := m0)]) ?_
  refine pm_mem (M' := pm_up (pm_up (pm_up (pm_up (pm_up (pm_up M m0 (pm_mo z m0 ((d_X13_doAssign x n ((d_X13_keep f g gb).1) g gq).2.1))) (m0 + 1) (.inl (kA 0, 91, .inl ((d_X13_doAssign x n ((d_X13_keep f g gb).1) g gq).2.2.1)))) (m0 + 2) (.inl (kA 0, 91, .inl ((d_X13_keep f g gb).2)))) (m0 + 4) (.inl (kA 0, 728, .inl gp))) (m0 + 5) (.inl (kA 0, 7, .inl gq))) (m0 + 5) (.inl (kA 0, 7, .inl ((d_X13_doAssign x n ((d_X13_keep f g gb).1) g gq).2.2.2)))) (by rw [pm_up_sw (a := m0 + 5) (b := m0 + 1) (by omega), pm_up_sw (a := m0 + 4) (b := m0 + 1) (by omega), pm_up_sw (a := m0 + 2) (b := m0 + 1) (by omega), pm_up_up (a := m0 + 1)]) ?_
  refine pm_mem (M' := pm_up (pm_up (pm_up (pm_up (pm_up M m0 (pm_mo z m0 ((d_X13_doAssign x n ((d_X13_keep f g gb).1) g gq).2.1))) (m0 + 1) (.inl (kA 0, 91, .inl ((d_X13_doAssign x n ((d_X13_keep f g gb).1) g gq).2.2.1)))) (m0 + 2) (.inl (kA 0, 91, .inl ((d_X13_keep f g gb).2)))) (m0 + 4) (.inl (kA 0, 728, .inl gp))) (m0 + 5) (.inl (kA 0, 7, .inl ((d_X13_doAssign x n ((d_X13_keep f g gb).1) g gq).2.2.2)))) (by rw [pm_up_up (a := m0 + 5)]) ?_
  refine pm_stk (st' := [.int ((d_X13_doAssign x n ((d_X13_keep f g gb).1) g gq).1), .ref (z + m0)]) rfl ?_
  refine pm_iconst (v := 0) B dX13_assign_10 (by decide) ?_
  refine pm_cV (As := [.int ((d_X13_doAssign x n ((d_X13_keep f g gb).1) g gq).1), .int 0]) (mc2 := 0) (ms2 := 0) B rfl ((pm_up_n (by omega)).trans ((pm_up_n (by omega)).trans ((pm_up_n (by omega)).trans ((pm_up_n (by omega)).trans pm_up_s)))) rfl (c_X13_ends (x := ((d_X13_doAssign x n ((d_X13_keep f g gb).1) g gq).1)) (y := 0) (k := k) (f := ((d_X13_doAssign x n ((d_X13_keep f g gb).1) g gq).2.1)) (g := ((d_X13_doAssign x n ((d_X13_keep f g gb).1) g gq).2.2.1)) (gb := ((d_X13_keep f g gb).2)) (gp := gp) ((pm_up_n (by omega)).trans ((pm_up_n (by omega)).trans ((pm_up_n (by omega)).trans ((pm_up_n (by omega)).trans pm_up_s)))) ((pm_up_n (by omega)).trans ((pm_up_n (by omega)).trans ((pm_up_n (by omega)).trans pm_up_s))) ((pm_up_n (by omega)).trans ((pm_up_n (by omega)).trans pm_up_s)) ((pm_up_n (by omega)).trans pm_up_s) (show ((d_X13_doAssign x n ((d_X13_keep f g gb).1) g gq).2.1) 5 = (nI k) from by rw [((d_X13_doAssign_k_f5 x n ((d_X13_keep f g gb).1) g gq).trans ((d_X13_keep_k_f5  f g gb).trans hf5))]) (by first | assumption | omega)) mt_X13_ends sv_X13_97 dX13_assign_11 rfl rfl rfl rfl rfl ?_
  refine pm_mem (M' := pm_up (pm_up (pm_up (pm_up (pm_up (pm_up (pm_up (pm_up M m0 (pm_mo z m0 ((d_X13_doAssign x n ((d_X13_keep f g gb).1) g gq).2.1))) (m0 + 1) (.inl (kA 0, 91, .inl ((d_X13_doAssign x n ((d_X13_keep f g gb).1) g gq).2.2.1)))) (m0 + 2) (.inl (kA 0, 91, .inl ((d_X13_keep f g gb).2)))) (m0 + 4) (.inl (kA 0, 728, .inl gp))) (m0 + 5) (.inl (kA 0, 7, .inl ((d_X13_doAssign x n ((d_X13_keep f g gb).1) g gq).2.2.2)))) m0 (pm_mo z m0 ((d_X13_ends ((d_X13_doAssign x n ((d_X13_keep f g gb).1) g gq).1) 0 k ((d_X13_doAssign x n ((d_X13_keep f g gb).1) g gq).2.1) ((d_X13_doAssign x n ((d_X13_keep f g gb).1) g gq).2.2.1) ((d_X13_keep f g gb).2) gp).2.1))) (m0 + 1) (.inl (kA 0, 91, .inl ((d_X13_ends ((d_X13_doAssign x n ((d_X13_keep f g gb).1) g gq).1) 0 k ((d_X13_doAssign x n ((d_X13_keep f g gb).1) g gq).2.1) ((d_X13_doAssign x n ((d_X13_keep f g gb).1) g gq).2.2.1) ((d_X13_keep f g gb).2) gp).2.2.1)))) (m0 + 4) (.inl (kA 0, 728, .inl ((d_X13_ends ((d_X13_doAssign x n ((d_X13_keep f g gb).1) g gq).1) 0 k ((d_X13_doAssign x n ((d_X13_keep f g gb).1) g gq).2.1) ((d_X13_doAssign x n ((d_X13_keep f g gb).1) g gq).2.2.1) ((d_X13_keep f g gb).2) gp).2.2.2)))) rfl ?_
  refine pm_mem (M' := pm_up (pm_up (pm_up (pm_up (pm_up (pm_up (pm_up M m0 (pm_mo z m0 ((d_X13_ends ((d_X13_doAssign x n ((d_X13_keep f g gb).1) g gq).1) 0 k ((d_X13_doAssign x n ((d_X13_keep f g gb).1) g gq).2.1) ((d_X13_doAssign x n ((d_X13_keep f g gb).1) g gq).2.2.1) ((d_X13_keep f g gb).2) gp).2.1))) (m0 + 1) (.inl (kA 0, 91, .inl ((d_X13_doAssign x n ((d_X13_keep f g gb).1) g gq).2.2.1)))) (m0 + 2) (.inl (kA 0, 91, .inl ((d_X13_keep f g gb).2)))) (m0 + 4) (.inl (kA 0, 728, .inl gp))) (m0 + 5) (.inl (kA 0, 7, .inl ((d_X13_doAssign x n ((d_X13_keep f g gb).1) g gq).2.2.2)))) (m0 + 1) (.inl (kA 0, 91, .inl ((d_X13_ends ((d_X13_doAssign x n ((d_X13_keep f g gb).1) g gq).1) 0 k ((d_X13_doAssign x n ((d_X13_keep f g gb).1) g gq).2.1) ((d_X13_doAssign x n ((d_X13_keep f g gb).1) g gq).2.2.1) ((d_X13_keep f g gb).2) gp).2.2.1)))) (m0 + 4) (.inl (kA 0, 728, .inl ((d_X13_ends ((d_X13_doAssign x n ((d_X13_keep f g gb).1) g gq).1) 0 k ((d_X13_doAssign x n ((d_X13_keep f g gb).1) g gq).2.1) ((d_X13_doAssign x n ((d_X13_keep f g gb).1) g gq).2.2.1) ((d_X13_keep f g gb).2) gp).2.2.2)))) (by rw [pm_up_sw (a := m0 + 5) (b := m0) (by omega), pm_up_sw (a := m0 + 4) (b := m0) (by omega), pm_up_sw (a := m0 + 2) (b := m0) (by omega), pm_up_sw (a := m0 + 1) (b := m0) (by omega), pm_up_up (a := m0)]) ?_
  refine pm_mem (M' := pm_up (pm_up (pm_up (pm_up (pm_up (pm_up M m0 (pm_mo z m0 ((d_X13_ends ((d_X13_doAssign x n ((d_X13_keep f g gb).1) g gq).1) 0 k ((d_X13_doAssign x n ((d_X13_keep f g gb).1) g gq).2.1) ((d_X13_doAssign x n ((d_X13_keep f g gb).1) g gq).2.2.1) ((d_X13_keep f g gb).2) gp).2.1))) (m0 + 1) (.inl (kA 0, 91, .inl ((d_X13_ends ((d_X13_doAssign x n ((d_X13_keep f g gb).1) g gq).1) 0 k ((d_X13_doAssign x n ((d_X13_keep f g gb).1) g gq).2.1) ((d_X13_doAssign x n ((d_X13_keep f g gb).1) g gq).2.2.1) ((d_X13_keep f g gb).2) gp).2.2.1)))) (m0 + 2) (.inl (kA 0, 91, .inl ((d_X13_keep f g gb).2)))) (m0 + 4) (.inl (kA 0, 728, .inl gp))) (m0 + 5) (.inl (kA 0, 7, .inl ((d_X13_doAssign x n ((d_X13_keep f g gb).1) g gq).2.2.2)))) (m0 + 4) (.inl (kA 0, 728, .inl ((d_X13_ends ((d_X13_doAssign x n ((d_X13_keep f g gb).1) g gq).1) 0 k ((d_X13_doAssign x n ((d_X13_keep f g gb).1) g gq).2.1) ((d_X13_doAssign x n ((d_X13_keep f g gb).1) g gq).2.2.1) ((d_X13_keep f g gb).2) gp).2.2.2)))) (by rw [pm_up_sw (a := m0 + 5) (b := m0 + 1) (by omega), pm_up_sw (a := m0 + 4) (b := m0 + 1) (by omega), pm_up_sw (a := m0 + 2) (b := m0 + 1) (by omega), pm_up_up (a := m0 + 1)]) ?_
  refine pm_mem (M' := pm_up (pm_up (pm_up (pm_up (pm_up M m0 (pm_mo z m0 ((d_X13_ends ((d_X13_doAssign x n ((d_X13_keep f g gb).1) g gq).1) 0 k ((d_X13_doAssign x n ((d_X13_keep f g gb).1) g gq).2.1) ((d_X13_doAssign x n ((d_X13_keep f g gb).1) g gq).2.2.1) ((d_X13_keep f g gb).2) gp).2.1))) (m0 + 1) (.inl (kA 0, 91, .inl ((d_X13_ends ((d_X13_doAssign x n ((d_X13_keep f g gb).1) g gq).1) 0 k ((d_X13_doAssign x n ((d_X13_keep f g gb).1) g gq).2.1) ((d_X13_doAssign x n ((d_X13_keep f g gb).1) g gq).2.2.1) ((d_X13_keep f g gb).2) gp).2.2.1)))) (m0 + 2) (.inl (kA 0, 91, .inl ((d_X13_keep f g gb).2)))) (m0 + 4) (.inl (kA 0, 728, .inl ((d_X13_ends ((d_X13_doAssign x n ((d_X13_keep f g gb).1) g gq).1) 0 k ((d_X13_doAssign x n ((d_X13_keep f g gb).1) g gq).2.1) ((d_X13_doAssign x n ((d_X13_keep f g gb).1) g gq).2.2.1) ((d_X13_keep f g gb).2) gp).2.2.2)))) (m0 + 5) (.inl (kA 0, 7, .inl ((d_X13_doAssign x n ((d_X13_keep f g gb).1) g gq).2.2.2)))) (by rw [pm_up_sw (a := m0 + 5) (b := m0 + 4) (by omega), pm_up_up (a := m0 + 4)]) ?_
  refine pm_stk (st' := [.int ((d_X13_ends ((d_X13_doAssign x n ((d_X13_keep f g gb).1) g gq).1) 0 k ((d_X13_doAssign x n ((d_X13_keep f g gb).1) g gq).2.1) ((d_X13_doAssign x n ((d_X13_keep f g gb).1) g gq).2.2.1) ((d_X13_keep f g gb).2) gp).1)]) rfl ?_
  have hDq1 : (d_X13_assign x n k f g gb gp gq) = (((d_X13_ends ((d_X13_doAssign x n ((d_X13_keep f g gb).1) g gq).1) 0 k ((d_X13_doAssign x n ((d_X13_keep f g gb).1) g gq).2.1) ((d_X13_doAssign x n ((d_X13_keep f g gb).1) g gq).2.2.1) ((d_X13_keep f g gb).2) gp).1), ((d_X13_ends ((d_X13_doAssign x n ((d_X13_keep f g gb).1) g gq).1) 0 k ((d_X13_doAssign x n ((d_X13_keep f g gb).1) g gq).2.1) ((d_X13_doAssign x n ((d_X13_keep f g gb).1) g gq).2.2.1) ((d_X13_keep f g gb).2) gp).2.1), ((d_X13_ends ((d_X13_doAssign x n ((d_X13_keep f g gb).1) g gq).1) 0 k ((d_X13_doAssign x n ((d_X13_keep f g gb).1) g gq).2.1) ((d_X13_doAssign x n ((d_X13_keep f g gb).1) g gq).2.2.1) ((d_X13_keep f g gb).2) gp).2.2.1), ((d_X13_keep f g gb).2), ((d_X13_ends ((d_X13_doAssign x n ((d_X13_keep f g gb).1) g gq).1) 0 k ((d_X13_doAssign x n ((d_X13_keep f g gb).1) g gq).2.1) ((d_X13_doAssign x n ((d_X13_keep f g gb).1) g gq).2.2.1) ((d_X13_keep f g gb).2) gp).2.2.2), ((d_X13_doAssign x n ((d_X13_keep f g gb).1) g gq).2.2.2)) := by rw [d_X13_assign]
  exact pm_ireturn B dX13_assign_14 rfl (by first | rfl | (apply pm_nz; first | assumption | decide | exact pm_in01 _ _ _ | simp)) ⟨(by rw [hDq1]), rfl, by rw [hDq1]⟩ rfl rfl
def d_X13_quotaBy (x : Int32) (y : Int32) (w : Int32) (n : Nat) (f : Nat → Int32) (g : Nat → Int32) (gq : Nat → Int32) : (Int32 × (Nat → Int32) × (Nat → Int32)) := if (pm_in x 0 (nI n - 1)) = 0 then (0, (upd f 6 1), gq) else (if (pm_in y 0 300) = 0 then (0, (upd f 6 2), gq) else (if (pm_in w 0 1) = 0 then (0, (upd f 6 2), gq) else (((d_X13_apportions y w n (upd f 6 0) g gq) (pm_n x)), (upd f 6 0), (d_X13_apportions y w n (upd f 6 0) g gq))))
set_option maxRecDepth 100000 in
set_option maxHeartbeats 8000000 in
theorem c_X13_quotaBy {l : Launch} {z : Nat} {D : va_G} {kA : Nat → ClassId} {kE : Nat → Nat} {nx : Nat} {M : pm_M} {x : Int32} {y : Int32} {w : Int32} {n : Nat}{m0 : Nat} {f : Nat → Int32} {g : Nat → Int32} {gq : Nat → Int32} (hM : M m0 = some (pm_mo z m0 f)) (hg : M (m0 + 1) = some (.inl (kA 0, 91, .inl g))) (hgq : M (m0 + 5) = some (.inl (kA 0, 7, .inl gq))) (hn : g 0 = nI n) (h7 : n ≤ 7) (hOK : ¬ pm_in y 0 300 = 0 → ¬ pm_in w 0 1 = 0 → ∀ f gq, pm_apOK y w n f g gq) : pm_C l z D kA kE yX13_quotaBy cX13_quotaBy 4 (some .int) 4 0 0 [.ref (z + m0), .int x, .int y, .int w] nx M (pm_rt (some (.int ((d_X13_quotaBy x y w n f g gq).1))) nx (pm_up (pm_up M m0 (pm_mo z m0 ((d_X13_quotaBy x y w n f g gq).2.1))) (m0 + 5) (.inl (kA 0, 7, .inl ((d_X13_quotaBy x y w n f g gq).2.2))))) := by
  refine pm_mk (own := RX13) (nm := "quotaBy") mt_X13_quotaBy rfl rfl rfl rfl fun X B => ?_
  refine pm_loc (L' := [some (.ref (z + m0)), some (.int x), some (.int y), some (.int w)]) rfl ?_
  refine pm_mem (M' := pm_up (pm_up M m0 (pm_mo z m0 f)) (m0 + 5) (.inl (kA 0, 7, .inl gq))) (by rw [pm_up_id hM, pm_up_id hgq]) ?_
  refine pm_aload_n B dX13_quotaBy_0 rfl ?_
  refine pm_aload_n B dX13_quotaBy_1 rfl ?_
  refine pm_iload_n B dX13_quotaBy_2 rfl ?_
  refine pm_cV (As := [.int x]) (mc2 := 0) (ms2 := 0) B rfl ((pm_up_n (by omega)).trans pm_up_s) rfl (c_X13_isMember (f := f) ((pm_up_n (by omega)).trans pm_up_s) ((pm_up_n (by omega)).trans ((pm_up_n (by omega)).trans hg))) mt_X13_isMember sv_X13_100 dX13_quotaBy_3 rfl rfl rfl rfl rfl ?_
  refine pm_stk (st' := [.int (pm_in x 0 (g 0 - 1)), .ref (z + m0)]) rfl ?_
  refine pm_stk (st' := [.int (pm_in x 0 (nI n - 1)), .ref (z + m0)]) (by rw [show (pm_in x 0 (g 0 - 1)) = (pm_in x 0 (nI n - 1)) from by rw [hn]]) ?_
  refine pm_if_ne (tgt := 13) B dX13_quotaBy_6 (by decide) (fun hq1 => ?_) (fun hq1 => ?_)
  · obtain ⟨he_x, hl_x⟩ := pm_in_nx h7 hq1
    refine pm_loc (L' := [some (.ref (z + m0)), some (.int (nI (pm_n x))), some (.int y), some (.int w)]) (congrArg (fun yy : Int32 => ([some (.ref (z + m0)), some (.int yy), some (.int y), some (.int w)] : List (Option Value))) he_x) ?_
    refine pm_iload_n B dX13_quotaBy_13 rfl ?_
    refine pm_iconst (v := 0) B dX13_quotaBy_14 (by decide) ?_
    refine pm_sipush (v := 300) B dX13_quotaBy_15 (by decide) ?_
    refine pm_cS (As := [.int y, .int 0, .int 300]) (mc2 := 0) (ms2 := 0) B c_X13_in mt_X13_in ss_X13_70 dX13_quotaBy_18 rfl rfl rfl rfl rfl ?_
    refine pm_stk (st' := [.int (pm_in y 0 300), .ref (z + m0)]) rfl ?_
    refine pm_if_eq (tgt := 33) B dX13_quotaBy_21 (by decide) (fun hq2 => ?_) (fun hq2 => ?_)
    · refine pm_iconst (v := 2) B dX13_quotaBy_33 (by decide) ?_
      refine pm_goto (tgt := 38) B dX13_quotaBy_34 (by decide) ?_
      refine pm_put B dX13_quotaBy_38 fs_X13_39 ((pm_up_n (by omega)).trans pm_up_s) rfl rfl rfl ?_
      refine pm_mem (M' := pm_up (pm_up (pm_up M m0 (pm_mo z m0 f)) (m0 + 5) (.inl (kA 0, 7, .inl gq))) m0 (pm_mo z m0 (upd f 6 2))) rfl ?_
      refine pm_mem (M' := pm_up (pm_up M m0 (pm_mo z m0 (upd f 6 2))) (m0 + 5) (.inl (kA 0, 7, .inl gq))) (by rw [pm_up_sw (a := m0 + 5) (b := m0) (by omega), pm_up_up]) ?_
      refine pm_aload_n B dX13_quotaBy_41 rfl ?_
      refine pm_get B dX13_quotaBy_42 fl_X13_39 ((pm_up_n (by omega)).trans pm_up_s) rfl ?_
      refine pm_stk (st' := [.int 2]) rfl ?_
      refine pm_if_le (tgt := 50) B dX13_quotaBy_45 (by decide) (fun hq3 => absurd hq3 (by decide)) (fun hq3 => ?_)
      refine pm_iconst (v := 0) B dX13_quotaBy_48 (by decide) ?_
      have hDq4 : (d_X13_quotaBy x y w n f g gq) = (0, (upd f 6 2), gq) := by rw [d_X13_quotaBy, if_neg hq1, if_pos hq2]
      exact pm_ireturn B dX13_quotaBy_49 rfl (by first | rfl | (apply pm_nz; first | assumption | decide | exact pm_in01 _ _ _ | simp)) ⟨(by rw [hDq4]), rfl, by rw [hDq4]⟩ rfl rfl
    · refine pm_iload_n B dX13_quotaBy_24 rfl ?_
      refine pm_iconst (v := 0) B dX13_quotaBy_25 (by decide) ?_
      refine pm_iconst (v := 1) B dX13_quotaBy_26 (by decide) ?_
      refine pm_cS (As := [.int w, .int 0, .int 1]) (mc2 := 0) (ms2 := 0) B c_X13_in mt_X13_in ss_X13_70 dX13_quotaBy_27 rfl rfl rfl rfl rfl ?_
      refine pm_stk (st' := [.int (pm_in w 0 1), .ref (z + m0)]) rfl ?_
      refine pm_if_ne (tgt := 37) B dX13_quotaBy_30 (by decide) (fun hq5 => ?_) (fun hq5 => ?_)
      · refine pm_iconst (v := 0) B dX13_quotaBy_37 (by decide) ?_
        refine pm_put B dX13_quotaBy_38 fs_X13_39 ((pm_up_n (by omega)).trans pm_up_s) rfl rfl rfl ?_
        refine pm_mem (M' := pm_up (pm_up (pm_up M m0 (pm_mo z m0 f)) (m0 + 5) (.inl (kA 0, 7, .inl gq))) m0 (pm_mo z m0 (upd f 6 0))) rfl ?_
        refine pm_mem (M' := pm_up (pm_up M m0 (pm_mo z m0 (upd f 6 0))) (m0 + 5) (.inl (kA 0, 7, .inl gq))) (by rw [pm_up_sw (a := m0 + 5) (b := m0) (by omega), pm_up_up]) ?_
        refine pm_aload_n B dX13_quotaBy_41 rfl ?_
        refine pm_get B dX13_quotaBy_42 fl_X13_39 ((pm_up_n (by omega)).trans pm_up_s) rfl ?_
        refine pm_stk (st' := [.int 0]) rfl ?_
        refine pm_if_le (tgt := 50) B dX13_quotaBy_45 (by decide) (fun hq6 => ?_) (fun hq6 => absurd (by decide) hq6)
        refine pm_aload_n B dX13_quotaBy_50 rfl ?_
        refine pm_iload_n B dX13_quotaBy_51 rfl ?_
        refine pm_iload_n B dX13_quotaBy_52 rfl ?_
        refine pm_cV (As := [.int y, .int w]) (mc2 := 0) (ms2 := 0) B rfl ((pm_up_n (by omega)).trans pm_up_s) rfl (c_X13_apportions (x := y) (y := w) (n := n) (f := (upd f 6 0)) (g := g) (gq := gq) ((pm_up_n (by omega)).trans pm_up_s) ((pm_up_n (by omega)).trans ((pm_up_n (by omega)).trans hg)) pm_up_s hn (by first | assumption | omega) (hOK (by assumption) (by assumption) _ _)) mt_X13_apportions sv_X13_127 dX13_quotaBy_53 rfl rfl rfl rfl rfl ?_
        refine pm_mem (M' := pm_up (pm_up (pm_up M m0 (pm_mo z m0 (upd f 6 0))) (m0 + 5) (.inl (kA 0, 7, .inl gq))) (m0 + 5) (.inl (kA 0, 7, .inl (d_X13_apportions y w n (upd f 6 0) g gq)))) rfl ?_
        refine pm_mem (M' := pm_up (pm_up M m0 (pm_mo z m0 (upd f 6 0))) (m0 + 5) (.inl (kA 0, 7, .inl (d_X13_apportions y w n (upd f 6 0) g gq)))) (by rw [pm_up_up (a := m0 + 5)]) ?_
        refine pm_stk (st' := []) rfl ?_
        refine pm_aload_n B dX13_quotaBy_56 rfl ?_
        refine pm_get B dX13_quotaBy_57 fl_X13_22 ((pm_up_n (by omega)).trans pm_up_s) rfl ?_
        refine pm_stk (st' := [.ref (z + (m0 + 5))]) rfl ?_
        refine pm_iload_n B dX13_quotaBy_60 rfl ?_
        refine pm_iald_n B dX13_quotaBy_61 pm_up_s (pm_n x) (by first | assumption | omega) (by decide) ?_
        have hDq7 : (d_X13_quotaBy x y w n f g gq) = (((d_X13_apportions y w n (upd f 6 0) g gq) (pm_n x)), (upd f 6 0), (d_X13_apportions y w n (upd f 6 0) g gq)) := by rw [d_X13_quotaBy, if_neg hq1, if_neg hq2, if_neg hq5]
        exact pm_ireturn B dX13_quotaBy_62 rfl (by first | rfl | (apply pm_nz; first | assumption | decide | exact pm_in01 _ _ _ | simp)) ⟨(by rw [hDq7]), rfl, by rw [hDq7]⟩ rfl rfl
      · refine pm_iconst (v := 2) B dX13_quotaBy_33 (by decide) ?_
        refine pm_goto (tgt := 38) B dX13_quotaBy_34 (by decide) ?_
        refine pm_put B dX13_quotaBy_38 fs_X13_39 ((pm_up_n (by omega)).trans pm_up_s) rfl rfl rfl ?_
        refine pm_mem (M' := pm_up (pm_up (pm_up M m0 (pm_mo z m0 f)) (m0 + 5) (.inl (kA 0, 7, .inl gq))) m0 (pm_mo z m0 (upd f 6 2))) rfl ?_
        refine pm_mem (M' := pm_up (pm_up M m0 (pm_mo z m0 (upd f 6 2))) (m0 + 5) (.inl (kA 0, 7, .inl gq))) (by rw [pm_up_sw (a := m0 + 5) (b := m0) (by omega), pm_up_up]) ?_
        refine pm_aload_n B dX13_quotaBy_41 rfl ?_
        refine pm_get B dX13_quotaBy_42 fl_X13_39 ((pm_up_n (by omega)).trans pm_up_s) rfl ?_
        refine pm_stk (st' := [.int 2]) rfl ?_
        refine pm_if_le (tgt := 50) B dX13_quotaBy_45 (by decide) (fun hq8 => absurd hq8 (by decide)) (fun hq8 => ?_)
        refine pm_iconst (v := 0) B dX13_quotaBy_48 (by decide) ?_
        have hDq9 : (d_X13_quotaBy x y w n f g gq) = (0, (upd f 6 2), gq) := by rw [d_X13_quotaBy, if_neg hq1, if_neg hq2, if_pos hq5]
        exact pm_ireturn B dX13_quotaBy_49 rfl (by first | rfl | (apply pm_nz; first | assumption | decide | exact pm_in01 _ _ _ | simp)) ⟨(by rw [hDq9]), rfl, by rw [hDq9]⟩ rfl rfl
  · refine pm_iconst (v := 1) B dX13_quotaBy_9 (by decide) ?_
    refine pm_goto (tgt := 38) B dX13_quotaBy_10 (by decide) ?_
    refine pm_put B dX13_quotaBy_38 fs_X13_39 ((pm_up_n (by omega)).trans pm_up_s) rfl rfl rfl ?_
    refine pm_mem (M' := pm_up (pm_up (pm_up M m0 (pm_mo z m0 f)) (m0 + 5) (.inl (kA 0, 7, .inl gq))) m0 (pm_mo z m0 (upd f 6 1))) rfl ?_
    refine pm_mem (M' := pm_up (pm_up M m0 (pm_mo z m0 (upd f 6 1))) (m0 + 5) (.inl (kA 0, 7, .inl gq))) (by rw [pm_up_sw (a := m0 + 5) (b := m0) (by omega), pm_up_up]) ?_
    refine pm_aload_n B dX13_quotaBy_41 rfl ?_
    refine pm_get B dX13_quotaBy_42 fl_X13_39 ((pm_up_n (by omega)).trans pm_up_s) rfl ?_
    refine pm_stk (st' := [.int 1]) rfl ?_
    refine pm_if_le (tgt := 50) B dX13_quotaBy_45 (by decide) (fun hq10 => absurd hq10 (by decide)) (fun hq10 => ?_)
    refine pm_iconst (v := 0) B dX13_quotaBy_48 (by decide) ?_
    have hDq11 : (d_X13_quotaBy x y w n f g gq) = (0, (upd f 6 1), gq) := by rw [d_X13_quotaBy, if_pos hq1]
    exact pm_ireturn B dX13_quotaBy_49 rfl (by first | rfl | (apply pm_nz; first | assumption | decide | exact pm_in01 _ _ _ | simp)) ⟨(by rw [hDq11]), rfl, by rw [hDq11]⟩ rfl rfl
/-- how many of the first n bits are set -/
def pm_pc (D : Nat) : Nat → Nat
  | 0 => 0
  | n + 1 => pm_pc D n + D / 2 ^ n % 2
/-- on from m to one whose bit is not set, in k steps at most -/
def pm_drS (n D : Nat) : Nat → Nat → Prop
  | 0, m => ¬ D / 2 ^ m % 2 = 1
  | k + 1, m => D / 2 ^ m % 2 = 1 → pm_drS n D k ((m + 1) % n)
def pm_drB (n D : Nat) : Nat → Nat → Bool
  | 0, m => ! (D / 2 ^ m % 2 == 1)
  | k + 1, m => ! (D / 2 ^ m % 2 == 1) || pm_drB n D k ((m + 1) % n)
theorem pm_drS_of (n D : Nat) : ∀ (k m : Nat), pm_drB n D k m = true → pm_drS n D k m
  | 0, m, h => by simpa [pm_drB, pm_drS] using h
  | k + 1, m, h => by
    intro hb
    simp only [pm_drB, Bool.or_eq_true, Bool.not_eq_true'] at h
    rcases h with h | h
    · simp [hb] at h
    · exact pm_drS_of n D k _ h
theorem pm_drBn : ∀ (n : Fin 8) (D : Fin 128) (m : Fin 7), pm_pc D.1 n.1 < n.1 → m.1 < n.1 → pm_drB n.1 D.1 n.1 m.1 = true := by decide +kernel
theorem pm_drSn {n D m : Nat} (h7 : n ≤ 7) (hD : D < 128) (h : pm_pc D n < n) (hm : m < n) : pm_drS n D n m :=
  pm_drS_of _ _ _ _ (pm_drBn ⟨n, by omega⟩ ⟨D, hD⟩ ⟨m, by omega⟩ h hm)
theorem pm_tbF : ∀ (D : Fin 128) (m : Fin 7), (nI D.1 >>> (nI m.1 &&& 31)) &&& 1 = nI (D.1 / 2 ^ m.1 % 2) := by decide +kernel
theorem pm_tb {D m : Nat} (hD : D < 128) (hm : m < 7) : (nI D >>> (nI m &&& 31)) &&& 1 = nI (D / 2 ^ m % 2) := pm_tbF ⟨D, hD⟩ ⟨m, hm⟩
theorem pm_tb1 {b : Nat} : (nI (b % 2) = 1 ↔ b % 2 = 1) := nI_eq (b := 1) (by omega) (by decide)
theorem pm_pcO : ∀ (n : Fin 8) (D : Fin 128) (m : Fin 7), pm_pc (D.1 ||| 2 ^ m.1) n.1 ≤ pm_pc D.1 n.1 + 1 := by decide +kernel
theorem pm_pc0 : ∀ n : Fin 8, pm_pc 0 n.1 = 0 := by decide +kernel
def d_X13_draws_L1 (dr : Nat) (n : Nat) : Nat → Int32 → Int32
  | 0, a2_1 => a2_1
  | k1 + 1, a2_1 => if (nI (dr / 2 ^ (pm_n a2_1) % 2)) = 1 then (d_X13_draws_L1 dr n k1 (nI ((pm_n a2_1 + 1) % n))) else a2_1
def d_X13_draws (dr : Nat) (n : Nat) (f : Nat → Int32) (g : Nat → Int32) : (Int32 × (Nat → Int32)) := ((d_X13_draws_L1 dr n n (nI ((pm_n (f 13) * 109 + 89) % 1024 % n))), (upd f 13 (nI (((pm_n (f 13)) * 109 + 89) % 1024))))
set_option maxRecDepth 100000 in
set_option maxHeartbeats 8000000 in
theorem c_X13_draws {l : Launch} {z : Nat} {D : va_G} {kA : Nat → ClassId} {kE : Nat → Nat} {nx : Nat} {M : pm_M} {dr : Nat} {n : Nat}{m0 : Nat} {f : Nat → Int32} {g : Nat → Int32} (hM : M m0 = some (pm_mo z m0 f)) (hg : M (m0 + 1) = some (.inl (kA 0, 91, .inl g))) (hn : g 0 = nI n) (h7 : n ≤ 7) (hD : dr < 128) (hpc : pm_pc dr n < n) (hsd : f 13 = nI (pm_n (f 13))) (hsl : pm_n (f 13) < 1024) : pm_C l z D kA kE yX13_draws cX13_draws 3 (some .int) 1 0 0 [.ref (z + m0), .int (nI dr)] nx M (pm_rt (some (.int ((d_X13_draws dr n f g).1))) nx (pm_up M m0 (pm_mo z m0 ((d_X13_draws dr n f g).2)))) := by
  refine pm_mk (own := RX13) (nm := "draws") mt_X13_draws rfl rfl rfl rfl fun X B => ?_
  refine pm_loc (L' := [some (.ref (z + m0)), some (.int (nI dr)), none]) rfl ?_
  refine pm_mem (M' := pm_up M m0 (pm_mo z m0 f)) (by rw [pm_up_id hM]) ?_
  have hn0 : ¬ nI n = 0 := nI_ne0 (by omega) (by omega)
  have hp128 : ∀ m, m < n → pm_drS n dr n m := fun m hm => pm_drSn h7 hD hpc hm
  refine pm_aload_n B dX13_draws_0 rfl ?_
  refine pm_aload_n B dX13_draws_1 rfl ?_
  refine pm_get B dX13_draws_2 fl_X13_141 pm_up_s rfl ?_
  refine pm_stk (st' := [.int (nI (pm_n (f 13))), .ref (z + m0)]) (congrArg (fun yy : Int32 => ([.int yy, .ref (z + m0)] : List Value)) (show (f 13) = (nI (pm_n (f 13))) from hsd)) ?_
  refine pm_bipush (v := 109) B dX13_draws_5 (by decide) ?_
  refine pm_imul B dX13_draws_7 ?_
  refine pm_bipush (v := 89) B dX13_draws_8 (by decide) ?_
  refine pm_iadd B dX13_draws_10 ?_
  refine pm_sipush (v := 1024) B dX13_draws_11 (by decide) ?_
  refine pm_irem B dX13_draws_14 (by first | decide | assumption) ?_
  refine pm_stk (st' := [.int (nI (((pm_n (f 13)) * 109 + 89) % 1024)), .ref (z + m0)]) (by rw [show ((((nI (pm_n (f 13))) * 109) + 89) - (((nI (pm_n (f 13))) * 109) + 89) / 1024 * 1024) = (nI (((pm_n (f 13)) * 109 + 89) % 1024)) from by rw [show (109 : Int32) = nI 109 from rfl, show (89 : Int32) = nI 89 from rfl, show (1024 : Int32) = nI 1024 from rfl, pk_mul, nI_add, pk_rem (by omega) (by decide) (by decide)]]) ?_
  refine pm_put B dX13_draws_15 fs_X13_141 pm_up_s rfl rfl rfl ?_
  refine pm_mem (M' := pm_up M m0 (pm_mo z m0 (upd f 13 (nI (((pm_n (f 13)) * 109 + 89) % 1024))))) pm_up_up ?_
  refine pm_aload_n B dX13_draws_18 rfl ?_
  refine pm_get B dX13_draws_19 fl_X13_141 pm_up_s rfl ?_
  refine pm_stk (st' := [.int (nI (((pm_n (f 13)) * 109 + 89) % 1024))]) rfl ?_
  refine pm_aload_n B dX13_draws_22 rfl ?_
  refine pm_get B dX13_draws_23 fl_X13_9 pm_up_s rfl ?_
  refine pm_stk (st' := [.ref (z + (m0 + 1)), .int (nI (((pm_n (f 13)) * 109 + 89) % 1024))]) rfl ?_
  refine pm_iconst (v := 0) B dX13_draws_26 (by decide) ?_
  refine pm_iald_n B dX13_draws_27 ((pm_up_n (by omega)).trans hg) 0 (by decide) (by decide) ?_
  refine pm_stk (st' := [.int (nI n), .int (nI (((pm_n (f 13)) * 109 + 89) % 1024))]) (by rw [show (g 0) = (nI n) from by rw [hn]]) ?_
  refine pm_irem B dX13_draws_28 (by first | decide | assumption) ?_
  refine pm_stk (st' := [.int (nI ((pm_n (f 13) * 109 + 89) % 1024 % n))]) (by rw [show ((nI (((pm_n (f 13)) * 109 + 89) % 1024)) - (nI (((pm_n (f 13)) * 109 + 89) % 1024)) / (nI n) * (nI n)) = (nI ((pm_n (f 13) * 109 + 89) % 1024 % n)) from pk_rem (by omega) (by omega) (by omega)]) ?_
  have hm0 : (pm_n (f 13) * 109 + 89) % 1024 % n < n := Nat.mod_lt _ (by omega)
  refine pm_istore_n B dX13_draws_29 rfl rfl ?_
  refine pm_loc (L' := [some (.ref (z + m0)), some (.int (nI dr)), some (.int (nI ((pm_n (f 13) * 109 + 89) % 1024 % n)))]) rfl ?_
  have loop1 : ∀ (K1 : (Int32 → (Int32 × (Nat → Int32)))), (∀ (a2_1 : Int32), pm_G l z D X 0 0 (pm_Q z D (pm_rt (some (.int ((K1 a2_1).1))) nx (pm_up M m0 (pm_mo z m0 ((K1 a2_1).2)))) 0 0 X) nx (pm_up M m0 (pm_mo z m0 (upd f 13 (nI (((pm_n (f 13)) * 109 + 89) % 1024))))) 53 [none, none, some (.int a2_1)] []) → ∀ (k1 : Nat), ∀ (a2_1 : Int32), (hm_1 : a2_1 = nI (pm_n a2_1) ∧ pm_n a2_1 < n) → (hs_1 : pm_drS n dr k1 (pm_n a2_1)) → pm_G l z D X 0 0 (pm_Q z D (pm_rt (some (.int ((K1 (d_X13_draws_L1 dr n k1 a2_1)).1))) nx (pm_up M m0 (pm_mo z m0 ((K1 (d_X13_draws_L1 dr n k1 a2_1)).2)))) 0 0 X) nx (pm_up M m0 (pm_mo z m0 (upd f 13 (nI (((pm_n (f 13)) * 109 + 89) % 1024))))) 30 [some (.ref (z + m0)), some (.int (nI dr)), some (.int a2_1)] [] := by
    intro K1 hK1 k1
    induction k1 with
    | zero =>
      intro a2_1 hm_1 hs_1
      refine pm_iload_n B dX13_draws_30 rfl ?_
      refine pm_iload_n B dX13_draws_31 rfl ?_
      refine pm_stk (st' := [.int (nI (pm_n a2_1)), .int (nI dr)]) (congrArg (fun yy : Int32 => ([.int yy, .int (nI dr)] : List Value)) (show a2_1 = (nI (pm_n a2_1)) from hm_1.1)) ?_
      refine pm_ishr B dX13_draws_32 ?_
      refine pm_iconst (v := 1) B dX13_draws_33 (by decide) ?_
      refine pm_iand B dX13_draws_34 ?_
      refine pm_stk (st' := [.int (nI (dr / 2 ^ (pm_n a2_1) % 2))]) (by rw [show (((nI dr) >>> ((nI (pm_n a2_1)) &&& 31)) &&& 1) = (nI (dr / 2 ^ (pm_n a2_1) % 2)) from pm_tb hD (by omega)]) ?_
      refine pm_iconst (v := 1) B dX13_draws_35 (by decide) ?_
      refine pm_icmp_ne (tgt := 53) B dX13_draws_36 (by decide) (fun hq1 => ?_) (fun hq1 => absurd hq1 ((fun e => hs_1 (pm_tb1.mp e))))
      refine pm_wk (L' := [none, none, some (.int a2_1)]) ⟨rfl, trivial⟩ ?_
      have hDq2 : (K1 (d_X13_draws_L1 dr n 0 a2_1)) = (K1 a2_1) := by rw [d_X13_draws_L1]
      refine pm_pst (post' := pm_rt (some (.int ((K1 a2_1).1))) nx (pm_up M m0 (pm_mo z m0 ((K1 a2_1).2)))) (by rw [hDq2]) ?_
      exact hK1 a2_1
    | succ k1 ih1 =>
      intro a2_1 hm_1 hs_1
      refine pm_iload_n B dX13_draws_30 rfl ?_
      refine pm_iload_n B dX13_draws_31 rfl ?_
      refine pm_stk (st' := [.int (nI (pm_n a2_1)), .int (nI dr)]) (congrArg (fun yy : Int32 => ([.int yy, .int (nI dr)] : List Value)) (show a2_1 = (nI (pm_n a2_1)) from hm_1.1)) ?_
      refine pm_ishr B dX13_draws_32 ?_
      refine pm_iconst (v := 1) B dX13_draws_33 (by decide) ?_
      refine pm_iand B dX13_draws_34 ?_
      refine pm_stk (st' := [.int (nI (dr / 2 ^ (pm_n a2_1) % 2))]) (by rw [show (((nI dr) >>> ((nI (pm_n a2_1)) &&& 31)) &&& 1) = (nI (dr / 2 ^ (pm_n a2_1) % 2)) from pm_tb hD (by omega)]) ?_
      refine pm_iconst (v := 1) B dX13_draws_35 (by decide) ?_
      refine pm_icmp_ne (tgt := 53) B dX13_draws_36 (by decide) (fun hq3 => ?_) (fun hq3 => ?_)
      · refine pm_wk (L' := [none, none, some (.int a2_1)]) ⟨rfl, trivial⟩ ?_
        have hDq4 : (K1 (d_X13_draws_L1 dr n (k1 + 1) a2_1)) = (K1 a2_1) := by rw [d_X13_draws_L1, if_neg hq3]
        refine pm_pst (post' := pm_rt (some (.int ((K1 a2_1).1))) nx (pm_up M m0 (pm_mo z m0 ((K1 a2_1).2)))) (by rw [hDq4]) ?_
        exact hK1 a2_1
      · refine pm_iload_n B dX13_draws_39 rfl ?_
        refine pm_stk (st' := [.int (nI (pm_n a2_1))]) (congrArg (fun yy : Int32 => ([.int yy] : List Value)) (show a2_1 = (nI (pm_n a2_1)) from hm_1.1)) ?_
        refine pm_iconst (v := 1) B dX13_draws_40 (by decide) ?_
        refine pm_iadd B dX13_draws_41 ?_
        refine pm_aload_n B dX13_draws_42 rfl ?_
        refine pm_get B dX13_draws_43 fl_X13_9 pm_up_s rfl ?_
        refine pm_stk (st' := [.ref (z + (m0 + 1)), .int ((nI (pm_n a2_1)) + 1)]) rfl ?_
        refine pm_iconst (v := 0) B dX13_draws_46 (by decide) ?_
        refine pm_iald_n B dX13_draws_47 ((pm_up_n (by omega)).trans hg) 0 (by decide) (by decide) ?_
        refine pm_stk (st' := [.int (nI n), .int ((nI (pm_n a2_1)) + 1)]) (by rw [show (g 0) = (nI n) from by rw [hn]]) ?_
        refine pm_irem B dX13_draws_48 (by first | decide | assumption) ?_
        refine pm_stk (st' := [.int (nI ((pm_n a2_1 + 1) % n))]) (by rw [show (((nI (pm_n a2_1)) + 1) - ((nI (pm_n a2_1)) + 1) / (nI n) * (nI n)) = (nI ((pm_n a2_1 + 1) % n)) from by rw [show (1 : Int32) = nI 1 from rfl, nI_add]; exact pk_rem (by omega) (by omega) (by omega)]) ?_
        refine pm_istore_n B dX13_draws_49 rfl rfl ?_
        refine pm_loc (L' := [some (.ref (z + m0)), some (.int (nI dr)), some (.int (nI ((pm_n a2_1 + 1) % n)))]) rfl ?_
        refine pm_goto (tgt := 30) B dX13_draws_50 (by decide) ?_
        have hDq5 : (K1 (d_X13_draws_L1 dr n (k1 + 1) a2_1)) = (K1 (d_X13_draws_L1 dr n k1 (nI ((pm_n a2_1 + 1) % n)))) := by rw [d_X13_draws_L1, if_pos hq3]
        refine pm_pst (post' := pm_rt (some (.int ((K1 (d_X13_draws_L1 dr n k1 (nI ((pm_n a2_1 + 1) % n)))).1))) nx (pm_up M m0 (pm_mo z m0 ((K1 (d_X13_draws_L1 dr n k1 (nI ((pm_n a2_1 + 1) % n)))).2)))) (by rw [hDq5]) ?_
        exact ih1 (nI ((pm_n a2_1 + 1) % n)) ((by have hq := Nat.mod_lt (pm_n a2_1 + 1) (show 0 < n by omega); exact ⟨by rw [pm_n_nI (by omega)], by rw [pm_n_nI (by omega)]; exact hq⟩)) ((by rw [pm_n_nI (by have := Nat.mod_lt (pm_n a2_1 + 1) (show 0 < n by omega); omega)]; exact hs_1 (pm_tb1.mp (by assumption))))
  refine pm_pst (post' := pm_rt (some (.int (((d_X13_draws_L1 dr n n (nI ((pm_n (f 13) * 109 + 89) % 1024 % n))), (upd f 13 (nI (((pm_n (f 13)) * 109 + 89) % 1024)))).1))) nx (pm_up M m0 (pm_mo z m0 (((d_X13_draws_L1 dr n n (nI ((pm_n (f 13) * 109 + 89) % 1024 % n))), (upd f 13 (nI (((pm_n (f 13)) * 109 + 89) % 1024)))).2)))) (by rw [show (d_X13_draws dr n f g) = ((d_X13_draws_L1 dr n n (nI ((pm_n (f 13) * 109 + 89) % 1024 % n))), (upd f 13 (nI (((pm_n (f 13)) * 109 + 89) % 1024)))) from by rw [d_X13_draws]]) ?_
  refine loop1 (fun (a2_1 : Int32) => (a2_1, (upd f 13 (nI (((pm_n (f 13)) * 109 + 89) % 1024))))) ?_ n (nI ((pm_n (f 13) * 109 + 89) % 1024 % n)) ((by rw [pm_n_nI (by omega)]; exact ⟨rfl, hm0⟩)) ((by rw [pm_n_nI (by omega)]; exact hp128 _ hm0))
  intro a2_1
  refine pm_pst (post' := pm_rt (some (.int ((a2_1, (upd f 13 (nI (((pm_n (f 13)) * 109 + 89) % 1024)))).1))) nx (pm_up M m0 (pm_mo z m0 ((a2_1, (upd f 13 (nI (((pm_n (f 13)) * 109 + 89) % 1024)))).2)))) rfl ?_
  refine pm_iload_n B dX13_draws_53 rfl ?_
  have hDq6 : ((a2_1, (upd f 13 (nI (((pm_n (f 13)) * 109 + 89) % 1024))))) = (a2_1, (upd f 13 (nI (((pm_n (f 13)) * 109 + 89) % 1024)))) := rfl
  exact pm_ireturn B dX13_draws_54 rfl (by first | rfl | (apply pm_nz; first | assumption | decide | exact pm_in01 _ _ _ | simp)) ⟨(by rw [hDq6]), rfl, by rw [hDq6]⟩ rfl rfl
theorem d_X13_draws_in (dr n : Nat) (f g : Nat → Int32) (h7 : n ≤ 7) (h0 : 0 < n) : (d_X13_draws dr n f g).1 = nI (pm_n (d_X13_draws dr n f g).1) ∧ pm_n (d_X13_draws dr n f g).1 < n := by
  have h : ∀ (k m : Nat), m < n → ∃ m', m' < n ∧ d_X13_draws_L1 dr n k (nI m) = nI m' := by
    intro k
    induction k with
    | zero => intro m hm; exact ⟨m, hm, rfl⟩
    | succ k ih =>
      intro m hm
      simp only [d_X13_draws_L1]
      split
      · exact ih _ (Nat.mod_lt _ h0)
      · exact ⟨m, hm, rfl⟩
  obtain ⟨m, hm, he⟩ := h n ((pm_n (f 13) * 109 + 89) % 1024 % n) (Nat.mod_lt _ h0)
  have he' : (d_X13_draws dr n f g).1 = nI m := he
  rw [he', pm_n_nI (by omega)]
  exact ⟨rfl, hm⟩
theorem d_X13_draws_sd (dr n : Nat) (f g : Nat → Int32) : (d_X13_draws dr n f g).2 13 = nI (pm_n ((d_X13_draws dr n f g).2 13)) ∧ pm_n ((d_X13_draws dr n f g).2 13) < 1024 := by
  have h : (d_X13_draws dr n f g).2 13 = nI ((pm_n (f 13) * 109 + 89) % 1024) := rfl
  rw [h, pm_n_nI (by omega)]
  exact ⟨rfl, by omega⟩
theorem pm_orN {D m : Nat} (hD : D < 128) (hm : m < 7) : (nI D ||| 1 <<< (nI m &&& 31)) = nI (D ||| 2 ^ m) ∧ D ||| 2 ^ m < 128 := pm_orB ⟨D, hD⟩ ⟨m, hm⟩
theorem pm_pcN {D m n j : Nat} (h7 : n ≤ 7) (hD : D < 128) (hm : m < 7) (h : pm_pc D n ≤ j) : pm_pc (D ||| 2 ^ m) n ≤ j + 1 :=
  Nat.le_trans (pm_pcO ⟨n, by omega⟩ ⟨D, hD⟩ ⟨m, hm⟩) (Nat.add_le_add_right h 1)
theorem pm_in17 {x : Int32} (h : ¬ pm_in x 1 7 = 0) : x = nI (pm_n x) ∧ 1 ≤ pm_n x ∧ pm_n x ≤ 7 := by
  unfold pm_in at h
  split at h
  · exact absurd rfl h
  · rename_i h1
    split at h
    · exact absurd rfl h
    · rename_i h2
      have h0 : ¬ x < 0 := fun e => h1 (Int32.lt_trans e (by decide))
      obtain ⟨j, hj, rfl⟩ := nI_of h0
      rw [pm_n_nI hj]
      rw [show (1 : Int32) = nI 1 from rfl, nI_ltI hj (by decide)] at h1
      rw [show (7 : Int32) = nI 7 from rfl, nI_ltI (by decide) hj] at h2
      exact ⟨rfl, by omega, by omega⟩
def d_X13_doAudit_L1 (n : Nat) : Nat → Nat → Int32 → Int32 → (Nat → Int32) → (Nat → Int32) → (Int32 × Int32 × (Nat → Int32) × (Nat → Int32))
  | 0, _, a2_1, a3_1, f_1, g_1 => (a2_1, a3_1, f_1, g_1)
  | k1 + 1, j1, a2_1, a3_1, f_1, g_1 => if (pm_mv g_1 (pm_n ((d_X13_draws (pm_n a2_1) n f_1 g_1).1))) ≤ 0 then (d_X13_doAudit_L1 n k1 (j1 + 1) (nI (pm_n a2_1 ||| 2 ^ (pm_n ((d_X13_draws (pm_n a2_1) n f_1 g_1).1)))) a3_1 ((d_X13_draws (pm_n a2_1) n f_1 g_1).2) g_1) else (if (pm_ib g_1 (pm_n ((d_X13_draws (pm_n a2_1) n f_1 g_1).1))) = 0 then (if (g_1 (7 + 5 * (pm_n ((d_X13_draws (pm_n a2_1) n f_1 g_1).1)) + 4)) = 2 then (d_X13_doAudit_L1 n k1 (j1 + 1) (nI (pm_n a2_1 ||| 2 ^ (pm_n ((d_X13_draws (pm_n a2_1) n f_1 g_1).1)))) (a3_1 + Int32.ofInt 1) ((d_X13_draws (pm_n a2_1) n f_1 g_1).2) (upd g_1 (7 + 5 * (pm_n ((d_X13_draws (pm_n a2_1) n f_1 g_1).1)) + 4) (-2))) else (d_X13_doAudit_L1 n k1 (j1 + 1) (nI (pm_n a2_1 ||| 2 ^ (pm_n ((d_X13_draws (pm_n a2_1) n f_1 g_1).1)))) (a3_1 + Int32.ofInt 1) ((d_X13_draws (pm_n a2_1) n f_1 g_1).2) (upd g_1 (7 + 5 * (pm_n ((d_X13_draws (pm_n a2_1) n f_1 g_1).1)) + 4) ((g_1 (7 + 5 * (pm_n ((d_X13_draws (pm_n a2_1) n f_1 g_1).1)) + 4)) + 1)))) else (d_X13_doAudit_L1 n k1 (j1 + 1) (nI (pm_n a2_1 ||| 2 ^ (pm_n ((d_X13_draws (pm_n a2_1) n f_1 g_1).1)))) a3_1 ((d_X13_draws (pm_n a2_1) n f_1 g_1).2) g_1))
def d_X13_doAudit (x : Int32) (n : Nat) (f : Nat → Int32) (g : Nat → Int32) : (Int32 × (Nat → Int32) × (Nat → Int32)) := if (pm_in x 1 7) = 0 then (0, (upd f 6 1), g) else (if x ≤ (nI n) then (((d_X13_doAudit_L1 n (pm_n x) 0 0 0 (upd f 13 (g 2)) g).2.1), ((d_X13_doAudit_L1 n (pm_n x) 0 0 0 (upd f 13 (g 2)) g).2.2.1), (upd ((d_X13_doAudit_L1 n (pm_n x) 0 0 0 (upd f 13 (g 2)) g).2.2.2) 2 (((d_X13_doAudit_L1 n (pm_n x) 0 0 0 (upd f 13 (g 2)) g).2.2.1) 13))) else (0, (upd (upd (upd f 7 6) 8 (nI n)) 6 2), g))
set_option maxRecDepth 100000 in
set_option maxHeartbeats 8000000 in
theorem c_X13_doAudit {l : Launch} {z : Nat} {D : va_G} {kA : Nat → ClassId} {kE : Nat → Nat} {nx : Nat} {M : pm_M} {x : Int32} {n : Nat}{m0 : Nat} {f : Nat → Int32} {g : Nat → Int32} (hM : M m0 = some (pm_mo z m0 f)) (hg : M (m0 + 1) = some (.inl (kA 0, 91, .inl g))) (hn : g 0 = nI n) (h7 : n ≤ 7) (hgd : g 2 = nI (pm_n (g 2))) (hgl : pm_n (g 2) < 1024) : pm_C l z D kA kE yX13_doAudit cX13_doAudit 6 (some .int) 2 0 0 [.ref (z + m0), .int x] nx M (pm_rt (some (.int ((d_X13_doAudit x n f g).1))) nx (pm_up (pm_up M m0 (pm_mo z m0 ((d_X13_doAudit x n f g).2.1))) (m0 + 1) (.inl (kA 0, 91, .inl ((d_X13_doAudit x n f g).2.2))))) := by
  refine pm_mk (own := RX13) (nm := "doAudit") mt_X13_doAudit rfl rfl rfl rfl fun X B => ?_
  refine pm_loc (L' := [some (.ref (z + m0)), some (.int x), none, none, none, none]) rfl ?_
  refine pm_mem (M' := pm_up (pm_up M m0 (pm_mo z m0 f)) (m0 + 1) (.inl (kA 0, 91, .inl g))) (by rw [pm_up_id hM, pm_up_id hg]) ?_
  refine pm_iload_n B dX13_doAudit_0 rfl ?_
  refine pm_iconst (v := 1) B dX13_doAudit_1 (by decide) ?_
  refine pm_bipush (v := 7) B dX13_doAudit_2 (by decide) ?_
  refine pm_cS (As := [.int x, .int 1, .int 7]) (mc2 := 0) (ms2 := 0) B c_X13_in mt_X13_in ss_X13_70 dX13_doAudit_4 rfl rfl rfl rfl rfl ?_
  refine pm_stk (st' := [.int (pm_in x 1 7)]) rfl ?_
  refine pm_if_ne (tgt := 16) B dX13_doAudit_7 (by decide) (fun hq1 => ?_) (fun hq1 => ?_)
  · refine pm_iload_n B dX13_doAudit_16 rfl ?_
    refine pm_aload_n B dX13_doAudit_17 rfl ?_
    refine pm_get B dX13_doAudit_18 fl_X13_9 ((pm_up_n (by omega)).trans pm_up_s) rfl ?_
    refine pm_iconst (v := 0) B dX13_doAudit_21 (by decide) ?_
    refine pm_iald_n B dX13_doAudit_22 pm_up_s 0 (by decide) (by decide) ?_
    refine pm_stk (st' := [.int (nI n), .int x]) (by rw [show (g 0) = (nI n) from by rw [hn]]) ?_
    refine pm_icmp_le (tgt := 40) B dX13_doAudit_23 (by decide) (fun hq2 => ?_) (fun hq2 => ?_)
    · obtain ⟨hxe, hx1, hx7⟩ := pm_in17 (by assumption)
      refine pm_loc (L' := [some (.ref (z + m0)), some (.int (nI (pm_n x))), none, none, none, none]) (congrArg (fun yy : Int32 => ([some (.ref (z + m0)), some (.int yy), none, none, none, none] : List (Option Value))) hxe) ?_
      have hxn : pm_n x ≤ n := (nI_leI (by omega) (by omega)).mp (by rw [← hxe]; assumption)
      refine pm_aload_n B dX13_doAudit_40 rfl ?_
      refine pm_aload_n B dX13_doAudit_41 rfl ?_
      refine pm_get B dX13_doAudit_42 fl_X13_9 ((pm_up_n (by omega)).trans pm_up_s) rfl ?_
      refine pm_iconst (v := 2) B dX13_doAudit_45 (by decide) ?_
      refine pm_iald_n B dX13_doAudit_46 pm_up_s 2 (by decide) (by decide) ?_
      refine pm_put B dX13_doAudit_47 fs_X13_141 ((pm_up_n (by omega)).trans pm_up_s) rfl rfl rfl ?_
      refine pm_mem (M' := pm_up (pm_up (pm_up M m0 (pm_mo z m0 f)) (m0 + 1) (.inl (kA 0, 91, .inl g))) m0 (pm_mo z m0 (upd f 13 (g 2)))) rfl ?_
      refine pm_mem (M' := pm_up (pm_up M m0 (pm_mo z m0 (upd f 13 (g 2)))) (m0 + 1) (.inl (kA 0, 91, .inl g))) (by rw [pm_up_sw (a := m0 + 1) (b := m0) (by omega), pm_up_up]) ?_
      refine pm_iconst (v := 0) B dX13_doAudit_50 (by decide) ?_
      refine pm_istore_n B dX13_doAudit_51 rfl rfl ?_
      refine pm_loc (L' := [some (.ref (z + m0)), some (.int (nI (pm_n x))), some (.int 0), none, none, none]) rfl ?_
      refine pm_iconst (v := 0) B dX13_doAudit_52 (by decide) ?_
      refine pm_istore_n B dX13_doAudit_53 rfl rfl ?_
      refine pm_loc (L' := [some (.ref (z + m0)), some (.int (nI (pm_n x))), some (.int 0), some (.int 0), none, none]) rfl ?_
      refine pm_iconst (v := 0) B dX13_doAudit_54 (by decide) ?_
      refine pm_istore B dX13_doAudit_55 rfl rfl ?_
      refine pm_loc (L' := [some (.ref (z + m0)), some (.int (nI (pm_n x))), some (.int 0), some (.int 0), some (.int 0), none]) rfl ?_
      refine pm_loc (L' := [some (.ref (z + m0)), some (.int (nI (pm_n x))), some (.int 0), some (.int 0), some (.int (nI 0)), none]) rfl ?_
      have loop1 : ∀ (K1 : (Int32 → Int32 → (Nat → Int32) → (Nat → Int32) → (Int32 × (Nat → Int32) × (Nat → Int32)))), (∀ (a2_1 : Int32) (a3_1 : Int32) (f_1 : (Nat → Int32)) (g_1 : (Nat → Int32)), (hn_1 : g_1 0 = nI n) → pm_G l z D X 0 0 (pm_Q z D (pm_rt (some (.int ((K1 a2_1 a3_1 f_1 g_1).1))) nx (pm_up (pm_up M m0 (pm_mo z m0 ((K1 a2_1 a3_1 f_1 g_1).2.1))) (m0 + 1) (.inl (kA 0, 91, .inl ((K1 a2_1 a3_1 f_1 g_1).2.2))))) 0 0 X) nx (pm_up (pm_up M m0 (pm_mo z m0 f_1)) (m0 + 1) (.inl (kA 0, 91, .inl g_1))) 136 [some (.ref (z + m0)), none, none, some (.int a3_1), none, none] []) → ∀ (k1 j1 : Nat), j1 + k1 = (pm_n x) → ∀ (a2_1 : Int32) (a3_1 : Int32) (f_1 : (Nat → Int32)) (g_1 : (Nat → Int32)), (hn_1 : g_1 0 = nI n) → (hD_1 : a2_1 = nI (pm_n a2_1) ∧ pm_n a2_1 < 128) → (hp_1 : pm_pc (pm_n a2_1) n ≤ j1) → (hsd_1 : f_1 13 = nI (pm_n (f_1 13))) → (hsl_1 : pm_n (f_1 13) < 1024) → pm_G l z D X 0 0 (pm_Q z D (pm_rt (some (.int ((K1 ((d_X13_doAudit_L1 n k1 j1 a2_1 a3_1 f_1 g_1).1) ((d_X13_doAudit_L1 n k1 j1 a2_1 a3_1 f_1 g_1).2.1) ((d_X13_doAudit_L1 n k1 j1 a2_1 a3_1 f_1 g_1).2.2.1) ((d_X13_doAudit_L1 n k1 j1 a2_1 a3_1 f_1 g_1).2.2.2)).1))) nx (pm_up (pm_up M m0 (pm_mo z m0 ((K1 ((d_X13_doAudit_L1 n k1 j1 a2_1 a3_1 f_1 g_1).1) ((d_X13_doAudit_L1 n k1 j1 a2_1 a3_1 f_1 g_1).2.1) ((d_X13_doAudit_L1 n k1 j1 a2_1 a3_1 f_1 g_1).2.2.1) ((d_X13_doAudit_L1 n k1 j1 a2_1 a3_1 f_1 g_1).2.2.2)).2.1))) (m0 + 1) (.inl (kA 0, 91, .inl ((K1 ((d_X13_doAudit_L1 n k1 j1 a2_1 a3_1 f_1 g_1).1) ((d_X13_doAudit_L1 n k1 j1 a2_1 a3_1 f_1 g_1).2.1) ((d_X13_doAudit_L1 n k1 j1 a2_1 a3_1 f_1 g_1).2.2.1) ((d_X13_doAudit_L1 n k1 j1 a2_1 a3_1 f_1 g_1).2.2.2)).2.2))))) 0 0 X) nx (pm_up (pm_up M m0 (pm_mo z m0 f_1)) (m0 + 1) (.inl (kA 0, 91, .inl g_1))) 57 [some (.ref (z + m0)), some (.int (nI (pm_n x))), some (.int a2_1), some (.int a3_1), some (.int (nI j1)), none] [] := by
        intro K1 hK1 k1
        induction k1 with
        | zero =>
          intro j1 hj1 a2_1 a3_1 f_1 g_1 hn_1 hD_1 hp_1 hsd_1 hsl_1
          have hjn1 : j1 = (pm_n x) := by omega
          refine pm_iload B dX13_doAudit_57 rfl ?_
          refine pm_iload_n B dX13_doAudit_59 rfl ?_
          refine pm_icmp_ge (tgt := 136) B dX13_doAudit_60 (by decide) (fun hq3 => ?_) (fun hq3 => absurd ((nI_leI (by first | omega | decide) (by first | omega | decide)).mpr (by omega)) hq3)
          refine pm_wk (L' := [some (.ref (z + m0)), none, none, some (.int a3_1), none, none]) ⟨rfl, ⟨rfl, trivial⟩⟩ ?_
          have hDq4 : (K1 ((d_X13_doAudit_L1 n 0 j1 a2_1 a3_1 f_1 g_1).1) ((d_X13_doAudit_L1 n 0 j1 a2_1 a3_1 f_1 g_1).2.1) ((d_X13_doAudit_L1 n 0 j1 a2_1 a3_1 f_1 g_1).2.2.1) ((d_X13_doAudit_L1 n 0 j1 a2_1 a3_1 f_1 g_1).2.2.2)) = (K1 a2_1 a3_1 f_1 g_1) := by rw [d_X13_doAudit_L1]
          refine pm_pst (post' := pm_rt (some (.int ((K1 a2_1 a3_1 f_1 g_1).1))) nx (pm_up (pm_up M m0 (pm_mo z m0 ((K1 a2_1 a3_1 f_1 g_1).2.1))) (m0 + 1) (.inl (kA 0, 91, .inl ((K1 a2_1 a3_1 f_1 g_1).2.2))))) (by rw [hDq4]) ?_
          exact hK1 a2_1 a3_1 f_1 g_1 (hn_1)
        | succ k1 ih1 =>
          intro j1 hj1 a2_1 a3_1 f_1 g_1 hn_1 hD_1 hp_1 hsd_1 hsl_1
          have hjn1 : j1 < (pm_n x) := by omega
          refine pm_iload B dX13_doAudit_57 rfl ?_
          refine pm_iload_n B dX13_doAudit_59 rfl ?_
          refine pm_icmp_ge (tgt := 136) B dX13_doAudit_60 (by decide) (fun hq5 => absurd hq5 (fun e => absurd ((nI_leI (by first | omega | decide) (by first | omega | decide)).mp e) (by omega))) (fun hq5 => ?_)
          refine pm_aload_n B dX13_doAudit_63 rfl ?_
          refine pm_iload_n B dX13_doAudit_64 rfl ?_
          refine pm_stk (st' := [.int (nI (pm_n a2_1)), .ref (z + m0)]) (congrArg (fun yy : Int32 => ([.int yy, .ref (z + m0)] : List Value)) (show a2_1 = (nI (pm_n a2_1)) from hD_1.1)) ?_
          refine pm_cV (As := [.int (nI (pm_n a2_1))]) (mc2 := 0) (ms2 := 0) B rfl ((pm_up_n (by omega)).trans pm_up_s) rfl (c_X13_draws (dr := (pm_n a2_1)) (n := n) (f := f_1) (g := g_1) ((pm_up_n (by omega)).trans pm_up_s) pm_up_s hn_1 (by first | assumption | omega) hD_1.2 (by omega) (by first | assumption | exact hsd_1) (by first | assumption | exact hsl_1)) mt_X13_draws sv_X13_144 dX13_doAudit_65 rfl rfl rfl rfl rfl ?_
          refine pm_mem (M' := pm_up (pm_up (pm_up M m0 (pm_mo z m0 f_1)) (m0 + 1) (.inl (kA 0, 91, .inl g_1))) m0 (pm_mo z m0 ((d_X13_draws (pm_n a2_1) n f_1 g_1).2))) rfl ?_
          refine pm_mem (M' := pm_up (pm_up M m0 (pm_mo z m0 ((d_X13_draws (pm_n a2_1) n f_1 g_1).2))) (m0 + 1) (.inl (kA 0, 91, .inl g_1))) (by rw [pm_up_sw (a := m0 + 1) (b := m0) (by omega), pm_up_up (a := m0)]) ?_
          refine pm_stk (st' := [.int ((d_X13_draws (pm_n a2_1) n f_1 g_1).1)]) rfl ?_
          have hr := (d_X13_draws_in (pm_n a2_1) n f_1 g_1 h7 (by omega)).2
          refine pm_stk (st' := [.int (nI (pm_n ((d_X13_draws (pm_n a2_1) n f_1 g_1).1)))]) (congrArg (fun yy : Int32 => ([.int yy] : List Value)) (show ((d_X13_draws (pm_n a2_1) n f_1 g_1).1) = (nI (pm_n ((d_X13_draws (pm_n a2_1) n f_1 g_1).1))) from (d_X13_draws_in (pm_n a2_1) n f_1 g_1 h7 (by omega)).1)) ?_
          refine pm_istore B dX13_doAudit_68 rfl rfl ?_
          refine pm_loc (L' := [some (.ref (z + m0)), some (.int (nI (pm_n x))), some (.int a2_1), some (.int a3_1), some (.int (nI j1)), some (.int (nI (pm_n ((d_X13_draws (pm_n a2_1) n f_1 g_1).1))))]) rfl ?_
          refine pm_iload_n B dX13_doAudit_70 rfl ?_
          refine pm_stk (st' := [.int (nI (pm_n a2_1))]) (congrArg (fun yy : Int32 => ([.int yy] : List Value)) (show a2_1 = (nI (pm_n a2_1)) from hD_1.1)) ?_
          refine pm_iconst (v := 1) B dX13_doAudit_71 (by decide) ?_
          refine pm_iload B dX13_doAudit_72 rfl ?_
          refine pm_ishl B dX13_doAudit_74 ?_
          refine pm_ior B dX13_doAudit_75 ?_
          refine pm_stk (st' := [.int (nI (pm_n a2_1 ||| 2 ^ (pm_n ((d_X13_draws (pm_n a2_1) n f_1 g_1).1))))]) (by rw [show ((nI (pm_n a2_1)) ||| (1 <<< ((nI (pm_n ((d_X13_draws (pm_n a2_1) n f_1 g_1).1))) &&& 31))) = (nI (pm_n a2_1 ||| 2 ^ (pm_n ((d_X13_draws (pm_n a2_1) n f_1 g_1).1)))) from (pm_orN hD_1.2 (by omega)).1]) ?_
          refine pm_istore_n B dX13_doAudit_76 rfl rfl ?_
          refine pm_loc (L' := [some (.ref (z + m0)), some (.int (nI (pm_n x))), some (.int (nI (pm_n a2_1 ||| 2 ^ (pm_n ((d_X13_draws (pm_n a2_1) n f_1 g_1).1))))), some (.int a3_1), some (.int (nI j1)), some (.int (nI (pm_n ((d_X13_draws (pm_n a2_1) n f_1 g_1).1))))]) rfl ?_
          refine pm_aload_n B dX13_doAudit_77 rfl ?_
          refine pm_iload B dX13_doAudit_78 rfl ?_
          refine pm_cV (As := [.int (nI (pm_n ((d_X13_draws (pm_n a2_1) n f_1 g_1).1)))]) (mc2 := 0) (ms2 := 0) B rfl ((pm_up_n (by omega)).trans pm_up_s) rfl (c_X13_over (f := ((d_X13_draws (pm_n a2_1) n f_1 g_1).2)) ((pm_up_n (by omega)).trans pm_up_s) pm_up_s (i := (pm_n ((d_X13_draws (pm_n a2_1) n f_1 g_1).1))) (by first | assumption | omega)) mt_X13_over sv_X13_117 dX13_doAudit_80 rfl rfl rfl rfl rfl ?_
          refine pm_stk (st' := [.int (pm_mv g_1 (pm_n ((d_X13_draws (pm_n a2_1) n f_1 g_1).1)))]) rfl ?_
          refine pm_if_le (tgt := 130) B dX13_doAudit_83 (by decide) (fun hq6 => ?_) (fun hq6 => ?_)
          · refine pm_iinc B dX13_doAudit_130 rfl rfl rfl ?_
            refine pm_loc (L' := [some (.ref (z + m0)), some (.int (nI (pm_n x))), some (.int (nI (pm_n a2_1 ||| 2 ^ (pm_n ((d_X13_draws (pm_n a2_1) n f_1 g_1).1))))), some (.int a3_1), some (.int (nI (j1 + 1))), some (.int (nI (pm_n ((d_X13_draws (pm_n a2_1) n f_1 g_1).1))))]) (by rw [show ((nI j1) : Int32) + Int32.ofInt 1 = (nI (j1 + 1)) from nI_1 _]; rfl) ?_
            refine pm_goto (tgt := 57) B dX13_doAudit_133 (by decide) ?_
            refine pm_wk (L' := [some (.ref (z + m0)), some (.int (nI (pm_n x))), some (.int (nI (pm_n a2_1 ||| 2 ^ (pm_n ((d_X13_draws (pm_n a2_1) n f_1 g_1).1))))), some (.int a3_1), some (.int (nI (j1 + 1))), none]) ⟨rfl, ⟨rfl, ⟨rfl, ⟨rfl, ⟨rfl, trivial⟩⟩⟩⟩⟩ ?_
            have hDq7 : (K1 ((d_X13_doAudit_L1 n (k1 + 1) j1 a2_1 a3_1 f_1 g_1).1) ((d_X13_doAudit_L1 n (k1 + 1) j1 a2_1 a3_1 f_1 g_1).2.1) ((d_X13_doAudit_L1 n (k1 + 1) j1 a2_1 a3_1 f_1 g_1).2.2.1) ((d_X13_doAudit_L1 n (k1 + 1) j1 a2_1 a3_1 f_1 g_1).2.2.2)) = (K1 ((d_X13_doAudit_L1 n k1 (j1 + 1) (nI (pm_n a2_1 ||| 2 ^ (pm_n ((d_X13_draws (pm_n a2_1) n f_1 g_1).1)))) a3_1 ((d_X13_draws (pm_n a2_1) n f_1 g_1).2) g_1).1) ((d_X13_doAudit_L1 n k1 (j1 + 1) (nI (pm_n a2_1 ||| 2 ^ (pm_n ((d_X13_draws (pm_n a2_1) n f_1 g_1).1)))) a3_1 ((d_X13_draws (pm_n a2_1) n f_1 g_1).2) g_1).2.1) ((d_X13_doAudit_L1 n k1 (j1 + 1) (nI (pm_n a2_1 ||| 2 ^ (pm_n ((d_X13_draws (pm_n a2_1) n f_1 g_1).1)))) a3_1 ((d_X13_draws (pm_n a2_1) n f_1 g_1).2) g_1).2.2.1) ((d_X13_doAudit_L1 n k1 (j1 + 1) (nI (pm_n a2_1 ||| 2 ^ (pm_n ((d_X13_draws (pm_n a2_1) n f_1 g_1).1)))) a3_1 ((d_X13_draws (pm_n a2_1) n f_1 g_1).2) g_1).2.2.2)) := by rw [d_X13_doAudit_L1, if_pos hq6]
            refine pm_pst (post' := pm_rt (some (.int ((K1 ((d_X13_doAudit_L1 n k1 (j1 + 1) (nI (pm_n a2_1 ||| 2 ^ (pm_n ((d_X13_draws (pm_n a2_1) n f_1 g_1).1)))) a3_1 ((d_X13_draws (pm_n a2_1) n f_1 g_1).2) g_1).1) ((d_X13_doAudit_L1 n k1 (j1 + 1) (nI (pm_n a2_1 ||| 2 ^ (pm_n ((d_X13_draws (pm_n a2_1) n f_1 g_1).1)))) a3_1 ((d_X13_draws (pm_n a2_1) n f_1 g_1).2) g_1).2.1) ((d_X13_doAudit_L1 n k1 (j1 + 1) (nI (pm_n a2_1 ||| 2 ^ (pm_n ((d_X13_draws (pm_n a2_1) n f_1 g_1).1)))) a3_1 ((d_X13_draws (pm_n a2_1) n f_1 g_1).2) g_1).2.2.1) ((d_X13_doAudit_L1 n k1 (j1 + 1) (nI (pm_n a2_1 ||| 2 ^ (pm_n ((d_X13_draws (pm_n a2_1) n f_1 g_1).1)))) a3_1 ((d_X13_draws (pm_n a2_1) n f_1 g_1).2) g_1).2.2.2)).1))) nx (pm_up (pm_up M m0 (pm_mo z m0 ((K1 ((d_X13_doAudit_L1 n k1 (j1 + 1) (nI (pm_n a2_1 ||| 2 ^ (pm_n ((d_X13_draws (pm_n a2_1) n f_1 g_1).1)))) a3_1 ((d_X13_draws (pm_n a2_1) n f_1 g_1).2) g_1).1) ((d_X13_doAudit_L1 n k1 (j1 + 1) (nI (pm_n a2_1 ||| 2 ^ (pm_n ((d_X13_draws (pm_n a2_1) n f_1 g_1).1)))) a3_1 ((d_X13_draws (pm_n a2_1) n f_1 g_1).2) g_1).2.1) ((d_X13_doAudit_L1 n k1 (j1 + 1) (nI (pm_n a2_1 ||| 2 ^ (pm_n ((d_X13_draws (pm_n a2_1) n f_1 g_1).1)))) a3_1 ((d_X13_draws (pm_n a2_1) n f_1 g_1).2) g_1).2.2.1) ((d_X13_doAudit_L1 n k1 (j1 + 1) (nI (pm_n a2_1 ||| 2 ^ (pm_n ((d_X13_draws (pm_n a2_1) n f_1 g_1).1)))) a3_1 ((d_X13_draws (pm_n a2_1) n f_1 g_1).2) g_1).2.2.2)).2.1))) (m0 + 1) (.inl (kA 0, 91, .inl ((K1 ((d_X13_doAudit_L1 n k1 (j1 + 1) (nI (pm_n a2_1 ||| 2 ^ (pm_n ((d_X13_draws (pm_n a2_1) n f_1 g_1).1)))) a3_1 ((d_X13_draws (pm_n a2_1) n f_1 g_1).2) g_1).1) ((d_X13_doAudit_L1 n k1 (j1 + 1) (nI (pm_n a2_1 ||| 2 ^ (pm_n ((d_X13_draws (pm_n a2_1) n f_1 g_1).1)))) a3_1 ((d_X13_draws (pm_n a2_1) n f_1 g_1).2) g_1).2.1) ((d_X13_doAudit_L1 n k1 (j1 + 1) (nI (pm_n a2_1 ||| 2 ^ (pm_n ((d_X13_draws (pm_n a2_1) n f_1 g_1).1)))) a3_1 ((d_X13_draws (pm_n a2_1) n f_1 g_1).2) g_1).2.2.1) ((d_X13_doAudit_L1 n k1 (j1 + 1) (nI (pm_n a2_1 ||| 2 ^ (pm_n ((d_X13_draws (pm_n a2_1) n f_1 g_1).1)))) a3_1 ((d_X13_draws (pm_n a2_1) n f_1 g_1).2) g_1).2.2.2)).2.2))))) (by rw [hDq7]) ?_
            exact ih1 (j1 + 1) (by omega) (nI (pm_n a2_1 ||| 2 ^ (pm_n ((d_X13_draws (pm_n a2_1) n f_1 g_1).1)))) a3_1 ((d_X13_draws (pm_n a2_1) n f_1 g_1).2) g_1 (hn_1) ((by have hq := (pm_orN (m := pm_n ((d_X13_draws (pm_n a2_1) n f_1 g_1).1)) hD_1.2 (by omega)).2; rw [pm_n_nI (by omega)]; exact ⟨rfl, hq⟩)) ((by have hq := (pm_orN (m := pm_n ((d_X13_draws (pm_n a2_1) n f_1 g_1).1)) hD_1.2 (by omega)).2; rw [pm_n_nI (by omega)]; exact pm_pcN h7 hD_1.2 (by omega) hp_1)) ((d_X13_draws_sd (pm_n a2_1) n f_1 g_1).1) ((d_X13_draws_sd (pm_n a2_1) n f_1 g_1).2)
          · refine pm_aload_n B dX13_doAudit_86 rfl ?_
            refine pm_iload B dX13_doAudit_87 rfl ?_
            refine pm_cV (As := [.int (nI (pm_n ((d_X13_draws (pm_n a2_1) n f_1 g_1).1)))]) (mc2 := 0) (ms2 := 0) B rfl ((pm_up_n (by omega)).trans pm_up_s) rfl (c_X13_isBarred (f := ((d_X13_draws (pm_n a2_1) n f_1 g_1).2)) ((pm_up_n (by omega)).trans pm_up_s) pm_up_s (i := (pm_n ((d_X13_draws (pm_n a2_1) n f_1 g_1).1))) (by first | assumption | omega)) mt_X13_isBarred sv_X13_114 dX13_doAudit_89 rfl rfl rfl rfl rfl ?_
            refine pm_stk (st' := [.int (pm_ib g_1 (pm_n ((d_X13_draws (pm_n a2_1) n f_1 g_1).1)))]) rfl ?_
            refine pm_if_ne (tgt := 130) B dX13_doAudit_92 (by decide) (fun hq8 => ?_) (fun hq8 => ?_)
            · refine pm_iinc B dX13_doAudit_130 rfl rfl rfl ?_
              refine pm_loc (L' := [some (.ref (z + m0)), some (.int (nI (pm_n x))), some (.int (nI (pm_n a2_1 ||| 2 ^ (pm_n ((d_X13_draws (pm_n a2_1) n f_1 g_1).1))))), some (.int a3_1), some (.int (nI (j1 + 1))), some (.int (nI (pm_n ((d_X13_draws (pm_n a2_1) n f_1 g_1).1))))]) (by rw [show ((nI j1) : Int32) + Int32.ofInt 1 = (nI (j1 + 1)) from nI_1 _]; rfl) ?_
              refine pm_goto (tgt := 57) B dX13_doAudit_133 (by decide) ?_
              refine pm_wk (L' := [some (.ref (z + m0)), some (.int (nI (pm_n x))), some (.int (nI (pm_n a2_1 ||| 2 ^ (pm_n ((d_X13_draws (pm_n a2_1) n f_1 g_1).1))))), some (.int a3_1), some (.int (nI (j1 + 1))), none]) ⟨rfl, ⟨rfl, ⟨rfl, ⟨rfl, ⟨rfl, trivial⟩⟩⟩⟩⟩ ?_
              have hDq9 : (K1 ((d_X13_doAudit_L1 n (k1 + 1) j1 a2_1 a3_1 f_1 g_1).1) ((d_X13_doAudit_L1 n (k1 + 1) j1 a2_1 a3_1 f_1 g_1).2.1) ((d_X13_doAudit_L1 n (k1 + 1) j1 a2_1 a3_1 f_1 g_1).2.2.1) ((d_X13_doAudit_L1 n (k1 + 1) j1 a2_1 a3_1 f_1 g_1).2.2.2)) = (K1 ((d_X13_doAudit_L1 n k1 (j1 + 1) (nI (pm_n a2_1 ||| 2 ^ (pm_n ((d_X13_draws (pm_n a2_1) n f_1 g_1).1)))) a3_1 ((d_X13_draws (pm_n a2_1) n f_1 g_1).2) g_1).1) ((d_X13_doAudit_L1 n k1 (j1 + 1) (nI (pm_n a2_1 ||| 2 ^ (pm_n ((d_X13_draws (pm_n a2_1) n f_1 g_1).1)))) a3_1 ((d_X13_draws (pm_n a2_1) n f_1 g_1).2) g_1).2.1) ((d_X13_doAudit_L1 n k1 (j1 + 1) (nI (pm_n a2_1 ||| 2 ^ (pm_n ((d_X13_draws (pm_n a2_1) n f_1 g_1).1)))) a3_1 ((d_X13_draws (pm_n a2_1) n f_1 g_1).2) g_1).2.2.1) ((d_X13_doAudit_L1 n k1 (j1 + 1) (nI (pm_n a2_1 ||| 2 ^ (pm_n ((d_X13_draws (pm_n a2_1) n f_1 g_1).1)))) a3_1 ((d_X13_draws (pm_n a2_1) n f_1 g_1).2) g_1).2.2.2)) := by rw [d_X13_doAudit_L1, if_neg hq6, if_neg hq8]
              refine pm_pst (post' := pm_rt (some (.int ((K1 ((d_X13_doAudit_L1 n k1 (j1 + 1) (nI (pm_n a2_1 ||| 2 ^ (pm_n ((d_X13_draws (pm_n a2_1) n f_1 g_1).1)))) a3_1 ((d_X13_draws (pm_n a2_1) n f_1 g_1).2) g_1).1) ((d_X13_doAudit_L1 n k1 (j1 + 1) (nI (pm_n a2_1 ||| 2 ^ (pm_n ((d_X13_draws (pm_n a2_1) n f_1 g_1).1)))) a3_1 ((d_X13_draws (pm_n a2_1) n f_1 g_1).2) g_1).2.1) ((d_X13_doAudit_L1 n k1 (j1 + 1) (nI (pm_n a2_1 ||| 2 ^ (pm_n ((d_X13_draws (pm_n a2_1) n f_1 g_1).1)))) a3_1 ((d_X13_draws (pm_n a2_1) n f_1 g_1).2) g_1).2.2.1) ((d_X13_doAudit_L1 n k1 (j1 + 1) (nI (pm_n a2_1 ||| 2 ^ (pm_n ((d_X13_draws (pm_n a2_1) n f_1 g_1).1)))) a3_1 ((d_X13_draws (pm_n a2_1) n f_1 g_1).2) g_1).2.2.2)).1))) nx (pm_up (pm_up M m0 (pm_mo z m0 ((K1 ((d_X13_doAudit_L1 n k1 (j1 + 1) (nI (pm_n a2_1 ||| 2 ^ (pm_n ((d_X13_draws (pm_n a2_1) n f_1 g_1).1)))) a3_1 ((d_X13_draws (pm_n a2_1) n f_1 g_1).2) g_1).1) ((d_X13_doAudit_L1 n k1 (j1 + 1) (nI (pm_n a2_1 ||| 2 ^ (pm_n ((d_X13_draws (pm_n a2_1) n f_1 g_1).1)))) a3_1 ((d_X13_draws (pm_n a2_1) n f_1 g_1).2) g_1).2.1) ((d_X13_doAudit_L1 n k1 (j1 + 1) (nI (pm_n a2_1 ||| 2 ^ (pm_n ((d_X13_draws (pm_n a2_1) n f_1 g_1).1)))) a3_1 ((d_X13_draws (pm_n a2_1) n f_1 g_1).2) g_1).2.2.1) ((d_X13_doAudit_L1 n k1 (j1 + 1) (nI (pm_n a2_1 ||| 2 ^ (pm_n ((d_X13_draws (pm_n a2_1) n f_1 g_1).1)))) a3_1 ((d_X13_draws (pm_n a2_1) n f_1 g_1).2) g_1).2.2.2)).2.1))) (m0 + 1) (.inl (kA 0, 91, .inl ((K1 ((d_X13_doAudit_L1 n k1 (j1 + 1) (nI (pm_n a2_1 ||| 2 ^ (pm_n ((d_X13_draws (pm_n a2_1) n f_1 g_1).1)))) a3_1 ((d_X13_draws (pm_n a2_1) n f_1 g_1).2) g_1).1) ((d_X13_doAudit_L1 n k1 (j1 + 1) (nI (pm_n a2_1 ||| 2 ^ (pm_n ((d_X13_draws (pm_n a2_1) n f_1 g_1).1)))) a3_1 ((d_X13_draws (pm_n a2_1) n f_1 g_1).2) g_1).2.1) ((d_X13_doAudit_L1 n k1 (j1 + 1) (nI (pm_n a2_1 ||| 2 ^ (pm_n ((d_X13_draws (pm_n a2_1) n f_1 g_1).1)))) a3_1 ((d_X13_draws (pm_n a2_1) n f_1 g_1).2) g_1).2.2.1) ((d_X13_doAudit_L1 n k1 (j1 + 1) (nI (pm_n a2_1 ||| 2 ^ (pm_n ((d_X13_draws (pm_n a2_1) n f_1 g_1).1)))) a3_1 ((d_X13_draws (pm_n a2_1) n f_1 g_1).2) g_1).2.2.2)).2.2))))) (by rw [hDq9]) ?_
              exact ih1 (j1 + 1) (by omega) (nI (pm_n a2_1 ||| 2 ^ (pm_n ((d_X13_draws (pm_n a2_1) n f_1 g_1).1)))) a3_1 ((d_X13_draws (pm_n a2_1) n f_1 g_1).2) g_1 (hn_1) ((by have hq := (pm_orN (m := pm_n ((d_X13_draws (pm_n a2_1) n f_1 g_1).1)) hD_1.2 (by omega)).2; rw [pm_n_nI (by omega)]; exact ⟨rfl, hq⟩)) ((by have hq := (pm_orN (m := pm_n ((d_X13_draws (pm_n a2_1) n f_1 g_1).1)) hD_1.2 (by omega)).2; rw [pm_n_nI (by omega)]; exact pm_pcN h7 hD_1.2 (by omega) hp_1)) ((d_X13_draws_sd (pm_n a2_1) n f_1 g_1).1) ((d_X13_draws_sd (pm_n a2_1) n f_1 g_1).2)
            · refine pm_aload_n B dX13_doAudit_95 rfl ?_
              refine pm_iload B dX13_doAudit_96 rfl ?_
              refine pm_iconst (v := 4) B dX13_doAudit_98 (by decide) ?_
              refine pm_aload_n B dX13_doAudit_99 rfl ?_
              refine pm_iload B dX13_doAudit_100 rfl ?_
              refine pm_iconst (v := 4) B dX13_doAudit_102 (by decide) ?_
              refine pm_cV (As := [.int (nI (pm_n ((d_X13_draws (pm_n a2_1) n f_1 g_1).1))), .int (nI 4)]) (mc2 := 0) (ms2 := 0) B rfl ((pm_up_n (by omega)).trans pm_up_s) rfl (c_X13_of (f := ((d_X13_draws (pm_n a2_1) n f_1 g_1).2)) ((pm_up_n (by omega)).trans pm_up_s) pm_up_s (i := (pm_n ((d_X13_draws (pm_n a2_1) n f_1 g_1).1))) (w := 4) (by first | assumption | omega) (by first | assumption | omega)) mt_X13_of sv_X13_74 dX13_doAudit_103 rfl rfl rfl rfl rfl ?_
              refine pm_stk (st' := [.int (g_1 (7 + 5 * (pm_n ((d_X13_draws (pm_n a2_1) n f_1 g_1).1)) + 4)), .int 4, .int (nI (pm_n ((d_X13_draws (pm_n a2_1) n f_1 g_1).1))), .ref (z + m0)]) rfl ?_
              refine pm_iconst (v := 2) B dX13_doAudit_106 (by decide) ?_
              refine pm_icmp_ne (tgt := 115) B dX13_doAudit_107 (by decide) (fun hq10 => ?_) (fun hq10 => ?_)
              · refine pm_aload_n B dX13_doAudit_115 rfl ?_
                refine pm_iload B dX13_doAudit_116 rfl ?_
                refine pm_iconst (v := 4) B dX13_doAudit_118 (by decide) ?_
                refine pm_cV (As := [.int (nI (pm_n ((d_X13_draws (pm_n a2_1) n f_1 g_1).1))), .int (nI 4)]) (mc2 := 0) (ms2 := 0) B rfl ((pm_up_n (by omega)).trans pm_up_s) rfl (c_X13_of (f := ((d_X13_draws (pm_n a2_1) n f_1 g_1).2)) ((pm_up_n (by omega)).trans pm_up_s) pm_up_s (i := (pm_n ((d_X13_draws (pm_n a2_1) n f_1 g_1).1))) (w := 4) (by first | assumption | omega) (by first | assumption | omega)) mt_X13_of sv_X13_74 dX13_doAudit_119 rfl rfl rfl rfl rfl ?_
                refine pm_stk (st' := [.int (g_1 (7 + 5 * (pm_n ((d_X13_draws (pm_n a2_1) n f_1 g_1).1)) + 4)), .int 4, .int (nI (pm_n ((d_X13_draws (pm_n a2_1) n f_1 g_1).1))), .ref (z + m0)]) rfl ?_
                refine pm_iconst (v := 1) B dX13_doAudit_122 (by decide) ?_
                refine pm_iadd B dX13_doAudit_123 ?_
                refine pm_cV (As := [.int (nI (pm_n ((d_X13_draws (pm_n a2_1) n f_1 g_1).1))), .int (nI 4), .int ((g_1 (7 + 5 * (pm_n ((d_X13_draws (pm_n a2_1) n f_1 g_1).1)) + 4)) + 1)]) (mc2 := 0) (ms2 := 0) B rfl ((pm_up_n (by omega)).trans pm_up_s) rfl (c_X13_sets (f := ((d_X13_draws (pm_n a2_1) n f_1 g_1).2)) ((pm_up_n (by omega)).trans pm_up_s) pm_up_s (i := (pm_n ((d_X13_draws (pm_n a2_1) n f_1 g_1).1))) (w := 4) (by first | assumption | omega) (by first | assumption | omega)) mt_X13_sets sv_X13_87 dX13_doAudit_124 rfl rfl rfl rfl rfl ?_
                refine pm_mem (M' := pm_up (pm_up M m0 (pm_mo z m0 ((d_X13_draws (pm_n a2_1) n f_1 g_1).2))) (m0 + 1) (.inl (kA 0, 91, .inl (upd g_1 (7 + 5 * (pm_n ((d_X13_draws (pm_n a2_1) n f_1 g_1).1)) + 4) ((g_1 (7 + 5 * (pm_n ((d_X13_draws (pm_n a2_1) n f_1 g_1).1)) + 4)) + 1))))) pm_up_up ?_
                refine pm_stk (st' := []) rfl ?_
                refine pm_iinc B dX13_doAudit_127 rfl rfl rfl ?_
                refine pm_loc (L' := [some (.ref (z + m0)), some (.int (nI (pm_n x))), some (.int (nI (pm_n a2_1 ||| 2 ^ (pm_n ((d_X13_draws (pm_n a2_1) n f_1 g_1).1))))), some (.int (a3_1 + Int32.ofInt 1)), some (.int (nI j1)), some (.int (nI (pm_n ((d_X13_draws (pm_n a2_1) n f_1 g_1).1))))]) rfl ?_
                refine pm_iinc B dX13_doAudit_130 rfl rfl rfl ?_
                refine pm_loc (L' := [some (.ref (z + m0)), some (.int (nI (pm_n x))), some (.int (nI (pm_n a2_1 ||| 2 ^ (pm_n ((d_X13_draws (pm_n a2_1) n f_1 g_1).1))))), some (.int (a3_1 + Int32.ofInt 1)), some (.int (nI (j1 + 1))), some (.int (nI (pm_n ((d_X13_draws (pm_n a2_1) n f_1 g_1).1))))]) (by rw [show ((nI j1) : Int32) + Int32.ofInt 1 = (nI (j1 + 1)) from nI_1 _]; rfl) ?_
                refine pm_goto (tgt := 57) B dX13_doAudit_133 (by decide) ?_
                refine pm_wk (L' := [some (.ref (z + m0)), some (.int (nI (pm_n x))), some (.int (nI (pm_n a2_1 ||| 2 ^ (pm_n ((d_X13_draws (pm_n a2_1) n f_1 g_1).1))))), some (.int (a3_1 + Int32.ofInt 1)), some (.int (nI (j1 + 1))), none]) ⟨rfl, ⟨rfl, ⟨rfl, ⟨rfl, ⟨rfl, trivial⟩⟩⟩⟩⟩ ?_
                have hDq11 : (K1 ((d_X13_doAudit_L1 n (k1 + 1) j1 a2_1 a3_1 f_1 g_1).1) ((d_X13_doAudit_L1 n (k1 + 1) j1 a2_1 a3_1 f_1 g_1).2.1) ((d_X13_doAudit_L1 n (k1 + 1) j1 a2_1 a3_1 f_1 g_1).2.2.1) ((d_X13_doAudit_L1 n (k1 + 1) j1 a2_1 a3_1 f_1 g_1).2.2.2)) = (K1 ((d_X13_doAudit_L1 n k1 (j1 + 1) (nI (pm_n a2_1 ||| 2 ^ (pm_n ((d_X13_draws (pm_n a2_1) n f_1 g_1).1)))) (a3_1 + Int32.ofInt 1) ((d_X13_draws (pm_n a2_1) n f_1 g_1).2) (upd g_1 (7 + 5 * (pm_n ((d_X13_draws (pm_n a2_1) n f_1 g_1).1)) + 4) ((g_1 (7 + 5 * (pm_n ((d_X13_draws (pm_n a2_1) n f_1 g_1).1)) + 4)) + 1))).1) ((d_X13_doAudit_L1 n k1 (j1 + 1) (nI (pm_n a2_1 ||| 2 ^ (pm_n ((d_X13_draws (pm_n a2_1) n f_1 g_1).1)))) (a3_1 + Int32.ofInt 1) ((d_X13_draws (pm_n a2_1) n f_1 g_1).2) (upd g_1 (7 + 5 * (pm_n ((d_X13_draws (pm_n a2_1) n f_1 g_1).1)) + 4) ((g_1 (7 + 5 * (pm_n ((d_X13_draws (pm_n a2_1) n f_1 g_1).1)) + 4)) + 1))).2.1) ((d_X13_doAudit_L1 n k1 (j1 + 1) (nI (pm_n a2_1 ||| 2 ^ (pm_n ((d_X13_draws (pm_n a2_1) n f_1 g_1).1)))) (a3_1 + Int32.ofInt 1) ((d_X13_draws (pm_n a2_1) n f_1 g_1).2) (upd g_1 (7 + 5 * (pm_n ((d_X13_draws (pm_n a2_1) n f_1 g_1).1)) + 4) ((g_1 (7 + 5 * (pm_n ((d_X13_draws (pm_n a2_1) n f_1 g_1).1)) + 4)) + 1))).2.2.1) ((d_X13_doAudit_L1 n k1 (j1 + 1) (nI (pm_n a2_1 ||| 2 ^ (pm_n ((d_X13_draws (pm_n a2_1) n f_1 g_1).1)))) (a3_1 + Int32.ofInt 1) ((d_X13_draws (pm_n a2_1) n f_1 g_1).2) (upd g_1 (7 + 5 * (pm_n ((d_X13_draws (pm_n a2_1) n f_1 g_1).1)) + 4) ((g_1 (7 + 5 * (pm_n ((d_X13_draws (pm_n a2_1) n f_1 g_1).1)) + 4)) + 1))).2.2.2)) := by rw [d_X13_doAudit_L1, if_neg hq6, if_pos hq8, if_neg hq10]
                refine pm_pst (post' := pm_rt (some (.int ((K1 ((d_X13_doAudit_L1 n k1 (j1 + 1) (nI (pm_n a2_1 ||| 2 ^ (pm_n ((d_X13_draws (pm_n a2_1) n f_1 g_1).1)))) (a3_1 + Int32.ofInt 1) ((d_X13_draws (pm_n a2_1) n f_1 g_1).2) (upd g_1 (7 + 5 * (pm_n ((d_X13_draws (pm_n a2_1) n f_1 g_1).1)) + 4) ((g_1 (7 + 5 * (pm_n ((d_X13_draws (pm_n a2_1) n f_1 g_1).1)) + 4)) + 1))).1) ((d_X13_doAudit_L1 n k1 (j1 + 1) (nI (pm_n a2_1 ||| 2 ^ (pm_n ((d_X13_draws (pm_n a2_1) n f_1 g_1).1)))) (a3_1 + Int32.ofInt 1) ((d_X13_draws (pm_n a2_1) n f_1 g_1).2) (upd g_1 (7 + 5 * (pm_n ((d_X13_draws (pm_n a2_1) n f_1 g_1).1)) + 4) ((g_1 (7 + 5 * (pm_n ((d_X13_draws (pm_n a2_1) n f_1 g_1).1)) + 4)) + 1))).2.1) ((d_X13_doAudit_L1 n k1 (j1 + 1) (nI (pm_n a2_1 ||| 2 ^ (pm_n ((d_X13_draws (pm_n a2_1) n f_1 g_1).1)))) (a3_1 + Int32.ofInt 1) ((d_X13_draws (pm_n a2_1) n f_1 g_1).2) (upd g_1 (7 + 5 * (pm_n ((d_X13_draws (pm_n a2_1) n f_1 g_1).1)) + 4) ((g_1 (7 + 5 * (pm_n ((d_X13_draws (pm_n a2_1) n f_1 g_1).1)) + 4)) + 1))).2.2.1) ((d_X13_doAudit_L1 n k1 (j1 + 1) (nI (pm_n a2_1 ||| 2 ^ (pm_n ((d_X13_draws (pm_n a2_1) n f_1 g_1).1)))) (a3_1 + Int32.ofInt 1) ((d_X13_draws (pm_n a2_1) n f_1 g_1).2) (upd g_1 (7 + 5 * (pm_n ((d_X13_draws (pm_n a2_1) n f_1 g_1).1)) + 4) ((g_1 (7 + 5 * (pm_n ((d_X13_draws (pm_n a2_1) n f_1 g_1).1)) + 4)) + 1))).2.2.2)).1))) nx (pm_up (pm_up M m0 (pm_mo z m0 ((K1 ((d_X13_doAudit_L1 n k1 (j1 + 1) (nI (pm_n a2_1 ||| 2 ^ (pm_n ((d_X13_draws (pm_n a2_1) n f_1 g_1).1)))) (a3_1 + Int32.ofInt 1) ((d_X13_draws (pm_n a2_1) n f_1 g_1).2) (upd g_1 (7 + 5 * (pm_n ((d_X13_draws (pm_n a2_1) n f_1 g_1).1)) + 4) ((g_1 (7 + 5 * (pm_n ((d_X13_draws (pm_n a2_1) n f_1 g_1).1)) + 4)) + 1))).1) ((d_X13_doAudit_L1 n k1 (j1 + 1) (nI (pm_n a2_1 ||| 2 ^ (pm_n ((d_X13_draws (pm_n a2_1) n f_1 g_1).1)))) (a3_1 + Int32.ofInt 1) ((d_X13_draws (pm_n a2_1) n f_1 g_1).2) (upd g_1 (7 + 5 * (pm_n ((d_X13_draws (pm_n a2_1) n f_1 g_1).1)) + 4) ((g_1 (7 + 5 * (pm_n ((d_X13_draws (pm_n a2_1) n f_1 g_1).1)) + 4)) + 1))).2.1) ((d_X13_doAudit_L1 n k1 (j1 + 1) (nI (pm_n a2_1 ||| 2 ^ (pm_n ((d_X13_draws (pm_n a2_1) n f_1 g_1).1)))) (a3_1 + Int32.ofInt 1) ((d_X13_draws (pm_n a2_1) n f_1 g_1).2) (upd g_1 (7 + 5 * (pm_n ((d_X13_draws (pm_n a2_1) n f_1 g_1).1)) + 4) ((g_1 (7 + 5 * (pm_n ((d_X13_draws (pm_n a2_1) n f_1 g_1).1)) + 4)) + 1))).2.2.1) ((d_X13_doAudit_L1 n k1 (j1 + 1) (nI (pm_n a2_1 ||| 2 ^ (pm_n ((d_X13_draws (pm_n a2_1) n f_1 g_1).1)))) (a3_1 + Int32.ofInt 1) ((d_X13_draws (pm_n a2_1) n f_1 g_1).2) (upd g_1 (7 + 5 * (pm_n ((d_X13_draws (pm_n a2_1) n f_1 g_1).1)) + 4) ((g_1 (7 + 5 * (pm_n ((d_X13_draws (pm_n a2_1) n f_1 g_1).1)) + 4)) + 1))).2.2.2)).2.1))) (m0 + 1) (.inl (kA 0, 91, .inl ((K1 ((d_X13_doAudit_L1 n k1 (j1 + 1) (nI (pm_n a2_1 ||| 2 ^ (pm_n ((d_X13_draws (pm_n a2_1) n f_1 g_1).1)))) (a3_1 + Int32.ofInt 1) ((d_X13_draws (pm_n a2_1) n f_1 g_1).2) (upd g_1 (7 + 5 * (pm_n ((d_X13_draws (pm_n a2_1) n f_1 g_1).1)) + 4) ((g_1 (7 + 5 * (pm_n ((d_X13_draws (pm_n a2_1) n f_1 g_1).1)) + 4)) + 1))).1) ((d_X13_doAudit_L1 n k1 (j1 + 1) (nI (pm_n a2_1 ||| 2 ^ (pm_n ((d_X13_draws (pm_n a2_1) n f_1 g_1).1)))) (a3_1 + Int32.ofInt 1) ((d_X13_draws (pm_n a2_1) n f_1 g_1).2) (upd g_1 (7 + 5 * (pm_n ((d_X13_draws (pm_n a2_1) n f_1 g_1).1)) + 4) ((g_1 (7 + 5 * (pm_n ((d_X13_draws (pm_n a2_1) n f_1 g_1).1)) + 4)) + 1))).2.1) ((d_X13_doAudit_L1 n k1 (j1 + 1) (nI (pm_n a2_1 ||| 2 ^ (pm_n ((d_X13_draws (pm_n a2_1) n f_1 g_1).1)))) (a3_1 + Int32.ofInt 1) ((d_X13_draws (pm_n a2_1) n f_1 g_1).2) (upd g_1 (7 + 5 * (pm_n ((d_X13_draws (pm_n a2_1) n f_1 g_1).1)) + 4) ((g_1 (7 + 5 * (pm_n ((d_X13_draws (pm_n a2_1) n f_1 g_1).1)) + 4)) + 1))).2.2.1) ((d_X13_doAudit_L1 n k1 (j1 + 1) (nI (pm_n a2_1 ||| 2 ^ (pm_n ((d_X13_draws (pm_n a2_1) n f_1 g_1).1)))) (a3_1 + Int32.ofInt 1) ((d_X13_draws (pm_n a2_1) n f_1 g_1).2) (upd g_1 (7 + 5 * (pm_n ((d_X13_draws (pm_n a2_1) n f_1 g_1).1)) + 4) ((g_1 (7 + 5 * (pm_n ((d_X13_draws (pm_n a2_1) n f_1 g_1).1)) + 4)) + 1))).2.2.2)).2.2))))) (by rw [hDq11]) ?_
                exact ih1 (j1 + 1) (by omega) (nI (pm_n a2_1 ||| 2 ^ (pm_n ((d_X13_draws (pm_n a2_1) n f_1 g_1).1)))) (a3_1 + Int32.ofInt 1) ((d_X13_draws (pm_n a2_1) n f_1 g_1).2) (upd g_1 (7 + 5 * (pm_n ((d_X13_draws (pm_n a2_1) n f_1 g_1).1)) + 4) ((g_1 (7 + 5 * (pm_n ((d_X13_draws (pm_n a2_1) n f_1 g_1).1)) + 4)) + 1)) ((show (upd g_1 (7 + 5 * (pm_n ((d_X13_draws (pm_n a2_1) n f_1 g_1).1)) + 4) ((g_1 (7 + 5 * (pm_n ((d_X13_draws (pm_n a2_1) n f_1 g_1).1)) + 4)) + 1)) 0 = (nI n) from by rw [pk_un (show 0 ≠ 7 + 5 * (pm_n ((d_X13_draws (pm_n a2_1) n f_1 g_1).1)) + 4 from (by omega)), hn_1])) ((by have hq := (pm_orN (m := pm_n ((d_X13_draws (pm_n a2_1) n f_1 g_1).1)) hD_1.2 (by omega)).2; rw [pm_n_nI (by omega)]; exact ⟨rfl, hq⟩)) ((by have hq := (pm_orN (m := pm_n ((d_X13_draws (pm_n a2_1) n f_1 g_1).1)) hD_1.2 (by omega)).2; rw [pm_n_nI (by omega)]; exact pm_pcN h7 hD_1.2 (by omega) hp_1)) ((d_X13_draws_sd (pm_n a2_1) n f_1 g_1).1) ((d_X13_draws_sd (pm_n a2_1) n f_1 g_1).2)
              · refine pm_bipush (v := (-2)) B dX13_doAudit_110 (by decide) ?_
                refine pm_goto (tgt := 124) B dX13_doAudit_112 (by decide) ?_
                refine pm_cV (As := [.int (nI (pm_n ((d_X13_draws (pm_n a2_1) n f_1 g_1).1))), .int (nI 4), .int (-2)]) (mc2 := 0) (ms2 := 0) B rfl ((pm_up_n (by omega)).trans pm_up_s) rfl (c_X13_sets (f := ((d_X13_draws (pm_n a2_1) n f_1 g_1).2)) ((pm_up_n (by omega)).trans pm_up_s) pm_up_s (i := (pm_n ((d_X13_draws (pm_n a2_1) n f_1 g_1).1))) (w := 4) (by first | assumption | omega) (by first | assumption | omega)) mt_X13_sets sv_X13_87 dX13_doAudit_124 rfl rfl rfl rfl rfl ?_
                refine pm_mem (M' := pm_up (pm_up M m0 (pm_mo z m0 ((d_X13_draws (pm_n a2_1) n f_1 g_1).2))) (m0 + 1) (.inl (kA 0, 91, .inl (upd g_1 (7 + 5 * (pm_n ((d_X13_draws (pm_n a2_1) n f_1 g_1).1)) + 4) (-2))))) pm_up_up ?_
                refine pm_stk (st' := []) rfl ?_
                refine pm_iinc B dX13_doAudit_127 rfl rfl rfl ?_
                refine pm_loc (L' := [some (.ref (z + m0)), some (.int (nI (pm_n x))), some (.int (nI (pm_n a2_1 ||| 2 ^ (pm_n ((d_X13_draws (pm_n a2_1) n f_1 g_1).1))))), some (.int (a3_1 + Int32.ofInt 1)), some (.int (nI j1)), some (.int (nI (pm_n ((d_X13_draws (pm_n a2_1) n f_1 g_1).1))))]) rfl ?_
                refine pm_iinc B dX13_doAudit_130 rfl rfl rfl ?_
                refine pm_loc (L' := [some (.ref (z + m0)), some (.int (nI (pm_n x))), some (.int (nI (pm_n a2_1 ||| 2 ^ (pm_n ((d_X13_draws (pm_n a2_1) n f_1 g_1).1))))), some (.int (a3_1 + Int32.ofInt 1)), some (.int (nI (j1 + 1))), some (.int (nI (pm_n ((d_X13_draws (pm_n a2_1) n f_1 g_1).1))))]) (by rw [show ((nI j1) : Int32) + Int32.ofInt 1 = (nI (j1 + 1)) from nI_1 _]; rfl) ?_
                refine pm_goto (tgt := 57) B dX13_doAudit_133 (by decide) ?_
                refine pm_wk (L' := [some (.ref (z + m0)), some (.int (nI (pm_n x))), some (.int (nI (pm_n a2_1 ||| 2 ^ (pm_n ((d_X13_draws (pm_n a2_1) n f_1 g_1).1))))), some (.int (a3_1 + Int32.ofInt 1)), some (.int (nI (j1 + 1))), none]) ⟨rfl, ⟨rfl, ⟨rfl, ⟨rfl, ⟨rfl, trivial⟩⟩⟩⟩⟩ ?_
                have hDq12 : (K1 ((d_X13_doAudit_L1 n (k1 + 1) j1 a2_1 a3_1 f_1 g_1).1) ((d_X13_doAudit_L1 n (k1 + 1) j1 a2_1 a3_1 f_1 g_1).2.1) ((d_X13_doAudit_L1 n (k1 + 1) j1 a2_1 a3_1 f_1 g_1).2.2.1) ((d_X13_doAudit_L1 n (k1 + 1) j1 a2_1 a3_1 f_1 g_1).2.2.2)) = (K1 ((d_X13_doAudit_L1 n k1 (j1 + 1) (nI (pm_n a2_1 ||| 2 ^ (pm_n ((d_X13_draws (pm_n a2_1) n f_1 g_1).1)))) (a3_1 + Int32.ofInt 1) ((d_X13_draws (pm_n a2_1) n f_1 g_1).2) (upd g_1 (7 + 5 * (pm_n ((d_X13_draws (pm_n a2_1) n f_1 g_1).1)) + 4) (-2))).1) ((d_X13_doAudit_L1 n k1 (j1 + 1) (nI (pm_n a2_1 ||| 2 ^ (pm_n ((d_X13_draws (pm_n a2_1) n f_1 g_1).1)))) (a3_1 + Int32.ofInt 1) ((d_X13_draws (pm_n a2_1) n f_1 g_1).2) (upd g_1 (7 + 5 * (pm_n ((d_X13_draws (pm_n a2_1) n f_1 g_1).1)) + 4) (-2))).2.1) ((d_X13_doAudit_L1 n k1 (j1 + 1) (nI (pm_n a2_1 ||| 2 ^ (pm_n ((d_X13_draws (pm_n a2_1) n f_1 g_1).1)))) (a3_1 + Int32.ofInt 1) ((d_X13_draws (pm_n a2_1) n f_1 g_1).2) (upd g_1 (7 + 5 * (pm_n ((d_X13_draws (pm_n a2_1) n f_1 g_1).1)) + 4) (-2))).2.2.1) ((d_X13_doAudit_L1 n k1 (j1 + 1) (nI (pm_n a2_1 ||| 2 ^ (pm_n ((d_X13_draws (pm_n a2_1) n f_1 g_1).1)))) (a3_1 + Int32.ofInt 1) ((d_X13_draws (pm_n a2_1) n f_1 g_1).2) (upd g_1 (7 + 5 * (pm_n ((d_X13_draws (pm_n a2_1) n f_1 g_1).1)) + 4) (-2))).2.2.2)) := by rw [d_X13_doAudit_L1, if_neg hq6, if_pos hq8, if_pos hq10]
                refine pm_pst (post' := pm_rt (some (.int ((K1 ((d_X13_doAudit_L1 n k1 (j1 + 1) (nI (pm_n a2_1 ||| 2 ^ (pm_n ((d_X13_draws (pm_n a2_1) n f_1 g_1).1)))) (a3_1 + Int32.ofInt 1) ((d_X13_draws (pm_n a2_1) n f_1 g_1).2) (upd g_1 (7 + 5 * (pm_n ((d_X13_draws (pm_n a2_1) n f_1 g_1).1)) + 4) (-2))).1) ((d_X13_doAudit_L1 n k1 (j1 + 1) (nI (pm_n a2_1 ||| 2 ^ (pm_n ((d_X13_draws (pm_n a2_1) n f_1 g_1).1)))) (a3_1 + Int32.ofInt 1) ((d_X13_draws (pm_n a2_1) n f_1 g_1).2) (upd g_1 (7 + 5 * (pm_n ((d_X13_draws (pm_n a2_1) n f_1 g_1).1)) + 4) (-2))).2.1) ((d_X13_doAudit_L1 n k1 (j1 + 1) (nI (pm_n a2_1 ||| 2 ^ (pm_n ((d_X13_draws (pm_n a2_1) n f_1 g_1).1)))) (a3_1 + Int32.ofInt 1) ((d_X13_draws (pm_n a2_1) n f_1 g_1).2) (upd g_1 (7 + 5 * (pm_n ((d_X13_draws (pm_n a2_1) n f_1 g_1).1)) + 4) (-2))).2.2.1) ((d_X13_doAudit_L1 n k1 (j1 + 1) (nI (pm_n a2_1 ||| 2 ^ (pm_n ((d_X13_draws (pm_n a2_1) n f_1 g_1).1)))) (a3_1 + Int32.ofInt 1) ((d_X13_draws (pm_n a2_1) n f_1 g_1).2) (upd g_1 (7 + 5 * (pm_n ((d_X13_draws (pm_n a2_1) n f_1 g_1).1)) + 4) (-2))).2.2.2)).1))) nx (pm_up (pm_up M m0 (pm_mo z m0 ((K1 ((d_X13_doAudit_L1 n k1 (j1 + 1) (nI (pm_n a2_1 ||| 2 ^ (pm_n ((d_X13_draws (pm_n a2_1) n f_1 g_1).1)))) (a3_1 + Int32.ofInt 1) ((d_X13_draws (pm_n a2_1) n f_1 g_1).2) (upd g_1 (7 + 5 * (pm_n ((d_X13_draws (pm_n a2_1) n f_1 g_1).1)) + 4) (-2))).1) ((d_X13_doAudit_L1 n k1 (j1 + 1) (nI (pm_n a2_1 ||| 2 ^ (pm_n ((d_X13_draws (pm_n a2_1) n f_1 g_1).1)))) (a3_1 + Int32.ofInt 1) ((d_X13_draws (pm_n a2_1) n f_1 g_1).2) (upd g_1 (7 + 5 * (pm_n ((d_X13_draws (pm_n a2_1) n f_1 g_1).1)) + 4) (-2))).2.1) ((d_X13_doAudit_L1 n k1 (j1 + 1) (nI (pm_n a2_1 ||| 2 ^ (pm_n ((d_X13_draws (pm_n a2_1) n f_1 g_1).1)))) (a3_1 + Int32.ofInt 1) ((d_X13_draws (pm_n a2_1) n f_1 g_1).2) (upd g_1 (7 + 5 * (pm_n ((d_X13_draws (pm_n a2_1) n f_1 g_1).1)) + 4) (-2))).2.2.1) ((d_X13_doAudit_L1 n k1 (j1 + 1) (nI (pm_n a2_1 ||| 2 ^ (pm_n ((d_X13_draws (pm_n a2_1) n f_1 g_1).1)))) (a3_1 + Int32.ofInt 1) ((d_X13_draws (pm_n a2_1) n f_1 g_1).2) (upd g_1 (7 + 5 * (pm_n ((d_X13_draws (pm_n a2_1) n f_1 g_1).1)) + 4) (-2))).2.2.2)).2.1))) (m0 + 1) (.inl (kA 0, 91, .inl ((K1 ((d_X13_doAudit_L1 n k1 (j1 + 1) (nI (pm_n a2_1 ||| 2 ^ (pm_n ((d_X13_draws (pm_n a2_1) n f_1 g_1).1)))) (a3_1 + Int32.ofInt 1) ((d_X13_draws (pm_n a2_1) n f_1 g_1).2) (upd g_1 (7 + 5 * (pm_n ((d_X13_draws (pm_n a2_1) n f_1 g_1).1)) + 4) (-2))).1) ((d_X13_doAudit_L1 n k1 (j1 + 1) (nI (pm_n a2_1 ||| 2 ^ (pm_n ((d_X13_draws (pm_n a2_1) n f_1 g_1).1)))) (a3_1 + Int32.ofInt 1) ((d_X13_draws (pm_n a2_1) n f_1 g_1).2) (upd g_1 (7 + 5 * (pm_n ((d_X13_draws (pm_n a2_1) n f_1 g_1).1)) + 4) (-2))).2.1) ((d_X13_doAudit_L1 n k1 (j1 + 1) (nI (pm_n a2_1 ||| 2 ^ (pm_n ((d_X13_draws (pm_n a2_1) n f_1 g_1).1)))) (a3_1 + Int32.ofInt 1) ((d_X13_draws (pm_n a2_1) n f_1 g_1).2) (upd g_1 (7 + 5 * (pm_n ((d_X13_draws (pm_n a2_1) n f_1 g_1).1)) + 4) (-2))).2.2.1) ((d_X13_doAudit_L1 n k1 (j1 + 1) (nI (pm_n a2_1 ||| 2 ^ (pm_n ((d_X13_draws (pm_n a2_1) n f_1 g_1).1)))) (a3_1 + Int32.ofInt 1) ((d_X13_draws (pm_n a2_1) n f_1 g_1).2) (upd g_1 (7 + 5 * (pm_n ((d_X13_draws (pm_n a2_1) n f_1 g_1).1)) + 4) (-2))).2.2.2)).2.2))))) (by rw [hDq12]) ?_
                exact ih1 (j1 + 1) (by omega) (nI (pm_n a2_1 ||| 2 ^ (pm_n ((d_X13_draws (pm_n a2_1) n f_1 g_1).1)))) (a3_1 + Int32.ofInt 1) ((d_X13_draws (pm_n a2_1) n f_1 g_1).2) (upd g_1 (7 + 5 * (pm_n ((d_X13_draws (pm_n a2_1) n f_1 g_1).1)) + 4) (-2)) ((show (upd g_1 (7 + 5 * (pm_n ((d_X13_draws (pm_n a2_1) n f_1 g_1).1)) + 4) (-2)) 0 = (nI n) from by rw [pk_un (show 0 ≠ 7 + 5 * (pm_n ((d_X13_draws (pm_n a2_1) n f_1 g_1).1)) + 4 from (by omega)), hn_1])) ((by have hq := (pm_orN (m := pm_n ((d_X13_draws (pm_n a2_1) n f_1 g_1).1)) hD_1.2 (by omega)).2; rw [pm_n_nI (by omega)]; exact ⟨rfl, hq⟩)) ((by have hq := (pm_orN (m := pm_n ((d_X13_draws (pm_n a2_1) n f_1 g_1).1)) hD_1.2 (by omega)).2; rw [pm_n_nI (by omega)]; exact pm_pcN h7 hD_1.2 (by omega) hp_1)) ((d_X13_draws_sd (pm_n a2_1) n f_1 g_1).1) ((d_X13_draws_sd (pm_n a2_1) n f_1 g_1).2)
      refine pm_pst (post' := pm_rt (some (.int ((((d_X13_doAudit_L1 n (pm_n x) 0 0 0 (upd f 13 (g 2)) g).2.1), ((d_X13_doAudit_L1 n (pm_n x) 0 0 0 (upd f 13 (g 2)) g).2.2.1), (upd ((d_X13_doAudit_L1 n (pm_n x) 0 0 0 (upd f 13 (g 2)) g).2.2.2) 2 (((d_X13_doAudit_L1 n (pm_n x) 0 0 0 (upd f 13 (g 2)) g).2.2.1) 13))).1))) nx (pm_up (pm_up M m0 (pm_mo z m0 ((((d_X13_doAudit_L1 n (pm_n x) 0 0 0 (upd f 13 (g 2)) g).2.1), ((d_X13_doAudit_L1 n (pm_n x) 0 0 0 (upd f 13 (g 2)) g).2.2.1), (upd ((d_X13_doAudit_L1 n (pm_n x) 0 0 0 (upd f 13 (g 2)) g).2.2.2) 2 (((d_X13_doAudit_L1 n (pm_n x) 0 0 0 (upd f 13 (g 2)) g).2.2.1) 13))).2.1))) (m0 + 1) (.inl (kA 0, 91, .inl ((((d_X13_doAudit_L1 n (pm_n x) 0 0 0 (upd f 13 (g 2)) g).2.1), ((d_X13_doAudit_L1 n (pm_n x) 0 0 0 (upd f 13 (g 2)) g).2.2.1), (upd ((d_X13_doAudit_L1 n (pm_n x) 0 0 0 (upd f 13 (g 2)) g).2.2.2) 2 (((d_X13_doAudit_L1 n (pm_n x) 0 0 0 (upd f 13 (g 2)) g).2.2.1) 13))).2.2))))) (by rw [show (d_X13_doAudit x n f g) = (((d_X13_doAudit_L1 n (pm_n x) 0 0 0 (upd f 13 (g 2)) g).2.1), ((d_X13_doAudit_L1 n (pm_n x) 0 0 0 (upd f 13 (g 2)) g).2.2.1), (upd ((d_X13_doAudit_L1 n (pm_n x) 0 0 0 (upd f 13 (g 2)) g).2.2.2) 2 (((d_X13_doAudit_L1 n (pm_n x) 0 0 0 (upd f 13 (g 2)) g).2.2.1) 13))) from by rw [d_X13_doAudit, if_neg hq1, if_pos hq2]]) ?_
      refine loop1 (fun (a2_1 : Int32) (a3_1 : Int32) (f_1 : (Nat → Int32)) (g_1 : (Nat → Int32)) => (a3_1, f_1, (upd g_1 2 (f_1 13)))) ?_ (pm_n x) 0 (by omega) 0 0 (upd f 13 (g 2)) g (hn) (⟨rfl, by decide⟩) ((Nat.le_of_eq (pm_pc0 ⟨n, by omega⟩))) ((by first | (rw [pk_us]; exact hgd) | (rw [pk_un (by decide), pk_us]; exact hgd))) ((by first | (rw [pk_us]; exact hgl) | (rw [pk_un (by decide), pk_us]; exact hgl)))
      intro a2_1 a3_1 f_1 g_1 hn_1
      refine pm_pst (post' := pm_rt (some (.int ((a3_1, f_1, (upd g_1 2 (f_1 13))).1))) nx (pm_up (pm_up M m0 (pm_mo z m0 ((a3_1, f_1, (upd g_1 2 (f_1 13))).2.1))) (m0 + 1) (.inl (kA 0, 91, .inl ((a3_1, f_1, (upd g_1 2 (f_1 13))).2.2))))) rfl ?_
      refine pm_aload_n B dX13_doAudit_136 rfl ?_
      refine pm_get B dX13_doAudit_137 fl_X13_9 ((pm_up_n (by omega)).trans pm_up_s) rfl ?_
      refine pm_iconst (v := 2) B dX13_doAudit_140 (by decide) ?_
      refine pm_aload_n B dX13_doAudit_141 rfl ?_
      refine pm_get B dX13_doAudit_142 fl_X13_141 ((pm_up_n (by omega)).trans pm_up_s) rfl ?_
      refine pm_iast_n B dX13_doAudit_145 pm_up_s 2 (by decide) (by decide) ?_
      refine pm_mem (M' := pm_up (pm_up M m0 (pm_mo z m0 f_1)) (m0 + 1) (.inl (kA 0, 91, .inl (upd g_1 2 (f_1 13))))) pm_up_up ?_
      refine pm_iload_n B dX13_doAudit_146 rfl ?_
      have hDq13 : ((a3_1, f_1, (upd g_1 2 (f_1 13)))) = (a3_1, f_1, (upd g_1 2 (f_1 13))) := rfl
      exact pm_ireturn B dX13_doAudit_147 rfl (by first | rfl | (apply pm_nz; first | assumption | decide | exact pm_in01 _ _ _ | simp)) ⟨(by rw [hDq13]), rfl, by rw [hDq13]⟩ rfl rfl
    · refine pm_aload_n B dX13_doAudit_26 rfl ?_
      refine pm_iconst (v := 2) B dX13_doAudit_27 (by decide) ?_
      refine pm_bipush (v := 6) B dX13_doAudit_28 (by decide) ?_
      refine pm_aload_n B dX13_doAudit_30 rfl ?_
      refine pm_get B dX13_doAudit_31 fl_X13_9 ((pm_up_n (by omega)).trans pm_up_s) rfl ?_
      refine pm_iconst (v := 0) B dX13_doAudit_34 (by decide) ?_
      refine pm_iald_n B dX13_doAudit_35 pm_up_s 0 (by decide) (by decide) ?_
      refine pm_stk (st' := [.int (nI n), .int 6, .int 2, .ref (z + m0)]) (by rw [show (g 0) = (nI n) from by rw [hn]]) ?_
      refine pm_cV (As := [.int 2, .int 6, .int (nI n)]) (mc2 := 0) (ms2 := 0) B rfl ((pm_up_n (by omega)).trans pm_up_s) rfl (c_X13_denies (f := f) ((pm_up_n (by omega)).trans pm_up_s)) mt_X13_denies sv_X13_83 dX13_doAudit_36 rfl rfl rfl rfl rfl ?_
      refine pm_mem (M' := pm_up (pm_up (pm_up M m0 (pm_mo z m0 f)) (m0 + 1) (.inl (kA 0, 91, .inl g))) m0 (pm_mo z m0 (upd (upd (upd f 7 6) 8 (nI n)) 6 2))) rfl ?_
      refine pm_mem (M' := pm_up (pm_up M m0 (pm_mo z m0 (upd (upd (upd f 7 6) 8 (nI n)) 6 2))) (m0 + 1) (.inl (kA 0, 91, .inl g))) (by rw [pm_up_sw (a := m0 + 1) (b := m0) (by omega), pm_up_up]) ?_
      refine pm_stk (st' := [.int 0]) rfl ?_
      have hDq14 : (d_X13_doAudit x n f g) = (0, (upd (upd (upd f 7 6) 8 (nI n)) 6 2), g) := by rw [d_X13_doAudit, if_neg hq1, if_neg hq2]
      exact pm_ireturn B dX13_doAudit_39 rfl (by first | rfl | (apply pm_nz; first | assumption | decide | exact pm_in01 _ _ _ | simp)) ⟨(by rw [hDq14]), rfl, by rw [hDq14]⟩ rfl rfl
  · refine pm_aload_n B dX13_doAudit_10 rfl ?_
    refine pm_iconst (v := 1) B dX13_doAudit_11 (by decide) ?_
    refine pm_cV (As := [.int 1]) (mc2 := 0) (ms2 := 0) B rfl ((pm_up_n (by omega)).trans pm_up_s) rfl (c_X13_fails (f := f) ((pm_up_n (by omega)).trans pm_up_s)) mt_X13_fails sv_X13_66 dX13_doAudit_12 rfl rfl rfl rfl rfl ?_
    refine pm_mem (M' := pm_up (pm_up (pm_up M m0 (pm_mo z m0 f)) (m0 + 1) (.inl (kA 0, 91, .inl g))) m0 (pm_mo z m0 (upd f 6 1))) rfl ?_
    refine pm_mem (M' := pm_up (pm_up M m0 (pm_mo z m0 (upd f 6 1))) (m0 + 1) (.inl (kA 0, 91, .inl g))) (by rw [pm_up_sw (a := m0 + 1) (b := m0) (by omega), pm_up_up]) ?_
    refine pm_stk (st' := [.int 0]) rfl ?_
    have hDq15 : (d_X13_doAudit x n f g) = (0, (upd f 6 1), g) := by rw [d_X13_doAudit, if_pos hq1]
    exact pm_ireturn B dX13_doAudit_15 rfl (by first | rfl | (apply pm_nz; first | assumption | decide | exact pm_in01 _ _ _ | simp)) ⟨(by rw [hDq15]), rfl, by rw [hDq15]⟩ rfl rfl
theorem d_X13_doAudit_L1_f5 (n : Nat) : ∀ (k j : Nat) (a b : Int32) (f g : Nat → Int32), (d_X13_doAudit_L1 n k j a b f g).2.2.1 5 = f 5 := by
  intro k
  induction k with
  | zero => intro j a b f g; rfl
  | succ k ih =>
    intro j a b f g
    simp only [d_X13_doAudit_L1]
    (repeat' split) <;> (rw [ih]; rfl)
theorem d_X13_doAudit_k_f5 (x : Int32) (n : Nat) (f g : Nat → Int32) : (d_X13_doAudit x n f g).2.1 5 = f 5 := by
  unfold d_X13_doAudit
  (repeat' split)
  · rfl
  · simp only [d_X13_doAudit_L1_f5]; rfl
  · rfl
def d_X13_audit (x : Int32) (n : Nat) (k : Nat) (f : Nat → Int32) (g : Nat → Int32) (gb : Nat → Int32) (gp : Nat → Int32) : (Int32 × (Nat → Int32) × (Nat → Int32) × (Nat → Int32) × (Nat → Int32)) := (((d_X13_ends ((d_X13_doAudit x n ((d_X13_keep f g gb).1) g).1) 0 k ((d_X13_doAudit x n ((d_X13_keep f g gb).1) g).2.1) ((d_X13_doAudit x n ((d_X13_keep f g gb).1) g).2.2) ((d_X13_keep f g gb).2) gp).1), ((d_X13_ends ((d_X13_doAudit x n ((d_X13_keep f g gb).1) g).1) 0 k ((d_X13_doAudit x n ((d_X13_keep f g gb).1) g).2.1) ((d_X13_doAudit x n ((d_X13_keep f g gb).1) g).2.2) ((d_X13_keep f g gb).2) gp).2.1), ((d_X13_ends ((d_X13_doAudit x n ((d_X13_keep f g gb).1) g).1) 0 k ((d_X13_doAudit x n ((d_X13_keep f g gb).1) g).2.1) ((d_X13_doAudit x n ((d_X13_keep f g gb).1) g).2.2) ((d_X13_keep f g gb).2) gp).2.2.1), ((d_X13_keep f g gb).2), ((d_X13_ends ((d_X13_doAudit x n ((d_X13_keep f g gb).1) g).1) 0 k ((d_X13_doAudit x n ((d_X13_keep f g gb).1) g).2.1) ((d_X13_doAudit x n ((d_X13_keep f g gb).1) g).2.2) ((d_X13_keep f g gb).2) gp).2.2.2))
set_option maxRecDepth 100000 in
set_option maxHeartbeats 8000000 in
theorem c_X13_audit {l : Launch} {z : Nat} {D : va_G} {kA : Nat → ClassId} {kE : Nat → Nat} {nx : Nat} {M : pm_M} {x : Int32} {n : Nat} {k : Nat}{m0 : Nat} {f : Nat → Int32} {g : Nat → Int32} {gb : Nat → Int32} {gp : Nat → Int32} (hM : M m0 = some (pm_mo z m0 f)) (hg : M (m0 + 1) = some (.inl (kA 0, 91, .inl g))) (hgb : M (m0 + 2) = some (.inl (kA 0, 91, .inl gb))) (hgp : M (m0 + 4) = some (.inl (kA 0, 728, .inl gp))) (hn : g 0 = nI n) (h7 : n ≤ 7) (hf5 : f 5 = nI k) (h8 : k ≤ 8) (hgd : g 2 = nI (pm_n (g 2))) (hgl : pm_n (g 2) < 1024) : pm_C l z D kA kE yX13_audit cX13_audit 2 (some .int) 3 0 0 [.ref (z + m0), .int x] nx M (pm_rt (some (.int ((d_X13_audit x n k f g gb gp).1))) nx (pm_up (pm_up (pm_up (pm_up M m0 (pm_mo z m0 ((d_X13_audit x n k f g gb gp).2.1))) (m0 + 1) (.inl (kA 0, 91, .inl ((d_X13_audit x n k f g gb gp).2.2.1)))) (m0 + 2) (.inl (kA 0, 91, .inl ((d_X13_audit x n k f g gb gp).2.2.2.1)))) (m0 + 4) (.inl (kA 0, 728, .inl ((d_X13_audit x n k f g gb gp).2.2.2.2))))) := by
  refine pm_mk (own := RX13) (nm := "audit") mt_X13_audit rfl rfl rfl rfl fun X B => ?_
  refine pm_loc (L' := [some (.ref (z + m0)), some (.int x)]) rfl ?_
  refine pm_mem (M' := pm_up (pm_up (pm_up (pm_up M m0 (pm_mo z m0 f)) (m0 + 1) (.inl (kA 0, 91, .inl g))) (m0 + 2) (.inl (kA 0, 91, .inl gb))) (m0 + 4) (.inl (kA 0, 728, .inl gp))) (by rw [pm_up_id hM, pm_up_id hg, pm_up_id hgb, pm_up_id hgp]) ?_
  refine pm_aload_n B dX13_audit_0 rfl ?_
  refine pm_cV (As := []) (mc2 := 0) (ms2 := 0) B rfl ((pm_up_n (by omega)).trans ((pm_up_n (by omega)).trans ((pm_up_n (by omega)).trans pm_up_s))) rfl (c_X13_keep (f := f) (g := g) (gb := gb) ((pm_up_n (by omega)).trans ((pm_up_n (by omega)).trans ((pm_up_n (by omega)).trans pm_up_s))) ((pm_up_n (by omega)).trans ((pm_up_n (by omega)).trans pm_up_s)) ((pm_up_n (by omega)).trans pm_up_s) ) mt_X13_keep sv_X13_91 dX13_audit_1 rfl rfl rfl rfl rfl ?_
  refine pm_mem (M' := pm_up (pm_up (pm_up (pm_up (pm_up (pm_up M m0 (pm_mo z m0 f)) (m0 + 1) (.inl (kA 0, 91, .inl g))) (m0 + 2) (.inl (kA 0, 91, .inl gb))) (m0 + 4) (.inl (kA 0, 728, .inl gp))) m0 (pm_mo z m0 ((d_X13_keep f g gb).1))) (m0 + 2) (.inl (kA 0, 91, .inl ((d_X13_keep f g gb).2)))) rfl ?_
  refine pm_mem (M' := pm_up (pm_up (pm_up (pm_up (pm_up M m0 (pm_mo z m0 ((d_X13_keep f g gb).1))) (m0 + 1) (.inl (kA 0, 91, .inl g))) (m0 + 2) (.inl (kA 0, 91, .inl gb))) (m0 + 4) (.inl (kA 0, 728, .inl gp))) (m0 + 2) (.inl (kA 0, 91, .inl ((d_X13_keep f g gb).2)))) (by rw [pm_up_sw (a := m0 + 4) (b := m0) (by omega), pm_up_sw (a := m0 + 2) (b := m0) (by omega), pm_up_sw (a := m0 + 1) (b := m0) (by omega), pm_up_up (a := m0)]) ?_
  refine pm_mem (M' := pm_up (pm_up (pm_up (pm_up M m0 (pm_mo z m0 ((d_X13_keep f g gb).1))) (m0 + 1) (.inl (kA 0, 91, .inl g))) (m0 + 2) (.inl (kA 0, 91, .inl ((d_X13_keep f g gb).2)))) (m0 + 4) (.inl (kA 0, 728, .inl gp))) (by rw [pm_up_sw (a := m0 + 4) (b := m0 + 2) (by omega), pm_up_up (a := m0 + 2)]) ?_
  refine pm_stk (st' := []) rfl ?_
  refine pm_aload_n B dX13_audit_4 rfl ?_
  refine pm_aload_n B dX13_audit_5 rfl ?_
  refine pm_iload_n B dX13_audit_6 rfl ?_
  refine pm_cV (As := [.int x]) (mc2 := 0) (ms2 := 0) B rfl ((pm_up_n (by omega)).trans ((pm_up_n (by omega)).trans ((pm_up_n (by omega)).trans pm_up_s))) rfl (c_X13_doAudit (x := x) (n := n) (f := ((d_X13_keep f g gb).1)) (g := g) ((pm_up_n (by omega)).trans ((pm_up_n (by omega)).trans ((pm_up_n (by omega)).trans pm_up_s))) ((pm_up_n (by omega)).trans ((pm_up_n (by omega)).trans pm_up_s)) hn (by first | assumption | omega) (by assumption) (by assumption)) mt_X13_doAudit sv_X13_147 dX13_audit_7 rfl rfl rfl rfl rfl ?_
  refine pm_mem (M' := pm_up (pm_up (pm_up (pm_up (pm_up (pm_up M m0 (pm_mo z m0 ((d_X13_keep f g gb).1))) (m0 + 1) (.inl (kA 0, 91, .inl g))) (m0 + 2) (.inl (kA 0, 91, .inl ((d_X13_keep f g gb).2)))) (m0 + 4) (.inl (kA 0, 728, .inl gp))) m0 (pm_mo z m0 ((d_X13_doAudit x n ((d_X13_keep f g gb).1) g).2.1))) (m0 + 1) (.inl (kA 0, 91, .inl ((d_X13_doAudit x n ((d_X13_keep f g gb).1) g).2.2)))) rfl ?_
  refine pm_mem (M' := pm_up (pm_up (pm_up (pm_up (pm_up M m0 (pm_mo z m0 ((d_X13_doAudit x n ((d_X13_keep f g gb).1) g).2.1))) (m0 + 1) (.inl (kA 0, 91, .inl g))) (m0 + 2) (.inl (kA 0, 91, .inl ((d_X13_keep f g gb).2)))) (m0 + 4) (.inl (kA 0, 728, .inl gp))) (m0 + 1) (.inl (kA 0, 91, .inl ((d_X13_doAudit x n ((d_X13_keep f g gb).1) g).2.2)))) (by rw [pm_up_sw (a := m0 + 4) (b := m0) (by omega), pm_up_sw (a := m0 + 2) (b := m0) (by omega), pm_up_sw (a := m0 + 1) (b := m0) (by omega), pm_up_up (a := m0)]) ?_
  refine pm_mem (M' := pm_up (pm_up (pm_up (pm_up M m0 (pm_mo z m0 ((d_X13_doAudit x n ((d_X13_keep f g gb).1) g).2.1))) (m0 + 1) (.inl (kA 0, 91, .inl ((d_X13_doAudit x n ((d_X13_keep f g gb).1) g).2.2)))) (m0 + 2) (.inl (kA 0, 91, .inl ((d_X13_keep f g gb).2)))) (m0 + 4) (.inl (kA 0, 728, .inl gp))) (by rw [pm_up_sw (a := m0 + 4) (b := m0 + 1) (by omega), pm_up_sw (a := m0 + 2) (b := m0 + 1) (by omega), pm_up_up (a := m0 + 1)]) ?_
  refine pm_stk (st' := [.int ((d_X13_doAudit x n ((d_X13_keep f g gb).1) g).1), .ref (z + m0)]) rfl ?_
  refine pm_iconst (v := 0) B dX13_audit_10 (by decide) ?_
  refine pm_cV (As := [.int ((d_X13_doAudit x n ((d_X13_keep f g gb).1) g).1), .int 0]) (mc2 := 0) (ms2 := 0) B rfl ((pm_up_n (by omega)).trans ((pm_up_n (by omega)).trans ((pm_up_n (by omega)).trans pm_up_s))) rfl (c_X13_ends (x := ((d_X13_doAudit x n ((d_X13_keep f g gb).1) g).1)) (y := 0) (k := k) (f := ((d_X13_doAudit x n ((d_X13_keep f g gb).1) g).2.1)) (g := ((d_X13_doAudit x n ((d_X13_keep f g gb).1) g).2.2)) (gb := ((d_X13_keep f g gb).2)) (gp := gp) ((pm_up_n (by omega)).trans ((pm_up_n (by omega)).trans ((pm_up_n (by omega)).trans pm_up_s))) ((pm_up_n (by omega)).trans ((pm_up_n (by omega)).trans pm_up_s)) ((pm_up_n (by omega)).trans pm_up_s) pm_up_s (show ((d_X13_doAudit x n ((d_X13_keep f g gb).1) g).2.1) 5 = (nI k) from by rw [((d_X13_doAudit_k_f5 x n ((d_X13_keep f g gb).1) g).trans ((d_X13_keep_k_f5  f g gb).trans hf5))]) (by first | assumption | omega)) mt_X13_ends sv_X13_97 dX13_audit_11 rfl rfl rfl rfl rfl ?_
  refine pm_mem (M' := pm_up (pm_up (pm_up (pm_up (pm_up (pm_up (pm_up M m0 (pm_mo z m0 ((d_X13_doAudit x n ((d_X13_keep f g gb).1) g).2.1))) (m0 + 1) (.inl (kA 0, 91, .inl ((d_X13_doAudit x n ((d_X13_keep f g gb).1) g).2.2)))) (m0 + 2) (.inl (kA 0, 91, .inl ((d_X13_keep f g gb).2)))) (m0 + 4) (.inl (kA 0, 728, .inl gp))) m0 (pm_mo z m0 ((d_X13_ends ((d_X13_doAudit x n ((d_X13_keep f g gb).1) g).1) 0 k ((d_X13_doAudit x n ((d_X13_keep f g gb).1) g).2.1) ((d_X13_doAudit x n ((d_X13_keep f g gb).1) g).2.2) ((d_X13_keep f g gb).2) gp).2.1))) (m0 + 1) (.inl (kA 0, 91, .inl ((d_X13_ends ((d_X13_doAudit x n ((d_X13_keep f g gb).1) g).1) 0 k ((d_X13_doAudit x n ((d_X13_keep f g gb).1) g).2.1) ((d_X13_doAudit x n ((d_X13_keep f g gb).1) g).2.2) ((d_X13_keep f g gb).2) gp).2.2.1)))) (m0 + 4) (.inl (kA 0, 728, .inl ((d_X13_ends ((d_X13_doAudit x n ((d_X13_keep f g gb).1) g).1) 0 k ((d_X13_doAudit x n ((d_X13_keep f g gb).1) g).2.1) ((d_X13_doAudit x n ((d_X13_keep f g gb).1) g).2.2) ((d_X13_keep f g gb).2) gp).2.2.2)))) rfl ?_
  refine pm_mem (M' := pm_up (pm_up (pm_up (pm_up (pm_up (pm_up M m0 (pm_mo z m0 ((d_X13_ends ((d_X13_doAudit x n ((d_X13_keep f g gb).1) g).1) 0 k ((d_X13_doAudit x n ((d_X13_keep f g gb).1) g).2.1) ((d_X13_doAudit x n ((d_X13_keep f g gb).1) g).2.2) ((d_X13_keep f g gb).2) gp).2.1))) (m0 + 1) (.inl (kA 0, 91, .inl ((d_X13_doAudit x n ((d_X13_keep f g gb).1) g).2.2)))) (m0 + 2) (.inl (kA 0, 91, .inl ((d_X13_keep f g gb).2)))) (m0 + 4) (.inl (kA 0, 728, .inl gp))) (m0 + 1) (.inl (kA 0, 91, .inl ((d_X13_ends ((d_X13_doAudit x n ((d_X13_keep f g gb).1) g).1) 0 k ((d_X13_doAudit x n ((d_X13_keep f g gb).1) g).2.1) ((d_X13_doAudit x n ((d_X13_keep f g gb).1) g).2.2) ((d_X13_keep f g gb).2) gp).2.2.1)))) (m0 + 4) (.inl (kA 0, 728, .inl ((d_X13_ends ((d_X13_doAudit x n ((d_X13_keep f g gb).1) g).1) 0 k ((d_X13_doAudit x n ((d_X13_keep f g gb).1) g).2.1) ((d_X13_doAudit x n ((d_X13_keep f g gb).1) g).2.2) ((d_X13_keep f g gb).2) gp).2.2.2)))) (by rw [pm_up_sw (a := m0 + 4) (b := m0) (by omega), pm_up_sw (a := m0 + 2) (b := m0) (by omega), pm_up_sw (a := m0 + 1) (b := m0) (by omega), pm_up_up (a := m0)]) ?_
  refine pm_mem (M' := pm_up (pm_up (pm_up (pm_up (pm_up M m0 (pm_mo z m0 ((d_X13_ends ((d_X13_doAudit x n ((d_X13_keep f g gb).1) g).1) 0 k ((d_X13_doAudit x n ((d_X13_keep f g gb).1) g).2.1) ((d_X13_doAudit x n ((d_X13_keep f g gb).1) g).2.2) ((d_X13_keep f g gb).2) gp).2.1))) (m0 + 1) (.inl (kA 0, 91, .inl ((d_X13_ends ((d_X13_doAudit x n ((d_X13_keep f g gb).1) g).1) 0 k ((d_X13_doAudit x n ((d_X13_keep f g gb).1) g).2.1) ((d_X13_doAudit x n ((d_X13_keep f g gb).1) g).2.2) ((d_X13_keep f g gb).2) gp).2.2.1)))) (m0 + 2) (.inl (kA 0, 91, .inl ((d_X13_keep f g gb).2)))) (m0 + 4) (.inl (kA 0, 728, .inl gp))) (m0 + 4) (.inl (kA 0, 728, .inl ((d_X13_ends ((d_X13_doAudit x n ((d_X13_keep f g gb).1) g).1) 0 k ((d_X13_doAudit x n ((d_X13_keep f g gb).1) g).2.1) ((d_X13_doAudit x n ((d_X13_keep f g gb).1) g).2.2) ((d_X13_keep f g gb).2) gp).2.2.2)))) (by rw [pm_up_sw (a := m0 + 4) (b := m0 + 1) (by omega), pm_up_sw (a := m0 + 2) (b := m0 + 1) (by omega), pm_up_up (a := m0 + 1)]) ?_
  refine pm_mem (M' := pm_up (pm_up (pm_up (pm_up M m0 (pm_mo z m0 ((d_X13_ends ((d_X13_doAudit x n ((d_X13_keep f g gb).1) g).1) 0 k ((d_X13_doAudit x n ((d_X13_keep f g gb).1) g).2.1) ((d_X13_doAudit x n ((d_X13_keep f g gb).1) g).2.2) ((d_X13_keep f g gb).2) gp).2.1))) (m0 + 1) (.inl (kA 0, 91, .inl ((d_X13_ends ((d_X13_doAudit x n ((d_X13_keep f g gb).1) g).1) 0 k ((d_X13_doAudit x n ((d_X13_keep f g gb).1) g).2.1) ((d_X13_doAudit x n ((d_X13_keep f g gb).1) g).2.2) ((d_X13_keep f g gb).2) gp).2.2.1)))) (m0 + 2) (.inl (kA 0, 91, .inl ((d_X13_keep f g gb).2)))) (m0 + 4) (.inl (kA 0, 728, .inl ((d_X13_ends ((d_X13_doAudit x n ((d_X13_keep f g gb).1) g).1) 0 k ((d_X13_doAudit x n ((d_X13_keep f g gb).1) g).2.1) ((d_X13_doAudit x n ((d_X13_keep f g gb).1) g).2.2) ((d_X13_keep f g gb).2) gp).2.2.2)))) (by rw [pm_up_up (a := m0 + 4)]) ?_
  refine pm_stk (st' := [.int ((d_X13_ends ((d_X13_doAudit x n ((d_X13_keep f g gb).1) g).1) 0 k ((d_X13_doAudit x n ((d_X13_keep f g gb).1) g).2.1) ((d_X13_doAudit x n ((d_X13_keep f g gb).1) g).2.2) ((d_X13_keep f g gb).2) gp).1)]) rfl ?_
  have hDq1 : (d_X13_audit x n k f g gb gp) = (((d_X13_ends ((d_X13_doAudit x n ((d_X13_keep f g gb).1) g).1) 0 k ((d_X13_doAudit x n ((d_X13_keep f g gb).1) g).2.1) ((d_X13_doAudit x n ((d_X13_keep f g gb).1) g).2.2) ((d_X13_keep f g gb).2) gp).1), ((d_X13_ends ((d_X13_doAudit x n ((d_X13_keep f g gb).1) g).1) 0 k ((d_X13_doAudit x n ((d_X13_keep f g gb).1) g).2.1) ((d_X13_doAudit x n ((d_X13_keep f g gb).1) g).2.2) ((d_X13_keep f g gb).2) gp).2.1), ((d_X13_ends ((d_X13_doAudit x n ((d_X13_keep f g gb).1) g).1) 0 k ((d_X13_doAudit x n ((d_X13_keep f g gb).1) g).2.1) ((d_X13_doAudit x n ((d_X13_keep f g gb).1) g).2.2) ((d_X13_keep f g gb).2) gp).2.2.1), ((d_X13_keep f g gb).2), ((d_X13_ends ((d_X13_doAudit x n ((d_X13_keep f g gb).1) g).1) 0 k ((d_X13_doAudit x n ((d_X13_keep f g gb).1) g).2.1) ((d_X13_doAudit x n ((d_X13_keep f g gb).1) g).2.2) ((d_X13_keep f g gb).2) gp).2.2.2)) := by rw [d_X13_audit]
  exact pm_ireturn B dX13_audit_14 rfl (by first | rfl | (apply pm_nz; first | assumption | decide | exact pm_in01 _ _ _ | simp)) ⟨(by rw [hDq1]), rfl, by rw [hDq1]⟩ rfl rfl
def d_X13_drawnMember_L1 (n : Nat) (g : Nat → Int32) : Nat → Nat → Int32 → Int32 → (Nat → Int32) → (Int32 × Int32 × (Nat → Int32))
  | 0, _, a2_1, a3_1, f_1 => (a2_1, a3_1, f_1)
  | k1 + 1, j1, a2_1, a3_1, f_1 => (d_X13_drawnMember_L1 n g k1 (j1 + 1) (nI (pm_n a2_1 ||| 2 ^ (pm_n ((d_X13_draws (pm_n a2_1) n f_1 g).1)))) (nI (pm_n ((d_X13_draws (pm_n a2_1) n f_1 g).1))) ((d_X13_draws (pm_n a2_1) n f_1 g).2))
def d_X13_drawnMember (x : Int32) (n : Nat) (f : Nat → Int32) (g : Nat → Int32) : (Int32 × (Nat → Int32)) := if (pm_in x 0 (nI n - 1)) = 0 then (if x < 0 then (0, (upd (upd f 13 (g 2)) 6 (pm_th (pm_in x 0 (nI n - 1))))) else (0, (upd (upd f 13 (g 2)) 6 (pm_th (pm_in x 0 (nI n - 1)))))) else (((d_X13_drawnMember_L1 n g (pm_n x + 1) 0 0 0 (upd (upd f 13 (g 2)) 6 (pm_th (pm_in x 0 (nI n - 1))))).2.1), ((d_X13_drawnMember_L1 n g (pm_n x + 1) 0 0 0 (upd (upd f 13 (g 2)) 6 (pm_th (pm_in x 0 (nI n - 1))))).2.2))
set_option maxRecDepth 100000 in
set_option maxHeartbeats 8000000 in
theorem c_X13_drawnMember {l : Launch} {z : Nat} {D : va_G} {kA : Nat → ClassId} {kE : Nat → Nat} {nx : Nat} {M : pm_M} {x : Int32} {n : Nat}{m0 : Nat} {f : Nat → Int32} {g : Nat → Int32} (hM : M m0 = some (pm_mo z m0 f)) (hg : M (m0 + 1) = some (.inl (kA 0, 91, .inl g))) (hn : g 0 = nI n) (h7 : n ≤ 7) (hgd : g 2 = nI (pm_n (g 2))) (hgl : pm_n (g 2) < 1024) : pm_C l z D kA kE yX13_drawnMember cX13_drawnMember 6 (some .int) 2 0 0 [.ref (z + m0), .int x] nx M (pm_rt (some (.int ((d_X13_drawnMember x n f g).1))) nx (pm_up M m0 (pm_mo z m0 ((d_X13_drawnMember x n f g).2)))) := by
  refine pm_mk (own := RX13) (nm := "drawnMember") mt_X13_drawnMember rfl rfl rfl rfl fun X B => ?_
  refine pm_loc (L' := [some (.ref (z + m0)), some (.int x), none, none, none, none]) rfl ?_
  refine pm_mem (M' := pm_up M m0 (pm_mo z m0 f)) (by rw [pm_up_id hM]) ?_
  refine pm_aload_n B dX13_drawnMember_0 rfl ?_
  refine pm_aload_n B dX13_drawnMember_1 rfl ?_
  refine pm_get B dX13_drawnMember_2 fl_X13_9 pm_up_s rfl ?_
  refine pm_iconst (v := 2) B dX13_drawnMember_5 (by decide) ?_
  refine pm_iald_n B dX13_drawnMember_6 ((pm_up_n (by omega)).trans hg) 2 (by decide) (by decide) ?_
  refine pm_put B dX13_drawnMember_7 fs_X13_141 pm_up_s rfl rfl rfl ?_
  refine pm_mem (M' := pm_up M m0 (pm_mo z m0 (upd f 13 (g 2)))) pm_up_up ?_
  refine pm_iconst (v := 0) B dX13_drawnMember_10 (by decide) ?_
  refine pm_istore_n B dX13_drawnMember_11 rfl rfl ?_
  refine pm_loc (L' := [some (.ref (z + m0)), some (.int x), some (.int 0), none, none, none]) rfl ?_
  refine pm_iconst (v := 0) B dX13_drawnMember_12 (by decide) ?_
  refine pm_istore_n B dX13_drawnMember_13 rfl rfl ?_
  refine pm_loc (L' := [some (.ref (z + m0)), some (.int x), some (.int 0), some (.int 0), none, none]) rfl ?_
  refine pm_aload_n B dX13_drawnMember_14 rfl ?_
  refine pm_aload_n B dX13_drawnMember_15 rfl ?_
  refine pm_iload_n B dX13_drawnMember_16 rfl ?_
  refine pm_cV (As := [.int x]) (mc2 := 0) (ms2 := 0) B rfl pm_up_s rfl (c_X13_isMember (f := (upd f 13 (g 2))) pm_up_s ((pm_up_n (by omega)).trans hg)) mt_X13_isMember sv_X13_100 dX13_drawnMember_17 rfl rfl rfl rfl rfl ?_
  refine pm_stk (st' := [.int (pm_in x 0 (g 0 - 1)), .ref (z + m0)]) rfl ?_
  refine pm_stk (st' := [.int (pm_in x 0 (nI n - 1)), .ref (z + m0)]) (by rw [show (pm_in x 0 (g 0 - 1)) = (pm_in x 0 (nI n - 1)) from by rw [hn]]) ?_
  refine pm_cV (As := [.int (pm_in x 0 (nI n - 1))]) (mc2 := 0) (ms2 := 0) B rfl pm_up_s rfl (c_X13_isThere (f := (upd f 13 (g 2))) (b := (pm_in x 0 (nI n - 1))) pm_up_s (by first | assumption | exact pm_in01 _ _ _ | decide | simp)) mt_X13_isThere sv_X13_107 dX13_drawnMember_20 rfl rfl rfl rfl rfl ?_
  refine pm_mem (M' := pm_up M m0 (pm_mo z m0 (upd (upd f 13 (g 2)) 6 (pm_th (pm_in x 0 (nI n - 1)))))) pm_up_up ?_
  refine pm_stk (st' := [.int (pm_in x 0 (nI n - 1))]) rfl ?_
  refine pm_istore B dX13_drawnMember_23 rfl rfl ?_
  refine pm_loc (L' := [some (.ref (z + m0)), some (.int x), some (.int 0), some (.int 0), some (.int (pm_in x 0 (nI n - 1))), none]) rfl ?_
  by_cases hq1 : (pm_in x 0 (nI n - 1)) = 0
  · refine pm_iconst (v := 0) B dX13_drawnMember_25 (by decide) ?_
    refine pm_istore B dX13_drawnMember_26 rfl rfl ?_
    refine pm_loc (L' := [some (.ref (z + m0)), some (.int x), some (.int 0), some (.int 0), some (.int (pm_in x 0 (nI n - 1))), some (.int 0)]) rfl ?_
    refine pm_iload B dX13_drawnMember_28 rfl ?_
    refine pm_iload_n B dX13_drawnMember_30 rfl ?_
    refine pm_icmp_gt (tgt := 57) B dX13_drawnMember_31 (by decide) (fun hq2 => ?_) (fun hq2 => ?_)
    · refine pm_iload_n B dX13_drawnMember_57 rfl ?_
      have hDq3 : (d_X13_drawnMember x n f g) = (0, (upd (upd f 13 (g 2)) 6 (pm_th (pm_in x 0 (nI n - 1))))) := by rw [d_X13_drawnMember, if_pos hq1, if_pos hq2]
      exact pm_ireturn B dX13_drawnMember_58 rfl (by first | rfl | (apply pm_nz; first | assumption | decide | exact pm_in01 _ _ _ | simp)) ⟨(by rw [hDq3]), rfl, by rw [hDq3]⟩ rfl rfl
    · refine pm_iload B dX13_drawnMember_34 rfl ?_
      refine pm_if_eq (tgt := 57) B dX13_drawnMember_36 (by decide) (fun hq4 => ?_) (fun hq4 => absurd ((by assumption)) hq4)
      refine pm_iload_n B dX13_drawnMember_57 rfl ?_
      have hDq5 : (d_X13_drawnMember x n f g) = (0, (upd (upd f 13 (g 2)) 6 (pm_th (pm_in x 0 (nI n - 1))))) := by rw [d_X13_drawnMember, if_pos hq1, if_neg hq2]
      exact pm_ireturn B dX13_drawnMember_58 rfl (by first | rfl | (apply pm_nz; first | assumption | decide | exact pm_in01 _ _ _ | simp)) ⟨(by rw [hDq5]), rfl, by rw [hDq5]⟩ rfl rfl
  · obtain ⟨he_x, hl_x⟩ := pm_in_nx h7 hq1
    refine pm_loc (L' := [some (.ref (z + m0)), some (.int (nI (pm_n x))), some (.int 0), some (.int 0), some (.int (pm_in x 0 (nI n - 1))), none]) (congrArg (fun yy : Int32 => ([some (.ref (z + m0)), some (.int yy), some (.int 0), some (.int 0), some (.int (pm_in x 0 (nI n - 1))), none] : List (Option Value))) he_x) ?_
    have hq6 : ¬ (pm_in x 0 (nI n - 1)) = 0 := hq1
    refine pm_iconst (v := 0) B dX13_drawnMember_25 (by decide) ?_
    refine pm_istore B dX13_drawnMember_26 rfl rfl ?_
    refine pm_loc (L' := [some (.ref (z + m0)), some (.int (nI (pm_n x))), some (.int 0), some (.int 0), some (.int (pm_in x 0 (nI n - 1))), some (.int 0)]) rfl ?_
    refine pm_loc (L' := [some (.ref (z + m0)), some (.int (nI (pm_n x))), some (.int 0), some (.int 0), some (.int (pm_in x 0 (nI n - 1))), some (.int (nI 0))]) rfl ?_
    have loop1 : ∀ (K1 : (Int32 → Int32 → (Nat → Int32) → (Int32 × (Nat → Int32)))), (∀ (a2_1 : Int32) (a3_1 : Int32) (f_1 : (Nat → Int32)), pm_G l z D X 0 0 (pm_Q z D (pm_rt (some (.int ((K1 a2_1 a3_1 f_1).1))) nx (pm_up M m0 (pm_mo z m0 ((K1 a2_1 a3_1 f_1).2)))) 0 0 X) nx (pm_up M m0 (pm_mo z m0 f_1)) 57 [none, none, none, some (.int a3_1), none, none] []) → ∀ (k1 j1 : Nat), j1 + k1 = (pm_n x + 1) → ∀ (a2_1 : Int32) (a3_1 : Int32) (f_1 : (Nat → Int32)), (hD_1 : a2_1 = nI (pm_n a2_1) ∧ pm_n a2_1 < 128) → (hp_1 : pm_pc (pm_n a2_1) n ≤ j1) → (hsd_1 : f_1 13 = nI (pm_n (f_1 13))) → (hsl_1 : pm_n (f_1 13) < 1024) → pm_G l z D X 0 0 (pm_Q z D (pm_rt (some (.int ((K1 ((d_X13_drawnMember_L1 n g k1 j1 a2_1 a3_1 f_1).1) ((d_X13_drawnMember_L1 n g k1 j1 a2_1 a3_1 f_1).2.1) ((d_X13_drawnMember_L1 n g k1 j1 a2_1 a3_1 f_1).2.2)).1))) nx (pm_up M m0 (pm_mo z m0 ((K1 ((d_X13_drawnMember_L1 n g k1 j1 a2_1 a3_1 f_1).1) ((d_X13_drawnMember_L1 n g k1 j1 a2_1 a3_1 f_1).2.1) ((d_X13_drawnMember_L1 n g k1 j1 a2_1 a3_1 f_1).2.2)).2)))) 0 0 X) nx (pm_up M m0 (pm_mo z m0 f_1)) 28 [some (.ref (z + m0)), some (.int (nI (pm_n x))), some (.int a2_1), some (.int a3_1), some (.int (pm_in x 0 (nI n - 1))), some (.int (nI j1))] [] := by
      intro K1 hK1 k1
      induction k1 with
      | zero =>
        intro j1 hj1 a2_1 a3_1 f_1 hD_1 hp_1 hsd_1 hsl_1
        have hjn1 : j1 = (pm_n x + 1) := by omega
        refine pm_iload B dX13_drawnMember_28 rfl ?_
        refine pm_iload_n B dX13_drawnMember_30 rfl ?_
        refine pm_icmp_gt (tgt := 57) B dX13_drawnMember_31 (by decide) (fun hq7 => ?_) (fun hq7 => absurd ((nI_ltI (by first | omega | decide) (by first | omega | decide)).mpr (by omega)) hq7)
        refine pm_wk (L' := [none, none, none, some (.int a3_1), none, none]) ⟨rfl, trivial⟩ ?_
        have hDq8 : (K1 ((d_X13_drawnMember_L1 n g 0 j1 a2_1 a3_1 f_1).1) ((d_X13_drawnMember_L1 n g 0 j1 a2_1 a3_1 f_1).2.1) ((d_X13_drawnMember_L1 n g 0 j1 a2_1 a3_1 f_1).2.2)) = (K1 a2_1 a3_1 f_1) := by rw [d_X13_drawnMember_L1]
        refine pm_pst (post' := pm_rt (some (.int ((K1 a2_1 a3_1 f_1).1))) nx (pm_up M m0 (pm_mo z m0 ((K1 a2_1 a3_1 f_1).2)))) (by rw [hDq8]) ?_
        exact hK1 a2_1 a3_1 f_1
      | succ k1 ih1 =>
        intro j1 hj1 a2_1 a3_1 f_1 hD_1 hp_1 hsd_1 hsl_1
        have hjn1 : j1 < (pm_n x + 1) := by omega
        refine pm_iload B dX13_drawnMember_28 rfl ?_
        refine pm_iload_n B dX13_drawnMember_30 rfl ?_
        refine pm_icmp_gt (tgt := 57) B dX13_drawnMember_31 (by decide) (fun hq9 => absurd hq9 (fun e => absurd ((nI_ltI (by first | omega | decide) (by first | omega | decide)).mp e) (by omega))) (fun hq9 => ?_)
        refine pm_iload B dX13_drawnMember_34 rfl ?_
        refine pm_if_eq (tgt := 57) B dX13_drawnMember_36 (by decide) (fun hq10 => absurd hq10 (hq6)) (fun hq10 => ?_)
        refine pm_aload_n B dX13_drawnMember_39 rfl ?_
        refine pm_iload_n B dX13_drawnMember_40 rfl ?_
        refine pm_stk (st' := [.int (nI (pm_n a2_1)), .ref (z + m0)]) (congrArg (fun yy : Int32 => ([.int yy, .ref (z + m0)] : List Value)) (show a2_1 = (nI (pm_n a2_1)) from hD_1.1)) ?_
        refine pm_cV (As := [.int (nI (pm_n a2_1))]) (mc2 := 0) (ms2 := 0) B rfl pm_up_s rfl (c_X13_draws (dr := (pm_n a2_1)) (n := n) (f := f_1) (g := g) pm_up_s ((pm_up_n (by omega)).trans hg) hn (by first | assumption | omega) hD_1.2 (by omega) (by first | assumption | exact hsd_1) (by first | assumption | exact hsl_1)) mt_X13_draws sv_X13_144 dX13_drawnMember_41 rfl rfl rfl rfl rfl ?_
        refine pm_mem (M' := pm_up (pm_up M m0 (pm_mo z m0 f_1)) m0 (pm_mo z m0 ((d_X13_draws (pm_n a2_1) n f_1 g).2))) rfl ?_
        refine pm_mem (M' := pm_up M m0 (pm_mo z m0 ((d_X13_draws (pm_n a2_1) n f_1 g).2))) (by rw [pm_up_up (a := m0)]) ?_
        refine pm_stk (st' := [.int ((d_X13_draws (pm_n a2_1) n f_1 g).1)]) rfl ?_
        have hr := (d_X13_draws_in (pm_n a2_1) n f_1 g h7 (by omega)).2
        refine pm_stk (st' := [.int (nI (pm_n ((d_X13_draws (pm_n a2_1) n f_1 g).1)))]) (congrArg (fun yy : Int32 => ([.int yy] : List Value)) (show ((d_X13_draws (pm_n a2_1) n f_1 g).1) = (nI (pm_n ((d_X13_draws (pm_n a2_1) n f_1 g).1))) from (d_X13_draws_in (pm_n a2_1) n f_1 g h7 (by omega)).1)) ?_
        refine pm_istore_n B dX13_drawnMember_44 rfl rfl ?_
        refine pm_loc (L' := [some (.ref (z + m0)), some (.int (nI (pm_n x))), some (.int a2_1), some (.int (nI (pm_n ((d_X13_draws (pm_n a2_1) n f_1 g).1)))), some (.int (pm_in x 0 (nI n - 1))), some (.int (nI j1))]) rfl ?_
        refine pm_iload_n B dX13_drawnMember_45 rfl ?_
        refine pm_stk (st' := [.int (nI (pm_n a2_1))]) (congrArg (fun yy : Int32 => ([.int yy] : List Value)) (show a2_1 = (nI (pm_n a2_1)) from hD_1.1)) ?_
        refine pm_iconst (v := 1) B dX13_drawnMember_46 (by decide) ?_
        refine pm_iload_n B dX13_drawnMember_47 rfl ?_
        refine pm_ishl B dX13_drawnMember_48 ?_
        refine pm_ior B dX13_drawnMember_49 ?_
        refine pm_stk (st' := [.int (nI (pm_n a2_1 ||| 2 ^ (pm_n ((d_X13_draws (pm_n a2_1) n f_1 g).1))))]) (by rw [show ((nI (pm_n a2_1)) ||| (1 <<< ((nI (pm_n ((d_X13_draws (pm_n a2_1) n f_1 g).1))) &&& 31))) = (nI (pm_n a2_1 ||| 2 ^ (pm_n ((d_X13_draws (pm_n a2_1) n f_1 g).1)))) from (pm_orN hD_1.2 (by omega)).1]) ?_
        refine pm_istore_n B dX13_drawnMember_50 rfl rfl ?_
        refine pm_loc (L' := [some (.ref (z + m0)), some (.int (nI (pm_n x))), some (.int (nI (pm_n a2_1 ||| 2 ^ (pm_n ((d_X13_draws (pm_n a2_1) n f_1 g).1))))), some (.int (nI (pm_n ((d_X13_draws (pm_n a2_1) n f_1 g).1)))), some (.int (pm_in x 0 (nI n - 1))), some (.int (nI j1))]) rfl ?_
        refine pm_iinc B dX13_drawnMember_51 rfl rfl rfl ?_
        refine pm_loc (L' := [some (.ref (z + m0)), some (.int (nI (pm_n x))), some (.int (nI (pm_n a2_1 ||| 2 ^ (pm_n ((d_X13_draws (pm_n a2_1) n f_1 g).1))))), some (.int (nI (pm_n ((d_X13_draws (pm_n a2_1) n f_1 g).1)))), some (.int (pm_in x 0 (nI n - 1))), some (.int (nI (j1 + 1)))]) (by rw [show ((nI j1) : Int32) + Int32.ofInt 1 = (nI (j1 + 1)) from nI_1 _]; rfl) ?_
        refine pm_goto (tgt := 28) B dX13_drawnMember_54 (by decide) ?_
        have hDq11 : (K1 ((d_X13_drawnMember_L1 n g (k1 + 1) j1 a2_1 a3_1 f_1).1) ((d_X13_drawnMember_L1 n g (k1 + 1) j1 a2_1 a3_1 f_1).2.1) ((d_X13_drawnMember_L1 n g (k1 + 1) j1 a2_1 a3_1 f_1).2.2)) = (K1 ((d_X13_drawnMember_L1 n g k1 (j1 + 1) (nI (pm_n a2_1 ||| 2 ^ (pm_n ((d_X13_draws (pm_n a2_1) n f_1 g).1)))) (nI (pm_n ((d_X13_draws (pm_n a2_1) n f_1 g).1))) ((d_X13_draws (pm_n a2_1) n f_1 g).2)).1) ((d_X13_drawnMember_L1 n g k1 (j1 + 1) (nI (pm_n a2_1 ||| 2 ^ (pm_n ((d_X13_draws (pm_n a2_1) n f_1 g).1)))) (nI (pm_n ((d_X13_draws (pm_n a2_1) n f_1 g).1))) ((d_X13_draws (pm_n a2_1) n f_1 g).2)).2.1) ((d_X13_drawnMember_L1 n g k1 (j1 + 1) (nI (pm_n a2_1 ||| 2 ^ (pm_n ((d_X13_draws (pm_n a2_1) n f_1 g).1)))) (nI (pm_n ((d_X13_draws (pm_n a2_1) n f_1 g).1))) ((d_X13_draws (pm_n a2_1) n f_1 g).2)).2.2)) := by rw [d_X13_drawnMember_L1]
        refine pm_pst (post' := pm_rt (some (.int ((K1 ((d_X13_drawnMember_L1 n g k1 (j1 + 1) (nI (pm_n a2_1 ||| 2 ^ (pm_n ((d_X13_draws (pm_n a2_1) n f_1 g).1)))) (nI (pm_n ((d_X13_draws (pm_n a2_1) n f_1 g).1))) ((d_X13_draws (pm_n a2_1) n f_1 g).2)).1) ((d_X13_drawnMember_L1 n g k1 (j1 + 1) (nI (pm_n a2_1 ||| 2 ^ (pm_n ((d_X13_draws (pm_n a2_1) n f_1 g).1)))) (nI (pm_n ((d_X13_draws (pm_n a2_1) n f_1 g).1))) ((d_X13_draws (pm_n a2_1) n f_1 g).2)).2.1) ((d_X13_drawnMember_L1 n g k1 (j1 + 1) (nI (pm_n a2_1 ||| 2 ^ (pm_n ((d_X13_draws (pm_n a2_1) n f_1 g).1)))) (nI (pm_n ((d_X13_draws (pm_n a2_1) n f_1 g).1))) ((d_X13_draws (pm_n a2_1) n f_1 g).2)).2.2)).1))) nx (pm_up M m0 (pm_mo z m0 ((K1 ((d_X13_drawnMember_L1 n g k1 (j1 + 1) (nI (pm_n a2_1 ||| 2 ^ (pm_n ((d_X13_draws (pm_n a2_1) n f_1 g).1)))) (nI (pm_n ((d_X13_draws (pm_n a2_1) n f_1 g).1))) ((d_X13_draws (pm_n a2_1) n f_1 g).2)).1) ((d_X13_drawnMember_L1 n g k1 (j1 + 1) (nI (pm_n a2_1 ||| 2 ^ (pm_n ((d_X13_draws (pm_n a2_1) n f_1 g).1)))) (nI (pm_n ((d_X13_draws (pm_n a2_1) n f_1 g).1))) ((d_X13_draws (pm_n a2_1) n f_1 g).2)).2.1) ((d_X13_drawnMember_L1 n g k1 (j1 + 1) (nI (pm_n a2_1 ||| 2 ^ (pm_n ((d_X13_draws (pm_n a2_1) n f_1 g).1)))) (nI (pm_n ((d_X13_draws (pm_n a2_1) n f_1 g).1))) ((d_X13_draws (pm_n a2_1) n f_1 g).2)).2.2)).2)))) (by rw [hDq11]) ?_
        exact ih1 (j1 + 1) (by omega) (nI (pm_n a2_1 ||| 2 ^ (pm_n ((d_X13_draws (pm_n a2_1) n f_1 g).1)))) (nI (pm_n ((d_X13_draws (pm_n a2_1) n f_1 g).1))) ((d_X13_draws (pm_n a2_1) n f_1 g).2) ((by have hq := (pm_orN (m := pm_n ((d_X13_draws (pm_n a2_1) n f_1 g).1)) hD_1.2 (by omega)).2; rw [pm_n_nI (by omega)]; exact ⟨rfl, hq⟩)) ((by have hq := (pm_orN (m := pm_n ((d_X13_draws (pm_n a2_1) n f_1 g).1)) hD_1.2 (by omega)).2; rw [pm_n_nI (by omega)]; exact pm_pcN h7 hD_1.2 (by omega) hp_1)) ((d_X13_draws_sd (pm_n a2_1) n f_1 g).1) ((d_X13_draws_sd (pm_n a2_1) n f_1 g).2)
    refine pm_pst (post' := pm_rt (some (.int ((((d_X13_drawnMember_L1 n g (pm_n x + 1) 0 0 0 (upd (upd f 13 (g 2)) 6 (pm_th (pm_in x 0 (nI n - 1))))).2.1), ((d_X13_drawnMember_L1 n g (pm_n x + 1) 0 0 0 (upd (upd f 13 (g 2)) 6 (pm_th (pm_in x 0 (nI n - 1))))).2.2)).1))) nx (pm_up M m0 (pm_mo z m0 ((((d_X13_drawnMember_L1 n g (pm_n x + 1) 0 0 0 (upd (upd f 13 (g 2)) 6 (pm_th (pm_in x 0 (nI n - 1))))).2.1), ((d_X13_drawnMember_L1 n g (pm_n x + 1) 0 0 0 (upd (upd f 13 (g 2)) 6 (pm_th (pm_in x 0 (nI n - 1))))).2.2)).2)))) (by rw [show (d_X13_drawnMember x n f g) = (((d_X13_drawnMember_L1 n g (pm_n x + 1) 0 0 0 (upd (upd f 13 (g 2)) 6 (pm_th (pm_in x 0 (nI n - 1))))).2.1), ((d_X13_drawnMember_L1 n g (pm_n x + 1) 0 0 0 (upd (upd f 13 (g 2)) 6 (pm_th (pm_in x 0 (nI n - 1))))).2.2)) from by rw [d_X13_drawnMember, if_neg hq1]]) ?_
    refine loop1 (fun (a2_1 : Int32) (a3_1 : Int32) (f_1 : (Nat → Int32)) => (a3_1, f_1)) ?_ (pm_n x + 1) 0 (by omega) 0 0 (upd (upd f 13 (g 2)) 6 (pm_th (pm_in x 0 (nI n - 1)))) (⟨rfl, by decide⟩) ((Nat.le_of_eq (pm_pc0 ⟨n, by omega⟩))) ((by first | (rw [pk_us]; exact hgd) | (rw [pk_un (by decide), pk_us]; exact hgd))) ((by first | (rw [pk_us]; exact hgl) | (rw [pk_un (by decide), pk_us]; exact hgl)))
    intro a2_1 a3_1 f_1
    refine pm_pst (post' := pm_rt (some (.int ((a3_1, f_1).1))) nx (pm_up M m0 (pm_mo z m0 ((a3_1, f_1).2)))) rfl ?_
    refine pm_iload_n B dX13_drawnMember_57 rfl ?_
    have hDq12 : ((a3_1, f_1)) = (a3_1, f_1) := rfl
    exact pm_ireturn B dX13_drawnMember_58 rfl (by first | rfl | (apply pm_nz; first | assumption | decide | exact pm_in01 _ _ _ | simp)) ⟨(by rw [hDq12]), rfl, by rw [hDq12]⟩ rfl rfl
