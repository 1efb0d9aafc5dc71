/-! ThunderCartelModel: each method as a function -/
theorem pm_in_nx {x : Int32} {n : Nat} (hn : n ≤ 7) (h : ¬ pm_in x 0 (nI n - 1) = 0) : x = nI (pm_n x) ∧ pm_n x < n := by
  obtain ⟨i, hi, rfl⟩ := pm_in_ex hn h
  rw [pm_n_nI (by omega)]
  exact ⟨rfl, hi⟩
def d_X13_keep (f : Nat → Int32) (g : Nat → Int32) (gb : Nat → Int32) : ((Nat → Int32) × (Nat → Int32)) := ((upd (upd f 6 0) 7 0), (va_cpy g gb 0 0 91))
set_option maxRecDepth 100000 in
set_option maxHeartbeats 8000000 in
theorem c_X13_keep {l : Launch} {z : Nat} {D : va_G} {kA : Nat → ClassId} {kE : Nat → Nat} {nx : Nat} {M : pm_M} {m0 : Nat} {f : Nat → Int32} {g : Nat → Int32} {gb : Nat → Int32} (hM : M m0 = some (pm_mo z m0 f)) (hg : M (m0 + 1) = some (.inl (kA 0, 91, .inl g))) (hgb : M (m0 + 2) = some (.inl (kA 0, 91, .inl gb))) : pm_C l z D kA kE yX13_keep cX13_keep 1 none 2 0 0 [.ref (z + m0)] nx M (pm_rt none nx (pm_up (pm_up M m0 (pm_mo z m0 ((d_X13_keep f g gb).1))) (m0 + 2) (.inl (kA 0, 91, .inl ((d_X13_keep f g gb).2))))) := by
  refine pm_mk (own := RX13) (nm := "keep") mt_X13_keep rfl rfl rfl rfl fun X B => ?_
  refine pm_loc (L' := [some (.ref (z + m0))]) rfl ?_
  refine pm_mem (M' := pm_up (pm_up M m0 (pm_mo z m0 f)) (m0 + 2) (.inl (kA 0, 91, .inl gb))) (by rw [pm_up_id hM, pm_up_id hgb]) ?_
  refine pm_aload_n B dX13_keep_0 rfl ?_
  refine pm_iconst (v := 0) B dX13_keep_1 (by decide) ?_
  refine pm_put B dX13_keep_2 fs_X13_39 ((pm_up_n (by omega)).trans pm_up_s) rfl rfl rfl ?_
  refine pm_mem (M' := pm_up (pm_up (pm_up M m0 (pm_mo z m0 f)) (m0 + 2) (.inl (kA 0, 91, .inl gb))) m0 (pm_mo z m0 (upd f 6 0))) rfl ?_
  refine pm_mem (M' := pm_up (pm_up M m0 (pm_mo z m0 (upd f 6 0))) (m0 + 2) (.inl (kA 0, 91, .inl gb))) (by rw [pm_up_sw (a := m0 + 2) (b := m0) (by omega), pm_up_up]) ?_
  refine pm_aload_n B dX13_keep_5 rfl ?_
  refine pm_iconst (v := 0) B dX13_keep_6 (by decide) ?_
  refine pm_put B dX13_keep_7 fs_X13_42 ((pm_up_n (by omega)).trans pm_up_s) rfl rfl rfl ?_
  refine pm_mem (M' := pm_up (pm_up (pm_up M m0 (pm_mo z m0 (upd f 6 0))) (m0 + 2) (.inl (kA 0, 91, .inl gb))) m0 (pm_mo z m0 (upd (upd f 6 0) 7 0))) rfl ?_
  refine pm_mem (M' := pm_up (pm_up M m0 (pm_mo z m0 (upd (upd f 6 0) 7 0))) (m0 + 2) (.inl (kA 0, 91, .inl gb))) (by rw [pm_up_sw (a := m0 + 2) (b := m0) (by omega), pm_up_up]) ?_
  refine pm_aload_n B dX13_keep_10 rfl ?_
  refine pm_get B dX13_keep_11 fl_X13_9 ((pm_up_n (by omega)).trans pm_up_s) rfl ?_
  refine pm_stk (st' := [.ref (z + (m0 + 1))]) rfl ?_
  refine pm_iconst (v := 0) B dX13_keep_14 (by decide) ?_
  refine pm_aload_n B dX13_keep_15 rfl ?_
  refine pm_get B dX13_keep_16 fl_X13_13 ((pm_up_n (by omega)).trans pm_up_s) rfl ?_
  refine pm_stk (st' := [.ref (z + (m0 + 2)), .int 0, .ref (z + (m0 + 1))]) rfl ?_
  refine pm_iconst (v := 0) B dX13_keep_19 (by decide) ?_
  refine pm_bipush (v := 91) B dX13_keep_20 (by decide) ?_
  refine pm_acopy B dX13_keep_22 (pm_T_in 1721 (by decide +kernel) (by decide +kernel)) ((pm_up_n (by omega)).trans ((pm_up_n (by omega)).trans hg)) pm_up_s 0 0 91 rfl rfl rfl (by first | decide | omega) (by first | decide | omega) (by first | decide | omega) (by first | decide | omega) rfl rfl ?_
  refine pm_mem (M' := pm_up (pm_up M m0 (pm_mo z m0 (upd (upd f 6 0) 7 0))) (m0 + 2) (.inl (kA 0, 91, .inl (va_cpy g gb 0 0 91)))) pm_up_up ?_
  have hDq1 : (d_X13_keep f g gb) = ((upd (upd f 6 0) 7 0), (va_cpy g gb 0 0 91)) := by rw [d_X13_keep]
  exact pm_return B dX13_keep_25 rfl ⟨rfl, rfl, by rw [hDq1]⟩ rfl rfl
def d_X13_ends (x : Int32) (y : Int32) (k : Nat) (f : Nat → Int32) (g : Nat → Int32) (gb : Nat → Int32) (gp : Nat → Int32) : (Int32 × (Nat → Int32) × (Nat → Int32) × (Nat → Int32)) := if (f 7) ≤ 0 then (if (f 6) ≤ 0 then (if (nI k) = 8 then (x, (upd (upd f 5 (nI (k - 1))) 5 ((nI (k - 1)) + 1)), g, (va_cpy gb (va_cpy gp gp 91 0 637) 0 (91 * (k - 1)) 91)) else (x, (upd f 5 ((nI k) + 1)), g, (va_cpy gb gp 0 (91 * k) 91))) else (0, f, (va_cpy gb g 0 0 91), gp)) else (if (f 6) ≤ 0 then (if (nI k) = 8 then (x, (upd (upd (upd (upd (upd f 9 (f 7)) 10 (f 8)) 11 y) 5 (nI (k - 1))) 5 ((nI (k - 1)) + 1)), g, (va_cpy gb (va_cpy gp gp 91 0 637) 0 (91 * (k - 1)) 91)) else (x, (upd (upd (upd (upd f 9 (f 7)) 10 (f 8)) 11 y) 5 ((nI k) + 1)), g, (va_cpy gb gp 0 (91 * k) 91))) else (0, (upd (upd (upd f 9 (f 7)) 10 (f 8)) 11 y), (va_cpy gb g 0 0 91), gp))
set_option maxRecDepth 100000 in
set_option maxHeartbeats 8000000 in
theorem c_X13_ends {l : Launch} {z : Nat} {D : va_G} {kA : Nat → ClassId} {kE : Nat → Nat} {nx : Nat} {M : pm_M} {x : Int32} {y : Int32} {k : Nat}{m0 : Nat} {f : Nat → Int32} {g : Nat → Int32} {gb : Nat → Int32} {gp : Nat → Int32} (hM : M m0 = some (pm_mo z m0 f)) (hg : M (m0 + 1) = some (.inl (kA 0, 91, .inl g))) (hgb : M (m0 + 2) = some (.inl (kA 0, 91, .inl gb))) (hgp : M (m0 + 4) = some (.inl (kA 0, 728, .inl gp))) (hf5 : f 5 = nI k) (h8 : k ≤ 8) : pm_C l z D kA kE yX13_ends cX13_ends 3 (some .int) 2 0 0 [.ref (z + m0), .int x, .int y] nx M (pm_rt (some (.int ((d_X13_ends x y k f g gb gp).1))) nx (pm_up (pm_up (pm_up M m0 (pm_mo z m0 ((d_X13_ends x y k f g gb gp).2.1))) (m0 + 1) (.inl (kA 0, 91, .inl ((d_X13_ends x y k f g gb gp).2.2.1)))) (m0 + 4) (.inl (kA 0, 728, .inl ((d_X13_ends x y k f g gb gp).2.2.2))))) := by
  refine pm_mk (own := RX13) (nm := "ends") mt_X13_ends rfl rfl rfl rfl fun X B => ?_
  refine pm_loc (L' := [some (.ref (z + m0)), some (.int x), some (.int y)]) rfl ?_
  refine pm_mem (M' := pm_up (pm_up (pm_up M m0 (pm_mo z m0 f)) (m0 + 1) (.inl (kA 0, 91, .inl g))) (m0 + 4) (.inl (kA 0, 728, .inl gp))) (by rw [pm_up_id hM, pm_up_id hg, pm_up_id hgp]) ?_
  refine pm_aload_n B dX13_ends_0 rfl ?_
  refine pm_get B dX13_ends_1 fl_X13_42 ((pm_up_n (by omega)).trans ((pm_up_n (by omega)).trans pm_up_s)) rfl ?_
  refine pm_if_le (tgt := 28) B dX13_ends_4 (by decide) (fun hq1 => ?_) (fun hq1 => ?_)
  · refine pm_aload_n B dX13_ends_28 rfl ?_
    refine pm_get B dX13_ends_29 fl_X13_39 ((pm_up_n (by omega)).trans ((pm_up_n (by omega)).trans pm_up_s)) rfl ?_
    refine pm_if_le (tgt := 52) B dX13_ends_32 (by decide) (fun hq2 => ?_) (fun hq2 => ?_)
    · refine pm_aload_n B dX13_ends_52 rfl ?_
      refine pm_get B dX13_ends_53 fl_X13_63 ((pm_up_n (by omega)).trans ((pm_up_n (by omega)).trans pm_up_s)) rfl ?_
      refine pm_stk (st' := [.int (nI k)]) (by rw [show (f 5) = (nI k) from by rw [hf5]]) ?_
      refine pm_bipush (v := 8) B dX13_ends_56 (by decide) ?_
      refine pm_icmp_ne (tgt := 88) B dX13_ends_58 (by decide) (fun hq3 => ?_) (fun hq3 => ?_)
      · have hk8 : k < 8 := by have h := hq3; rw [show (8 : Int32) = nI 8 from rfl, nI_eq (by omega) (by decide)] at h; omega
        refine pm_aload_n B dX13_ends_88 rfl ?_
        refine pm_get B dX13_ends_89 fl_X13_13 ((pm_up_n (by omega)).trans ((pm_up_n (by omega)).trans pm_up_s)) rfl ?_
        refine pm_iconst (v := 0) B dX13_ends_92 (by decide) ?_
        refine pm_aload_n B dX13_ends_93 rfl ?_
        refine pm_get B dX13_ends_94 fl_X13_19 ((pm_up_n (by omega)).trans ((pm_up_n (by omega)).trans pm_up_s)) rfl ?_
        refine pm_bipush (v := 91) B dX13_ends_97 (by decide) ?_
        refine pm_aload_n B dX13_ends_99 rfl ?_
        refine pm_get B dX13_ends_100 fl_X13_63 ((pm_up_n (by omega)).trans ((pm_up_n (by omega)).trans pm_up_s)) rfl ?_
        refine pm_stk (st' := [.int (nI k), .int 91, .ref (z + (m0 + 4)), .int 0, .ref (z + (m0 + 2))]) (by rw [show (f 5) = (nI k) from by rw [hf5]]) ?_
        refine pm_imul B dX13_ends_103 ?_
        refine pm_bipush (v := 91) B dX13_ends_104 (by decide) ?_
        refine pm_acopy B dX13_ends_106 (pm_T_in 1721 (by decide +kernel) (by decide +kernel)) ((pm_up_n (by omega)).trans ((pm_up_n (by omega)).trans ((pm_up_n (by omega)).trans hgb))) pm_up_s 0 (91 * k) 91 rfl (by rw [show (91 : Int32) = nI 91 from rfl, pk_mul]) rfl (by first | decide | omega) (by first | decide | omega) (by first | decide | omega) (by first | decide | omega) rfl rfl ?_
        refine pm_mem (M' := pm_up (pm_up (pm_up M m0 (pm_mo z m0 f)) (m0 + 1) (.inl (kA 0, 91, .inl g))) (m0 + 4) (.inl (kA 0, 728, .inl (va_cpy gb gp 0 (91 * k) 91)))) pm_up_up ?_
        refine pm_aload_n B dX13_ends_109 rfl ?_
        refine pm_dup B dX13_ends_110 rfl ?_
        refine pm_get B dX13_ends_111 fl_X13_63 ((pm_up_n (by omega)).trans ((pm_up_n (by omega)).trans pm_up_s)) rfl ?_
        refine pm_stk (st' := [.int (nI k), .ref (z + m0)]) (by rw [show (f 5) = (nI k) from by rw [hf5]]) ?_
        refine pm_iconst (v := 1) B dX13_ends_114 (by decide) ?_
        refine pm_iadd B dX13_ends_115 ?_
        refine pm_put B dX13_ends_116 fs_X13_63 ((pm_up_n (by omega)).trans ((pm_up_n (by omega)).trans pm_up_s)) rfl rfl rfl ?_
        refine pm_mem (M' := pm_up (pm_up (pm_up (pm_up M m0 (pm_mo z m0 f)) (m0 + 1) (.inl (kA 0, 91, .inl g))) (m0 + 4) (.inl (kA 0, 728, .inl (va_cpy gb gp 0 (91 * k) 91)))) m0 (pm_mo z m0 (upd f 5 ((nI k) + 1)))) rfl ?_
        refine pm_mem (M' := pm_up (pm_up (pm_up M m0 (pm_mo z m0 (upd f 5 ((nI k) + 1)))) (m0 + 1) (.inl (kA 0, 91, .inl g))) (m0 + 4) (.inl (kA 0, 728, .inl (va_cpy gb gp 0 (91 * k) 91)))) (by rw [pm_up_sw (a := m0 + 4) (b := m0) (by omega), pm_up_sw (a := m0 + 1) (b := m0) (by omega), pm_up_up]) ?_
        refine pm_iload_n B dX13_ends_119 rfl ?_
        have hDq4 : (d_X13_ends x y k f g gb gp) = (x, (upd f 5 ((nI k) + 1)), g, (va_cpy gb gp 0 (91 * k) 91)) := by rw [d_X13_ends, if_pos hq1, if_pos hq2, if_neg hq3]
        exact pm_ireturn B dX13_ends_120 rfl (by first | rfl | (apply pm_nz; first | assumption | decide | exact pm_in01 _ _ _ | simp)) ⟨(by rw [hDq4]), rfl, by rw [hDq4]⟩ rfl rfl
      · have hk8 : k = 8 := (nI_eq (by omega) (by decide)).mp (hq3.trans (show (8 : Int32) = nI 8 from rfl))
        refine pm_aload_n B dX13_ends_61 rfl ?_
        refine pm_get B dX13_ends_62 fl_X13_19 ((pm_up_n (by omega)).trans ((pm_up_n (by omega)).trans pm_up_s)) rfl ?_
        refine pm_bipush (v := 91) B dX13_ends_65 (by decide) ?_
        refine pm_aload_n B dX13_ends_67 rfl ?_
        refine pm_get B dX13_ends_68 fl_X13_19 ((pm_up_n (by omega)).trans ((pm_up_n (by omega)).trans pm_up_s)) rfl ?_
        refine pm_iconst (v := 0) B dX13_ends_71 (by decide) ?_
        refine pm_sipush (v := 637) B dX13_ends_72 (by decide) ?_
        refine pm_acopy B dX13_ends_75 (pm_T_in 1721 (by decide +kernel) (by decide +kernel)) pm_up_s pm_up_s 91 0 637 rfl rfl rfl (by first | decide | omega) (by first | decide | omega) (by first | decide | omega) (by first | decide | omega) rfl rfl ?_
        refine pm_mem (M' := pm_up (pm_up (pm_up M m0 (pm_mo z m0 f)) (m0 + 1) (.inl (kA 0, 91, .inl g))) (m0 + 4) (.inl (kA 0, 728, .inl (va_cpy gp gp 91 0 637)))) pm_up_up ?_
        refine pm_aload_n B dX13_ends_78 rfl ?_
        refine pm_dup B dX13_ends_79 rfl ?_
        refine pm_get B dX13_ends_80 fl_X13_63 ((pm_up_n (by omega)).trans ((pm_up_n (by omega)).trans pm_up_s)) rfl ?_
        refine pm_stk (st' := [.int (nI k), .ref (z + m0)]) (by rw [show (f 5) = (nI k) from by rw [hf5]]) ?_
        refine pm_iconst (v := 1) B dX13_ends_83 (by decide) ?_
        refine pm_isub B dX13_ends_84 ?_
        refine pm_stk (st' := [.int (nI (k - 1)), .ref (z + m0)]) (by rw [show ((nI k) - 1) = (nI (k - 1)) from by rw [hk8]; rfl]) ?_
        refine pm_put B dX13_ends_85 fs_X13_63 ((pm_up_n (by omega)).trans ((pm_up_n (by omega)).trans pm_up_s)) rfl rfl rfl ?_
        refine pm_mem (M' := pm_up (pm_up (pm_up (pm_up M m0 (pm_mo z m0 f)) (m0 + 1) (.inl (kA 0, 91, .inl g))) (m0 + 4) (.inl (kA 0, 728, .inl (va_cpy gp gp 91 0 637)))) m0 (pm_mo z m0 (upd f 5 (nI (k - 1))))) rfl ?_
        refine pm_mem (M' := pm_up (pm_up (pm_up M m0 (pm_mo z m0 (upd f 5 (nI (k - 1))))) (m0 + 1) (.inl (kA 0, 91, .inl g))) (m0 + 4) (.inl (kA 0, 728, .inl (va_cpy gp gp 91 0 637)))) (by rw [pm_up_sw (a := m0 + 4) (b := m0) (by omega), pm_up_sw (a := m0 + 1) (b := m0) (by omega), pm_up_up]) ?_
        refine pm_aload_n B dX13_ends_88 rfl ?_
        refine pm_get B dX13_ends_89 fl_X13_13 ((pm_up_n (by omega)).trans ((pm_up_n (by omega)).trans pm_up_s)) rfl ?_
        refine pm_stk (st' := [.ref (z + (m0 + 2))]) rfl ?_
        refine pm_iconst (v := 0) B dX13_ends_92 (by decide) ?_
        refine pm_aload_n B dX13_ends_93 rfl ?_
        refine pm_get B dX13_ends_94 fl_X13_19 ((pm_up_n (by omega)).trans ((pm_up_n (by omega)).trans pm_up_s)) rfl ?_
        refine pm_stk (st' := [.ref (z + (m0 + 4)), .int 0, .ref (z + (m0 + 2))]) rfl ?_
        refine pm_bipush (v := 91) B dX13_ends_97 (by decide) ?_
        refine pm_aload_n B dX13_ends_99 rfl ?_
        refine pm_get B dX13_ends_100 fl_X13_63 ((pm_up_n (by omega)).trans ((pm_up_n (by omega)).trans pm_up_s)) rfl ?_
        refine pm_stk (st' := [.int (nI (k - 1)), .int 91, .ref (z + (m0 + 4)), .int 0, .ref (z + (m0 + 2))]) rfl ?_
        refine pm_imul B dX13_ends_103 ?_
        refine pm_bipush (v := 91) B dX13_ends_104 (by decide) ?_
        refine pm_acopy B dX13_ends_106 (pm_T_in 1721 (by decide +kernel) (by decide +kernel)) ((pm_up_n (by omega)).trans ((pm_up_n (by omega)).trans ((pm_up_n (by omega)).trans hgb))) pm_up_s 0 (91 * (k - 1)) 91 rfl (by rw [show (91 : Int32) = nI 91 from rfl, pk_mul]) rfl (by first | decide | omega) (by first | decide | omega) (by first | decide | omega) (by first | decide | omega) rfl rfl ?_
        refine pm_mem (M' := pm_up (pm_up (pm_up M m0 (pm_mo z m0 (upd f 5 (nI (k - 1))))) (m0 + 1) (.inl (kA 0, 91, .inl g))) (m0 + 4) (.inl (kA 0, 728, .inl (va_cpy gb (va_cpy gp gp 91 0 637) 0 (91 * (k - 1)) 91)))) pm_up_up ?_
        refine pm_aload_n B dX13_ends_109 rfl ?_
        refine pm_dup B dX13_ends_110 rfl ?_
        refine pm_get B dX13_ends_111 fl_X13_63 ((pm_up_n (by omega)).trans ((pm_up_n (by omega)).trans pm_up_s)) rfl ?_
        refine pm_stk (st' := [.int (nI (k - 1)), .ref (z + m0)]) rfl ?_
        refine pm_iconst (v := 1) B dX13_ends_114 (by decide) ?_
        refine pm_iadd B dX13_ends_115 ?_
        refine pm_put B dX13_ends_116 fs_X13_63 ((pm_up_n (by omega)).trans ((pm_up_n (by omega)).trans pm_up_s)) rfl rfl rfl ?_
        refine pm_mem (M' := pm_up (pm_up (pm_up (pm_up M m0 (pm_mo z m0 (upd f 5 (nI (k - 1))))) (m0 + 1) (.inl (kA 0, 91, .inl g))) (m0 + 4) (.inl (kA 0, 728, .inl (va_cpy gb (va_cpy gp gp 91 0 637) 0 (91 * (k - 1)) 91)))) m0 (pm_mo z m0 (upd (upd f 5 (nI (k - 1))) 5 ((nI (k - 1)) + 1)))) rfl ?_
        refine pm_mem (M' := pm_up (pm_up (pm_up M m0 (pm_mo z m0 (upd (upd f 5 (nI (k - 1))) 5 ((nI (k - 1)) + 1)))) (m0 + 1) (.inl (kA 0, 91, .inl g))) (m0 + 4) (.inl (kA 0, 728, .inl (va_cpy gb (va_cpy gp gp 91 0 637) 0 (91 * (k - 1)) 91)))) (by rw [pm_up_sw (a := m0 + 4) (b := m0) (by omega), pm_up_sw (a := m0 + 1) (b := m0) (by omega), pm_up_up]) ?_
        refine pm_iload_n B dX13_ends_119 rfl ?_
        have hDq5 : (d_X13_ends x y k f g gb gp) = (x, (upd (upd f 5 (nI (k - 1))) 5 ((nI (k - 1)) + 1)), g, (va_cpy gb (va_cpy gp gp 91 0 637) 0 (91 * (k - 1)) 91)) := by rw [d_X13_ends, if_pos hq1, if_pos hq2, if_pos hq3]
        exact pm_ireturn B dX13_ends_120 rfl (by first | rfl | (apply pm_nz; first | assumption | decide | exact pm_in01 _ _ _ | simp)) ⟨(by rw [hDq5]), rfl, by rw [hDq5]⟩ rfl rfl
    · refine pm_aload_n B dX13_ends_35 rfl ?_
      refine pm_get B dX13_ends_36 fl_X13_13 ((pm_up_n (by omega)).trans ((pm_up_n (by omega)).trans pm_up_s)) rfl ?_
      refine pm_iconst (v := 0) B dX13_ends_39 (by decide) ?_
      refine pm_aload_n B dX13_ends_40 rfl ?_
      refine pm_get B dX13_ends_41 fl_X13_9 ((pm_up_n (by omega)).trans ((pm_up_n (by omega)).trans pm_up_s)) rfl ?_
      refine pm_iconst (v := 0) B dX13_ends_44 (by decide) ?_
      refine pm_bipush (v := 91) B dX13_ends_45 (by decide) ?_
      refine pm_acopy B dX13_ends_47 (pm_T_in 1721 (by decide +kernel) (by decide +kernel)) ((pm_up_n (by omega)).trans ((pm_up_n (by omega)).trans ((pm_up_n (by omega)).trans hgb))) ((pm_up_n (by omega)).trans pm_up_s) 0 0 91 rfl rfl rfl (by first | decide | omega) (by first | decide | omega) (by first | decide | omega) (by first | decide | omega) rfl rfl ?_
      refine pm_mem (M' := pm_up (pm_up (pm_up (pm_up M m0 (pm_mo z m0 f)) (m0 + 1) (.inl (kA 0, 91, .inl g))) (m0 + 4) (.inl (kA 0, 728, .inl gp))) (m0 + 1) (.inl (kA 0, 91, .inl (va_cpy gb g 0 0 91)))) rfl ?_
      refine pm_mem (M' := pm_up (pm_up (pm_up M m0 (pm_mo z m0 f)) (m0 + 1) (.inl (kA 0, 91, .inl (va_cpy gb g 0 0 91)))) (m0 + 4) (.inl (kA 0, 728, .inl gp))) (by rw [pm_up_sw (a := m0 + 4) (b := m0 + 1) (by omega), pm_up_up]) ?_
      refine pm_iconst (v := 0) B dX13_ends_50 (by decide) ?_
      have hDq6 : (d_X13_ends x y k f g gb gp) = (0, f, (va_cpy gb g 0 0 91), gp) := by rw [d_X13_ends, if_pos hq1, if_neg hq2]
      exact pm_ireturn B dX13_ends_51 rfl (by first | rfl | (apply pm_nz; first | assumption | decide | exact pm_in01 _ _ _ | simp)) ⟨(by rw [hDq6]), rfl, by rw [hDq6]⟩ rfl rfl
  · refine pm_aload_n B dX13_ends_7 rfl ?_
    refine pm_aload_n B dX13_ends_8 rfl ?_
    refine pm_get B dX13_ends_9 fl_X13_42 ((pm_up_n (by omega)).trans ((pm_up_n (by omega)).trans pm_up_s)) rfl ?_
    refine pm_put B dX13_ends_12 fs_X13_51 ((pm_up_n (by omega)).trans ((pm_up_n (by omega)).trans pm_up_s)) rfl rfl rfl ?_
    refine pm_mem (M' := pm_up (pm_up (pm_up (pm_up M m0 (pm_mo z m0 f)) (m0 + 1) (.inl (kA 0, 91, .inl g))) (m0 + 4) (.inl (kA 0, 728, .inl gp))) m0 (pm_mo z m0 (upd f 9 (f 7)))) rfl ?_
    refine pm_mem (M' := pm_up (pm_up (pm_up M m0 (pm_mo z m0 (upd f 9 (f 7)))) (m0 + 1) (.inl (kA 0, 91, .inl g))) (m0 + 4) (.inl (kA 0, 728, .inl gp))) (by rw [pm_up_sw (a := m0 + 4) (b := m0) (by omega), pm_up_sw (a := m0 + 1) (b := m0) (by omega), pm_up_up]) ?_
    refine pm_aload_n B dX13_ends_15 rfl ?_
    refine pm_aload_n B dX13_ends_16 rfl ?_
    refine pm_get B dX13_ends_17 fl_X13_54 ((pm_up_n (by omega)).trans ((pm_up_n (by omega)).trans pm_up_s)) rfl ?_
    refine pm_stk (st' := [.int (f 8), .ref (z + m0)]) rfl ?_
    refine pm_put B dX13_ends_20 fs_X13_57 ((pm_up_n (by omega)).trans ((pm_up_n (by omega)).trans pm_up_s)) rfl rfl rfl ?_
    refine pm_mem (M' := pm_up (pm_up (pm_up (pm_up M m0 (pm_mo z m0 (upd f 9 (f 7)))) (m0 + 1) (.inl (kA 0, 91, .inl g))) (m0 + 4) (.inl (kA 0, 728, .inl gp))) m0 (pm_mo z m0 (upd (upd f 9 (f 7)) 10 (f 8)))) rfl ?_
    refine pm_mem (M' := pm_up (pm_up (pm_up M m0 (pm_mo z m0 (upd (upd f 9 (f 7)) 10 (f 8)))) (m0 + 1) (.inl (kA 0, 91, .inl g))) (m0 + 4) (.inl (kA 0, 728, .inl gp))) (by rw [pm_up_sw (a := m0 + 4) (b := m0) (by omega), pm_up_sw (a := m0 + 1) (b := m0) (by omega), pm_up_up]) ?_
    refine pm_aload_n B dX13_ends_23 rfl ?_
    refine pm_iload_n B dX13_ends_24 rfl ?_
    refine pm_put B dX13_ends_25 fs_X13_60 ((pm_up_n (by omega)).trans ((pm_up_n (by omega)).trans pm_up_s)) rfl rfl rfl ?_
    refine pm_mem (M' := pm_up (pm_up (pm_up (pm_up M m0 (pm_mo z m0 (upd (upd f 9 (f 7)) 10 (f 8)))) (m0 + 1) (.inl (kA 0, 91, .inl g))) (m0 + 4) (.inl (kA 0, 728, .inl gp))) m0 (pm_mo z m0 (upd (upd (upd f 9 (f 7)) 10 (f 8)) 11 y))) rfl ?_
    refine pm_mem (M' := pm_up (pm_up (pm_up M m0 (pm_mo z m0 (upd (upd (upd f 9 (f 7)) 10 (f 8)) 11 y))) (m0 + 1) (.inl (kA 0, 91, .inl g))) (m0 + 4) (.inl (kA 0, 728, .inl gp))) (by rw [pm_up_sw (a := m0 + 4) (b := m0) (by omega), pm_up_sw (a := m0 + 1) (b := m0) (by omega), pm_up_up]) ?_
    refine pm_aload_n B dX13_ends_28 rfl ?_
    refine pm_get B dX13_ends_29 fl_X13_39 ((pm_up_n (by omega)).trans ((pm_up_n (by omega)).trans pm_up_s)) rfl ?_
    refine pm_stk (st' := [.int (f 6)]) rfl ?_
    refine pm_if_le (tgt := 52) B dX13_ends_32 (by decide) (fun hq7 => ?_) (fun hq7 => ?_)
    · refine pm_aload_n B dX13_ends_52 rfl ?_
      refine pm_get B dX13_ends_53 fl_X13_63 ((pm_up_n (by omega)).trans ((pm_up_n (by omega)).trans pm_up_s)) rfl ?_
      refine pm_stk (st' := [.int (f 5)]) rfl ?_
      refine pm_stk (st' := [.int (nI k)]) (by rw [show (f 5) = (nI k) from by rw [hf5]]) ?_
      refine pm_bipush (v := 8) B dX13_ends_56 (by decide) ?_
      refine pm_icmp_ne (tgt := 88) B dX13_ends_58 (by decide) (fun hq8 => ?_) (fun hq8 => ?_)
      · have hk8 : k < 8 := by have h := hq8; rw [show (8 : Int32) = nI 8 from rfl, nI_eq (by omega) (by decide)] at h; omega
        refine pm_aload_n B dX13_ends_88 rfl ?_
        refine pm_get B dX13_ends_89 fl_X13_13 ((pm_up_n (by omega)).trans ((pm_up_n (by omega)).trans pm_up_s)) rfl ?_
        refine pm_stk (st' := [.ref (z + (m0 + 2))]) rfl ?_
        refine pm_iconst (v := 0) B dX13_ends_92 (by decide) ?_
        refine pm_aload_n B dX13_ends_93 rfl ?_
        refine pm_get B dX13_ends_94 fl_X13_19 ((pm_up_n (by omega)).trans ((pm_up_n (by omega)).trans pm_up_s)) rfl ?_
        refine pm_stk (st' := [.ref (z + (m0 + 4)), .int 0, .ref (z + (m0 + 2))]) rfl ?_
        refine pm_bipush (v := 91) B dX13_ends_97 (by decide) ?_
        refine pm_aload_n B dX13_ends_99 rfl ?_
        refine pm_get B dX13_ends_100 fl_X13_63 ((pm_up_n (by omega)).trans ((pm_up_n (by omega)).trans pm_up_s)) rfl ?_
        refine pm_stk (st' := [.int (f 5), .int 91, .ref (z + (m0 + 4)), .int 0, .ref (z + (m0 + 2))]) rfl ?_
        refine pm_stk (st' := [.int (nI k), .int 91, .ref (z + (m0 + 4)), .int 0, .ref (z + (m0 + 2))]) (by rw [show (f 5) = (nI k) from by rw [hf5]]) ?_
        refine pm_imul B dX13_ends_103 ?_
        refine pm_bipush (v := 91) B dX13_ends_104 (by decide) ?_
        refine pm_acopy B dX13_ends_106 (pm_T_in 1721 (by decide +kernel) (by decide +kernel)) ((pm_up_n (by omega)).trans ((pm_up_n (by omega)).trans ((pm_up_n (by omega)).trans hgb))) pm_up_s 0 (91 * k) 91 rfl (by rw [show (91 : Int32) = nI 91 from rfl, pk_mul]) rfl (by first | decide | omega) (by first | decide | omega) (by first | decide | omega) (by first | decide | omega) rfl rfl ?_
        refine pm_mem (M' := pm_up (pm_up (pm_up M m0 (pm_mo z m0 (upd (upd (upd f 9 (f 7)) 10 (f 8)) 11 y))) (m0 + 1) (.inl (kA 0, 91, .inl g))) (m0 + 4) (.inl (kA 0, 728, .inl (va_cpy gb gp 0 (91 * k) 91)))) pm_up_up ?_
        refine pm_aload_n B dX13_ends_109 rfl ?_
        refine pm_dup B dX13_ends_110 rfl ?_
        refine pm_get B dX13_ends_111 fl_X13_63 ((pm_up_n (by omega)).trans ((pm_up_n (by omega)).trans pm_up_s)) rfl ?_
        refine pm_stk (st' := [.int (f 5), .ref (z + m0)]) rfl ?_
        refine pm_stk (st' := [.int (nI k), .ref (z + m0)]) (by rw [show (f 5) = (nI k) from by rw [hf5]]) ?_
        refine pm_iconst (v := 1) B dX13_ends_114 (by decide) ?_
        refine pm_iadd B dX13_ends_115 ?_
        refine pm_put B dX13_ends_116 fs_X13_63 ((pm_up_n (by omega)).trans ((pm_up_n (by omega)).trans pm_up_s)) rfl rfl rfl ?_
        refine pm_mem (M' := pm_up (pm_up (pm_up (pm_up M m0 (pm_mo z m0 (upd (upd (upd f 9 (f 7)) 10 (f 8)) 11 y))) (m0 + 1) (.inl (kA 0, 91, .inl g))) (m0 + 4) (.inl (kA 0, 728, .inl (va_cpy gb gp 0 (91 * k) 91)))) m0 (pm_mo z m0 (upd (upd (upd (upd f 9 (f 7)) 10 (f 8)) 11 y) 5 ((nI k) + 1)))) rfl ?_
        refine pm_mem (M' := pm_up (pm_up (pm_up M m0 (pm_mo z m0 (upd (upd (upd (upd f 9 (f 7)) 10 (f 8)) 11 y) 5 ((nI k) + 1)))) (m0 + 1) (.inl (kA 0, 91, .inl g))) (m0 + 4) (.inl (kA 0, 728, .inl (va_cpy gb gp 0 (91 * k) 91)))) (by rw [pm_up_sw (a := m0 + 4) (b := m0) (by omega), pm_up_sw (a := m0 + 1) (b := m0) (by omega), pm_up_up]) ?_
        refine pm_iload_n B dX13_ends_119 rfl ?_
        have hDq9 : (d_X13_ends x y k f g gb gp) = (x, (upd (upd (upd (upd f 9 (f 7)) 10 (f 8)) 11 y) 5 ((nI k) + 1)), g, (va_cpy gb gp 0 (91 * k) 91)) := by rw [d_X13_ends, if_neg hq1, if_pos hq7, if_neg hq8]
        exact pm_ireturn B dX13_ends_120 rfl (by first | rfl | (apply pm_nz; first | assumption | decide | exact pm_in01 _ _ _ | simp)) ⟨(by rw [hDq9]), rfl, by rw [hDq9]⟩ rfl rfl
      · have hk8 : k = 8 := (nI_eq (by omega) (by decide)).mp (hq8.trans (show (8 : Int32) = nI 8 from rfl))
        refine pm_aload_n B dX13_ends_61 rfl ?_
        refine pm_get B dX13_ends_62 fl_X13_19 ((pm_up_n (by omega)).trans ((pm_up_n (by omega)).trans pm_up_s)) rfl ?_
        refine pm_stk (st' := [.ref (z + (m0 + 4))]) rfl ?_
        refine pm_bipush (v := 91) B dX13_ends_65 (by decide) ?_
        refine pm_aload_n B dX13_ends_67 rfl ?_
        refine pm_get B dX13_ends_68 fl_X13_19 ((pm_up_n (by omega)).trans ((pm_up_n (by omega)).trans pm_up_s)) rfl ?_
        refine pm_stk (st' := [.ref (z + (m0 + 4)), .int 91, .ref (z + (m0 + 4))]) rfl ?_
        refine pm_iconst (v := 0) B dX13_ends_71 (by decide) ?_
        refine pm_sipush (v := 637) B dX13_ends_72 (by decide) ?_
        refine pm_acopy B dX13_ends_75 (pm_T_in 1721 (by decide +kernel) (by decide +kernel)) pm_up_s pm_up_s 91 0 637 rfl rfl rfl (by first | decide | omega) (by first | decide | omega) (by first | decide | omega) (by first | decide | omega) rfl rfl ?_
        refine pm_mem (M' := pm_up (pm_up (pm_up M m0 (pm_mo z m0 (upd (upd (upd f 9 (f 7)) 10 (f 8)) 11 y))) (m0 + 1) (.inl (kA 0, 91, .inl g))) (m0 + 4) (.inl (kA 0, 728, .inl (va_cpy gp gp 91 0 637)))) pm_up_up ?_
        refine pm_aload_n B dX13_ends_78 rfl ?_
        refine pm_dup B dX13_ends_79 rfl ?_
        refine pm_get B dX13_ends_80 fl_X13_63 ((pm_up_n (by omega)).trans ((pm_up_n (by omega)).trans pm_up_s)) rfl ?_
        refine pm_stk (st' := [.int (f 5), .ref (z + m0)]) rfl ?_
        refine pm_stk (st' := [.int (nI k), .ref (z + m0)]) (by rw [show (f 5) = (nI k) from by rw [hf5]]) ?_
        refine pm_iconst (v := 1) B dX13_ends_83 (by decide) ?_
        refine pm_isub B dX13_ends_84 ?_
        refine pm_stk (st' := [.int (nI (k - 1)), .ref (z + m0)]) (by rw [show ((nI k) - 1) = (nI (k - 1)) from by rw [hk8]; rfl]) ?_
        refine pm_put B dX13_ends_85 fs_X13_63 ((pm_up_n (by omega)).trans ((pm_up_n (by omega)).trans pm_up_s)) rfl rfl rfl ?_
        refine pm_mem (M' := pm_up (pm_up (pm_up (pm_up M m0 (pm_mo z m0 (upd (upd (upd f 9 (f 7)) 10 (f 8)) 11 y))) (m0 + 1) (.inl (kA 0, 91, .inl g))) (m0 + 4) (.inl (kA 0, 728, .inl (va_cpy gp gp 91 0 637)))) m0 (pm_mo z m0 (upd (upd (upd (upd f 9 (f 7)) 10 (f 8)) 11 y) 5 (nI (k - 1))))) rfl ?_
        refine pm_mem (M' := pm_up (pm_up (pm_up M m0 (pm_mo z m0 (upd (upd (upd (upd f 9 (f 7)) 10 (f 8)) 11 y) 5 (nI (k - 1))))) (m0 + 1) (.inl (kA 0, 91, .inl g))) (m0 + 4) (.inl (kA 0, 728, .inl (va_cpy gp gp 91 0 637)))) (by rw [pm_up_sw (a := m0 + 4) (b := m0) (by omega), pm_up_sw (a := m0 + 1) (b := m0) (by omega), pm_up_up]) ?_
        refine pm_aload_n B dX13_ends_88 rfl ?_
        refine pm_get B dX13_ends_89 fl_X13_13 ((pm_up_n (by omega)).trans ((pm_up_n (by omega)).trans pm_up_s)) rfl ?_
        refine pm_stk (st' := [.ref (z + (m0 + 2))]) rfl ?_
        refine pm_iconst (v := 0) B dX13_ends_92 (by decide) ?_
        refine pm_aload_n B dX13_ends_93 rfl ?_
        refine pm_get B dX13_ends_94 fl_X13_19 ((pm_up_n (by omega)).trans ((pm_up_n (by omega)).trans pm_up_s)) rfl ?_
        refine pm_stk (st' := [.ref (z + (m0 + 4)), .int 0, .ref (z + (m0 + 2))]) rfl ?_
        refine pm_bipush (v := 91) B dX13_ends_97 (by decide) ?_
        refine pm_aload_n B dX13_ends_99 rfl ?_
        refine pm_get B dX13_ends_100 fl_X13_63 ((pm_up_n (by omega)).trans ((pm_up_n (by omega)).trans pm_up_s)) rfl ?_
        refine pm_stk (st' := [.int (nI (k - 1)), .int 91, .ref (z + (m0 + 4)), .int 0, .ref (z + (m0 + 2))]) rfl ?_
        refine pm_imul B dX13_ends_103 ?_
        refine pm_bipush (v := 91) B dX13_ends_104 (by decide) ?_
        refine pm_acopy B dX13_ends_106 (pm_T_in 1721 (by decide +kernel) (by decide +kernel)) ((pm_up_n (by omega)).trans ((pm_up_n (by omega)).trans ((pm_up_n (by omega)).trans hgb))) pm_up_s 0 (91 * (k - 1)) 91 rfl (by rw [show (91 : Int32) = nI 91 from rfl, pk_mul]) rfl (by first | decide | omega) (by first | decide | omega) (by first | decide | omega) (by first | decide | omega) rfl rfl ?_
        refine pm_mem (M' := pm_up (pm_up (pm_up M m0 (pm_mo z m0 (upd (upd (upd (upd f 9 (f 7)) 10 (f 8)) 11 y) 5 (nI (k - 1))))) (m0 + 1) (.inl (kA 0, 91, .inl g))) (m0 + 4) (.inl (kA 0, 728, .inl (va_cpy gb (va_cpy gp gp 91 0 637) 0 (91 * (k - 1)) 91)))) pm_up_up ?_
        refine pm_aload_n B dX13_ends_109 rfl ?_
        refine pm_dup B dX13_ends_110 rfl ?_
        refine pm_get B dX13_ends_111 fl_X13_63 ((pm_up_n (by omega)).trans ((pm_up_n (by omega)).trans pm_up_s)) rfl ?_
        refine pm_stk (st' := [.int (nI (k - 1)), .ref (z + m0)]) rfl ?_
        refine pm_iconst (v := 1) B dX13_ends_114 (by decide) ?_
        refine pm_iadd B dX13_ends_115 ?_
        refine pm_put B dX13_ends_116 fs_X13_63 ((pm_up_n (by omega)).trans ((pm_up_n (by omega)).trans pm_up_s)) rfl rfl rfl ?_
        refine pm_mem (M' := pm_up (pm_up (pm_up (pm_up M m0 (pm_mo z m0 (upd (upd (upd (upd f 9 (f 7)) 10 (f 8)) 11 y) 5 (nI (k - 1))))) (m0 + 1) (.inl (kA 0, 91, .inl g))) (m0 + 4) (.inl (kA 0, 728, .inl (va_cpy gb (va_cpy gp gp 91 0 637) 0 (91 * (k - 1)) 91)))) m0 (pm_mo z m0 (upd (upd (upd (upd (upd f 9 (f 7)) 10 (f 8)) 11 y) 5 (nI (k - 1))) 5 ((nI (k - 1)) + 1)))) rfl ?_
        refine pm_mem (M' := pm_up (pm_up (pm_up M m0 (pm_mo z m0 (upd (upd (upd (upd (upd f 9 (f 7)) 10 (f 8)) 11 y) 5 (nI (k - 1))) 5 ((nI (k - 1)) + 1)))) (m0 + 1) (.inl (kA 0, 91, .inl g))) (m0 + 4) (.inl (kA 0, 728, .inl (va_cpy gb (va_cpy gp gp 91 0 637) 0 (91 * (k - 1)) 91)))) (by rw [pm_up_sw (a := m0 + 4) (b := m0) (by omega), pm_up_sw (a := m0 + 1) (b := m0) (by omega), pm_up_up]) ?_
        refine pm_iload_n B dX13_ends_119 rfl ?_
        have hDq10 : (d_X13_ends x y k f g gb gp) = (x, (upd (upd (upd (upd (upd f 9 (f 7)) 10 (f 8)) 11 y) 5 (nI (k - 1))) 5 ((nI (k - 1)) + 1)), g, (va_cpy gb (va_cpy gp gp 91 0 637) 0 (91 * (k - 1)) 91)) := by rw [d_X13_ends, if_neg hq1, if_pos hq7, if_pos hq8]
        exact pm_ireturn B dX13_ends_120 rfl (by first | rfl | (apply pm_nz; first | assumption | decide | exact pm_in01 _ _ _ | simp)) ⟨(by rw [hDq10]), rfl, by rw [hDq10]⟩ rfl rfl
    · refine pm_aload_n B dX13_ends_35 rfl ?_
      refine pm_get B dX13_ends_36 fl_X13_13 ((pm_up_n (by omega)).trans ((pm_up_n (by omega)).trans pm_up_s)) rfl ?_
      refine pm_stk (st' := [.ref (z + (m0 + 2))]) rfl ?_
      refine pm_iconst (v := 0) B dX13_ends_39 (by decide) ?_
      refine pm_aload_n B dX13_ends_40 rfl ?_
      refine pm_get B dX13_ends_41 fl_X13_9 ((pm_up_n (by omega)).trans ((pm_up_n (by omega)).trans pm_up_s)) rfl ?_
      refine pm_stk (st' := [.ref (z + (m0 + 1)), .int 0, .ref (z + (m0 + 2))]) rfl ?_
      refine pm_iconst (v := 0) B dX13_ends_44 (by decide) ?_
      refine pm_bipush (v := 91) B dX13_ends_45 (by decide) ?_
      refine pm_acopy B dX13_ends_47 (pm_T_in 1721 (by decide +kernel) (by decide +kernel)) ((pm_up_n (by omega)).trans ((pm_up_n (by omega)).trans ((pm_up_n (by omega)).trans hgb))) ((pm_up_n (by omega)).trans pm_up_s) 0 0 91 rfl rfl rfl (by first | decide | omega) (by first | decide | omega) (by first | decide | omega) (by first | decide | omega) rfl rfl ?_
      refine pm_mem (M' := pm_up (pm_up (pm_up (pm_up M m0 (pm_mo z m0 (upd (upd (upd f 9 (f 7)) 10 (f 8)) 11 y))) (m0 + 1) (.inl (kA 0, 91, .inl g))) (m0 + 4) (.inl (kA 0, 728, .inl gp))) (m0 + 1) (.inl (kA 0, 91, .inl (va_cpy gb g 0 0 91)))) rfl ?_
      refine pm_mem (M' := pm_up (pm_up (pm_up M m0 (pm_mo z m0 (upd (upd (upd f 9 (f 7)) 10 (f 8)) 11 y))) (m0 + 1) (.inl (kA 0, 91, .inl (va_cpy gb g 0 0 91)))) (m0 + 4) (.inl (kA 0, 728, .inl gp))) (by rw [pm_up_sw (a := m0 + 4) (b := m0 + 1) (by omega), pm_up_up]) ?_
      refine pm_iconst (v := 0) B dX13_ends_50 (by decide) ?_
      have hDq11 : (d_X13_ends x y k f g gb gp) = (0, (upd (upd (upd f 9 (f 7)) 10 (f 8)) 11 y), (va_cpy gb g 0 0 91), gp) := by rw [d_X13_ends, if_neg hq1, if_neg hq7]
      exact pm_ireturn B dX13_ends_51 rfl (by first | rfl | (apply pm_nz; first | assumption | decide | exact pm_in01 _ _ _ | simp)) ⟨(by rw [hDq11]), rfl, by rw [hDq11]⟩ rfl rfl
