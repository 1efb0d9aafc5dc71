/-! ThunderCartelModel: each method as a function -/
theorem pm_in_nx {x : Int32} {n : Nat} (hn : n ≤ 7) (h : ¬ pm_in x 0 (nI n - 1) = 0) : x = nI (pm_n x) ∧ pm_n x < n := by
  obtain ⟨i, hi, rfl⟩ := pm_in_ex hn h
  rw [pm_n_nI (by omega)]
  exact ⟨rfl, hi⟩
def d_X13_keep (f : Nat → Int32) (g : Nat → Int32) (gb : Nat → Int32) : ((Nat → Int32) × (Nat → Int32)) := ((upd (upd f 6 0) 7 0), (va_cpy g gb 0 0 91))
set_option maxRecDepth 100000 in
set_option maxHeartbeats 8000000 in
theorem c_X13_keep {l : Launch} {z : Nat} {D : va_G} {kA : Nat → ClassId} {kE : Nat → Nat} {nx : Nat} {M : pm_M} {m0 : Nat} {f : Nat → Int32} {g : Nat → Int32} {gb : Nat → Int32} (hM : M m0 = some (pm_mo z m0 f)) (hg : M (m0 + 1) = some (.inl (kA 0, 91, .inl g))) (hgb : M (m0 + 2) = some (.inl (kA 0, 91, .inl gb))) : pm_C l z D kA kE yX13_keep cX13_keep 1 none 2 0 0 [.ref (z + m0)] nx M (pm_rt none nx (pm_up (pm_up M m0 (pm_mo z m0 ((d_X13_keep f g gb).1))) (m0 + 2) (.inl (kA 0, 91, .inl ((d_X13_keep f g gb).2))))) := by
  refine pm_mk (own := RX13) (nm := "keep") mt_X13_keep rfl rfl rfl rfl fun X B => ?_
  refine pm_loc (L' := [some (.ref (z + m0))]) rfl ?_
  refine pm_mem (M' := pm_up (pm_up M m0 (pm_mo z m0 f)) (m0 + 2) (.inl (kA 0, 91, .inl gb))) (by rw [pm_up_id hM, pm_up_id hgb]) ?_
  refine pm_aload_n B dX13_keep_0 rfl ?_
  refine pm_iconst (v := 0) B dX13_keep_1 (by decide) ?_
  refine pm_put B dX13_keep_2 fs_X13_39 ((pm_up_n (by omega)).trans pm_up_s) rfl rfl rfl ?_
  refine pm_mem (M' := pm_up (pm_up (pm_up M m0 (pm_mo z m0 f)) (m0 + 2) (.inl (kA 0, 91, .inl gb))) m0 (pm_mo z m0 (upd f 6 0))) rfl ?_
  refine pm_mem (M' := pm_up (pm_up M m0 (pm_mo z m0 (upd f 6 0))) (m0 + 2) (.inl (kA 0, 91, .inl gb))) (by rw [pm_up_sw (a := m0 + 2) (b := m0) (by omega), pm_up_up]) ?_
  refine pm_aload_n B dX13_keep_5 rfl ?_
  refine pm_iconst (v := 0) B dX13_keep_6 (by decide) ?_
  refine pm_put B dX13_keep_7 fs_X13_42 ((pm_up_n (by omega)).trans pm_up_s) rfl rfl rfl ?_
  refine pm_mem (M' := pm_up (pm_up (pm_up M m0 (pm_mo z m0 (upd f 6 0))) (m0 + 2) (.inl (kA 0, 91, .inl gb))) m0 (pm_mo z m0 (upd (upd f 6 0) 7 0))) rfl ?_
  refine pm_mem (M' := pm_up (pm_up M m0 (pm_mo z m0 (upd (upd f 6 0) 7 0))) (m0 + 2) (.inl (kA 0, 91, .inl gb))) (by rw [pm_up_sw (a := m0 + 2) (b := m0) (by omega), pm_up_up]) ?_
  refine pm_aload_n B dX13_keep_10 rfl ?_
  refine pm_get B dX13_keep_11 fl_X13_9 ((pm_up_n (by omega)).trans pm_up_s) rfl ?_
  refine pm_stk (st' := [.ref (z + (m0 + 1))]) rfl ?_
  refine pm_iconst (v := 0) B dX13_keep_14 (by decide) ?_
  refine pm_aload_n B dX13_keep_15 rfl ?_
  refine pm_get B dX13_keep_16 fl_X13_13 ((pm_up_n (by omega)).trans pm_up_s) rfl ?_
  refine pm_stk (st' := [.ref (z + (m0 + 2)), .int 0, .ref (z + (m0 + 1))]) rfl ?_
  refine pm_iconst (v := 0) B dX13_keep_19 (by decide) ?_
  refine pm_bipush (v := 91) B dX13_keep_20 (by decide) ?_
  refine pm_acopy B dX13_keep_22 (pm_T_in 1721 (by decide +kernel) (by decide +kernel)) ((pm_up_n (by omega)).trans ((pm_up_n (by omega)).trans hg)) pm_up_s 0 0 91 rfl rfl rfl (by first | decide | omega) (by first | decide | omega) (by first | decide | omega) (by first | decide | omega) rfl rfl ?_
  refine pm_mem (M' := pm_up (pm_up M m0 (pm_mo z m0 (upd (upd f 6 0) 7 0))) (m0 + 2) (.inl (kA 0, 91, .inl (va_cpy g gb 0 0 91)))) pm_up_up ?_
  have hDq1 : (d_X13_keep f g gb) = ((upd (upd f 6 0) 7 0), (va_cpy g gb 0 0 91)) := by rw [d_X13_keep]
  exact pm_return B dX13_keep_25 rfl ⟨rfl, rfl, by rw [hDq1]⟩ rfl rfl
theorem d_X13_keep_k_f5  (f : Nat → Int32) (g : Nat → Int32) (gb : Nat → Int32) : ((d_X13_keep f g gb).1) 5 = f 5 := by
  unfold d_X13_keep
  (repeat' split) <;> rfl
def d_X13_ends (x : Int32) (y : Int32) (k : Nat) (f : Nat → Int32) (g : Nat → Int32) (gb : Nat → Int32) (gp : Nat → Int32) : (Int32 × (Nat → Int32) × (Nat → Int32) × (Nat → Int32)) := if (f 7) ≤ 0 then (if (f 6) ≤ 0 then (if (nI k) = 8 then (x, (upd (upd f 5 (nI (k - 1))) 5 ((nI (k - 1)) + 1)), g, (va_cpy gb (va_cpy gp gp 91 0 637) 0 (91 * (k - 1)) 91)) else (x, (upd f 5 ((nI k) + 1)), g, (va_cpy gb gp 0 (91 * k) 91))) else (0, f, (va_cpy gb g 0 0 91), gp)) else (if (f 6) ≤ 0 then (if (nI k) = 8 then (x, (upd (upd (upd (upd (upd f 9 (f 7)) 10 (f 8)) 11 y) 5 (nI (k - 1))) 5 ((nI (k - 1)) + 1)), g, (va_cpy gb (va_cpy gp gp 91 0 637) 0 (91 * (k - 1)) 91)) else (x, (upd (upd (upd (upd f 9 (f 7)) 10 (f 8)) 11 y) 5 ((nI k) + 1)), g, (va_cpy gb gp 0 (91 * k) 91))) else (0, (upd (upd (upd f 9 (f 7)) 10 (f 8)) 11 y), (va_cpy gb g 0 0 91), gp))
set_option maxRecDepth 100000 in
set_option maxHeartbeats 8000000 in
theorem c_X13_ends {l : Launch} {z : Nat} {D : va_G} {kA : Nat → ClassId} {kE : Nat → Nat} {nx : Nat} {M : pm_M} {x : Int32} {y : Int32} {k : Nat}{m0 : Nat} {f : Nat → Int32} {g : Nat → Int32} {gb : Nat → Int32} {gp : Nat → Int32} (hM : M m0 = some (pm_mo z m0 f)) (hg : M (m0 + 1) = some (.inl (kA 0, 91, .inl g))) (hgb : M (m0 + 2) = some (.inl (kA 0, 91, .inl gb))) (hgp : M (m0 + 4) = some (.inl (kA 0, 728, .inl gp))) (hf5 : f 5 = nI k) (h8 : k ≤ 8) : pm_C l z D kA kE yX13_ends cX13_ends 3 (some .int) 2 0 0 [.ref (z + m0), .int x, .int y] nx M (pm_rt (some (.int ((d_X13_ends x y k f g gb gp).1))) nx (pm_up (pm_up (pm_up M m0 (pm_mo z m0 ((d_X13_ends x y k f g gb gp).2.1))) (m0 + 1) (.inl (kA 0, 91, .inl ((d_X13_ends x y k f g gb gp).2.2.1)))) (m0 + 4) (.inl (kA 0, 728, .inl ((d_X13_ends x y k f g gb gp).2.2.2))))) := by
  refine pm_mk (own := RX13) (nm := "ends") mt_X13_ends rfl rfl rfl rfl fun X B => ?_
  refine pm_loc (L' := [some (.ref (z + m0)), some (.int x), some (.int y)]) rfl ?_
  refine pm_mem (M' := pm_up (pm_up (pm_up M m0 (pm_mo z m0 f)) (m0 + 1) (.inl (kA 0, 91, .inl g))) (m0 + 4) (.inl (kA 0, 728, .inl gp))) (by rw [pm_up_id hM, pm_up_id hg, pm_up_id hgp]) ?_
  refine pm_aload_n B dX13_ends_0 rfl ?_
  refine pm_get B dX13_ends_1 fl_X13_42 ((pm_up_n (by omega)).trans ((pm_up_n (by omega)).trans pm_up_s)) rfl ?_
  refine pm_if_le (tgt := 28) B dX13_ends_4 (by decide) (fun hq1 => ?_) (fun hq1 => ?_)
  · refine pm_aload_n B dX13_ends_28 rfl ?_
    refine pm_get B dX13_ends_29 fl_X13_39 ((pm_up_n (by omega)).trans ((pm_up_n (by omega)).trans pm_up_s)) rfl ?_
    refine pm_if_le (tgt := 52) B dX13_ends_32 (by decide) (fun hq2 => ?_) (fun hq2 => ?_)
    · refine pm_aload_n B dX13_ends_52 rfl ?_
      refine pm_get B dX13_ends_53 fl_X13_63 ((pm_up_n (by omega)).trans ((pm_up_n (by omega)).trans pm_up_s)) rfl ?_
      refine pm_stk (st' := [.int (nI k)]) (by rw [show (f 5) = (nI k) from by rw [hf5]]) ?_
      refine pm_bipush (v := 8) B dX13_ends_56 (by decide) ?_
      refine pm_icmp_ne (tgt := 88) B dX13_ends_58 (by decide) (fun hq3 => ?_) (fun hq3 => ?_)
      · have hk8 : k < 8 := by have h := hq3; rw [show (8 : Int32) = nI 8 from rfl, nI_eq (by omega) (by decide)] at h; omega
        refine pm_aload_n B dX13_ends_88 rfl ?_
        refine pm_get B dX13_ends_89 fl_X13_13 ((pm_up_n (by omega)).trans ((pm_up_n (by omega)).trans pm_up_s)) rfl ?_
        refine pm_iconst (v := 0) B dX13_ends_92 (by decide) ?_
        refine pm_aload_n B dX13_ends_93 rfl ?_
        refine pm_get B dX13_ends_94 fl_X13_19 ((pm_up_n (by omega)).trans ((pm_up_n (by omega)).trans pm_up_s)) rfl ?_
        refine pm_bipush (v := 91) B dX13_ends_97 (by decide) ?_
        refine pm_aload_n B dX13_ends_99 rfl ?_
        refine pm_get B dX13_ends_100 fl_X13_63 ((pm_up_n (by omega)).trans ((pm_up_n (by omega)).trans pm_up_s)) rfl ?_
        refine pm_stk (st' := [.int (nI k), .int 91, .ref (z + (m0 + 4)), .int 0, .ref (z + (m0 + 2))]) (by rw [show (f 5) = (nI k) from by rw [hf5]]) ?_
        refine pm_imul B dX13_ends_103 ?_
        refine pm_bipush (v := 91) B dX13_ends_104 (by decide) ?_
        refine pm_acopy B dX13_ends_106 (pm_T_in 1721 (by decide +kernel) (by decide +kernel)) ((pm_up_n (by omega)).trans ((pm_up_n (by omega)).trans ((pm_up_n (by omega)).trans hgb))) pm_up_s 0 (91 * k) 91 rfl (by rw [show (91 : Int32) = nI 91 from rfl, pk_mul]) rfl (by first | decide | omega) (by first | decide | omega) (by first | decide | omega) (by first | decide | omega) rfl rfl ?_
        refine pm_mem (M' := pm_up (pm_up (pm_up M m0 (pm_mo z m0 f)) (m0 + 1) (.inl (kA 0, 91, .inl g))) (m0 + 4) (.inl (kA 0, 728, .inl (va_cpy gb gp 0 (91 * k) 91)))) pm_up_up ?_
        refine pm_aload_n B dX13_ends_109 rfl ?_
        refine pm_dup B dX13_ends_110 rfl ?_
        refine pm_get B dX13_ends_111 fl_X13_63 ((pm_up_n (by omega)).trans ((pm_up_n (by omega)).trans pm_up_s)) rfl ?_
        refine pm_stk (st' := [.int (nI k), .ref (z + m0)]) (by rw [show (f 5) = (nI k) from by rw [hf5]]) ?_
        refine pm_iconst (v := 1) B dX13_ends_114 (by decide) ?_
        refine pm_iadd B dX13_ends_115 ?_
        refine pm_put B dX13_ends_116 fs_X13_63 ((pm_up_n (by omega)).trans ((pm_up_n (by omega)).trans pm_up_s)) rfl rfl rfl ?_
        refine pm_mem (M' := pm_up (pm_up (pm_up (pm_up M m0 (pm_mo z m0 f)) (m0 + 1) (.inl (kA 0, 91, .inl g))) (m0 + 4) (.inl (kA 0, 728, .inl (va_cpy gb gp 0 (91 * k) 91)))) m0 (pm_mo z m0 (upd f 5 ((nI k) + 1)))) rfl ?_
        refine pm_mem (M' := pm_up (pm_up (pm_up M m0 (pm_mo z m0 (upd f 5 ((nI k) + 1)))) (m0 + 1) (.inl (kA 0, 91, .inl g))) (m0 + 4) (.inl (kA 0, 728, .inl (va_cpy gb gp 0 (91 * k) 91)))) (by rw [pm_up_sw (a := m0 + 4) (b := m0) (by omega), pm_up_sw (a := m0 + 1) (b := m0) (by omega), pm_up_up]) ?_
        refine pm_iload_n B dX13_ends_119 rfl ?_
        have hDq4 : (d_X13_ends x y k f g gb gp) = (x, (upd f 5 ((nI k) + 1)), g, (va_cpy gb gp 0 (91 * k) 91)) := by rw [d_X13_ends, if_pos hq1, if_pos hq2, if_neg hq3]
        exact pm_ireturn B dX13_ends_120 rfl (by first | rfl | (apply pm_nz; first | assumption | decide | exact pm_in01 _ _ _ | simp)) ⟨(by rw [hDq4]), rfl, by rw [hDq4]⟩ rfl rfl
      · have hk8 : k = 8 := (nI_eq (by omega) (by decide)).mp (hq3.trans (show (8 : Int32) = nI 8 from rfl))
        refine pm_aload_n B dX13_ends_61 rfl ?_
        refine pm_get B dX13_ends_62 fl_X13_19 ((pm_up_n (by omega)).trans ((pm_up_n (by omega)).trans pm_up_s)) rfl ?_
        refine pm_bipush (v := 91) B dX13_ends_65 (by decide) ?_
        refine pm_aload_n B dX13_ends_67 rfl ?_
        refine pm_get B dX13_ends_68 fl_X13_19 ((pm_up_n (by omega)).trans ((pm_up_n (by omega)).trans pm_up_s)) rfl ?_
        refine pm_iconst (v := 0) B dX13_ends_71 (by decide) ?_
        refine pm_sipush (v := 637) B dX13_ends_72 (by decide) ?_
        refine pm_acopy B dX13_ends_75 (pm_T_in 1721 (by decide +kernel) (by decide +kernel)) pm_up_s pm_up_s 91 0 637 rfl rfl rfl (by first | decide | omega) (by first | decide | omega) (by first | decide | omega) (by first | decide | omega) rfl rfl ?_
        refine pm_mem (M' := pm_up (pm_up (pm_up M m0 (pm_mo z m0 f)) (m0 + 1) (.inl (kA 0, 91, .inl g))) (m0 + 4) (.inl (kA 0, 728, .inl (va_cpy gp gp 91 0 637)))) pm_up_up ?_
        refine pm_aload_n B dX13_ends_78 rfl ?_
        refine pm_dup B dX13_ends_79 rfl ?_
        refine pm_get B dX13_ends_80 fl_X13_63 ((pm_up_n (by omega)).trans ((pm_up_n (by omega)).trans pm_up_s)) rfl ?_
        refine pm_stk (st' := [.int (nI k), .ref (z + m0)]) (by rw [show (f 5) = (nI k) from by rw [hf5]]) ?_
        refine pm_iconst (v := 1) B dX13_ends_83 (by decide) ?_
        refine pm_isub B dX13_ends_84 ?_
        refine pm_stk (st' := [.int (nI (k - 1)), .ref (z + m0)]) (by rw [show ((nI k) - 1) = (nI (k - 1)) from by rw [hk8]; rfl]) ?_
        refine pm_put B dX13_ends_85 fs_X13_63 ((pm_up_n (by omega)).trans ((pm_up_n (by omega)).trans pm_up_s)) rfl rfl rfl ?_
        refine pm_mem (M' := pm_up (pm_up (pm_up (pm_up M m0 (pm_mo z m0 f)) (m0 + 1) (.inl (kA 0, 91, .inl g))) (m0 + 4) (.inl (kA 0, 728, .inl (va_cpy gp gp 91 0 637)))) m0 (pm_mo z m0 (upd f 5 (nI (k - 1))))) rfl ?_
        refine pm_mem (M' := pm_up (pm_up (pm_up M m0 (pm_mo z m0 (upd f 5 (nI (k - 1))))) (m0 + 1) (.inl (kA 0, 91, .inl g))) (m0 + 4) (.inl (kA 0, 728, .inl (va_cpy gp gp 91 0 637)))) (by rw [pm_up_sw (a := m0 + 4) (b := m0) (by omega), pm_up_sw (a := m0 + 1) (b := m0) (by omega), pm_up_up]) ?_
        refine pm_aload_n B dX13_ends_88 rfl ?_
        refine pm_get B dX13_ends_89 fl_X13_13 ((pm_up_n (by omega)).trans ((pm_up_n (by omega)).trans pm_up_s)) rfl ?_
        refine pm_stk (st' := [.ref (z + (m0 + 2))]) rfl ?_
        refine pm_iconst (v := 0) B dX13_ends_92 (by decide) ?_
        refine pm_aload_n B dX13_ends_93 rfl ?_
        refine pm_get B dX13_ends_94 fl_X13_19 ((pm_up_n (by omega)).trans ((pm_up_n (by omega)).trans pm_up_s)) rfl ?_
        refine pm_stk (st' := [.ref (z + (m0 + 4)), .int 0, .ref (z + (m0 + 2))]) rfl ?_
        refine pm_bipush (v := 91) B dX13_ends_97 (by decide) ?_
        refine pm_aload_n B dX13_ends_99 rfl ?_
        refine pm_get B dX13_ends_100 fl_X13_63 ((pm_up_n (by omega)).trans ((pm_up_n (by omega)).trans pm_up_s)) rfl ?_
        refine pm_stk (st' := [.int (nI (k - 1)), .int 91, .ref (z + (m0 + 4)), .int 0, .ref (z + (m0 + 2))]) rfl ?_
        refine pm_imul B dX13_ends_103 ?_
        refine pm_bipush (v := 91) B dX13_ends_104 (by decide) ?_
        refine pm_acopy B dX13_ends_106 (pm_T_in 1721 (by decide +kernel) (by decide +kernel)) ((pm_up_n (by omega)).trans ((pm_up_n (by omega)).trans ((pm_up_n (by omega)).trans hgb))) pm_up_s 0 (91 * (k - 1)) 91 rfl (by rw [show (91 : Int32) = nI 91 from rfl, pk_mul]) rfl (by first | decide | omega) (by first | decide | omega) (by first | decide | omega) (by first | decide | omega) rfl rfl ?_
        refine pm_mem (M' := pm_up (pm_up (pm_up M m0 (pm_mo z m0 (upd f 5 (nI (k - 1))))) (m0 + 1) (.inl (kA 0, 91, .inl g))) (m0 + 4) (.inl (kA 0, 728, .inl (va_cpy gb (va_cpy gp gp 91 0 637) 0 (91 * (k - 1)) 91)))) pm_up_up ?_
        refine pm_aload_n B dX13_ends_109 rfl ?_
        refine pm_dup B dX13_ends_110 rfl ?_
        refine pm_get B dX13_ends_111 fl_X13_63 ((pm_up_n (by omega)).trans ((pm_up_n (by omega)).trans pm_up_s)) rfl ?_
        refine pm_stk (st' := [.int (nI (k - 1)), .ref (z + m0)]) rfl ?_
        refine pm_iconst (v := 1) B dX13_ends_114 (by decide) ?_
        refine pm_iadd B dX13_ends_115 ?_
        refine pm_put B dX13_ends_116 fs_X13_63 ((pm_up_n (by omega)).trans ((pm_up_n (by omega)).trans pm_up_s)) rfl rfl rfl ?_
        refine pm_mem (M' := pm_up (pm_up (pm_up (pm_up M m0 (pm_mo z m0 (upd f 5 (nI (k - 1))))) (m0 + 1) (.inl (kA 0, 91, .inl g))) (m0 + 4) (.inl (kA 0, 728, .inl (va_cpy gb (va_cpy gp gp 91 0 637) 0 (91 * (k - 1)) 91)))) m0 (pm_mo z m0 (upd (upd f 5 (nI (k - 1))) 5 ((nI (k - 1)) + 1)))) rfl ?_
        refine pm_mem (M' := pm_up (pm_up (pm_up M m0 (pm_mo z m0 (upd (upd f 5 (nI (k - 1))) 5 ((nI (k - 1)) + 1)))) (m0 + 1) (.inl (kA 0, 91, .inl g))) (m0 + 4) (.inl (kA 0, 728, .inl (va_cpy gb (va_cpy gp gp 91 0 637) 0 (91 * (k - 1)) 91)))) (by rw [pm_up_sw (a := m0 + 4) (b := m0) (by omega), pm_up_sw (a := m0 + 1) (b := m0) (by omega), pm_up_up]) ?_
        refine pm_iload_n B dX13_ends_119 rfl ?_
        have hDq5 : (d_X13_ends x y k f g gb gp) = (x, (upd (upd f 5 (nI (k - 1))) 5 ((nI (k - 1)) + 1)), g, (va_cpy gb (va_cpy gp gp 91 0 637) 0 (91 * (k - 1)) 91)) := by rw [d_X13_ends, if_pos hq1, if_pos hq2, if_pos hq3]
        exact pm_ireturn B dX13_ends_120 rfl (by first | rfl | (apply pm_nz; first | assumption | decide | exact pm_in01 _ _ _ | simp)) ⟨(by rw [hDq5]), rfl, by rw [hDq5]⟩ rfl rfl
    · refine pm_aload_n B dX13_ends_35 rfl ?_
      refine pm_get B dX13_ends_36 fl_X13_13 ((pm_up_n (by omega)).trans ((pm_up_n (by omega)).trans pm_up_s)) rfl ?_
      refine pm_iconst (v := 0) B dX13_ends_39 (by decide) ?_
      refine pm_aload_n B dX13_ends_40 rfl ?_
      refine pm_get B dX13_ends_41 fl_X13_9 ((pm_up_n (by omega)).trans ((pm_up_n (by omega)).trans pm_up_s)) rfl ?_
      refine pm_iconst (v := 0) B dX13_ends_44 (by decide) ?_
      refine pm_bipush (v := 91) B dX13_ends_45 (by decide) ?_
      refine pm_acopy B dX13_ends_47 (pm_T_in 1721 (by decide +kernel) (by decide +kernel)) ((pm_up_n (by omega)).trans ((pm_up_n (by omega)).trans ((pm_up_n (by omega)).trans hgb))) ((pm_up_n (by omega)).trans pm_up_s) 0 0 91 rfl rfl rfl (by first | decide | omega) (by first | decide | omega) (by first | decide | omega) (by first | decide | omega) rfl rfl ?_
      refine pm_mem (M' := pm_up (pm_up (pm_up (pm_up M m0 (pm_mo z m0 f)) (m0 + 1) (.inl (kA 0, 91, .inl g))) (m0 + 4) (.inl (kA 0, 728, .inl gp))) (m0 + 1) (.inl (kA 0, 91, .inl (va_cpy gb g 0 0 91)))) rfl ?_
      refine pm_mem (M' := pm_up (pm_up (pm_up M m0 (pm_mo z m0 f)) (m0 + 1) (.inl (kA 0, 91, .inl (va_cpy gb g 0 0 91)))) (m0 + 4) (.inl (kA 0, 728, .inl gp))) (by rw [pm_up_sw (a := m0 + 4) (b := m0 + 1) (by omega), pm_up_up]) ?_
      refine pm_iconst (v := 0) B dX13_ends_50 (by decide) ?_
      have hDq6 : (d_X13_ends x y k f g gb gp) = (0, f, (va_cpy gb g 0 0 91), gp) := by rw [d_X13_ends, if_pos hq1, if_neg hq2]
      exact pm_ireturn B dX13_ends_51 rfl (by first | rfl | (apply pm_nz; first | assumption | decide | exact pm_in01 _ _ _ | simp)) ⟨(by rw [hDq6]), rfl, by rw [hDq6]⟩ rfl rfl
  · refine pm_aload_n B dX13_ends_7 rfl ?_
    refine pm_aload_n B dX13_ends_8 rfl ?_
    refine pm_get B dX13_ends_9 fl_X13_42 ((pm_up_n (by omega)).trans ((pm_up_n (by omega)).trans pm_up_s)) rfl ?_
    refine pm_put B dX13_ends_12 fs_X13_51 ((pm_up_n (by omega)).trans ((pm_up_n (by omega)).trans pm_up_s)) rfl rfl rfl ?_
    refine pm_mem (M' := pm_up (pm_up (pm_up (pm_up M m0 (pm_mo z m0 f)) (m0 + 1) (.inl (kA 0, 91, .inl g))) (m0 + 4) (.inl (kA 0, 728, .inl gp))) m0 (pm_mo z m0 (upd f 9 (f 7)))) rfl ?_
    refine pm_mem (M' := pm_up (pm_up (pm_up M m0 (pm_mo z m0 (upd f 9 (f 7)))) (m0 + 1) (.inl (kA 0, 91, .inl g))) (m0 + 4) (.inl (kA 0, 728, .inl gp))) (by rw [pm_up_sw (a := m0 + 4) (b := m0) (by omega), pm_up_sw (a := m0 + 1) (b := m0) (by omega), pm_up_up]) ?_
    refine pm_aload_n B dX13_ends_15 rfl ?_
    refine pm_aload_n B dX13_ends_16 rfl ?_
    refine pm_get B dX13_ends_17 fl_X13_54 ((pm_up_n (by omega)).trans ((pm_up_n (by omega)).trans pm_up_s)) rfl ?_
    refine pm_stk (st' := [.int (f 8), .ref (z + m0)]) rfl ?_
    refine pm_put B dX13_ends_20 fs_X13_57 ((pm_up_n (by omega)).trans ((pm_up_n (by omega)).trans pm_up_s)) rfl rfl rfl ?_
    refine pm_mem (M' := pm_up (pm_up (pm_up (pm_up M m0 (pm_mo z m0 (upd f 9 (f 7)))) (m0 + 1) (.inl (kA 0, 91, .inl g))) (m0 + 4) (.inl (kA 0, 728, .inl gp))) m0 (pm_mo z m0 (upd (upd f 9 (f 7)) 10 (f 8)))) rfl ?_
    refine pm_mem (M' := pm_up (pm_up (pm_up M m0 (pm_mo z m0 (upd (upd f 9 (f 7)) 10 (f 8)))) (m0 + 1) (.inl (kA 0, 91, .inl g))) (m0 + 4) (.inl (kA 0, 728, .inl gp))) (by rw [pm_up_sw (a := m0 + 4) (b := m0) (by omega), pm_up_sw (a := m0 + 1) (b := m0) (by omega), pm_up_up]) ?_
    refine pm_aload_n B dX13_ends_23 rfl ?_
    refine pm_iload_n B dX13_ends_24 rfl ?_
    refine pm_put B dX13_ends_25 fs_X13_60 ((pm_up_n (by omega)).trans ((pm_up_n (by omega)).trans pm_up_s)) rfl rfl rfl ?_
    refine pm_mem (M' := pm_up (pm_up (pm_up (pm_up M m0 (pm_mo z m0 (upd (upd f 9 (f 7)) 10 (f 8)))) (m0 + 1) (.inl (kA 0, 91, .inl g))) (m0 + 4) (.inl (kA 0, 728, .inl gp))) m0 (pm_mo z m0 (upd (upd (upd f 9 (f 7)) 10 (f 8)) 11 y))) rfl ?_
    refine pm_mem (M' := pm_up (pm_up (pm_up M m0 (pm_mo z m0 (upd (upd (upd f 9 (f 7)) 10 (f 8)) 11 y))) (m0 + 1) (.inl (kA 0, 91, .inl g))) (m0 + 4) (.inl (kA 0, 728, .inl gp))) (by rw [pm_up_sw (a := m0 + 4) (b := m0) (by omega), pm_up_sw (a := m0 + 1) (b := m0) (by omega), pm_up_up]) ?_
    refine pm_aload_n B dX13_ends_28 rfl ?_
    refine pm_get B dX13_ends_29 fl_X13_39 ((pm_up_n (by omega)).trans ((pm_up_n (by omega)).trans pm_up_s)) rfl ?_
    refine pm_stk (st' := [.int (f 6)]) rfl ?_
    refine pm_if_le (tgt := 52) B dX13_ends_32 (by decide) (fun hq7 => ?_) (fun hq7 => ?_)
    · refine pm_aload_n B dX13_ends_52 rfl ?_
      refine pm_get B dX13_ends_53 fl_X13_63 ((pm_up_n (by omega)).trans ((pm_up_n (by omega)).trans pm_up_s)) rfl ?_
      refine pm_stk (st' := [.int (f 5)]) rfl ?_
      refine pm_stk (st' := [.int (nI k)]) (by rw [show (f 5) = (nI k) from by rw [hf5]]) ?_
      refine pm_bipush (v := 8) B dX13_ends_56 (by decide) ?_
      refine pm_icmp_ne (tgt := 88) B dX13_ends_58 (by decide) (fun hq8 => ?_) (fun hq8 => ?_)
      · have hk8 : k < 8 := by have h := hq8; rw [show (8 : Int32) = nI 8 from rfl, nI_eq (by omega) (by decide)] at h; omega
        refine pm_aload_n B dX13_ends_88 rfl ?_
        refine pm_get B dX13_ends_89 fl_X13_13 ((pm_up_n (by omega)).trans ((pm_up_n (by omega)).trans pm_up_s)) rfl ?_
        refine pm_stk (st' := [.ref (z + (m0 + 2))]) rfl ?_
        refine pm_iconst (v := 0) B dX13_ends_92 (by decide) ?_
        refine pm_aload_n B dX13_ends_93 rfl ?_
        refine pm_get B dX13_ends_94 fl_X13_19 ((pm_up_n (by omega)).trans ((pm_up_n (by omega)).trans pm_up_s)) rfl ?_
        refine pm_stk (st' := [.ref (z + (m0 + 4)), .int 0, .ref (z + (m0 + 2))]) rfl ?_
        refine pm_bipush (v := 91) B dX13_ends_97 (by decide) ?_
        refine pm_aload_n B dX13_ends_99 rfl ?_
        refine pm_get B dX13_ends_100 fl_X13_63 ((pm_up_n (by omega)).trans ((pm_up_n (by omega)).trans pm_up_s)) rfl ?_
        refine pm_stk (st' := [.int (f 5), .int 91, .ref (z + (m0 + 4)), .int 0, .ref (z + (m0 + 2))]) rfl ?_
        refine pm_stk (st' := [.int (nI k), .int 91, .ref (z + (m0 + 4)), .int 0, .ref (z + (m0 + 2))]) (by rw [show (f 5) = (nI k) from by rw [hf5]]) ?_
        refine pm_imul B dX13_ends_103 ?_
        refine pm_bipush (v := 91) B dX13_ends_104 (by decide) ?_
        refine pm_acopy B dX13_ends_106 (pm_T_in 1721 (by decide +kernel) (by decide +kernel)) ((pm_up_n (by omega)).trans ((pm_up_n (by omega)).trans ((pm_up_n (by omega)).trans hgb))) pm_up_s 0 (91 * k) 91 rfl (by rw [show (91 : Int32) = nI 91 from rfl, pk_mul]) rfl (by first | decide | omega) (by first | decide | omega) (by first | decide | omega) (by first | decide | omega) rfl rfl ?_
        refine pm_mem (M' := pm_up (pm_up (pm_up M m0 (pm_mo z m0 (upd (upd (upd f 9 (f 7)) 10 (f 8)) 11 y))) (m0 + 1) (.inl (kA 0, 91, .inl g))) (m0 + 4) (.inl (kA 0, 728, .inl (va_cpy gb gp 0 (91 * k) 91)))) pm_up_up ?_
        refine pm_aload_n B dX13_ends_109 rfl ?_
        refine pm_dup B dX13_ends_110 rfl ?_
        refine pm_get B dX13_ends_111 fl_X13_63 ((pm_up_n (by omega)).trans ((pm_up_n (by omega)).trans pm_up_s)) rfl ?_
        refine pm_stk (st' := [.int (f 5), .ref (z + m0)]) rfl ?_
        refine pm_stk (st' := [.int (nI k), .ref (z + m0)]) (by rw [show (f 5) = (nI k) from by rw [hf5]]) ?_
        refine pm_iconst (v := 1) B dX13_ends_114 (by decide) ?_
        refine pm_iadd B dX13_ends_115 ?_
        refine pm_put B dX13_ends_116 fs_X13_63 ((pm_up_n (by omega)).trans ((pm_up_n (by omega)).trans pm_up_s)) rfl rfl rfl ?_
        refine pm_mem (M' := pm_up (pm_up (pm_up (pm_up M m0 (pm_mo z m0 (upd (upd (upd f 9 (f 7)) 10 (f 8)) 11 y))) (m0 + 1) (.inl (kA 0, 91, .inl g))) (m0 + 4) (.inl (kA 0, 728, .inl (va_cpy gb gp 0 (91 * k) 91)))) m0 (pm_mo z m0 (upd (upd (upd (upd f 9 (f 7)) 10 (f 8)) 11 y) 5 ((nI k) + 1)))) rfl ?_
        refine pm_mem (M' := pm_up (pm_up (pm_up M m0 (pm_mo z m0 (upd (upd (upd (upd f 9 (f 7)) 10 (f 8)) 11 y) 5 ((nI k) + 1)))) (m0 + 1) (.inl (kA 0, 91, .inl g))) (m0 + 4) (.inl (kA 0, 728, .inl (va_cpy gb gp 0 (91 * k) 91)))) (by rw [pm_up_sw (a := m0 + 4) (b := m0) (by omega), pm_up_sw (a := m0 + 1) (b := m0) (by omega), pm_up_up]) ?_
        refine pm_iload_n B dX13_ends_119 rfl ?_
        have hDq9 : (d_X13_ends x y k f g gb gp) = (x, (upd (upd (upd (upd f 9 (f 7)) 10 (f 8)) 11 y) 5 ((nI k) + 1)), g, (va_cpy gb gp 0 (91 * k) 91)) := by rw [d_X13_ends, if_neg hq1, if_pos hq7, if_neg hq8]
        exact pm_ireturn B dX13_ends_120 rfl (by first | rfl | (apply pm_nz; first | assumption | decide | exact pm_in01 _ _ _ | simp)) ⟨(by rw [hDq9]), rfl, by rw [hDq9]⟩ rfl rfl
      · have hk8 : k = 8 := (nI_eq (by omega) (by decide)).mp (hq8.trans (show (8 : Int32) = nI 8 from rfl))
        refine pm_aload_n B dX13_ends_61 rfl ?_
        refine pm_get B dX13_ends_62 fl_X13_19 ((pm_up_n (by omega)).trans ((pm_up_n (by omega)).trans pm_up_s)) rfl ?_
        refine pm_stk (st' := [.ref (z + (m0 + 4))]) rfl ?_
        refine pm_bipush (v := 91) B dX13_ends_65 (by decide) ?_
        refine pm_aload_n B dX13_ends_67 rfl ?_
        refine pm_get B dX13_ends_68 fl_X13_19 ((pm_up_n (by omega)).trans ((pm_up_n (by omega)).trans pm_up_s)) rfl ?_
        refine pm_stk (st' := [.ref (z + (m0 + 4)), .int 91, .ref (z + (m0 + 4))]) rfl ?_
        refine pm_iconst (v := 0) B dX13_ends_71 (by decide) ?_
        refine pm_sipush (v := 637) B dX13_ends_72 (by decide) ?_
        refine pm_acopy B dX13_ends_75 (pm_T_in 1721 (by decide +kernel) (by decide +kernel)) pm_up_s pm_up_s 91 0 637 rfl rfl rfl (by first | decide | omega) (by first | decide | omega) (by first | decide | omega) (by first | decide | omega) rfl rfl ?_
        refine pm_mem (M' := pm_up (pm_up (pm_up M m0 (pm_mo z m0 (upd (upd (upd f 9 (f 7)) 10 (f 8)) 11 y))) (m0 + 1) (.inl (kA 0, 91, .inl g))) (m0 + 4) (.inl (kA 0, 728, .inl (va_cpy gp gp 91 0 637)))) pm_up_up ?_
        refine pm_aload_n B dX13_ends_78 rfl ?_
        refine pm_dup B dX13_ends_79 rfl ?_
        refine pm_get B dX13_ends_80 fl_X13_63 ((pm_up_n (by omega)).trans ((pm_up_n (by omega)).trans pm_up_s)) rfl ?_
        refine pm_stk (st' := [.int (f 5), .ref (z + m0)]) rfl ?_
        refine pm_stk (st' := [.int (nI k), .ref (z + m0)]) (by rw [show (f 5) = (nI k) from by rw [hf5]]) ?_
        refine pm_iconst (v := 1) B dX13_ends_83 (by decide) ?_
        refine pm_isub B dX13_ends_84 ?_
        refine pm_stk (st' := [.int (nI (k - 1)), .ref (z + m0)]) (by rw [show ((nI k) - 1) = (nI (k - 1)) from by rw [hk8]; rfl]) ?_
        refine pm_put B dX13_ends_85 fs_X13_63 ((pm_up_n (by omega)).trans ((pm_up_n (by omega)).trans pm_up_s)) rfl rfl rfl ?_
        refine pm_mem (M' := pm_up (pm_up (pm_up (pm_up M m0 (pm_mo z m0 (upd (upd (upd f 9 (f 7)) 10 (f 8)) 11 y))) (m0 + 1) (.inl (kA 0, 91, .inl g))) (m0 + 4) (.inl (kA 0, 728, .inl (va_cpy gp gp 91 0 637)))) m0 (pm_mo z m0 (upd (upd (upd (upd f 9 (f 7)) 10 (f 8)) 11 y) 5 (nI (k - 1))))) rfl ?_
        refine pm_mem (M' := pm_up (pm_up (pm_up M m0 (pm_mo z m0 (upd (upd (upd (upd f 9 (f 7)) 10 (f 8)) 11 y) 5 (nI (k - 1))))) (m0 + 1) (.inl (kA 0, 91, .inl g))) (m0 + 4) (.inl (kA 0, 728, .inl (va_cpy gp gp 91 0 637)))) (by rw [pm_up_sw (a := m0 + 4) (b := m0) (by omega), pm_up_sw (a := m0 + 1) (b := m0) (by omega), pm_up_up]) ?_
        refine pm_aload_n B dX13_ends_88 rfl ?_
        refine pm_get B dX13_ends_89 fl_X13_13 ((pm_up_n (by omega)).trans ((pm_up_n (by omega)).trans pm_up_s)) rfl ?_
        refine pm_stk (st' := [.ref (z + (m0 + 2))]) rfl ?_
        refine pm_iconst (v := 0) B dX13_ends_92 (by decide) ?_
        refine pm_aload_n B dX13_ends_93 rfl ?_
        refine pm_get B dX13_ends_94 fl_X13_19 ((pm_up_n (by omega)).trans ((pm_up_n (by omega)).trans pm_up_s)) rfl ?_
        refine pm_stk (st' := [.ref (z + (m0 + 4)), .int 0, .ref (z + (m0 + 2))]) rfl ?_
        refine pm_bipush (v := 91) B dX13_ends_97 (by decide) ?_
        refine pm_aload_n B dX13_ends_99 rfl ?_
        refine pm_get B dX13_ends_100 fl_X13_63 ((pm_up_n (by omega)).trans ((pm_up_n (by omega)).trans pm_up_s)) rfl ?_
        refine pm_stk (st' := [.int (nI (k - 1)), .int 91, .ref (z + (m0 + 4)), .int 0, .ref (z + (m0 + 2))]) rfl ?_
        refine pm_imul B dX13_ends_103 ?_
        refine pm_bipush (v := 91) B dX13_ends_104 (by decide) ?_
        refine pm_acopy B dX13_ends_106 (pm_T_in 1721 (by decide +kernel) (by decide +kernel)) ((pm_up_n (by omega)).trans ((pm_up_n (by omega)).trans ((pm_up_n (by omega)).trans hgb))) pm_up_s 0 (91 * (k - 1)) 91 rfl (by rw [show (91 : Int32) = nI 91 from rfl, pk_mul]) rfl (by first | decide | omega) (by first | decide | omega) (by first | decide | omega) (by first | decide | omega) rfl rfl ?_
        refine pm_mem (M' := pm_up (pm_up (pm_up M m0 (pm_mo z m0 (upd (upd (upd (upd f 9 (f 7)) 10 (f 8)) 11 y) 5 (nI (k - 1))))) (m0 + 1) (.inl (kA 0, 91, .inl g))) (m0 + 4) (.inl (kA 0, 728, .inl (va_cpy gb (va_cpy gp gp 91 0 637) 0 (91 * (k - 1)) 91)))) pm_up_up ?_
        refine pm_aload_n B dX13_ends_109 rfl ?_
        refine pm_dup B dX13_ends_110 rfl ?_
        refine pm_get B dX13_ends_111 fl_X13_63 ((pm_up_n (by omega)).trans ((pm_up_n (by omega)).trans pm_up_s)) rfl ?_
        refine pm_stk (st' := [.int (nI (k - 1)), .ref (z + m0)]) rfl ?_
        refine pm_iconst (v := 1) B dX13_ends_114 (by decide) ?_
        refine pm_iadd B dX13_ends_115 ?_
        refine pm_put B dX13_ends_116 fs_X13_63 ((pm_up_n (by omega)).trans ((pm_up_n (by omega)).trans pm_up_s)) rfl rfl rfl ?_
        refine pm_mem (M' := pm_up (pm_up (pm_up (pm_up M m0 (pm_mo z m0 (upd (upd (upd (upd f 9 (f 7)) 10 (f 8)) 11 y) 5 (nI (k - 1))))) (m0 + 1) (.inl (kA 0, 91, .inl g))) (m0 + 4) (.inl (kA 0, 728, .inl (va_cpy gb (va_cpy gp gp 91 0 637) 0 (91 * (k - 1)) 91)))) m0 (pm_mo z m0 (upd (upd (upd (upd (upd f 9 (f 7)) 10 (f 8)) 11 y) 5 (nI (k - 1))) 5 ((nI (k - 1)) + 1)))) rfl ?_
        refine pm_mem (M' := pm_up (pm_up (pm_up M m0 (pm_mo z m0 (upd (upd (upd (upd (upd f 9 (f 7)) 10 (f 8)) 11 y) 5 (nI (k - 1))) 5 ((nI (k - 1)) + 1)))) (m0 + 1) (.inl (kA 0, 91, .inl g))) (m0 + 4) (.inl (kA 0, 728, .inl (va_cpy gb (va_cpy gp gp 91 0 637) 0 (91 * (k - 1)) 91)))) (by rw [pm_up_sw (a := m0 + 4) (b := m0) (by omega), pm_up_sw (a := m0 + 1) (b := m0) (by omega), pm_up_up]) ?_
        refine pm_iload_n B dX13_ends_119 rfl ?_
        have hDq10 : (d_X13_ends x y k f g gb gp) = (x, (upd (upd (upd (upd (upd f 9 (f 7)) 10 (f 8)) 11 y) 5 (nI (k - 1))) 5 ((nI (k - 1)) + 1)), g, (va_cpy gb (va_cpy gp gp 91 0 637) 0 (91 * (k - 1)) 91)) := by rw [d_X13_ends, if_neg hq1, if_pos hq7, if_pos hq8]
        exact pm_ireturn B dX13_ends_120 rfl (by first | rfl | (apply pm_nz; first | assumption | decide | exact pm_in01 _ _ _ | simp)) ⟨(by rw [hDq10]), rfl, by rw [hDq10]⟩ rfl rfl
    · refine pm_aload_n B dX13_ends_35 rfl ?_
      refine pm_get B dX13_ends_36 fl_X13_13 ((pm_up_n (by omega)).trans ((pm_up_n (by omega)).trans pm_up_s)) rfl ?_
      refine pm_stk (st' := [.ref (z + (m0 + 2))]) rfl ?_
      refine pm_iconst (v := 0) B dX13_ends_39 (by decide) ?_
      refine pm_aload_n B dX13_ends_40 rfl ?_
      refine pm_get B dX13_ends_41 fl_X13_9 ((pm_up_n (by omega)).trans ((pm_up_n (by omega)).trans pm_up_s)) rfl ?_
      refine pm_stk (st' := [.ref (z + (m0 + 1)), .int 0, .ref (z + (m0 + 2))]) rfl ?_
      refine pm_iconst (v := 0) B dX13_ends_44 (by decide) ?_
      refine pm_bipush (v := 91) B dX13_ends_45 (by decide) ?_
      refine pm_acopy B dX13_ends_47 (pm_T_in 1721 (by decide +kernel) (by decide +kernel)) ((pm_up_n (by omega)).trans ((pm_up_n (by omega)).trans ((pm_up_n (by omega)).trans hgb))) ((pm_up_n (by omega)).trans pm_up_s) 0 0 91 rfl rfl rfl (by first | decide | omega) (by first | decide | omega) (by first | decide | omega) (by first | decide | omega) rfl rfl ?_
      refine pm_mem (M' := pm_up (pm_up (pm_up (pm_up M m0 (pm_mo z m0 (upd (upd (upd f 9 (f 7)) 10 (f 8)) 11 y))) (m0 + 1) (.inl (kA 0, 91, .inl g))) (m0 + 4) (.inl (kA 0, 728, .inl gp))) (m0 + 1) (.inl (kA 0, 91, .inl (va_cpy gb g 0 0 91)))) rfl ?_
      refine pm_mem (M' := pm_up (pm_up (pm_up M m0 (pm_mo z m0 (upd (upd (upd f 9 (f 7)) 10 (f 8)) 11 y))) (m0 + 1) (.inl (kA 0, 91, .inl (va_cpy gb g 0 0 91)))) (m0 + 4) (.inl (kA 0, 728, .inl gp))) (by rw [pm_up_sw (a := m0 + 4) (b := m0 + 1) (by omega), pm_up_up]) ?_
      refine pm_iconst (v := 0) B dX13_ends_50 (by decide) ?_
      have hDq11 : (d_X13_ends x y k f g gb gp) = (0, (upd (upd (upd f 9 (f 7)) 10 (f 8)) 11 y), (va_cpy gb g 0 0 91), gp) := by rw [d_X13_ends, if_neg hq1, if_neg hq7]
      exact pm_ireturn B dX13_ends_51 rfl (by first | rfl | (apply pm_nz; first | assumption | decide | exact pm_in01 _ _ _ | simp)) ⟨(by rw [hDq11]), rfl, by rw [hDq11]⟩ rfl rfl
def d_X13_doAddMember (x : Int32) (y : Int32) (n : Nat) (f : Nat → Int32) (g : Nat → Int32) : (Int32 × (Nat → Int32) × (Nat → Int32)) := if (pm_in x 1 99) = 0 then (0, (upd f 6 1), g) else (if (pm_in y 1 20) = 0 then (0, (upd f 6 1), g) else (if (nI n) = 7 then (0, (upd (upd (upd f 7 1) 8 7) 6 2), g) else ((nI n), f, (upd (upd (upd (upd (upd (upd g (7 + 5 * n + 0) x) (7 + 5 * n + 1) y) (7 + 5 * n + 2) 0) (7 + 5 * n + 3) 0) (7 + 5 * n + 4) 0) 0 ((nI n) + 1)))))
set_option maxRecDepth 100000 in
set_option maxHeartbeats 8000000 in
theorem c_X13_doAddMember {l : Launch} {z : Nat} {D : va_G} {kA : Nat → ClassId} {kE : Nat → Nat} {nx : Nat} {M : pm_M} {x : Int32} {y : Int32} {n : Nat}{m0 : Nat} {f : Nat → Int32} {g : Nat → Int32} (hM : M m0 = some (pm_mo z m0 f)) (hg : M (m0 + 1) = some (.inl (kA 0, 91, .inl g))) (hn : g 0 = nI n) (h7 : n ≤ 7) : pm_C l z D kA kE yX13_doAddMember cX13_doAddMember 4 (some .int) 2 0 0 [.ref (z + m0), .int x, .int y] nx M (pm_rt (some (.int ((d_X13_doAddMember x y n f g).1))) nx (pm_up (pm_up M m0 (pm_mo z m0 ((d_X13_doAddMember x y n f g).2.1))) (m0 + 1) (.inl (kA 0, 91, .inl ((d_X13_doAddMember x y n f g).2.2))))) := by
  refine pm_mk (own := RX13) (nm := "doAddMember") mt_X13_doAddMember rfl rfl rfl rfl fun X B => ?_
  refine pm_loc (L' := [some (.ref (z + m0)), some (.int x), some (.int y), none]) rfl ?_
  refine pm_mem (M' := pm_up (pm_up M m0 (pm_mo z m0 f)) (m0 + 1) (.inl (kA 0, 91, .inl g))) (by rw [pm_up_id hM, pm_up_id hg]) ?_
  refine pm_aload_n B dX13_doAddMember_0 rfl ?_
  refine pm_get B dX13_doAddMember_1 fl_X13_9 ((pm_up_n (by omega)).trans pm_up_s) rfl ?_
  refine pm_iconst (v := 0) B dX13_doAddMember_4 (by decide) ?_
  refine pm_iald_n B dX13_doAddMember_5 pm_up_s 0 (by decide) (by decide) ?_
  refine pm_stk (st' := [.int (nI n)]) (by rw [show (g 0) = (nI n) from by rw [hn]]) ?_
  refine pm_istore_n B dX13_doAddMember_6 rfl rfl ?_
  refine pm_loc (L' := [some (.ref (z + m0)), some (.int x), some (.int y), some (.int (nI n))]) rfl ?_
  refine pm_iload_n B dX13_doAddMember_7 rfl ?_
  refine pm_iconst (v := 1) B dX13_doAddMember_8 (by decide) ?_
  refine pm_bipush (v := 99) B dX13_doAddMember_9 (by decide) ?_
  refine pm_cS (As := [.int x, .int 1, .int 99]) (mc2 := 0) (ms2 := 0) B c_X13_in mt_X13_in ss_X13_70 dX13_doAddMember_11 rfl rfl rfl rfl rfl ?_
  refine pm_stk (st' := [.int (pm_in x 1 99)]) rfl ?_
  refine pm_if_eq (tgt := 27) B dX13_doAddMember_14 (by decide) (fun hq1 => ?_) (fun hq1 => ?_)
  · refine pm_aload_n B dX13_doAddMember_27 rfl ?_
    refine pm_iconst (v := 1) B dX13_doAddMember_28 (by decide) ?_
    refine pm_cV (As := [.int 1]) (mc2 := 0) (ms2 := 0) B rfl ((pm_up_n (by omega)).trans pm_up_s) rfl (c_X13_fails (f := f) ((pm_up_n (by omega)).trans pm_up_s)) mt_X13_fails sv_X13_66 dX13_doAddMember_29 rfl rfl rfl rfl rfl ?_
    refine pm_mem (M' := pm_up (pm_up (pm_up M m0 (pm_mo z m0 f)) (m0 + 1) (.inl (kA 0, 91, .inl g))) m0 (pm_mo z m0 (upd f 6 1))) rfl ?_
    refine pm_mem (M' := pm_up (pm_up M m0 (pm_mo z m0 (upd f 6 1))) (m0 + 1) (.inl (kA 0, 91, .inl g))) (by rw [pm_up_sw (a := m0 + 1) (b := m0) (by omega), pm_up_up]) ?_
    refine pm_stk (st' := [.int 0]) rfl ?_
    have hDq2 : (d_X13_doAddMember x y n f g) = (0, (upd f 6 1), g) := by rw [d_X13_doAddMember, if_pos hq1]
    exact pm_ireturn B dX13_doAddMember_32 rfl (by first | rfl | (apply pm_nz; first | assumption | decide | exact pm_in01 _ _ _ | simp)) ⟨(by rw [hDq2]), rfl, by rw [hDq2]⟩ rfl rfl
  · refine pm_iload_n B dX13_doAddMember_17 rfl ?_
    refine pm_iconst (v := 1) B dX13_doAddMember_18 (by decide) ?_
    refine pm_bipush (v := 20) B dX13_doAddMember_19 (by decide) ?_
    refine pm_cS (As := [.int y, .int 1, .int 20]) (mc2 := 0) (ms2 := 0) B c_X13_in mt_X13_in ss_X13_70 dX13_doAddMember_21 rfl rfl rfl rfl rfl ?_
    refine pm_stk (st' := [.int (pm_in y 1 20)]) rfl ?_
    refine pm_if_ne (tgt := 33) B dX13_doAddMember_24 (by decide) (fun hq3 => ?_) (fun hq3 => ?_)
    · refine pm_iload_n B dX13_doAddMember_33 rfl ?_
      refine pm_bipush (v := 7) B dX13_doAddMember_34 (by decide) ?_
      refine pm_icmp_ne (tgt := 48) B dX13_doAddMember_36 (by decide) (fun hq4 => ?_) (fun hq4 => ?_)
      · have hn7 : n < 7 := by have h := hq4; rw [show (7 : Int32) = nI 7 from rfl, nI_eq (by omega) (by decide)] at h; omega
        refine pm_aload_n B dX13_doAddMember_48 rfl ?_
        refine pm_iload_n B dX13_doAddMember_49 rfl ?_
        refine pm_iconst (v := 0) B dX13_doAddMember_50 (by decide) ?_
        refine pm_iload_n B dX13_doAddMember_51 rfl ?_
        refine pm_cV (As := [.int (nI n), .int (nI 0), .int x]) (mc2 := 0) (ms2 := 0) B rfl ((pm_up_n (by omega)).trans pm_up_s) rfl (c_X13_sets (f := f) ((pm_up_n (by omega)).trans pm_up_s) pm_up_s (i := n) (w := 0) (by first | assumption | omega) (by first | assumption | omega)) mt_X13_sets sv_X13_87 dX13_doAddMember_52 rfl rfl rfl rfl rfl ?_
        refine pm_mem (M' := pm_up (pm_up M m0 (pm_mo z m0 f)) (m0 + 1) (.inl (kA 0, 91, .inl (upd g (7 + 5 * n + 0) x)))) pm_up_up ?_
        refine pm_stk (st' := []) rfl ?_
        refine pm_aload_n B dX13_doAddMember_55 rfl ?_
        refine pm_iload_n B dX13_doAddMember_56 rfl ?_
        refine pm_iconst (v := 1) B dX13_doAddMember_57 (by decide) ?_
        refine pm_iload_n B dX13_doAddMember_58 rfl ?_
        refine pm_cV (As := [.int (nI n), .int (nI 1), .int y]) (mc2 := 0) (ms2 := 0) B rfl ((pm_up_n (by omega)).trans pm_up_s) rfl (c_X13_sets (f := f) ((pm_up_n (by omega)).trans pm_up_s) pm_up_s (i := n) (w := 1) (by first | assumption | omega) (by first | assumption | omega)) mt_X13_sets sv_X13_87 dX13_doAddMember_59 rfl rfl rfl rfl rfl ?_
        refine pm_mem (M' := pm_up (pm_up M m0 (pm_mo z m0 f)) (m0 + 1) (.inl (kA 0, 91, .inl (upd (upd g (7 + 5 * n + 0) x) (7 + 5 * n + 1) y)))) pm_up_up ?_
        refine pm_stk (st' := []) rfl ?_
        refine pm_aload_n B dX13_doAddMember_62 rfl ?_
        refine pm_iload_n B dX13_doAddMember_63 rfl ?_
        refine pm_iconst (v := 2) B dX13_doAddMember_64 (by decide) ?_
        refine pm_iconst (v := 0) B dX13_doAddMember_65 (by decide) ?_
        refine pm_cV (As := [.int (nI n), .int (nI 2), .int 0]) (mc2 := 0) (ms2 := 0) B rfl ((pm_up_n (by omega)).trans pm_up_s) rfl (c_X13_sets (f := f) ((pm_up_n (by omega)).trans pm_up_s) pm_up_s (i := n) (w := 2) (by first | assumption | omega) (by first | assumption | omega)) mt_X13_sets sv_X13_87 dX13_doAddMember_66 rfl rfl rfl rfl rfl ?_
        refine pm_mem (M' := pm_up (pm_up M m0 (pm_mo z m0 f)) (m0 + 1) (.inl (kA 0, 91, .inl (upd (upd (upd g (7 + 5 * n + 0) x) (7 + 5 * n + 1) y) (7 + 5 * n + 2) 0)))) pm_up_up ?_
        refine pm_stk (st' := []) rfl ?_
        refine pm_aload_n B dX13_doAddMember_69 rfl ?_
        refine pm_iload_n B dX13_doAddMember_70 rfl ?_
        refine pm_iconst (v := 3) B dX13_doAddMember_71 (by decide) ?_
        refine pm_iconst (v := 0) B dX13_doAddMember_72 (by decide) ?_
        refine pm_cV (As := [.int (nI n), .int (nI 3), .int 0]) (mc2 := 0) (ms2 := 0) B rfl ((pm_up_n (by omega)).trans pm_up_s) rfl (c_X13_sets (f := f) ((pm_up_n (by omega)).trans pm_up_s) pm_up_s (i := n) (w := 3) (by first | assumption | omega) (by first | assumption | omega)) mt_X13_sets sv_X13_87 dX13_doAddMember_73 rfl rfl rfl rfl rfl ?_
        refine pm_mem (M' := pm_up (pm_up M m0 (pm_mo z m0 f)) (m0 + 1) (.inl (kA 0, 91, .inl (upd (upd (upd (upd g (7 + 5 * n + 0) x) (7 + 5 * n + 1) y) (7 + 5 * n + 2) 0) (7 + 5 * n + 3) 0)))) pm_up_up ?_
        refine pm_stk (st' := []) rfl ?_
        refine pm_aload_n B dX13_doAddMember_76 rfl ?_
        refine pm_iload_n B dX13_doAddMember_77 rfl ?_
        refine pm_iconst (v := 4) B dX13_doAddMember_78 (by decide) ?_
        refine pm_iconst (v := 0) B dX13_doAddMember_79 (by decide) ?_
        refine pm_cV (As := [.int (nI n), .int (nI 4), .int 0]) (mc2 := 0) (ms2 := 0) B rfl ((pm_up_n (by omega)).trans pm_up_s) rfl (c_X13_sets (f := f) ((pm_up_n (by omega)).trans pm_up_s) pm_up_s (i := n) (w := 4) (by first | assumption | omega) (by first | assumption | omega)) mt_X13_sets sv_X13_87 dX13_doAddMember_80 rfl rfl rfl rfl rfl ?_
        refine pm_mem (M' := pm_up (pm_up M m0 (pm_mo z m0 f)) (m0 + 1) (.inl (kA 0, 91, .inl (upd (upd (upd (upd (upd g (7 + 5 * n + 0) x) (7 + 5 * n + 1) y) (7 + 5 * n + 2) 0) (7 + 5 * n + 3) 0) (7 + 5 * n + 4) 0)))) pm_up_up ?_
        refine pm_stk (st' := []) rfl ?_
        refine pm_aload_n B dX13_doAddMember_83 rfl ?_
        refine pm_get B dX13_doAddMember_84 fl_X13_9 ((pm_up_n (by omega)).trans pm_up_s) rfl ?_
        refine pm_iconst (v := 0) B dX13_doAddMember_87 (by decide) ?_
        refine pm_dup2 B dX13_doAddMember_88 rfl rfl ?_
        refine pm_iald_n B dX13_doAddMember_89 pm_up_s 0 (by decide) (by decide) ?_
        refine pm_stk (st' := [.int (nI n), .int 0, .ref (z + (m0 + 1))]) (by rw [show ((upd (upd (upd (upd (upd g (7 + 5 * n + 0) x) (7 + 5 * n + 1) y) (7 + 5 * n + 2) 0) (7 + 5 * n + 3) 0) (7 + 5 * n + 4) 0) 0) = (nI n) from by rw [pk_un (show 0 ≠ 7 + 5 * n + 4 from (by omega)), pk_un (show 0 ≠ 7 + 5 * n + 3 from (by omega)), pk_un (show 0 ≠ 7 + 5 * n + 2 from (by omega)), pk_un (show 0 ≠ 7 + 5 * n + 1 from (by omega)), pk_un (show 0 ≠ 7 + 5 * n + 0 from (by omega)), hn]]) ?_
        refine pm_iconst (v := 1) B dX13_doAddMember_90 (by decide) ?_
        refine pm_iadd B dX13_doAddMember_91 ?_
        refine pm_iast_n B dX13_doAddMember_92 pm_up_s 0 (by decide) (by decide) ?_
        refine pm_mem (M' := pm_up (pm_up M m0 (pm_mo z m0 f)) (m0 + 1) (.inl (kA 0, 91, .inl (upd (upd (upd (upd (upd (upd g (7 + 5 * n + 0) x) (7 + 5 * n + 1) y) (7 + 5 * n + 2) 0) (7 + 5 * n + 3) 0) (7 + 5 * n + 4) 0) 0 ((nI n) + 1))))) pm_up_up ?_
        refine pm_iload_n B dX13_doAddMember_93 rfl ?_
        have hDq5 : (d_X13_doAddMember x y n f g) = ((nI n), f, (upd (upd (upd (upd (upd (upd g (7 + 5 * n + 0) x) (7 + 5 * n + 1) y) (7 + 5 * n + 2) 0) (7 + 5 * n + 3) 0) (7 + 5 * n + 4) 0) 0 ((nI n) + 1))) := by rw [d_X13_doAddMember, if_neg hq1, if_neg hq3, if_neg hq4]
        exact pm_ireturn B dX13_doAddMember_94 rfl (by first | rfl | (apply pm_nz; first | assumption | decide | exact pm_in01 _ _ _ | simp)) ⟨(by rw [hDq5]), rfl, by rw [hDq5]⟩ rfl rfl
      · refine pm_aload_n B dX13_doAddMember_39 rfl ?_
        refine pm_iconst (v := 2) B dX13_doAddMember_40 (by decide) ?_
        refine pm_iconst (v := 1) B dX13_doAddMember_41 (by decide) ?_
        refine pm_bipush (v := 7) B dX13_doAddMember_42 (by decide) ?_
        refine pm_cV (As := [.int 2, .int 1, .int 7]) (mc2 := 0) (ms2 := 0) B rfl ((pm_up_n (by omega)).trans pm_up_s) rfl (c_X13_denies (f := f) ((pm_up_n (by omega)).trans pm_up_s)) mt_X13_denies sv_X13_83 dX13_doAddMember_44 rfl rfl rfl rfl rfl ?_
        refine pm_mem (M' := pm_up (pm_up (pm_up M m0 (pm_mo z m0 f)) (m0 + 1) (.inl (kA 0, 91, .inl g))) m0 (pm_mo z m0 (upd (upd (upd f 7 1) 8 7) 6 2))) rfl ?_
        refine pm_mem (M' := pm_up (pm_up M m0 (pm_mo z m0 (upd (upd (upd f 7 1) 8 7) 6 2))) (m0 + 1) (.inl (kA 0, 91, .inl g))) (by rw [pm_up_sw (a := m0 + 1) (b := m0) (by omega), pm_up_up]) ?_
        refine pm_stk (st' := [.int 0]) rfl ?_
        have hDq6 : (d_X13_doAddMember x y n f g) = (0, (upd (upd (upd f 7 1) 8 7) 6 2), g) := by rw [d_X13_doAddMember, if_neg hq1, if_neg hq3, if_pos hq4]
        exact pm_ireturn B dX13_doAddMember_47 rfl (by first | rfl | (apply pm_nz; first | assumption | decide | exact pm_in01 _ _ _ | simp)) ⟨(by rw [hDq6]), rfl, by rw [hDq6]⟩ rfl rfl
    · refine pm_aload_n B dX13_doAddMember_27 rfl ?_
      refine pm_iconst (v := 1) B dX13_doAddMember_28 (by decide) ?_
      refine pm_cV (As := [.int 1]) (mc2 := 0) (ms2 := 0) B rfl ((pm_up_n (by omega)).trans pm_up_s) rfl (c_X13_fails (f := f) ((pm_up_n (by omega)).trans pm_up_s)) mt_X13_fails sv_X13_66 dX13_doAddMember_29 rfl rfl rfl rfl rfl ?_
      refine pm_mem (M' := pm_up (pm_up (pm_up M m0 (pm_mo z m0 f)) (m0 + 1) (.inl (kA 0, 91, .inl g))) m0 (pm_mo z m0 (upd f 6 1))) rfl ?_
      refine pm_mem (M' := pm_up (pm_up M m0 (pm_mo z m0 (upd f 6 1))) (m0 + 1) (.inl (kA 0, 91, .inl g))) (by rw [pm_up_sw (a := m0 + 1) (b := m0) (by omega), pm_up_up]) ?_
      refine pm_stk (st' := [.int 0]) rfl ?_
      have hDq7 : (d_X13_doAddMember x y n f g) = (0, (upd f 6 1), g) := by rw [d_X13_doAddMember, if_neg hq1, if_pos hq3]
      exact pm_ireturn B dX13_doAddMember_32 rfl (by first | rfl | (apply pm_nz; first | assumption | decide | exact pm_in01 _ _ _ | simp)) ⟨(by rw [hDq7]), rfl, by rw [hDq7]⟩ rfl rfl
theorem d_X13_doAddMember_k_f5 (x : Int32) (y : Int32) (n : Nat) (f : Nat → Int32) (g : Nat → Int32) : ((d_X13_doAddMember x y n f g).2.1) 5 = f 5 := by
  unfold d_X13_doAddMember
  (repeat' split) <;> rfl
def d_X13_addMember (x : Int32) (y : Int32) (n : Nat) (k : Nat) (f : Nat → Int32) (g : Nat → Int32) (gb : Nat → Int32) (gp : Nat → Int32) : (Int32 × (Nat → Int32) × (Nat → Int32) × (Nat → Int32) × (Nat → Int32)) := (((d_X13_ends ((d_X13_doAddMember x y n ((d_X13_keep f g gb).1) g).1) 0 k ((d_X13_doAddMember x y n ((d_X13_keep f g gb).1) g).2.1) ((d_X13_doAddMember x y n ((d_X13_keep f g gb).1) g).2.2) ((d_X13_keep f g gb).2) gp).1), ((d_X13_ends ((d_X13_doAddMember x y n ((d_X13_keep f g gb).1) g).1) 0 k ((d_X13_doAddMember x y n ((d_X13_keep f g gb).1) g).2.1) ((d_X13_doAddMember x y n ((d_X13_keep f g gb).1) g).2.2) ((d_X13_keep f g gb).2) gp).2.1), ((d_X13_ends ((d_X13_doAddMember x y n ((d_X13_keep f g gb).1) g).1) 0 k ((d_X13_doAddMember x y n ((d_X13_keep f g gb).1) g).2.1) ((d_X13_doAddMember x y n ((d_X13_keep f g gb).1) g).2.2) ((d_X13_keep f g gb).2) gp).2.2.1), ((d_X13_keep f g gb).2), ((d_X13_ends ((d_X13_doAddMember x y n ((d_X13_keep f g gb).1) g).1) 0 k ((d_X13_doAddMember x y n ((d_X13_keep f g gb).1) g).2.1) ((d_X13_doAddMember x y n ((d_X13_keep f g gb).1) g).2.2) ((d_X13_keep f g gb).2) gp).2.2.2))
set_option maxRecDepth 100000 in
set_option maxHeartbeats 8000000 in
theorem c_X13_addMember {l : Launch} {z : Nat} {D : va_G} {kA : Nat → ClassId} {kE : Nat → Nat} {nx : Nat} {M : pm_M} {x : Int32} {y : Int32} {n : Nat} {k : Nat}{m0 : Nat} {f : Nat → Int32} {g : Nat → Int32} {gb : Nat → Int32} {gp : Nat → Int32} (hM : M m0 = some (pm_mo z m0 f)) (hg : M (m0 + 1) = some (.inl (kA 0, 91, .inl g))) (hgb : M (m0 + 2) = some (.inl (kA 0, 91, .inl gb))) (hgp : M (m0 + 4) = some (.inl (kA 0, 728, .inl gp))) (hn : g 0 = nI n) (h7 : n ≤ 7) (hf5 : f 5 = nI k) (h8 : k ≤ 8) : pm_C l z D kA kE yX13_addMember cX13_addMember 3 (some .int) 3 0 0 [.ref (z + m0), .int x, .int y] nx M (pm_rt (some (.int ((d_X13_addMember x y n k f g gb gp).1))) nx (pm_up (pm_up (pm_up (pm_up M m0 (pm_mo z m0 ((d_X13_addMember x y n k f g gb gp).2.1))) (m0 + 1) (.inl (kA 0, 91, .inl ((d_X13_addMember x y n k f g gb gp).2.2.1)))) (m0 + 2) (.inl (kA 0, 91, .inl ((d_X13_addMember x y n k f g gb gp).2.2.2.1)))) (m0 + 4) (.inl (kA 0, 728, .inl ((d_X13_addMember x y n k f g gb gp).2.2.2.2))))) := by
  refine pm_mk (own := RX13) (nm := "addMember") mt_X13_addMember rfl rfl rfl rfl fun X B => ?_
  refine pm_loc (L' := [some (.ref (z + m0)), some (.int x), some (.int y)]) rfl ?_
  refine pm_mem (M' := pm_up (pm_up (pm_up (pm_up M m0 (pm_mo z m0 f)) (m0 + 1) (.inl (kA 0, 91, .inl g))) (m0 + 2) (.inl (kA 0, 91, .inl gb))) (m0 + 4) (.inl (kA 0, 728, .inl gp))) (by rw [pm_up_id hM, pm_up_id hg, pm_up_id hgb, pm_up_id hgp]) ?_
  refine pm_aload_n B dX13_addMember_0 rfl ?_
  refine pm_cV (As := []) (mc2 := 0) (ms2 := 0) B rfl ((pm_up_n (by omega)).trans ((pm_up_n (by omega)).trans ((pm_up_n (by omega)).trans pm_up_s))) rfl (c_X13_keep (f := f) (g := g) (gb := gb) ((pm_up_n (by omega)).trans ((pm_up_n (by omega)).trans ((pm_up_n (by omega)).trans pm_up_s))) ((pm_up_n (by omega)).trans ((pm_up_n (by omega)).trans pm_up_s)) ((pm_up_n (by omega)).trans pm_up_s) ) mt_X13_keep sv_X13_91 dX13_addMember_1 rfl rfl rfl rfl rfl ?_
  refine pm_mem (M' := pm_up (pm_up (pm_up (pm_up (pm_up (pm_up M m0 (pm_mo z m0 f)) (m0 + 1) (.inl (kA 0, 91, .inl g))) (m0 + 2) (.inl (kA 0, 91, .inl gb))) (m0 + 4) (.inl (kA 0, 728, .inl gp))) m0 (pm_mo z m0 ((d_X13_keep f g gb).1))) (m0 + 2) (.inl (kA 0, 91, .inl ((d_X13_keep f g gb).2)))) rfl ?_
  refine pm_mem (M' := pm_up (pm_up (pm_up (pm_up (pm_up M m0 (pm_mo z m0 ((d_X13_keep f g gb).1))) (m0 + 1) (.inl (kA 0, 91, .inl g))) (m0 + 2) (.inl (kA 0, 91, .inl gb))) (m0 + 4) (.inl (kA 0, 728, .inl gp))) (m0 + 2) (.inl (kA 0, 91, .inl ((d_X13_keep f g gb).2)))) (by rw [pm_up_sw (a := m0 + 4) (b := m0) (by omega), pm_up_sw (a := m0 + 2) (b := m0) (by omega), pm_up_sw (a := m0 + 1) (b := m0) (by omega), pm_up_up (a := m0)]) ?_
  refine pm_mem (M' := pm_up (pm_up (pm_up (pm_up M m0 (pm_mo z m0 ((d_X13_keep f g gb).1))) (m0 + 1) (.inl (kA 0, 91, .inl g))) (m0 + 2) (.inl (kA 0, 91, .inl ((d_X13_keep f g gb).2)))) (m0 + 4) (.inl (kA 0, 728, .inl gp))) (by rw [pm_up_sw (a := m0 + 4) (b := m0 + 2) (by omega), pm_up_up (a := m0 + 2)]) ?_
  refine pm_stk (st' := []) rfl ?_
  refine pm_aload_n B dX13_addMember_4 rfl ?_
  refine pm_aload_n B dX13_addMember_5 rfl ?_
  refine pm_iload_n B dX13_addMember_6 rfl ?_
  refine pm_iload_n B dX13_addMember_7 rfl ?_
  refine pm_cV (As := [.int x, .int y]) (mc2 := 0) (ms2 := 0) B rfl ((pm_up_n (by omega)).trans ((pm_up_n (by omega)).trans ((pm_up_n (by omega)).trans pm_up_s))) rfl (c_X13_doAddMember (x := x) (y := y) (n := n) (f := ((d_X13_keep f g gb).1)) (g := g) ((pm_up_n (by omega)).trans ((pm_up_n (by omega)).trans ((pm_up_n (by omega)).trans pm_up_s))) ((pm_up_n (by omega)).trans ((pm_up_n (by omega)).trans pm_up_s)) hn (by first | assumption | omega)) mt_X13_doAddMember sv_X13_94 dX13_addMember_8 rfl rfl rfl rfl rfl ?_
  refine pm_mem (M' := pm_up (pm_up (pm_up (pm_up (pm_up (pm_up M m0 (pm_mo z m0 ((d_X13_keep f g gb).1))) (m0 + 1) (.inl (kA 0, 91, .inl g))) (m0 + 2) (.inl (kA 0, 91, .inl ((d_X13_keep f g gb).2)))) (m0 + 4) (.inl (kA 0, 728, .inl gp))) m0 (pm_mo z m0 ((d_X13_doAddMember x y n ((d_X13_keep f g gb).1) g).2.1))) (m0 + 1) (.inl (kA 0, 91, .inl ((d_X13_doAddMember x y n ((d_X13_keep f g gb).1) g).2.2)))) rfl ?_
  refine pm_mem (M' := pm_up (pm_up (pm_up (pm_up (pm_up M m0 (pm_mo z m0 ((d_X13_doAddMember x y n ((d_X13_keep f g gb).1) g).2.1))) (m0 + 1) (.inl (kA 0, 91, .inl g))) (m0 + 2) (.inl (kA 0, 91, .inl ((d_X13_keep f g gb).2)))) (m0 + 4) (.inl (kA 0, 728, .inl gp))) (m0 + 1) (.inl (kA 0, 91, .inl ((d_X13_doAddMember x y n ((d_X13_keep f g gb).1) g).2.2)))) (by rw [pm_up_sw (a := m0 + 4) (b := m0) (by omega), pm_up_sw (a := m0 + 2) (b := m0) (by omega), pm_up_sw (a := m0 + 1) (b := m0) (by omega), pm_up_up (a := m0)]) ?_
  refine pm_mem (M' := pm_up (pm_up (pm_up (pm_up M m0 (pm_mo z m0 ((d_X13_doAddMember x y n ((d_X13_keep f g gb).1) g).2.1))) (m0 + 1) (.inl (kA 0, 91, .inl ((d_X13_doAddMember x y n ((d_X13_keep f g gb).1) g).2.2)))) (m0 + 2) (.inl (kA 0, 91, .inl ((d_X13_keep f g gb).2)))) (m0 + 4) (.inl (kA 0, 728, .inl gp))) (by rw [pm_up_sw (a := m0 + 4) (b := m0 + 1) (by omega), pm_up_sw (a := m0 + 2) (b := m0 + 1) (by omega), pm_up_up (a := m0 + 1)]) ?_
  refine pm_stk (st' := [.int ((d_X13_doAddMember x y n ((d_X13_keep f g gb).1) g).1), .ref (z + m0)]) rfl ?_
  refine pm_iconst (v := 0) B dX13_addMember_11 (by decide) ?_
  refine pm_cV (As := [.int ((d_X13_doAddMember x y n ((d_X13_keep f g gb).1) g).1), .int 0]) (mc2 := 0) (ms2 := 0) B rfl ((pm_up_n (by omega)).trans ((pm_up_n (by omega)).trans ((pm_up_n (by omega)).trans pm_up_s))) rfl (c_X13_ends (x := ((d_X13_doAddMember x y n ((d_X13_keep f g gb).1) g).1)) (y := 0) (k := k) (f := ((d_X13_doAddMember x y n ((d_X13_keep f g gb).1) g).2.1)) (g := ((d_X13_doAddMember x y n ((d_X13_keep f g gb).1) g).2.2)) (gb := ((d_X13_keep f g gb).2)) (gp := gp) ((pm_up_n (by omega)).trans ((pm_up_n (by omega)).trans ((pm_up_n (by omega)).trans pm_up_s))) ((pm_up_n (by omega)).trans ((pm_up_n (by omega)).trans pm_up_s)) ((pm_up_n (by omega)).trans pm_up_s) pm_up_s (show ((d_X13_doAddMember x y n ((d_X13_keep f g gb).1) g).2.1) 5 = (nI k) from by rw [((d_X13_doAddMember_k_f5 x y n ((d_X13_keep f g gb).1) g).trans ((d_X13_keep_k_f5  f g gb).trans hf5))]) (by first | assumption | omega)) mt_X13_ends sv_X13_97 dX13_addMember_12 rfl rfl rfl rfl rfl ?_
  refine pm_mem (M' := pm_up (pm_up (pm_up (pm_up (pm_up (pm_up (pm_up M m0 (pm_mo z m0 ((d_X13_doAddMember x y n ((d_X13_keep f g gb).1) g).2.1))) (m0 + 1) (.inl (kA 0, 91, .inl ((d_X13_doAddMember x y n ((d_X13_keep f g gb).1) g).2.2)))) (m0 + 2) (.inl (kA 0, 91, .inl ((d_X13_keep f g gb).2)))) (m0 + 4) (.inl (kA 0, 728, .inl gp))) m0 (pm_mo z m0 ((d_X13_ends ((d_X13_doAddMember x y n ((d_X13_keep f g gb).1) g).1) 0 k ((d_X13_doAddMember x y n ((d_X13_keep f g gb).1) g).2.1) ((d_X13_doAddMember x y n ((d_X13_keep f g gb).1) g).2.2) ((d_X13_keep f g gb).2) gp).2.1))) (m0 + 1) (.inl (kA 0, 91, .inl ((d_X13_ends ((d_X13_doAddMember x y n ((d_X13_keep f g gb).1) g).1) 0 k ((d_X13_doAddMember x y n ((d_X13_keep f g gb).1) g).2.1) ((d_X13_doAddMember x y n ((d_X13_keep f g gb).1) g).2.2) ((d_X13_keep f g gb).2) gp).2.2.1)))) (m0 + 4) (.inl (kA 0, 728, .inl ((d_X13_ends ((d_X13_doAddMember x y n ((d_X13_keep f g gb).1) g).1) 0 k ((d_X13_doAddMember x y n ((d_X13_keep f g gb).1) g).2.1) ((d_X13_doAddMember x y n ((d_X13_keep f g gb).1) g).2.2) ((d_X13_keep f g gb).2) gp).2.2.2)))) rfl ?_
  refine pm_mem (M' := pm_up (pm_up (pm_up (pm_up (pm_up (pm_up M m0 (pm_mo z m0 ((d_X13_ends ((d_X13_doAddMember x y n ((d_X13_keep f g gb).1) g).1) 0 k ((d_X13_doAddMember x y n ((d_X13_keep f g gb).1) g).2.1) ((d_X13_doAddMember x y n ((d_X13_keep f g gb).1) g).2.2) ((d_X13_keep f g gb).2) gp).2.1))) (m0 + 1) (.inl (kA 0, 91, .inl ((d_X13_doAddMember x y n ((d_X13_keep f g gb).1) g).2.2)))) (m0 + 2) (.inl (kA 0, 91, .inl ((d_X13_keep f g gb).2)))) (m0 + 4) (.inl (kA 0, 728, .inl gp))) (m0 + 1) (.inl (kA 0, 91, .inl ((d_X13_ends ((d_X13_doAddMember x y n ((d_X13_keep f g gb).1) g).1) 0 k ((d_X13_doAddMember x y n ((d_X13_keep f g gb).1) g).2.1) ((d_X13_doAddMember x y n ((d_X13_keep f g gb).1) g).2.2) ((d_X13_keep f g gb).2) gp).2.2.1)))) (m0 + 4) (.inl (kA 0, 728, .inl ((d_X13_ends ((d_X13_doAddMember x y n ((d_X13_keep f g gb).1) g).1) 0 k ((d_X13_doAddMember x y n ((d_X13_keep f g gb).1) g).2.1) ((d_X13_doAddMember x y n ((d_X13_keep f g gb).1) g).2.2) ((d_X13_keep f g gb).2) gp).2.2.2)))) (by rw [pm_up_sw (a := m0 + 4) (b := m0) (by omega), pm_up_sw (a := m0 + 2) (b := m0) (by omega), pm_up_sw (a := m0 + 1) (b := m0) (by omega), pm_up_up (a := m0)]) ?_
  refine pm_mem (M' := pm_up (pm_up (pm_up (pm_up (pm_up M m0 (pm_mo z m0 ((d_X13_ends ((d_X13_doAddMember x y n ((d_X13_keep f g gb).1) g).1) 0 k ((d_X13_doAddMember x y n ((d_X13_keep f g gb).1) g).2.1) ((d_X13_doAddMember x y n ((d_X13_keep f g gb).1) g).2.2) ((d_X13_keep f g gb).2) gp).2.1))) (m0 + 1) (.inl (kA 0, 91, .inl ((d_X13_ends ((d_X13_doAddMember x y n ((d_X13_keep f g gb).1) g).1) 0 k ((d_X13_doAddMember x y n ((d_X13_keep f g gb).1) g).2.1) ((d_X13_doAddMember x y n ((d_X13_keep f g gb).1) g).2.2) ((d_X13_keep f g gb).2) gp).2.2.1)))) (m0 + 2) (.inl (kA 0, 91, .inl ((d_X13_keep f g gb).2)))) (m0 + 4) (.inl (kA 0, 728, .inl gp))) (m0 + 4) (.inl (kA 0, 728, .inl ((d_X13_ends ((d_X13_doAddMember x y n ((d_X13_keep f g gb).1) g).1) 0 k ((d_X13_doAddMember x y n ((d_X13_keep f g gb).1) g).2.1) ((d_X13_doAddMember x y n ((d_X13_keep f g gb).1) g).2.2) ((d_X13_keep f g gb).2) gp).2.2.2)))) (by rw [pm_up_sw (a := m0 + 4) (b := m0 + 1) (by omega), pm_up_sw (a := m0 + 2) (b := m0 + 1) (by omega), pm_up_up (a := m0 + 1)]) ?_
  refine pm_mem (M' := pm_up (pm_up (pm_up (pm_up M m0 (pm_mo z m0 ((d_X13_ends ((d_X13_doAddMember x y n ((d_X13_keep f g gb).1) g).1) 0 k ((d_X13_doAddMember x y n ((d_X13_keep f g gb).1) g).2.1) ((d_X13_doAddMember x y n ((d_X13_keep f g gb).1) g).2.2) ((d_X13_keep f g gb).2) gp).2.1))) (m0 + 1) (.inl (kA 0, 91, .inl ((d_X13_ends ((d_X13_doAddMember x y n ((d_X13_keep f g gb).1) g).1) 0 k ((d_X13_doAddMember x y n ((d_X13_keep f g gb).1) g).2.1) ((d_X13_doAddMember x y n ((d_X13_keep f g gb).1) g).2.2) ((d_X13_keep f g gb).2) gp).2.2.1)))) (m0 + 2) (.inl (kA 0, 91, .inl ((d_X13_keep f g gb).2)))) (m0 + 4) (.inl (kA 0, 728, .inl ((d_X13_ends ((d_X13_doAddMember x y n ((d_X13_keep f g gb).1) g).1) 0 k ((d_X13_doAddMember x y n ((d_X13_keep f g gb).1) g).2.1) ((d_X13_doAddMember x y n ((d_X13_keep f g gb).1) g).2.2) ((d_X13_keep f g gb).2) gp).2.2.2)))) (by rw [pm_up_up (a := m0 + 4)]) ?_
  refine pm_stk (st' := [.int ((d_X13_ends ((d_X13_doAddMember x y n ((d_X13_keep f g gb).1) g).1) 0 k ((d_X13_doAddMember x y n ((d_X13_keep f g gb).1) g).2.1) ((d_X13_doAddMember x y n ((d_X13_keep f g gb).1) g).2.2) ((d_X13_keep f g gb).2) gp).1)]) rfl ?_
  have hDq1 : (d_X13_addMember x y n k f g gb gp) = (((d_X13_ends ((d_X13_doAddMember x y n ((d_X13_keep f g gb).1) g).1) 0 k ((d_X13_doAddMember x y n ((d_X13_keep f g gb).1) g).2.1) ((d_X13_doAddMember x y n ((d_X13_keep f g gb).1) g).2.2) ((d_X13_keep f g gb).2) gp).1), ((d_X13_ends ((d_X13_doAddMember x y n ((d_X13_keep f g gb).1) g).1) 0 k ((d_X13_doAddMember x y n ((d_X13_keep f g gb).1) g).2.1) ((d_X13_doAddMember x y n ((d_X13_keep f g gb).1) g).2.2) ((d_X13_keep f g gb).2) gp).2.1), ((d_X13_ends ((d_X13_doAddMember x y n ((d_X13_keep f g gb).1) g).1) 0 k ((d_X13_doAddMember x y n ((d_X13_keep f g gb).1) g).2.1) ((d_X13_doAddMember x y n ((d_X13_keep f g gb).1) g).2.2) ((d_X13_keep f g gb).2) gp).2.2.1), ((d_X13_keep f g gb).2), ((d_X13_ends ((d_X13_doAddMember x y n ((d_X13_keep f g gb).1) g).1) 0 k ((d_X13_doAddMember x y n ((d_X13_keep f g gb).1) g).2.1) ((d_X13_doAddMember x y n ((d_X13_keep f g gb).1) g).2.2) ((d_X13_keep f g gb).2) gp).2.2.2)) := by rw [d_X13_addMember]
  exact pm_ireturn B dX13_addMember_15 rfl (by first | rfl | (apply pm_nz; first | assumption | decide | exact pm_in01 _ _ _ | simp)) ⟨(by rw [hDq1]), rfl, by rw [hDq1]⟩ rfl rfl
def d_X13_doSetRule (x : Int32) (f : Nat → Int32) (g : Nat → Int32) : (Int32 × (Nat → Int32) × (Nat → Int32)) := if (pm_in x 0 1) = 0 then (0, (upd f 6 1), g) else (if x = (g 1) then (0, (upd (upd (upd f 7 7) 8 x) 6 2), g) else ((1 - x), f, (upd g 1 x)))
set_option maxRecDepth 100000 in
set_option maxHeartbeats 8000000 in
theorem c_X13_doSetRule {l : Launch} {z : Nat} {D : va_G} {kA : Nat → ClassId} {kE : Nat → Nat} {nx : Nat} {M : pm_M} {x : Int32}{m0 : Nat} {f : Nat → Int32} {g : Nat → Int32} (hM : M m0 = some (pm_mo z m0 f)) (hg : M (m0 + 1) = some (.inl (kA 0, 91, .inl g))) : pm_C l z D kA kE yX13_doSetRule cX13_doSetRule 2 (some .int) 2 0 0 [.ref (z + m0), .int x] nx M (pm_rt (some (.int ((d_X13_doSetRule x f g).1))) nx (pm_up (pm_up M m0 (pm_mo z m0 ((d_X13_doSetRule x f g).2.1))) (m0 + 1) (.inl (kA 0, 91, .inl ((d_X13_doSetRule x f g).2.2))))) := by
  refine pm_mk (own := RX13) (nm := "doSetRule") mt_X13_doSetRule rfl rfl rfl rfl fun X B => ?_
  refine pm_loc (L' := [some (.ref (z + m0)), some (.int x)]) rfl ?_
  refine pm_mem (M' := pm_up (pm_up M m0 (pm_mo z m0 f)) (m0 + 1) (.inl (kA 0, 91, .inl g))) (by rw [pm_up_id hM, pm_up_id hg]) ?_
  refine pm_iload_n B dX13_doSetRule_0 rfl ?_
  refine pm_iconst (v := 0) B dX13_doSetRule_1 (by decide) ?_
  refine pm_iconst (v := 1) B dX13_doSetRule_2 (by decide) ?_
  refine pm_cS (As := [.int x, .int 0, .int 1]) (mc2 := 0) (ms2 := 0) B c_X13_in mt_X13_in ss_X13_70 dX13_doSetRule_3 rfl rfl rfl rfl rfl ?_
  refine pm_stk (st' := [.int (pm_in x 0 1)]) rfl ?_
  refine pm_if_ne (tgt := 15) B dX13_doSetRule_6 (by decide) (fun hq1 => ?_) (fun hq1 => ?_)
  · refine pm_iload_n B dX13_doSetRule_15 rfl ?_
    refine pm_aload_n B dX13_doSetRule_16 rfl ?_
    refine pm_get B dX13_doSetRule_17 fl_X13_9 ((pm_up_n (by omega)).trans pm_up_s) rfl ?_
    refine pm_iconst (v := 1) B dX13_doSetRule_20 (by decide) ?_
    refine pm_iald_n B dX13_doSetRule_21 pm_up_s 1 (by decide) (by decide) ?_
    refine pm_icmp_ne (tgt := 34) B dX13_doSetRule_22 (by decide) (fun hq2 => ?_) (fun hq2 => ?_)
    · refine pm_aload_n B dX13_doSetRule_34 rfl ?_
      refine pm_get B dX13_doSetRule_35 fl_X13_9 ((pm_up_n (by omega)).trans pm_up_s) rfl ?_
      refine pm_iconst (v := 1) B dX13_doSetRule_38 (by decide) ?_
      refine pm_iload_n B dX13_doSetRule_39 rfl ?_
      refine pm_iast_n B dX13_doSetRule_40 pm_up_s 1 (by decide) (by decide) ?_
      refine pm_mem (M' := pm_up (pm_up M m0 (pm_mo z m0 f)) (m0 + 1) (.inl (kA 0, 91, .inl (upd g 1 x)))) pm_up_up ?_
      refine pm_iconst (v := 1) B dX13_doSetRule_41 (by decide) ?_
      refine pm_iload_n B dX13_doSetRule_42 rfl ?_
      refine pm_isub B dX13_doSetRule_43 ?_
      have hDq3 : (d_X13_doSetRule x f g) = ((1 - x), f, (upd g 1 x)) := by rw [d_X13_doSetRule, if_neg hq1, if_neg hq2]
      exact pm_ireturn B dX13_doSetRule_44 rfl (by first | rfl | (apply pm_nz; first | assumption | decide | exact pm_in01 _ _ _ | simp)) ⟨(by rw [hDq3]), rfl, by rw [hDq3]⟩ rfl rfl
    · refine pm_aload_n B dX13_doSetRule_25 rfl ?_
      refine pm_iconst (v := 2) B dX13_doSetRule_26 (by decide) ?_
      refine pm_bipush (v := 7) B dX13_doSetRule_27 (by decide) ?_
      refine pm_iload_n B dX13_doSetRule_29 rfl ?_
      refine pm_cV (As := [.int 2, .int 7, .int x]) (mc2 := 0) (ms2 := 0) B rfl ((pm_up_n (by omega)).trans pm_up_s) rfl (c_X13_denies (f := f) ((pm_up_n (by omega)).trans pm_up_s)) mt_X13_denies sv_X13_83 dX13_doSetRule_30 rfl rfl rfl rfl rfl ?_
      refine pm_mem (M' := pm_up (pm_up (pm_up M m0 (pm_mo z m0 f)) (m0 + 1) (.inl (kA 0, 91, .inl g))) m0 (pm_mo z m0 (upd (upd (upd f 7 7) 8 x) 6 2))) rfl ?_
      refine pm_mem (M' := pm_up (pm_up M m0 (pm_mo z m0 (upd (upd (upd f 7 7) 8 x) 6 2))) (m0 + 1) (.inl (kA 0, 91, .inl g))) (by rw [pm_up_sw (a := m0 + 1) (b := m0) (by omega), pm_up_up]) ?_
      refine pm_stk (st' := [.int 0]) rfl ?_
      have hDq4 : (d_X13_doSetRule x f g) = (0, (upd (upd (upd f 7 7) 8 x) 6 2), g) := by rw [d_X13_doSetRule, if_neg hq1, if_pos hq2]
      exact pm_ireturn B dX13_doSetRule_33 rfl (by first | rfl | (apply pm_nz; first | assumption | decide | exact pm_in01 _ _ _ | simp)) ⟨(by rw [hDq4]), rfl, by rw [hDq4]⟩ rfl rfl
  · refine pm_aload_n B dX13_doSetRule_9 rfl ?_
    refine pm_iconst (v := 1) B dX13_doSetRule_10 (by decide) ?_
    refine pm_cV (As := [.int 1]) (mc2 := 0) (ms2 := 0) B rfl ((pm_up_n (by omega)).trans pm_up_s) rfl (c_X13_fails (f := f) ((pm_up_n (by omega)).trans pm_up_s)) mt_X13_fails sv_X13_66 dX13_doSetRule_11 rfl rfl rfl rfl rfl ?_
    refine pm_mem (M' := pm_up (pm_up (pm_up M m0 (pm_mo z m0 f)) (m0 + 1) (.inl (kA 0, 91, .inl g))) m0 (pm_mo z m0 (upd f 6 1))) rfl ?_
    refine pm_mem (M' := pm_up (pm_up M m0 (pm_mo z m0 (upd f 6 1))) (m0 + 1) (.inl (kA 0, 91, .inl g))) (by rw [pm_up_sw (a := m0 + 1) (b := m0) (by omega), pm_up_up]) ?_
    refine pm_stk (st' := [.int 0]) rfl ?_
    have hDq5 : (d_X13_doSetRule x f g) = (0, (upd f 6 1), g) := by rw [d_X13_doSetRule, if_pos hq1]
    exact pm_ireturn B dX13_doSetRule_14 rfl (by first | rfl | (apply pm_nz; first | assumption | decide | exact pm_in01 _ _ _ | simp)) ⟨(by rw [hDq5]), rfl, by rw [hDq5]⟩ rfl rfl
theorem d_X13_doSetRule_k_f5 (x : Int32) (f : Nat → Int32) (g : Nat → Int32) : ((d_X13_doSetRule x f g).2.1) 5 = f 5 := by
  unfold d_X13_doSetRule
  (repeat' split) <;> rfl
def d_X13_setRule (x : Int32) (k : Nat) (f : Nat → Int32) (g : Nat → Int32) (gb : Nat → Int32) (gp : Nat → Int32) : (Int32 × (Nat → Int32) × (Nat → Int32) × (Nat → Int32) × (Nat → Int32)) := (((d_X13_ends ((d_X13_doSetRule x ((d_X13_keep f g gb).1) g).1) 0 k ((d_X13_doSetRule x ((d_X13_keep f g gb).1) g).2.1) ((d_X13_doSetRule x ((d_X13_keep f g gb).1) g).2.2) ((d_X13_keep f g gb).2) gp).1), ((d_X13_ends ((d_X13_doSetRule x ((d_X13_keep f g gb).1) g).1) 0 k ((d_X13_doSetRule x ((d_X13_keep f g gb).1) g).2.1) ((d_X13_doSetRule x ((d_X13_keep f g gb).1) g).2.2) ((d_X13_keep f g gb).2) gp).2.1), ((d_X13_ends ((d_X13_doSetRule x ((d_X13_keep f g gb).1) g).1) 0 k ((d_X13_doSetRule x ((d_X13_keep f g gb).1) g).2.1) ((d_X13_doSetRule x ((d_X13_keep f g gb).1) g).2.2) ((d_X13_keep f g gb).2) gp).2.2.1), ((d_X13_keep f g gb).2), ((d_X13_ends ((d_X13_doSetRule x ((d_X13_keep f g gb).1) g).1) 0 k ((d_X13_doSetRule x ((d_X13_keep f g gb).1) g).2.1) ((d_X13_doSetRule x ((d_X13_keep f g gb).1) g).2.2) ((d_X13_keep f g gb).2) gp).2.2.2))
set_option maxRecDepth 100000 in
set_option maxHeartbeats 8000000 in
theorem c_X13_setRule {l : Launch} {z : Nat} {D : va_G} {kA : Nat → ClassId} {kE : Nat → Nat} {nx : Nat} {M : pm_M} {x : Int32} {k : Nat}{m0 : Nat} {f : Nat → Int32} {g : Nat → Int32} {gb : Nat → Int32} {gp : Nat → Int32} (hM : M m0 = some (pm_mo z m0 f)) (hg : M (m0 + 1) = some (.inl (kA 0, 91, .inl g))) (hgb : M (m0 + 2) = some (.inl (kA 0, 91, .inl gb))) (hgp : M (m0 + 4) = some (.inl (kA 0, 728, .inl gp))) (hf5 : f 5 = nI k) (h8 : k ≤ 8) : pm_C l z D kA kE yX13_setRule cX13_setRule 2 (some .int) 3 0 0 [.ref (z + m0), .int x] nx M (pm_rt (some (.int ((d_X13_setRule x k f g gb gp).1))) nx (pm_up (pm_up (pm_up (pm_up M m0 (pm_mo z m0 ((d_X13_setRule x k f g gb gp).2.1))) (m0 + 1) (.inl (kA 0, 91, .inl ((d_X13_setRule x k f g gb gp).2.2.1)))) (m0 + 2) (.inl (kA 0, 91, .inl ((d_X13_setRule x k f g gb gp).2.2.2.1)))) (m0 + 4) (.inl (kA 0, 728, .inl ((d_X13_setRule x k f g gb gp).2.2.2.2))))) := by
  refine pm_mk (own := RX13) (nm := "setRule") mt_X13_setRule rfl rfl rfl rfl fun X B => ?_
  refine pm_loc (L' := [some (.ref (z + m0)), some (.int x)]) rfl ?_
  refine pm_mem (M' := pm_up (pm_up (pm_up (pm_up M m0 (pm_mo z m0 f)) (m0 + 1) (.inl (kA 0, 91, .inl g))) (m0 + 2) (.inl (kA 0, 91, .inl gb))) (m0 + 4) (.inl (kA 0, 728, .inl gp))) (by rw [pm_up_id hM, pm_up_id hg, pm_up_id hgb, pm_up_id hgp]) ?_
  refine pm_aload_n B dX13_setRule_0 rfl ?_
  refine pm_cV (As := []) (mc2 := 0) (ms2 := 0) B rfl ((pm_up_n (by omega)).trans ((pm_up_n (by omega)).trans ((pm_up_n (by omega)).trans pm_up_s))) rfl (c_X13_keep (f := f) (g := g) (gb := gb) ((pm_up_n (by omega)).trans ((pm_up_n (by omega)).trans ((pm_up_n (by omega)).trans pm_up_s))) ((pm_up_n (by omega)).trans ((pm_up_n (by omega)).trans pm_up_s)) ((pm_up_n (by omega)).trans pm_up_s) ) mt_X13_keep sv_X13_91 dX13_setRule_1 rfl rfl rfl rfl rfl ?_
  refine pm_mem (M' := pm_up (pm_up (pm_up (pm_up (pm_up (pm_up M m0 (pm_mo z m0 f)) (m0 + 1) (.inl (kA 0, 91, .inl g))) (m0 + 2) (.inl (kA 0, 91, .inl gb))) (m0 + 4) (.inl (kA 0, 728, .inl gp))) m0 (pm_mo z m0 ((d_X13_keep f g gb).1))) (m0 + 2) (.inl (kA 0, 91, .inl ((d_X13_keep f g gb).2)))) rfl ?_
  refine pm_mem (M' := pm_up (pm_up (pm_up (pm_up (pm_up M m0 (pm_mo z m0 ((d_X13_keep f g gb).1))) (m0 + 1) (.inl (kA 0, 91, .inl g))) (m0 + 2) (.inl (kA 0, 91, .inl gb))) (m0 + 4) (.inl (kA 0, 728, .inl gp))) (m0 + 2) (.inl (kA 0, 91, .inl ((d_X13_keep f g gb).2)))) (by rw [pm_up_sw (a := m0 + 4) (b := m0) (by omega), pm_up_sw (a := m0 + 2) (b := m0) (by omega), pm_up_sw (a := m0 + 1) (b := m0) (by omega), pm_up_up (a := m0)]) ?_
  refine pm_mem (M' := pm_up (pm_up (pm_up (pm_up M m0 (pm_mo z m0 ((d_X13_keep f g gb).1))) (m0 + 1) (.inl (kA 0, 91, .inl g))) (m0 + 2) (.inl (kA 0, 91, .inl ((d_X13_keep f g gb).2)))) (m0 + 4) (.inl (kA 0, 728, .inl gp))) (by rw [pm_up_sw (a := m0 + 4) (b := m0 + 2) (by omega), pm_up_up (a := m0 + 2)]) ?_
  refine pm_stk (st' := []) rfl ?_
  refine pm_aload_n B dX13_setRule_4 rfl ?_
  refine pm_aload_n B dX13_setRule_5 rfl ?_
  refine pm_iload_n B dX13_setRule_6 rfl ?_
  refine pm_cV (As := [.int x]) (mc2 := 0) (ms2 := 0) B rfl ((pm_up_n (by omega)).trans ((pm_up_n (by omega)).trans ((pm_up_n (by omega)).trans pm_up_s))) rfl (c_X13_doSetRule (x := x) (f := ((d_X13_keep f g gb).1)) (g := g) ((pm_up_n (by omega)).trans ((pm_up_n (by omega)).trans ((pm_up_n (by omega)).trans pm_up_s))) ((pm_up_n (by omega)).trans ((pm_up_n (by omega)).trans pm_up_s)) ) mt_X13_doSetRule sv_X13_124 dX13_setRule_7 rfl rfl rfl rfl rfl ?_
  refine pm_mem (M' := pm_up (pm_up (pm_up (pm_up (pm_up (pm_up M m0 (pm_mo z m0 ((d_X13_keep f g gb).1))) (m0 + 1) (.inl (kA 0, 91, .inl g))) (m0 + 2) (.inl (kA 0, 91, .inl ((d_X13_keep f g gb).2)))) (m0 + 4) (.inl (kA 0, 728, .inl gp))) m0 (pm_mo z m0 ((d_X13_doSetRule x ((d_X13_keep f g gb).1) g).2.1))) (m0 + 1) (.inl (kA 0, 91, .inl ((d_X13_doSetRule x ((d_X13_keep f g gb).1) g).2.2)))) rfl ?_
  refine pm_mem (M' := pm_up (pm_up (pm_up (pm_up (pm_up M m0 (pm_mo z m0 ((d_X13_doSetRule x ((d_X13_keep f g gb).1) g).2.1))) (m0 + 1) (.inl (kA 0, 91, .inl g))) (m0 + 2) (.inl (kA 0, 91, .inl ((d_X13_keep f g gb).2)))) (m0 + 4) (.inl (kA 0, 728, .inl gp))) (m0 + 1) (.inl (kA 0, 91, .inl ((d_X13_doSetRule x ((d_X13_keep f g gb).1) g).2.2)))) (by rw [pm_up_sw (a := m0 + 4) (b := m0) (by omega), pm_up_sw (a := m0 + 2) (b := m0) (by omega), pm_up_sw (a := m0 + 1) (b := m0) (by omega), pm_up_up (a := m0)]) ?_
  refine pm_mem (M' := pm_up (pm_up (pm_up (pm_up M m0 (pm_mo z m0 ((d_X13_doSetRule x ((d_X13_keep f g gb).1) g).2.1))) (m0 + 1) (.inl (kA 0, 91, .inl ((d_X13_doSetRule x ((d_X13_keep f g gb).1) g).2.2)))) (m0 + 2) (.inl (kA 0, 91, .inl ((d_X13_keep f g gb).2)))) (m0 + 4) (.inl (kA 0, 728, .inl gp))) (by rw [pm_up_sw (a := m0 + 4) (b := m0 + 1) (by omega), pm_up_sw (a := m0 + 2) (b := m0 + 1) (by omega), pm_up_up (a := m0 + 1)]) ?_
  refine pm_stk (st' := [.int ((d_X13_doSetRule x ((d_X13_keep f g gb).1) g).1), .ref (z + m0)]) rfl ?_
  refine pm_iconst (v := 0) B dX13_setRule_10 (by decide) ?_
  refine pm_cV (As := [.int ((d_X13_doSetRule x ((d_X13_keep f g gb).1) g).1), .int 0]) (mc2 := 0) (ms2 := 0) B rfl ((pm_up_n (by omega)).trans ((pm_up_n (by omega)).trans ((pm_up_n (by omega)).trans pm_up_s))) rfl (c_X13_ends (x := ((d_X13_doSetRule x ((d_X13_keep f g gb).1) g).1)) (y := 0) (k := k) (f := ((d_X13_doSetRule x ((d_X13_keep f g gb).1) g).2.1)) (g := ((d_X13_doSetRule x ((d_X13_keep f g gb).1) g).2.2)) (gb := ((d_X13_keep f g gb).2)) (gp := gp) ((pm_up_n (by omega)).trans ((pm_up_n (by omega)).trans ((pm_up_n (by omega)).trans pm_up_s))) ((pm_up_n (by omega)).trans ((pm_up_n (by omega)).trans pm_up_s)) ((pm_up_n (by omega)).trans pm_up_s) pm_up_s (show ((d_X13_doSetRule x ((d_X13_keep f g gb).1) g).2.1) 5 = (nI k) from by rw [((d_X13_doSetRule_k_f5 x ((d_X13_keep f g gb).1) g).trans ((d_X13_keep_k_f5  f g gb).trans hf5))]) (by first | assumption | omega)) mt_X13_ends sv_X13_97 dX13_setRule_11 rfl rfl rfl rfl rfl ?_
  refine pm_mem (M' := pm_up (pm_up (pm_up (pm_up (pm_up (pm_up (pm_up M m0 (pm_mo z m0 ((d_X13_doSetRule x ((d_X13_keep f g gb).1) g).2.1))) (m0 + 1) (.inl (kA 0, 91, .inl ((d_X13_doSetRule x ((d_X13_keep f g gb).1) g).2.2)))) (m0 + 2) (.inl (kA 0, 91, .inl ((d_X13_keep f g gb).2)))) (m0 + 4) (.inl (kA 0, 728, .inl gp))) m0 (pm_mo z m0 ((d_X13_ends ((d_X13_doSetRule x ((d_X13_keep f g gb).1) g).1) 0 k ((d_X13_doSetRule x ((d_X13_keep f g gb).1) g).2.1) ((d_X13_doSetRule x ((d_X13_keep f g gb).1) g).2.2) ((d_X13_keep f g gb).2) gp).2.1))) (m0 + 1) (.inl (kA 0, 91, .inl ((d_X13_ends ((d_X13_doSetRule x ((d_X13_keep f g gb).1) g).1) 0 k ((d_X13_doSetRule x ((d_X13_keep f g gb).1) g).2.1) ((d_X13_doSetRule x ((d_X13_keep f g gb).1) g).2.2) ((d_X13_keep f g gb).2) gp).2.2.1)))) (m0 + 4) (.inl (kA 0, 728, .inl ((d_X13_ends ((d_X13_doSetRule x ((d_X13_keep f g gb).1) g).1) 0 k ((d_X13_doSetRule x ((d_X13_keep f g gb).1) g).2.1) ((d_X13_doSetRule x ((d_X13_keep f g gb).1) g).2.2) ((d_X13_keep f g gb).2) gp).2.2.2)))) rfl ?_
  refine pm_mem (M' := pm_up (pm_up (pm_up (pm_up (pm_up (pm_up M m0 (pm_mo z m0 ((d_X13_ends ((d_X13_doSetRule x ((d_X13_keep f g gb).1) g).1) 0 k ((d_X13_doSetRule x ((d_X13_keep f g gb).1) g).2.1) ((d_X13_doSetRule x ((d_X13_keep f g gb).1) g).2.2) ((d_X13_keep f g gb).2) gp).2.1))) (m0 + 1) (.inl (kA 0, 91, .inl ((d_X13_doSetRule x ((d_X13_keep f g gb).1) g).2.2)))) (m0 + 2) (.inl (kA 0, 91, .inl ((d_X13_keep f g gb).2)))) (m0 + 4) (.inl (kA 0, 728, .inl gp))) (m0 + 1) (.inl (kA 0, 91, .inl ((d_X13_ends ((d_X13_doSetRule x ((d_X13_keep f g gb).1) g).1) 0 k ((d_X13_doSetRule x ((d_X13_keep f g gb).1) g).2.1) ((d_X13_doSetRule x ((d_X13_keep f g gb).1) g).2.2) ((d_X13_keep f g gb).2) gp).2.2.1)))) (m0 + 4) (.inl (kA 0, 728, .inl ((d_X13_ends ((d_X13_doSetRule x ((d_X13_keep f g gb).1) g).1) 0 k ((d_X13_doSetRule x ((d_X13_keep f g gb).1) g).2.1) ((d_X13_doSetRule x ((d_X13_keep f g gb).1) g).2.2) ((d_X13_keep f g gb).2) gp).2.2.2)))) (by rw [pm_up_sw (a := m0 + 4) (b := m0) (by omega), pm_up_sw (a := m0 + 2) (b := m0) (by omega), pm_up_sw (a := m0 + 1) (b := m0) (by omega), pm_up_up (a := m0)]) ?_
  refine pm_mem (M' := pm_up (pm_up (pm_up (pm_up (pm_up M m0 (pm_mo z m0 ((d_X13_ends ((d_X13_doSetRule x ((d_X13_keep f g gb).1) g).1) 0 k ((d_X13_doSetRule x ((d_X13_keep f g gb).1) g).2.1) ((d_X13_doSetRule x ((d_X13_keep f g gb).1) g).2.2) ((d_X13_keep f g gb).2) gp).2.1))) (m0 + 1) (.inl (kA 0, 91, .inl ((d_X13_ends ((d_X13_doSetRule x ((d_X13_keep f g gb).1) g).1) 0 k ((d_X13_doSetRule x ((d_X13_keep f g gb).1) g).2.1) ((d_X13_doSetRule x ((d_X13_keep f g gb).1) g).2.2) ((d_X13_keep f g gb).2) gp).2.2.1)))) (m0 + 2) (.inl (kA 0, 91, .inl ((d_X13_keep f g gb).2)))) (m0 + 4) (.inl (kA 0, 728, .inl gp))) (m0 + 4) (.inl (kA 0, 728, .inl ((d_X13_ends ((d_X13_doSetRule x ((d_X13_keep f g gb).1) g).1) 0 k ((d_X13_doSetRule x ((d_X13_keep f g gb).1) g).2.1) ((d_X13_doSetRule x ((d_X13_keep f g gb).1) g).2.2) ((d_X13_keep f g gb).2) gp).2.2.2)))) (by rw [pm_up_sw (a := m0 + 4) (b := m0 + 1) (by omega), pm_up_sw (a := m0 + 2) (b := m0 + 1) (by omega), pm_up_up (a := m0 + 1)]) ?_
  refine pm_mem (M' := pm_up (pm_up (pm_up (pm_up M m0 (pm_mo z m0 ((d_X13_ends ((d_X13_doSetRule x ((d_X13_keep f g gb).1) g).1) 0 k ((d_X13_doSetRule x ((d_X13_keep f g gb).1) g).2.1) ((d_X13_doSetRule x ((d_X13_keep f g gb).1) g).2.2) ((d_X13_keep f g gb).2) gp).2.1))) (m0 + 1) (.inl (kA 0, 91, .inl ((d_X13_ends ((d_X13_doSetRule x ((d_X13_keep f g gb).1) g).1) 0 k ((d_X13_doSetRule x ((d_X13_keep f g gb).1) g).2.1) ((d_X13_doSetRule x ((d_X13_keep f g gb).1) g).2.2) ((d_X13_keep f g gb).2) gp).2.2.1)))) (m0 + 2) (.inl (kA 0, 91, .inl ((d_X13_keep f g gb).2)))) (m0 + 4) (.inl (kA 0, 728, .inl ((d_X13_ends ((d_X13_doSetRule x ((d_X13_keep f g gb).1) g).1) 0 k ((d_X13_doSetRule x ((d_X13_keep f g gb).1) g).2.1) ((d_X13_doSetRule x ((d_X13_keep f g gb).1) g).2.2) ((d_X13_keep f g gb).2) gp).2.2.2)))) (by rw [pm_up_up (a := m0 + 4)]) ?_
  refine pm_stk (st' := [.int ((d_X13_ends ((d_X13_doSetRule x ((d_X13_keep f g gb).1) g).1) 0 k ((d_X13_doSetRule x ((d_X13_keep f g gb).1) g).2.1) ((d_X13_doSetRule x ((d_X13_keep f g gb).1) g).2.2) ((d_X13_keep f g gb).2) gp).1)]) rfl ?_
  have hDq1 : (d_X13_setRule x k f g gb gp) = (((d_X13_ends ((d_X13_doSetRule x ((d_X13_keep f g gb).1) g).1) 0 k ((d_X13_doSetRule x ((d_X13_keep f g gb).1) g).2.1) ((d_X13_doSetRule x ((d_X13_keep f g gb).1) g).2.2) ((d_X13_keep f g gb).2) gp).1), ((d_X13_ends ((d_X13_doSetRule x ((d_X13_keep f g gb).1) g).1) 0 k ((d_X13_doSetRule x ((d_X13_keep f g gb).1) g).2.1) ((d_X13_doSetRule x ((d_X13_keep f g gb).1) g).2.2) ((d_X13_keep f g gb).2) gp).2.1), ((d_X13_ends ((d_X13_doSetRule x ((d_X13_keep f g gb).1) g).1) 0 k ((d_X13_doSetRule x ((d_X13_keep f g gb).1) g).2.1) ((d_X13_doSetRule x ((d_X13_keep f g gb).1) g).2.2) ((d_X13_keep f g gb).2) gp).2.2.1), ((d_X13_keep f g gb).2), ((d_X13_ends ((d_X13_doSetRule x ((d_X13_keep f g gb).1) g).1) 0 k ((d_X13_doSetRule x ((d_X13_keep f g gb).1) g).2.1) ((d_X13_doSetRule x ((d_X13_keep f g gb).1) g).2.2) ((d_X13_keep f g gb).2) gp).2.2.2)) := by rw [d_X13_setRule]
  exact pm_ireturn B dX13_setRule_14 rfl (by first | rfl | (apply pm_nz; first | assumption | decide | exact pm_in01 _ _ _ | simp)) ⟨(by rw [hDq1]), rfl, by rw [hDq1]⟩ rfl rfl
def d_X13_doSetSeed (x : Int32) (f : Nat → Int32) (g : Nat → Int32) : (Int32 × (Nat → Int32) × (Nat → Int32)) := if (pm_in x 0 1023) = 0 then (0, (upd f 6 1), g) else ((g 2), f, (upd g 2 x))
set_option maxRecDepth 100000 in
set_option maxHeartbeats 8000000 in
theorem c_X13_doSetSeed {l : Launch} {z : Nat} {D : va_G} {kA : Nat → ClassId} {kE : Nat → Nat} {nx : Nat} {M : pm_M} {x : Int32}{m0 : Nat} {f : Nat → Int32} {g : Nat → Int32} (hM : M m0 = some (pm_mo z m0 f)) (hg : M (m0 + 1) = some (.inl (kA 0, 91, .inl g))) : pm_C l z D kA kE yX13_doSetSeed cX13_doSetSeed 3 (some .int) 2 0 0 [.ref (z + m0), .int x] nx M (pm_rt (some (.int ((d_X13_doSetSeed x f g).1))) nx (pm_up (pm_up M m0 (pm_mo z m0 ((d_X13_doSetSeed x f g).2.1))) (m0 + 1) (.inl (kA 0, 91, .inl ((d_X13_doSetSeed x f g).2.2))))) := by
  refine pm_mk (own := RX13) (nm := "doSetSeed") mt_X13_doSetSeed rfl rfl rfl rfl fun X B => ?_
  refine pm_loc (L' := [some (.ref (z + m0)), some (.int x), none]) rfl ?_
  refine pm_mem (M' := pm_up (pm_up M m0 (pm_mo z m0 f)) (m0 + 1) (.inl (kA 0, 91, .inl g))) (by rw [pm_up_id hM, pm_up_id hg]) ?_
  refine pm_iload_n B dX13_doSetSeed_0 rfl ?_
  refine pm_iconst (v := 0) B dX13_doSetSeed_1 (by decide) ?_
  refine pm_sipush (v := 1023) B dX13_doSetSeed_2 (by decide) ?_
  refine pm_cS (As := [.int x, .int 0, .int 1023]) (mc2 := 0) (ms2 := 0) B c_X13_in mt_X13_in ss_X13_70 dX13_doSetSeed_5 rfl rfl rfl rfl rfl ?_
  refine pm_stk (st' := [.int (pm_in x 0 1023)]) rfl ?_
  refine pm_if_ne (tgt := 17) B dX13_doSetSeed_8 (by decide) (fun hq1 => ?_) (fun hq1 => ?_)
  · refine pm_aload_n B dX13_doSetSeed_17 rfl ?_
    refine pm_get B dX13_doSetSeed_18 fl_X13_9 ((pm_up_n (by omega)).trans pm_up_s) rfl ?_
    refine pm_iconst (v := 2) B dX13_doSetSeed_21 (by decide) ?_
    refine pm_iald_n B dX13_doSetSeed_22 pm_up_s 2 (by decide) (by decide) ?_
    refine pm_istore_n B dX13_doSetSeed_23 rfl rfl ?_
    refine pm_loc (L' := [some (.ref (z + m0)), some (.int x), some (.int (g 2))]) rfl ?_
    refine pm_aload_n B dX13_doSetSeed_24 rfl ?_
    refine pm_get B dX13_doSetSeed_25 fl_X13_9 ((pm_up_n (by omega)).trans pm_up_s) rfl ?_
    refine pm_iconst (v := 2) B dX13_doSetSeed_28 (by decide) ?_
    refine pm_iload_n B dX13_doSetSeed_29 rfl ?_
    refine pm_iast_n B dX13_doSetSeed_30 pm_up_s 2 (by decide) (by decide) ?_
    refine pm_mem (M' := pm_up (pm_up M m0 (pm_mo z m0 f)) (m0 + 1) (.inl (kA 0, 91, .inl (upd g 2 x)))) pm_up_up ?_
    refine pm_iload_n B dX13_doSetSeed_31 rfl ?_
    have hDq2 : (d_X13_doSetSeed x f g) = ((g 2), f, (upd g 2 x)) := by rw [d_X13_doSetSeed, if_neg hq1]
    exact pm_ireturn B dX13_doSetSeed_32 rfl (by first | rfl | (apply pm_nz; first | assumption | decide | exact pm_in01 _ _ _ | simp)) ⟨(by rw [hDq2]), rfl, by rw [hDq2]⟩ rfl rfl
  · refine pm_aload_n B dX13_doSetSeed_11 rfl ?_
    refine pm_iconst (v := 1) B dX13_doSetSeed_12 (by decide) ?_
    refine pm_cV (As := [.int 1]) (mc2 := 0) (ms2 := 0) B rfl ((pm_up_n (by omega)).trans pm_up_s) rfl (c_X13_fails (f := f) ((pm_up_n (by omega)).trans pm_up_s)) mt_X13_fails sv_X13_66 dX13_doSetSeed_13 rfl rfl rfl rfl rfl ?_
    refine pm_mem (M' := pm_up (pm_up (pm_up M m0 (pm_mo z m0 f)) (m0 + 1) (.inl (kA 0, 91, .inl g))) m0 (pm_mo z m0 (upd f 6 1))) rfl ?_
    refine pm_mem (M' := pm_up (pm_up M m0 (pm_mo z m0 (upd f 6 1))) (m0 + 1) (.inl (kA 0, 91, .inl g))) (by rw [pm_up_sw (a := m0 + 1) (b := m0) (by omega), pm_up_up]) ?_
    refine pm_stk (st' := [.int 0]) rfl ?_
    have hDq3 : (d_X13_doSetSeed x f g) = (0, (upd f 6 1), g) := by rw [d_X13_doSetSeed, if_pos hq1]
    exact pm_ireturn B dX13_doSetSeed_16 rfl (by first | rfl | (apply pm_nz; first | assumption | decide | exact pm_in01 _ _ _ | simp)) ⟨(by rw [hDq3]), rfl, by rw [hDq3]⟩ rfl rfl
theorem d_X13_doSetSeed_k_f5 (x : Int32) (f : Nat → Int32) (g : Nat → Int32) : ((d_X13_doSetSeed x f g).2.1) 5 = f 5 := by
  unfold d_X13_doSetSeed
  (repeat' split) <;> rfl
def d_X13_setSeed (x : Int32) (k : Nat) (f : Nat → Int32) (g : Nat → Int32) (gb : Nat → Int32) (gp : Nat → Int32) : (Int32 × (Nat → Int32) × (Nat → Int32) × (Nat → Int32) × (Nat → Int32)) := (((d_X13_ends ((d_X13_doSetSeed x ((d_X13_keep f g gb).1) g).1) 0 k ((d_X13_doSetSeed x ((d_X13_keep f g gb).1) g).2.1) ((d_X13_doSetSeed x ((d_X13_keep f g gb).1) g).2.2) ((d_X13_keep f g gb).2) gp).1), ((d_X13_ends ((d_X13_doSetSeed x ((d_X13_keep f g gb).1) g).1) 0 k ((d_X13_doSetSeed x ((d_X13_keep f g gb).1) g).2.1) ((d_X13_doSetSeed x ((d_X13_keep f g gb).1) g).2.2) ((d_X13_keep f g gb).2) gp).2.1), ((d_X13_ends ((d_X13_doSetSeed x ((d_X13_keep f g gb).1) g).1) 0 k ((d_X13_doSetSeed x ((d_X13_keep f g gb).1) g).2.1) ((d_X13_doSetSeed x ((d_X13_keep f g gb).1) g).2.2) ((d_X13_keep f g gb).2) gp).2.2.1), ((d_X13_keep f g gb).2), ((d_X13_ends ((d_X13_doSetSeed x ((d_X13_keep f g gb).1) g).1) 0 k ((d_X13_doSetSeed x ((d_X13_keep f g gb).1) g).2.1) ((d_X13_doSetSeed x ((d_X13_keep f g gb).1) g).2.2) ((d_X13_keep f g gb).2) gp).2.2.2))
set_option maxRecDepth 100000 in
set_option maxHeartbeats 8000000 in
theorem c_X13_setSeed {l : Launch} {z : Nat} {D : va_G} {kA : Nat → ClassId} {kE : Nat → Nat} {nx : Nat} {M : pm_M} {x : Int32} {k : Nat}{m0 : Nat} {f : Nat → Int32} {g : Nat → Int32} {gb : Nat → Int32} {gp : Nat → Int32} (hM : M m0 = some (pm_mo z m0 f)) (hg : M (m0 + 1) = some (.inl (kA 0, 91, .inl g))) (hgb : M (m0 + 2) = some (.inl (kA 0, 91, .inl gb))) (hgp : M (m0 + 4) = some (.inl (kA 0, 728, .inl gp))) (hf5 : f 5 = nI k) (h8 : k ≤ 8) : pm_C l z D kA kE yX13_setSeed cX13_setSeed 2 (some .int) 3 0 0 [.ref (z + m0), .int x] nx M (pm_rt (some (.int ((d_X13_setSeed x k f g gb gp).1))) nx (pm_up (pm_up (pm_up (pm_up M m0 (pm_mo z m0 ((d_X13_setSeed x k f g gb gp).2.1))) (m0 + 1) (.inl (kA 0, 91, .inl ((d_X13_setSeed x k f g gb gp).2.2.1)))) (m0 + 2) (.inl (kA 0, 91, .inl ((d_X13_setSeed x k f g gb gp).2.2.2.1)))) (m0 + 4) (.inl (kA 0, 728, .inl ((d_X13_setSeed x k f g gb gp).2.2.2.2))))) := by
  refine pm_mk (own := RX13) (nm := "setSeed") mt_X13_setSeed rfl rfl rfl rfl fun X B => ?_
  refine pm_loc (L' := [some (.ref (z + m0)), some (.int x)]) rfl ?_
  refine pm_mem (M' := pm_up (pm_up (pm_up (pm_up M m0 (pm_mo z m0 f)) (m0 + 1) (.inl (kA 0, 91, .inl g))) (m0 + 2) (.inl (kA 0, 91, .inl gb))) (m0 + 4) (.inl (kA 0, 728, .inl gp))) (by rw [pm_up_id hM, pm_up_id hg, pm_up_id hgb, pm_up_id hgp]) ?_
  refine pm_aload_n B dX13_setSeed_0 rfl ?_
  refine pm_cV (As := []) (mc2 := 0) (ms2 := 0) B rfl ((pm_up_n (by omega)).trans ((pm_up_n (by omega)).trans ((pm_up_n (by omega)).trans pm_up_s))) rfl (c_X13_keep (f := f) (g := g) (gb := gb) ((pm_up_n (by omega)).trans ((pm_up_n (by omega)).trans ((pm_up_n (by omega)).trans pm_up_s))) ((pm_up_n (by omega)).trans ((pm_up_n (by omega)).trans pm_up_s)) ((pm_up_n (by omega)).trans pm_up_s) ) mt_X13_keep sv_X13_91 dX13_setSeed_1 rfl rfl rfl rfl rfl ?_
  refine pm_mem (M' := pm_up (pm_up (pm_up (pm_up (pm_up (pm_up M m0 (pm_mo z m0 f)) (m0 + 1) (.inl (kA 0, 91, .inl g))) (m0 + 2) (.inl (kA 0, 91, .inl gb))) (m0 + 4) (.inl (kA 0, 728, .inl gp))) m0 (pm_mo z m0 ((d_X13_keep f g gb).1))) (m0 + 2) (.inl (kA 0, 91, .inl ((d_X13_keep f g gb).2)))) rfl ?_
  refine pm_mem (M' := pm_up (pm_up (pm_up (pm_up (pm_up M m0 (pm_mo z m0 ((d_X13_keep f g gb).1))) (m0 + 1) (.inl (kA 0, 91, .inl g))) (m0 + 2) (.inl (kA 0, 91, .inl gb))) (m0 + 4) (.inl (kA 0, 728, .inl gp))) (m0 + 2) (.inl (kA 0, 91, .inl ((d_X13_keep f g gb).2)))) (by rw [pm_up_sw (a := m0 + 4) (b := m0) (by omega), pm_up_sw (a := m0 + 2) (b := m0) (by omega), pm_up_sw (a := m0 + 1) (b := m0) (by omega), pm_up_up (a := m0)]) ?_
  refine pm_mem (M' := pm_up (pm_up (pm_up (pm_up M m0 (pm_mo z m0 ((d_X13_keep f g gb).1))) (m0 + 1) (.inl (kA 0, 91, .inl g))) (m0 + 2) (.inl (kA 0, 91, .inl ((d_X13_keep f g gb).2)))) (m0 + 4) (.inl (kA 0, 728, .inl gp))) (by rw [pm_up_sw (a := m0 + 4) (b := m0 + 2) (by omega), pm_up_up (a := m0 + 2)]) ?_
  refine pm_stk (st' := []) rfl ?_
  refine pm_aload_n B dX13_setSeed_4 rfl ?_
  refine pm_aload_n B dX13_setSeed_5 rfl ?_
  refine pm_iload_n B dX13_setSeed_6 rfl ?_
  refine pm_cV (As := [.int x]) (mc2 := 0) (ms2 := 0) B rfl ((pm_up_n (by omega)).trans ((pm_up_n (by omega)).trans ((pm_up_n (by omega)).trans pm_up_s))) rfl (c_X13_doSetSeed (x := x) (f := ((d_X13_keep f g gb).1)) (g := g) ((pm_up_n (by omega)).trans ((pm_up_n (by omega)).trans ((pm_up_n (by omega)).trans pm_up_s))) ((pm_up_n (by omega)).trans ((pm_up_n (by omega)).trans pm_up_s)) ) mt_X13_doSetSeed sv_X13_150 dX13_setSeed_7 rfl rfl rfl rfl rfl ?_
  refine pm_mem (M' := pm_up (pm_up (pm_up (pm_up (pm_up (pm_up M m0 (pm_mo z m0 ((d_X13_keep f g gb).1))) (m0 + 1) (.inl (kA 0, 91, .inl g))) (m0 + 2) (.inl (kA 0, 91, .inl ((d_X13_keep f g gb).2)))) (m0 + 4) (.inl (kA 0, 728, .inl gp))) m0 (pm_mo z m0 ((d_X13_doSetSeed x ((d_X13_keep f g gb).1) g).2.1))) (m0 + 1) (.inl (kA 0, 91, .inl ((d_X13_doSetSeed x ((d_X13_keep f g gb).1) g).2.2)))) rfl ?_
  refine pm_mem (M' := pm_up (pm_up (pm_up (pm_up (pm_up M m0 (pm_mo z m0 ((d_X13_doSetSeed x ((d_X13_keep f g gb).1) g).2.1))) (m0 + 1) (.inl (kA 0, 91, .inl g))) (m0 + 2) (.inl (kA 0, 91, .inl ((d_X13_keep f g gb).2)))) (m0 + 4) (.inl (kA 0, 728, .inl gp))) (m0 + 1) (.inl (kA 0, 91, .inl ((d_X13_doSetSeed x ((d_X13_keep f g gb).1) g).2.2)))) (by rw [pm_up_sw (a := m0 + 4) (b := m0) (by omega), pm_up_sw (a := m0 + 2) (b := m0) (by omega), pm_up_sw (a := m0 + 1) (b := m0) (by omega), pm_up_up (a := m0)]) ?_
  refine pm_mem (M' := pm_up (pm_up (pm_up (pm_up M m0 (pm_mo z m0 ((d_X13_doSetSeed x ((d_X13_keep f g gb).1) g).2.1))) (m0 + 1) (.inl (kA 0, 91, .inl ((d_X13_doSetSeed x ((d_X13_keep f g gb).1) g).2.2)))) (m0 + 2) (.inl (kA 0, 91, .inl ((d_X13_keep f g gb).2)))) (m0 + 4) (.inl (kA 0, 728, .inl gp))) (by rw [pm_up_sw (a := m0 + 4) (b := m0 + 1) (by omega), pm_up_sw (a := m0 + 2) (b := m0 + 1) (by omega), pm_up_up (a := m0 + 1)]) ?_
  refine pm_stk (st' := [.int ((d_X13_doSetSeed x ((d_X13_keep f g gb).1) g).1), .ref (z + m0)]) rfl ?_
  refine pm_iconst (v := 0) B dX13_setSeed_10 (by decide) ?_
  refine pm_cV (As := [.int ((d_X13_doSetSeed x ((d_X13_keep f g gb).1) g).1), .int 0]) (mc2 := 0) (ms2 := 0) B rfl ((pm_up_n (by omega)).trans ((pm_up_n (by omega)).trans ((pm_up_n (by omega)).trans pm_up_s))) rfl (c_X13_ends (x := ((d_X13_doSetSeed x ((d_X13_keep f g gb).1) g).1)) (y := 0) (k := k) (f := ((d_X13_doSetSeed x ((d_X13_keep f g gb).1) g).2.1)) (g := ((d_X13_doSetSeed x ((d_X13_keep f g gb).1) g).2.2)) (gb := ((d_X13_keep f g gb).2)) (gp := gp) ((pm_up_n (by omega)).trans ((pm_up_n (by omega)).trans ((pm_up_n (by omega)).trans pm_up_s))) ((pm_up_n (by omega)).trans ((pm_up_n (by omega)).trans pm_up_s)) ((pm_up_n (by omega)).trans pm_up_s) pm_up_s (show ((d_X13_doSetSeed x ((d_X13_keep f g gb).1) g).2.1) 5 = (nI k) from by rw [((d_X13_doSetSeed_k_f5 x ((d_X13_keep f g gb).1) g).trans ((d_X13_keep_k_f5  f g gb).trans hf5))]) (by first | assumption | omega)) mt_X13_ends sv_X13_97 dX13_setSeed_11 rfl rfl rfl rfl rfl ?_
  refine pm_mem (M' := pm_up (pm_up (pm_up (pm_up (pm_up (pm_up (pm_up M m0 (pm_mo z m0 ((d_X13_doSetSeed x ((d_X13_keep f g gb).1) g).2.1))) (m0 + 1) (.inl (kA 0, 91, .inl ((d_X13_doSetSeed x ((d_X13_keep f g gb).1) g).2.2)))) (m0 + 2) (.inl (kA 0, 91, .inl ((d_X13_keep f g gb).2)))) (m0 + 4) (.inl (kA 0, 728, .inl gp))) m0 (pm_mo z m0 ((d_X13_ends ((d_X13_doSetSeed x ((d_X13_keep f g gb).1) g).1) 0 k ((d_X13_doSetSeed x ((d_X13_keep f g gb).1) g).2.1) ((d_X13_doSetSeed x ((d_X13_keep f g gb).1) g).2.2) ((d_X13_keep f g gb).2) gp).2.1))) (m0 + 1) (.inl (kA 0, 91, .inl ((d_X13_ends ((d_X13_doSetSeed x ((d_X13_keep f g gb).1) g).1) 0 k ((d_X13_doSetSeed x ((d_X13_keep f g gb).1) g).2.1) ((d_X13_doSetSeed x ((d_X13_keep f g gb).1) g).2.2) ((d_X13_keep f g gb).2) gp).2.2.1)))) (m0 + 4) (.inl (kA 0, 728, .inl ((d_X13_ends ((d_X13_doSetSeed x ((d_X13_keep f g gb).1) g).1) 0 k ((d_X13_doSetSeed x ((d_X13_keep f g gb).1) g).2.1) ((d_X13_doSetSeed x ((d_X13_keep f g gb).1) g).2.2) ((d_X13_keep f g gb).2) gp).2.2.2)))) rfl ?_
  refine pm_mem (M' := pm_up (pm_up (pm_up (pm_up (pm_up (pm_up M m0 (pm_mo z m0 ((d_X13_ends ((d_X13_doSetSeed x ((d_X13_keep f g gb).1) g).1) 0 k ((d_X13_doSetSeed x ((d_X13_keep f g gb).1) g).2.1) ((d_X13_doSetSeed x ((d_X13_keep f g gb).1) g).2.2) ((d_X13_keep f g gb).2) gp).2.1))) (m0 + 1) (.inl (kA 0, 91, .inl ((d_X13_doSetSeed x ((d_X13_keep f g gb).1) g).2.2)))) (m0 + 2) (.inl (kA 0, 91, .inl ((d_X13_keep f g gb).2)))) (m0 + 4) (.inl (kA 0, 728, .inl gp))) (m0 + 1) (.inl (kA 0, 91, .inl ((d_X13_ends ((d_X13_doSetSeed x ((d_X13_keep f g gb).1) g).1) 0 k ((d_X13_doSetSeed x ((d_X13_keep f g gb).1) g).2.1) ((d_X13_doSetSeed x ((d_X13_keep f g gb).1) g).2.2) ((d_X13_keep f g gb).2) gp).2.2.1)))) (m0 + 4) (.inl (kA 0, 728, .inl ((d_X13_ends ((d_X13_doSetSeed x ((d_X13_keep f g gb).1) g).1) 0 k ((d_X13_doSetSeed x ((d_X13_keep f g gb).1) g).2.1) ((d_X13_doSetSeed x ((d_X13_keep f g gb).1) g).2.2) ((d_X13_keep f g gb).2) gp).2.2.2)))) (by rw [pm_up_sw (a := m0 + 4) (b := m0) (by omega), pm_up_sw (a := m0 + 2) (b := m0) (by omega), pm_up_sw (a := m0 + 1) (b := m0) (by omega), pm_up_up (a := m0)]) ?_
  refine pm_mem (M' := pm_up (pm_up (pm_up (pm_up (pm_up M m0 (pm_mo z m0 ((d_X13_ends ((d_X13_doSetSeed x ((d_X13_keep f g gb).1) g).1) 0 k ((d_X13_doSetSeed x ((d_X13_keep f g gb).1) g).2.1) ((d_X13_doSetSeed x ((d_X13_keep f g gb).1) g).2.2) ((d_X13_keep f g gb).2) gp).2.1))) (m0 + 1) (.inl (kA 0, 91, .inl ((d_X13_ends ((d_X13_doSetSeed x ((d_X13_keep f g gb).1) g).1) 0 k ((d_X13_doSetSeed x ((d_X13_keep f g gb).1) g).2.1) ((d_X13_doSetSeed x ((d_X13_keep f g gb).1) g).2.2) ((d_X13_keep f g gb).2) gp).2.2.1)))) (m0 + 2) (.inl (kA 0, 91, .inl ((d_X13_keep f g gb).2)))) (m0 + 4) (.inl (kA 0, 728, .inl gp))) (m0 + 4) (.inl (kA 0, 728, .inl ((d_X13_ends ((d_X13_doSetSeed x ((d_X13_keep f g gb).1) g).1) 0 k ((d_X13_doSetSeed x ((d_X13_keep f g gb).1) g).2.1) ((d_X13_doSetSeed x ((d_X13_keep f g gb).1) g).2.2) ((d_X13_keep f g gb).2) gp).2.2.2)))) (by rw [pm_up_sw (a := m0 + 4) (b := m0 + 1) (by omega), pm_up_sw (a := m0 + 2) (b := m0 + 1) (by omega), pm_up_up (a := m0 + 1)]) ?_
  refine pm_mem (M' := pm_up (pm_up (pm_up (pm_up M m0 (pm_mo z m0 ((d_X13_ends ((d_X13_doSetSeed x ((d_X13_keep f g gb).1) g).1) 0 k ((d_X13_doSetSeed x ((d_X13_keep f g gb).1) g).2.1) ((d_X13_doSetSeed x ((d_X13_keep f g gb).1) g).2.2) ((d_X13_keep f g gb).2) gp).2.1))) (m0 + 1) (.inl (kA 0, 91, .inl ((d_X13_ends ((d_X13_doSetSeed x ((d_X13_keep f g gb).1) g).1) 0 k ((d_X13_doSetSeed x ((d_X13_keep f g gb).1) g).2.1) ((d_X13_doSetSeed x ((d_X13_keep f g gb).1) g).2.2) ((d_X13_keep f g gb).2) gp).2.2.1)))) (m0 + 2) (.inl (kA 0, 91, .inl ((d_X13_keep f g gb).2)))) (m0 + 4) (.inl (kA 0, 728, .inl ((d_X13_ends ((d_X13_doSetSeed x ((d_X13_keep f g gb).1) g).1) 0 k ((d_X13_doSetSeed x ((d_X13_keep f g gb).1) g).2.1) ((d_X13_doSetSeed x ((d_X13_keep f g gb).1) g).2.2) ((d_X13_keep f g gb).2) gp).2.2.2)))) (by rw [pm_up_up (a := m0 + 4)]) ?_
  refine pm_stk (st' := [.int ((d_X13_ends ((d_X13_doSetSeed x ((d_X13_keep f g gb).1) g).1) 0 k ((d_X13_doSetSeed x ((d_X13_keep f g gb).1) g).2.1) ((d_X13_doSetSeed x ((d_X13_keep f g gb).1) g).2.2) ((d_X13_keep f g gb).2) gp).1)]) rfl ?_
  have hDq1 : (d_X13_setSeed x k f g gb gp) = (((d_X13_ends ((d_X13_doSetSeed x ((d_X13_keep f g gb).1) g).1) 0 k ((d_X13_doSetSeed x ((d_X13_keep f g gb).1) g).2.1) ((d_X13_doSetSeed x ((d_X13_keep f g gb).1) g).2.2) ((d_X13_keep f g gb).2) gp).1), ((d_X13_ends ((d_X13_doSetSeed x ((d_X13_keep f g gb).1) g).1) 0 k ((d_X13_doSetSeed x ((d_X13_keep f g gb).1) g).2.1) ((d_X13_doSetSeed x ((d_X13_keep f g gb).1) g).2.2) ((d_X13_keep f g gb).2) gp).2.1), ((d_X13_ends ((d_X13_doSetSeed x ((d_X13_keep f g gb).1) g).1) 0 k ((d_X13_doSetSeed x ((d_X13_keep f g gb).1) g).2.1) ((d_X13_doSetSeed x ((d_X13_keep f g gb).1) g).2.2) ((d_X13_keep f g gb).2) gp).2.2.1), ((d_X13_keep f g gb).2), ((d_X13_ends ((d_X13_doSetSeed x ((d_X13_keep f g gb).1) g).1) 0 k ((d_X13_doSetSeed x ((d_X13_keep f g gb).1) g).2.1) ((d_X13_doSetSeed x ((d_X13_keep f g gb).1) g).2.2) ((d_X13_keep f g gb).2) gp).2.2.2)) := by rw [d_X13_setSeed]
  exact pm_ireturn B dX13_setSeed_14 rfl (by first | rfl | (apply pm_nz; first | assumption | decide | exact pm_in01 _ _ _ | simp)) ⟨(by rw [hDq1]), rfl, by rw [hDq1]⟩ rfl rfl
def d_X13_doSetThreshold (x : Int32) (f : Nat → Int32) (g : Nat → Int32) : (Int32 × (Nat → Int32) × (Nat → Int32)) := if (pm_in x 1 99) = 0 then (0, (upd f 6 1), g) else (if x = (g 3) then (0, (upd (upd (upd f 7 7) 8 x) 6 2), g) else ((g 3), f, (upd g 3 x)))
set_option maxRecDepth 100000 in
set_option maxHeartbeats 8000000 in
theorem c_X13_doSetThreshold {l : Launch} {z : Nat} {D : va_G} {kA : Nat → ClassId} {kE : Nat → Nat} {nx : Nat} {M : pm_M} {x : Int32}{m0 : Nat} {f : Nat → Int32} {g : Nat → Int32} (hM : M m0 = some (pm_mo z m0 f)) (hg : M (m0 + 1) = some (.inl (kA 0, 91, .inl g))) : pm_C l z D kA kE yX13_doSetThreshold cX13_doSetThreshold 3 (some .int) 2 0 0 [.ref (z + m0), .int x] nx M (pm_rt (some (.int ((d_X13_doSetThreshold x f g).1))) nx (pm_up (pm_up M m0 (pm_mo z m0 ((d_X13_doSetThreshold x f g).2.1))) (m0 + 1) (.inl (kA 0, 91, .inl ((d_X13_doSetThreshold x f g).2.2))))) := by
  refine pm_mk (own := RX13) (nm := "doSetThreshold") mt_X13_doSetThreshold rfl rfl rfl rfl fun X B => ?_
  refine pm_loc (L' := [some (.ref (z + m0)), some (.int x), none]) rfl ?_
  refine pm_mem (M' := pm_up (pm_up M m0 (pm_mo z m0 f)) (m0 + 1) (.inl (kA 0, 91, .inl g))) (by rw [pm_up_id hM, pm_up_id hg]) ?_
  refine pm_iload_n B dX13_doSetThreshold_0 rfl ?_
  refine pm_iconst (v := 1) B dX13_doSetThreshold_1 (by decide) ?_
  refine pm_bipush (v := 99) B dX13_doSetThreshold_2 (by decide) ?_
  refine pm_cS (As := [.int x, .int 1, .int 99]) (mc2 := 0) (ms2 := 0) B c_X13_in mt_X13_in ss_X13_70 dX13_doSetThreshold_4 rfl rfl rfl rfl rfl ?_
  refine pm_stk (st' := [.int (pm_in x 1 99)]) rfl ?_
  refine pm_if_ne (tgt := 16) B dX13_doSetThreshold_7 (by decide) (fun hq1 => ?_) (fun hq1 => ?_)
  · refine pm_iload_n B dX13_doSetThreshold_16 rfl ?_
    refine pm_aload_n B dX13_doSetThreshold_17 rfl ?_
    refine pm_get B dX13_doSetThreshold_18 fl_X13_9 ((pm_up_n (by omega)).trans pm_up_s) rfl ?_
    refine pm_iconst (v := 3) B dX13_doSetThreshold_21 (by decide) ?_
    refine pm_iald_n B dX13_doSetThreshold_22 pm_up_s 3 (by decide) (by decide) ?_
    refine pm_icmp_ne (tgt := 35) B dX13_doSetThreshold_23 (by decide) (fun hq2 => ?_) (fun hq2 => ?_)
    · refine pm_aload_n B dX13_doSetThreshold_35 rfl ?_
      refine pm_get B dX13_doSetThreshold_36 fl_X13_9 ((pm_up_n (by omega)).trans pm_up_s) rfl ?_
      refine pm_iconst (v := 3) B dX13_doSetThreshold_39 (by decide) ?_
      refine pm_iald_n B dX13_doSetThreshold_40 pm_up_s 3 (by decide) (by decide) ?_
      refine pm_istore_n B dX13_doSetThreshold_41 rfl rfl ?_
      refine pm_loc (L' := [some (.ref (z + m0)), some (.int x), some (.int (g 3))]) rfl ?_
      refine pm_aload_n B dX13_doSetThreshold_42 rfl ?_
      refine pm_get B dX13_doSetThreshold_43 fl_X13_9 ((pm_up_n (by omega)).trans pm_up_s) rfl ?_
      refine pm_iconst (v := 3) B dX13_doSetThreshold_46 (by decide) ?_
      refine pm_iload_n B dX13_doSetThreshold_47 rfl ?_
      refine pm_iast_n B dX13_doSetThreshold_48 pm_up_s 3 (by decide) (by decide) ?_
      refine pm_mem (M' := pm_up (pm_up M m0 (pm_mo z m0 f)) (m0 + 1) (.inl (kA 0, 91, .inl (upd g 3 x)))) pm_up_up ?_
      refine pm_iload_n B dX13_doSetThreshold_49 rfl ?_
      have hDq3 : (d_X13_doSetThreshold x f g) = ((g 3), f, (upd g 3 x)) := by rw [d_X13_doSetThreshold, if_neg hq1, if_neg hq2]
      exact pm_ireturn B dX13_doSetThreshold_50 rfl (by first | rfl | (apply pm_nz; first | assumption | decide | exact pm_in01 _ _ _ | simp)) ⟨(by rw [hDq3]), rfl, by rw [hDq3]⟩ rfl rfl
    · refine pm_aload_n B dX13_doSetThreshold_26 rfl ?_
      refine pm_iconst (v := 2) B dX13_doSetThreshold_27 (by decide) ?_
      refine pm_bipush (v := 7) B dX13_doSetThreshold_28 (by decide) ?_
      refine pm_iload_n B dX13_doSetThreshold_30 rfl ?_
      refine pm_cV (As := [.int 2, .int 7, .int x]) (mc2 := 0) (ms2 := 0) B rfl ((pm_up_n (by omega)).trans pm_up_s) rfl (c_X13_denies (f := f) ((pm_up_n (by omega)).trans pm_up_s)) mt_X13_denies sv_X13_83 dX13_doSetThreshold_31 rfl rfl rfl rfl rfl ?_
      refine pm_mem (M' := pm_up (pm_up (pm_up M m0 (pm_mo z m0 f)) (m0 + 1) (.inl (kA 0, 91, .inl g))) m0 (pm_mo z m0 (upd (upd (upd f 7 7) 8 x) 6 2))) rfl ?_
      refine pm_mem (M' := pm_up (pm_up M m0 (pm_mo z m0 (upd (upd (upd f 7 7) 8 x) 6 2))) (m0 + 1) (.inl (kA 0, 91, .inl g))) (by rw [pm_up_sw (a := m0 + 1) (b := m0) (by omega), pm_up_up]) ?_
      refine pm_stk (st' := [.int 0]) rfl ?_
      have hDq4 : (d_X13_doSetThreshold x f g) = (0, (upd (upd (upd f 7 7) 8 x) 6 2), g) := by rw [d_X13_doSetThreshold, if_neg hq1, if_pos hq2]
      exact pm_ireturn B dX13_doSetThreshold_34 rfl (by first | rfl | (apply pm_nz; first | assumption | decide | exact pm_in01 _ _ _ | simp)) ⟨(by rw [hDq4]), rfl, by rw [hDq4]⟩ rfl rfl
  · refine pm_aload_n B dX13_doSetThreshold_10 rfl ?_
    refine pm_iconst (v := 1) B dX13_doSetThreshold_11 (by decide) ?_
    refine pm_cV (As := [.int 1]) (mc2 := 0) (ms2 := 0) B rfl ((pm_up_n (by omega)).trans pm_up_s) rfl (c_X13_fails (f := f) ((pm_up_n (by omega)).trans pm_up_s)) mt_X13_fails sv_X13_66 dX13_doSetThreshold_12 rfl rfl rfl rfl rfl ?_
    refine pm_mem (M' := pm_up (pm_up (pm_up M m0 (pm_mo z m0 f)) (m0 + 1) (.inl (kA 0, 91, .inl g))) m0 (pm_mo z m0 (upd f 6 1))) rfl ?_
    refine pm_mem (M' := pm_up (pm_up M m0 (pm_mo z m0 (upd f 6 1))) (m0 + 1) (.inl (kA 0, 91, .inl g))) (by rw [pm_up_sw (a := m0 + 1) (b := m0) (by omega), pm_up_up]) ?_
    refine pm_stk (st' := [.int 0]) rfl ?_
    have hDq5 : (d_X13_doSetThreshold x f g) = (0, (upd f 6 1), g) := by rw [d_X13_doSetThreshold, if_pos hq1]
    exact pm_ireturn B dX13_doSetThreshold_15 rfl (by first | rfl | (apply pm_nz; first | assumption | decide | exact pm_in01 _ _ _ | simp)) ⟨(by rw [hDq5]), rfl, by rw [hDq5]⟩ rfl rfl
theorem d_X13_doSetThreshold_k_f5 (x : Int32) (f : Nat → Int32) (g : Nat → Int32) : ((d_X13_doSetThreshold x f g).2.1) 5 = f 5 := by
  unfold d_X13_doSetThreshold
  (repeat' split) <;> rfl
def d_X13_setThreshold (x : Int32) (k : Nat) (f : Nat → Int32) (g : Nat → Int32) (gb : Nat → Int32) (gp : Nat → Int32) : (Int32 × (Nat → Int32) × (Nat → Int32) × (Nat → Int32) × (Nat → Int32)) := (((d_X13_ends ((d_X13_doSetThreshold x ((d_X13_keep f g gb).1) g).1) 0 k ((d_X13_doSetThreshold x ((d_X13_keep f g gb).1) g).2.1) ((d_X13_doSetThreshold x ((d_X13_keep f g gb).1) g).2.2) ((d_X13_keep f g gb).2) gp).1), ((d_X13_ends ((d_X13_doSetThreshold x ((d_X13_keep f g gb).1) g).1) 0 k ((d_X13_doSetThreshold x ((d_X13_keep f g gb).1) g).2.1) ((d_X13_doSetThreshold x ((d_X13_keep f g gb).1) g).2.2) ((d_X13_keep f g gb).2) gp).2.1), ((d_X13_ends ((d_X13_doSetThreshold x ((d_X13_keep f g gb).1) g).1) 0 k ((d_X13_doSetThreshold x ((d_X13_keep f g gb).1) g).2.1) ((d_X13_doSetThreshold x ((d_X13_keep f g gb).1) g).2.2) ((d_X13_keep f g gb).2) gp).2.2.1), ((d_X13_keep f g gb).2), ((d_X13_ends ((d_X13_doSetThreshold x ((d_X13_keep f g gb).1) g).1) 0 k ((d_X13_doSetThreshold x ((d_X13_keep f g gb).1) g).2.1) ((d_X13_doSetThreshold x ((d_X13_keep f g gb).1) g).2.2) ((d_X13_keep f g gb).2) gp).2.2.2))
set_option maxRecDepth 100000 in
set_option maxHeartbeats 8000000 in
theorem c_X13_setThreshold {l : Launch} {z : Nat} {D : va_G} {kA : Nat → ClassId} {kE : Nat → Nat} {nx : Nat} {M : pm_M} {x : Int32} {k : Nat}{m0 : Nat} {f : Nat → Int32} {g : Nat → Int32} {gb : Nat → Int32} {gp : Nat → Int32} (hM : M m0 = some (pm_mo z m0 f)) (hg : M (m0 + 1) = some (.inl (kA 0, 91, .inl g))) (hgb : M (m0 + 2) = some (.inl (kA 0, 91, .inl gb))) (hgp : M (m0 + 4) = some (.inl (kA 0, 728, .inl gp))) (hf5 : f 5 = nI k) (h8 : k ≤ 8) : pm_C l z D kA kE yX13_setThreshold cX13_setThreshold 2 (some .int) 3 0 0 [.ref (z + m0), .int x] nx M (pm_rt (some (.int ((d_X13_setThreshold x k f g gb gp).1))) nx (pm_up (pm_up (pm_up (pm_up M m0 (pm_mo z m0 ((d_X13_setThreshold x k f g gb gp).2.1))) (m0 + 1) (.inl (kA 0, 91, .inl ((d_X13_setThreshold x k f g gb gp).2.2.1)))) (m0 + 2) (.inl (kA 0, 91, .inl ((d_X13_setThreshold x k f g gb gp).2.2.2.1)))) (m0 + 4) (.inl (kA 0, 728, .inl ((d_X13_setThreshold x k f g gb gp).2.2.2.2))))) := by
  refine pm_mk (own := RX13) (nm := "setThreshold") mt_X13_setThreshold rfl rfl rfl rfl fun X B => ?_
  refine pm_loc (L' := [some (.ref (z + m0)), some (.int x)]) rfl ?_
  refine pm_mem (M' := pm_up (pm_up (pm_up (pm_up M m0 (pm_mo z m0 f)) (m0 + 1) (.inl (kA 0, 91, .inl g))) (m0 + 2) (.inl (kA 0, 91, .inl gb))) (m0 + 4) (.inl (kA 0, 728, .inl gp))) (by rw [pm_up_id hM, pm_up_id hg, pm_up_id hgb, pm_up_id hgp]) ?_
  refine pm_aload_n B dX13_setThreshold_0 rfl ?_
  refine pm_cV (As := []) (mc2 := 0) (ms2 := 0) B rfl ((pm_up_n (by omega)).trans ((pm_up_n (by omega)).trans ((pm_up_n (by omega)).trans pm_up_s))) rfl (c_X13_keep (f := f) (g := g) (gb := gb) ((pm_up_n (by omega)).trans ((pm_up_n (by omega)).trans ((pm_up_n (by omega)).trans pm_up_s))) ((pm_up_n (by omega)).trans ((pm_up_n (by omega)).trans pm_up_s)) ((pm_up_n (by omega)).trans pm_up_s) ) mt_X13_keep sv_X13_91 dX13_setThreshold_1 rfl rfl rfl rfl rfl ?_
  refine pm_mem (M' := pm_up (pm_up (pm_up (pm_up (pm_up (pm_up M m0 (pm_mo z m0 f)) (m0 + 1) (.inl (kA 0, 91, .inl g))) (m0 + 2) (.inl (kA 0, 91, .inl gb))) (m0 + 4) (.inl (kA 0, 728, .inl gp))) m0 (pm_mo z m0 ((d_X13_keep f g gb).1))) (m0 + 2) (.inl (kA 0, 91, .inl ((d_X13_keep f g gb).2)))) rfl ?_
  refine pm_mem (M' := pm_up (pm_up (pm_up (pm_up (pm_up M m0 (pm_mo z m0 ((d_X13_keep f g gb).1))) (m0 + 1) (.inl (kA 0, 91, .inl g))) (m0 + 2) (.inl (kA 0, 91, .inl gb))) (m0 + 4) (.inl (kA 0, 728, .inl gp))) (m0 + 2) (.inl (kA 0, 91, .inl ((d_X13_keep f g gb).2)))) (by rw [pm_up_sw (a := m0 + 4) (b := m0) (by omega), pm_up_sw (a := m0 + 2) (b := m0) (by omega), pm_up_sw (a := m0 + 1) (b := m0) (by omega), pm_up_up (a := m0)]) ?_
  refine pm_mem (M' := pm_up (pm_up (pm_up (pm_up M m0 (pm_mo z m0 ((d_X13_keep f g gb).1))) (m0 + 1) (.inl (kA 0, 91, .inl g))) (m0 + 2) (.inl (kA 0, 91, .inl ((d_X13_keep f g gb).2)))) (m0 + 4) (.inl (kA 0, 728, .inl gp))) (by rw [pm_up_sw (a := m0 + 4) (b := m0 + 2) (by omega), pm_up_up (a := m0 + 2)]) ?_
  refine pm_stk (st' := []) rfl ?_
  refine pm_aload_n B dX13_setThreshold_4 rfl ?_
  refine pm_aload_n B dX13_setThreshold_5 rfl ?_
  refine pm_iload_n B dX13_setThreshold_6 rfl ?_
  refine pm_cV (As := [.int x]) (mc2 := 0) (ms2 := 0) B rfl ((pm_up_n (by omega)).trans ((pm_up_n (by omega)).trans ((pm_up_n (by omega)).trans pm_up_s))) rfl (c_X13_doSetThreshold (x := x) (f := ((d_X13_keep f g gb).1)) (g := g) ((pm_up_n (by omega)).trans ((pm_up_n (by omega)).trans ((pm_up_n (by omega)).trans pm_up_s))) ((pm_up_n (by omega)).trans ((pm_up_n (by omega)).trans pm_up_s)) ) mt_X13_doSetThreshold sv_X13_178 dX13_setThreshold_7 rfl rfl rfl rfl rfl ?_
  refine pm_mem (M' := pm_up (pm_up (pm_up (pm_up (pm_up (pm_up M m0 (pm_mo z m0 ((d_X13_keep f g gb).1))) (m0 + 1) (.inl (kA 0, 91, .inl g))) (m0 + 2) (.inl (kA 0, 91, .inl ((d_X13_keep f g gb).2)))) (m0 + 4) (.inl (kA 0, 728, .inl gp))) m0 (pm_mo z m0 ((d_X13_doSetThreshold x ((d_X13_keep f g gb).1) g).2.1))) (m0 + 1) (.inl (kA 0, 91, .inl ((d_X13_doSetThreshold x ((d_X13_keep f g gb).1) g).2.2)))) rfl ?_
  refine pm_mem (M' := pm_up (pm_up (pm_up (pm_up (pm_up M m0 (pm_mo z m0 ((d_X13_doSetThreshold x ((d_X13_keep f g gb).1) g).2.1))) (m0 + 1) (.inl (kA 0, 91, .inl g))) (m0 + 2) (.inl (kA 0, 91, .inl ((d_X13_keep f g gb).2)))) (m0 + 4) (.inl (kA 0, 728, .inl gp))) (m0 + 1) (.inl (kA 0, 91, .inl ((d_X13_doSetThreshold x ((d_X13_keep f g gb).1) g).2.2)))) (by rw [pm_up_sw (a := m0 + 4) (b := m0) (by omega), pm_up_sw (a := m0 + 2) (b := m0) (by omega), pm_up_sw (a := m0 + 1) (b := m0) (by omega), pm_up_up (a := m0)]) ?_
  refine pm_mem (M' := pm_up (pm_up (pm_up (pm_up M m0 (pm_mo z m0 ((d_X13_doSetThreshold x ((d_X13_keep f g gb).1) g).2.1))) (m0 + 1) (.inl (kA 0, 91, .inl ((d_X13_doSetThreshold x ((d_X13_keep f g gb).1) g).2.2)))) (m0 + 2) (.inl (kA 0, 91, .inl ((d_X13_keep f g gb).2)))) (m0 + 4) (.inl (kA 0, 728, .inl gp))) (by rw [pm_up_sw (a := m0 + 4) (b := m0 + 1) (by omega), pm_up_sw (a := m0 + 2) (b := m0 + 1) (by omega), pm_up_up (a := m0 + 1)]) ?_
  refine pm_stk (st' := [.int ((d_X13_doSetThreshold x ((d_X13_keep f g gb).1) g).1), .ref (z + m0)]) rfl ?_
  refine pm_iconst (v := 0) B dX13_setThreshold_10 (by decide) ?_
  refine pm_cV (As := [.int ((d_X13_doSetThreshold x ((d_X13_keep f g gb).1) g).1), .int 0]) (mc2 := 0) (ms2 := 0) B rfl ((pm_up_n (by omega)).trans ((pm_up_n (by omega)).trans ((pm_up_n (by omega)).trans pm_up_s))) rfl (c_X13_ends (x := ((d_X13_doSetThreshold x ((d_X13_keep f g gb).1) g).1)) (y := 0) (k := k) (f := ((d_X13_doSetThreshold x ((d_X13_keep f g gb).1) g).2.1)) (g := ((d_X13_doSetThreshold x ((d_X13_keep f g gb).1) g).2.2)) (gb := ((d_X13_keep f g gb).2)) (gp := gp) ((pm_up_n (by omega)).trans ((pm_up_n (by omega)).trans ((pm_up_n (by omega)).trans pm_up_s))) ((pm_up_n (by omega)).trans ((pm_up_n (by omega)).trans pm_up_s)) ((pm_up_n (by omega)).trans pm_up_s) pm_up_s (show ((d_X13_doSetThreshold x ((d_X13_keep f g gb).1) g).2.1) 5 = (nI k) from by rw [((d_X13_doSetThreshold_k_f5 x ((d_X13_keep f g gb).1) g).trans ((d_X13_keep_k_f5  f g gb).trans hf5))]) (by first | assumption | omega)) mt_X13_ends sv_X13_97 dX13_setThreshold_11 rfl rfl rfl rfl rfl ?_
  refine pm_mem (M' := pm_up (pm_up (pm_up (pm_up (pm_up (pm_up (pm_up M m0 (pm_mo z m0 ((d_X13_doSetThreshold x ((d_X13_keep f g gb).1) g).2.1))) (m0 + 1) (.inl (kA 0, 91, .inl ((d_X13_doSetThreshold x ((d_X13_keep f g gb).1) g).2.2)))) (m0 + 2) (.inl (kA 0, 91, .inl ((d_X13_keep f g gb).2)))) (m0 + 4) (.inl (kA 0, 728, .inl gp))) m0 (pm_mo z m0 ((d_X13_ends ((d_X13_doSetThreshold x ((d_X13_keep f g gb).1) g).1) 0 k ((d_X13_doSetThreshold x ((d_X13_keep f g gb).1) g).2.1) ((d_X13_doSetThreshold x ((d_X13_keep f g gb).1) g).2.2) ((d_X13_keep f g gb).2) gp).2.1))) (m0 + 1) (.inl (kA 0, 91, .inl ((d_X13_ends ((d_X13_doSetThreshold x ((d_X13_keep f g gb).1) g).1) 0 k ((d_X13_doSetThreshold x ((d_X13_keep f g gb).1) g).2.1) ((d_X13_doSetThreshold x ((d_X13_keep f g gb).1) g).2.2) ((d_X13_keep f g gb).2) gp).2.2.1)))) (m0 + 4) (.inl (kA 0, 728, .inl ((d_X13_ends ((d_X13_doSetThreshold x ((d_X13_keep f g gb).1) g).1) 0 k ((d_X13_doSetThreshold x ((d_X13_keep f g gb).1) g).2.1) ((d_X13_doSetThreshold x ((d_X13_keep f g gb).1) g).2.2) ((d_X13_keep f g gb).2) gp).2.2.2)))) rfl ?_
  refine pm_mem (M' := pm_up (pm_up (pm_up (pm_up (pm_up (pm_up M m0 (pm_mo z m0 ((d_X13_ends ((d_X13_doSetThreshold x ((d_X13_keep f g gb).1) g).1) 0 k ((d_X13_doSetThreshold x ((d_X13_keep f g gb).1) g).2.1) ((d_X13_doSetThreshold x ((d_X13_keep f g gb).1) g).2.2) ((d_X13_keep f g gb).2) gp).2.1))) (m0 + 1) (.inl (kA 0, 91, .inl ((d_X13_doSetThreshold x ((d_X13_keep f g gb).1) g).2.2)))) (m0 + 2) (.inl (kA 0, 91, .inl ((d_X13_keep f g gb).2)))) (m0 + 4) (.inl (kA 0, 728, .inl gp))) (m0 + 1) (.inl (kA 0, 91, .inl ((d_X13_ends ((d_X13_doSetThreshold x ((d_X13_keep f g gb).1) g).1) 0 k ((d_X13_doSetThreshold x ((d_X13_keep f g gb).1) g).2.1) ((d_X13_doSetThreshold x ((d_X13_keep f g gb).1) g).2.2) ((d_X13_keep f g gb).2) gp).2.2.1)))) (m0 + 4) (.inl (kA 0, 728, .inl ((d_X13_ends ((d_X13_doSetThreshold x ((d_X13_keep f g gb).1) g).1) 0 k ((d_X13_doSetThreshold x ((d_X13_keep f g gb).1) g).2.1) ((d_X13_doSetThreshold x ((d_X13_keep f g gb).1) g).2.2) ((d_X13_keep f g gb).2) gp).2.2.2)))) (by rw [pm_up_sw (a := m0 + 4) (b := m0) (by omega), pm_up_sw (a := m0 + 2) (b := m0) (by omega), pm_up_sw (a := m0 + 1) (b := m0) (by omega), pm_up_up (a := m0)]) ?_
  refine pm_mem (M' := pm_up (pm_up (pm_up (pm_up (pm_up M m0 (pm_mo z m0 ((d_X13_ends ((d_X13_doSetThreshold x ((d_X13_keep f g gb).1) g).1) 0 k ((d_X13_doSetThreshold x ((d_X13_keep f g gb).1) g).2.1) ((d_X13_doSetThreshold x ((d_X13_keep f g gb).1) g).2.2) ((d_X13_keep f g gb).2) gp).2.1))) (m0 + 1) (.inl (kA 0, 91, .inl ((d_X13_ends ((d_X13_doSetThreshold x ((d_X13_keep f g gb).1) g).1) 0 k ((d_X13_doSetThreshold x ((d_X13_keep f g gb).1) g).2.1) ((d_X13_doSetThreshold x ((d_X13_keep f g gb).1) g).2.2) ((d_X13_keep f g gb).2) gp).2.2.1)))) (m0 + 2) (.inl (kA 0, 91, .inl ((d_X13_keep f g gb).2)))) (m0 + 4) (.inl (kA 0, 728, .inl gp))) (m0 + 4) (.inl (kA 0, 728, .inl ((d_X13_ends ((d_X13_doSetThreshold x ((d_X13_keep f g gb).1) g).1) 0 k ((d_X13_doSetThreshold x ((d_X13_keep f g gb).1) g).2.1) ((d_X13_doSetThreshold x ((d_X13_keep f g gb).1) g).2.2) ((d_X13_keep f g gb).2) gp).2.2.2)))) (by rw [pm_up_sw (a := m0 + 4) (b := m0 + 1) (by omega), pm_up_sw (a := m0 + 2) (b := m0 + 1) (by omega), pm_up_up (a := m0 + 1)]) ?_
  refine pm_mem (M' := pm_up (pm_up (pm_up (pm_up M m0 (pm_mo z m0 ((d_X13_ends ((d_X13_doSetThreshold x ((d_X13_keep f g gb).1) g).1) 0 k ((d_X13_doSetThreshold x ((d_X13_keep f g gb).1) g).2.1) ((d_X13_doSetThreshold x ((d_X13_keep f g gb).1) g).2.2) ((d_X13_keep f g gb).2) gp).2.1))) (m0 + 1) (.inl (kA 0, 91, .inl ((d_X13_ends ((d_X13_doSetThreshold x ((d_X13_keep f g gb).1) g).1) 0 k ((d_X13_doSetThreshold x ((d_X13_keep f g gb).1) g).2.1) ((d_X13_doSetThreshold x ((d_X13_keep f g gb).1) g).2.2) ((d_X13_keep f g gb).2) gp).2.2.1)))) (m0 + 2) (.inl (kA 0, 91, .inl ((d_X13_keep f g gb).2)))) (m0 + 4) (.inl (kA 0, 728, .inl ((d_X13_ends ((d_X13_doSetThreshold x ((d_X13_keep f g gb).1) g).1) 0 k ((d_X13_doSetThreshold x ((d_X13_keep f g gb).1) g).2.1) ((d_X13_doSetThreshold x ((d_X13_keep f g gb).1) g).2.2) ((d_X13_keep f g gb).2) gp).2.2.2)))) (by rw [pm_up_up (a := m0 + 4)]) ?_
  refine pm_stk (st' := [.int ((d_X13_ends ((d_X13_doSetThreshold x ((d_X13_keep f g gb).1) g).1) 0 k ((d_X13_doSetThreshold x ((d_X13_keep f g gb).1) g).2.1) ((d_X13_doSetThreshold x ((d_X13_keep f g gb).1) g).2.2) ((d_X13_keep f g gb).2) gp).1)]) rfl ?_
  have hDq1 : (d_X13_setThreshold x k f g gb gp) = (((d_X13_ends ((d_X13_doSetThreshold x ((d_X13_keep f g gb).1) g).1) 0 k ((d_X13_doSetThreshold x ((d_X13_keep f g gb).1) g).2.1) ((d_X13_doSetThreshold x ((d_X13_keep f g gb).1) g).2.2) ((d_X13_keep f g gb).2) gp).1), ((d_X13_ends ((d_X13_doSetThreshold x ((d_X13_keep f g gb).1) g).1) 0 k ((d_X13_doSetThreshold x ((d_X13_keep f g gb).1) g).2.1) ((d_X13_doSetThreshold x ((d_X13_keep f g gb).1) g).2.2) ((d_X13_keep f g gb).2) gp).2.1), ((d_X13_ends ((d_X13_doSetThreshold x ((d_X13_keep f g gb).1) g).1) 0 k ((d_X13_doSetThreshold x ((d_X13_keep f g gb).1) g).2.1) ((d_X13_doSetThreshold x ((d_X13_keep f g gb).1) g).2.2) ((d_X13_keep f g gb).2) gp).2.2.1), ((d_X13_keep f g gb).2), ((d_X13_ends ((d_X13_doSetThreshold x ((d_X13_keep f g gb).1) g).1) 0 k ((d_X13_doSetThreshold x ((d_X13_keep f g gb).1) g).2.1) ((d_X13_doSetThreshold x ((d_X13_keep f g gb).1) g).2.2) ((d_X13_keep f g gb).2) gp).2.2.2)) := by rw [d_X13_setThreshold]
  exact pm_ireturn B dX13_setThreshold_14 rfl (by first | rfl | (apply pm_nz; first | assumption | decide | exact pm_in01 _ _ _ | simp)) ⟨(by rw [hDq1]), rfl, by rw [hDq1]⟩ rfl rfl
def d_X13_doSell (x : Int32) (y : Int32) (n : Nat) (f : Nat → Int32) (g : Nat → Int32) : (Int32 × (Nat → Int32) × (Nat → Int32)) := if (pm_in x 0 (nI n - 1)) = 0 then (0, (upd f 6 1), g) else (if (pm_in y 1 99) = 0 then (0, (upd f 6 2), g) else (if (pm_ib g (pm_n x)) = 0 then (if y ≤ ((g (7 + 5 * (pm_n x) + 0)) - (g (7 + 5 * (pm_n x) + 3))) then (((g (7 + 5 * (pm_n x) + 3)) + y), f, (upd g (7 + 5 * (pm_n x) + 3) ((g (7 + 5 * (pm_n x) + 3)) + y))) else (0, (upd (upd (upd f 7 3) 8 ((g (7 + 5 * (pm_n x) + 0)) - (g (7 + 5 * (pm_n x) + 3)))) 6 3), g)) else (0, (upd (upd (upd f 7 2) 8 (-(g (7 + 5 * (pm_n x) + 4)))) 6 3), g)))
set_option maxRecDepth 100000 in
set_option maxHeartbeats 8000000 in
theorem c_X13_doSell {l : Launch} {z : Nat} {D : va_G} {kA : Nat → ClassId} {kE : Nat → Nat} {nx : Nat} {M : pm_M} {x : Int32} {y : Int32} {n : Nat}{m0 : Nat} {f : Nat → Int32} {g : Nat → Int32} (hM : M m0 = some (pm_mo z m0 f)) (hg : M (m0 + 1) = some (.inl (kA 0, 91, .inl g))) (hn : g 0 = nI n) (h7 : n ≤ 7) : pm_C l z D kA kE yX13_doSell cX13_doSell 4 (some .int) 2 0 0 [.ref (z + m0), .int x, .int y] nx M (pm_rt (some (.int ((d_X13_doSell x y n f g).1))) nx (pm_up (pm_up M m0 (pm_mo z m0 ((d_X13_doSell x y n f g).2.1))) (m0 + 1) (.inl (kA 0, 91, .inl ((d_X13_doSell x y n f g).2.2))))) := by
  refine pm_mk (own := RX13) (nm := "doSell") mt_X13_doSell rfl rfl rfl rfl fun X B => ?_
  refine pm_loc (L' := [some (.ref (z + m0)), some (.int x), some (.int y), none]) rfl ?_
  refine pm_mem (M' := pm_up (pm_up M m0 (pm_mo z m0 f)) (m0 + 1) (.inl (kA 0, 91, .inl g))) (by rw [pm_up_id hM, pm_up_id hg]) ?_
  refine pm_aload_n B dX13_doSell_0 rfl ?_
  refine pm_iload_n B dX13_doSell_1 rfl ?_
  refine pm_cV (As := [.int x]) (mc2 := 0) (ms2 := 0) B rfl ((pm_up_n (by omega)).trans pm_up_s) rfl (c_X13_isMember (f := f) ((pm_up_n (by omega)).trans pm_up_s) pm_up_s) mt_X13_isMember sv_X13_100 dX13_doSell_2 rfl rfl rfl rfl rfl ?_
  refine pm_stk (st' := [.int (pm_in x 0 (g 0 - 1))]) rfl ?_
  refine pm_stk (st' := [.int (pm_in x 0 (nI n - 1))]) (by rw [show (pm_in x 0 (g 0 - 1)) = (pm_in x 0 (nI n - 1)) from by rw [hn]]) ?_
  refine pm_if_ne (tgt := 14) B dX13_doSell_5 (by decide) (fun hq1 => ?_) (fun hq1 => ?_)
  · obtain ⟨he_x, hl_x⟩ := pm_in_nx h7 hq1
    refine pm_loc (L' := [some (.ref (z + m0)), some (.int (nI (pm_n x))), some (.int y), none]) (congrArg (fun yy : Int32 => ([some (.ref (z + m0)), some (.int yy), some (.int y), none] : List (Option Value))) he_x) ?_
    refine pm_iload_n B dX13_doSell_14 rfl ?_
    refine pm_iconst (v := 1) B dX13_doSell_15 (by decide) ?_
    refine pm_bipush (v := 99) B dX13_doSell_16 (by decide) ?_
    refine pm_cS (As := [.int y, .int 1, .int 99]) (mc2 := 0) (ms2 := 0) B c_X13_in mt_X13_in ss_X13_70 dX13_doSell_18 rfl rfl rfl rfl rfl ?_
    refine pm_stk (st' := [.int (pm_in y 1 99)]) rfl ?_
    refine pm_if_ne (tgt := 30) B dX13_doSell_21 (by decide) (fun hq2 => ?_) (fun hq2 => ?_)
    · refine pm_aload_n B dX13_doSell_30 rfl ?_
      refine pm_iload_n B dX13_doSell_31 rfl ?_
      refine pm_cV (As := [.int (nI (pm_n x))]) (mc2 := 0) (ms2 := 0) B rfl ((pm_up_n (by omega)).trans pm_up_s) rfl (c_X13_isBarred (f := f) ((pm_up_n (by omega)).trans pm_up_s) pm_up_s (i := (pm_n x)) (by first | assumption | omega)) mt_X13_isBarred sv_X13_114 dX13_doSell_32 rfl rfl rfl rfl rfl ?_
      refine pm_stk (st' := [.int (pm_ib g (pm_n x))]) rfl ?_
      refine pm_if_eq (tgt := 52) B dX13_doSell_35 (by decide) (fun hq3 => ?_) (fun hq3 => ?_)
      · refine pm_aload_n B dX13_doSell_52 rfl ?_
        refine pm_iload_n B dX13_doSell_53 rfl ?_
        refine pm_iconst (v := 0) B dX13_doSell_54 (by decide) ?_
        refine pm_cV (As := [.int (nI (pm_n x)), .int (nI 0)]) (mc2 := 0) (ms2 := 0) B rfl ((pm_up_n (by omega)).trans pm_up_s) rfl (c_X13_of (f := f) ((pm_up_n (by omega)).trans pm_up_s) pm_up_s (i := (pm_n x)) (w := 0) (by first | assumption | omega) (by first | assumption | omega)) mt_X13_of sv_X13_74 dX13_doSell_55 rfl rfl rfl rfl rfl ?_
        refine pm_stk (st' := [.int (g (7 + 5 * (pm_n x) + 0))]) rfl ?_
        refine pm_aload_n B dX13_doSell_58 rfl ?_
        refine pm_iload_n B dX13_doSell_59 rfl ?_
        refine pm_iconst (v := 3) B dX13_doSell_60 (by decide) ?_
        refine pm_cV (As := [.int (nI (pm_n x)), .int (nI 3)]) (mc2 := 0) (ms2 := 0) B rfl ((pm_up_n (by omega)).trans pm_up_s) rfl (c_X13_of (f := f) ((pm_up_n (by omega)).trans pm_up_s) pm_up_s (i := (pm_n x)) (w := 3) (by first | assumption | omega) (by first | assumption | omega)) mt_X13_of sv_X13_74 dX13_doSell_61 rfl rfl rfl rfl rfl ?_
        refine pm_stk (st' := [.int (g (7 + 5 * (pm_n x) + 3)), .int (g (7 + 5 * (pm_n x) + 0))]) rfl ?_
        refine pm_isub B dX13_doSell_64 ?_
        refine pm_istore_n B dX13_doSell_65 rfl rfl ?_
        refine pm_loc (L' := [some (.ref (z + m0)), some (.int (nI (pm_n x))), some (.int y), some (.int ((g (7 + 5 * (pm_n x) + 0)) - (g (7 + 5 * (pm_n x) + 3))))]) rfl ?_
        refine pm_iload_n B dX13_doSell_66 rfl ?_
        refine pm_iload_n B dX13_doSell_67 rfl ?_
        refine pm_icmp_le (tgt := 79) B dX13_doSell_68 (by decide) (fun hq4 => ?_) (fun hq4 => ?_)
        · refine pm_aload_n B dX13_doSell_79 rfl ?_
          refine pm_iload_n B dX13_doSell_80 rfl ?_
          refine pm_iconst (v := 3) B dX13_doSell_81 (by decide) ?_
          refine pm_aload_n B dX13_doSell_82 rfl ?_
          refine pm_iload_n B dX13_doSell_83 rfl ?_
          refine pm_iconst (v := 3) B dX13_doSell_84 (by decide) ?_
          refine pm_cV (As := [.int (nI (pm_n x)), .int (nI 3)]) (mc2 := 0) (ms2 := 0) B rfl ((pm_up_n (by omega)).trans pm_up_s) rfl (c_X13_of (f := f) ((pm_up_n (by omega)).trans pm_up_s) pm_up_s (i := (pm_n x)) (w := 3) (by first | assumption | omega) (by first | assumption | omega)) mt_X13_of sv_X13_74 dX13_doSell_85 rfl rfl rfl rfl rfl ?_
          refine pm_stk (st' := [.int (g (7 + 5 * (pm_n x) + 3)), .int 3, .int (nI (pm_n x)), .ref (z + m0)]) rfl ?_
          refine pm_iload_n B dX13_doSell_88 rfl ?_
          refine pm_iadd B dX13_doSell_89 ?_
          refine pm_cV (As := [.int (nI (pm_n x)), .int (nI 3), .int ((g (7 + 5 * (pm_n x) + 3)) + y)]) (mc2 := 0) (ms2 := 0) B rfl ((pm_up_n (by omega)).trans pm_up_s) rfl (c_X13_sets (f := f) ((pm_up_n (by omega)).trans pm_up_s) pm_up_s (i := (pm_n x)) (w := 3) (by first | assumption | omega) (by first | assumption | omega)) mt_X13_sets sv_X13_87 dX13_doSell_90 rfl rfl rfl rfl rfl ?_
          refine pm_mem (M' := pm_up (pm_up M m0 (pm_mo z m0 f)) (m0 + 1) (.inl (kA 0, 91, .inl (upd g (7 + 5 * (pm_n x) + 3) ((g (7 + 5 * (pm_n x) + 3)) + y))))) pm_up_up ?_
          refine pm_stk (st' := []) rfl ?_
          refine pm_aload_n B dX13_doSell_93 rfl ?_
          refine pm_iload_n B dX13_doSell_94 rfl ?_
          refine pm_iconst (v := 3) B dX13_doSell_95 (by decide) ?_
          refine pm_cV (As := [.int (nI (pm_n x)), .int (nI 3)]) (mc2 := 0) (ms2 := 0) B rfl ((pm_up_n (by omega)).trans pm_up_s) rfl (c_X13_of (f := f) ((pm_up_n (by omega)).trans pm_up_s) pm_up_s (i := (pm_n x)) (w := 3) (by first | assumption | omega) (by first | assumption | omega)) mt_X13_of sv_X13_74 dX13_doSell_96 rfl rfl rfl rfl rfl ?_
          refine pm_stk (st' := [.int ((upd g (7 + 5 * (pm_n x) + 3) ((g (7 + 5 * (pm_n x) + 3)) + y)) (7 + 5 * (pm_n x) + 3))]) rfl ?_
          refine pm_stk (st' := [.int ((g (7 + 5 * (pm_n x) + 3)) + y)]) (by rw [show ((upd g (7 + 5 * (pm_n x) + 3) ((g (7 + 5 * (pm_n x) + 3)) + y)) (7 + 5 * (pm_n x) + 3)) = ((g (7 + 5 * (pm_n x) + 3)) + y) from by rw [pk_us]]) ?_
          have hDq5 : (d_X13_doSell x y n f g) = (((g (7 + 5 * (pm_n x) + 3)) + y), f, (upd g (7 + 5 * (pm_n x) + 3) ((g (7 + 5 * (pm_n x) + 3)) + y))) := by rw [d_X13_doSell, if_neg hq1, if_neg hq2, if_pos hq3, if_pos hq4]
          exact pm_ireturn B dX13_doSell_99 rfl (by first | rfl | (apply pm_nz; first | assumption | decide | exact pm_in01 _ _ _ | simp)) ⟨(by rw [hDq5]), rfl, by rw [hDq5]⟩ rfl rfl
        · refine pm_aload_n B dX13_doSell_71 rfl ?_
          refine pm_iconst (v := 3) B dX13_doSell_72 (by decide) ?_
          refine pm_iconst (v := 3) B dX13_doSell_73 (by decide) ?_
          refine pm_iload_n B dX13_doSell_74 rfl ?_
          refine pm_cV (As := [.int 3, .int 3, .int ((g (7 + 5 * (pm_n x) + 0)) - (g (7 + 5 * (pm_n x) + 3)))]) (mc2 := 0) (ms2 := 0) B rfl ((pm_up_n (by omega)).trans pm_up_s) rfl (c_X13_denies (f := f) ((pm_up_n (by omega)).trans pm_up_s)) mt_X13_denies sv_X13_83 dX13_doSell_75 rfl rfl rfl rfl rfl ?_
          refine pm_mem (M' := pm_up (pm_up (pm_up M m0 (pm_mo z m0 f)) (m0 + 1) (.inl (kA 0, 91, .inl g))) m0 (pm_mo z m0 (upd (upd (upd f 7 3) 8 ((g (7 + 5 * (pm_n x) + 0)) - (g (7 + 5 * (pm_n x) + 3)))) 6 3))) rfl ?_
          refine pm_mem (M' := pm_up (pm_up M m0 (pm_mo z m0 (upd (upd (upd f 7 3) 8 ((g (7 + 5 * (pm_n x) + 0)) - (g (7 + 5 * (pm_n x) + 3)))) 6 3))) (m0 + 1) (.inl (kA 0, 91, .inl g))) (by rw [pm_up_sw (a := m0 + 1) (b := m0) (by omega), pm_up_up]) ?_
          refine pm_stk (st' := [.int 0]) rfl ?_
          have hDq6 : (d_X13_doSell x y n f g) = (0, (upd (upd (upd f 7 3) 8 ((g (7 + 5 * (pm_n x) + 0)) - (g (7 + 5 * (pm_n x) + 3)))) 6 3), g) := by rw [d_X13_doSell, if_neg hq1, if_neg hq2, if_pos hq3, if_neg hq4]
          exact pm_ireturn B dX13_doSell_78 rfl (by first | rfl | (apply pm_nz; first | assumption | decide | exact pm_in01 _ _ _ | simp)) ⟨(by rw [hDq6]), rfl, by rw [hDq6]⟩ rfl rfl
      · refine pm_aload_n B dX13_doSell_38 rfl ?_
        refine pm_iconst (v := 3) B dX13_doSell_39 (by decide) ?_
        refine pm_iconst (v := 2) B dX13_doSell_40 (by decide) ?_
        refine pm_aload_n B dX13_doSell_41 rfl ?_
        refine pm_iload_n B dX13_doSell_42 rfl ?_
        refine pm_iconst (v := 4) B dX13_doSell_43 (by decide) ?_
        refine pm_cV (As := [.int (nI (pm_n x)), .int (nI 4)]) (mc2 := 0) (ms2 := 0) B rfl ((pm_up_n (by omega)).trans pm_up_s) rfl (c_X13_of (f := f) ((pm_up_n (by omega)).trans pm_up_s) pm_up_s (i := (pm_n x)) (w := 4) (by first | assumption | omega) (by first | assumption | omega)) mt_X13_of sv_X13_74 dX13_doSell_44 rfl rfl rfl rfl rfl ?_
        refine pm_stk (st' := [.int (g (7 + 5 * (pm_n x) + 4)), .int 2, .int 3, .ref (z + m0)]) rfl ?_
        refine pm_ineg B dX13_doSell_47 ?_
        refine pm_cV (As := [.int 3, .int 2, .int (-(g (7 + 5 * (pm_n x) + 4)))]) (mc2 := 0) (ms2 := 0) B rfl ((pm_up_n (by omega)).trans pm_up_s) rfl (c_X13_denies (f := f) ((pm_up_n (by omega)).trans pm_up_s)) mt_X13_denies sv_X13_83 dX13_doSell_48 rfl rfl rfl rfl rfl ?_
        refine pm_mem (M' := pm_up (pm_up (pm_up M m0 (pm_mo z m0 f)) (m0 + 1) (.inl (kA 0, 91, .inl g))) m0 (pm_mo z m0 (upd (upd (upd f 7 2) 8 (-(g (7 + 5 * (pm_n x) + 4)))) 6 3))) rfl ?_
        refine pm_mem (M' := pm_up (pm_up M m0 (pm_mo z m0 (upd (upd (upd f 7 2) 8 (-(g (7 + 5 * (pm_n x) + 4)))) 6 3))) (m0 + 1) (.inl (kA 0, 91, .inl g))) (by rw [pm_up_sw (a := m0 + 1) (b := m0) (by omega), pm_up_up]) ?_
        refine pm_stk (st' := [.int 0]) rfl ?_
        have hDq7 : (d_X13_doSell x y n f g) = (0, (upd (upd (upd f 7 2) 8 (-(g (7 + 5 * (pm_n x) + 4)))) 6 3), g) := by rw [d_X13_doSell, if_neg hq1, if_neg hq2, if_neg hq3]
        exact pm_ireturn B dX13_doSell_51 rfl (by first | rfl | (apply pm_nz; first | assumption | decide | exact pm_in01 _ _ _ | simp)) ⟨(by rw [hDq7]), rfl, by rw [hDq7]⟩ rfl rfl
    · refine pm_aload_n B dX13_doSell_24 rfl ?_
      refine pm_iconst (v := 2) B dX13_doSell_25 (by decide) ?_
      refine pm_cV (As := [.int 2]) (mc2 := 0) (ms2 := 0) B rfl ((pm_up_n (by omega)).trans pm_up_s) rfl (c_X13_fails (f := f) ((pm_up_n (by omega)).trans pm_up_s)) mt_X13_fails sv_X13_66 dX13_doSell_26 rfl rfl rfl rfl rfl ?_
      refine pm_mem (M' := pm_up (pm_up (pm_up M m0 (pm_mo z m0 f)) (m0 + 1) (.inl (kA 0, 91, .inl g))) m0 (pm_mo z m0 (upd f 6 2))) rfl ?_
      refine pm_mem (M' := pm_up (pm_up M m0 (pm_mo z m0 (upd f 6 2))) (m0 + 1) (.inl (kA 0, 91, .inl g))) (by rw [pm_up_sw (a := m0 + 1) (b := m0) (by omega), pm_up_up]) ?_
      refine pm_stk (st' := [.int 0]) rfl ?_
      have hDq8 : (d_X13_doSell x y n f g) = (0, (upd f 6 2), g) := by rw [d_X13_doSell, if_neg hq1, if_pos hq2]
      exact pm_ireturn B dX13_doSell_29 rfl (by first | rfl | (apply pm_nz; first | assumption | decide | exact pm_in01 _ _ _ | simp)) ⟨(by rw [hDq8]), rfl, by rw [hDq8]⟩ rfl rfl
  · refine pm_aload_n B dX13_doSell_8 rfl ?_
    refine pm_iconst (v := 1) B dX13_doSell_9 (by decide) ?_
    refine pm_cV (As := [.int 1]) (mc2 := 0) (ms2 := 0) B rfl ((pm_up_n (by omega)).trans pm_up_s) rfl (c_X13_fails (f := f) ((pm_up_n (by omega)).trans pm_up_s)) mt_X13_fails sv_X13_66 dX13_doSell_10 rfl rfl rfl rfl rfl ?_
    refine pm_mem (M' := pm_up (pm_up (pm_up M m0 (pm_mo z m0 f)) (m0 + 1) (.inl (kA 0, 91, .inl g))) m0 (pm_mo z m0 (upd f 6 1))) rfl ?_
    refine pm_mem (M' := pm_up (pm_up M m0 (pm_mo z m0 (upd f 6 1))) (m0 + 1) (.inl (kA 0, 91, .inl g))) (by rw [pm_up_sw (a := m0 + 1) (b := m0) (by omega), pm_up_up]) ?_
    refine pm_stk (st' := [.int 0]) rfl ?_
    have hDq9 : (d_X13_doSell x y n f g) = (0, (upd f 6 1), g) := by rw [d_X13_doSell, if_pos hq1]
    exact pm_ireturn B dX13_doSell_13 rfl (by first | rfl | (apply pm_nz; first | assumption | decide | exact pm_in01 _ _ _ | simp)) ⟨(by rw [hDq9]), rfl, by rw [hDq9]⟩ rfl rfl
theorem d_X13_doSell_k_f5 (x : Int32) (y : Int32) (n : Nat) (f : Nat → Int32) (g : Nat → Int32) : ((d_X13_doSell x y n f g).2.1) 5 = f 5 := by
  unfold d_X13_doSell
  (repeat' split) <;> rfl
def d_X13_sell (x : Int32) (y : Int32) (n : Nat) (k : Nat) (f : Nat → Int32) (g : Nat → Int32) (gb : Nat → Int32) (gp : Nat → Int32) : (Int32 × (Nat → Int32) × (Nat → Int32) × (Nat → Int32) × (Nat → Int32)) := (((d_X13_ends ((d_X13_doSell x y n ((d_X13_keep f g gb).1) g).1) 0 k ((d_X13_doSell x y n ((d_X13_keep f g gb).1) g).2.1) ((d_X13_doSell x y n ((d_X13_keep f g gb).1) g).2.2) ((d_X13_keep f g gb).2) gp).1), ((d_X13_ends ((d_X13_doSell x y n ((d_X13_keep f g gb).1) g).1) 0 k ((d_X13_doSell x y n ((d_X13_keep f g gb).1) g).2.1) ((d_X13_doSell x y n ((d_X13_keep f g gb).1) g).2.2) ((d_X13_keep f g gb).2) gp).2.1), ((d_X13_ends ((d_X13_doSell x y n ((d_X13_keep f g gb).1) g).1) 0 k ((d_X13_doSell x y n ((d_X13_keep f g gb).1) g).2.1) ((d_X13_doSell x y n ((d_X13_keep f g gb).1) g).2.2) ((d_X13_keep f g gb).2) gp).2.2.1), ((d_X13_keep f g gb).2), ((d_X13_ends ((d_X13_doSell x y n ((d_X13_keep f g gb).1) g).1) 0 k ((d_X13_doSell x y n ((d_X13_keep f g gb).1) g).2.1) ((d_X13_doSell x y n ((d_X13_keep f g gb).1) g).2.2) ((d_X13_keep f g gb).2) gp).2.2.2))
set_option maxRecDepth 100000 in
set_option maxHeartbeats 8000000 in
theorem c_X13_sell {l : Launch} {z : Nat} {D : va_G} {kA : Nat → ClassId} {kE : Nat → Nat} {nx : Nat} {M : pm_M} {x : Int32} {y : Int32} {n : Nat} {k : Nat}{m0 : Nat} {f : Nat → Int32} {g : Nat → Int32} {gb : Nat → Int32} {gp : Nat → Int32} (hM : M m0 = some (pm_mo z m0 f)) (hg : M (m0 + 1) = some (.inl (kA 0, 91, .inl g))) (hgb : M (m0 + 2) = some (.inl (kA 0, 91, .inl gb))) (hgp : M (m0 + 4) = some (.inl (kA 0, 728, .inl gp))) (hn : g 0 = nI n) (h7 : n ≤ 7) (hf5 : f 5 = nI k) (h8 : k ≤ 8) : pm_C l z D kA kE yX13_sell cX13_sell 3 (some .int) 3 0 0 [.ref (z + m0), .int x, .int y] nx M (pm_rt (some (.int ((d_X13_sell x y n k f g gb gp).1))) nx (pm_up (pm_up (pm_up (pm_up M m0 (pm_mo z m0 ((d_X13_sell x y n k f g gb gp).2.1))) (m0 + 1) (.inl (kA 0, 91, .inl ((d_X13_sell x y n k f g gb gp).2.2.1)))) (m0 + 2) (.inl (kA 0, 91, .inl ((d_X13_sell x y n k f g gb gp).2.2.2.1)))) (m0 + 4) (.inl (kA 0, 728, .inl ((d_X13_sell x y n k f g gb gp).2.2.2.2))))) := by
  refine pm_mk (own := RX13) (nm := "sell") mt_X13_sell rfl rfl rfl rfl fun X B => ?_
  refine pm_loc (L' := [some (.ref (z + m0)), some (.int x), some (.int y)]) rfl ?_
  refine pm_mem (M' := pm_up (pm_up (pm_up (pm_up M m0 (pm_mo z m0 f)) (m0 + 1) (.inl (kA 0, 91, .inl g))) (m0 + 2) (.inl (kA 0, 91, .inl gb))) (m0 + 4) (.inl (kA 0, 728, .inl gp))) (by rw [pm_up_id hM, pm_up_id hg, pm_up_id hgb, pm_up_id hgp]) ?_
  refine pm_aload_n B dX13_sell_0 rfl ?_
  refine pm_cV (As := []) (mc2 := 0) (ms2 := 0) B rfl ((pm_up_n (by omega)).trans ((pm_up_n (by omega)).trans ((pm_up_n (by omega)).trans pm_up_s))) rfl (c_X13_keep (f := f) (g := g) (gb := gb) ((pm_up_n (by omega)).trans ((pm_up_n (by omega)).trans ((pm_up_n (by omega)).trans pm_up_s))) ((pm_up_n (by omega)).trans ((pm_up_n (by omega)).trans pm_up_s)) ((pm_up_n (by omega)).trans pm_up_s) ) mt_X13_keep sv_X13_91 dX13_sell_1 rfl rfl rfl rfl rfl ?_
  refine pm_mem (M' := pm_up (pm_up (pm_up (pm_up (pm_up (pm_up M m0 (pm_mo z m0 f)) (m0 + 1) (.inl (kA 0, 91, .inl g))) (m0 + 2) (.inl (kA 0, 91, .inl gb))) (m0 + 4) (.inl (kA 0, 728, .inl gp))) m0 (pm_mo z m0 ((d_X13_keep f g gb).1))) (m0 + 2) (.inl (kA 0, 91, .inl ((d_X13_keep f g gb).2)))) rfl ?_
  refine pm_mem (M' := pm_up (pm_up (pm_up (pm_up (pm_up M m0 (pm_mo z m0 ((d_X13_keep f g gb).1))) (m0 + 1) (.inl (kA 0, 91, .inl g))) (m0 + 2) (.inl (kA 0, 91, .inl gb))) (m0 + 4) (.inl (kA 0, 728, .inl gp))) (m0 + 2) (.inl (kA 0, 91, .inl ((d_X13_keep f g gb).2)))) (by rw [pm_up_sw (a := m0 + 4) (b := m0) (by omega), pm_up_sw (a := m0 + 2) (b := m0) (by omega), pm_up_sw (a := m0 + 1) (b := m0) (by omega), pm_up_up (a := m0)]) ?_
  refine pm_mem (M' := pm_up (pm_up (pm_up (pm_up M m0 (pm_mo z m0 ((d_X13_keep f g gb).1))) (m0 + 1) (.inl (kA 0, 91, .inl g))) (m0 + 2) (.inl (kA 0, 91, .inl ((d_X13_keep f g gb).2)))) (m0 + 4) (.inl (kA 0, 728, .inl gp))) (by rw [pm_up_sw (a := m0 + 4) (b := m0 + 2) (by omega), pm_up_up (a := m0 + 2)]) ?_
  refine pm_stk (st' := []) rfl ?_
  refine pm_aload_n B dX13_sell_4 rfl ?_
  refine pm_aload_n B dX13_sell_5 rfl ?_
  refine pm_iload_n B dX13_sell_6 rfl ?_
  refine pm_iload_n B dX13_sell_7 rfl ?_
  refine pm_cV (As := [.int x, .int y]) (mc2 := 0) (ms2 := 0) B rfl ((pm_up_n (by omega)).trans ((pm_up_n (by omega)).trans ((pm_up_n (by omega)).trans pm_up_s))) rfl (c_X13_doSell (x := x) (y := y) (n := n) (f := ((d_X13_keep f g gb).1)) (g := g) ((pm_up_n (by omega)).trans ((pm_up_n (by omega)).trans ((pm_up_n (by omega)).trans pm_up_s))) ((pm_up_n (by omega)).trans ((pm_up_n (by omega)).trans pm_up_s)) hn (by first | assumption | omega)) mt_X13_doSell sv_X13_134 dX13_sell_8 rfl rfl rfl rfl rfl ?_
  refine pm_mem (M' := pm_up (pm_up (pm_up (pm_up (pm_up (pm_up M m0 (pm_mo z m0 ((d_X13_keep f g gb).1))) (m0 + 1) (.inl (kA 0, 91, .inl g))) (m0 + 2) (.inl (kA 0, 91, .inl ((d_X13_keep f g gb).2)))) (m0 + 4) (.inl (kA 0, 728, .inl gp))) m0 (pm_mo z m0 ((d_X13_doSell x y n ((d_X13_keep f g gb).1) g).2.1))) (m0 + 1) (.inl (kA 0, 91, .inl ((d_X13_doSell x y n ((d_X13_keep f g gb).1) g).2.2)))) rfl ?_
  refine pm_mem (M' := pm_up (pm_up (pm_up (pm_up (pm_up M m0 (pm_mo z m0 ((d_X13_doSell x y n ((d_X13_keep f g gb).1) g).2.1))) (m0 + 1) (.inl (kA 0, 91, .inl g))) (m0 + 2) (.inl (kA 0, 91, .inl ((d_X13_keep f g gb).2)))) (m0 + 4) (.inl (kA 0, 728, .inl gp))) (m0 + 1) (.inl (kA 0, 91, .inl ((d_X13_doSell x y n ((d_X13_keep f g gb).1) g).2.2)))) (by rw [pm_up_sw (a := m0 + 4) (b := m0) (by omega), pm_up_sw (a := m0 + 2) (b := m0) (by omega), pm_up_sw (a := m0 + 1) (b := m0) (by omega), pm_up_up (a := m0)]) ?_
  refine pm_mem (M' := pm_up (pm_up (pm_up (pm_up M m0 (pm_mo z m0 ((d_X13_doSell x y n ((d_X13_keep f g gb).1) g).2.1))) (m0 + 1) (.inl (kA 0, 91, .inl ((d_X13_doSell x y n ((d_X13_keep f g gb).1) g).2.2)))) (m0 + 2) (.inl (kA 0, 91, .inl ((d_X13_keep f g gb).2)))) (m0 + 4) (.inl (kA 0, 728, .inl gp))) (by rw [pm_up_sw (a := m0 + 4) (b := m0 + 1) (by omega), pm_up_sw (a := m0 + 2) (b := m0 + 1) (by omega), pm_up_up (a := m0 + 1)]) ?_
  refine pm_stk (st' := [.int ((d_X13_doSell x y n ((d_X13_keep f g gb).1) g).1), .ref (z + m0)]) rfl ?_
  refine pm_iconst (v := 0) B dX13_sell_11 (by decide) ?_
  refine pm_cV (As := [.int ((d_X13_doSell x y n ((d_X13_keep f g gb).1) g).1), .int 0]) (mc2 := 0) (ms2 := 0) B rfl ((pm_up_n (by omega)).trans ((pm_up_n (by omega)).trans ((pm_up_n (by omega)).trans pm_up_s))) rfl (c_X13_ends (x := ((d_X13_doSell x y n ((d_X13_keep f g gb).1) g).1)) (y := 0) (k := k) (f := ((d_X13_doSell x y n ((d_X13_keep f g gb).1) g).2.1)) (g := ((d_X13_doSell x y n ((d_X13_keep f g gb).1) g).2.2)) (gb := ((d_X13_keep f g gb).2)) (gp := gp) ((pm_up_n (by omega)).trans ((pm_up_n (by omega)).trans ((pm_up_n (by omega)).trans pm_up_s))) ((pm_up_n (by omega)).trans ((pm_up_n (by omega)).trans pm_up_s)) ((pm_up_n (by omega)).trans pm_up_s) pm_up_s (show ((d_X13_doSell x y n ((d_X13_keep f g gb).1) g).2.1) 5 = (nI k) from by rw [((d_X13_doSell_k_f5 x y n ((d_X13_keep f g gb).1) g).trans ((d_X13_keep_k_f5  f g gb).trans hf5))]) (by first | assumption | omega)) mt_X13_ends sv_X13_97 dX13_sell_12 rfl rfl rfl rfl rfl ?_
  refine pm_mem (M' := pm_up (pm_up (pm_up (pm_up (pm_up (pm_up (pm_up M m0 (pm_mo z m0 ((d_X13_doSell x y n ((d_X13_keep f g gb).1) g).2.1))) (m0 + 1) (.inl (kA 0, 91, .inl ((d_X13_doSell x y n ((d_X13_keep f g gb).1) g).2.2)))) (m0 + 2) (.inl (kA 0, 91, .inl ((d_X13_keep f g gb).2)))) (m0 + 4) (.inl (kA 0, 728, .inl gp))) m0 (pm_mo z m0 ((d_X13_ends ((d_X13_doSell x y n ((d_X13_keep f g gb).1) g).1) 0 k ((d_X13_doSell x y n ((d_X13_keep f g gb).1) g).2.1) ((d_X13_doSell x y n ((d_X13_keep f g gb).1) g).2.2) ((d_X13_keep f g gb).2) gp).2.1))) (m0 + 1) (.inl (kA 0, 91, .inl ((d_X13_ends ((d_X13_doSell x y n ((d_X13_keep f g gb).1) g).1) 0 k ((d_X13_doSell x y n ((d_X13_keep f g gb).1) g).2.1) ((d_X13_doSell x y n ((d_X13_keep f g gb).1) g).2.2) ((d_X13_keep f g gb).2) gp).2.2.1)))) (m0 + 4) (.inl (kA 0, 728, .inl ((d_X13_ends ((d_X13_doSell x y n ((d_X13_keep f g gb).1) g).1) 0 k ((d_X13_doSell x y n ((d_X13_keep f g gb).1) g).2.1) ((d_X13_doSell x y n ((d_X13_keep f g gb).1) g).2.2) ((d_X13_keep f g gb).2) gp).2.2.2)))) rfl ?_
  refine pm_mem (M' := pm_up (pm_up (pm_up (pm_up (pm_up (pm_up M m0 (pm_mo z m0 ((d_X13_ends ((d_X13_doSell x y n ((d_X13_keep f g gb).1) g).1) 0 k ((d_X13_doSell x y n ((d_X13_keep f g gb).1) g).2.1) ((d_X13_doSell x y n ((d_X13_keep f g gb).1) g).2.2) ((d_X13_keep f g gb).2) gp).2.1))) (m0 + 1) (.inl (kA 0, 91, .inl ((d_X13_doSell x y n ((d_X13_keep f g gb).1) g).2.2)))) (m0 + 2) (.inl (kA 0, 91, .inl ((d_X13_keep f g gb).2)))) (m0 + 4) (.inl (kA 0, 728, .inl gp))) (m0 + 1) (.inl (kA 0, 91, .inl ((d_X13_ends ((d_X13_doSell x y n ((d_X13_keep f g gb).1) g).1) 0 k ((d_X13_doSell x y n ((d_X13_keep f g gb).1) g).2.1) ((d_X13_doSell x y n ((d_X13_keep f g gb).1) g).2.2) ((d_X13_keep f g gb).2) gp).2.2.1)))) (m0 + 4) (.inl (kA 0, 728, .inl ((d_X13_ends ((d_X13_doSell x y n ((d_X13_keep f g gb).1) g).1) 0 k ((d_X13_doSell x y n ((d_X13_keep f g gb).1) g).2.1) ((d_X13_doSell x y n ((d_X13_keep f g gb).1) g).2.2) ((d_X13_keep f g gb).2) gp).2.2.2)))) (by rw [pm_up_sw (a := m0 + 4) (b := m0) (by omega), pm_up_sw (a := m0 + 2) (b := m0) (by omega), pm_up_sw (a := m0 + 1) (b := m0) (by omega), pm_up_up (a := m0)]) ?_
  refine pm_mem (M' := pm_up (pm_up (pm_up (pm_up (pm_up M m0 (pm_mo z m0 ((d_X13_ends ((d_X13_doSell x y n ((d_X13_keep f g gb).1) g).1) 0 k ((d_X13_doSell x y n ((d_X13_keep f g gb).1) g).2.1) ((d_X13_doSell x y n ((d_X13_keep f g gb).1) g).2.2) ((d_X13_keep f g gb).2) gp).2.1))) (m0 + 1) (.inl (kA 0, 91, .inl ((d_X13_ends ((d_X13_doSell x y n ((d_X13_keep f g gb).1) g).1) 0 k ((d_X13_doSell x y n ((d_X13_keep f g gb).1) g).2.1) ((d_X13_doSell x y n ((d_X13_keep f g gb).1) g).2.2) ((d_X13_keep f g gb).2) gp).2.2.1)))) (m0 + 2) (.inl (kA 0, 91, .inl ((d_X13_keep f g gb).2)))) (m0 + 4) (.inl (kA 0, 728, .inl gp))) (m0 + 4) (.inl (kA 0, 728, .inl ((d_X13_ends ((d_X13_doSell x y n ((d_X13_keep f g gb).1) g).1) 0 k ((d_X13_doSell x y n ((d_X13_keep f g gb).1) g).2.1) ((d_X13_doSell x y n ((d_X13_keep f g gb).1) g).2.2) ((d_X13_keep f g gb).2) gp).2.2.2)))) (by rw [pm_up_sw (a := m0 + 4) (b := m0 + 1) (by omega), pm_up_sw (a := m0 + 2) (b := m0 + 1) (by omega), pm_up_up (a := m0 + 1)]) ?_
  refine pm_mem (M' := pm_up (pm_up (pm_up (pm_up M m0 (pm_mo z m0 ((d_X13_ends ((d_X13_doSell x y n ((d_X13_keep f g gb).1) g).1) 0 k ((d_X13_doSell x y n ((d_X13_keep f g gb).1) g).2.1) ((d_X13_doSell x y n ((d_X13_keep f g gb).1) g).2.2) ((d_X13_keep f g gb).2) gp).2.1))) (m0 + 1) (.inl (kA 0, 91, .inl ((d_X13_ends ((d_X13_doSell x y n ((d_X13_keep f g gb).1) g).1) 0 k ((d_X13_doSell x y n ((d_X13_keep f g gb).1) g).2.1) ((d_X13_doSell x y n ((d_X13_keep f g gb).1) g).2.2) ((d_X13_keep f g gb).2) gp).2.2.1)))) (m0 + 2) (.inl (kA 0, 91, .inl ((d_X13_keep f g gb).2)))) (m0 + 4) (.inl (kA 0, 728, .inl ((d_X13_ends ((d_X13_doSell x y n ((d_X13_keep f g gb).1) g).1) 0 k ((d_X13_doSell x y n ((d_X13_keep f g gb).1) g).2.1) ((d_X13_doSell x y n ((d_X13_keep f g gb).1) g).2.2) ((d_X13_keep f g gb).2) gp).2.2.2)))) (by rw [pm_up_up (a := m0 + 4)]) ?_
  refine pm_stk (st' := [.int ((d_X13_ends ((d_X13_doSell x y n ((d_X13_keep f g gb).1) g).1) 0 k ((d_X13_doSell x y n ((d_X13_keep f g gb).1) g).2.1) ((d_X13_doSell x y n ((d_X13_keep f g gb).1) g).2.2) ((d_X13_keep f g gb).2) gp).1)]) rfl ?_
  have hDq1 : (d_X13_sell x y n k f g gb gp) = (((d_X13_ends ((d_X13_doSell x y n ((d_X13_keep f g gb).1) g).1) 0 k ((d_X13_doSell x y n ((d_X13_keep f g gb).1) g).2.1) ((d_X13_doSell x y n ((d_X13_keep f g gb).1) g).2.2) ((d_X13_keep f g gb).2) gp).1), ((d_X13_ends ((d_X13_doSell x y n ((d_X13_keep f g gb).1) g).1) 0 k ((d_X13_doSell x y n ((d_X13_keep f g gb).1) g).2.1) ((d_X13_doSell x y n ((d_X13_keep f g gb).1) g).2.2) ((d_X13_keep f g gb).2) gp).2.1), ((d_X13_ends ((d_X13_doSell x y n ((d_X13_keep f g gb).1) g).1) 0 k ((d_X13_doSell x y n ((d_X13_keep f g gb).1) g).2.1) ((d_X13_doSell x y n ((d_X13_keep f g gb).1) g).2.2) ((d_X13_keep f g gb).2) gp).2.2.1), ((d_X13_keep f g gb).2), ((d_X13_ends ((d_X13_doSell x y n ((d_X13_keep f g gb).1) g).1) 0 k ((d_X13_doSell x y n ((d_X13_keep f g gb).1) g).2.1) ((d_X13_doSell x y n ((d_X13_keep f g gb).1) g).2.2) ((d_X13_keep f g gb).2) gp).2.2.2)) := by rw [d_X13_sell]
  exact pm_ireturn B dX13_sell_15 rfl (by first | rfl | (apply pm_nz; first | assumption | decide | exact pm_in01 _ _ _ | simp)) ⟨(by rw [hDq1]), rfl, by rw [hDq1]⟩ rfl rfl
def d_X13_doPardon_L1 (x : Int32) (g : Nat → Int32) : Nat → Nat → Int32 → Int32
  | 0, _, a2_1 => a2_1
  | k1 + 1, j1, a2_1 => if ((upd g (7 + 5 * (pm_n x) + 4) 0) (7 + 5 * j1 + 4)) = 0 then (d_X13_doPardon_L1 x g k1 (j1 + 1) (a2_1 + 1)) else (d_X13_doPardon_L1 x g k1 (j1 + 1) (a2_1 + 0))
def d_X13_doPardon (x : Int32) (n : Nat) (f : Nat → Int32) (g : Nat → Int32) : (Int32 × (Nat → Int32) × (Nat → Int32)) := if (pm_in x 0 (nI n - 1)) = 0 then (0, (upd f 6 1), g) else (if (g (7 + 5 * (pm_n x) + 4)) = 0 then (0, (upd (upd (upd f 7 5) 8 (nI (pm_n x))) 6 2), g) else ((d_X13_doPardon_L1 x g n 0 0), f, (upd g (7 + 5 * (pm_n x) + 4) 0)))
set_option maxRecDepth 100000 in
set_option maxHeartbeats 8000000 in
theorem c_X13_doPardon {l : Launch} {z : Nat} {D : va_G} {kA : Nat → ClassId} {kE : Nat → Nat} {nx : Nat} {M : pm_M} {x : Int32} {n : Nat}{m0 : Nat} {f : Nat → Int32} {g : Nat → Int32} (hM : M m0 = some (pm_mo z m0 f)) (hg : M (m0 + 1) = some (.inl (kA 0, 91, .inl g))) (hn : g 0 = nI n) (h7 : n ≤ 7) : pm_C l z D kA kE yX13_doPardon cX13_doPardon 4 (some .int) 2 0 0 [.ref (z + m0), .int x] nx M (pm_rt (some (.int ((d_X13_doPardon x n f g).1))) nx (pm_up (pm_up M m0 (pm_mo z m0 ((d_X13_doPardon x n f g).2.1))) (m0 + 1) (.inl (kA 0, 91, .inl ((d_X13_doPardon x n f g).2.2))))) := by
  refine pm_mk (own := RX13) (nm := "doPardon") mt_X13_doPardon rfl rfl rfl rfl fun X B => ?_
  refine pm_loc (L' := [some (.ref (z + m0)), some (.int x), none, none]) rfl ?_
  refine pm_mem (M' := pm_up (pm_up M m0 (pm_mo z m0 f)) (m0 + 1) (.inl (kA 0, 91, .inl g))) (by rw [pm_up_id hM, pm_up_id hg]) ?_
  refine pm_aload_n B dX13_doPardon_0 rfl ?_
  refine pm_iload_n B dX13_doPardon_1 rfl ?_
  refine pm_cV (As := [.int x]) (mc2 := 0) (ms2 := 0) B rfl ((pm_up_n (by omega)).trans pm_up_s) rfl (c_X13_isMember (f := f) ((pm_up_n (by omega)).trans pm_up_s) pm_up_s) mt_X13_isMember sv_X13_100 dX13_doPardon_2 rfl rfl rfl rfl rfl ?_
  refine pm_stk (st' := [.int (pm_in x 0 (g 0 - 1))]) rfl ?_
  refine pm_stk (st' := [.int (pm_in x 0 (nI n - 1))]) (by rw [show (pm_in x 0 (g 0 - 1)) = (pm_in x 0 (nI n - 1)) from by rw [hn]]) ?_
  refine pm_if_ne (tgt := 14) B dX13_doPardon_5 (by decide) (fun hq1 => ?_) (fun hq1 => ?_)
  · obtain ⟨he_x, hl_x⟩ := pm_in_nx h7 hq1
    refine pm_loc (L' := [some (.ref (z + m0)), some (.int (nI (pm_n x))), none, none]) (congrArg (fun yy : Int32 => ([some (.ref (z + m0)), some (.int yy), none, none] : List (Option Value))) he_x) ?_
    refine pm_aload_n B dX13_doPardon_14 rfl ?_
    refine pm_iload_n B dX13_doPardon_15 rfl ?_
    refine pm_iconst (v := 4) B dX13_doPardon_16 (by decide) ?_
    refine pm_cV (As := [.int (nI (pm_n x)), .int (nI 4)]) (mc2 := 0) (ms2 := 0) B rfl ((pm_up_n (by omega)).trans pm_up_s) rfl (c_X13_of (f := f) ((pm_up_n (by omega)).trans pm_up_s) pm_up_s (i := (pm_n x)) (w := 4) (by first | assumption | omega) (by first | assumption | omega)) mt_X13_of sv_X13_74 dX13_doPardon_17 rfl rfl rfl rfl rfl ?_
    refine pm_stk (st' := [.int (g (7 + 5 * (pm_n x) + 4))]) rfl ?_
    refine pm_if_ne (tgt := 31) B dX13_doPardon_20 (by decide) (fun hq2 => ?_) (fun hq2 => ?_)
    · refine pm_aload_n B dX13_doPardon_31 rfl ?_
      refine pm_iload_n B dX13_doPardon_32 rfl ?_
      refine pm_iconst (v := 4) B dX13_doPardon_33 (by decide) ?_
      refine pm_iconst (v := 0) B dX13_doPardon_34 (by decide) ?_
      refine pm_cV (As := [.int (nI (pm_n x)), .int (nI 4), .int 0]) (mc2 := 0) (ms2 := 0) B rfl ((pm_up_n (by omega)).trans pm_up_s) rfl (c_X13_sets (f := f) ((pm_up_n (by omega)).trans pm_up_s) pm_up_s (i := (pm_n x)) (w := 4) (by first | assumption | omega) (by first | assumption | omega)) mt_X13_sets sv_X13_87 dX13_doPardon_35 rfl rfl rfl rfl rfl ?_
      refine pm_mem (M' := pm_up (pm_up M m0 (pm_mo z m0 f)) (m0 + 1) (.inl (kA 0, 91, .inl (upd g (7 + 5 * (pm_n x) + 4) 0)))) pm_up_up ?_
      refine pm_stk (st' := []) rfl ?_
      refine pm_iconst (v := 0) B dX13_doPardon_38 (by decide) ?_
      refine pm_istore_n B dX13_doPardon_39 rfl rfl ?_
      refine pm_loc (L' := [some (.ref (z + m0)), some (.int (nI (pm_n x))), some (.int 0), none]) rfl ?_
      refine pm_iconst (v := 0) B dX13_doPardon_40 (by decide) ?_
      refine pm_istore_n B dX13_doPardon_41 rfl rfl ?_
      refine pm_loc (L' := [some (.ref (z + m0)), some (.int (nI (pm_n x))), some (.int 0), some (.int 0)]) rfl ?_
      refine pm_wk (L' := [some (.ref (z + m0)), none, some (.int 0), some (.int 0)]) ⟨rfl, ⟨rfl, ⟨rfl, trivial⟩⟩⟩ ?_
      refine pm_loc (L' := [some (.ref (z + m0)), none, some (.int 0), some (.int (nI 0))]) rfl ?_
      have loop1 : ∀ (K1 : (Int32 → (Int32 × (Nat → Int32) × (Nat → Int32)))), (∀ (a2_1 : Int32), pm_G l z D X 0 0 (pm_Q z D (pm_rt (some (.int ((K1 a2_1).1))) nx (pm_up (pm_up M m0 (pm_mo z m0 ((K1 a2_1).2.1))) (m0 + 1) (.inl (kA 0, 91, .inl ((K1 a2_1).2.2))))) 0 0 X) nx (pm_up (pm_up M m0 (pm_mo z m0 f)) (m0 + 1) (.inl (kA 0, 91, .inl (upd g (7 + 5 * (pm_n x) + 4) 0)))) 75 [none, none, some (.int a2_1), none] []) → ∀ (k1 j1 : Nat), j1 + k1 = n → ∀ (a2_1 : Int32), pm_G l z D X 0 0 (pm_Q z D (pm_rt (some (.int ((K1 (d_X13_doPardon_L1 x g k1 j1 a2_1)).1))) nx (pm_up (pm_up M m0 (pm_mo z m0 ((K1 (d_X13_doPardon_L1 x g k1 j1 a2_1)).2.1))) (m0 + 1) (.inl (kA 0, 91, .inl ((K1 (d_X13_doPardon_L1 x g k1 j1 a2_1)).2.2))))) 0 0 X) nx (pm_up (pm_up M m0 (pm_mo z m0 f)) (m0 + 1) (.inl (kA 0, 91, .inl (upd g (7 + 5 * (pm_n x) + 4) 0)))) 42 [some (.ref (z + m0)), none, some (.int a2_1), some (.int (nI j1))] [] := by
        intro K1 hK1 k1
        induction k1 with
        | zero =>
          intro j1 hj1 a2_1
          have hjn1 : j1 = n := by omega
          refine pm_iload_n B dX13_doPardon_42 rfl ?_
          refine pm_aload_n B dX13_doPardon_43 rfl ?_
          refine pm_get B dX13_doPardon_44 fl_X13_9 ((pm_up_n (by omega)).trans pm_up_s) rfl ?_
          refine pm_iconst (v := 0) B dX13_doPardon_47 (by decide) ?_
          refine pm_iald_n B dX13_doPardon_48 pm_up_s 0 (by decide) (by decide) ?_
          refine pm_stk (st' := [.int (nI n), .int (nI j1)]) (by rw [show ((upd g (7 + 5 * (pm_n x) + 4) 0) 0) = (nI n) from by rw [pk_un (show 0 ≠ 7 + 5 * (pm_n x) + 4 from (by omega)), hn]]) ?_
          refine pm_icmp_ge (tgt := 75) B dX13_doPardon_49 (by decide) (fun hq3 => ?_) (fun hq3 => absurd ((nI_leI (by first | omega | decide) (by first | omega | decide)).mpr (by omega)) hq3)
          refine pm_wk (L' := [none, none, some (.int a2_1), none]) ⟨rfl, trivial⟩ ?_
          have hDq4 : (K1 (d_X13_doPardon_L1 x g 0 j1 a2_1)) = (K1 a2_1) := by rw [d_X13_doPardon_L1]
          refine pm_pst (post' := pm_rt (some (.int ((K1 a2_1).1))) nx (pm_up (pm_up M m0 (pm_mo z m0 ((K1 a2_1).2.1))) (m0 + 1) (.inl (kA 0, 91, .inl ((K1 a2_1).2.2))))) (by rw [hDq4]) ?_
          exact hK1 a2_1
        | succ k1 ih1 =>
          intro j1 hj1 a2_1
          have hjn1 : j1 < n := by omega
          refine pm_iload_n B dX13_doPardon_42 rfl ?_
          refine pm_aload_n B dX13_doPardon_43 rfl ?_
          refine pm_get B dX13_doPardon_44 fl_X13_9 ((pm_up_n (by omega)).trans pm_up_s) rfl ?_
          refine pm_iconst (v := 0) B dX13_doPardon_47 (by decide) ?_
          refine pm_iald_n B dX13_doPardon_48 pm_up_s 0 (by decide) (by decide) ?_
          refine pm_stk (st' := [.int (nI n), .int (nI j1)]) (by rw [show ((upd g (7 + 5 * (pm_n x) + 4) 0) 0) = (nI n) from by rw [pk_un (show 0 ≠ 7 + 5 * (pm_n x) + 4 from (by omega)), hn]]) ?_
          refine pm_icmp_ge (tgt := 75) B dX13_doPardon_49 (by decide) (fun hq5 => absurd hq5 (fun e => absurd ((nI_leI (by first | omega | decide) (by first | omega | decide)).mp e) (by omega))) (fun hq5 => ?_)
          refine pm_iload_n B dX13_doPardon_52 rfl ?_
          refine pm_aload_n B dX13_doPardon_53 rfl ?_
          refine pm_iload_n B dX13_doPardon_54 rfl ?_
          refine pm_iconst (v := 4) B dX13_doPardon_55 (by decide) ?_
          refine pm_cV (As := [.int (nI j1), .int (nI 4)]) (mc2 := 0) (ms2 := 0) B rfl ((pm_up_n (by omega)).trans pm_up_s) rfl (c_X13_of (f := f) ((pm_up_n (by omega)).trans pm_up_s) pm_up_s (i := j1) (w := 4) (by first | assumption | omega) (by first | assumption | omega)) mt_X13_of sv_X13_74 dX13_doPardon_56 rfl rfl rfl rfl rfl ?_
          refine pm_stk (st' := [.int ((upd g (7 + 5 * (pm_n x) + 4) 0) (7 + 5 * j1 + 4)), .int a2_1]) rfl ?_
          refine pm_if_ne (tgt := 66) B dX13_doPardon_59 (by decide) (fun hq6 => ?_) (fun hq6 => ?_)
          · refine pm_iconst (v := 0) B dX13_doPardon_66 (by decide) ?_
            refine pm_iadd B dX13_doPardon_67 ?_
            refine pm_istore_n B dX13_doPardon_68 rfl rfl ?_
            refine pm_loc (L' := [some (.ref (z + m0)), none, some (.int (a2_1 + 0)), some (.int (nI j1))]) rfl ?_
            refine pm_iinc B dX13_doPardon_69 rfl rfl rfl ?_
            refine pm_loc (L' := [some (.ref (z + m0)), none, some (.int (a2_1 + 0)), some (.int (nI (j1 + 1)))]) (by rw [show ((nI j1) : Int32) + Int32.ofInt 1 = (nI (j1 + 1)) from nI_1 _]; rfl) ?_
            refine pm_goto (tgt := 42) B dX13_doPardon_72 (by decide) ?_
            have hDq7 : (K1 (d_X13_doPardon_L1 x g (k1 + 1) j1 a2_1)) = (K1 (d_X13_doPardon_L1 x g k1 (j1 + 1) (a2_1 + 0))) := by rw [d_X13_doPardon_L1, if_neg hq6]
            refine pm_pst (post' := pm_rt (some (.int ((K1 (d_X13_doPardon_L1 x g k1 (j1 + 1) (a2_1 + 0))).1))) nx (pm_up (pm_up M m0 (pm_mo z m0 ((K1 (d_X13_doPardon_L1 x g k1 (j1 + 1) (a2_1 + 0))).2.1))) (m0 + 1) (.inl (kA 0, 91, .inl ((K1 (d_X13_doPardon_L1 x g k1 (j1 + 1) (a2_1 + 0))).2.2))))) (by rw [hDq7]) ?_
            exact ih1 (j1 + 1) (by omega) (a2_1 + 0)
          · refine pm_iconst (v := 1) B dX13_doPardon_62 (by decide) ?_
            refine pm_goto (tgt := 67) B dX13_doPardon_63 (by decide) ?_
            refine pm_iadd B dX13_doPardon_67 ?_
            refine pm_istore_n B dX13_doPardon_68 rfl rfl ?_
            refine pm_loc (L' := [some (.ref (z + m0)), none, some (.int (a2_1 + 1)), some (.int (nI j1))]) rfl ?_
            refine pm_iinc B dX13_doPardon_69 rfl rfl rfl ?_
            refine pm_loc (L' := [some (.ref (z + m0)), none, some (.int (a2_1 + 1)), some (.int (nI (j1 + 1)))]) (by rw [show ((nI j1) : Int32) + Int32.ofInt 1 = (nI (j1 + 1)) from nI_1 _]; rfl) ?_
            refine pm_goto (tgt := 42) B dX13_doPardon_72 (by decide) ?_
            have hDq8 : (K1 (d_X13_doPardon_L1 x g (k1 + 1) j1 a2_1)) = (K1 (d_X13_doPardon_L1 x g k1 (j1 + 1) (a2_1 + 1))) := by rw [d_X13_doPardon_L1, if_pos hq6]
            refine pm_pst (post' := pm_rt (some (.int ((K1 (d_X13_doPardon_L1 x g k1 (j1 + 1) (a2_1 + 1))).1))) nx (pm_up (pm_up M m0 (pm_mo z m0 ((K1 (d_X13_doPardon_L1 x g k1 (j1 + 1) (a2_1 + 1))).2.1))) (m0 + 1) (.inl (kA 0, 91, .inl ((K1 (d_X13_doPardon_L1 x g k1 (j1 + 1) (a2_1 + 1))).2.2))))) (by rw [hDq8]) ?_
            exact ih1 (j1 + 1) (by omega) (a2_1 + 1)
      refine pm_pst (post' := pm_rt (some (.int (((d_X13_doPardon_L1 x g n 0 0), f, (upd g (7 + 5 * (pm_n x) + 4) 0)).1))) nx (pm_up (pm_up M m0 (pm_mo z m0 (((d_X13_doPardon_L1 x g n 0 0), f, (upd g (7 + 5 * (pm_n x) + 4) 0)).2.1))) (m0 + 1) (.inl (kA 0, 91, .inl (((d_X13_doPardon_L1 x g n 0 0), f, (upd g (7 + 5 * (pm_n x) + 4) 0)).2.2))))) (by rw [show (d_X13_doPardon x n f g) = ((d_X13_doPardon_L1 x g n 0 0), f, (upd g (7 + 5 * (pm_n x) + 4) 0)) from by rw [d_X13_doPardon, if_neg hq1, if_neg hq2]]) ?_
      refine loop1 (fun (a2_1 : Int32) => (a2_1, f, (upd g (7 + 5 * (pm_n x) + 4) 0))) ?_ n 0 (by omega) 0
      intro a2_1
      refine pm_pst (post' := pm_rt (some (.int ((a2_1, f, (upd g (7 + 5 * (pm_n x) + 4) 0)).1))) nx (pm_up (pm_up M m0 (pm_mo z m0 ((a2_1, f, (upd g (7 + 5 * (pm_n x) + 4) 0)).2.1))) (m0 + 1) (.inl (kA 0, 91, .inl ((a2_1, f, (upd g (7 + 5 * (pm_n x) + 4) 0)).2.2))))) rfl ?_
      refine pm_iload_n B dX13_doPardon_75 rfl ?_
      have hDq9 : ((a2_1, f, (upd g (7 + 5 * (pm_n x) + 4) 0))) = (a2_1, f, (upd g (7 + 5 * (pm_n x) + 4) 0)) := rfl
      exact pm_ireturn B dX13_doPardon_76 rfl (by first | rfl | (apply pm_nz; first | assumption | decide | exact pm_in01 _ _ _ | simp)) ⟨(by rw [hDq9]), rfl, by rw [hDq9]⟩ rfl rfl
    · refine pm_aload_n B dX13_doPardon_23 rfl ?_
      refine pm_iconst (v := 2) B dX13_doPardon_24 (by decide) ?_
      refine pm_iconst (v := 5) B dX13_doPardon_25 (by decide) ?_
      refine pm_iload_n B dX13_doPardon_26 rfl ?_
      refine pm_cV (As := [.int 2, .int 5, .int (nI (pm_n x))]) (mc2 := 0) (ms2 := 0) B rfl ((pm_up_n (by omega)).trans pm_up_s) rfl (c_X13_denies (f := f) ((pm_up_n (by omega)).trans pm_up_s)) mt_X13_denies sv_X13_83 dX13_doPardon_27 rfl rfl rfl rfl rfl ?_
      refine pm_mem (M' := pm_up (pm_up (pm_up M m0 (pm_mo z m0 f)) (m0 + 1) (.inl (kA 0, 91, .inl g))) m0 (pm_mo z m0 (upd (upd (upd f 7 5) 8 (nI (pm_n x))) 6 2))) rfl ?_
      refine pm_mem (M' := pm_up (pm_up M m0 (pm_mo z m0 (upd (upd (upd f 7 5) 8 (nI (pm_n x))) 6 2))) (m0 + 1) (.inl (kA 0, 91, .inl g))) (by rw [pm_up_sw (a := m0 + 1) (b := m0) (by omega), pm_up_up]) ?_
      refine pm_stk (st' := [.int 0]) rfl ?_
      have hDq10 : (d_X13_doPardon x n f g) = (0, (upd (upd (upd f 7 5) 8 (nI (pm_n x))) 6 2), g) := by rw [d_X13_doPardon, if_neg hq1, if_pos hq2]
      exact pm_ireturn B dX13_doPardon_30 rfl (by first | rfl | (apply pm_nz; first | assumption | decide | exact pm_in01 _ _ _ | simp)) ⟨(by rw [hDq10]), rfl, by rw [hDq10]⟩ rfl rfl
  · refine pm_aload_n B dX13_doPardon_8 rfl ?_
    refine pm_iconst (v := 1) B dX13_doPardon_9 (by decide) ?_
    refine pm_cV (As := [.int 1]) (mc2 := 0) (ms2 := 0) B rfl ((pm_up_n (by omega)).trans pm_up_s) rfl (c_X13_fails (f := f) ((pm_up_n (by omega)).trans pm_up_s)) mt_X13_fails sv_X13_66 dX13_doPardon_10 rfl rfl rfl rfl rfl ?_
    refine pm_mem (M' := pm_up (pm_up (pm_up M m0 (pm_mo z m0 f)) (m0 + 1) (.inl (kA 0, 91, .inl g))) m0 (pm_mo z m0 (upd f 6 1))) rfl ?_
    refine pm_mem (M' := pm_up (pm_up M m0 (pm_mo z m0 (upd f 6 1))) (m0 + 1) (.inl (kA 0, 91, .inl g))) (by rw [pm_up_sw (a := m0 + 1) (b := m0) (by omega), pm_up_up]) ?_
    refine pm_stk (st' := [.int 0]) rfl ?_
    have hDq11 : (d_X13_doPardon x n f g) = (0, (upd f 6 1), g) := by rw [d_X13_doPardon, if_pos hq1]
    exact pm_ireturn B dX13_doPardon_13 rfl (by first | rfl | (apply pm_nz; first | assumption | decide | exact pm_in01 _ _ _ | simp)) ⟨(by rw [hDq11]), rfl, by rw [hDq11]⟩ rfl rfl
theorem d_X13_doPardon_k_f5 (x : Int32) (n : Nat) (f : Nat → Int32) (g : Nat → Int32) : ((d_X13_doPardon x n f g).2.1) 5 = f 5 := by
  unfold d_X13_doPardon
  (repeat' split) <;> rfl
def d_X13_pardon (x : Int32) (n : Nat) (k : Nat) (f : Nat → Int32) (g : Nat → Int32) (gb : Nat → Int32) (gp : Nat → Int32) : (Int32 × (Nat → Int32) × (Nat → Int32) × (Nat → Int32) × (Nat → Int32)) := (((d_X13_ends ((d_X13_doPardon x n ((d_X13_keep f g gb).1) g).1) 0 k ((d_X13_doPardon x n ((d_X13_keep f g gb).1) g).2.1) ((d_X13_doPardon x n ((d_X13_keep f g gb).1) g).2.2) ((d_X13_keep f g gb).2) gp).1), ((d_X13_ends ((d_X13_doPardon x n ((d_X13_keep f g gb).1) g).1) 0 k ((d_X13_doPardon x n ((d_X13_keep f g gb).1) g).2.1) ((d_X13_doPardon x n ((d_X13_keep f g gb).1) g).2.2) ((d_X13_keep f g gb).2) gp).2.1), ((d_X13_ends ((d_X13_doPardon x n ((d_X13_keep f g gb).1) g).1) 0 k ((d_X13_doPardon x n ((d_X13_keep f g gb).1) g).2.1) ((d_X13_doPardon x n ((d_X13_keep f g gb).1) g).2.2) ((d_X13_keep f g gb).2) gp).2.2.1), ((d_X13_keep f g gb).2), ((d_X13_ends ((d_X13_doPardon x n ((d_X13_keep f g gb).1) g).1) 0 k ((d_X13_doPardon x n ((d_X13_keep f g gb).1) g).2.1) ((d_X13_doPardon x n ((d_X13_keep f g gb).1) g).2.2) ((d_X13_keep f g gb).2) gp).2.2.2))
set_option maxRecDepth 100000 in
set_option maxHeartbeats 8000000 in
theorem c_X13_pardon {l : Launch} {z : Nat} {D : va_G} {kA : Nat → ClassId} {kE : Nat → Nat} {nx : Nat} {M : pm_M} {x : Int32} {n : Nat} {k : Nat}{m0 : Nat} {f : Nat → Int32} {g : Nat → Int32} {gb : Nat → Int32} {gp : Nat → Int32} (hM : M m0 = some (pm_mo z m0 f)) (hg : M (m0 + 1) = some (.inl (kA 0, 91, .inl g))) (hgb : M (m0 + 2) = some (.inl (kA 0, 91, .inl gb))) (hgp : M (m0 + 4) = some (.inl (kA 0, 728, .inl gp))) (hn : g 0 = nI n) (h7 : n ≤ 7) (hf5 : f 5 = nI k) (h8 : k ≤ 8) : pm_C l z D kA kE yX13_pardon cX13_pardon 2 (some .int) 3 0 0 [.ref (z + m0), .int x] nx M (pm_rt (some (.int ((d_X13_pardon x n k f g gb gp).1))) nx (pm_up (pm_up (pm_up (pm_up M m0 (pm_mo z m0 ((d_X13_pardon x n k f g gb gp).2.1))) (m0 + 1) (.inl (kA 0, 91, .inl ((d_X13_pardon x n k f g gb gp).2.2.1)))) (m0 + 2) (.inl (kA 0, 91, .inl ((d_X13_pardon x n k f g gb gp).2.2.2.1)))) (m0 + 4) (.inl (kA 0, 728, .inl ((d_X13_pardon x n k f g gb gp).2.2.2.2))))) := by
  refine pm_mk (own := RX13) (nm := "pardon") mt_X13_pardon rfl rfl rfl rfl fun X B => ?_
  refine pm_loc (L' := [some (.ref (z + m0)), some (.int x)]) rfl ?_
  refine pm_mem (M' := pm_up (pm_up (pm_up (pm_up M m0 (pm_mo z m0 f)) (m0 + 1) (.inl (kA 0, 91, .inl g))) (m0 + 2) (.inl (kA 0, 91, .inl gb))) (m0 + 4) (.inl (kA 0, 728, .inl gp))) (by rw [pm_up_id hM, pm_up_id hg, pm_up_id hgb, pm_up_id hgp]) ?_
  refine pm_aload_n B dX13_pardon_0 rfl ?_
  refine pm_cV (As := []) (mc2 := 0) (ms2 := 0) B rfl ((pm_up_n (by omega)).trans ((pm_up_n (by omega)).trans ((pm_up_n (by omega)).trans pm_up_s))) rfl (c_X13_keep (f := f) (g := g) (gb := gb) ((pm_up_n (by omega)).trans ((pm_up_n (by omega)).trans ((pm_up_n (by omega)).trans pm_up_s))) ((pm_up_n (by omega)).trans ((pm_up_n (by omega)).trans pm_up_s)) ((pm_up_n (by omega)).trans pm_up_s) ) mt_X13_keep sv_X13_91 dX13_pardon_1 rfl rfl rfl rfl rfl ?_
  refine pm_mem (M' := pm_up (pm_up (pm_up (pm_up (pm_up (pm_up M m0 (pm_mo z m0 f)) (m0 + 1) (.inl (kA 0, 91, .inl g))) (m0 + 2) (.inl (kA 0, 91, .inl gb))) (m0 + 4) (.inl (kA 0, 728, .inl gp))) m0 (pm_mo z m0 ((d_X13_keep f g gb).1))) (m0 + 2) (.inl (kA 0, 91, .inl ((d_X13_keep f g gb).2)))) rfl ?_
  refine pm_mem (M' := pm_up (pm_up (pm_up (pm_up (pm_up M m0 (pm_mo z m0 ((d_X13_keep f g gb).1))) (m0 + 1) (.inl (kA 0, 91, .inl g))) (m0 + 2) (.inl (kA 0, 91, .inl gb))) (m0 + 4) (.inl (kA 0, 728, .inl gp))) (m0 + 2) (.inl (kA 0, 91, .inl ((d_X13_keep f g gb).2)))) (by rw [pm_up_sw (a := m0 + 4) (b := m0) (by omega), pm_up_sw (a := m0 + 2) (b := m0) (by omega), pm_up_sw (a := m0 + 1) (b := m0) (by omega), pm_up_up (a := m0)]) ?_
  refine pm_mem (M' := pm_up (pm_up (pm_up (pm_up M m0 (pm_mo z m0 ((d_X13_keep f g gb).1))) (m0 + 1) (.inl (kA 0, 91, .inl g))) (m0 + 2) (.inl (kA 0, 91, .inl ((d_X13_keep f g gb).2)))) (m0 + 4) (.inl (kA 0, 728, .inl gp))) (by rw [pm_up_sw (a := m0 + 4) (b := m0 + 2) (by omega), pm_up_up (a := m0 + 2)]) ?_
  refine pm_stk (st' := []) rfl ?_
  refine pm_aload_n B dX13_pardon_4 rfl ?_
  refine pm_aload_n B dX13_pardon_5 rfl ?_
  refine pm_iload_n B dX13_pardon_6 rfl ?_
  refine pm_cV (As := [.int x]) (mc2 := 0) (ms2 := 0) B rfl ((pm_up_n (by omega)).trans ((pm_up_n (by omega)).trans ((pm_up_n (by omega)).trans pm_up_s))) rfl (c_X13_doPardon (x := x) (n := n) (f := ((d_X13_keep f g gb).1)) (g := g) ((pm_up_n (by omega)).trans ((pm_up_n (by omega)).trans ((pm_up_n (by omega)).trans pm_up_s))) ((pm_up_n (by omega)).trans ((pm_up_n (by omega)).trans pm_up_s)) hn (by first | assumption | omega)) mt_X13_doPardon sv_X13_104 dX13_pardon_7 rfl rfl rfl rfl rfl ?_
  refine pm_mem (M' := pm_up (pm_up (pm_up (pm_up (pm_up (pm_up M m0 (pm_mo z m0 ((d_X13_keep f g gb).1))) (m0 + 1) (.inl (kA 0, 91, .inl g))) (m0 + 2) (.inl (kA 0, 91, .inl ((d_X13_keep f g gb).2)))) (m0 + 4) (.inl (kA 0, 728, .inl gp))) m0 (pm_mo z m0 ((d_X13_doPardon x n ((d_X13_keep f g gb).1) g).2.1))) (m0 + 1) (.inl (kA 0, 91, .inl ((d_X13_doPardon x n ((d_X13_keep f g gb).1) g).2.2)))) rfl ?_
  refine pm_mem (M' := pm_up (pm_up (pm_up (pm_up (pm_up M m0 (pm_mo z m0 ((d_X13_doPardon x n ((d_X13_keep f g gb).1) g).2.1))) (m0 + 1) (.inl (kA 0, 91, .inl g))) (m0 + 2) (.inl (kA 0, 91, .inl ((d_X13_keep f g gb).2)))) (m0 + 4) (.inl (kA 0, 728, .inl gp))) (m0 + 1) (.inl (kA 0, 91, .inl ((d_X13_doPardon x n ((d_X13_keep f g gb).1) g).2.2)))) (by rw [pm_up_sw (a := m0 + 4) (b := m0) (by omega), pm_up_sw (a := m0 + 2) (b := m0) (by omega), pm_up_sw (a := m0 + 1) (b := m0) (by omega), pm_up_up (a := m0)]) ?_
  refine pm_mem (M' := pm_up (pm_up (pm_up (pm_up M m0 (pm_mo z m0 ((d_X13_doPardon x n ((d_X13_keep f g gb).1) g).2.1))) (m0 + 1) (.inl (kA 0, 91, .inl ((d_X13_doPardon x n ((d_X13_keep f g gb).1) g).2.2)))) (m0 + 2) (.inl (kA 0, 91, .inl ((d_X13_keep f g gb).2)))) (m0 + 4) (.inl (kA 0, 728, .inl gp))) (by rw [pm_up_sw (a := m0 + 4) (b := m0 + 1) (by omega), pm_up_sw (a := m0 + 2) (b := m0 + 1) (by omega), pm_up_up (a := m0 + 1)]) ?_
  refine pm_stk (st' := [.int ((d_X13_doPardon x n ((d_X13_keep f g gb).1) g).1), .ref (z + m0)]) rfl ?_
  refine pm_iconst (v := 0) B dX13_pardon_10 (by decide) ?_
  refine pm_cV (As := [.int ((d_X13_doPardon x n ((d_X13_keep f g gb).1) g).1), .int 0]) (mc2 := 0) (ms2 := 0) B rfl ((pm_up_n (by omega)).trans ((pm_up_n (by omega)).trans ((pm_up_n (by omega)).trans pm_up_s))) rfl (c_X13_ends (x := ((d_X13_doPardon x n ((d_X13_keep f g gb).1) g).1)) (y := 0) (k := k) (f := ((d_X13_doPardon x n ((d_X13_keep f g gb).1) g).2.1)) (g := ((d_X13_doPardon x n ((d_X13_keep f g gb).1) g).2.2)) (gb := ((d_X13_keep f g gb).2)) (gp := gp) ((pm_up_n (by omega)).trans ((pm_up_n (by omega)).trans ((pm_up_n (by omega)).trans pm_up_s))) ((pm_up_n (by omega)).trans ((pm_up_n (by omega)).trans pm_up_s)) ((pm_up_n (by omega)).trans pm_up_s) pm_up_s (show ((d_X13_doPardon x n ((d_X13_keep f g gb).1) g).2.1) 5 = (nI k) from by rw [((d_X13_doPardon_k_f5 x n ((d_X13_keep f g gb).1) g).trans ((d_X13_keep_k_f5  f g gb).trans hf5))]) (by first | assumption | omega)) mt_X13_ends sv_X13_97 dX13_pardon_11 rfl rfl rfl rfl rfl ?_
  refine pm_mem (M' := pm_up (pm_up (pm_up (pm_up (pm_up (pm_up (pm_up M m0 (pm_mo z m0 ((d_X13_doPardon x n ((d_X13_keep f g gb).1) g).2.1))) (m0 + 1) (.inl (kA 0, 91, .inl ((d_X13_doPardon x n ((d_X13_keep f g gb).1) g).2.2)))) (m0 + 2) (.inl (kA 0, 91, .inl ((d_X13_keep f g gb).2)))) (m0 + 4) (.inl (kA 0, 728, .inl gp))) m0 (pm_mo z m0 ((d_X13_ends ((d_X13_doPardon x n ((d_X13_keep f g gb).1) g).1) 0 k ((d_X13_doPardon x n ((d_X13_keep f g gb).1) g).2.1) ((d_X13_doPardon x n ((d_X13_keep f g gb).1) g).2.2) ((d_X13_keep f g gb).2) gp).2.1))) (m0 + 1) (.inl (kA 0, 91, .inl ((d_X13_ends ((d_X13_doPardon x n ((d_X13_keep f g gb).1) g).1) 0 k ((d_X13_doPardon x n ((d_X13_keep f g gb).1) g).2.1) ((d_X13_doPardon x n ((d_X13_keep f g gb).1) g).2.2) ((d_X13_keep f g gb).2) gp).2.2.1)))) (m0 + 4) (.inl (kA 0, 728, .inl ((d_X13_ends ((d_X13_doPardon x n ((d_X13_keep f g gb).1) g).1) 0 k ((d_X13_doPardon x n ((d_X13_keep f g gb).1) g).2.1) ((d_X13_doPardon x n ((d_X13_keep f g gb).1) g).2.2) ((d_X13_keep f g gb).2) gp).2.2.2)))) rfl ?_
  refine pm_mem (M' := pm_up (pm_up (pm_up (pm_up (pm_up (pm_up M m0 (pm_mo z m0 ((d_X13_ends ((d_X13_doPardon x n ((d_X13_keep f g gb).1) g).1) 0 k ((d_X13_doPardon x n ((d_X13_keep f g gb).1) g).2.1) ((d_X13_doPardon x n ((d_X13_keep f g gb).1) g).2.2) ((d_X13_keep f g gb).2) gp).2.1))) (m0 + 1) (.inl (kA 0, 91, .inl ((d_X13_doPardon x n ((d_X13_keep f g gb).1) g).2.2)))) (m0 + 2) (.inl (kA 0, 91, .inl ((d_X13_keep f g gb).2)))) (m0 + 4) (.inl (kA 0, 728, .inl gp))) (m0 + 1) (.inl (kA 0, 91, .inl ((d_X13_ends ((d_X13_doPardon x n ((d_X13_keep f g gb).1) g).1) 0 k ((d_X13_doPardon x n ((d_X13_keep f g gb).1) g).2.1) ((d_X13_doPardon x n ((d_X13_keep f g gb).1) g).2.2) ((d_X13_keep f g gb).2) gp).2.2.1)))) (m0 + 4) (.inl (kA 0, 728, .inl ((d_X13_ends ((d_X13_doPardon x n ((d_X13_keep f g gb).1) g).1) 0 k ((d_X13_doPardon x n ((d_X13_keep f g gb).1) g).2.1) ((d_X13_doPardon x n ((d_X13_keep f g gb).1) g).2.2) ((d_X13_keep f g gb).2) gp).2.2.2)))) (by rw [pm_up_sw (a := m0 + 4) (b := m0) (by omega), pm_up_sw (a := m0 + 2) (b := m0) (by omega), pm_up_sw (a := m0 + 1) (b := m0) (by omega), pm_up_up (a := m0)]) ?_
  refine pm_mem (M' := pm_up (pm_up (pm_up (pm_up (pm_up M m0 (pm_mo z m0 ((d_X13_ends ((d_X13_doPardon x n ((d_X13_keep f g gb).1) g).1) 0 k ((d_X13_doPardon x n ((d_X13_keep f g gb).1) g).2.1) ((d_X13_doPardon x n ((d_X13_keep f g gb).1) g).2.2) ((d_X13_keep f g gb).2) gp).2.1))) (m0 + 1) (.inl (kA 0, 91, .inl ((d_X13_ends ((d_X13_doPardon x n ((d_X13_keep f g gb).1) g).1) 0 k ((d_X13_doPardon x n ((d_X13_keep f g gb).1) g).2.1) ((d_X13_doPardon x n ((d_X13_keep f g gb).1) g).2.2) ((d_X13_keep f g gb).2) gp).2.2.1)))) (m0 + 2) (.inl (kA 0, 91, .inl ((d_X13_keep f g gb).2)))) (m0 + 4) (.inl (kA 0, 728, .inl gp))) (m0 + 4) (.inl (kA 0, 728, .inl ((d_X13_ends ((d_X13_doPardon x n ((d_X13_keep f g gb).1) g).1) 0 k ((d_X13_doPardon x n ((d_X13_keep f g gb).1) g).2.1) ((d_X13_doPardon x n ((d_X13_keep f g gb).1) g).2.2) ((d_X13_keep f g gb).2) gp).2.2.2)))) (by rw [pm_up_sw (a := m0 + 4) (b := m0 + 1) (by omega), pm_up_sw (a := m0 + 2) (b := m0 + 1) (by omega), pm_up_up (a := m0 + 1)]) ?_
  refine pm_mem (M' := pm_up (pm_up (pm_up (pm_up M m0 (pm_mo z m0 ((d_X13_ends ((d_X13_doPardon x n ((d_X13_keep f g gb).1) g).1) 0 k ((d_X13_doPardon x n ((d_X13_keep f g gb).1) g).2.1) ((d_X13_doPardon x n ((d_X13_keep f g gb).1) g).2.2) ((d_X13_keep f g gb).2) gp).2.1))) (m0 + 1) (.inl (kA 0, 91, .inl ((d_X13_ends ((d_X13_doPardon x n ((d_X13_keep f g gb).1) g).1) 0 k ((d_X13_doPardon x n ((d_X13_keep f g gb).1) g).2.1) ((d_X13_doPardon x n ((d_X13_keep f g gb).1) g).2.2) ((d_X13_keep f g gb).2) gp).2.2.1)))) (m0 + 2) (.inl (kA 0, 91, .inl ((d_X13_keep f g gb).2)))) (m0 + 4) (.inl (kA 0, 728, .inl ((d_X13_ends ((d_X13_doPardon x n ((d_X13_keep f g gb).1) g).1) 0 k ((d_X13_doPardon x n ((d_X13_keep f g gb).1) g).2.1) ((d_X13_doPardon x n ((d_X13_keep f g gb).1) g).2.2) ((d_X13_keep f g gb).2) gp).2.2.2)))) (by rw [pm_up_up (a := m0 + 4)]) ?_
  refine pm_stk (st' := [.int ((d_X13_ends ((d_X13_doPardon x n ((d_X13_keep f g gb).1) g).1) 0 k ((d_X13_doPardon x n ((d_X13_keep f g gb).1) g).2.1) ((d_X13_doPardon x n ((d_X13_keep f g gb).1) g).2.2) ((d_X13_keep f g gb).2) gp).1)]) rfl ?_
  have hDq1 : (d_X13_pardon x n k f g gb gp) = (((d_X13_ends ((d_X13_doPardon x n ((d_X13_keep f g gb).1) g).1) 0 k ((d_X13_doPardon x n ((d_X13_keep f g gb).1) g).2.1) ((d_X13_doPardon x n ((d_X13_keep f g gb).1) g).2.2) ((d_X13_keep f g gb).2) gp).1), ((d_X13_ends ((d_X13_doPardon x n ((d_X13_keep f g gb).1) g).1) 0 k ((d_X13_doPardon x n ((d_X13_keep f g gb).1) g).2.1) ((d_X13_doPardon x n ((d_X13_keep f g gb).1) g).2.2) ((d_X13_keep f g gb).2) gp).2.1), ((d_X13_ends ((d_X13_doPardon x n ((d_X13_keep f g gb).1) g).1) 0 k ((d_X13_doPardon x n ((d_X13_keep f g gb).1) g).2.1) ((d_X13_doPardon x n ((d_X13_keep f g gb).1) g).2.2) ((d_X13_keep f g gb).2) gp).2.2.1), ((d_X13_keep f g gb).2), ((d_X13_ends ((d_X13_doPardon x n ((d_X13_keep f g gb).1) g).1) 0 k ((d_X13_doPardon x n ((d_X13_keep f g gb).1) g).2.1) ((d_X13_doPardon x n ((d_X13_keep f g gb).1) g).2.2) ((d_X13_keep f g gb).2) gp).2.2.2)) := by rw [d_X13_pardon]
  exact pm_ireturn B dX13_pardon_14 rfl (by first | rfl | (apply pm_nz; first | assumption | decide | exact pm_in01 _ _ _ | simp)) ⟨(by rw [hDq1]), rfl, by rw [hDq1]⟩ rfl rfl
def d_X13_doClose_L1  : Nat → Nat → Int32 → (Nat → Int32) → (Int32 × (Nat → Int32))
  | 0, _, a1_1, g_1 => (a1_1, g_1)
  | k1 + 1, j1, a1_1, g_1 => if 0 < (pm_mv g_1 j1) then (d_X13_doClose_L1 k1 (j1 + 1) (a1_1 + (3 * (pm_mv g_1 j1))) (upd (upd (upd (upd g_1 5 ((g_1 5) + (g_1 (7 + 5 * j1 + 3)))) 6 ((g_1 6) + (pm_mv g_1 j1))) (7 + 5 * j1 + 4) (g_1 (7 + 5 * j1 + 4))) (7 + 5 * j1 + 3) 0)) else (if (g_1 (7 + 5 * j1 + 4)) = 0 then (d_X13_doClose_L1 k1 (j1 + 1) (a1_1 + (3 * (pm_mv g_1 j1))) (upd (upd (upd (upd g_1 5 ((g_1 5) + (g_1 (7 + 5 * j1 + 3)))) 6 ((g_1 6) + (pm_mv g_1 j1))) (7 + 5 * j1 + 4) (g_1 (7 + 5 * j1 + 4))) (7 + 5 * j1 + 3) 0)) else (if (g_1 (7 + 5 * j1 + 4)) ≤ 0 then (d_X13_doClose_L1 k1 (j1 + 1) (a1_1 + (3 * (pm_mv g_1 j1))) (upd (upd (upd (upd g_1 5 ((g_1 5) + (g_1 (7 + 5 * j1 + 3)))) 6 ((g_1 6) + (pm_mv g_1 j1))) (7 + 5 * j1 + 4) ((g_1 (7 + 5 * j1 + 4)) + 1)) (7 + 5 * j1 + 3) 0)) else (d_X13_doClose_L1 k1 (j1 + 1) (a1_1 + (3 * (pm_mv g_1 j1))) (upd (upd (upd (upd g_1 5 ((g_1 5) + (g_1 (7 + 5 * j1 + 3)))) 6 ((g_1 6) + (pm_mv g_1 j1))) (7 + 5 * j1 + 4) ((g_1 (7 + 5 * j1 + 4)) - 1)) (7 + 5 * j1 + 3) 0))))
def d_X13_doClose (n : Nat) (f : Nat → Int32) (g : Nat → Int32) : (Int32 × (Nat → Int32)) := (((d_X13_doClose_L1 n 0 0 g).1), (upd ((d_X13_doClose_L1 n 0 0 g).2) 4 ((((d_X13_doClose_L1 n 0 0 g).2) 4) + 1)))
set_option maxRecDepth 100000 in
set_option maxHeartbeats 8000000 in
theorem c_X13_doClose {l : Launch} {z : Nat} {D : va_G} {kA : Nat → ClassId} {kE : Nat → Nat} {nx : Nat} {M : pm_M} {n : Nat}{m0 : Nat} {f : Nat → Int32} {g : Nat → Int32} (hM : M m0 = some (pm_mo z m0 f)) (hg : M (m0 + 1) = some (.inl (kA 0, 91, .inl g))) (hn : g 0 = nI n) (h7 : n ≤ 7) : pm_C l z D kA kE yX13_doClose cX13_doClose 5 (some .int) 2 0 0 [.ref (z + m0)] nx M (pm_rt (some (.int ((d_X13_doClose n f g).1))) nx (pm_up M (m0 + 1) (.inl (kA 0, 91, .inl ((d_X13_doClose n f g).2))))) := by
  refine pm_mk (own := RX13) (nm := "doClose") mt_X13_doClose rfl rfl rfl rfl fun X B => ?_
  refine pm_loc (L' := [some (.ref (z + m0)), none, none, none, none]) rfl ?_
  refine pm_mem (M' := pm_up M (m0 + 1) (.inl (kA 0, 91, .inl g))) (by rw [pm_up_id hg]) ?_
  refine pm_iconst (v := 0) B dX13_doClose_0 (by decide) ?_
  refine pm_istore_n B dX13_doClose_1 rfl rfl ?_
  refine pm_loc (L' := [some (.ref (z + m0)), some (.int 0), none, none, none]) rfl ?_
  refine pm_iconst (v := 0) B dX13_doClose_2 (by decide) ?_
  refine pm_istore_n B dX13_doClose_3 rfl rfl ?_
  refine pm_loc (L' := [some (.ref (z + m0)), some (.int 0), some (.int 0), none, none]) rfl ?_
  refine pm_loc (L' := [some (.ref (z + m0)), some (.int 0), some (.int (nI 0)), none, none]) rfl ?_
  have loop1 : ∀ (K1 : (Int32 → (Nat → Int32) → (Int32 × (Nat → Int32)))), (∀ (a1_1 : Int32) (g_1 : (Nat → Int32)), (hn_1 : g_1 0 = nI n) → pm_G l z D X 0 0 (pm_Q z D (pm_rt (some (.int ((K1 a1_1 g_1).1))) nx (pm_up M (m0 + 1) (.inl (kA 0, 91, .inl ((K1 a1_1 g_1).2))))) 0 0 X) nx (pm_up M (m0 + 1) (.inl (kA 0, 91, .inl g_1))) 109 [some (.ref (z + m0)), some (.int a1_1), none, none, none] []) → ∀ (k1 j1 : Nat), j1 + k1 = n → ∀ (a1_1 : Int32) (g_1 : (Nat → Int32)), (hn_1 : g_1 0 = nI n) → pm_G l z D X 0 0 (pm_Q z D (pm_rt (some (.int ((K1 ((d_X13_doClose_L1 k1 j1 a1_1 g_1).1) ((d_X13_doClose_L1 k1 j1 a1_1 g_1).2)).1))) nx (pm_up M (m0 + 1) (.inl (kA 0, 91, .inl ((K1 ((d_X13_doClose_L1 k1 j1 a1_1 g_1).1) ((d_X13_doClose_L1 k1 j1 a1_1 g_1).2)).2))))) 0 0 X) nx (pm_up M (m0 + 1) (.inl (kA 0, 91, .inl g_1))) 4 [some (.ref (z + m0)), some (.int a1_1), some (.int (nI j1)), none, none] [] := by
    intro K1 hK1 k1
    induction k1 with
    | zero =>
      intro j1 hj1 a1_1 g_1 hn_1
      have hjn1 : j1 = n := by omega
      refine pm_iload_n B dX13_doClose_4 rfl ?_
      refine pm_aload_n B dX13_doClose_5 rfl ?_
      refine pm_get B dX13_doClose_6 fl_X13_9 ((pm_up_n (by omega)).trans hM) rfl ?_
      refine pm_iconst (v := 0) B dX13_doClose_9 (by decide) ?_
      refine pm_iald_n B dX13_doClose_10 pm_up_s 0 (by decide) (by decide) ?_
      refine pm_stk (st' := [.int (nI n), .int (nI j1)]) (by rw [show (g_1 0) = (nI n) from by rw [hn_1]]) ?_
      refine pm_icmp_ge (tgt := 109) B dX13_doClose_11 (by decide) (fun hq1 => ?_) (fun hq1 => absurd ((nI_leI (by first | omega | decide) (by first | omega | decide)).mpr (by omega)) hq1)
      refine pm_wk (L' := [some (.ref (z + m0)), some (.int a1_1), none, none, none]) ⟨rfl, ⟨rfl, trivial⟩⟩ ?_
      have hDq2 : (K1 ((d_X13_doClose_L1 0 j1 a1_1 g_1).1) ((d_X13_doClose_L1 0 j1 a1_1 g_1).2)) = (K1 a1_1 g_1) := by rw [d_X13_doClose_L1]
      refine pm_pst (post' := pm_rt (some (.int ((K1 a1_1 g_1).1))) nx (pm_up M (m0 + 1) (.inl (kA 0, 91, .inl ((K1 a1_1 g_1).2))))) (by rw [hDq2]) ?_
      exact hK1 a1_1 g_1 (hn_1)
    | succ k1 ih1 =>
      intro j1 hj1 a1_1 g_1 hn_1
      have hjn1 : j1 < n := by omega
      refine pm_iload_n B dX13_doClose_4 rfl ?_
      refine pm_aload_n B dX13_doClose_5 rfl ?_
      refine pm_get B dX13_doClose_6 fl_X13_9 ((pm_up_n (by omega)).trans hM) rfl ?_
      refine pm_iconst (v := 0) B dX13_doClose_9 (by decide) ?_
      refine pm_iald_n B dX13_doClose_10 pm_up_s 0 (by decide) (by decide) ?_
      refine pm_stk (st' := [.int (nI n), .int (nI j1)]) (by rw [show (g_1 0) = (nI n) from by rw [hn_1]]) ?_
      refine pm_icmp_ge (tgt := 109) B dX13_doClose_11 (by decide) (fun hq3 => absurd hq3 (fun e => absurd ((nI_leI (by first | omega | decide) (by first | omega | decide)).mp e) (by omega))) (fun hq3 => ?_)
      refine pm_aload_n B dX13_doClose_14 rfl ?_
      refine pm_iload_n B dX13_doClose_15 rfl ?_
      refine pm_cV (As := [.int (nI j1)]) (mc2 := 0) (ms2 := 0) B rfl ((pm_up_n (by omega)).trans hM) rfl (c_X13_over (f := f) ((pm_up_n (by omega)).trans hM) pm_up_s (i := j1) (by first | assumption | omega)) mt_X13_over sv_X13_117 dX13_doClose_16 rfl rfl rfl rfl rfl ?_
      refine pm_stk (st' := [.int (pm_mv g_1 j1)]) rfl ?_
      refine pm_istore_n B dX13_doClose_19 rfl rfl ?_
      refine pm_loc (L' := [some (.ref (z + m0)), some (.int a1_1), some (.int (nI j1)), some (.int (pm_mv g_1 j1)), none]) rfl ?_
      refine pm_aload_n B dX13_doClose_20 rfl ?_
      refine pm_iload_n B dX13_doClose_21 rfl ?_
      refine pm_iconst (v := 4) B dX13_doClose_22 (by decide) ?_
      refine pm_cV (As := [.int (nI j1), .int (nI 4)]) (mc2 := 0) (ms2 := 0) B rfl ((pm_up_n (by omega)).trans hM) rfl (c_X13_of (f := f) ((pm_up_n (by omega)).trans hM) pm_up_s (i := j1) (w := 4) (by first | assumption | omega) (by first | assumption | omega)) mt_X13_of sv_X13_74 dX13_doClose_23 rfl rfl rfl rfl rfl ?_
      refine pm_stk (st' := [.int (g_1 (7 + 5 * j1 + 4))]) rfl ?_
      refine pm_istore B dX13_doClose_26 rfl rfl ?_
      refine pm_loc (L' := [some (.ref (z + m0)), some (.int a1_1), some (.int (nI j1)), some (.int (pm_mv g_1 j1)), some (.int (g_1 (7 + 5 * j1 + 4)))]) rfl ?_
      refine pm_iload_n B dX13_doClose_28 rfl ?_
      refine pm_iconst (v := 3) B dX13_doClose_29 (by decide) ?_
      refine pm_iload_n B dX13_doClose_30 rfl ?_
      refine pm_imul B dX13_doClose_31 ?_
      refine pm_iadd B dX13_doClose_32 ?_
      refine pm_istore_n B dX13_doClose_33 rfl rfl ?_
      refine pm_loc (L' := [some (.ref (z + m0)), some (.int (a1_1 + (3 * (pm_mv g_1 j1)))), some (.int (nI j1)), some (.int (pm_mv g_1 j1)), some (.int (g_1 (7 + 5 * j1 + 4)))]) rfl ?_
      refine pm_aload_n B dX13_doClose_34 rfl ?_
      refine pm_get B dX13_doClose_35 fl_X13_9 ((pm_up_n (by omega)).trans hM) rfl ?_
      refine pm_iconst (v := 5) B dX13_doClose_38 (by decide) ?_
      refine pm_dup2 B dX13_doClose_39 rfl rfl ?_
      refine pm_iald_n B dX13_doClose_40 pm_up_s 5 (by decide) (by decide) ?_
      refine pm_aload_n B dX13_doClose_41 rfl ?_
      refine pm_iload_n B dX13_doClose_42 rfl ?_
      refine pm_iconst (v := 3) B dX13_doClose_43 (by decide) ?_
      refine pm_cV (As := [.int (nI j1), .int (nI 3)]) (mc2 := 0) (ms2 := 0) B rfl ((pm_up_n (by omega)).trans hM) rfl (c_X13_of (f := f) ((pm_up_n (by omega)).trans hM) pm_up_s (i := j1) (w := 3) (by first | assumption | omega) (by first | assumption | omega)) mt_X13_of sv_X13_74 dX13_doClose_44 rfl rfl rfl rfl rfl ?_
      refine pm_stk (st' := [.int (g_1 (7 + 5 * j1 + 3)), .int (g_1 5), .int 5, .ref (z + (m0 + 1))]) rfl ?_
      refine pm_iadd B dX13_doClose_47 ?_
      refine pm_iast_n B dX13_doClose_48 pm_up_s 5 (by decide) (by decide) ?_
      refine pm_mem (M' := pm_up M (m0 + 1) (.inl (kA 0, 91, .inl (upd g_1 5 ((g_1 5) + (g_1 (7 + 5 * j1 + 3))))))) pm_up_up ?_
      refine pm_aload_n B dX13_doClose_49 rfl ?_
      refine pm_get B dX13_doClose_50 fl_X13_9 ((pm_up_n (by omega)).trans hM) rfl ?_
      refine pm_bipush (v := 6) B dX13_doClose_53 (by decide) ?_
      refine pm_dup2 B dX13_doClose_55 rfl rfl ?_
      refine pm_iald_n B dX13_doClose_56 pm_up_s 6 (by decide) (by decide) ?_
      refine pm_stk (st' := [.int (g_1 6), .int 6, .ref (z + (m0 + 1))]) (by rw [show ((upd g_1 5 ((g_1 5) + (g_1 (7 + 5 * j1 + 3)))) 6) = (g_1 6) from by rw [pk_un (show 6 ≠ 5 from (by decide))]]) ?_
      refine pm_iload_n B dX13_doClose_57 rfl ?_
      refine pm_iadd B dX13_doClose_58 ?_
      refine pm_iast_n B dX13_doClose_59 pm_up_s 6 (by decide) (by decide) ?_
      refine pm_mem (M' := pm_up M (m0 + 1) (.inl (kA 0, 91, .inl (upd (upd g_1 5 ((g_1 5) + (g_1 (7 + 5 * j1 + 3)))) 6 ((g_1 6) + (pm_mv g_1 j1)))))) pm_up_up ?_
      refine pm_aload_n B dX13_doClose_60 rfl ?_
      refine pm_iload_n B dX13_doClose_61 rfl ?_
      refine pm_iconst (v := 4) B dX13_doClose_62 (by decide) ?_
      refine pm_iload_n B dX13_doClose_63 rfl ?_
      refine pm_if_gt (tgt := 72) B dX13_doClose_64 (by decide) (fun hq4 => ?_) (fun hq4 => ?_)
      · refine pm_iload B dX13_doClose_72 rfl ?_
        refine pm_goto (tgt := 93) B dX13_doClose_74 (by decide) ?_
        refine pm_cV (As := [.int (nI j1), .int (nI 4), .int (g_1 (7 + 5 * j1 + 4))]) (mc2 := 0) (ms2 := 0) B rfl ((pm_up_n (by omega)).trans hM) rfl (c_X13_sets (f := f) ((pm_up_n (by omega)).trans hM) pm_up_s (i := j1) (w := 4) (by first | assumption | omega) (by first | assumption | omega)) mt_X13_sets sv_X13_87 dX13_doClose_93 rfl rfl rfl rfl rfl ?_
        refine pm_mem (M' := pm_up M (m0 + 1) (.inl (kA 0, 91, .inl (upd (upd (upd g_1 5 ((g_1 5) + (g_1 (7 + 5 * j1 + 3)))) 6 ((g_1 6) + (pm_mv g_1 j1))) (7 + 5 * j1 + 4) (g_1 (7 + 5 * j1 + 4)))))) pm_up_up ?_
        refine pm_stk (st' := []) rfl ?_
        refine pm_aload_n B dX13_doClose_96 rfl ?_
        refine pm_iload_n B dX13_doClose_97 rfl ?_
        refine pm_iconst (v := 3) B dX13_doClose_98 (by decide) ?_
        refine pm_iconst (v := 0) B dX13_doClose_99 (by decide) ?_
        refine pm_cV (As := [.int (nI j1), .int (nI 3), .int 0]) (mc2 := 0) (ms2 := 0) B rfl ((pm_up_n (by omega)).trans hM) rfl (c_X13_sets (f := f) ((pm_up_n (by omega)).trans hM) pm_up_s (i := j1) (w := 3) (by first | assumption | omega) (by first | assumption | omega)) mt_X13_sets sv_X13_87 dX13_doClose_100 rfl rfl rfl rfl rfl ?_
        refine pm_mem (M' := pm_up M (m0 + 1) (.inl (kA 0, 91, .inl (upd (upd (upd (upd g_1 5 ((g_1 5) + (g_1 (7 + 5 * j1 + 3)))) 6 ((g_1 6) + (pm_mv g_1 j1))) (7 + 5 * j1 + 4) (g_1 (7 + 5 * j1 + 4))) (7 + 5 * j1 + 3) 0)))) pm_up_up ?_
        refine pm_stk (st' := []) rfl ?_
        refine pm_iinc B dX13_doClose_103 rfl rfl rfl ?_
        refine pm_loc (L' := [some (.ref (z + m0)), some (.int (a1_1 + (3 * (pm_mv g_1 j1)))), some (.int (nI (j1 + 1))), some (.int (pm_mv g_1 j1)), some (.int (g_1 (7 + 5 * j1 + 4)))]) (by rw [show ((nI j1) : Int32) + Int32.ofInt 1 = (nI (j1 + 1)) from nI_1 _]; rfl) ?_
        refine pm_goto (tgt := 4) B dX13_doClose_106 (by decide) ?_
        refine pm_wk (L' := [some (.ref (z + m0)), some (.int (a1_1 + (3 * (pm_mv g_1 j1)))), some (.int (nI (j1 + 1))), none, none]) ⟨rfl, ⟨rfl, ⟨rfl, trivial⟩⟩⟩ ?_
        have hDq5 : (K1 ((d_X13_doClose_L1 (k1 + 1) j1 a1_1 g_1).1) ((d_X13_doClose_L1 (k1 + 1) j1 a1_1 g_1).2)) = (K1 ((d_X13_doClose_L1 k1 (j1 + 1) (a1_1 + (3 * (pm_mv g_1 j1))) (upd (upd (upd (upd g_1 5 ((g_1 5) + (g_1 (7 + 5 * j1 + 3)))) 6 ((g_1 6) + (pm_mv g_1 j1))) (7 + 5 * j1 + 4) (g_1 (7 + 5 * j1 + 4))) (7 + 5 * j1 + 3) 0)).1) ((d_X13_doClose_L1 k1 (j1 + 1) (a1_1 + (3 * (pm_mv g_1 j1))) (upd (upd (upd (upd g_1 5 ((g_1 5) + (g_1 (7 + 5 * j1 + 3)))) 6 ((g_1 6) + (pm_mv g_1 j1))) (7 + 5 * j1 + 4) (g_1 (7 + 5 * j1 + 4))) (7 + 5 * j1 + 3) 0)).2)) := by rw [d_X13_doClose_L1, if_pos hq4]
        refine pm_pst (post' := pm_rt (some (.int ((K1 ((d_X13_doClose_L1 k1 (j1 + 1) (a1_1 + (3 * (pm_mv g_1 j1))) (upd (upd (upd (upd g_1 5 ((g_1 5) + (g_1 (7 + 5 * j1 + 3)))) 6 ((g_1 6) + (pm_mv g_1 j1))) (7 + 5 * j1 + 4) (g_1 (7 + 5 * j1 + 4))) (7 + 5 * j1 + 3) 0)).1) ((d_X13_doClose_L1 k1 (j1 + 1) (a1_1 + (3 * (pm_mv g_1 j1))) (upd (upd (upd (upd g_1 5 ((g_1 5) + (g_1 (7 + 5 * j1 + 3)))) 6 ((g_1 6) + (pm_mv g_1 j1))) (7 + 5 * j1 + 4) (g_1 (7 + 5 * j1 + 4))) (7 + 5 * j1 + 3) 0)).2)).1))) nx (pm_up M (m0 + 1) (.inl (kA 0, 91, .inl ((K1 ((d_X13_doClose_L1 k1 (j1 + 1) (a1_1 + (3 * (pm_mv g_1 j1))) (upd (upd (upd (upd g_1 5 ((g_1 5) + (g_1 (7 + 5 * j1 + 3)))) 6 ((g_1 6) + (pm_mv g_1 j1))) (7 + 5 * j1 + 4) (g_1 (7 + 5 * j1 + 4))) (7 + 5 * j1 + 3) 0)).1) ((d_X13_doClose_L1 k1 (j1 + 1) (a1_1 + (3 * (pm_mv g_1 j1))) (upd (upd (upd (upd g_1 5 ((g_1 5) + (g_1 (7 + 5 * j1 + 3)))) 6 ((g_1 6) + (pm_mv g_1 j1))) (7 + 5 * j1 + 4) (g_1 (7 + 5 * j1 + 4))) (7 + 5 * j1 + 3) 0)).2)).2))))) (by rw [hDq5]) ?_
        exact ih1 (j1 + 1) (by omega) (a1_1 + (3 * (pm_mv g_1 j1))) (upd (upd (upd (upd g_1 5 ((g_1 5) + (g_1 (7 + 5 * j1 + 3)))) 6 ((g_1 6) + (pm_mv g_1 j1))) (7 + 5 * j1 + 4) (g_1 (7 + 5 * j1 + 4))) (7 + 5 * j1 + 3) 0) ((show (upd (upd (upd (upd g_1 5 ((g_1 5) + (g_1 (7 + 5 * j1 + 3)))) 6 ((g_1 6) + (pm_mv g_1 j1))) (7 + 5 * j1 + 4) (g_1 (7 + 5 * j1 + 4))) (7 + 5 * j1 + 3) 0) 0 = (nI n) from by rw [pk_un (show 0 ≠ 7 + 5 * j1 + 3 from (by omega)), pk_un (show 0 ≠ 7 + 5 * j1 + 4 from (by omega)), pk_un (show 0 ≠ 6 from (by decide)), pk_un (show 0 ≠ 5 from (by decide)), hn_1]))
      · refine pm_iload B dX13_doClose_67 rfl ?_
        refine pm_if_ne (tgt := 77) B dX13_doClose_69 (by decide) (fun hq6 => ?_) (fun hq6 => ?_)
        · refine pm_iload B dX13_doClose_77 rfl ?_
          refine pm_if_le (tgt := 89) B dX13_doClose_79 (by decide) (fun hq7 => ?_) (fun hq7 => ?_)
          · refine pm_iload B dX13_doClose_89 rfl ?_
            refine pm_iconst (v := 1) B dX13_doClose_91 (by decide) ?_
            refine pm_iadd B dX13_doClose_92 ?_
            refine pm_cV (As := [.int (nI j1), .int (nI 4), .int ((g_1 (7 + 5 * j1 + 4)) + 1)]) (mc2 := 0) (ms2 := 0) B rfl ((pm_up_n (by omega)).trans hM) rfl (c_X13_sets (f := f) ((pm_up_n (by omega)).trans hM) pm_up_s (i := j1) (w := 4) (by first | assumption | omega) (by first | assumption | omega)) mt_X13_sets sv_X13_87 dX13_doClose_93 rfl rfl rfl rfl rfl ?_
            refine pm_mem (M' := pm_up M (m0 + 1) (.inl (kA 0, 91, .inl (upd (upd (upd g_1 5 ((g_1 5) + (g_1 (7 + 5 * j1 + 3)))) 6 ((g_1 6) + (pm_mv g_1 j1))) (7 + 5 * j1 + 4) ((g_1 (7 + 5 * j1 + 4)) + 1))))) pm_up_up ?_
            refine pm_stk (st' := []) rfl ?_
            refine pm_aload_n B dX13_doClose_96 rfl ?_
            refine pm_iload_n B dX13_doClose_97 rfl ?_
            refine pm_iconst (v := 3) B dX13_doClose_98 (by decide) ?_
            refine pm_iconst (v := 0) B dX13_doClose_99 (by decide) ?_
            refine pm_cV (As := [.int (nI j1), .int (nI 3), .int 0]) (mc2 := 0) (ms2 := 0) B rfl ((pm_up_n (by omega)).trans hM) rfl (c_X13_sets (f := f) ((pm_up_n (by omega)).trans hM) pm_up_s (i := j1) (w := 3) (by first | assumption | omega) (by first | assumption | omega)) mt_X13_sets sv_X13_87 dX13_doClose_100 rfl rfl rfl rfl rfl ?_
            refine pm_mem (M' := pm_up M (m0 + 1) (.inl (kA 0, 91, .inl (upd (upd (upd (upd g_1 5 ((g_1 5) + (g_1 (7 + 5 * j1 + 3)))) 6 ((g_1 6) + (pm_mv g_1 j1))) (7 + 5 * j1 + 4) ((g_1 (7 + 5 * j1 + 4)) + 1)) (7 + 5 * j1 + 3) 0)))) pm_up_up ?_
            refine pm_stk (st' := []) rfl ?_
            refine pm_iinc B dX13_doClose_103 rfl rfl rfl ?_
            refine pm_loc (L' := [some (.ref (z + m0)), some (.int (a1_1 + (3 * (pm_mv g_1 j1)))), some (.int (nI (j1 + 1))), some (.int (pm_mv g_1 j1)), some (.int (g_1 (7 + 5 * j1 + 4)))]) (by rw [show ((nI j1) : Int32) + Int32.ofInt 1 = (nI (j1 + 1)) from nI_1 _]; rfl) ?_
            refine pm_goto (tgt := 4) B dX13_doClose_106 (by decide) ?_
            refine pm_wk (L' := [some (.ref (z + m0)), some (.int (a1_1 + (3 * (pm_mv g_1 j1)))), some (.int (nI (j1 + 1))), none, none]) ⟨rfl, ⟨rfl, ⟨rfl, trivial⟩⟩⟩ ?_
            have hDq8 : (K1 ((d_X13_doClose_L1 (k1 + 1) j1 a1_1 g_1).1) ((d_X13_doClose_L1 (k1 + 1) j1 a1_1 g_1).2)) = (K1 ((d_X13_doClose_L1 k1 (j1 + 1) (a1_1 + (3 * (pm_mv g_1 j1))) (upd (upd (upd (upd g_1 5 ((g_1 5) + (g_1 (7 + 5 * j1 + 3)))) 6 ((g_1 6) + (pm_mv g_1 j1))) (7 + 5 * j1 + 4) ((g_1 (7 + 5 * j1 + 4)) + 1)) (7 + 5 * j1 + 3) 0)).1) ((d_X13_doClose_L1 k1 (j1 + 1) (a1_1 + (3 * (pm_mv g_1 j1))) (upd (upd (upd (upd g_1 5 ((g_1 5) + (g_1 (7 + 5 * j1 + 3)))) 6 ((g_1 6) + (pm_mv g_1 j1))) (7 + 5 * j1 + 4) ((g_1 (7 + 5 * j1 + 4)) + 1)) (7 + 5 * j1 + 3) 0)).2)) := by rw [d_X13_doClose_L1, if_neg hq4, if_neg hq6, if_pos hq7]
            refine pm_pst (post' := pm_rt (some (.int ((K1 ((d_X13_doClose_L1 k1 (j1 + 1) (a1_1 + (3 * (pm_mv g_1 j1))) (upd (upd (upd (upd g_1 5 ((g_1 5) + (g_1 (7 + 5 * j1 + 3)))) 6 ((g_1 6) + (pm_mv g_1 j1))) (7 + 5 * j1 + 4) ((g_1 (7 + 5 * j1 + 4)) + 1)) (7 + 5 * j1 + 3) 0)).1) ((d_X13_doClose_L1 k1 (j1 + 1) (a1_1 + (3 * (pm_mv g_1 j1))) (upd (upd (upd (upd g_1 5 ((g_1 5) + (g_1 (7 + 5 * j1 + 3)))) 6 ((g_1 6) + (pm_mv g_1 j1))) (7 + 5 * j1 + 4) ((g_1 (7 + 5 * j1 + 4)) + 1)) (7 + 5 * j1 + 3) 0)).2)).1))) nx (pm_up M (m0 + 1) (.inl (kA 0, 91, .inl ((K1 ((d_X13_doClose_L1 k1 (j1 + 1) (a1_1 + (3 * (pm_mv g_1 j1))) (upd (upd (upd (upd g_1 5 ((g_1 5) + (g_1 (7 + 5 * j1 + 3)))) 6 ((g_1 6) + (pm_mv g_1 j1))) (7 + 5 * j1 + 4) ((g_1 (7 + 5 * j1 + 4)) + 1)) (7 + 5 * j1 + 3) 0)).1) ((d_X13_doClose_L1 k1 (j1 + 1) (a1_1 + (3 * (pm_mv g_1 j1))) (upd (upd (upd (upd g_1 5 ((g_1 5) + (g_1 (7 + 5 * j1 + 3)))) 6 ((g_1 6) + (pm_mv g_1 j1))) (7 + 5 * j1 + 4) ((g_1 (7 + 5 * j1 + 4)) + 1)) (7 + 5 * j1 + 3) 0)).2)).2))))) (by rw [hDq8]) ?_
            exact ih1 (j1 + 1) (by omega) (a1_1 + (3 * (pm_mv g_1 j1))) (upd (upd (upd (upd g_1 5 ((g_1 5) + (g_1 (7 + 5 * j1 + 3)))) 6 ((g_1 6) + (pm_mv g_1 j1))) (7 + 5 * j1 + 4) ((g_1 (7 + 5 * j1 + 4)) + 1)) (7 + 5 * j1 + 3) 0) ((show (upd (upd (upd (upd g_1 5 ((g_1 5) + (g_1 (7 + 5 * j1 + 3)))) 6 ((g_1 6) + (pm_mv g_1 j1))) (7 + 5 * j1 + 4) ((g_1 (7 + 5 * j1 + 4)) + 1)) (7 + 5 * j1 + 3) 0) 0 = (nI n) from by rw [pk_un (show 0 ≠ 7 + 5 * j1 + 3 from (by omega)), pk_un (show 0 ≠ 7 + 5 * j1 + 4 from (by omega)), pk_un (show 0 ≠ 6 from (by decide)), pk_un (show 0 ≠ 5 from (by decide)), hn_1]))
          · refine pm_iload B dX13_doClose_82 rfl ?_
            refine pm_iconst (v := 1) B dX13_doClose_84 (by decide) ?_
            refine pm_isub B dX13_doClose_85 ?_
            refine pm_goto (tgt := 93) B dX13_doClose_86 (by decide) ?_
            refine pm_cV (As := [.int (nI j1), .int (nI 4), .int ((g_1 (7 + 5 * j1 + 4)) - 1)]) (mc2 := 0) (ms2 := 0) B rfl ((pm_up_n (by omega)).trans hM) rfl (c_X13_sets (f := f) ((pm_up_n (by omega)).trans hM) pm_up_s (i := j1) (w := 4) (by first | assumption | omega) (by first | assumption | omega)) mt_X13_sets sv_X13_87 dX13_doClose_93 rfl rfl rfl rfl rfl ?_
            refine pm_mem (M' := pm_up M (m0 + 1) (.inl (kA 0, 91, .inl (upd (upd (upd g_1 5 ((g_1 5) + (g_1 (7 + 5 * j1 + 3)))) 6 ((g_1 6) + (pm_mv g_1 j1))) (7 + 5 * j1 + 4) ((g_1 (7 + 5 * j1 + 4)) - 1))))) pm_up_up ?_
            refine pm_stk (st' := []) rfl ?_
            refine pm_aload_n B dX13_doClose_96 rfl ?_
            refine pm_iload_n B dX13_doClose_97 rfl ?_
            refine pm_iconst (v := 3) B dX13_doClose_98 (by decide) ?_
            refine pm_iconst (v := 0) B dX13_doClose_99 (by decide) ?_
            refine pm_cV (As := [.int (nI j1), .int (nI 3), .int 0]) (mc2 := 0) (ms2 := 0) B rfl ((pm_up_n (by omega)).trans hM) rfl (c_X13_sets (f := f) ((pm_up_n (by omega)).trans hM) pm_up_s (i := j1) (w := 3) (by first | assumption | omega) (by first | assumption | omega)) mt_X13_sets sv_X13_87 dX13_doClose_100 rfl rfl rfl rfl rfl ?_
            refine pm_mem (M' := pm_up M (m0 + 1) (.inl (kA 0, 91, .inl (upd (upd (upd (upd g_1 5 ((g_1 5) + (g_1 (7 + 5 * j1 + 3)))) 6 ((g_1 6) + (pm_mv g_1 j1))) (7 + 5 * j1 + 4) ((g_1 (7 + 5 * j1 + 4)) - 1)) (7 + 5 * j1 + 3) 0)))) pm_up_up ?_
            refine pm_stk (st' := []) rfl ?_
            refine pm_iinc B dX13_doClose_103 rfl rfl rfl ?_
            refine pm_loc (L' := [some (.ref (z + m0)), some (.int (a1_1 + (3 * (pm_mv g_1 j1)))), some (.int (nI (j1 + 1))), some (.int (pm_mv g_1 j1)), some (.int (g_1 (7 + 5 * j1 + 4)))]) (by rw [show ((nI j1) : Int32) + Int32.ofInt 1 = (nI (j1 + 1)) from nI_1 _]; rfl) ?_
            refine pm_goto (tgt := 4) B dX13_doClose_106 (by decide) ?_
            refine pm_wk (L' := [some (.ref (z + m0)), some (.int (a1_1 + (3 * (pm_mv g_1 j1)))), some (.int (nI (j1 + 1))), none, none]) ⟨rfl, ⟨rfl, ⟨rfl, trivial⟩⟩⟩ ?_
            have hDq9 : (K1 ((d_X13_doClose_L1 (k1 + 1) j1 a1_1 g_1).1) ((d_X13_doClose_L1 (k1 + 1) j1 a1_1 g_1).2)) = (K1 ((d_X13_doClose_L1 k1 (j1 + 1) (a1_1 + (3 * (pm_mv g_1 j1))) (upd (upd (upd (upd g_1 5 ((g_1 5) + (g_1 (7 + 5 * j1 + 3)))) 6 ((g_1 6) + (pm_mv g_1 j1))) (7 + 5 * j1 + 4) ((g_1 (7 + 5 * j1 + 4)) - 1)) (7 + 5 * j1 + 3) 0)).1) ((d_X13_doClose_L1 k1 (j1 + 1) (a1_1 + (3 * (pm_mv g_1 j1))) (upd (upd (upd (upd g_1 5 ((g_1 5) + (g_1 (7 + 5 * j1 + 3)))) 6 ((g_1 6) + (pm_mv g_1 j1))) (7 + 5 * j1 + 4) ((g_1 (7 + 5 * j1 + 4)) - 1)) (7 + 5 * j1 + 3) 0)).2)) := by rw [d_X13_doClose_L1, if_neg hq4, if_neg hq6, if_neg hq7]
            refine pm_pst (post' := pm_rt (some (.int ((K1 ((d_X13_doClose_L1 k1 (j1 + 1) (a1_1 + (3 * (pm_mv g_1 j1))) (upd (upd (upd (upd g_1 5 ((g_1 5) + (g_1 (7 + 5 * j1 + 3)))) 6 ((g_1 6) + (pm_mv g_1 j1))) (7 + 5 * j1 + 4) ((g_1 (7 + 5 * j1 + 4)) - 1)) (7 + 5 * j1 + 3) 0)).1) ((d_X13_doClose_L1 k1 (j1 + 1) (a1_1 + (3 * (pm_mv g_1 j1))) (upd (upd (upd (upd g_1 5 ((g_1 5) + (g_1 (7 + 5 * j1 + 3)))) 6 ((g_1 6) + (pm_mv g_1 j1))) (7 + 5 * j1 + 4) ((g_1 (7 + 5 * j1 + 4)) - 1)) (7 + 5 * j1 + 3) 0)).2)).1))) nx (pm_up M (m0 + 1) (.inl (kA 0, 91, .inl ((K1 ((d_X13_doClose_L1 k1 (j1 + 1) (a1_1 + (3 * (pm_mv g_1 j1))) (upd (upd (upd (upd g_1 5 ((g_1 5) + (g_1 (7 + 5 * j1 + 3)))) 6 ((g_1 6) + (pm_mv g_1 j1))) (7 + 5 * j1 + 4) ((g_1 (7 + 5 * j1 + 4)) - 1)) (7 + 5 * j1 + 3) 0)).1) ((d_X13_doClose_L1 k1 (j1 + 1) (a1_1 + (3 * (pm_mv g_1 j1))) (upd (upd (upd (upd g_1 5 ((g_1 5) + (g_1 (7 + 5 * j1 + 3)))) 6 ((g_1 6) + (pm_mv g_1 j1))) (7 + 5 * j1 + 4) ((g_1 (7 + 5 * j1 + 4)) - 1)) (7 + 5 * j1 + 3) 0)).2)).2))))) (by rw [hDq9]) ?_
            exact ih1 (j1 + 1) (by omega) (a1_1 + (3 * (pm_mv g_1 j1))) (upd (upd (upd (upd g_1 5 ((g_1 5) + (g_1 (7 + 5 * j1 + 3)))) 6 ((g_1 6) + (pm_mv g_1 j1))) (7 + 5 * j1 + 4) ((g_1 (7 + 5 * j1 + 4)) - 1)) (7 + 5 * j1 + 3) 0) ((show (upd (upd (upd (upd g_1 5 ((g_1 5) + (g_1 (7 + 5 * j1 + 3)))) 6 ((g_1 6) + (pm_mv g_1 j1))) (7 + 5 * j1 + 4) ((g_1 (7 + 5 * j1 + 4)) - 1)) (7 + 5 * j1 + 3) 0) 0 = (nI n) from by rw [pk_un (show 0 ≠ 7 + 5 * j1 + 3 from (by omega)), pk_un (show 0 ≠ 7 + 5 * j1 + 4 from (by omega)), pk_un (show 0 ≠ 6 from (by decide)), pk_un (show 0 ≠ 5 from (by decide)), hn_1]))
        · refine pm_iload B dX13_doClose_72 rfl ?_
          refine pm_goto (tgt := 93) B dX13_doClose_74 (by decide) ?_
          refine pm_cV (As := [.int (nI j1), .int (nI 4), .int (g_1 (7 + 5 * j1 + 4))]) (mc2 := 0) (ms2 := 0) B rfl ((pm_up_n (by omega)).trans hM) rfl (c_X13_sets (f := f) ((pm_up_n (by omega)).trans hM) pm_up_s (i := j1) (w := 4) (by first | assumption | omega) (by first | assumption | omega)) mt_X13_sets sv_X13_87 dX13_doClose_93 rfl rfl rfl rfl rfl ?_
          refine pm_mem (M' := pm_up M (m0 + 1) (.inl (kA 0, 91, .inl (upd (upd (upd g_1 5 ((g_1 5) + (g_1 (7 + 5 * j1 + 3)))) 6 ((g_1 6) + (pm_mv g_1 j1))) (7 + 5 * j1 + 4) (g_1 (7 + 5 * j1 + 4)))))) pm_up_up ?_
          refine pm_stk (st' := []) rfl ?_
          refine pm_aload_n B dX13_doClose_96 rfl ?_
          refine pm_iload_n B dX13_doClose_97 rfl ?_
          refine pm_iconst (v := 3) B dX13_doClose_98 (by decide) ?_
          refine pm_iconst (v := 0) B dX13_doClose_99 (by decide) ?_
          refine pm_cV (As := [.int (nI j1), .int (nI 3), .int 0]) (mc2 := 0) (ms2 := 0) B rfl ((pm_up_n (by omega)).trans hM) rfl (c_X13_sets (f := f) ((pm_up_n (by omega)).trans hM) pm_up_s (i := j1) (w := 3) (by first | assumption | omega) (by first | assumption | omega)) mt_X13_sets sv_X13_87 dX13_doClose_100 rfl rfl rfl rfl rfl ?_
          refine pm_mem (M' := pm_up M (m0 + 1) (.inl (kA 0, 91, .inl (upd (upd (upd (upd g_1 5 ((g_1 5) + (g_1 (7 + 5 * j1 + 3)))) 6 ((g_1 6) + (pm_mv g_1 j1))) (7 + 5 * j1 + 4) (g_1 (7 + 5 * j1 + 4))) (7 + 5 * j1 + 3) 0)))) pm_up_up ?_
          refine pm_stk (st' := []) rfl ?_
          refine pm_iinc B dX13_doClose_103 rfl rfl rfl ?_
          refine pm_loc (L' := [some (.ref (z + m0)), some (.int (a1_1 + (3 * (pm_mv g_1 j1)))), some (.int (nI (j1 + 1))), some (.int (pm_mv g_1 j1)), some (.int (g_1 (7 + 5 * j1 + 4)))]) (by rw [show ((nI j1) : Int32) + Int32.ofInt 1 = (nI (j1 + 1)) from nI_1 _]; rfl) ?_
          refine pm_goto (tgt := 4) B dX13_doClose_106 (by decide) ?_
          refine pm_wk (L' := [some (.ref (z + m0)), some (.int (a1_1 + (3 * (pm_mv g_1 j1)))), some (.int (nI (j1 + 1))), none, none]) ⟨rfl, ⟨rfl, ⟨rfl, trivial⟩⟩⟩ ?_
          have hDq10 : (K1 ((d_X13_doClose_L1 (k1 + 1) j1 a1_1 g_1).1) ((d_X13_doClose_L1 (k1 + 1) j1 a1_1 g_1).2)) = (K1 ((d_X13_doClose_L1 k1 (j1 + 1) (a1_1 + (3 * (pm_mv g_1 j1))) (upd (upd (upd (upd g_1 5 ((g_1 5) + (g_1 (7 + 5 * j1 + 3)))) 6 ((g_1 6) + (pm_mv g_1 j1))) (7 + 5 * j1 + 4) (g_1 (7 + 5 * j1 + 4))) (7 + 5 * j1 + 3) 0)).1) ((d_X13_doClose_L1 k1 (j1 + 1) (a1_1 + (3 * (pm_mv g_1 j1))) (upd (upd (upd (upd g_1 5 ((g_1 5) + (g_1 (7 + 5 * j1 + 3)))) 6 ((g_1 6) + (pm_mv g_1 j1))) (7 + 5 * j1 + 4) (g_1 (7 + 5 * j1 + 4))) (7 + 5 * j1 + 3) 0)).2)) := by rw [d_X13_doClose_L1, if_neg hq4, if_pos hq6]
          refine pm_pst (post' := pm_rt (some (.int ((K1 ((d_X13_doClose_L1 k1 (j1 + 1) (a1_1 + (3 * (pm_mv g_1 j1))) (upd (upd (upd (upd g_1 5 ((g_1 5) + (g_1 (7 + 5 * j1 + 3)))) 6 ((g_1 6) + (pm_mv g_1 j1))) (7 + 5 * j1 + 4) (g_1 (7 + 5 * j1 + 4))) (7 + 5 * j1 + 3) 0)).1) ((d_X13_doClose_L1 k1 (j1 + 1) (a1_1 + (3 * (pm_mv g_1 j1))) (upd (upd (upd (upd g_1 5 ((g_1 5) + (g_1 (7 + 5 * j1 + 3)))) 6 ((g_1 6) + (pm_mv g_1 j1))) (7 + 5 * j1 + 4) (g_1 (7 + 5 * j1 + 4))) (7 + 5 * j1 + 3) 0)).2)).1))) nx (pm_up M (m0 + 1) (.inl (kA 0, 91, .inl ((K1 ((d_X13_doClose_L1 k1 (j1 + 1) (a1_1 + (3 * (pm_mv g_1 j1))) (upd (upd (upd (upd g_1 5 ((g_1 5) + (g_1 (7 + 5 * j1 + 3)))) 6 ((g_1 6) + (pm_mv g_1 j1))) (7 + 5 * j1 + 4) (g_1 (7 + 5 * j1 + 4))) (7 + 5 * j1 + 3) 0)).1) ((d_X13_doClose_L1 k1 (j1 + 1) (a1_1 + (3 * (pm_mv g_1 j1))) (upd (upd (upd (upd g_1 5 ((g_1 5) + (g_1 (7 + 5 * j1 + 3)))) 6 ((g_1 6) + (pm_mv g_1 j1))) (7 + 5 * j1 + 4) (g_1 (7 + 5 * j1 + 4))) (7 + 5 * j1 + 3) 0)).2)).2))))) (by rw [hDq10]) ?_
          exact ih1 (j1 + 1) (by omega) (a1_1 + (3 * (pm_mv g_1 j1))) (upd (upd (upd (upd g_1 5 ((g_1 5) + (g_1 (7 + 5 * j1 + 3)))) 6 ((g_1 6) + (pm_mv g_1 j1))) (7 + 5 * j1 + 4) (g_1 (7 + 5 * j1 + 4))) (7 + 5 * j1 + 3) 0) ((show (upd (upd (upd (upd g_1 5 ((g_1 5) + (g_1 (7 + 5 * j1 + 3)))) 6 ((g_1 6) + (pm_mv g_1 j1))) (7 + 5 * j1 + 4) (g_1 (7 + 5 * j1 + 4))) (7 + 5 * j1 + 3) 0) 0 = (nI n) from by rw [pk_un (show 0 ≠ 7 + 5 * j1 + 3 from (by omega)), pk_un (show 0 ≠ 7 + 5 * j1 + 4 from (by omega)), pk_un (show 0 ≠ 6 from (by decide)), pk_un (show 0 ≠ 5 from (by decide)), hn_1]))
  refine pm_pst (post' := pm_rt (some (.int ((((d_X13_doClose_L1 n 0 0 g).1), (upd ((d_X13_doClose_L1 n 0 0 g).2) 4 ((((d_X13_doClose_L1 n 0 0 g).2) 4) + 1))).1))) nx (pm_up M (m0 + 1) (.inl (kA 0, 91, .inl ((((d_X13_doClose_L1 n 0 0 g).1), (upd ((d_X13_doClose_L1 n 0 0 g).2) 4 ((((d_X13_doClose_L1 n 0 0 g).2) 4) + 1))).2))))) (by rw [show (d_X13_doClose n f g) = (((d_X13_doClose_L1 n 0 0 g).1), (upd ((d_X13_doClose_L1 n 0 0 g).2) 4 ((((d_X13_doClose_L1 n 0 0 g).2) 4) + 1))) from by rw [d_X13_doClose]]) ?_
  refine loop1 (fun (a1_1 : Int32) (g_1 : (Nat → Int32)) => (a1_1, (upd g_1 4 ((g_1 4) + 1)))) ?_ n 0 (by omega) 0 g (hn)
  intro a1_1 g_1 hn_1
  refine pm_pst (post' := pm_rt (some (.int ((a1_1, (upd g_1 4 ((g_1 4) + 1))).1))) nx (pm_up M (m0 + 1) (.inl (kA 0, 91, .inl ((a1_1, (upd g_1 4 ((g_1 4) + 1))).2))))) rfl ?_
  refine pm_aload_n B dX13_doClose_109 rfl ?_
  refine pm_get B dX13_doClose_110 fl_X13_9 ((pm_up_n (by omega)).trans hM) rfl ?_
  refine pm_iconst (v := 4) B dX13_doClose_113 (by decide) ?_
  refine pm_dup2 B dX13_doClose_114 rfl rfl ?_
  refine pm_iald_n B dX13_doClose_115 pm_up_s 4 (by decide) (by decide) ?_
  refine pm_iconst (v := 1) B dX13_doClose_116 (by decide) ?_
  refine pm_iadd B dX13_doClose_117 ?_
  refine pm_iast_n B dX13_doClose_118 pm_up_s 4 (by decide) (by decide) ?_
  refine pm_mem (M' := pm_up M (m0 + 1) (.inl (kA 0, 91, .inl (upd g_1 4 ((g_1 4) + 1))))) pm_up_up ?_
  refine pm_iload_n B dX13_doClose_119 rfl ?_
  have hDq11 : ((a1_1, (upd g_1 4 ((g_1 4) + 1)))) = (a1_1, (upd g_1 4 ((g_1 4) + 1))) := rfl
  exact pm_ireturn B dX13_doClose_120 rfl (by first | rfl | (apply pm_nz; first | assumption | decide | exact pm_in01 _ _ _ | simp)) ⟨(by rw [hDq11]), rfl, by rw [hDq11]⟩ rfl rfl
def d_X13_close (n : Nat) (k : Nat) (f : Nat → Int32) (g : Nat → Int32) (gb : Nat → Int32) (gp : Nat → Int32) : (Int32 × (Nat → Int32) × (Nat → Int32) × (Nat → Int32) × (Nat → Int32)) := (((d_X13_ends ((d_X13_doClose n ((d_X13_keep f g gb).1) g).1) 0 k ((d_X13_keep f g gb).1) ((d_X13_doClose n ((d_X13_keep f g gb).1) g).2) ((d_X13_keep f g gb).2) gp).1), ((d_X13_ends ((d_X13_doClose n ((d_X13_keep f g gb).1) g).1) 0 k ((d_X13_keep f g gb).1) ((d_X13_doClose n ((d_X13_keep f g gb).1) g).2) ((d_X13_keep f g gb).2) gp).2.1), ((d_X13_ends ((d_X13_doClose n ((d_X13_keep f g gb).1) g).1) 0 k ((d_X13_keep f g gb).1) ((d_X13_doClose n ((d_X13_keep f g gb).1) g).2) ((d_X13_keep f g gb).2) gp).2.2.1), ((d_X13_keep f g gb).2), ((d_X13_ends ((d_X13_doClose n ((d_X13_keep f g gb).1) g).1) 0 k ((d_X13_keep f g gb).1) ((d_X13_doClose n ((d_X13_keep f g gb).1) g).2) ((d_X13_keep f g gb).2) gp).2.2.2))
set_option maxRecDepth 100000 in
set_option maxHeartbeats 8000000 in
theorem c_X13_close {l : Launch} {z : Nat} {D : va_G} {kA : Nat → ClassId} {kE : Nat → Nat} {nx : Nat} {M : pm_M} {n : Nat} {k : Nat}{m0 : Nat} {f : Nat → Int32} {g : Nat → Int32} {gb : Nat → Int32} {gp : Nat → Int32} (hM : M m0 = some (pm_mo z m0 f)) (hg : M (m0 + 1) = some (.inl (kA 0, 91, .inl g))) (hgb : M (m0 + 2) = some (.inl (kA 0, 91, .inl gb))) (hgp : M (m0 + 4) = some (.inl (kA 0, 728, .inl gp))) (hn : g 0 = nI n) (h7 : n ≤ 7) (hf5 : f 5 = nI k) (h8 : k ≤ 8) : pm_C l z D kA kE yX13_close cX13_close 1 (some .int) 3 0 0 [.ref (z + m0)] nx M (pm_rt (some (.int ((d_X13_close n k f g gb gp).1))) nx (pm_up (pm_up (pm_up (pm_up M m0 (pm_mo z m0 ((d_X13_close n k f g gb gp).2.1))) (m0 + 1) (.inl (kA 0, 91, .inl ((d_X13_close n k f g gb gp).2.2.1)))) (m0 + 2) (.inl (kA 0, 91, .inl ((d_X13_close n k f g gb gp).2.2.2.1)))) (m0 + 4) (.inl (kA 0, 728, .inl ((d_X13_close n k f g gb gp).2.2.2.2))))) := by
  refine pm_mk (own := RX13) (nm := "close") mt_X13_close rfl rfl rfl rfl fun X B => ?_
  refine pm_loc (L' := [some (.ref (z + m0))]) rfl ?_
  refine pm_mem (M' := pm_up (pm_up (pm_up (pm_up M m0 (pm_mo z m0 f)) (m0 + 1) (.inl (kA 0, 91, .inl g))) (m0 + 2) (.inl (kA 0, 91, .inl gb))) (m0 + 4) (.inl (kA 0, 728, .inl gp))) (by rw [pm_up_id hM, pm_up_id hg, pm_up_id hgb, pm_up_id hgp]) ?_
  refine pm_aload_n B dX13_close_0 rfl ?_
  refine pm_cV (As := []) (mc2 := 0) (ms2 := 0) B rfl ((pm_up_n (by omega)).trans ((pm_up_n (by omega)).trans ((pm_up_n (by omega)).trans pm_up_s))) rfl (c_X13_keep (f := f) (g := g) (gb := gb) ((pm_up_n (by omega)).trans ((pm_up_n (by omega)).trans ((pm_up_n (by omega)).trans pm_up_s))) ((pm_up_n (by omega)).trans ((pm_up_n (by omega)).trans pm_up_s)) ((pm_up_n (by omega)).trans pm_up_s) ) mt_X13_keep sv_X13_91 dX13_close_1 rfl rfl rfl rfl rfl ?_
  refine pm_mem (M' := pm_up (pm_up (pm_up (pm_up (pm_up (pm_up M m0 (pm_mo z m0 f)) (m0 + 1) (.inl (kA 0, 91, .inl g))) (m0 + 2) (.inl (kA 0, 91, .inl gb))) (m0 + 4) (.inl (kA 0, 728, .inl gp))) m0 (pm_mo z m0 ((d_X13_keep f g gb).1))) (m0 + 2) (.inl (kA 0, 91, .inl ((d_X13_keep f g gb).2)))) rfl ?_
  refine pm_mem (M' := pm_up (pm_up (pm_up (pm_up (pm_up M m0 (pm_mo z m0 ((d_X13_keep f g gb).1))) (m0 + 1) (.inl (kA 0, 91, .inl g))) (m0 + 2) (.inl (kA 0, 91, .inl gb))) (m0 + 4) (.inl (kA 0, 728, .inl gp))) (m0 + 2) (.inl (kA 0, 91, .inl ((d_X13_keep f g gb).2)))) (by rw [pm_up_sw (a := m0 + 4) (b := m0) (by omega), pm_up_sw (a := m0 + 2) (b := m0) (by omega), pm_up_sw (a := m0 + 1) (b := m0) (by omega), pm_up_up (a := m0)]) ?_
  refine pm_mem (M' := pm_up (pm_up (pm_up (pm_up M m0 (pm_mo z m0 ((d_X13_keep f g gb).1))) (m0 + 1) (.inl (kA 0, 91, .inl g))) (m0 + 2) (.inl (kA 0, 91, .inl ((d_X13_keep f g gb).2)))) (m0 + 4) (.inl (kA 0, 728, .inl gp))) (by rw [pm_up_sw (a := m0 + 4) (b := m0 + 2) (by omega), pm_up_up (a := m0 + 2)]) ?_
  refine pm_stk (st' := []) rfl ?_
  refine pm_aload_n B dX13_close_4 rfl ?_
  refine pm_aload_n B dX13_close_5 rfl ?_
  refine pm_cV (As := []) (mc2 := 0) (ms2 := 0) B rfl ((pm_up_n (by omega)).trans ((pm_up_n (by omega)).trans ((pm_up_n (by omega)).trans pm_up_s))) rfl (c_X13_doClose (n := n) (f := ((d_X13_keep f g gb).1)) (g := g) ((pm_up_n (by omega)).trans ((pm_up_n (by omega)).trans ((pm_up_n (by omega)).trans pm_up_s))) ((pm_up_n (by omega)).trans ((pm_up_n (by omega)).trans pm_up_s)) hn (by first | assumption | omega)) mt_X13_doClose sv_X13_137 dX13_close_6 rfl rfl rfl rfl rfl ?_
  refine pm_mem (M' := pm_up (pm_up (pm_up (pm_up (pm_up M m0 (pm_mo z m0 ((d_X13_keep f g gb).1))) (m0 + 1) (.inl (kA 0, 91, .inl g))) (m0 + 2) (.inl (kA 0, 91, .inl ((d_X13_keep f g gb).2)))) (m0 + 4) (.inl (kA 0, 728, .inl gp))) (m0 + 1) (.inl (kA 0, 91, .inl ((d_X13_doClose n ((d_X13_keep f g gb).1) g).2)))) rfl ?_
  refine pm_mem (M' := pm_up (pm_up (pm_up (pm_up M m0 (pm_mo z m0 ((d_X13_keep f g gb).1))) (m0 + 1) (.inl (kA 0, 91, .inl ((d_X13_doClose n ((d_X13_keep f g gb).1) g).2)))) (m0 + 2) (.inl (kA 0, 91, .inl ((d_X13_keep f g gb).2)))) (m0 + 4) (.inl (kA 0, 728, .inl gp))) (by rw [pm_up_sw (a := m0 + 4) (b := m0 + 1) (by omega), pm_up_sw (a := m0 + 2) (b := m0 + 1) (by omega), pm_up_up (a := m0 + 1)]) ?_
  refine pm_stk (st' := [.int ((d_X13_doClose n ((d_X13_keep f g gb).1) g).1), .ref (z + m0)]) rfl ?_
  refine pm_iconst (v := 0) B dX13_close_9 (by decide) ?_
  refine pm_cV (As := [.int ((d_X13_doClose n ((d_X13_keep f g gb).1) g).1), .int 0]) (mc2 := 0) (ms2 := 0) B rfl ((pm_up_n (by omega)).trans ((pm_up_n (by omega)).trans ((pm_up_n (by omega)).trans pm_up_s))) rfl (c_X13_ends (x := ((d_X13_doClose n ((d_X13_keep f g gb).1) g).1)) (y := 0) (k := k) (f := ((d_X13_keep f g gb).1)) (g := ((d_X13_doClose n ((d_X13_keep f g gb).1) g).2)) (gb := ((d_X13_keep f g gb).2)) (gp := gp) ((pm_up_n (by omega)).trans ((pm_up_n (by omega)).trans ((pm_up_n (by omega)).trans pm_up_s))) ((pm_up_n (by omega)).trans ((pm_up_n (by omega)).trans pm_up_s)) ((pm_up_n (by omega)).trans pm_up_s) pm_up_s (show ((d_X13_keep f g gb).1) 5 = (nI k) from by rw [((d_X13_keep_k_f5  f g gb).trans hf5)]) (by first | assumption | omega)) mt_X13_ends sv_X13_97 dX13_close_10 rfl rfl rfl rfl rfl ?_
  refine pm_mem (M' := pm_up (pm_up (pm_up (pm_up (pm_up (pm_up (pm_up M m0 (pm_mo z m0 ((d_X13_keep f g gb).1))) (m0 + 1) (.inl (kA 0, 91, .inl ((d_X13_doClose n ((d_X13_keep f g gb).1) g).2)))) (m0 + 2) (.inl (kA 0, 91, .inl ((d_X13_keep f g gb).2)))) (m0 + 4) (.inl (kA 0, 728, .inl gp))) m0 (pm_mo z m0 ((d_X13_ends ((d_X13_doClose n ((d_X13_keep f g gb).1) g).1) 0 k ((d_X13_keep f g gb).1) ((d_X13_doClose n ((d_X13_keep f g gb).1) g).2) ((d_X13_keep f g gb).2) gp).2.1))) (m0 + 1) (.inl (kA 0, 91, .inl ((d_X13_ends ((d_X13_doClose n ((d_X13_keep f g gb).1) g).1) 0 k ((d_X13_keep f g gb).1) ((d_X13_doClose n ((d_X13_keep f g gb).1) g).2) ((d_X13_keep f g gb).2) gp).2.2.1)))) (m0 + 4) (.inl (kA 0, 728, .inl ((d_X13_ends ((d_X13_doClose n ((d_X13_keep f g gb).1) g).1) 0 k ((d_X13_keep f g gb).1) ((d_X13_doClose n ((d_X13_keep f g gb).1) g).2) ((d_X13_keep f g gb).2) gp).2.2.2)))) rfl ?_
  refine pm_mem (M' := pm_up (pm_up (pm_up (pm_up (pm_up (pm_up M m0 (pm_mo z m0 ((d_X13_ends ((d_X13_doClose n ((d_X13_keep f g gb).1) g).1) 0 k ((d_X13_keep f g gb).1) ((d_X13_doClose n ((d_X13_keep f g gb).1) g).2) ((d_X13_keep f g gb).2) gp).2.1))) (m0 + 1) (.inl (kA 0, 91, .inl ((d_X13_doClose n ((d_X13_keep f g gb).1) g).2)))) (m0 + 2) (.inl (kA 0, 91, .inl ((d_X13_keep f g gb).2)))) (m0 + 4) (.inl (kA 0, 728, .inl gp))) (m0 + 1) (.inl (kA 0, 91, .inl ((d_X13_ends ((d_X13_doClose n ((d_X13_keep f g gb).1) g).1) 0 k ((d_X13_keep f g gb).1) ((d_X13_doClose n ((d_X13_keep f g gb).1) g).2) ((d_X13_keep f g gb).2) gp).2.2.1)))) (m0 + 4) (.inl (kA 0, 728, .inl ((d_X13_ends ((d_X13_doClose n ((d_X13_keep f g gb).1) g).1) 0 k ((d_X13_keep f g gb).1) ((d_X13_doClose n ((d_X13_keep f g gb).1) g).2) ((d_X13_keep f g gb).2) gp).2.2.2)))) (by rw [pm_up_sw (a := m0 + 4) (b := m0) (by omega), pm_up_sw (a := m0 + 2) (b := m0) (by omega), pm_up_sw (a := m0 + 1) (b := m0) (by omega), pm_up_up (a := m0)]) ?_
  refine pm_mem (M' := pm_up (pm_up (pm_up (pm_up (pm_up M m0 (pm_mo z m0 ((d_X13_ends ((d_X13_doClose n ((d_X13_keep f g gb).1) g).1) 0 k ((d_X13_keep f g gb).1) ((d_X13_doClose n ((d_X13_keep f g gb).1) g).2) ((d_X13_keep f g gb).2) gp).2.1))) (m0 + 1) (.inl (kA 0, 91, .inl ((d_X13_ends ((d_X13_doClose n ((d_X13_keep f g gb).1) g).1) 0 k ((d_X13_keep f g gb).1) ((d_X13_doClose n ((d_X13_keep f g gb).1) g).2) ((d_X13_keep f g gb).2) gp).2.2.1)))) (m0 + 2) (.inl (kA 0, 91, .inl ((d_X13_keep f g gb).2)))) (m0 + 4) (.inl (kA 0, 728, .inl gp))) (m0 + 4) (.inl (kA 0, 728, .inl ((d_X13_ends ((d_X13_doClose n ((d_X13_keep f g gb).1) g).1) 0 k ((d_X13_keep f g gb).1) ((d_X13_doClose n ((d_X13_keep f g gb).1) g).2) ((d_X13_keep f g gb).2) gp).2.2.2)))) (by rw [pm_up_sw (a := m0 + 4) (b := m0 + 1) (by omega), pm_up_sw (a := m0 + 2) (b := m0 + 1) (by omega), pm_up_up (a := m0 + 1)]) ?_
  refine pm_mem (M' := pm_up (pm_up (pm_up (pm_up M m0 (pm_mo z m0 ((d_X13_ends ((d_X13_doClose n ((d_X13_keep f g gb).1) g).1) 0 k ((d_X13_keep f g gb).1) ((d_X13_doClose n ((d_X13_keep f g gb).1) g).2) ((d_X13_keep f g gb).2) gp).2.1))) (m0 + 1) (.inl (kA 0, 91, .inl ((d_X13_ends ((d_X13_doClose n ((d_X13_keep f g gb).1) g).1) 0 k ((d_X13_keep f g gb).1) ((d_X13_doClose n ((d_X13_keep f g gb).1) g).2) ((d_X13_keep f g gb).2) gp).2.2.1)))) (m0 + 2) (.inl (kA 0, 91, .inl ((d_X13_keep f g gb).2)))) (m0 + 4) (.inl (kA 0, 728, .inl ((d_X13_ends ((d_X13_doClose n ((d_X13_keep f g gb).1) g).1) 0 k ((d_X13_keep f g gb).1) ((d_X13_doClose n ((d_X13_keep f g gb).1) g).2) ((d_X13_keep f g gb).2) gp).2.2.2)))) (by rw [pm_up_up (a := m0 + 4)]) ?_
  refine pm_stk (st' := [.int ((d_X13_ends ((d_X13_doClose n ((d_X13_keep f g gb).1) g).1) 0 k ((d_X13_keep f g gb).1) ((d_X13_doClose n ((d_X13_keep f g gb).1) g).2) ((d_X13_keep f g gb).2) gp).1)]) rfl ?_
  have hDq1 : (d_X13_close n k f g gb gp) = (((d_X13_ends ((d_X13_doClose n ((d_X13_keep f g gb).1) g).1) 0 k ((d_X13_keep f g gb).1) ((d_X13_doClose n ((d_X13_keep f g gb).1) g).2) ((d_X13_keep f g gb).2) gp).1), ((d_X13_ends ((d_X13_doClose n ((d_X13_keep f g gb).1) g).1) 0 k ((d_X13_keep f g gb).1) ((d_X13_doClose n ((d_X13_keep f g gb).1) g).2) ((d_X13_keep f g gb).2) gp).2.1), ((d_X13_ends ((d_X13_doClose n ((d_X13_keep f g gb).1) g).1) 0 k ((d_X13_keep f g gb).1) ((d_X13_doClose n ((d_X13_keep f g gb).1) g).2) ((d_X13_keep f g gb).2) gp).2.2.1), ((d_X13_keep f g gb).2), ((d_X13_ends ((d_X13_doClose n ((d_X13_keep f g gb).1) g).1) 0 k ((d_X13_keep f g gb).1) ((d_X13_doClose n ((d_X13_keep f g gb).1) g).2) ((d_X13_keep f g gb).2) gp).2.2.2)) := by rw [d_X13_close]
  exact pm_ireturn B dX13_close_13 rfl (by first | rfl | (apply pm_nz; first | assumption | decide | exact pm_in01 _ _ _ | simp)) ⟨(by rw [hDq1]), rfl, by rw [hDq1]⟩ rfl rfl
