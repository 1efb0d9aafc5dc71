/-! ThunderCartelModel: what is without loops, a lemma a path -/
set_option maxRecDepth 100000 in
set_option maxHeartbeats 4000000 in
theorem c_X13_keep {l : Launch} {z : Nat} {D : va_G} {kA : Nat → ClassId} {kE : Nat → Nat} {nx : Nat} {M : pm_M} {m0 : Nat} {f : Nat → Int32} (hM : M m0 = some (pm_mo z m0 f)) {g : Nat → Int32} (hg : M (m0 + 1) = some (.inl (kA 0, 91, .inl g))) {gb : Nat → Int32} (hgb : M (m0 + 2) = some (.inl (kA 0, 91, .inl gb))) : pm_C l z D kA kE yX13_keep cX13_keep 1 none 2 0 0 [.ref (z + m0)] nx M (pm_rt none nx (pm_up (pm_up M m0 (pm_mo z m0 (upd (upd f 6 0) 7 0))) (m0 + 2) (.inl (kA 0, 91, .inl (va_cpy g gb 0 0 91))))) := by
  refine pm_mk (own := RX13) (nm := "keep") mt_X13_keep rfl rfl rfl rfl fun X B => ?_
  refine pm_loc (L' := [some (.ref (z + m0))]) rfl ?_
  refine pm_aload_n B dX13_keep_0 rfl ?_
  refine pm_iconst (v := 0) B dX13_keep_1 (by decide) ?_
  refine pm_put B dX13_keep_2 fs_X13_39 hM rfl rfl rfl ?_
  refine pm_mem (M' := pm_up M m0 (pm_mo z m0 (upd f 6 0))) rfl ?_
  refine pm_aload_n B dX13_keep_5 rfl ?_
  refine pm_iconst (v := 0) B dX13_keep_6 (by decide) ?_
  refine pm_put B dX13_keep_7 fs_X13_42 pm_up_s rfl rfl rfl ?_
  refine pm_mem (M' := pm_up M m0 (pm_mo z m0 (upd (upd f 6 0) 7 0))) pm_up_up ?_
  refine pm_aload_n B dX13_keep_10 rfl ?_
  refine pm_get B dX13_keep_11 fl_X13_9 pm_up_s rfl ?_
  refine pm_iconst (v := 0) B dX13_keep_14 (by decide) ?_
  refine pm_aload_n B dX13_keep_15 rfl ?_
  refine pm_get B dX13_keep_16 fl_X13_13 pm_up_s rfl ?_
  refine pm_iconst (v := 0) B dX13_keep_19 (by decide) ?_
  refine pm_bipush (v := 91) B dX13_keep_20 (by decide) ?_
  refine pm_acopy B dX13_keep_22 (pm_T_in 1721 (by decide +kernel) (by decide +kernel)) ((pm_up_n (by omega)).trans hg) ((pm_up_n (by omega)).trans hgb) 0 0 91 rfl rfl rfl (by first | decide | omega) (by first | decide | omega) (by first | decide | omega) (by first | decide | omega) rfl rfl ?_
  refine pm_mem (M' := pm_up (pm_up M m0 (pm_mo z m0 (upd (upd f 6 0) 7 0))) (m0 + 2) (.inl (kA 0, 91, .inl (va_cpy g gb 0 0 91)))) rfl ?_
  exact pm_return B dX13_keep_25 rfl ⟨rfl, rfl, rfl⟩ rfl rfl
set_option maxRecDepth 100000 in
set_option maxHeartbeats 4000000 in
theorem c_X13_doAddMember_a1 {l : Launch} {z : Nat} {D : va_G} {kA : Nat → ClassId} {kE : Nat → Nat} {nx : Nat} {M : pm_M} {m0 : Nat} {f : Nat → Int32} (hM : M m0 = some (pm_mo z m0 f)) {g : Nat → Int32} (hg : M (m0 + 1) = some (.inl (kA 0, 91, .inl g))) {c v : Int32} {n : Nat} (hn : g 0 = nI n) (h7 : n < 7) (h1 : (pm_in c 1 99) = 0) : pm_C l z D kA kE yX13_doAddMember cX13_doAddMember 4 (some .int) 2 0 0 [.ref (z + m0), .int c, .int v] nx M (pm_rt (some (.int 0)) nx (pm_up M m0 (pm_mo z m0 (upd f 6 1)))) := by
  refine pm_mk (own := RX13) (nm := "doAddMember") mt_X13_doAddMember rfl rfl rfl rfl fun X B => ?_
  refine pm_loc (L' := [some (.ref (z + m0)), some (.int c), some (.int v), none]) rfl ?_
  refine pm_aload_n B dX13_doAddMember_0 rfl ?_
  refine pm_get B dX13_doAddMember_1 fl_X13_9 hM rfl ?_
  refine pm_iconst (v := 0) B dX13_doAddMember_4 (by decide) ?_
  refine pm_iald_n B dX13_doAddMember_5 hg 0 (by decide) (by decide) ?_
  refine pm_stk (st' := [.int (nI n)]) (by rw [show (g 0) = (nI n) from by rw [hn]]) ?_
  refine pm_istore_n B dX13_doAddMember_6 rfl rfl ?_
  refine pm_loc (L' := [some (.ref (z + m0)), some (.int c), some (.int v), some (.int (nI n))]) rfl ?_
  refine pm_iload_n B dX13_doAddMember_7 rfl ?_
  refine pm_iconst (v := 1) B dX13_doAddMember_8 (by decide) ?_
  refine pm_bipush (v := 99) B dX13_doAddMember_9 (by decide) ?_
  refine pm_cS (As := [.int c, .int 1, .int 99]) (mc2 := 0) (ms2 := 0) B c_X13_in mt_X13_in ss_X13_70 dX13_doAddMember_11 rfl rfl rfl rfl rfl ?_
  refine pm_stk (st' := [.int (pm_in c 1 99)]) rfl ?_
  refine pm_if_eq (tgt := 27) B dX13_doAddMember_14 (by decide) (fun h2 => ?_) (fun h2 => absurd (h1) h2)
  refine pm_aload_n B dX13_doAddMember_27 rfl ?_
  refine pm_iconst (v := 1) B dX13_doAddMember_28 (by decide) ?_
  refine pm_cV (As := [.int 1]) (mc2 := 0) (ms2 := 0) B rfl hM rfl (c_X13_fails (f := f) hM) mt_X13_fails sv_X13_66 dX13_doAddMember_29 rfl rfl rfl rfl rfl ?_
  refine pm_mem (M' := pm_up M m0 (pm_mo z m0 (upd f 6 1))) rfl ?_
  refine pm_stk (st' := [.int 0]) rfl ?_
  exact pm_ireturn B dX13_doAddMember_32 rfl (by first | rfl | (apply pm_nz; first | assumption | decide | exact pm_in01 _ _ _ | simp)) ⟨rfl, rfl, rfl⟩ rfl rfl
set_option maxRecDepth 100000 in
set_option maxHeartbeats 4000000 in
theorem c_X13_doAddMember_a2 {l : Launch} {z : Nat} {D : va_G} {kA : Nat → ClassId} {kE : Nat → Nat} {nx : Nat} {M : pm_M} {m0 : Nat} {f : Nat → Int32} (hM : M m0 = some (pm_mo z m0 f)) {g : Nat → Int32} (hg : M (m0 + 1) = some (.inl (kA 0, 91, .inl g))) {c v : Int32} {n : Nat} (hn : g 0 = nI n) (h7 : n < 7) (h1 : ¬ (pm_in c 1 99) = 0) (h3 : ¬ (pm_in v 1 20) = 0) : pm_C l z D kA kE yX13_doAddMember cX13_doAddMember 4 (some .int) 2 0 0 [.ref (z + m0), .int c, .int v] nx M (pm_rt (some (.int (nI n))) nx (pm_up M (m0 + 1) (.inl (kA 0, 91, .inl (upd (upd (upd (upd (upd (upd g (7 + 5 * n + 0) c) (7 + 5 * n + 1) v) (7 + 5 * n + 2) 0) (7 + 5 * n + 3) 0) (7 + 5 * n + 4) 0) 0 ((nI n) + 1)))))) := by
  refine pm_mk (own := RX13) (nm := "doAddMember") mt_X13_doAddMember rfl rfl rfl rfl fun X B => ?_
  refine pm_loc (L' := [some (.ref (z + m0)), some (.int c), some (.int v), none]) rfl ?_
  refine pm_aload_n B dX13_doAddMember_0 rfl ?_
  refine pm_get B dX13_doAddMember_1 fl_X13_9 hM rfl ?_
  refine pm_iconst (v := 0) B dX13_doAddMember_4 (by decide) ?_
  refine pm_iald_n B dX13_doAddMember_5 hg 0 (by decide) (by decide) ?_
  refine pm_stk (st' := [.int (nI n)]) (by rw [show (g 0) = (nI n) from by rw [hn]]) ?_
  refine pm_istore_n B dX13_doAddMember_6 rfl rfl ?_
  refine pm_loc (L' := [some (.ref (z + m0)), some (.int c), some (.int v), some (.int (nI n))]) rfl ?_
  refine pm_iload_n B dX13_doAddMember_7 rfl ?_
  refine pm_iconst (v := 1) B dX13_doAddMember_8 (by decide) ?_
  refine pm_bipush (v := 99) B dX13_doAddMember_9 (by decide) ?_
  refine pm_cS (As := [.int c, .int 1, .int 99]) (mc2 := 0) (ms2 := 0) B c_X13_in mt_X13_in ss_X13_70 dX13_doAddMember_11 rfl rfl rfl rfl rfl ?_
  refine pm_stk (st' := [.int (pm_in c 1 99)]) rfl ?_
  refine pm_if_eq (tgt := 27) B dX13_doAddMember_14 (by decide) (fun h2 => absurd h2 (h1)) (fun h2 => ?_)
  refine pm_iload_n B dX13_doAddMember_17 rfl ?_
  refine pm_iconst (v := 1) B dX13_doAddMember_18 (by decide) ?_
  refine pm_bipush (v := 20) B dX13_doAddMember_19 (by decide) ?_
  refine pm_cS (As := [.int v, .int 1, .int 20]) (mc2 := 0) (ms2 := 0) B c_X13_in mt_X13_in ss_X13_70 dX13_doAddMember_21 rfl rfl rfl rfl rfl ?_
  refine pm_stk (st' := [.int (pm_in v 1 20)]) rfl ?_
  refine pm_if_ne (tgt := 33) B dX13_doAddMember_24 (by decide) (fun h4 => ?_) (fun h4 => absurd h4 (h3))
  refine pm_iload_n B dX13_doAddMember_33 rfl ?_
  refine pm_bipush (v := 7) B dX13_doAddMember_34 (by decide) ?_
  refine pm_icmp_ne (tgt := 48) B dX13_doAddMember_36 (by decide) (fun h5 => ?_) (fun h5 => absurd h5 (fun e => absurd ((nI_eq (by omega) (by decide)).mp (e.trans (show (7 : Int32) = nI 7 from rfl))) (by omega)))
  refine pm_aload_n B dX13_doAddMember_48 rfl ?_
  refine pm_iload_n B dX13_doAddMember_49 rfl ?_
  refine pm_iconst (v := 0) B dX13_doAddMember_50 (by decide) ?_
  refine pm_iload_n B dX13_doAddMember_51 rfl ?_
  refine pm_cV (As := [.int (nI n), .int (nI 0), .int c]) (mc2 := 0) (ms2 := 0) B rfl hM rfl (c_X13_sets (f := f) hM hg (i := n) (w := 0) (by first | assumption | omega) (by first | assumption | omega)) mt_X13_sets sv_X13_87 dX13_doAddMember_52 rfl rfl rfl rfl rfl ?_
  refine pm_mem (M' := pm_up M (m0 + 1) (.inl (kA 0, 91, .inl (upd g (7 + 5 * n + 0) c)))) rfl ?_
  refine pm_stk (st' := []) rfl ?_
  refine pm_aload_n B dX13_doAddMember_55 rfl ?_
  refine pm_iload_n B dX13_doAddMember_56 rfl ?_
  refine pm_iconst (v := 1) B dX13_doAddMember_57 (by decide) ?_
  refine pm_iload_n B dX13_doAddMember_58 rfl ?_
  refine pm_cV (As := [.int (nI n), .int (nI 1), .int v]) (mc2 := 0) (ms2 := 0) B rfl ((pm_up_n (by omega)).trans hM) rfl (c_X13_sets (f := f) ((pm_up_n (by omega)).trans hM) pm_up_s (i := n) (w := 1) (by first | assumption | omega) (by first | assumption | omega)) mt_X13_sets sv_X13_87 dX13_doAddMember_59 rfl rfl rfl rfl rfl ?_
  refine pm_mem (M' := pm_up M (m0 + 1) (.inl (kA 0, 91, .inl (upd (upd g (7 + 5 * n + 0) c) (7 + 5 * n + 1) v)))) pm_up_up ?_
  refine pm_stk (st' := []) rfl ?_
  refine pm_aload_n B dX13_doAddMember_62 rfl ?_
  refine pm_iload_n B dX13_doAddMember_63 rfl ?_
  refine pm_iconst (v := 2) B dX13_doAddMember_64 (by decide) ?_
  refine pm_iconst (v := 0) B dX13_doAddMember_65 (by decide) ?_
  refine pm_cV (As := [.int (nI n), .int (nI 2), .int 0]) (mc2 := 0) (ms2 := 0) B rfl ((pm_up_n (by omega)).trans hM) rfl (c_X13_sets (f := f) ((pm_up_n (by omega)).trans hM) pm_up_s (i := n) (w := 2) (by first | assumption | omega) (by first | assumption | omega)) mt_X13_sets sv_X13_87 dX13_doAddMember_66 rfl rfl rfl rfl rfl ?_
  refine pm_mem (M' := pm_up M (m0 + 1) (.inl (kA 0, 91, .inl (upd (upd (upd g (7 + 5 * n + 0) c) (7 + 5 * n + 1) v) (7 + 5 * n + 2) 0)))) pm_up_up ?_
  refine pm_stk (st' := []) rfl ?_
  refine pm_aload_n B dX13_doAddMember_69 rfl ?_
  refine pm_iload_n B dX13_doAddMember_70 rfl ?_
  refine pm_iconst (v := 3) B dX13_doAddMember_71 (by decide) ?_
  refine pm_iconst (v := 0) B dX13_doAddMember_72 (by decide) ?_
  refine pm_cV (As := [.int (nI n), .int (nI 3), .int 0]) (mc2 := 0) (ms2 := 0) B rfl ((pm_up_n (by omega)).trans hM) rfl (c_X13_sets (f := f) ((pm_up_n (by omega)).trans hM) pm_up_s (i := n) (w := 3) (by first | assumption | omega) (by first | assumption | omega)) mt_X13_sets sv_X13_87 dX13_doAddMember_73 rfl rfl rfl rfl rfl ?_
  refine pm_mem (M' := pm_up M (m0 + 1) (.inl (kA 0, 91, .inl (upd (upd (upd (upd g (7 + 5 * n + 0) c) (7 + 5 * n + 1) v) (7 + 5 * n + 2) 0) (7 + 5 * n + 3) 0)))) pm_up_up ?_
  refine pm_stk (st' := []) rfl ?_
  refine pm_aload_n B dX13_doAddMember_76 rfl ?_
  refine pm_iload_n B dX13_doAddMember_77 rfl ?_
  refine pm_iconst (v := 4) B dX13_doAddMember_78 (by decide) ?_
  refine pm_iconst (v := 0) B dX13_doAddMember_79 (by decide) ?_
  refine pm_cV (As := [.int (nI n), .int (nI 4), .int 0]) (mc2 := 0) (ms2 := 0) B rfl ((pm_up_n (by omega)).trans hM) rfl (c_X13_sets (f := f) ((pm_up_n (by omega)).trans hM) pm_up_s (i := n) (w := 4) (by first | assumption | omega) (by first | assumption | omega)) mt_X13_sets sv_X13_87 dX13_doAddMember_80 rfl rfl rfl rfl rfl ?_
  refine pm_mem (M' := pm_up M (m0 + 1) (.inl (kA 0, 91, .inl (upd (upd (upd (upd (upd g (7 + 5 * n + 0) c) (7 + 5 * n + 1) v) (7 + 5 * n + 2) 0) (7 + 5 * n + 3) 0) (7 + 5 * n + 4) 0)))) pm_up_up ?_
  refine pm_stk (st' := []) rfl ?_
  refine pm_aload_n B dX13_doAddMember_83 rfl ?_
  refine pm_get B dX13_doAddMember_84 fl_X13_9 ((pm_up_n (by omega)).trans hM) rfl ?_
  refine pm_iconst (v := 0) B dX13_doAddMember_87 (by decide) ?_
  refine pm_dup2 B dX13_doAddMember_88 rfl rfl ?_
  refine pm_iald_n B dX13_doAddMember_89 pm_up_s 0 (by decide) (by decide) ?_
  refine pm_stk (st' := [.int (nI n), .int 0, .ref (z + (m0 + 1))]) (by rw [show ((upd (upd (upd (upd (upd g (7 + 5 * n + 0) c) (7 + 5 * n + 1) v) (7 + 5 * n + 2) 0) (7 + 5 * n + 3) 0) (7 + 5 * n + 4) 0) 0) = (nI n) from by rw [pk_un (show 0 ≠ 7 + 5 * n + 4 from (by omega)), pk_un (show 0 ≠ 7 + 5 * n + 3 from (by omega)), pk_un (show 0 ≠ 7 + 5 * n + 2 from (by omega)), pk_un (show 0 ≠ 7 + 5 * n + 1 from (by omega)), pk_un (show 0 ≠ 7 + 5 * n + 0 from (by omega)), hn]]) ?_
  refine pm_iconst (v := 1) B dX13_doAddMember_90 (by decide) ?_
  refine pm_iadd B dX13_doAddMember_91 ?_
  refine pm_iast_n B dX13_doAddMember_92 pm_up_s 0 (by decide) (by decide) ?_
  refine pm_mem (M' := pm_up M (m0 + 1) (.inl (kA 0, 91, .inl (upd (upd (upd (upd (upd (upd g (7 + 5 * n + 0) c) (7 + 5 * n + 1) v) (7 + 5 * n + 2) 0) (7 + 5 * n + 3) 0) (7 + 5 * n + 4) 0) 0 ((nI n) + 1))))) pm_up_up ?_
  refine pm_iload_n B dX13_doAddMember_93 rfl ?_
  exact pm_ireturn B dX13_doAddMember_94 rfl (by first | rfl | (apply pm_nz; first | assumption | decide | exact pm_in01 _ _ _ | simp)) ⟨rfl, rfl, rfl⟩ rfl rfl
set_option maxRecDepth 100000 in
set_option maxHeartbeats 4000000 in
theorem c_X13_doAddMember_a3 {l : Launch} {z : Nat} {D : va_G} {kA : Nat → ClassId} {kE : Nat → Nat} {nx : Nat} {M : pm_M} {m0 : Nat} {f : Nat → Int32} (hM : M m0 = some (pm_mo z m0 f)) {g : Nat → Int32} (hg : M (m0 + 1) = some (.inl (kA 0, 91, .inl g))) {c v : Int32} {n : Nat} (hn : g 0 = nI n) (h7 : n < 7) (h1 : ¬ (pm_in c 1 99) = 0) (h3 : (pm_in v 1 20) = 0) : pm_C l z D kA kE yX13_doAddMember cX13_doAddMember 4 (some .int) 2 0 0 [.ref (z + m0), .int c, .int v] nx M (pm_rt (some (.int 0)) nx (pm_up M m0 (pm_mo z m0 (upd f 6 1)))) := by
  refine pm_mk (own := RX13) (nm := "doAddMember") mt_X13_doAddMember rfl rfl rfl rfl fun X B => ?_
  refine pm_loc (L' := [some (.ref (z + m0)), some (.int c), some (.int v), none]) rfl ?_
  refine pm_aload_n B dX13_doAddMember_0 rfl ?_
  refine pm_get B dX13_doAddMember_1 fl_X13_9 hM rfl ?_
  refine pm_iconst (v := 0) B dX13_doAddMember_4 (by decide) ?_
  refine pm_iald_n B dX13_doAddMember_5 hg 0 (by decide) (by decide) ?_
  refine pm_stk (st' := [.int (nI n)]) (by rw [show (g 0) = (nI n) from by rw [hn]]) ?_
  refine pm_istore_n B dX13_doAddMember_6 rfl rfl ?_
  refine pm_loc (L' := [some (.ref (z + m0)), some (.int c), some (.int v), some (.int (nI n))]) rfl ?_
  refine pm_iload_n B dX13_doAddMember_7 rfl ?_
  refine pm_iconst (v := 1) B dX13_doAddMember_8 (by decide) ?_
  refine pm_bipush (v := 99) B dX13_doAddMember_9 (by decide) ?_
  refine pm_cS (As := [.int c, .int 1, .int 99]) (mc2 := 0) (ms2 := 0) B c_X13_in mt_X13_in ss_X13_70 dX13_doAddMember_11 rfl rfl rfl rfl rfl ?_
  refine pm_stk (st' := [.int (pm_in c 1 99)]) rfl ?_
  refine pm_if_eq (tgt := 27) B dX13_doAddMember_14 (by decide) (fun h2 => absurd h2 (h1)) (fun h2 => ?_)
  refine pm_iload_n B dX13_doAddMember_17 rfl ?_
  refine pm_iconst (v := 1) B dX13_doAddMember_18 (by decide) ?_
  refine pm_bipush (v := 20) B dX13_doAddMember_19 (by decide) ?_
  refine pm_cS (As := [.int v, .int 1, .int 20]) (mc2 := 0) (ms2 := 0) B c_X13_in mt_X13_in ss_X13_70 dX13_doAddMember_21 rfl rfl rfl rfl rfl ?_
  refine pm_stk (st' := [.int (pm_in v 1 20)]) rfl ?_
  refine pm_if_ne (tgt := 33) B dX13_doAddMember_24 (by decide) (fun h4 => absurd (h3) h4) (fun h4 => ?_)
  refine pm_aload_n B dX13_doAddMember_27 rfl ?_
  refine pm_iconst (v := 1) B dX13_doAddMember_28 (by decide) ?_
  refine pm_cV (As := [.int 1]) (mc2 := 0) (ms2 := 0) B rfl hM rfl (c_X13_fails (f := f) hM) mt_X13_fails sv_X13_66 dX13_doAddMember_29 rfl rfl rfl rfl rfl ?_
  refine pm_mem (M' := pm_up M m0 (pm_mo z m0 (upd f 6 1))) rfl ?_
  refine pm_stk (st' := [.int 0]) rfl ?_
  exact pm_ireturn B dX13_doAddMember_32 rfl (by first | rfl | (apply pm_nz; first | assumption | decide | exact pm_in01 _ _ _ | simp)) ⟨rfl, rfl, rfl⟩ rfl rfl
set_option maxRecDepth 100000 in
set_option maxHeartbeats 4000000 in
theorem c_X13_doAddMember_f1 {l : Launch} {z : Nat} {D : va_G} {kA : Nat → ClassId} {kE : Nat → Nat} {nx : Nat} {M : pm_M} {m0 : Nat} {f : Nat → Int32} (hM : M m0 = some (pm_mo z m0 f)) {g : Nat → Int32} (hg : M (m0 + 1) = some (.inl (kA 0, 91, .inl g))) {c v : Int32} (hn : g 0 = 7) (h1 : (pm_in c 1 99) = 0) : pm_C l z D kA kE yX13_doAddMember cX13_doAddMember 4 (some .int) 2 0 0 [.ref (z + m0), .int c, .int v] nx M (pm_rt (some (.int 0)) nx (pm_up M m0 (pm_mo z m0 (upd f 6 1)))) := by
  refine pm_mk (own := RX13) (nm := "doAddMember") mt_X13_doAddMember rfl rfl rfl rfl fun X B => ?_
  refine pm_loc (L' := [some (.ref (z + m0)), some (.int c), some (.int v), none]) rfl ?_
  refine pm_aload_n B dX13_doAddMember_0 rfl ?_
  refine pm_get B dX13_doAddMember_1 fl_X13_9 hM rfl ?_
  refine pm_iconst (v := 0) B dX13_doAddMember_4 (by decide) ?_
  refine pm_iald_n B dX13_doAddMember_5 hg 0 (by decide) (by decide) ?_
  refine pm_stk (st' := [.int 7]) (by rw [show (g 0) = 7 from by rw [hn]]) ?_
  refine pm_istore_n B dX13_doAddMember_6 rfl rfl ?_
  refine pm_loc (L' := [some (.ref (z + m0)), some (.int c), some (.int v), some (.int 7)]) rfl ?_
  refine pm_iload_n B dX13_doAddMember_7 rfl ?_
  refine pm_iconst (v := 1) B dX13_doAddMember_8 (by decide) ?_
  refine pm_bipush (v := 99) B dX13_doAddMember_9 (by decide) ?_
  refine pm_cS (As := [.int c, .int 1, .int 99]) (mc2 := 0) (ms2 := 0) B c_X13_in mt_X13_in ss_X13_70 dX13_doAddMember_11 rfl rfl rfl rfl rfl ?_
  refine pm_stk (st' := [.int (pm_in c 1 99)]) rfl ?_
  refine pm_if_eq (tgt := 27) B dX13_doAddMember_14 (by decide) (fun h2 => ?_) (fun h2 => absurd (h1) h2)
  refine pm_aload_n B dX13_doAddMember_27 rfl ?_
  refine pm_iconst (v := 1) B dX13_doAddMember_28 (by decide) ?_
  refine pm_cV (As := [.int 1]) (mc2 := 0) (ms2 := 0) B rfl hM rfl (c_X13_fails (f := f) hM) mt_X13_fails sv_X13_66 dX13_doAddMember_29 rfl rfl rfl rfl rfl ?_
  refine pm_mem (M' := pm_up M m0 (pm_mo z m0 (upd f 6 1))) rfl ?_
  refine pm_stk (st' := [.int 0]) rfl ?_
  exact pm_ireturn B dX13_doAddMember_32 rfl (by first | rfl | (apply pm_nz; first | assumption | decide | exact pm_in01 _ _ _ | simp)) ⟨rfl, rfl, rfl⟩ rfl rfl
set_option maxRecDepth 100000 in
set_option maxHeartbeats 4000000 in
theorem c_X13_doAddMember_f2 {l : Launch} {z : Nat} {D : va_G} {kA : Nat → ClassId} {kE : Nat → Nat} {nx : Nat} {M : pm_M} {m0 : Nat} {f : Nat → Int32} (hM : M m0 = some (pm_mo z m0 f)) {g : Nat → Int32} (hg : M (m0 + 1) = some (.inl (kA 0, 91, .inl g))) {c v : Int32} (hn : g 0 = 7) (h1 : ¬ (pm_in c 1 99) = 0) (h3 : ¬ (pm_in v 1 20) = 0) : pm_C l z D kA kE yX13_doAddMember cX13_doAddMember 4 (some .int) 2 0 0 [.ref (z + m0), .int c, .int v] nx M (pm_rt (some (.int 0)) nx (pm_up M m0 (pm_mo z m0 (upd (upd (upd f 7 1) 8 7) 6 2)))) := by
  refine pm_mk (own := RX13) (nm := "doAddMember") mt_X13_doAddMember rfl rfl rfl rfl fun X B => ?_
  refine pm_loc (L' := [some (.ref (z + m0)), some (.int c), some (.int v), none]) rfl ?_
  refine pm_aload_n B dX13_doAddMember_0 rfl ?_
  refine pm_get B dX13_doAddMember_1 fl_X13_9 hM rfl ?_
  refine pm_iconst (v := 0) B dX13_doAddMember_4 (by decide) ?_
  refine pm_iald_n B dX13_doAddMember_5 hg 0 (by decide) (by decide) ?_
  refine pm_stk (st' := [.int 7]) (by rw [show (g 0) = 7 from by rw [hn]]) ?_
  refine pm_istore_n B dX13_doAddMember_6 rfl rfl ?_
  refine pm_loc (L' := [some (.ref (z + m0)), some (.int c), some (.int v), some (.int 7)]) rfl ?_
  refine pm_iload_n B dX13_doAddMember_7 rfl ?_
  refine pm_iconst (v := 1) B dX13_doAddMember_8 (by decide) ?_
  refine pm_bipush (v := 99) B dX13_doAddMember_9 (by decide) ?_
  refine pm_cS (As := [.int c, .int 1, .int 99]) (mc2 := 0) (ms2 := 0) B c_X13_in mt_X13_in ss_X13_70 dX13_doAddMember_11 rfl rfl rfl rfl rfl ?_
  refine pm_stk (st' := [.int (pm_in c 1 99)]) rfl ?_
  refine pm_if_eq (tgt := 27) B dX13_doAddMember_14 (by decide) (fun h2 => absurd h2 (h1)) (fun h2 => ?_)
  refine pm_iload_n B dX13_doAddMember_17 rfl ?_
  refine pm_iconst (v := 1) B dX13_doAddMember_18 (by decide) ?_
  refine pm_bipush (v := 20) B dX13_doAddMember_19 (by decide) ?_
  refine pm_cS (As := [.int v, .int 1, .int 20]) (mc2 := 0) (ms2 := 0) B c_X13_in mt_X13_in ss_X13_70 dX13_doAddMember_21 rfl rfl rfl rfl rfl ?_
  refine pm_stk (st' := [.int (pm_in v 1 20)]) rfl ?_
  refine pm_if_ne (tgt := 33) B dX13_doAddMember_24 (by decide) (fun h4 => ?_) (fun h4 => absurd h4 (h3))
  refine pm_iload_n B dX13_doAddMember_33 rfl ?_
  refine pm_bipush (v := 7) B dX13_doAddMember_34 (by decide) ?_
  refine pm_icmp_ne (tgt := 48) B dX13_doAddMember_36 (by decide) (fun h5 => absurd (by decide) h5) (fun h5 => ?_)
  refine pm_aload_n B dX13_doAddMember_39 rfl ?_
  refine pm_iconst (v := 2) B dX13_doAddMember_40 (by decide) ?_
  refine pm_iconst (v := 1) B dX13_doAddMember_41 (by decide) ?_
  refine pm_bipush (v := 7) B dX13_doAddMember_42 (by decide) ?_
  refine pm_cV (As := [.int 2, .int 1, .int 7]) (mc2 := 0) (ms2 := 0) B rfl hM rfl (c_X13_denies (f := f) hM) mt_X13_denies sv_X13_83 dX13_doAddMember_44 rfl rfl rfl rfl rfl ?_
  refine pm_mem (M' := pm_up M m0 (pm_mo z m0 (upd (upd (upd f 7 1) 8 7) 6 2))) rfl ?_
  refine pm_stk (st' := [.int 0]) rfl ?_
  exact pm_ireturn B dX13_doAddMember_47 rfl (by first | rfl | (apply pm_nz; first | assumption | decide | exact pm_in01 _ _ _ | simp)) ⟨rfl, rfl, rfl⟩ rfl rfl
set_option maxRecDepth 100000 in
set_option maxHeartbeats 4000000 in
theorem c_X13_doAddMember_f3 {l : Launch} {z : Nat} {D : va_G} {kA : Nat → ClassId} {kE : Nat → Nat} {nx : Nat} {M : pm_M} {m0 : Nat} {f : Nat → Int32} (hM : M m0 = some (pm_mo z m0 f)) {g : Nat → Int32} (hg : M (m0 + 1) = some (.inl (kA 0, 91, .inl g))) {c v : Int32} (hn : g 0 = 7) (h1 : ¬ (pm_in c 1 99) = 0) (h3 : (pm_in v 1 20) = 0) : pm_C l z D kA kE yX13_doAddMember cX13_doAddMember 4 (some .int) 2 0 0 [.ref (z + m0), .int c, .int v] nx M (pm_rt (some (.int 0)) nx (pm_up M m0 (pm_mo z m0 (upd f 6 1)))) := by
  refine pm_mk (own := RX13) (nm := "doAddMember") mt_X13_doAddMember rfl rfl rfl rfl fun X B => ?_
  refine pm_loc (L' := [some (.ref (z + m0)), some (.int c), some (.int v), none]) rfl ?_
  refine pm_aload_n B dX13_doAddMember_0 rfl ?_
  refine pm_get B dX13_doAddMember_1 fl_X13_9 hM rfl ?_
  refine pm_iconst (v := 0) B dX13_doAddMember_4 (by decide) ?_
  refine pm_iald_n B dX13_doAddMember_5 hg 0 (by decide) (by decide) ?_
  refine pm_stk (st' := [.int 7]) (by rw [show (g 0) = 7 from by rw [hn]]) ?_
  refine pm_istore_n B dX13_doAddMember_6 rfl rfl ?_
  refine pm_loc (L' := [some (.ref (z + m0)), some (.int c), some (.int v), some (.int 7)]) rfl ?_
  refine pm_iload_n B dX13_doAddMember_7 rfl ?_
  refine pm_iconst (v := 1) B dX13_doAddMember_8 (by decide) ?_
  refine pm_bipush (v := 99) B dX13_doAddMember_9 (by decide) ?_
  refine pm_cS (As := [.int c, .int 1, .int 99]) (mc2 := 0) (ms2 := 0) B c_X13_in mt_X13_in ss_X13_70 dX13_doAddMember_11 rfl rfl rfl rfl rfl ?_
  refine pm_stk (st' := [.int (pm_in c 1 99)]) rfl ?_
  refine pm_if_eq (tgt := 27) B dX13_doAddMember_14 (by decide) (fun h2 => absurd h2 (h1)) (fun h2 => ?_)
  refine pm_iload_n B dX13_doAddMember_17 rfl ?_
  refine pm_iconst (v := 1) B dX13_doAddMember_18 (by decide) ?_
  refine pm_bipush (v := 20) B dX13_doAddMember_19 (by decide) ?_
  refine pm_cS (As := [.int v, .int 1, .int 20]) (mc2 := 0) (ms2 := 0) B c_X13_in mt_X13_in ss_X13_70 dX13_doAddMember_21 rfl rfl rfl rfl rfl ?_
  refine pm_stk (st' := [.int (pm_in v 1 20)]) rfl ?_
  refine pm_if_ne (tgt := 33) B dX13_doAddMember_24 (by decide) (fun h4 => absurd (h3) h4) (fun h4 => ?_)
  refine pm_aload_n B dX13_doAddMember_27 rfl ?_
  refine pm_iconst (v := 1) B dX13_doAddMember_28 (by decide) ?_
  refine pm_cV (As := [.int 1]) (mc2 := 0) (ms2 := 0) B rfl hM rfl (c_X13_fails (f := f) hM) mt_X13_fails sv_X13_66 dX13_doAddMember_29 rfl rfl rfl rfl rfl ?_
  refine pm_mem (M' := pm_up M m0 (pm_mo z m0 (upd f 6 1))) rfl ?_
  refine pm_stk (st' := [.int 0]) rfl ?_
  exact pm_ireturn B dX13_doAddMember_32 rfl (by first | rfl | (apply pm_nz; first | assumption | decide | exact pm_in01 _ _ _ | simp)) ⟨rfl, rfl, rfl⟩ rfl rfl
set_option maxRecDepth 100000 in
set_option maxHeartbeats 4000000 in
theorem c_X13_doSetRule_1 {l : Launch} {z : Nat} {D : va_G} {kA : Nat → ClassId} {kE : Nat → Nat} {nx : Nat} {M : pm_M} {m0 : Nat} {f : Nat → Int32} (hM : M m0 = some (pm_mo z m0 f)) {g : Nat → Int32} (hg : M (m0 + 1) = some (.inl (kA 0, 91, .inl g))) {x : Int32} (h1 : ¬ (pm_in x 0 1) = 0) (h3 : ¬ x = (g 1)) : pm_C l z D kA kE yX13_doSetRule cX13_doSetRule 2 (some .int) 2 0 0 [.ref (z + m0), .int x] nx M (pm_rt (some (.int (1 - x))) nx (pm_up M (m0 + 1) (.inl (kA 0, 91, .inl (upd g 1 x))))) := by
  refine pm_mk (own := RX13) (nm := "doSetRule") mt_X13_doSetRule rfl rfl rfl rfl fun X B => ?_
  refine pm_loc (L' := [some (.ref (z + m0)), some (.int x)]) rfl ?_
  refine pm_iload_n B dX13_doSetRule_0 rfl ?_
  refine pm_iconst (v := 0) B dX13_doSetRule_1 (by decide) ?_
  refine pm_iconst (v := 1) B dX13_doSetRule_2 (by decide) ?_
  refine pm_cS (As := [.int x, .int 0, .int 1]) (mc2 := 0) (ms2 := 0) B c_X13_in mt_X13_in ss_X13_70 dX13_doSetRule_3 rfl rfl rfl rfl rfl ?_
  refine pm_stk (st' := [.int (pm_in x 0 1)]) rfl ?_
  refine pm_if_ne (tgt := 15) B dX13_doSetRule_6 (by decide) (fun h2 => ?_) (fun h2 => absurd h2 (h1))
  refine pm_iload_n B dX13_doSetRule_15 rfl ?_
  refine pm_aload_n B dX13_doSetRule_16 rfl ?_
  refine pm_get B dX13_doSetRule_17 fl_X13_9 hM rfl ?_
  refine pm_iconst (v := 1) B dX13_doSetRule_20 (by decide) ?_
  refine pm_iald_n B dX13_doSetRule_21 hg 1 (by decide) (by decide) ?_
  refine pm_icmp_ne (tgt := 34) B dX13_doSetRule_22 (by decide) (fun h4 => ?_) (fun h4 => absurd h4 (h3))
  refine pm_aload_n B dX13_doSetRule_34 rfl ?_
  refine pm_get B dX13_doSetRule_35 fl_X13_9 hM rfl ?_
  refine pm_iconst (v := 1) B dX13_doSetRule_38 (by decide) ?_
  refine pm_iload_n B dX13_doSetRule_39 rfl ?_
  refine pm_iast_n B dX13_doSetRule_40 hg 1 (by decide) (by decide) ?_
  refine pm_mem (M' := pm_up M (m0 + 1) (.inl (kA 0, 91, .inl (upd g 1 x)))) rfl ?_
  refine pm_iconst (v := 1) B dX13_doSetRule_41 (by decide) ?_
  refine pm_iload_n B dX13_doSetRule_42 rfl ?_
  refine pm_isub B dX13_doSetRule_43 ?_
  exact pm_ireturn B dX13_doSetRule_44 rfl (by first | rfl | (apply pm_nz; first | assumption | decide | exact pm_in01 _ _ _ | simp)) ⟨rfl, rfl, rfl⟩ rfl rfl
set_option maxRecDepth 100000 in
set_option maxHeartbeats 4000000 in
theorem c_X13_doSetRule_2 {l : Launch} {z : Nat} {D : va_G} {kA : Nat → ClassId} {kE : Nat → Nat} {nx : Nat} {M : pm_M} {m0 : Nat} {f : Nat → Int32} (hM : M m0 = some (pm_mo z m0 f)) {g : Nat → Int32} (hg : M (m0 + 1) = some (.inl (kA 0, 91, .inl g))) {x : Int32} (h1 : ¬ (pm_in x 0 1) = 0) (h3 : x = (g 1)) : pm_C l z D kA kE yX13_doSetRule cX13_doSetRule 2 (some .int) 2 0 0 [.ref (z + m0), .int x] nx M (pm_rt (some (.int 0)) nx (pm_up M m0 (pm_mo z m0 (upd (upd (upd f 7 7) 8 x) 6 2)))) := by
  refine pm_mk (own := RX13) (nm := "doSetRule") mt_X13_doSetRule rfl rfl rfl rfl fun X B => ?_
  refine pm_loc (L' := [some (.ref (z + m0)), some (.int x)]) rfl ?_
  refine pm_iload_n B dX13_doSetRule_0 rfl ?_
  refine pm_iconst (v := 0) B dX13_doSetRule_1 (by decide) ?_
  refine pm_iconst (v := 1) B dX13_doSetRule_2 (by decide) ?_
  refine pm_cS (As := [.int x, .int 0, .int 1]) (mc2 := 0) (ms2 := 0) B c_X13_in mt_X13_in ss_X13_70 dX13_doSetRule_3 rfl rfl rfl rfl rfl ?_
  refine pm_stk (st' := [.int (pm_in x 0 1)]) rfl ?_
  refine pm_if_ne (tgt := 15) B dX13_doSetRule_6 (by decide) (fun h2 => ?_) (fun h2 => absurd h2 (h1))
  refine pm_iload_n B dX13_doSetRule_15 rfl ?_
  refine pm_aload_n B dX13_doSetRule_16 rfl ?_
  refine pm_get B dX13_doSetRule_17 fl_X13_9 hM rfl ?_
  refine pm_iconst (v := 1) B dX13_doSetRule_20 (by decide) ?_
  refine pm_iald_n B dX13_doSetRule_21 hg 1 (by decide) (by decide) ?_
  refine pm_icmp_ne (tgt := 34) B dX13_doSetRule_22 (by decide) (fun h4 => absurd (h3) h4) (fun h4 => ?_)
  refine pm_aload_n B dX13_doSetRule_25 rfl ?_
  refine pm_iconst (v := 2) B dX13_doSetRule_26 (by decide) ?_
  refine pm_bipush (v := 7) B dX13_doSetRule_27 (by decide) ?_
  refine pm_iload_n B dX13_doSetRule_29 rfl ?_
  refine pm_cV (As := [.int 2, .int 7, .int x]) (mc2 := 0) (ms2 := 0) B rfl hM rfl (c_X13_denies (f := f) hM) mt_X13_denies sv_X13_83 dX13_doSetRule_30 rfl rfl rfl rfl rfl ?_
  refine pm_mem (M' := pm_up M m0 (pm_mo z m0 (upd (upd (upd f 7 7) 8 x) 6 2))) rfl ?_
  refine pm_stk (st' := [.int 0]) rfl ?_
  exact pm_ireturn B dX13_doSetRule_33 rfl (by first | rfl | (apply pm_nz; first | assumption | decide | exact pm_in01 _ _ _ | simp)) ⟨rfl, rfl, rfl⟩ rfl rfl
set_option maxRecDepth 100000 in
set_option maxHeartbeats 4000000 in
theorem c_X13_doSetRule_3 {l : Launch} {z : Nat} {D : va_G} {kA : Nat → ClassId} {kE : Nat → Nat} {nx : Nat} {M : pm_M} {m0 : Nat} {f : Nat → Int32} (hM : M m0 = some (pm_mo z m0 f)) {g : Nat → Int32} (hg : M (m0 + 1) = some (.inl (kA 0, 91, .inl g))) {x : Int32} (h1 : (pm_in x 0 1) = 0) : pm_C l z D kA kE yX13_doSetRule cX13_doSetRule 2 (some .int) 2 0 0 [.ref (z + m0), .int x] nx M (pm_rt (some (.int 0)) nx (pm_up M m0 (pm_mo z m0 (upd f 6 1)))) := by
  refine pm_mk (own := RX13) (nm := "doSetRule") mt_X13_doSetRule rfl rfl rfl rfl fun X B => ?_
  refine pm_loc (L' := [some (.ref (z + m0)), some (.int x)]) rfl ?_
  refine pm_iload_n B dX13_doSetRule_0 rfl ?_
  refine pm_iconst (v := 0) B dX13_doSetRule_1 (by decide) ?_
  refine pm_iconst (v := 1) B dX13_doSetRule_2 (by decide) ?_
  refine pm_cS (As := [.int x, .int 0, .int 1]) (mc2 := 0) (ms2 := 0) B c_X13_in mt_X13_in ss_X13_70 dX13_doSetRule_3 rfl rfl rfl rfl rfl ?_
  refine pm_stk (st' := [.int (pm_in x 0 1)]) rfl ?_
  refine pm_if_ne (tgt := 15) B dX13_doSetRule_6 (by decide) (fun h2 => absurd (h1) h2) (fun h2 => ?_)
  refine pm_aload_n B dX13_doSetRule_9 rfl ?_
  refine pm_iconst (v := 1) B dX13_doSetRule_10 (by decide) ?_
  refine pm_cV (As := [.int 1]) (mc2 := 0) (ms2 := 0) B rfl hM rfl (c_X13_fails (f := f) hM) mt_X13_fails sv_X13_66 dX13_doSetRule_11 rfl rfl rfl rfl rfl ?_
  refine pm_mem (M' := pm_up M m0 (pm_mo z m0 (upd f 6 1))) rfl ?_
  refine pm_stk (st' := [.int 0]) rfl ?_
  exact pm_ireturn B dX13_doSetRule_14 rfl (by first | rfl | (apply pm_nz; first | assumption | decide | exact pm_in01 _ _ _ | simp)) ⟨rfl, rfl, rfl⟩ rfl rfl
set_option maxRecDepth 100000 in
set_option maxHeartbeats 4000000 in
theorem c_X13_doSetSeed_1 {l : Launch} {z : Nat} {D : va_G} {kA : Nat → ClassId} {kE : Nat → Nat} {nx : Nat} {M : pm_M} {m0 : Nat} {f : Nat → Int32} (hM : M m0 = some (pm_mo z m0 f)) {g : Nat → Int32} (hg : M (m0 + 1) = some (.inl (kA 0, 91, .inl g))) {x : Int32} (h1 : ¬ (pm_in x 0 1023) = 0) : pm_C l z D kA kE yX13_doSetSeed cX13_doSetSeed 3 (some .int) 2 0 0 [.ref (z + m0), .int x] nx M (pm_rt (some (.int (g 2))) nx (pm_up M (m0 + 1) (.inl (kA 0, 91, .inl (upd g 2 x))))) := by
  refine pm_mk (own := RX13) (nm := "doSetSeed") mt_X13_doSetSeed rfl rfl rfl rfl fun X B => ?_
  refine pm_loc (L' := [some (.ref (z + m0)), some (.int x), none]) rfl ?_
  refine pm_iload_n B dX13_doSetSeed_0 rfl ?_
  refine pm_iconst (v := 0) B dX13_doSetSeed_1 (by decide) ?_
  refine pm_sipush (v := 1023) B dX13_doSetSeed_2 (by decide) ?_
  refine pm_cS (As := [.int x, .int 0, .int 1023]) (mc2 := 0) (ms2 := 0) B c_X13_in mt_X13_in ss_X13_70 dX13_doSetSeed_5 rfl rfl rfl rfl rfl ?_
  refine pm_stk (st' := [.int (pm_in x 0 1023)]) rfl ?_
  refine pm_if_ne (tgt := 17) B dX13_doSetSeed_8 (by decide) (fun h2 => ?_) (fun h2 => absurd h2 (h1))
  refine pm_aload_n B dX13_doSetSeed_17 rfl ?_
  refine pm_get B dX13_doSetSeed_18 fl_X13_9 hM rfl ?_
  refine pm_iconst (v := 2) B dX13_doSetSeed_21 (by decide) ?_
  refine pm_iald_n B dX13_doSetSeed_22 hg 2 (by decide) (by decide) ?_
  refine pm_istore_n B dX13_doSetSeed_23 rfl rfl ?_
  refine pm_loc (L' := [some (.ref (z + m0)), some (.int x), some (.int (g 2))]) rfl ?_
  refine pm_aload_n B dX13_doSetSeed_24 rfl ?_
  refine pm_get B dX13_doSetSeed_25 fl_X13_9 hM rfl ?_
  refine pm_iconst (v := 2) B dX13_doSetSeed_28 (by decide) ?_
  refine pm_iload_n B dX13_doSetSeed_29 rfl ?_
  refine pm_iast_n B dX13_doSetSeed_30 hg 2 (by decide) (by decide) ?_
  refine pm_mem (M' := pm_up M (m0 + 1) (.inl (kA 0, 91, .inl (upd g 2 x)))) rfl ?_
  refine pm_iload_n B dX13_doSetSeed_31 rfl ?_
  exact pm_ireturn B dX13_doSetSeed_32 rfl (by first | rfl | (apply pm_nz; first | assumption | decide | exact pm_in01 _ _ _ | simp)) ⟨rfl, rfl, rfl⟩ rfl rfl
set_option maxRecDepth 100000 in
set_option maxHeartbeats 4000000 in
theorem c_X13_doSetSeed_2 {l : Launch} {z : Nat} {D : va_G} {kA : Nat → ClassId} {kE : Nat → Nat} {nx : Nat} {M : pm_M} {m0 : Nat} {f : Nat → Int32} (hM : M m0 = some (pm_mo z m0 f)) {g : Nat → Int32} (hg : M (m0 + 1) = some (.inl (kA 0, 91, .inl g))) {x : Int32} (h1 : (pm_in x 0 1023) = 0) : pm_C l z D kA kE yX13_doSetSeed cX13_doSetSeed 3 (some .int) 2 0 0 [.ref (z + m0), .int x] nx M (pm_rt (some (.int 0)) nx (pm_up M m0 (pm_mo z m0 (upd f 6 1)))) := by
  refine pm_mk (own := RX13) (nm := "doSetSeed") mt_X13_doSetSeed rfl rfl rfl rfl fun X B => ?_
  refine pm_loc (L' := [some (.ref (z + m0)), some (.int x), none]) rfl ?_
  refine pm_iload_n B dX13_doSetSeed_0 rfl ?_
  refine pm_iconst (v := 0) B dX13_doSetSeed_1 (by decide) ?_
  refine pm_sipush (v := 1023) B dX13_doSetSeed_2 (by decide) ?_
  refine pm_cS (As := [.int x, .int 0, .int 1023]) (mc2 := 0) (ms2 := 0) B c_X13_in mt_X13_in ss_X13_70 dX13_doSetSeed_5 rfl rfl rfl rfl rfl ?_
  refine pm_stk (st' := [.int (pm_in x 0 1023)]) rfl ?_
  refine pm_if_ne (tgt := 17) B dX13_doSetSeed_8 (by decide) (fun h2 => absurd (h1) h2) (fun h2 => ?_)
  refine pm_aload_n B dX13_doSetSeed_11 rfl ?_
  refine pm_iconst (v := 1) B dX13_doSetSeed_12 (by decide) ?_
  refine pm_cV (As := [.int 1]) (mc2 := 0) (ms2 := 0) B rfl hM rfl (c_X13_fails (f := f) hM) mt_X13_fails sv_X13_66 dX13_doSetSeed_13 rfl rfl rfl rfl rfl ?_
  refine pm_mem (M' := pm_up M m0 (pm_mo z m0 (upd f 6 1))) rfl ?_
  refine pm_stk (st' := [.int 0]) rfl ?_
  exact pm_ireturn B dX13_doSetSeed_16 rfl (by first | rfl | (apply pm_nz; first | assumption | decide | exact pm_in01 _ _ _ | simp)) ⟨rfl, rfl, rfl⟩ rfl rfl
set_option maxRecDepth 100000 in
set_option maxHeartbeats 4000000 in
theorem c_X13_doSetThreshold_1 {l : Launch} {z : Nat} {D : va_G} {kA : Nat → ClassId} {kE : Nat → Nat} {nx : Nat} {M : pm_M} {m0 : Nat} {f : Nat → Int32} (hM : M m0 = some (pm_mo z m0 f)) {g : Nat → Int32} (hg : M (m0 + 1) = some (.inl (kA 0, 91, .inl g))) {x : Int32} (h1 : ¬ (pm_in x 1 99) = 0) (h3 : ¬ x = (g 3)) : pm_C l z D kA kE yX13_doSetThreshold cX13_doSetThreshold 3 (some .int) 2 0 0 [.ref (z + m0), .int x] nx M (pm_rt (some (.int (g 3))) nx (pm_up M (m0 + 1) (.inl (kA 0, 91, .inl (upd g 3 x))))) := by
  refine pm_mk (own := RX13) (nm := "doSetThreshold") mt_X13_doSetThreshold rfl rfl rfl rfl fun X B => ?_
  refine pm_loc (L' := [some (.ref (z + m0)), some (.int x), none]) rfl ?_
  refine pm_iload_n B dX13_doSetThreshold_0 rfl ?_
  refine pm_iconst (v := 1) B dX13_doSetThreshold_1 (by decide) ?_
  refine pm_bipush (v := 99) B dX13_doSetThreshold_2 (by decide) ?_
  refine pm_cS (As := [.int x, .int 1, .int 99]) (mc2 := 0) (ms2 := 0) B c_X13_in mt_X13_in ss_X13_70 dX13_doSetThreshold_4 rfl rfl rfl rfl rfl ?_
  refine pm_stk (st' := [.int (pm_in x 1 99)]) rfl ?_
  refine pm_if_ne (tgt := 16) B dX13_doSetThreshold_7 (by decide) (fun h2 => ?_) (fun h2 => absurd h2 (h1))
  refine pm_iload_n B dX13_doSetThreshold_16 rfl ?_
  refine pm_aload_n B dX13_doSetThreshold_17 rfl ?_
  refine pm_get B dX13_doSetThreshold_18 fl_X13_9 hM rfl ?_
  refine pm_iconst (v := 3) B dX13_doSetThreshold_21 (by decide) ?_
  refine pm_iald_n B dX13_doSetThreshold_22 hg 3 (by decide) (by decide) ?_
  refine pm_icmp_ne (tgt := 35) B dX13_doSetThreshold_23 (by decide) (fun h4 => ?_) (fun h4 => absurd h4 (h3))
  refine pm_aload_n B dX13_doSetThreshold_35 rfl ?_
  refine pm_get B dX13_doSetThreshold_36 fl_X13_9 hM rfl ?_
  refine pm_iconst (v := 3) B dX13_doSetThreshold_39 (by decide) ?_
  refine pm_iald_n B dX13_doSetThreshold_40 hg 3 (by decide) (by decide) ?_
  refine pm_istore_n B dX13_doSetThreshold_41 rfl rfl ?_
  refine pm_loc (L' := [some (.ref (z + m0)), some (.int x), some (.int (g 3))]) rfl ?_
  refine pm_aload_n B dX13_doSetThreshold_42 rfl ?_
  refine pm_get B dX13_doSetThreshold_43 fl_X13_9 hM rfl ?_
  refine pm_iconst (v := 3) B dX13_doSetThreshold_46 (by decide) ?_
  refine pm_iload_n B dX13_doSetThreshold_47 rfl ?_
  refine pm_iast_n B dX13_doSetThreshold_48 hg 3 (by decide) (by decide) ?_
  refine pm_mem (M' := pm_up M (m0 + 1) (.inl (kA 0, 91, .inl (upd g 3 x)))) rfl ?_
  refine pm_iload_n B dX13_doSetThreshold_49 rfl ?_
  exact pm_ireturn B dX13_doSetThreshold_50 rfl (by first | rfl | (apply pm_nz; first | assumption | decide | exact pm_in01 _ _ _ | simp)) ⟨rfl, rfl, rfl⟩ rfl rfl
set_option maxRecDepth 100000 in
set_option maxHeartbeats 4000000 in
theorem c_X13_doSetThreshold_2 {l : Launch} {z : Nat} {D : va_G} {kA : Nat → ClassId} {kE : Nat → Nat} {nx : Nat} {M : pm_M} {m0 : Nat} {f : Nat → Int32} (hM : M m0 = some (pm_mo z m0 f)) {g : Nat → Int32} (hg : M (m0 + 1) = some (.inl (kA 0, 91, .inl g))) {x : Int32} (h1 : ¬ (pm_in x 1 99) = 0) (h3 : x = (g 3)) : pm_C l z D kA kE yX13_doSetThreshold cX13_doSetThreshold 3 (some .int) 2 0 0 [.ref (z + m0), .int x] nx M (pm_rt (some (.int 0)) nx (pm_up M m0 (pm_mo z m0 (upd (upd (upd f 7 7) 8 x) 6 2)))) := by
  refine pm_mk (own := RX13) (nm := "doSetThreshold") mt_X13_doSetThreshold rfl rfl rfl rfl fun X B => ?_
  refine pm_loc (L' := [some (.ref (z + m0)), some (.int x), none]) rfl ?_
  refine pm_iload_n B dX13_doSetThreshold_0 rfl ?_
  refine pm_iconst (v := 1) B dX13_doSetThreshold_1 (by decide) ?_
  refine pm_bipush (v := 99) B dX13_doSetThreshold_2 (by decide) ?_
  refine pm_cS (As := [.int x, .int 1, .int 99]) (mc2 := 0) (ms2 := 0) B c_X13_in mt_X13_in ss_X13_70 dX13_doSetThreshold_4 rfl rfl rfl rfl rfl ?_
  refine pm_stk (st' := [.int (pm_in x 1 99)]) rfl ?_
  refine pm_if_ne (tgt := 16) B dX13_doSetThreshold_7 (by decide) (fun h2 => ?_) (fun h2 => absurd h2 (h1))
  refine pm_iload_n B dX13_doSetThreshold_16 rfl ?_
  refine pm_aload_n B dX13_doSetThreshold_17 rfl ?_
  refine pm_get B dX13_doSetThreshold_18 fl_X13_9 hM rfl ?_
  refine pm_iconst (v := 3) B dX13_doSetThreshold_21 (by decide) ?_
  refine pm_iald_n B dX13_doSetThreshold_22 hg 3 (by decide) (by decide) ?_
  refine pm_icmp_ne (tgt := 35) B dX13_doSetThreshold_23 (by decide) (fun h4 => absurd (h3) h4) (fun h4 => ?_)
  refine pm_aload_n B dX13_doSetThreshold_26 rfl ?_
  refine pm_iconst (v := 2) B dX13_doSetThreshold_27 (by decide) ?_
  refine pm_bipush (v := 7) B dX13_doSetThreshold_28 (by decide) ?_
  refine pm_iload_n B dX13_doSetThreshold_30 rfl ?_
  refine pm_cV (As := [.int 2, .int 7, .int x]) (mc2 := 0) (ms2 := 0) B rfl hM rfl (c_X13_denies (f := f) hM) mt_X13_denies sv_X13_83 dX13_doSetThreshold_31 rfl rfl rfl rfl rfl ?_
  refine pm_mem (M' := pm_up M m0 (pm_mo z m0 (upd (upd (upd f 7 7) 8 x) 6 2))) rfl ?_
  refine pm_stk (st' := [.int 0]) rfl ?_
  exact pm_ireturn B dX13_doSetThreshold_34 rfl (by first | rfl | (apply pm_nz; first | assumption | decide | exact pm_in01 _ _ _ | simp)) ⟨rfl, rfl, rfl⟩ rfl rfl
set_option maxRecDepth 100000 in
set_option maxHeartbeats 4000000 in
theorem c_X13_doSetThreshold_3 {l : Launch} {z : Nat} {D : va_G} {kA : Nat → ClassId} {kE : Nat → Nat} {nx : Nat} {M : pm_M} {m0 : Nat} {f : Nat → Int32} (hM : M m0 = some (pm_mo z m0 f)) {g : Nat → Int32} (hg : M (m0 + 1) = some (.inl (kA 0, 91, .inl g))) {x : Int32} (h1 : (pm_in x 1 99) = 0) : pm_C l z D kA kE yX13_doSetThreshold cX13_doSetThreshold 3 (some .int) 2 0 0 [.ref (z + m0), .int x] nx M (pm_rt (some (.int 0)) nx (pm_up M m0 (pm_mo z m0 (upd f 6 1)))) := by
  refine pm_mk (own := RX13) (nm := "doSetThreshold") mt_X13_doSetThreshold rfl rfl rfl rfl fun X B => ?_
  refine pm_loc (L' := [some (.ref (z + m0)), some (.int x), none]) rfl ?_
  refine pm_iload_n B dX13_doSetThreshold_0 rfl ?_
  refine pm_iconst (v := 1) B dX13_doSetThreshold_1 (by decide) ?_
  refine pm_bipush (v := 99) B dX13_doSetThreshold_2 (by decide) ?_
  refine pm_cS (As := [.int x, .int 1, .int 99]) (mc2 := 0) (ms2 := 0) B c_X13_in mt_X13_in ss_X13_70 dX13_doSetThreshold_4 rfl rfl rfl rfl rfl ?_
  refine pm_stk (st' := [.int (pm_in x 1 99)]) rfl ?_
  refine pm_if_ne (tgt := 16) B dX13_doSetThreshold_7 (by decide) (fun h2 => absurd (h1) h2) (fun h2 => ?_)
  refine pm_aload_n B dX13_doSetThreshold_10 rfl ?_
  refine pm_iconst (v := 1) B dX13_doSetThreshold_11 (by decide) ?_
  refine pm_cV (As := [.int 1]) (mc2 := 0) (ms2 := 0) B rfl hM rfl (c_X13_fails (f := f) hM) mt_X13_fails sv_X13_66 dX13_doSetThreshold_12 rfl rfl rfl rfl rfl ?_
  refine pm_mem (M' := pm_up M m0 (pm_mo z m0 (upd f 6 1))) rfl ?_
  refine pm_stk (st' := [.int 0]) rfl ?_
  exact pm_ireturn B dX13_doSetThreshold_15 rfl (by first | rfl | (apply pm_nz; first | assumption | decide | exact pm_in01 _ _ _ | simp)) ⟨rfl, rfl, rfl⟩ rfl rfl
set_option maxRecDepth 100000 in
set_option maxHeartbeats 4000000 in
theorem c_X13_doSell_o1 {l : Launch} {z : Nat} {D : va_G} {kA : Nat → ClassId} {kE : Nat → Nat} {nx : Nat} {M : pm_M} {m0 : Nat} {f : Nat → Int32} (hM : M m0 = some (pm_mo z m0 f)) {g : Nat → Int32} (hg : M (m0 + 1) = some (.inl (kA 0, 91, .inl g))) {x u : Int32} (h1 : ¬ (pm_in x 0 (g 0 - 1)) = 0) (h3 : (pm_in u 1 99) = 0) : pm_C l z D kA kE yX13_doSell cX13_doSell 4 (some .int) 2 0 0 [.ref (z + m0), .int x, .int u] nx M (pm_rt (some (.int 0)) nx (pm_up M m0 (pm_mo z m0 (upd f 6 2)))) := by
  refine pm_mk (own := RX13) (nm := "doSell") mt_X13_doSell rfl rfl rfl rfl fun X B => ?_
  refine pm_loc (L' := [some (.ref (z + m0)), some (.int x), some (.int u), none]) rfl ?_
  refine pm_aload_n B dX13_doSell_0 rfl ?_
  refine pm_iload_n B dX13_doSell_1 rfl ?_
  refine pm_cV (As := [.int x]) (mc2 := 0) (ms2 := 0) B rfl hM rfl (c_X13_isMember (f := f) hM hg) mt_X13_isMember sv_X13_100 dX13_doSell_2 rfl rfl rfl rfl rfl ?_
  refine pm_stk (st' := [.int (pm_in x 0 (g 0 - 1))]) rfl ?_
  refine pm_if_ne (tgt := 14) B dX13_doSell_5 (by decide) (fun h2 => ?_) (fun h2 => absurd h2 (h1))
  refine pm_iload_n B dX13_doSell_14 rfl ?_
  refine pm_iconst (v := 1) B dX13_doSell_15 (by decide) ?_
  refine pm_bipush (v := 99) B dX13_doSell_16 (by decide) ?_
  refine pm_cS (As := [.int u, .int 1, .int 99]) (mc2 := 0) (ms2 := 0) B c_X13_in mt_X13_in ss_X13_70 dX13_doSell_18 rfl rfl rfl rfl rfl ?_
  refine pm_stk (st' := [.int (pm_in u 1 99)]) rfl ?_
  refine pm_if_ne (tgt := 30) B dX13_doSell_21 (by decide) (fun h4 => absurd (h3) h4) (fun h4 => ?_)
  refine pm_aload_n B dX13_doSell_24 rfl ?_
  refine pm_iconst (v := 2) B dX13_doSell_25 (by decide) ?_
  refine pm_cV (As := [.int 2]) (mc2 := 0) (ms2 := 0) B rfl hM rfl (c_X13_fails (f := f) hM) mt_X13_fails sv_X13_66 dX13_doSell_26 rfl rfl rfl rfl rfl ?_
  refine pm_mem (M' := pm_up M m0 (pm_mo z m0 (upd f 6 2))) rfl ?_
  refine pm_stk (st' := [.int 0]) rfl ?_
  exact pm_ireturn B dX13_doSell_29 rfl (by first | rfl | (apply pm_nz; first | assumption | decide | exact pm_in01 _ _ _ | simp)) ⟨rfl, rfl, rfl⟩ rfl rfl
set_option maxRecDepth 100000 in
set_option maxHeartbeats 4000000 in
theorem c_X13_doSell_o2 {l : Launch} {z : Nat} {D : va_G} {kA : Nat → ClassId} {kE : Nat → Nat} {nx : Nat} {M : pm_M} {m0 : Nat} {f : Nat → Int32} (hM : M m0 = some (pm_mo z m0 f)) {g : Nat → Int32} (hg : M (m0 + 1) = some (.inl (kA 0, 91, .inl g))) {x u : Int32} (h1 : (pm_in x 0 (g 0 - 1)) = 0) : pm_C l z D kA kE yX13_doSell cX13_doSell 4 (some .int) 2 0 0 [.ref (z + m0), .int x, .int u] nx M (pm_rt (some (.int 0)) nx (pm_up M m0 (pm_mo z m0 (upd f 6 1)))) := by
  refine pm_mk (own := RX13) (nm := "doSell") mt_X13_doSell rfl rfl rfl rfl fun X B => ?_
  refine pm_loc (L' := [some (.ref (z + m0)), some (.int x), some (.int u), none]) rfl ?_
  refine pm_aload_n B dX13_doSell_0 rfl ?_
  refine pm_iload_n B dX13_doSell_1 rfl ?_
  refine pm_cV (As := [.int x]) (mc2 := 0) (ms2 := 0) B rfl hM rfl (c_X13_isMember (f := f) hM hg) mt_X13_isMember sv_X13_100 dX13_doSell_2 rfl rfl rfl rfl rfl ?_
  refine pm_stk (st' := [.int (pm_in x 0 (g 0 - 1))]) rfl ?_
  refine pm_if_ne (tgt := 14) B dX13_doSell_5 (by decide) (fun h2 => absurd (h1) h2) (fun h2 => ?_)
  refine pm_aload_n B dX13_doSell_8 rfl ?_
  refine pm_iconst (v := 1) B dX13_doSell_9 (by decide) ?_
  refine pm_cV (As := [.int 1]) (mc2 := 0) (ms2 := 0) B rfl hM rfl (c_X13_fails (f := f) hM) mt_X13_fails sv_X13_66 dX13_doSell_10 rfl rfl rfl rfl rfl ?_
  refine pm_mem (M' := pm_up M m0 (pm_mo z m0 (upd f 6 1))) rfl ?_
  refine pm_stk (st' := [.int 0]) rfl ?_
  exact pm_ireturn B dX13_doSell_13 rfl (by first | rfl | (apply pm_nz; first | assumption | decide | exact pm_in01 _ _ _ | simp)) ⟨rfl, rfl, rfl⟩ rfl rfl
set_option maxRecDepth 100000 in
set_option maxHeartbeats 4000000 in
theorem c_X13_doSell_i1 {l : Launch} {z : Nat} {D : va_G} {kA : Nat → ClassId} {kE : Nat → Nat} {nx : Nat} {M : pm_M} {m0 : Nat} {f : Nat → Int32} (hM : M m0 = some (pm_mo z m0 f)) {g : Nat → Int32} (hg : M (m0 + 1) = some (.inl (kA 0, 91, .inl g))) {i : Nat} {u : Int32} (hi : i < 7) (h1 : ¬ (pm_in (nI i) 0 (g 0 - 1)) = 0) (h3 : ¬ (pm_in u 1 99) = 0) (h5 : (pm_ib g i) = 0) (h7 : u ≤ ((g (7 + 5 * i + 0)) - (g (7 + 5 * i + 3)))) : pm_C l z D kA kE yX13_doSell cX13_doSell 4 (some .int) 2 0 0 [.ref (z + m0), .int (nI i), .int u] nx M (pm_rt (some (.int ((g (7 + 5 * i + 3)) + u))) nx (pm_up M (m0 + 1) (.inl (kA 0, 91, .inl (upd g (7 + 5 * i + 3) ((g (7 + 5 * i + 3)) + u)))))) := by
  refine pm_mk (own := RX13) (nm := "doSell") mt_X13_doSell rfl rfl rfl rfl fun X B => ?_
  refine pm_loc (L' := [some (.ref (z + m0)), some (.int (nI i)), some (.int u), none]) rfl ?_
  refine pm_aload_n B dX13_doSell_0 rfl ?_
  refine pm_iload_n B dX13_doSell_1 rfl ?_
  refine pm_cV (As := [.int (nI i)]) (mc2 := 0) (ms2 := 0) B rfl hM rfl (c_X13_isMember (f := f) hM hg) mt_X13_isMember sv_X13_100 dX13_doSell_2 rfl rfl rfl rfl rfl ?_
  refine pm_stk (st' := [.int (pm_in (nI i) 0 (g 0 - 1))]) rfl ?_
  refine pm_if_ne (tgt := 14) B dX13_doSell_5 (by decide) (fun h2 => ?_) (fun h2 => absurd h2 (h1))
  refine pm_iload_n B dX13_doSell_14 rfl ?_
  refine pm_iconst (v := 1) B dX13_doSell_15 (by decide) ?_
  refine pm_bipush (v := 99) B dX13_doSell_16 (by decide) ?_
  refine pm_cS (As := [.int u, .int 1, .int 99]) (mc2 := 0) (ms2 := 0) B c_X13_in mt_X13_in ss_X13_70 dX13_doSell_18 rfl rfl rfl rfl rfl ?_
  refine pm_stk (st' := [.int (pm_in u 1 99)]) rfl ?_
  refine pm_if_ne (tgt := 30) B dX13_doSell_21 (by decide) (fun h4 => ?_) (fun h4 => absurd h4 (h3))
  refine pm_aload_n B dX13_doSell_30 rfl ?_
  refine pm_iload_n B dX13_doSell_31 rfl ?_
  refine pm_cV (As := [.int (nI i)]) (mc2 := 0) (ms2 := 0) B rfl hM rfl (c_X13_isBarred (f := f) hM hg (i := i) (by first | assumption | omega)) mt_X13_isBarred sv_X13_114 dX13_doSell_32 rfl rfl rfl rfl rfl ?_
  refine pm_stk (st' := [.int (pm_ib g i)]) rfl ?_
  refine pm_if_eq (tgt := 52) B dX13_doSell_35 (by decide) (fun h6 => ?_) (fun h6 => absurd (h5) h6)
  refine pm_aload_n B dX13_doSell_52 rfl ?_
  refine pm_iload_n B dX13_doSell_53 rfl ?_
  refine pm_iconst (v := 0) B dX13_doSell_54 (by decide) ?_
  refine pm_cV (As := [.int (nI i), .int (nI 0)]) (mc2 := 0) (ms2 := 0) B rfl hM rfl (c_X13_of (f := f) hM hg (i := i) (w := 0) (by first | assumption | omega) (by first | assumption | omega)) mt_X13_of sv_X13_74 dX13_doSell_55 rfl rfl rfl rfl rfl ?_
  refine pm_stk (st' := [.int (g (7 + 5 * i + 0))]) rfl ?_
  refine pm_aload_n B dX13_doSell_58 rfl ?_
  refine pm_iload_n B dX13_doSell_59 rfl ?_
  refine pm_iconst (v := 3) B dX13_doSell_60 (by decide) ?_
  refine pm_cV (As := [.int (nI i), .int (nI 3)]) (mc2 := 0) (ms2 := 0) B rfl hM rfl (c_X13_of (f := f) hM hg (i := i) (w := 3) (by first | assumption | omega) (by first | assumption | omega)) mt_X13_of sv_X13_74 dX13_doSell_61 rfl rfl rfl rfl rfl ?_
  refine pm_stk (st' := [.int (g (7 + 5 * i + 3)), .int (g (7 + 5 * i + 0))]) rfl ?_
  refine pm_isub B dX13_doSell_64 ?_
  refine pm_istore_n B dX13_doSell_65 rfl rfl ?_
  refine pm_loc (L' := [some (.ref (z + m0)), some (.int (nI i)), some (.int u), some (.int ((g (7 + 5 * i + 0)) - (g (7 + 5 * i + 3))))]) rfl ?_
  refine pm_iload_n B dX13_doSell_66 rfl ?_
  refine pm_iload_n B dX13_doSell_67 rfl ?_
  refine pm_icmp_le (tgt := 79) B dX13_doSell_68 (by decide) (fun h8 => ?_) (fun h8 => absurd (h7) h8)
  refine pm_aload_n B dX13_doSell_79 rfl ?_
  refine pm_iload_n B dX13_doSell_80 rfl ?_
  refine pm_iconst (v := 3) B dX13_doSell_81 (by decide) ?_
  refine pm_aload_n B dX13_doSell_82 rfl ?_
  refine pm_iload_n B dX13_doSell_83 rfl ?_
  refine pm_iconst (v := 3) B dX13_doSell_84 (by decide) ?_
  refine pm_cV (As := [.int (nI i), .int (nI 3)]) (mc2 := 0) (ms2 := 0) B rfl hM rfl (c_X13_of (f := f) hM hg (i := i) (w := 3) (by first | assumption | omega) (by first | assumption | omega)) mt_X13_of sv_X13_74 dX13_doSell_85 rfl rfl rfl rfl rfl ?_
  refine pm_stk (st' := [.int (g (7 + 5 * i + 3)), .int 3, .int (nI i), .ref (z + m0)]) rfl ?_
  refine pm_iload_n B dX13_doSell_88 rfl ?_
  refine pm_iadd B dX13_doSell_89 ?_
  refine pm_cV (As := [.int (nI i), .int (nI 3), .int ((g (7 + 5 * i + 3)) + u)]) (mc2 := 0) (ms2 := 0) B rfl hM rfl (c_X13_sets (f := f) hM hg (i := i) (w := 3) (by first | assumption | omega) (by first | assumption | omega)) mt_X13_sets sv_X13_87 dX13_doSell_90 rfl rfl rfl rfl rfl ?_
  refine pm_mem (M' := pm_up M (m0 + 1) (.inl (kA 0, 91, .inl (upd g (7 + 5 * i + 3) ((g (7 + 5 * i + 3)) + u))))) rfl ?_
  refine pm_stk (st' := []) rfl ?_
  refine pm_aload_n B dX13_doSell_93 rfl ?_
  refine pm_iload_n B dX13_doSell_94 rfl ?_
  refine pm_iconst (v := 3) B dX13_doSell_95 (by decide) ?_
  refine pm_cV (As := [.int (nI i), .int (nI 3)]) (mc2 := 0) (ms2 := 0) B rfl ((pm_up_n (by omega)).trans hM) rfl (c_X13_of (f := f) ((pm_up_n (by omega)).trans hM) pm_up_s (i := i) (w := 3) (by first | assumption | omega) (by first | assumption | omega)) mt_X13_of sv_X13_74 dX13_doSell_96 rfl rfl rfl rfl rfl ?_
  refine pm_stk (st' := [.int ((upd g (7 + 5 * i + 3) ((g (7 + 5 * i + 3)) + u)) (7 + 5 * i + 3))]) rfl ?_
  refine pm_stk (st' := [.int ((g (7 + 5 * i + 3)) + u)]) (by rw [show ((upd g (7 + 5 * i + 3) ((g (7 + 5 * i + 3)) + u)) (7 + 5 * i + 3)) = ((g (7 + 5 * i + 3)) + u) from by rw [pk_us]]) ?_
  exact pm_ireturn B dX13_doSell_99 rfl (by first | rfl | (apply pm_nz; first | assumption | decide | exact pm_in01 _ _ _ | simp)) ⟨rfl, rfl, rfl⟩ rfl rfl
set_option maxRecDepth 100000 in
set_option maxHeartbeats 4000000 in
theorem c_X13_doSell_i2 {l : Launch} {z : Nat} {D : va_G} {kA : Nat → ClassId} {kE : Nat → Nat} {nx : Nat} {M : pm_M} {m0 : Nat} {f : Nat → Int32} (hM : M m0 = some (pm_mo z m0 f)) {g : Nat → Int32} (hg : M (m0 + 1) = some (.inl (kA 0, 91, .inl g))) {i : Nat} {u : Int32} (hi : i < 7) (h1 : ¬ (pm_in (nI i) 0 (g 0 - 1)) = 0) (h3 : ¬ (pm_in u 1 99) = 0) (h5 : (pm_ib g i) = 0) (h7 : ¬ u ≤ ((g (7 + 5 * i + 0)) - (g (7 + 5 * i + 3)))) : pm_C l z D kA kE yX13_doSell cX13_doSell 4 (some .int) 2 0 0 [.ref (z + m0), .int (nI i), .int u] nx M (pm_rt (some (.int 0)) nx (pm_up M m0 (pm_mo z m0 (upd (upd (upd f 7 3) 8 ((g (7 + 5 * i + 0)) - (g (7 + 5 * i + 3)))) 6 3)))) := by
  refine pm_mk (own := RX13) (nm := "doSell") mt_X13_doSell rfl rfl rfl rfl fun X B => ?_
  refine pm_loc (L' := [some (.ref (z + m0)), some (.int (nI i)), some (.int u), none]) rfl ?_
  refine pm_aload_n B dX13_doSell_0 rfl ?_
  refine pm_iload_n B dX13_doSell_1 rfl ?_
  refine pm_cV (As := [.int (nI i)]) (mc2 := 0) (ms2 := 0) B rfl hM rfl (c_X13_isMember (f := f) hM hg) mt_X13_isMember sv_X13_100 dX13_doSell_2 rfl rfl rfl rfl rfl ?_
  refine pm_stk (st' := [.int (pm_in (nI i) 0 (g 0 - 1))]) rfl ?_
  refine pm_if_ne (tgt := 14) B dX13_doSell_5 (by decide) (fun h2 => ?_) (fun h2 => absurd h2 (h1))
  refine pm_iload_n B dX13_doSell_14 rfl ?_
  refine pm_iconst (v := 1) B dX13_doSell_15 (by decide) ?_
  refine pm_bipush (v := 99) B dX13_doSell_16 (by decide) ?_
  refine pm_cS (As := [.int u, .int 1, .int 99]) (mc2 := 0) (ms2 := 0) B c_X13_in mt_X13_in ss_X13_70 dX13_doSell_18 rfl rfl rfl rfl rfl ?_
  refine pm_stk (st' := [.int (pm_in u 1 99)]) rfl ?_
  refine pm_if_ne (tgt := 30) B dX13_doSell_21 (by decide) (fun h4 => ?_) (fun h4 => absurd h4 (h3))
  refine pm_aload_n B dX13_doSell_30 rfl ?_
  refine pm_iload_n B dX13_doSell_31 rfl ?_
  refine pm_cV (As := [.int (nI i)]) (mc2 := 0) (ms2 := 0) B rfl hM rfl (c_X13_isBarred (f := f) hM hg (i := i) (by first | assumption | omega)) mt_X13_isBarred sv_X13_114 dX13_doSell_32 rfl rfl rfl rfl rfl ?_
  refine pm_stk (st' := [.int (pm_ib g i)]) rfl ?_
  refine pm_if_eq (tgt := 52) B dX13_doSell_35 (by decide) (fun h6 => ?_) (fun h6 => absurd (h5) h6)
  refine pm_aload_n B dX13_doSell_52 rfl ?_
  refine pm_iload_n B dX13_doSell_53 rfl ?_
  refine pm_iconst (v := 0) B dX13_doSell_54 (by decide) ?_
  refine pm_cV (As := [.int (nI i), .int (nI 0)]) (mc2 := 0) (ms2 := 0) B rfl hM rfl (c_X13_of (f := f) hM hg (i := i) (w := 0) (by first | assumption | omega) (by first | assumption | omega)) mt_X13_of sv_X13_74 dX13_doSell_55 rfl rfl rfl rfl rfl ?_
  refine pm_stk (st' := [.int (g (7 + 5 * i + 0))]) rfl ?_
  refine pm_aload_n B dX13_doSell_58 rfl ?_
  refine pm_iload_n B dX13_doSell_59 rfl ?_
  refine pm_iconst (v := 3) B dX13_doSell_60 (by decide) ?_
  refine pm_cV (As := [.int (nI i), .int (nI 3)]) (mc2 := 0) (ms2 := 0) B rfl hM rfl (c_X13_of (f := f) hM hg (i := i) (w := 3) (by first | assumption | omega) (by first | assumption | omega)) mt_X13_of sv_X13_74 dX13_doSell_61 rfl rfl rfl rfl rfl ?_
  refine pm_stk (st' := [.int (g (7 + 5 * i + 3)), .int (g (7 + 5 * i + 0))]) rfl ?_
  refine pm_isub B dX13_doSell_64 ?_
  refine pm_istore_n B dX13_doSell_65 rfl rfl ?_
  refine pm_loc (L' := [some (.ref (z + m0)), some (.int (nI i)), some (.int u), some (.int ((g (7 + 5 * i + 0)) - (g (7 + 5 * i + 3))))]) rfl ?_
  refine pm_iload_n B dX13_doSell_66 rfl ?_
  refine pm_iload_n B dX13_doSell_67 rfl ?_
  refine pm_icmp_le (tgt := 79) B dX13_doSell_68 (by decide) (fun h8 => absurd h8 (h7)) (fun h8 => ?_)
  refine pm_aload_n B dX13_doSell_71 rfl ?_
  refine pm_iconst (v := 3) B dX13_doSell_72 (by decide) ?_
  refine pm_iconst (v := 3) B dX13_doSell_73 (by decide) ?_
  refine pm_iload_n B dX13_doSell_74 rfl ?_
  refine pm_cV (As := [.int 3, .int 3, .int ((g (7 + 5 * i + 0)) - (g (7 + 5 * i + 3)))]) (mc2 := 0) (ms2 := 0) B rfl hM rfl (c_X13_denies (f := f) hM) mt_X13_denies sv_X13_83 dX13_doSell_75 rfl rfl rfl rfl rfl ?_
  refine pm_mem (M' := pm_up M m0 (pm_mo z m0 (upd (upd (upd f 7 3) 8 ((g (7 + 5 * i + 0)) - (g (7 + 5 * i + 3)))) 6 3))) rfl ?_
  refine pm_stk (st' := [.int 0]) rfl ?_
  exact pm_ireturn B dX13_doSell_78 rfl (by first | rfl | (apply pm_nz; first | assumption | decide | exact pm_in01 _ _ _ | simp)) ⟨rfl, rfl, rfl⟩ rfl rfl
set_option maxRecDepth 100000 in
set_option maxHeartbeats 4000000 in
theorem c_X13_doSell_i3 {l : Launch} {z : Nat} {D : va_G} {kA : Nat → ClassId} {kE : Nat → Nat} {nx : Nat} {M : pm_M} {m0 : Nat} {f : Nat → Int32} (hM : M m0 = some (pm_mo z m0 f)) {g : Nat → Int32} (hg : M (m0 + 1) = some (.inl (kA 0, 91, .inl g))) {i : Nat} {u : Int32} (hi : i < 7) (h1 : ¬ (pm_in (nI i) 0 (g 0 - 1)) = 0) (h3 : ¬ (pm_in u 1 99) = 0) (h5 : ¬ (pm_ib g i) = 0) : pm_C l z D kA kE yX13_doSell cX13_doSell 4 (some .int) 2 0 0 [.ref (z + m0), .int (nI i), .int u] nx M (pm_rt (some (.int 0)) nx (pm_up M m0 (pm_mo z m0 (upd (upd (upd f 7 2) 8 (-(g (7 + 5 * i + 4)))) 6 3)))) := by
  refine pm_mk (own := RX13) (nm := "doSell") mt_X13_doSell rfl rfl rfl rfl fun X B => ?_
  refine pm_loc (L' := [some (.ref (z + m0)), some (.int (nI i)), some (.int u), none]) rfl ?_
  refine pm_aload_n B dX13_doSell_0 rfl ?_
  refine pm_iload_n B dX13_doSell_1 rfl ?_
  refine pm_cV (As := [.int (nI i)]) (mc2 := 0) (ms2 := 0) B rfl hM rfl (c_X13_isMember (f := f) hM hg) mt_X13_isMember sv_X13_100 dX13_doSell_2 rfl rfl rfl rfl rfl ?_
  refine pm_stk (st' := [.int (pm_in (nI i) 0 (g 0 - 1))]) rfl ?_
  refine pm_if_ne (tgt := 14) B dX13_doSell_5 (by decide) (fun h2 => ?_) (fun h2 => absurd h2 (h1))
  refine pm_iload_n B dX13_doSell_14 rfl ?_
  refine pm_iconst (v := 1) B dX13_doSell_15 (by decide) ?_
  refine pm_bipush (v := 99) B dX13_doSell_16 (by decide) ?_
  refine pm_cS (As := [.int u, .int 1, .int 99]) (mc2 := 0) (ms2 := 0) B c_X13_in mt_X13_in ss_X13_70 dX13_doSell_18 rfl rfl rfl rfl rfl ?_
  refine pm_stk (st' := [.int (pm_in u 1 99)]) rfl ?_
  refine pm_if_ne (tgt := 30) B dX13_doSell_21 (by decide) (fun h4 => ?_) (fun h4 => absurd h4 (h3))
  refine pm_aload_n B dX13_doSell_30 rfl ?_
  refine pm_iload_n B dX13_doSell_31 rfl ?_
  refine pm_cV (As := [.int (nI i)]) (mc2 := 0) (ms2 := 0) B rfl hM rfl (c_X13_isBarred (f := f) hM hg (i := i) (by first | assumption | omega)) mt_X13_isBarred sv_X13_114 dX13_doSell_32 rfl rfl rfl rfl rfl ?_
  refine pm_stk (st' := [.int (pm_ib g i)]) rfl ?_
  refine pm_if_eq (tgt := 52) B dX13_doSell_35 (by decide) (fun h6 => absurd h6 (h5)) (fun h6 => ?_)
  refine pm_aload_n B dX13_doSell_38 rfl ?_
  refine pm_iconst (v := 3) B dX13_doSell_39 (by decide) ?_
  refine pm_iconst (v := 2) B dX13_doSell_40 (by decide) ?_
  refine pm_aload_n B dX13_doSell_41 rfl ?_
  refine pm_iload_n B dX13_doSell_42 rfl ?_
  refine pm_iconst (v := 4) B dX13_doSell_43 (by decide) ?_
  refine pm_cV (As := [.int (nI i), .int (nI 4)]) (mc2 := 0) (ms2 := 0) B rfl hM rfl (c_X13_of (f := f) hM hg (i := i) (w := 4) (by first | assumption | omega) (by first | assumption | omega)) mt_X13_of sv_X13_74 dX13_doSell_44 rfl rfl rfl rfl rfl ?_
  refine pm_stk (st' := [.int (g (7 + 5 * i + 4)), .int 2, .int 3, .ref (z + m0)]) rfl ?_
  refine pm_ineg B dX13_doSell_47 ?_
  refine pm_cV (As := [.int 3, .int 2, .int (-(g (7 + 5 * i + 4)))]) (mc2 := 0) (ms2 := 0) B rfl hM rfl (c_X13_denies (f := f) hM) mt_X13_denies sv_X13_83 dX13_doSell_48 rfl rfl rfl rfl rfl ?_
  refine pm_mem (M' := pm_up M m0 (pm_mo z m0 (upd (upd (upd f 7 2) 8 (-(g (7 + 5 * i + 4)))) 6 3))) rfl ?_
  refine pm_stk (st' := [.int 0]) rfl ?_
  exact pm_ireturn B dX13_doSell_51 rfl (by first | rfl | (apply pm_nz; first | assumption | decide | exact pm_in01 _ _ _ | simp)) ⟨rfl, rfl, rfl⟩ rfl rfl
set_option maxRecDepth 100000 in
set_option maxHeartbeats 4000000 in
theorem c_X13_doSell_i4 {l : Launch} {z : Nat} {D : va_G} {kA : Nat → ClassId} {kE : Nat → Nat} {nx : Nat} {M : pm_M} {m0 : Nat} {f : Nat → Int32} (hM : M m0 = some (pm_mo z m0 f)) {g : Nat → Int32} (hg : M (m0 + 1) = some (.inl (kA 0, 91, .inl g))) {i : Nat} {u : Int32} (hi : i < 7) (h1 : ¬ (pm_in (nI i) 0 (g 0 - 1)) = 0) (h3 : (pm_in u 1 99) = 0) : pm_C l z D kA kE yX13_doSell cX13_doSell 4 (some .int) 2 0 0 [.ref (z + m0), .int (nI i), .int u] nx M (pm_rt (some (.int 0)) nx (pm_up M m0 (pm_mo z m0 (upd f 6 2)))) := by
  refine pm_mk (own := RX13) (nm := "doSell") mt_X13_doSell rfl rfl rfl rfl fun X B => ?_
  refine pm_loc (L' := [some (.ref (z + m0)), some (.int (nI i)), some (.int u), none]) rfl ?_
  refine pm_aload_n B dX13_doSell_0 rfl ?_
  refine pm_iload_n B dX13_doSell_1 rfl ?_
  refine pm_cV (As := [.int (nI i)]) (mc2 := 0) (ms2 := 0) B rfl hM rfl (c_X13_isMember (f := f) hM hg) mt_X13_isMember sv_X13_100 dX13_doSell_2 rfl rfl rfl rfl rfl ?_
  refine pm_stk (st' := [.int (pm_in (nI i) 0 (g 0 - 1))]) rfl ?_
  refine pm_if_ne (tgt := 14) B dX13_doSell_5 (by decide) (fun h2 => ?_) (fun h2 => absurd h2 (h1))
  refine pm_iload_n B dX13_doSell_14 rfl ?_
  refine pm_iconst (v := 1) B dX13_doSell_15 (by decide) ?_
  refine pm_bipush (v := 99) B dX13_doSell_16 (by decide) ?_
  refine pm_cS (As := [.int u, .int 1, .int 99]) (mc2 := 0) (ms2 := 0) B c_X13_in mt_X13_in ss_X13_70 dX13_doSell_18 rfl rfl rfl rfl rfl ?_
  refine pm_stk (st' := [.int (pm_in u 1 99)]) rfl ?_
  refine pm_if_ne (tgt := 30) B dX13_doSell_21 (by decide) (fun h4 => absurd (h3) h4) (fun h4 => ?_)
  refine pm_aload_n B dX13_doSell_24 rfl ?_
  refine pm_iconst (v := 2) B dX13_doSell_25 (by decide) ?_
  refine pm_cV (As := [.int 2]) (mc2 := 0) (ms2 := 0) B rfl hM rfl (c_X13_fails (f := f) hM) mt_X13_fails sv_X13_66 dX13_doSell_26 rfl rfl rfl rfl rfl ?_
  refine pm_mem (M' := pm_up M m0 (pm_mo z m0 (upd f 6 2))) rfl ?_
  refine pm_stk (st' := [.int 0]) rfl ?_
  exact pm_ireturn B dX13_doSell_29 rfl (by first | rfl | (apply pm_nz; first | assumption | decide | exact pm_in01 _ _ _ | simp)) ⟨rfl, rfl, rfl⟩ rfl rfl
set_option maxRecDepth 100000 in
set_option maxHeartbeats 4000000 in
theorem c_X13_doSell_i5 {l : Launch} {z : Nat} {D : va_G} {kA : Nat → ClassId} {kE : Nat → Nat} {nx : Nat} {M : pm_M} {m0 : Nat} {f : Nat → Int32} (hM : M m0 = some (pm_mo z m0 f)) {g : Nat → Int32} (hg : M (m0 + 1) = some (.inl (kA 0, 91, .inl g))) {i : Nat} {u : Int32} (hi : i < 7) (h1 : (pm_in (nI i) 0 (g 0 - 1)) = 0) : pm_C l z D kA kE yX13_doSell cX13_doSell 4 (some .int) 2 0 0 [.ref (z + m0), .int (nI i), .int u] nx M (pm_rt (some (.int 0)) nx (pm_up M m0 (pm_mo z m0 (upd f 6 1)))) := by
  refine pm_mk (own := RX13) (nm := "doSell") mt_X13_doSell rfl rfl rfl rfl fun X B => ?_
  refine pm_loc (L' := [some (.ref (z + m0)), some (.int (nI i)), some (.int u), none]) rfl ?_
  refine pm_aload_n B dX13_doSell_0 rfl ?_
  refine pm_iload_n B dX13_doSell_1 rfl ?_
  refine pm_cV (As := [.int (nI i)]) (mc2 := 0) (ms2 := 0) B rfl hM rfl (c_X13_isMember (f := f) hM hg) mt_X13_isMember sv_X13_100 dX13_doSell_2 rfl rfl rfl rfl rfl ?_
  refine pm_stk (st' := [.int (pm_in (nI i) 0 (g 0 - 1))]) rfl ?_
  refine pm_if_ne (tgt := 14) B dX13_doSell_5 (by decide) (fun h2 => absurd (h1) h2) (fun h2 => ?_)
  refine pm_aload_n B dX13_doSell_8 rfl ?_
  refine pm_iconst (v := 1) B dX13_doSell_9 (by decide) ?_
  refine pm_cV (As := [.int 1]) (mc2 := 0) (ms2 := 0) B rfl hM rfl (c_X13_fails (f := f) hM) mt_X13_fails sv_X13_66 dX13_doSell_10 rfl rfl rfl rfl rfl ?_
  refine pm_mem (M' := pm_up M m0 (pm_mo z m0 (upd f 6 1))) rfl ?_
  refine pm_stk (st' := [.int 0]) rfl ?_
  exact pm_ireturn B dX13_doSell_13 rfl (by first | rfl | (apply pm_nz; first | assumption | decide | exact pm_in01 _ _ _ | simp)) ⟨rfl, rfl, rfl⟩ rfl rfl
