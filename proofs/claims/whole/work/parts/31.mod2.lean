/-! ThunderCartelModel: what is without loops, a lemma a path -/
set_option maxRecDepth 100000 in
set_option maxHeartbeats 4000000 in
theorem c_X13_keep {l : Launch} {z : Nat} {D : va_G} {kA : Nat → ClassId} {kE : Nat → Nat} {nx : Nat} {M : pm_M} {m0 : Nat} {f : Nat → Int32} (hM : M m0 = some (pm_mo z m0 f)) {g : Nat → Int32} (hg : M (m0 + 1) = some (.inl (kA 0, 91, .inl g))) {gb : Nat → Int32} (hgb : M (m0 + 2) = some (.inl (kA 0, 91, .inl gb))) : pm_C l z D kA kE yX13_keep cX13_keep 1 none 2 0 0 [.ref (z + m0)] nx M (pm_rt none nx (pm_up (pm_up M m0 (pm_mo z m0 (upd (upd f 6 0) 7 0))) (m0 + 2) (.inl (kA 0, 91, .inl (va_cpy g gb 0 0 91))))) := by
  refine pm_mk (own := RX13) (nm := "keep") mt_X13_keep rfl rfl rfl rfl fun X B => ?_
  refine pm_loc (L' := [some (.ref (z + m0))]) rfl ?_
  refine pm_aload_n B dX13_keep_0 rfl ?_
  refine pm_iconst (v := 0) B dX13_keep_1 (by decide) ?_
  refine pm_put B dX13_keep_2 fs_X13_39 hM rfl rfl rfl ?_
  refine pm_mem (M' := pm_up M m0 (pm_mo z m0 (upd f 6 0))) rfl ?_
  refine pm_aload_n B dX13_keep_5 rfl ?_
  refine pm_iconst (v := 0) B dX13_keep_6 (by decide) ?_
  refine pm_put B dX13_keep_7 fs_X13_42 pm_up_s rfl rfl rfl ?_
  refine pm_mem (M' := pm_up M m0 (pm_mo z m0 (upd (upd f 6 0) 7 0))) pm_up_up ?_
  refine pm_aload_n B dX13_keep_10 rfl ?_
  refine pm_get B dX13_keep_11 fl_X13_9 pm_up_s rfl ?_
  refine pm_iconst (v := 0) B dX13_keep_14 (by decide) ?_
  refine pm_aload_n B dX13_keep_15 rfl ?_
  refine pm_get B dX13_keep_16 fl_X13_13 pm_up_s rfl ?_
  refine pm_iconst (v := 0) B dX13_keep_19 (by decide) ?_
  refine pm_bipush (v := 91) B dX13_keep_20 (by decide) ?_
  refine pm_acopy B dX13_keep_22 (pm_T_in 1721 (by decide +kernel) (by decide +kernel)) ((pm_up_n (by omega)).trans hg) ((pm_up_n (by omega)).trans hgb) 0 0 91 rfl rfl rfl (by first | decide | omega) (by first | decide | omega) (by first | decide | omega) (by first | decide | omega) rfl rfl ?_
  refine pm_mem (M' := pm_up (pm_up M m0 (pm_mo z m0 (upd (upd f 6 0) 7 0))) (m0 + 2) (.inl (kA 0, 91, .inl (va_cpy g gb 0 0 91)))) rfl ?_
  exact pm_return B dX13_keep_25 rfl ⟨rfl, rfl, rfl⟩ rfl rfl
set_option maxRecDepth 100000 in
set_option maxHeartbeats 4000000 in
theorem c_X13_doAddMember_a1 {l : Launch} {z : Nat} {D : va_G} {kA : Nat → ClassId} {kE : Nat → Nat} {nx : Nat} {M : pm_M} {m0 : Nat} {f : Nat → Int32} (hM : M m0 = some (pm_mo z m0 f)) {g : Nat → Int32} (hg : M (m0 + 1) = some (.inl (kA 0, 91, .inl g))) {c v : Int32} {n : Nat} (hn : g 0 = nI n) (h7 : n < 7) (h1 : (pm_in c 1 99) = 0) : pm_C l z D kA kE yX13_doAddMember cX13_doAddMember 4 (some .int) 2 0 0 [.ref (z + m0), .int c, .int v] nx M (pm_rt (some (.int 0)) nx (pm_up M m0 (pm_mo z m0 (upd f 6 1)))) := by
  refine pm_mk (own := RX13) (nm := "doAddMember") mt_X13_doAddMember rfl rfl rfl rfl fun X B => ?_
  refine pm_loc (L' := [some (.ref (z + m0)), some (.int c), some (.int v), none]) rfl ?_
  refine pm_aload_n B dX13_doAddMember_0 rfl ?_
  refine pm_get B dX13_doAddMember_1 fl_X13_9 hM rfl ?_
  refine pm_iconst (v := 0) B dX13_doAddMember_4 (by decide) ?_
  refine pm_iald_n B dX13_doAddMember_5 hg 0 (by decide) (by decide) ?_
  refine pm_stk (st' := [.int (nI n)]) (by rw [show (g 0) = (nI n) from by rw [hn]]) ?_
  refine pm_istore_n B dX13_doAddMember_6 rfl rfl ?_
  refine pm_loc (L' := [some (.ref (z + m0)), some (.int c), some (.int v), some (.int (nI n))]) rfl ?_
  refine pm_iload_n B dX13_doAddMember_7 rfl ?_
  refine pm_iconst (v := 1) B dX13_doAddMember_8 (by decide) ?_
  refine pm_bipush (v := 99) B dX13_doAddMember_9 (by decide) ?_
  refine pm_cS (As := [.int c, .int 1, .int 99]) (mc2 := 0) (ms2 := 0) B c_X13_in mt_X13_in ss_X13_70 dX13_doAddMember_11 rfl rfl rfl rfl rfl ?_
  refine pm_stk (st' := [.int (pm_in c 1 99)]) rfl ?_
  refine pm_if_eq (tgt := 27) B dX13_doAddMember_14 (by decide) (fun h2 => ?_) (fun h2 => absurd (h1) h2)
  refine pm_aload_n B dX13_doAddMember_27 rfl ?_
  refine pm_iconst (v := 1) B dX13_doAddMember_28 (by decide) ?_
  refine pm_cV (As := [.int 1]) (mc2 := 0) (ms2 := 0) B rfl hM rfl (c_X13_fails (f := f) hM) mt_X13_fails sv_X13_66 dX13_doAddMember_29 rfl rfl rfl rfl rfl ?_
  refine pm_mem (M' := pm_up M m0 (pm_mo z m0 (upd f 6 1))) rfl ?_
  refine pm_stk (st' := [.int 0]) rfl ?_
  exact pm_ireturn B dX13_doAddMember_32 rfl (by first | rfl | (apply pm_nz; first | assumption | decide | exact pm_in01 _ _ _ | simp)) ⟨rfl, rfl, rfl⟩ rfl rfl
set_option maxRecDepth 100000 in
set_option maxHeartbeats 4000000 in
theorem c_X13_doAddMember_a2 {l : Launch} {z : Nat} {D : va_G} {kA : Nat → ClassId} {kE : Nat → Nat} {nx : Nat} {M : pm_M} {m0 : Nat} {f : Nat → Int32} (hM : M m0 = some (pm_mo z m0 f)) {g : Nat → Int32} (hg : M (m0 + 1) = some (.inl (kA 0, 91, .inl g))) {c v : Int32} {n : Nat} (hn : g 0 = nI n) (h7 : n < 7) (h1 : ¬ (pm_in c 1 99) = 0) (h3 : ¬ (pm_in v 1 20) = 0) : pm_C l z D kA kE yX13_doAddMember cX13_doAddMember 4 (some .int) 2 0 0 [.ref (z + m0), .int c, .int v] nx M (pm_rt (some (.int (nI n))) nx (pm_up M (m0 + 1) (.inl (kA 0, 91, .inl (upd (upd (upd (upd (upd (upd g (7 + 5 * n + 0) c) (7 + 5 * n + 1) v) (7 + 5 * n + 2) 0) (7 + 5 * n + 3) 0) (7 + 5 * n + 4) 0) 0 ((nI n) + 1)))))) := by
  refine pm_mk (own := RX13) (nm := "doAddMember") mt_X13_doAddMember rfl rfl rfl rfl fun X B => ?_
  refine pm_loc (L' := [some (.ref (z + m0)), some (.int c), some (.int v), none]) rfl ?_
  refine pm_aload_n B dX13_doAddMember_0 rfl ?_
  refine pm_get B dX13_doAddMember_1 fl_X13_9 hM rfl ?_
  refine pm_iconst (v := 0) B dX13_doAddMember_4 (by decide) ?_
  refine pm_iald_n B dX13_doAddMember_5 hg 0 (by decide) (by decide) ?_
  refine pm_stk (st' := [.int (nI n)]) (by rw [show (g 0) = (nI n) from by rw [hn]]) ?_
  refine pm_istore_n B dX13_doAddMember_6 rfl rfl ?_
  refine pm_loc (L' := [some (.ref (z + m0)), some (.int c), some (.int v), some (.int (nI n))]) rfl ?_
  refine pm_iload_n B dX13_doAddMember_7 rfl ?_
  refine pm_iconst (v := 1) B dX13_doAddMember_8 (by decide) ?_
  refine pm_bipush (v := 99) B dX13_doAddMember_9 (by decide) ?_
  refine pm_cS (As := [.int c, .int 1, .int 99]) (mc2 := 0) (ms2 := 0) B c_X13_in mt_X13_in ss_X13_70 dX13_doAddMember_11 rfl rfl rfl rfl rfl ?_
  refine pm_stk (st' := [.int (pm_in c 1 99)]) rfl ?_
  refine pm_if_eq (tgt := 27) B dX13_doAddMember_14 (by decide) (fun h2 => absurd h2 (h1)) (fun h2 => ?_)
  refine pm_iload_n B dX13_doAddMember_17 rfl ?_
  refine pm_iconst (v := 1) B dX13_doAddMember_18 (by decide) ?_
  refine pm_bipush (v := 20) B dX13_doAddMember_19 (by decide) ?_
  refine pm_cS (As := [.int v, .int 1, .int 20]) (mc2 := 0) (ms2 := 0) B c_X13_in mt_X13_in ss_X13_70 dX13_doAddMember_21 rfl rfl rfl rfl rfl ?_
  refine pm_stk (st' := [.int (pm_in v 1 20)]) rfl ?_
  refine pm_if_ne (tgt := 33) B dX13_doAddMember_24 (by decide) (fun h4 => ?_) (fun h4 => absurd h4 (h3))
  refine pm_iload_n B dX13_doAddMember_33 rfl ?_
  refine pm_bipush (v := 7) B dX13_doAddMember_34 (by decide) ?_
  refine pm_icmp_ne (tgt := 48) B dX13_doAddMember_36 (by decide) (fun h5 => ?_) (fun h5 => absurd h5 (fun e => absurd ((nI_eq (by omega) (by decide)).mp (e.trans (show (7 : Int32) = nI 7 from rfl))) (by omega)))
  refine pm_aload_n B dX13_doAddMember_48 rfl ?_
  refine pm_iload_n B dX13_doAddMember_49 rfl ?_
  refine pm_iconst (v := 0) B dX13_doAddMember_50 (by decide) ?_
  refine pm_iload_n B dX13_doAddMember_51 rfl ?_
  refine pm_cV (As := [.int (nI n), .int (nI 0), .int c]) (mc2 := 0) (ms2 := 0) B rfl hM rfl (c_X13_sets (f := f) hM hg (i := n) (w := 0) (by first | assumption | omega) (by first | assumption | omega)) mt_X13_sets sv_X13_87 dX13_doAddMember_52 rfl rfl rfl rfl rfl ?_
  refine pm_mem (M' := pm_up M (m0 + 1) (.inl (kA 0, 91, .inl (upd g (7 + 5 * n + 0) c)))) rfl ?_
  refine pm_stk (st' := []) rfl ?_
  refine pm_aload_n B dX13_doAddMember_55 rfl ?_
  refine pm_iload_n B dX13_doAddMember_56 rfl ?_
  refine pm_iconst (v := 1) B dX13_doAddMember_57 (by decide) ?_
  refine pm_iload_n B dX13_doAddMember_58 rfl ?_
  refine pm_cV (As := [.int (nI n), .int (nI 1), .int v]) (mc2 := 0) (ms2 := 0) B rfl ((pm_up_n (by omega)).trans hM) rfl (c_X13_sets (f := f) ((pm_up_n (by omega)).trans hM) pm_up_s (i := n) (w := 1) (by first | assumption | omega) (by first | assumption | omega)) mt_X13_sets sv_X13_87 dX13_doAddMember_59 rfl rfl rfl rfl rfl ?_
  refine pm_mem (M' := pm_up M (m0 + 1) (.inl (kA 0, 91, .inl (upd (upd g (7 + 5 * n + 0) c) (7 + 5 * n + 1) v)))) pm_up_up ?_
  refine pm_stk (st' := []) rfl ?_
  refine pm_aload_n B dX13_doAddMember_62 rfl ?_
  refine pm_iload_n B dX13_doAddMember_63 rfl ?_
  refine pm_iconst (v := 2) B dX13_doAddMember_64 (by decide) ?_
  refine pm_iconst (v := 0) B dX13_doAddMember_65 (by decide) ?_
  refine pm_cV (As := [.int (nI n), .int (nI 2), .int 0]) (mc2 := 0) (ms2 := 0) B rfl ((pm_up_n (by omega)).trans hM) rfl (c_X13_sets (f := f) ((pm_up_n (by omega)).trans hM) pm_up_s (i := n) (w := 2) (by first | assumption | omega) (by first | assumption | omega)) mt_X13_sets sv_X13_87 dX13_doAddMember_66 rfl rfl rfl rfl rfl ?_
  refine pm_mem (M' := pm_up M (m0 + 1) (.inl (kA 0, 91, .inl (upd (upd (upd g (7 + 5 * n + 0) c) (7 + 5 * n + 1) v) (7 + 5 * n + 2) 0)))) pm_up_up ?_
  refine pm_stk (st' := []) rfl ?_
  refine pm_aload_n B dX13_doAddMember_69 rfl ?_
  refine pm_iload_n B dX13_doAddMember_70 rfl ?_
  refine pm_iconst (v := 3) B dX13_doAddMember_71 (by decide) ?_
  refine pm_iconst (v := 0) B dX13_doAddMember_72 (by decide) ?_
  refine pm_cV (As := [.int (nI n), .int (nI 3), .int 0]) (mc2 := 0) (ms2 := 0) B rfl ((pm_up_n (by omega)).trans hM) rfl (c_X13_sets (f := f) ((pm_up_n (by omega)).trans hM) pm_up_s (i := n) (w := 3) (by first | assumption | omega) (by first | assumption | omega)) mt_X13_sets sv_X13_87 dX13_doAddMember_73 rfl rfl rfl rfl rfl ?_
  refine pm_mem (M' := pm_up M (m0 + 1) (.inl (kA 0, 91, .inl (upd (upd (upd (upd g (7 + 5 * n + 0) c) (7 + 5 * n + 1) v) (7 + 5 * n + 2) 0) (7 + 5 * n + 3) 0)))) pm_up_up ?_
  refine pm_stk (st' := []) rfl ?_
  refine pm_aload_n B dX13_doAddMember_76 rfl ?_
  refine pm_iload_n B dX13_doAddMember_77 rfl ?_
  refine pm_iconst (v := 4) B dX13_doAddMember_78 (by decide) ?_
  refine pm_iconst (v := 0) B dX13_doAddMember_79 (by decide) ?_
  refine pm_cV (As := [.int (nI n), .int (nI 4), .int 0]) (mc2 := 0) (ms2 := 0) B rfl ((pm_up_n (by omega)).trans hM) rfl (c_X13_sets (f := f) ((pm_up_n (by omega)).trans hM) pm_up_s (i := n) (w := 4) (by first | assumption | omega) (by first | assumption | omega)) mt_X13_sets sv_X13_87 dX13_doAddMember_80 rfl rfl rfl rfl rfl ?_
  refine pm_mem (M' := pm_up M (m0 + 1) (.inl (kA 0, 91, .inl (upd (upd (upd (upd (upd g (7 + 5 * n + 0) c) (7 + 5 * n + 1) v) (7 + 5 * n + 2) 0) (7 + 5 * n + 3) 0) (7 + 5 * n + 4) 0)))) pm_up_up ?_
  refine pm_stk (st' := []) rfl ?_
  refine pm_aload_n B dX13_doAddMember_83 rfl ?_
  refine pm_get B dX13_doAddMember_84 fl_X13_9 ((pm_up_n (by omega)).trans hM) rfl ?_
  refine pm_iconst (v := 0) B dX13_doAddMember_87 (by decide) ?_
  refine pm_dup2 B dX13_doAddMember_88 rfl rfl ?_
  refine pm_iald_n B dX13_doAddMember_89 pm_up_s 0 (by decide) (by decide) ?_
  refine pm_stk (st' := [.int (nI n), .int 0, .ref (z + (m0 + 1))]) (by rw [show ((upd (upd (upd (upd (upd g (7 + 5 * n + 0) c) (7 + 5 * n + 1) v) (7 + 5 * n + 2) 0) (7 + 5 * n + 3) 0) (7 + 5 * n + 4) 0) 0) = (nI n) from by rw [pk_un (show 0 ≠ 7 + 5 * n + 4 from (by omega)), pk_un (show 0 ≠ 7 + 5 * n + 3 from (by omega)), pk_un (show 0 ≠ 7 + 5 * n + 2 from (by omega)), pk_un (show 0 ≠ 7 + 5 * n + 1 from (by omega)), pk_un (show 0 ≠ 7 + 5 * n + 0 from (by omega)), hn]]) ?_
  refine pm_iconst (v := 1) B dX13_doAddMember_90 (by decide) ?_
  refine pm_iadd B dX13_doAddMember_91 ?_
  refine pm_iast_n B dX13_doAddMember_92 pm_up_s 0 (by decide) (by decide) ?_
  refine pm_mem (M' := pm_up M (m0 + 1) (.inl (kA 0, 91, .inl (upd (upd (upd (upd (upd (upd g (7 + 5 * n + 0) c) (7 + 5 * n + 1) v) (7 + 5 * n + 2) 0) (7 + 5 * n + 3) 0) (7 + 5 * n + 4) 0) 0 ((nI n) + 1))))) pm_up_up ?_
  refine pm_iload_n B dX13_doAddMember_93 rfl ?_
  exact pm_ireturn B dX13_doAddMember_94 rfl (by first | rfl | (apply pm_nz; first | assumption | decide | exact pm_in01 _ _ _ | simp)) ⟨rfl, rfl, rfl⟩ rfl rfl
set_option maxRecDepth 100000 in
set_option maxHeartbeats 4000000 in
theorem c_X13_doAddMember_a3 {l : Launch} {z : Nat} {D : va_G} {kA : Nat → ClassId} {kE : Nat → Nat} {nx : Nat} {M : pm_M} {m0 : Nat} {f : Nat → Int32} (hM : M m0 = some (pm_mo z m0 f)) {g : Nat → Int32} (hg : M (m0 + 1) = some (.inl (kA 0, 91, .inl g))) {c v : Int32} {n : Nat} (hn : g 0 = nI n) (h7 : n < 7) (h1 : ¬ (pm_in c 1 99) = 0) (h3 : (pm_in v 1 20) = 0) : pm_C l z D kA kE yX13_doAddMember cX13_doAddMember 4 (some .int) 2 0 0 [.ref (z + m0), .int c, .int v] nx M (pm_rt (some (.int 0)) nx (pm_up M m0 (pm_mo z m0 (upd f 6 1)))) := by
  refine pm_mk (own := RX13) (nm := "doAddMember") mt_X13_doAddMember rfl rfl rfl rfl fun X B => ?_
  refine pm_loc (L' := [some (.ref (z + m0)), some (.int c), some (.int v), none]) rfl ?_
  refine pm_aload_n B dX13_doAddMember_0 rfl ?_
  refine pm_get B dX13_doAddMember_1 fl_X13_9 hM rfl ?_
  refine pm_iconst (v := 0) B dX13_doAddMember_4 (by decide) ?_
  refine pm_iald_n B dX13_doAddMember_5 hg 0 (by decide) (by decide) ?_
  refine pm_stk (st' := [.int (nI n)]) (by rw [show (g 0) = (nI n) from by rw [hn]]) ?_
  refine pm_istore_n B dX13_doAddMember_6 rfl rfl ?_
  refine pm_loc (L' := [some (.ref (z + m0)), some (.int c), some (.int v), some (.int (nI n))]) rfl ?_
  refine pm_iload_n B dX13_doAddMember_7 rfl ?_
  refine pm_iconst (v := 1) B dX13_doAddMember_8 (by decide) ?_
  refine pm_bipush (v := 99) B dX13_doAddMember_9 (by decide) ?_
  refine pm_cS (As := [.int c, .int 1, .int 99]) (mc2 := 0) (ms2 := 0) B c_X13_in mt_X13_in ss_X13_70 dX13_doAddMember_11 rfl rfl rfl rfl rfl ?_
  refine pm_stk (st' := [.int (pm_in c 1 99)]) rfl ?_
  refine pm_if_eq (tgt := 27) B dX13_doAddMember_14 (by decide) (fun h2 => absurd h2 (h1)) (fun h2 => ?_)
  refine pm_iload_n B dX13_doAddMember_17 rfl ?_
  refine pm_iconst (v := 1) B dX13_doAddMember_18 (by decide) ?_
  refine pm_bipush (v := 20) B dX13_doAddMember_19 (by decide) ?_
  refine pm_cS (As := [.int v, .int 1, .int 20]) (mc2 := 0) (ms2 := 0) B c_X13_in mt_X13_in ss_X13_70 dX13_doAddMember_21 rfl rfl rfl rfl rfl ?_
  refine pm_stk (st' := [.int (pm_in v 1 20)]) rfl ?_
  refine pm_if_ne (tgt := 33) B dX13_doAddMember_24 (by decide) (fun h4 => absurd (h3) h4) (fun h4 => ?_)
  refine pm_aload_n B dX13_doAddMember_27 rfl ?_
  refine pm_iconst (v := 1) B dX13_doAddMember_28 (by decide) ?_
  refine pm_cV (As := [.int 1]) (mc2 := 0) (ms2 := 0) B rfl hM rfl (c_X13_fails (f := f) hM) mt_X13_fails sv_X13_66 dX13_doAddMember_29 rfl rfl rfl rfl rfl ?_
  refine pm_mem (M' := pm_up M m0 (pm_mo z m0 (upd f 6 1))) rfl ?_
  refine pm_stk (st' := [.int 0]) rfl ?_
  exact pm_ireturn B dX13_doAddMember_32 rfl (by first | rfl | (apply pm_nz; first | assumption | decide | exact pm_in01 _ _ _ | simp)) ⟨rfl, rfl, rfl⟩ rfl rfl
set_option maxRecDepth 100000 in
set_option maxHeartbeats 4000000 in
theorem c_X13_doAddMember_f1 {l : Launch} {z : Nat} {D : va_G} {kA : Nat → ClassId} {kE : Nat → Nat} {nx : Nat} {M : pm_M} {m0 : Nat} {f : Nat → Int32} (hM : M m0 = some (pm_mo z m0 f)) {g : Nat → Int32} (hg : M (m0 + 1) = some (.inl (kA 0, 91, .inl g))) {c v : Int32} (hn : g 0 = 7) (h1 : (pm_in c 1 99) = 0) : pm_C l z D kA kE yX13_doAddMember cX13_doAddMember 4 (some .int) 2 0 0 [.ref (z + m0), .int c, .int v] nx M (pm_rt (some (.int 0)) nx (pm_up M m0 (pm_mo z m0 (upd f 6 1)))) := by
  refine pm_mk (own := RX13) (nm := "doAddMember") mt_X13_doAddMember rfl rfl rfl rfl fun X B => ?_
  refine pm_loc (L' := [some (.ref (z + m0)), some (.int c), some (.int v), none]) rfl ?_
  refine pm_aload_n B dX13_doAddMember_0 rfl ?_
  refine pm_get B dX13_doAddMember_1 fl_X13_9 hM rfl ?_
  refine pm_iconst (v := 0) B dX13_doAddMember_4 (by decide) ?_
  refine pm_iald_n B dX13_doAddMember_5 hg 0 (by decide) (by decide) ?_
  refine pm_stk (st' := [.int 7]) (by rw [show (g 0) = 7 from by rw [hn]]) ?_
  refine pm_istore_n B dX13_doAddMember_6 rfl rfl ?_
  refine pm_loc (L' := [some (.ref (z + m0)), some (.int c), some (.int v), some (.int 7)]) rfl ?_
  refine pm_iload_n B dX13_doAddMember_7 rfl ?_
  refine pm_iconst (v := 1) B dX13_doAddMember_8 (by decide) ?_
  refine pm_bipush (v := 99) B dX13_doAddMember_9 (by decide) ?_
  refine pm_cS (As := [.int c, .int 1, .int 99]) (mc2 := 0) (ms2 := 0) B c_X13_in mt_X13_in ss_X13_70 dX13_doAddMember_11 rfl rfl rfl rfl rfl ?_
  refine pm_stk (st' := [.int (pm_in c 1 99)]) rfl ?_
  refine pm_if_eq (tgt := 27) B dX13_doAddMember_14 (by decide) (fun h2 => ?_) (fun h2 => absurd (h1) h2)
  refine pm_aload_n B dX13_doAddMember_27 rfl ?_
  refine pm_iconst (v := 1) B dX13_doAddMember_28 (by decide) ?_
  refine pm_cV (As := [.int 1]) (mc2 := 0) (ms2 := 0) B rfl hM rfl (c_X13_fails (f := f) hM) mt_X13_fails sv_X13_66 dX13_doAddMember_29 rfl rfl rfl rfl rfl ?_
  refine pm_mem (M' := pm_up M m0 (pm_mo z m0 (upd f 6 1))) rfl ?_
  refine pm_stk (st' := [.int 0]) rfl ?_
  exact pm_ireturn B dX13_doAddMember_32 rfl (by first | rfl | (apply pm_nz; first | assumption | decide | exact pm_in01 _ _ _ | simp)) ⟨rfl, rfl, rfl⟩ rfl rfl
set_option maxRecDepth 100000 in
set_option maxHeartbeats 4000000 in
theorem c_X13_doAddMember_f2 {l : Launch} {z : Nat} {D : va_G} {kA : Nat → ClassId} {kE : Nat → Nat} {nx : Nat} {M : pm_M} {m0 : Nat} {f : Nat → Int32} (hM : M m0 = some (pm_mo z m0 f)) {g : Nat → Int32} (hg : M (m0 + 1) = some (.inl (kA 0, 91, .inl g))) {c v : Int32} (hn : g 0 = 7) (h1 : ¬ (pm_in c 1 99) = 0) (h3 : ¬ (pm_in v 1 20) = 0) : pm_C l z D kA kE yX13_doAddMember cX13_doAddMember 4 (some .int) 2 0 0 [.ref (z + m0), .int c, .int v] nx M (pm_rt (some (.int 0)) nx (pm_up M m0 (pm_mo z m0 (upd (upd (upd f 7 1) 8 7) 6 2)))) := by
  refine pm_mk (own := RX13) (nm := "doAddMember") mt_X13_doAddMember rfl rfl rfl rfl fun X B => ?_
  refine pm_loc (L' := [some (.ref (z + m0)), some (.int c), some (.int v), none]) rfl ?_
  refine pm_aload_n B dX13_doAddMember_0 rfl ?_
  refine pm_get B dX13_doAddMember_1 fl_X13_9 hM rfl ?_
  refine pm_iconst (v := 0) B dX13_doAddMember_4 (by decide) ?_
  refine pm_iald_n B dX13_doAddMember_5 hg 0 (by decide) (by decide) ?_
  refine pm_stk (st' := [.int 7]) (by rw [show (g 0) = 7 from by rw [hn]]) ?_
  refine pm_istore_n B dX13_doAddMember_6 rfl rfl ?_
  refine pm_loc (L' := [some (.ref (z + m0)), some (.int c), some (.int v), some (.int 7)]) rfl ?_
  refine pm_iload_n B dX13_doAddMember_7 rfl ?_
  refine pm_iconst (v := 1) B dX13_doAddMember_8 (by decide) ?_
  refine pm_bipush (v := 99) B dX13_doAddMember_9 (by decide) ?_
  refine pm_cS (As := [.int c, .int 1, .int 99]) (mc2 := 0) (ms2 := 0) B c_X13_in mt_X13_in ss_X13_70 dX13_doAddMember_11 rfl rfl rfl rfl rfl ?_
  refine pm_stk (st' := [.int (pm_in c 1 99)]) rfl ?_
  refine pm_if_eq (tgt := 27) B dX13_doAddMember_14 (by decide) (fun h2 => absurd h2 (h1)) (fun h2 => ?_)
  refine pm_iload_n B dX13_doAddMember_17 rfl ?_
  refine pm_iconst (v := 1) B dX13_doAddMember_18 (by decide) ?_
  refine pm_bipush (v := 20) B dX13_doAddMember_19 (by decide) ?_
  refine pm_cS (As := [.int v, .int 1, .int 20]) (mc2 := 0) (ms2 := 0) B c_X13_in mt_X13_in ss_X13_70 dX13_doAddMember_21 rfl rfl rfl rfl rfl ?_
  refine pm_stk (st' := [.int (pm_in v 1 20)]) rfl ?_
  refine pm_if_ne (tgt := 33) B dX13_doAddMember_24 (by decide) (fun h4 => ?_) (fun h4 => absurd h4 (h3))
  refine pm_iload_n B dX13_doAddMember_33 rfl ?_
  refine pm_bipush (v := 7) B dX13_doAddMember_34 (by decide) ?_
  refine pm_icmp_ne (tgt := 48) B dX13_doAddMember_36 (by decide) (fun h5 => absurd (by decide) h5) (fun h5 => ?_)
  refine pm_aload_n B dX13_doAddMember_39 rfl ?_
  refine pm_iconst (v := 2) B dX13_doAddMember_40 (by decide) ?_
  refine pm_iconst (v := 1) B dX13_doAddMember_41 (by decide) ?_
  refine pm_bipush (v := 7) B dX13_doAddMember_42 (by decide) ?_
  refine pm_cV (As := [.int 2, .int 1, .int 7]) (mc2 := 0) (ms2 := 0) B rfl hM rfl (c_X13_denies (f := f) hM) mt_X13_denies sv_X13_83 dX13_doAddMember_44 rfl rfl rfl rfl rfl ?_
  refine pm_mem (M' := pm_up M m0 (pm_mo z m0 (upd (upd (upd f 7 1) 8 7) 6 2))) rfl ?_
  refine pm_stk (st' := [.int 0]) rfl ?_
  exact pm_ireturn B dX13_doAddMember_47 rfl (by first | rfl | (apply pm_nz; first | assumption | decide | exact pm_in01 _ _ _ | simp)) ⟨rfl, rfl, rfl⟩ rfl rfl
set_option maxRecDepth 100000 in
set_option maxHeartbeats 4000000 in
theorem c_X13_doAddMember_f3 {l : Launch} {z : Nat} {D : va_G} {kA : Nat → ClassId} {kE : Nat → Nat} {nx : Nat} {M : pm_M} {m0 : Nat} {f : Nat → Int32} (hM : M m0 = some (pm_mo z m0 f)) {g : Nat → Int32} (hg : M (m0 + 1) = some (.inl (kA 0, 91, .inl g))) {c v : Int32} (hn : g 0 = 7) (h1 : ¬ (pm_in c 1 99) = 0) (h3 : (pm_in v 1 20) = 0) : pm_C l z D kA kE yX13_doAddMember cX13_doAddMember 4 (some .int) 2 0 0 [.ref (z + m0), .int c, .int v] nx M (pm_rt (some (.int 0)) nx (pm_up M m0 (pm_mo z m0 (upd f 6 1)))) := by
  refine pm_mk (own := RX13) (nm := "doAddMember") mt_X13_doAddMember rfl rfl rfl rfl fun X B => ?_
  refine pm_loc (L' := [some (.ref (z + m0)), some (.int c), some (.int v), none]) rfl ?_
  refine pm_aload_n B dX13_doAddMember_0 rfl ?_
  refine pm_get B dX13_doAddMember_1 fl_X13_9 hM rfl ?_
  refine pm_iconst (v := 0) B dX13_doAddMember_4 (by decide) ?_
  refine pm_iald_n B dX13_doAddMember_5 hg 0 (by decide) (by decide) ?_
  refine pm_stk (st' := [.int 7]) (by rw [show (g 0) = 7 from by rw [hn]]) ?_
  refine pm_istore_n B dX13_doAddMember_6 rfl rfl ?_
  refine pm_loc (L' := [some (.ref (z + m0)), some (.int c), some (.int v), some (.int 7)]) rfl ?_
  refine pm_iload_n B dX13_doAddMember_7 rfl ?_
  refine pm_iconst (v := 1) B dX13_doAddMember_8 (by decide) ?_
  refine pm_bipush (v := 99) B dX13_doAddMember_9 (by decide) ?_
  refine pm_cS (As := [.int c, .int 1, .int 99]) (mc2 := 0) (ms2 := 0) B c_X13_in mt_X13_in ss_X13_70 dX13_doAddMember_11 rfl rfl rfl rfl rfl ?_
  refine pm_stk (st' := [.int (pm_in c 1 99)]) rfl ?_
  refine pm_if_eq (tgt := 27) B dX13_doAddMember_14 (by decide) (fun h2 => absurd h2 (h1)) (fun h2 => ?_)
  refine pm_iload_n B dX13_doAddMember_17 rfl ?_
  refine pm_iconst (v := 1) B dX13_doAddMember_18 (by decide) ?_
  refine pm_bipush (v := 20) B dX13_doAddMember_19 (by decide) ?_
  refine pm_cS (As := [.int v, .int 1, .int 20]) (mc2 := 0) (ms2 := 0) B c_X13_in mt_X13_in ss_X13_70 dX13_doAddMember_21 rfl rfl rfl rfl rfl ?_
  refine pm_stk (st' := [.int (pm_in v 1 20)]) rfl ?_
  refine pm_if_ne (tgt := 33) B dX13_doAddMember_24 (by decide) (fun h4 => absurd (h3) h4) (fun h4 => ?_)
  refine pm_aload_n B dX13_doAddMember_27 rfl ?_
  refine pm_iconst (v := 1) B dX13_doAddMember_28 (by decide) ?_
  refine pm_cV (As := [.int 1]) (mc2 := 0) (ms2 := 0) B rfl hM rfl (c_X13_fails (f := f) hM) mt_X13_fails sv_X13_66 dX13_doAddMember_29 rfl rfl rfl rfl rfl ?_
  refine pm_mem (M' := pm_up M m0 (pm_mo z m0 (upd f 6 1))) rfl ?_
  refine pm_stk (st' := [.int 0]) rfl ?_
  exact pm_ireturn B dX13_doAddMember_32 rfl (by first | rfl | (apply pm_nz; first | assumption | decide | exact pm_in01 _ _ _ | simp)) ⟨rfl, rfl, rfl⟩ rfl rfl
set_option maxRecDepth 100000 in
set_option maxHeartbeats 4000000 in
theorem c_X13_doSetRule_1 {l : Launch} {z : Nat} {D : va_G} {kA : Nat → ClassId} {kE : Nat → Nat} {nx : Nat} {M : pm_M} {m0 : Nat} {f : Nat → Int32} (hM : M m0 = some (pm_mo z m0 f)) {g : Nat → Int32} (hg : M (m0 + 1) = some (.inl (kA 0, 91, .inl g))) {x : Int32} (h1 : ¬ (pm_in x 0 1) = 0) (h3 : ¬ x = (g 1)) : pm_C l z D kA kE yX13_doSetRule cX13_doSetRule 2 (some .int) 2 0 0 [.ref (z + m0), .int x] nx M (pm_rt (some (.int (1 - x))) nx (pm_up M (m0 + 1) (.inl (kA 0, 91, .inl (upd g 1 x))))) := by
  refine pm_mk (own := RX13) (nm := "doSetRule") mt_X13_doSetRule rfl rfl rfl rfl fun X B => ?_
  refine pm_loc (L' := [some (.ref (z + m0)), some (.int x)]) rfl ?_
  refine pm_iload_n B dX13_doSetRule_0 rfl ?_
  refine pm_iconst (v := 0) B dX13_doSetRule_1 (by decide) ?_
  refine pm_iconst (v := 1) B dX13_doSetRule_2 (by decide) ?_
  refine pm_cS (As := [.int x, .int 0, .int 1]) (mc2 := 0) (ms2 := 0) B c_X13_in mt_X13_in ss_X13_70 dX13_doSetRule_3 rfl rfl rfl rfl rfl ?_
  refine pm_stk (st' := [.int (pm_in x 0 1)]) rfl ?_
  refine pm_if_ne (tgt := 15) B dX13_doSetRule_6 (by decide) (fun h2 => ?_) (fun h2 => absurd h2 (h1))
  refine pm_iload_n B dX13_doSetRule_15 rfl ?_
  refine pm_aload_n B dX13_doSetRule_16 rfl ?_
  refine pm_get B dX13_doSetRule_17 fl_X13_9 hM rfl ?_
  refine pm_iconst (v := 1) B dX13_doSetRule_20 (by decide) ?_
  refine pm_iald_n B dX13_doSetRule_21 hg 1 (by decide) (by decide) ?_
  refine pm_icmp_ne (tgt := 34) B dX13_doSetRule_22 (by decide) (fun h4 => ?_) (fun h4 => absurd h4 (h3))
  refine pm_aload_n B dX13_doSetRule_34 rfl ?_
  refine pm_get B dX13_doSetRule_35 fl_X13_9 hM rfl ?_
  refine pm_iconst (v := 1) B dX13_doSetRule_38 (by decide) ?_
  refine pm_iload_n B dX13_doSetRule_39 rfl ?_
  refine pm_iast_n B dX13_doSetRule_40 hg 1 (by decide) (by decide) ?_
  refine pm_mem (M' := pm_up M (m0 + 1) (.inl (kA 0, 91, .inl (upd g 1 x)))) rfl ?_
  refine pm_iconst (v := 1) B dX13_doSetRule_41 (by decide) ?_
  refine pm_iload_n B dX13_doSetRule_42 rfl ?_
  refine pm_isub B dX13_doSetRule_43 ?_
  exact pm_ireturn B dX13_doSetRule_44 rfl (by first | rfl | (apply pm_nz; first | assumption | decide | exact pm_in01 _ _ _ | simp)) ⟨rfl, rfl, rfl⟩ rfl rfl
set_option maxRecDepth 100000 in
set_option maxHeartbeats 4000000 in
theorem c_X13_doSetRule_2 {l : Launch} {z : Nat} {D : va_G} {kA : Nat → ClassId} {kE : Nat → Nat} {nx : Nat} {M : pm_M} {m0 : Nat} {f : Nat → Int32} (hM : M m0 = some (pm_mo z m0 f)) {g : Nat → Int32} (hg : M (m0 + 1) = some (.inl (kA 0, 91, .inl g))) {x : Int32} (h1 : ¬ (pm_in x 0 1) = 0) (h3 : x = (g 1)) : pm_C l z D kA kE yX13_doSetRule cX13_doSetRule 2 (some .int) 2 0 0 [.ref (z + m0), .int x] nx M (pm_rt (some (.int 0)) nx (pm_up M m0 (pm_mo z m0 (upd (upd (upd f 7 7) 8 x) 6 2)))) := by
  refine pm_mk (own := RX13) (nm := "doSetRule") mt_X13_doSetRule rfl rfl rfl rfl fun X B => ?_
  refine pm_loc (L' := [some (.ref (z + m0)), some (.int x)]) rfl ?_
  refine pm_iload_n B dX13_doSetRule_0 rfl ?_
  refine pm_iconst (v := 0) B dX13_doSetRule_1 (by decide) ?_
  refine pm_iconst (v := 1) B dX13_doSetRule_2 (by decide) ?_
  refine pm_cS (As := [.int x, .int 0, .int 1]) (mc2 := 0) (ms2 := 0) B c_X13_in mt_X13_in ss_X13_70 dX13_doSetRule_3 rfl rfl rfl rfl rfl ?_
  refine pm_stk (st' := [.int (pm_in x 0 1)]) rfl ?_
  refine pm_if_ne (tgt := 15) B dX13_doSetRule_6 (by decide) (fun h2 => ?_) (fun h2 => absurd h2 (h1))
  refine pm_iload_n B dX13_doSetRule_15 rfl ?_
  refine pm_aload_n B dX13_doSetRule_16 rfl ?_
  refine pm_get B dX13_doSetRule_17 fl_X13_9 hM rfl ?_
  refine pm_iconst (v := 1) B dX13_doSetRule_20 (by decide) ?_
  refine pm_iald_n B dX13_doSetRule_21 hg 1 (by decide) (by decide) ?_
  refine pm_icmp_ne (tgt := 34) B dX13_doSetRule_22 (by decide) (fun h4 => absurd (h3) h4) (fun h4 => ?_)
  refine pm_aload_n B dX13_doSetRule_25 rfl ?_
  refine pm_iconst (v := 2) B dX13_doSetRule_26 (by decide) ?_
  refine pm_bipush (v := 7) B dX13_doSetRule_27 (by decide) ?_
  refine pm_iload_n B dX13_doSetRule_29 rfl ?_
  refine pm_cV (As := [.int 2, .int 7, .int x]) (mc2 := 0) (ms2 := 0) B rfl hM rfl (c_X13_denies (f := f) hM) mt_X13_denies sv_X13_83 dX13_doSetRule_30 rfl rfl rfl rfl rfl ?_
  refine pm_mem (M' := pm_up M m0 (pm_mo z m0 (upd (upd (upd f 7 7) 8 x) 6 2))) rfl ?_
  refine pm_stk (st' := [.int 0]) rfl ?_
  exact pm_ireturn B dX13_doSetRule_33 rfl (by first | rfl | (apply pm_nz; first | assumption | decide | exact pm_in01 _ _ _ | simp)) ⟨rfl, rfl, rfl⟩ rfl rfl
set_option maxRecDepth 100000 in
set_option maxHeartbeats 4000000 in
theorem c_X13_doSetRule_3 {l : Launch} {z : Nat} {D : va_G} {kA : Nat → ClassId} {kE : Nat → Nat} {nx : Nat} {M : pm_M} {m0 : Nat} {f : Nat → Int32} (hM : M m0 = some (pm_mo z m0 f)) {g : Nat → Int32} (hg : M (m0 + 1) = some (.inl (kA 0, 91, .inl g))) {x : Int32} (h1 : (pm_in x 0 1) = 0) : pm_C l z D kA kE yX13_doSetRule cX13_doSetRule 2 (some .int) 2 0 0 [.ref (z + m0), .int x] nx M (pm_rt (some (.int 0)) nx (pm_up M m0 (pm_mo z m0 (upd f 6 1)))) := by
  refine pm_mk (own := RX13) (nm := "doSetRule") mt_X13_doSetRule rfl rfl rfl rfl fun X B => ?_
  refine pm_loc (L' := [some (.ref (z + m0)), some (.int x)]) rfl ?_
  refine pm_iload_n B dX13_doSetRule_0 rfl ?_
  refine pm_iconst (v := 0) B dX13_doSetRule_1 (by decide) ?_
  refine pm_iconst (v := 1) B dX13_doSetRule_2 (by decide) ?_
  refine pm_cS (As := [.int x, .int 0, .int 1]) (mc2 := 0) (ms2 := 0) B c_X13_in mt_X13_in ss_X13_70 dX13_doSetRule_3 rfl rfl rfl rfl rfl ?_
  refine pm_stk (st' := [.int (pm_in x 0 1)]) rfl ?_
  refine pm_if_ne (tgt := 15) B dX13_doSetRule_6 (by decide) (fun h2 => absurd (h1) h2) (fun h2 => ?_)
  refine pm_aload_n B dX13_doSetRule_9 rfl ?_
  refine pm_iconst (v := 1) B dX13_doSetRule_10 (by decide) ?_
  refine pm_cV (As := [.int 1]) (mc2 := 0) (ms2 := 0) B rfl hM rfl (c_X13_fails (f := f) hM) mt_X13_fails sv_X13_66 dX13_doSetRule_11 rfl rfl rfl rfl rfl ?_
  refine pm_mem (M' := pm_up M m0 (pm_mo z m0 (upd f 6 1))) rfl ?_
  refine pm_stk (st' := [.int 0]) rfl ?_
  exact pm_ireturn B dX13_doSetRule_14 rfl (by first | rfl | (apply pm_nz; first | assumption | decide | exact pm_in01 _ _ _ | simp)) ⟨rfl, rfl, rfl⟩ rfl rfl
set_option maxRecDepth 100000 in
set_option maxHeartbeats 4000000 in
theorem c_X13_doSetSeed_1 {l : Launch} {z : Nat} {D : va_G} {kA : Nat → ClassId} {kE : Nat → Nat} {nx : Nat} {M : pm_M} {m0 : Nat} {f : Nat → Int32} (hM : M m0 = some (pm_mo z m0 f)) {g : Nat → Int32} (hg : M (m0 + 1) = some (.inl (kA 0, 91, .inl g))) {x : Int32} (h1 : ¬ (pm_in x 0 1023) = 0) : pm_C l z D kA kE yX13_doSetSeed cX13_doSetSeed 3 (some .int) 2 0 0 [.ref (z + m0), .int x] nx M (pm_rt (some (.int (g 2))) nx (pm_up M (m0 + 1) (.inl (kA 0, 91, .inl (upd g 2 x))))) := by
  refine pm_mk (own := RX13) (nm := "doSetSeed") mt_X13_doSetSeed rfl rfl rfl rfl fun X B => ?_
  refine pm_loc (L' := [some (.ref (z + m0)), some (.int x), none]) rfl ?_
  refine pm_iload_n B dX13_doSetSeed_0 rfl ?_
  refine pm_iconst (v := 0) B dX13_doSetSeed_1 (by decide) ?_
  refine pm_sipush (v := 1023) B dX13_doSetSeed_2 (by decide) ?_
  refine pm_cS (As := [.int x, .int 0, .int 1023]) (mc2 := 0) (ms2 := 0) B c_X13_in mt_X13_in ss_X13_70 dX13_doSetSeed_5 rfl rfl rfl rfl rfl ?_
  refine pm_stk (st' := [.int (pm_in x 0 1023)]) rfl ?_
  refine pm_if_ne (tgt := 17) B dX13_doSetSeed_8 (by decide) (fun h2 => ?_) (fun h2 => absurd h2 (h1))
  refine pm_aload_n B dX13_doSetSeed_17 rfl ?_
  refine pm_get B dX13_doSetSeed_18 fl_X13_9 hM rfl ?_
  refine pm_iconst (v := 2) B dX13_doSetSeed_21 (by decide) ?_
  refine pm_iald_n B dX13_doSetSeed_22 hg 2 (by decide) (by decide) ?_
  refine pm_istore_n B dX13_doSetSeed_23 rfl rfl ?_
  refine pm_loc (L' := [some (.ref (z + m0)), some (.int x), some (.int (g 2))]) rfl ?_
  refine pm_aload_n B dX13_doSetSeed_24 rfl ?_
  refine pm_get B dX13_doSetSeed_25 fl_X13_9 hM rfl ?_
  refine pm_iconst (v := 2) B dX13_doSetSeed_28 (by decide) ?_
  refine pm_iload_n B dX13_doSetSeed_29 rfl ?_
  refine pm_iast_n B dX13_doSetSeed_30 hg 2 (by decide) (by decide) ?_
  refine pm_mem (M' := pm_up M (m0 + 1) (.inl (kA 0, 91, .inl (upd g 2 x)))) rfl ?_
  refine pm_iload_n B dX13_doSetSeed_31 rfl ?_
  exact pm_ireturn B dX13_doSetSeed_32 rfl (by first | rfl | (apply pm_nz; first | assumption | decide | exact pm_in01 _ _ _ | simp)) ⟨rfl, rfl, rfl⟩ rfl rfl
set_option maxRecDepth 100000 in
set_option maxHeartbeats 4000000 in
theorem c_X13_doSetSeed_2 {l : Launch} {z : Nat} {D : va_G} {kA : Nat → ClassId} {kE : Nat → Nat} {nx : Nat} {M : pm_M} {m0 : Nat} {f : Nat → Int32} (hM : M m0 = some (pm_mo z m0 f)) {g : Nat → Int32} (hg : M (m0 + 1) = some (.inl (kA 0, 91, .inl g))) {x : Int32} (h1 : (pm_in x 0 1023) = 0) : pm_C l z D kA kE yX13_doSetSeed cX13_doSetSeed 3 (some .int) 2 0 0 [.ref (z + m0), .int x] nx M (pm_rt (some (.int 0)) nx (pm_up M m0 (pm_mo z m0 (upd f 6 1)))) := by
  refine pm_mk (own := RX13) (nm := "doSetSeed") mt_X13_doSetSeed rfl rfl rfl rfl fun X B => ?_
  refine pm_loc (L' := [some (.ref (z + m0)), some (.int x), none]) rfl ?_
  refine pm_iload_n B dX13_doSetSeed_0 rfl ?_
  refine pm_iconst (v := 0) B dX13_doSetSeed_1 (by decide) ?_
  refine pm_sipush (v := 1023) B dX13_doSetSeed_2 (by decide) ?_
  refine pm_cS (As := [.int x, .int 0, .int 1023]) (mc2 := 0) (ms2 := 0) B c_X13_in mt_X13_in ss_X13_70 dX13_doSetSeed_5 rfl rfl rfl rfl rfl ?_
  refine pm_stk (st' := [.int (pm_in x 0 1023)]) rfl ?_
  refine pm_if_ne (tgt := 17) B dX13_doSetSeed_8 (by decide) (fun h2 => absurd (h1) h2) (fun h2 => ?_)
  refine pm_aload_n B dX13_doSetSeed_11 rfl ?_
  refine pm_iconst (v := 1) B dX13_doSetSeed_12 (by decide) ?_
  refine pm_cV (As := [.int 1]) (mc2 := 0) (ms2 := 0) B rfl hM rfl (c_X13_fails (f := f) hM) mt_X13_fails sv_X13_66 dX13_doSetSeed_13 rfl rfl rfl rfl rfl ?_
  refine pm_mem (M' := pm_up M m0 (pm_mo z m0 (upd f 6 1))) rfl ?_
  refine pm_stk (st' := [.int 0]) rfl ?_
  exact pm_ireturn B dX13_doSetSeed_16 rfl (by first | rfl | (apply pm_nz; first | assumption | decide | exact pm_in01 _ _ _ | simp)) ⟨rfl, rfl, rfl⟩ rfl rfl
set_option maxRecDepth 100000 in
set_option maxHeartbeats 4000000 in
theorem c_X13_doSetThreshold_1 {l : Launch} {z : Nat} {D : va_G} {kA : Nat → ClassId} {kE : Nat → Nat} {nx : Nat} {M : pm_M} {m0 : Nat} {f : Nat → Int32} (hM : M m0 = some (pm_mo z m0 f)) {g : Nat → Int32} (hg : M (m0 + 1) = some (.inl (kA 0, 91, .inl g))) {x : Int32} (h1 : ¬ (pm_in x 1 99) = 0) (h3 : ¬ x = (g 3)) : pm_C l z D kA kE yX13_doSetThreshold cX13_doSetThreshold 3 (some .int) 2 0 0 [.ref (z + m0), .int x] nx M (pm_rt (some (.int (g 3))) nx (pm_up M (m0 + 1) (.inl (kA 0, 91, .inl (upd g 3 x))))) := by
  refine pm_mk (own := RX13) (nm := "doSetThreshold") mt_X13_doSetThreshold rfl rfl rfl rfl fun X B => ?_
  refine pm_loc (L' := [some (.ref (z + m0)), some (.int x), none]) rfl ?_
  refine pm_iload_n B dX13_doSetThreshold_0 rfl ?_
  refine pm_iconst (v := 1) B dX13_doSetThreshold_1 (by decide) ?_
  refine pm_bipush (v := 99) B dX13_doSetThreshold_2 (by decide) ?_
  refine pm_cS (As := [.int x, .int 1, .int 99]) (mc2 := 0) (ms2 := 0) B c_X13_in mt_X13_in ss_X13_70 dX13_doSetThreshold_4 rfl rfl rfl rfl rfl ?_
  refine pm_stk (st' := [.int (pm_in x 1 99)]) rfl ?_
  refine pm_if_ne (tgt := 16) B dX13_doSetThreshold_7 (by decide) (fun h2 => ?_) (fun h2 => absurd h2 (h1))
  refine pm_iload_n B dX13_doSetThreshold_16 rfl ?_
  refine pm_aload_n B dX13_doSetThreshold_17 rfl ?_
  refine pm_get B dX13_doSetThreshold_18 fl_X13_9 hM rfl ?_
  refine pm_iconst (v := 3) B dX13_doSetThreshold_21 (by decide) ?_
  refine pm_iald_n B dX13_doSetThreshold_22 hg 3 (by decide) (by decide) ?_
  refine pm_icmp_ne (tgt := 35) B dX13_doSetThreshold_23 (by decide) (fun h4 => ?_) (fun h4 => absurd h4 (h3))
  refine pm_aload_n B dX13_doSetThreshold_35 rfl ?_
  refine pm_get B dX13_doSetThreshold_36 fl_X13_9 hM rfl ?_
  refine pm_iconst (v := 3) B dX13_doSetThreshold_39 (by decide) ?_
  refine pm_iald_n B dX13_doSetThreshold_40 hg 3 (by decide) (by decide) ?_
  refine pm_istore_n B dX13_doSetThreshold_41 rfl rfl ?_
  refine pm_loc (L' := [some (.ref (z + m0)), some (.int x), some (.int (g 3))]) rfl ?_
  refine pm_aload_n B dX13_doSetThreshold_42 rfl ?_
  refine pm_get B dX13_doSetThreshold_43 fl_X13_9 hM rfl ?_
  refine pm_iconst (v := 3) B dX13_doSetThreshold_46 (by decide) ?_
  refine pm_iload_n B dX13_doSetThreshold_47 rfl ?_
  refine pm_iast_n B dX13_doSetThreshold_48 hg 3 (by decide) (by decide) ?_
  refine pm_mem (M' := pm_up M (m0 + 1) (.inl (kA 0, 91, .inl (upd g 3 x)))) rfl ?_
  refine pm_iload_n B dX13_doSetThreshold_49 rfl ?_
  exact pm_ireturn B dX13_doSetThreshold_50 rfl (by first | rfl | (apply pm_nz; first | assumption | decide | exact pm_in01 _ _ _ | simp)) ⟨rfl, rfl, rfl⟩ rfl rfl
set_option maxRecDepth 100000 in
set_option maxHeartbeats 4000000 in
theorem c_X13_doSetThreshold_2 {l : Launch} {z : Nat} {D : va_G} {kA : Nat → ClassId} {kE : Nat → Nat} {nx : Nat} {M : pm_M} {m0 : Nat} {f : Nat → Int32} (hM : M m0 = some (pm_mo z m0 f)) {g : Nat → Int32} (hg : M (m0 + 1) = some (.inl (kA 0, 91, .inl g))) {x : Int32} (h1 : ¬ (pm_in x 1 99) = 0) (h3 : x = (g 3)) : pm_C l z D kA kE yX13_doSetThreshold cX13_doSetThreshold 3 (some .int) 2 0 0 [.ref (z + m0), .int x] nx M (pm_rt (some (.int 0)) nx (pm_up M m0 (pm_mo z m0 (upd (upd (upd f 7 7) 8 x) 6 2)))) := by
  refine pm_mk (own := RX13) (nm := "doSetThreshold") mt_X13_doSetThreshold rfl rfl rfl rfl fun X B => ?_
  refine pm_loc (L' := [some (.ref (z + m0)), some (.int x), none]) rfl ?_
  refine pm_iload_n B dX13_doSetThreshold_0 rfl ?_
  refine pm_iconst (v := 1) B dX13_doSetThreshold_1 (by decide) ?_
  refine pm_bipush (v := 99) B dX13_doSetThreshold_2 (by decide) ?_
  refine pm_cS (As := [.int x, .int 1, .int 99]) (mc2 := 0) (ms2 := 0) B c_X13_in mt_X13_in ss_X13_70 dX13_doSetThreshold_4 rfl rfl rfl rfl rfl ?_
  refine pm_stk (st' := [.int (pm_in x 1 99)]) rfl ?_
  refine pm_if_ne (tgt := 16) B dX13_doSetThreshold_7 (by decide) (fun h2 => ?_) (fun h2 => absurd h2 (h1))
  refine pm_iload_n B dX13_doSetThreshold_16 rfl ?_
  refine pm_aload_n B dX13_doSetThreshold_17 rfl ?_
  refine pm_get B dX13_doSetThreshold_18 fl_X13_9 hM rfl ?_
  refine pm_iconst (v := 3) B dX13_doSetThreshold_21 (by decide) ?_
  refine pm_iald_n B dX13_doSetThreshold_22 hg 3 (by decide) (by decide) ?_
  refine pm_icmp_ne (tgt := 35) B dX13_doSetThreshold_23 (by decide) (fun h4 => absurd (h3) h4) (fun h4 => ?_)
  refine pm_aload_n B dX13_doSetThreshold_26 rfl ?_
  refine pm_iconst (v := 2) B dX13_doSetThreshold_27 (by decide) ?_
  refine pm_bipush (v := 7) B dX13_doSetThreshold_28 (by decide) ?_
  refine pm_iload_n B dX13_doSetThreshold_30 rfl ?_
  refine pm_cV (As := [.int 2, .int 7, .int x]) (mc2 := 0) (ms2 := 0) B rfl hM rfl (c_X13_denies (f := f) hM) mt_X13_denies sv_X13_83 dX13_doSetThreshold_31 rfl rfl rfl rfl rfl ?_
  refine pm_mem (M' := pm_up M m0 (pm_mo z m0 (upd (upd (upd f 7 7) 8 x) 6 2))) rfl ?_
  refine pm_stk (st' := [.int 0]) rfl ?_
  exact pm_ireturn B dX13_doSetThreshold_34 rfl (by first | rfl | (apply pm_nz; first | assumption | decide | exact pm_in01 _ _ _ | simp)) ⟨rfl, rfl, rfl⟩ rfl rfl
set_option maxRecDepth 100000 in
set_option maxHeartbeats 4000000 in
theorem c_X13_doSetThreshold_3 {l : Launch} {z : Nat} {D : va_G} {kA : Nat → ClassId} {kE : Nat → Nat} {nx : Nat} {M : pm_M} {m0 : Nat} {f : Nat → Int32} (hM : M m0 = some (pm_mo z m0 f)) {g : Nat → Int32} (hg : M (m0 + 1) = some (.inl (kA 0, 91, .inl g))) {x : Int32} (h1 : (pm_in x 1 99) = 0) : pm_C l z D kA kE yX13_doSetThreshold cX13_doSetThreshold 3 (some .int) 2 0 0 [.ref (z + m0), .int x] nx M (pm_rt (some (.int 0)) nx (pm_up M m0 (pm_mo z m0 (upd f 6 1)))) := by
  refine pm_mk (own := RX13) (nm := "doSetThreshold") mt_X13_doSetThreshold rfl rfl rfl rfl fun X B => ?_
  refine pm_loc (L' := [some (.ref (z + m0)), some (.int x), none]) rfl ?_
  refine pm_iload_n B dX13_doSetThreshold_0 rfl ?_
  refine pm_iconst (v := 1) B dX13_doSetThreshold_1 (by decide) ?_
  refine pm_bipush (v := 99) B dX13_doSetThreshold_2 (by decide) ?_
  refine pm_cS (As := [.int x, .int 1, .int 99]) (mc2 := 0) (ms2 := 0) B c_X13_in mt_X13_in ss_X13_70 dX13_doSetThreshold_4 rfl rfl rfl rfl rfl ?_
  refine pm_stk (st' := [.int (pm_in x 1 99)]) rfl ?_
  refine pm_if_ne (tgt := 16) B dX13_doSetThreshold_7 (by decide) (fun h2 => absurd (h1) h2) (fun h2 => ?_)
  refine pm_aload_n B dX13_doSetThreshold_10 rfl ?_
  refine pm_iconst (v := 1) B dX13_doSetThreshold_11 (by decide) ?_
  refine pm_cV (As := [.int 1]) (mc2 := 0) (ms2 := 0) B rfl hM rfl (c_X13_fails (f := f) hM) mt_X13_fails sv_X13_66 dX13_doSetThreshold_12 rfl rfl rfl rfl rfl ?_
  refine pm_mem (M' := pm_up M m0 (pm_mo z m0 (upd f 6 1))) rfl ?_
  refine pm_stk (st' := [.int 0]) rfl ?_
  exact pm_ireturn B dX13_doSetThreshold_15 rfl (by first | rfl | (apply pm_nz; first | assumption | decide | exact pm_in01 _ _ _ | simp)) ⟨rfl, rfl, rfl⟩ rfl rfl
set_option maxRecDepth 100000 in
set_option maxHeartbeats 4000000 in
theorem c_X13_doSell_o1 {l : Launch} {z : Nat} {D : va_G} {kA : Nat → ClassId} {kE : Nat → Nat} {nx : Nat} {M : pm_M} {m0 : Nat} {f : Nat → Int32} (hM : M m0 = some (pm_mo z m0 f)) {g : Nat → Int32} (hg : M (m0 + 1) = some (.inl (kA 0, 91, .inl g))) {x u : Int32} (h1 : ¬ (pm_in x 0 (g 0 - 1)) = 0) (h3 : (pm_in u 1 99) = 0) : pm_C l z D kA kE yX13_doSell cX13_doSell 4 (some .int) 2 0 0 [.ref (z + m0), .int x, .int u] nx M (pm_rt (some (.int 0)) nx (pm_up M m0 (pm_mo z m0 (upd f 6 2)))) := by
  refine pm_mk (own := RX13) (nm := "doSell") mt_X13_doSell rfl rfl rfl rfl fun X B => ?_
  refine pm_loc (L' := [some (.ref (z + m0)), some (.int x), some (.int u), none]) rfl ?_
  refine pm_aload_n B dX13_doSell_0 rfl ?_
  refine pm_iload_n B dX13_doSell_1 rfl ?_
  refine pm_cV (As := [.int x]) (mc2 := 0) (ms2 := 0) B rfl hM rfl (c_X13_isMember (f := f) hM hg) mt_X13_isMember sv_X13_100 dX13_doSell_2 rfl rfl rfl rfl rfl ?_
  refine pm_stk (st' := [.int (pm_in x 0 (g 0 - 1))]) rfl ?_
  refine pm_if_ne (tgt := 14) B dX13_doSell_5 (by decide) (fun h2 => ?_) (fun h2 => absurd h2 (h1))
  refine pm_iload_n B dX13_doSell_14 rfl ?_
  refine pm_iconst (v := 1) B dX13_doSell_15 (by decide) ?_
  refine pm_bipush (v := 99) B dX13_doSell_16 (by decide) ?_
  refine pm_cS (As := [.int u, .int 1, .int 99]) (mc2 := 0) (ms2 := 0) B c_X13_in mt_X13_in ss_X13_70 dX13_doSell_18 rfl rfl rfl rfl rfl ?_
  refine pm_stk (st' := [.int (pm_in u 1 99)]) rfl ?_
  refine pm_if_ne (tgt := 30) B dX13_doSell_21 (by decide) (fun h4 => absurd (h3) h4) (fun h4 => ?_)
  refine pm_aload_n B dX13_doSell_24 rfl ?_
  refine pm_iconst (v := 2) B dX13_doSell_25 (by decide) ?_
  refine pm_cV (As := [.int 2]) (mc2 := 0) (ms2 := 0) B rfl hM rfl (c_X13_fails (f := f) hM) mt_X13_fails sv_X13_66 dX13_doSell_26 rfl rfl rfl rfl rfl ?_
  refine pm_mem (M' := pm_up M m0 (pm_mo z m0 (upd f 6 2))) rfl ?_
  refine pm_stk (st' := [.int 0]) rfl ?_
  exact pm_ireturn B dX13_doSell_29 rfl (by first | rfl | (apply pm_nz; first | assumption | decide | exact pm_in01 _ _ _ | simp)) ⟨rfl, rfl, rfl⟩ rfl rfl
set_option maxRecDepth 100000 in
set_option maxHeartbeats 4000000 in
theorem c_X13_doSell_o2 {l : Launch} {z : Nat} {D : va_G} {kA : Nat → ClassId} {kE : Nat → Nat} {nx : Nat} {M : pm_M} {m0 : Nat} {f : Nat → Int32} (hM : M m0 = some (pm_mo z m0 f)) {g : Nat → Int32} (hg : M (m0 + 1) = some (.inl (kA 0, 91, .inl g))) {x u : Int32} (h1 : (pm_in x 0 (g 0 - 1)) = 0) : pm_C l z D kA kE yX13_doSell cX13_doSell 4 (some .int) 2 0 0 [.ref (z + m0), .int x, .int u] nx M (pm_rt (some (.int 0)) nx (pm_up M m0 (pm_mo z m0 (upd f 6 1)))) := by
  refine pm_mk (own := RX13) (nm := "doSell") mt_X13_doSell rfl rfl rfl rfl fun X B => ?_
  refine pm_loc (L' := [some (.ref (z + m0)), some (.int x), some (.int u), none]) rfl ?_
  refine pm_aload_n B dX13_doSell_0 rfl ?_
  refine pm_iload_n B dX13_doSell_1 rfl ?_
  refine pm_cV (As := [.int x]) (mc2 := 0) (ms2 := 0) B rfl hM rfl (c_X13_isMember (f := f) hM hg) mt_X13_isMember sv_X13_100 dX13_doSell_2 rfl rfl rfl rfl rfl ?_
  refine pm_stk (st' := [.int (pm_in x 0 (g 0 - 1))]) rfl ?_
  refine pm_if_ne (tgt := 14) B dX13_doSell_5 (by decide) (fun h2 => absurd (h1) h2) (fun h2 => ?_)
  refine pm_aload_n B dX13_doSell_8 rfl ?_
  refine pm_iconst (v := 1) B dX13_doSell_9 (by decide) ?_
  refine pm_cV (As := [.int 1]) (mc2 := 0) (ms2 := 0) B rfl hM rfl (c_X13_fails (f := f) hM) mt_X13_fails sv_X13_66 dX13_doSell_10 rfl rfl rfl rfl rfl ?_
  refine pm_mem (M' := pm_up M m0 (pm_mo z m0 (upd f 6 1))) rfl ?_
  refine pm_stk (st' := [.int 0]) rfl ?_
  exact pm_ireturn B dX13_doSell_13 rfl (by first | rfl | (apply pm_nz; first | assumption | decide | exact pm_in01 _ _ _ | simp)) ⟨rfl, rfl, rfl⟩ rfl rfl
set_option maxRecDepth 100000 in
set_option maxHeartbeats 4000000 in
theorem c_X13_doSell_i1 {l : Launch} {z : Nat} {D : va_G} {kA : Nat → ClassId} {kE : Nat → Nat} {nx : Nat} {M : pm_M} {m0 : Nat} {f : Nat → Int32} (hM : M m0 = some (pm_mo z m0 f)) {g : Nat → Int32} (hg : M (m0 + 1) = some (.inl (kA 0, 91, .inl g))) {i : Nat} {u : Int32} (hi : i < 7) (h1 : ¬ (pm_in (nI i) 0 (g 0 - 1)) = 0) (h3 : ¬ (pm_in u 1 99) = 0) (h5 : (pm_ib g i) = 0) (h7 : u ≤ ((g (7 + 5 * i + 0)) - (g (7 + 5 * i + 3)))) : pm_C l z D kA kE yX13_doSell cX13_doSell 4 (some .int) 2 0 0 [.ref (z + m0), .int (nI i), .int u] nx M (pm_rt (some (.int ((g (7 + 5 * i + 3)) + u))) nx (pm_up M (m0 + 1) (.inl (kA 0, 91, .inl (upd g (7 + 5 * i + 3) ((g (7 + 5 * i + 3)) + u)))))) := by
  refine pm_mk (own := RX13) (nm := "doSell") mt_X13_doSell rfl rfl rfl rfl fun X B => ?_
  refine pm_loc (L' := [some (.ref (z + m0)), some (.int (nI i)), some (.int u), none]) rfl ?_
  refine pm_aload_n B dX13_doSell_0 rfl ?_
  refine pm_iload_n B dX13_doSell_1 rfl ?_
  refine pm_cV (As := [.int (nI i)]) (mc2 := 0) (ms2 := 0) B rfl hM rfl (c_X13_isMember (f := f) hM hg) mt_X13_isMember sv_X13_100 dX13_doSell_2 rfl rfl rfl rfl rfl ?_
  refine pm_stk (st' := [.int (pm_in (nI i) 0 (g 0 - 1))]) rfl ?_
  refine pm_if_ne (tgt := 14) B dX13_doSell_5 (by decide) (fun h2 => ?_) (fun h2 => absurd h2 (h1))
  refine pm_iload_n B dX13_doSell_14 rfl ?_
  refine pm_iconst (v := 1) B dX13_doSell_15 (by decide) ?_
  refine pm_bipush (v := 99) B dX13_doSell_16 (by decide) ?_
  refine pm_cS (As := [.int u, .int 1, .int 99]) (mc2 := 0) (ms2 := 0) B c_X13_in mt_X13_in ss_X13_70 dX13_doSell_18 rfl rfl rfl rfl rfl ?_
  refine pm_stk (st' := [.int (pm_in u 1 99)]) rfl ?_
  refine pm_if_ne (tgt := 30) B dX13_doSell_21 (by decide) (fun h4 => ?_) (fun h4 => absurd h4 (h3))
  refine pm_aload_n B dX13_doSell_30 rfl ?_
  refine pm_iload_n B dX13_doSell_31 rfl ?_
  refine pm_cV (As := [.int (nI i)]) (mc2 := 0) (ms2 := 0) B rfl hM rfl (c_X13_isBarred (f := f) hM hg (i := i) (by first | assumption | omega)) mt_X13_isBarred sv_X13_114 dX13_doSell_32 rfl rfl rfl rfl rfl ?_
  refine pm_stk (st' := [.int (pm_ib g i)]) rfl ?_
  refine pm_if_eq (tgt := 52) B dX13_doSell_35 (by decide) (fun h6 => ?_) (fun h6 => absurd (h5) h6)
  refine pm_aload_n B dX13_doSell_52 rfl ?_
  refine pm_iload_n B dX13_doSell_53 rfl ?_
  refine pm_iconst (v := 0) B dX13_doSell_54 (by decide) ?_
  refine pm_cV (As := [.int (nI i), .int (nI 0)]) (mc2 := 0) (ms2 := 0) B rfl hM rfl (c_X13_of (f := f) hM hg (i := i) (w := 0) (by first | assumption | omega) (by first | assumption | omega)) mt_X13_of sv_X13_74 dX13_doSell_55 rfl rfl rfl rfl rfl ?_
  refine pm_stk (st' := [.int (g (7 + 5 * i + 0))]) rfl ?_
  refine pm_aload_n B dX13_doSell_58 rfl ?_
  refine pm_iload_n B dX13_doSell_59 rfl ?_
  refine pm_iconst (v := 3) B dX13_doSell_60 (by decide) ?_
  refine pm_cV (As := [.int (nI i), .int (nI 3)]) (mc2 := 0) (ms2 := 0) B rfl hM rfl (c_X13_of (f := f) hM hg (i := i) (w := 3) (by first | assumption | omega) (by first | assumption | omega)) mt_X13_of sv_X13_74 dX13_doSell_61 rfl rfl rfl rfl rfl ?_
  refine pm_stk (st' := [.int (g (7 + 5 * i + 3)), .int (g (7 + 5 * i + 0))]) rfl ?_
  refine pm_isub B dX13_doSell_64 ?_
  refine pm_istore_n B dX13_doSell_65 rfl rfl ?_
  refine pm_loc (L' := [some (.ref (z + m0)), some (.int (nI i)), some (.int u), some (.int ((g (7 + 5 * i + 0)) - (g (7 + 5 * i + 3))))]) rfl ?_
  refine pm_iload_n B dX13_doSell_66 rfl ?_
  refine pm_iload_n B dX13_doSell_67 rfl ?_
  refine pm_icmp_le (tgt := 79) B dX13_doSell_68 (by decide) (fun h8 => ?_) (fun h8 => absurd (h7) h8)
  refine pm_aload_n B dX13_doSell_79 rfl ?_
  refine pm_iload_n B dX13_doSell_80 rfl ?_
  refine pm_iconst (v := 3) B dX13_doSell_81 (by decide) ?_
  refine pm_aload_n B dX13_doSell_82 rfl ?_
  refine pm_iload_n B dX13_doSell_83 rfl ?_
  refine pm_iconst (v := 3) B dX13_doSell_84 (by decide) ?_
  refine pm_cV (As := [.int (nI i), .int (nI 3)]) (mc2 := 0) (ms2 := 0) B rfl hM rfl (c_X13_of (f := f) hM hg (i := i) (w := 3) (by first | assumption | omega) (by first | assumption | omega)) mt_X13_of sv_X13_74 dX13_doSell_85 rfl rfl rfl rfl rfl ?_
  refine pm_stk (st' := [.int (g (7 + 5 * i + 3)), .int 3, .int (nI i), .ref (z + m0)]) rfl ?_
  refine pm_iload_n B dX13_doSell_88 rfl ?_
  refine pm_iadd B dX13_doSell_89 ?_
  refine pm_cV (As := [.int (nI i), .int (nI 3), .int ((g (7 + 5 * i + 3)) + u)]) (mc2 := 0) (ms2 := 0) B rfl hM rfl (c_X13_sets (f := f) hM hg (i := i) (w := 3) (by first | assumption | omega) (by first | assumption | omega)) mt_X13_sets sv_X13_87 dX13_doSell_90 rfl rfl rfl rfl rfl ?_
  refine pm_mem (M' := pm_up M (m0 + 1) (.inl (kA 0, 91, .inl (upd g (7 + 5 * i + 3) ((g (7 + 5 * i + 3)) + u))))) rfl ?_
  refine pm_stk (st' := []) rfl ?_
  refine pm_aload_n B dX13_doSell_93 rfl ?_
  refine pm_iload_n B dX13_doSell_94 rfl ?_
  refine pm_iconst (v := 3) B dX13_doSell_95 (by decide) ?_
  refine pm_cV (As := [.int (nI i), .int (nI 3)]) (mc2 := 0) (ms2 := 0) B rfl ((pm_up_n (by omega)).trans hM) rfl (c_X13_of (f := f) ((pm_up_n (by omega)).trans hM) pm_up_s (i := i) (w := 3) (by first | assumption | omega) (by first | assumption | omega)) mt_X13_of sv_X13_74 dX13_doSell_96 rfl rfl rfl rfl rfl ?_
  refine pm_stk (st' := [.int ((upd g (7 + 5 * i + 3) ((g (7 + 5 * i + 3)) + u)) (7 + 5 * i + 3))]) rfl ?_
  refine pm_stk (st' := [.int ((g (7 + 5 * i + 3)) + u)]) (by rw [show ((upd g (7 + 5 * i + 3) ((g (7 + 5 * i + 3)) + u)) (7 + 5 * i + 3)) = ((g (7 + 5 * i + 3)) + u) from by rw [pk_us]]) ?_
  exact pm_ireturn B dX13_doSell_99 rfl (by first | rfl | (apply pm_nz; first | assumption | decide | exact pm_in01 _ _ _ | simp)) ⟨rfl, rfl, rfl⟩ rfl rfl
set_option maxRecDepth 100000 in
set_option maxHeartbeats 4000000 in
theorem c_X13_doSell_i2 {l : Launch} {z : Nat} {D : va_G} {kA : Nat → ClassId} {kE : Nat → Nat} {nx : Nat} {M : pm_M} {m0 : Nat} {f : Nat → Int32} (hM : M m0 = some (pm_mo z m0 f)) {g : Nat → Int32} (hg : M (m0 + 1) = some (.inl (kA 0, 91, .inl g))) {i : Nat} {u : Int32} (hi : i < 7) (h1 : ¬ (pm_in (nI i) 0 (g 0 - 1)) = 0) (h3 : ¬ (pm_in u 1 99) = 0) (h5 : (pm_ib g i) = 0) (h7 : ¬ u ≤ ((g (7 + 5 * i + 0)) - (g (7 + 5 * i + 3)))) : pm_C l z D kA kE yX13_doSell cX13_doSell 4 (some .int) 2 0 0 [.ref (z + m0), .int (nI i), .int u] nx M (pm_rt (some (.int 0)) nx (pm_up M m0 (pm_mo z m0 (upd (upd (upd f 7 3) 8 ((g (7 + 5 * i + 0)) - (g (7 + 5 * i + 3)))) 6 3)))) := by
  refine pm_mk (own := RX13) (nm := "doSell") mt_X13_doSell rfl rfl rfl rfl fun X B => ?_
  refine pm_loc (L' := [some (.ref (z + m0)), some (.int (nI i)), some (.int u), none]) rfl ?_
  refine pm_aload_n B dX13_doSell_0 rfl ?_
  refine pm_iload_n B dX13_doSell_1 rfl ?_
  refine pm_cV (As := [.int (nI i)]) (mc2 := 0) (ms2 := 0) B rfl hM rfl (c_X13_isMember (f := f) hM hg) mt_X13_isMember sv_X13_100 dX13_doSell_2 rfl rfl rfl rfl rfl ?_
  refine pm_stk (st' := [.int (pm_in (nI i) 0 (g 0 - 1))]) rfl ?_
  refine pm_if_ne (tgt := 14) B dX13_doSell_5 (by decide) (fun h2 => ?_) (fun h2 => absurd h2 (h1))
  refine pm_iload_n B dX13_doSell_14 rfl ?_
  refine pm_iconst (v := 1) B dX13_doSell_15 (by decide) ?_
  refine pm_bipush (v := 99) B dX13_doSell_16 (by decide) ?_
  refine pm_cS (As := [.int u, .int 1, .int 99]) (mc2 := 0) (ms2 := 0) B c_X13_in mt_X13_in ss_X13_70 dX13_doSell_18 rfl rfl rfl rfl rfl ?_
  refine pm_stk (st' := [.int (pm_in u 1 99)]) rfl ?_
  refine pm_if_ne (tgt := 30) B dX13_doSell_21 (by decide) (fun h4 => ?_) (fun h4 => absurd h4 (h3))
  refine pm_aload_n B dX13_doSell_30 rfl ?_
  refine pm_iload_n B dX13_doSell_31 rfl ?_
  refine pm_cV (As := [.int (nI i)]) (mc2 := 0) (ms2 := 0) B rfl hM rfl (c_X13_isBarred (f := f) hM hg (i := i) (by first | assumption | omega)) mt_X13_isBarred sv_X13_114 dX13_doSell_32 rfl rfl rfl rfl rfl ?_
  refine pm_stk (st' := [.int (pm_ib g i)]) rfl ?_
  refine pm_if_eq (tgt := 52) B dX13_doSell_35 (by decide) (fun h6 => ?_) (fun h6 => absurd (h5) h6)
  refine pm_aload_n B dX13_doSell_52 rfl ?_
  refine pm_iload_n B dX13_doSell_53 rfl ?_
  refine pm_iconst (v := 0) B dX13_doSell_54 (by decide) ?_
  refine pm_cV (As := [.int (nI i), .int (nI 0)]) (mc2 := 0) (ms2 := 0) B rfl hM rfl (c_X13_of (f := f) hM hg (i := i) (w := 0) (by first | assumption | omega) (by first | assumption | omega)) mt_X13_of sv_X13_74 dX13_doSell_55 rfl rfl rfl rfl rfl ?_
  refine pm_stk (st' := [.int (g (7 + 5 * i + 0))]) rfl ?_
  refine pm_aload_n B dX13_doSell_58 rfl ?_
  refine pm_iload_n B dX13_doSell_59 rfl ?_
  refine pm_iconst (v := 3) B dX13_doSell_60 (by decide) ?_
  refine pm_cV (As := [.int (nI i), .int (nI 3)]) (mc2 := 0) (ms2 := 0) B rfl hM rfl (c_X13_of (f := f) hM hg (i := i) (w := 3) (by first | assumption | omega) (by first | assumption | omega)) mt_X13_of sv_X13_74 dX13_doSell_61 rfl rfl rfl rfl rfl ?_
  refine pm_stk (st' := [.int (g (7 + 5 * i + 3)), .int (g (7 + 5 * i + 0))]) rfl ?_
  refine pm_isub B dX13_doSell_64 ?_
  refine pm_istore_n B dX13_doSell_65 rfl rfl ?_
  refine pm_loc (L' := [some (.ref (z + m0)), some (.int (nI i)), some (.int u), some (.int ((g (7 + 5 * i + 0)) - (g (7 + 5 * i + 3))))]) rfl ?_
  refine pm_iload_n B dX13_doSell_66 rfl ?_
  refine pm_iload_n B dX13_doSell_67 rfl ?_
  refine pm_icmp_le (tgt := 79) B dX13_doSell_68 (by decide) (fun h8 => absurd h8 (h7)) (fun h8 => ?_)
  refine pm_aload_n B dX13_doSell_71 rfl ?_
  refine pm_iconst (v := 3) B dX13_doSell_72 (by decide) ?_
  refine pm_iconst (v := 3) B dX13_doSell_73 (by decide) ?_
  refine pm_iload_n B dX13_doSell_74 rfl ?_
  refine pm_cV (As := [.int 3, .int 3, .int ((g (7 + 5 * i + 0)) - (g (7 + 5 * i + 3)))]) (mc2 := 0) (ms2 := 0) B rfl hM rfl (c_X13_denies (f := f) hM) mt_X13_denies sv_X13_83 dX13_doSell_75 rfl rfl rfl rfl rfl ?_
  refine pm_mem (M' := pm_up M m0 (pm_mo z m0 (upd (upd (upd f 7 3) 8 ((g (7 + 5 * i + 0)) - (g (7 + 5 * i + 3)))) 6 3))) rfl ?_
  refine pm_stk (st' := [.int 0]) rfl ?_
  exact pm_ireturn B dX13_doSell_78 rfl (by first | rfl | (apply pm_nz; first | assumption | decide | exact pm_in01 _ _ _ | simp)) ⟨rfl, rfl, rfl⟩ rfl rfl
set_option maxRecDepth 100000 in
set_option maxHeartbeats 4000000 in
theorem c_X13_doSell_i3 {l : Launch} {z : Nat} {D : va_G} {kA : Nat → ClassId} {kE : Nat → Nat} {nx : Nat} {M : pm_M} {m0 : Nat} {f : Nat → Int32} (hM : M m0 = some (pm_mo z m0 f)) {g : Nat → Int32} (hg : M (m0 + 1) = some (.inl (kA 0, 91, .inl g))) {i : Nat} {u : Int32} (hi : i < 7) (h1 : ¬ (pm_in (nI i) 0 (g 0 - 1)) = 0) (h3 : ¬ (pm_in u 1 99) = 0) (h5 : ¬ (pm_ib g i) = 0) : pm_C l z D kA kE yX13_doSell cX13_doSell 4 (some .int) 2 0 0 [.ref (z + m0), .int (nI i), .int u] nx M (pm_rt (some (.int 0)) nx (pm_up M m0 (pm_mo z m0 (upd (upd (upd f 7 2) 8 (-(g (7 + 5 * i + 4)))) 6 3)))) := by
  refine pm_mk (own := RX13) (nm := "doSell") mt_X13_doSell rfl rfl rfl rfl fun X B => ?_
  refine pm_loc (L' := [some (.ref (z + m0)), some (.int (nI i)), some (.int u), none]) rfl ?_
  refine pm_aload_n B dX13_doSell_0 rfl ?_
  refine pm_iload_n B dX13_doSell_1 rfl ?_
  refine pm_cV (As := [.int (nI i)]) (mc2 := 0) (ms2 := 0) B rfl hM rfl (c_X13_isMember (f := f) hM hg) mt_X13_isMember sv_X13_100 dX13_doSell_2 rfl rfl rfl rfl rfl ?_
  refine pm_stk (st' := [.int (pm_in (nI i) 0 (g 0 - 1))]) rfl ?_
  refine pm_if_ne (tgt := 14) B dX13_doSell_5 (by decide) (fun h2 => ?_) (fun h2 => absurd h2 (h1))
  refine pm_iload_n B dX13_doSell_14 rfl ?_
  refine pm_iconst (v := 1) B dX13_doSell_15 (by decide) ?_
  refine pm_bipush (v := 99) B dX13_doSell_16 (by decide) ?_
  refine pm_cS (As := [.int u, .int 1, .int 99]) (mc2 := 0) (ms2 := 0) B c_X13_in mt_X13_in ss_X13_70 dX13_doSell_18 rfl rfl rfl rfl rfl ?_
  refine pm_stk (st' := [.int (pm_in u 1 99)]) rfl ?_
  refine pm_if_ne (tgt := 30) B dX13_doSell_21 (by decide) (fun h4 => ?_) (fun h4 => absurd h4 (h3))
  refine pm_aload_n B dX13_doSell_30 rfl ?_
  refine pm_iload_n B dX13_doSell_31 rfl ?_
  refine pm_cV (As := [.int (nI i)]) (mc2 := 0) (ms2 := 0) B rfl hM rfl (c_X13_isBarred (f := f) hM hg (i := i) (by first | assumption | omega)) mt_X13_isBarred sv_X13_114 dX13_doSell_32 rfl rfl rfl rfl rfl ?_
  refine pm_stk (st' := [.int (pm_ib g i)]) rfl ?_
  refine pm_if_eq (tgt := 52) B dX13_doSell_35 (by decide) (fun h6 => absurd h6 (h5)) (fun h6 => ?_)
  refine pm_aload_n B dX13_doSell_38 rfl ?_
  refine pm_iconst (v := 3) B dX13_doSell_39 (by decide) ?_
  refine pm_iconst (v := 2) B dX13_doSell_40 (by decide) ?_
  refine pm_aload_n B dX13_doSell_41 rfl ?_
  refine pm_iload_n B dX13_doSell_42 rfl ?_
  refine pm_iconst (v := 4) B dX13_doSell_43 (by decide) ?_
  refine pm_cV (As := [.int (nI i), .int (nI 4)]) (mc2 := 0) (ms2 := 0) B rfl hM rfl (c_X13_of (f := f) hM hg (i := i) (w := 4) (by first | assumption | omega) (by first | assumption | omega)) mt_X13_of sv_X13_74 dX13_doSell_44 rfl rfl rfl rfl rfl ?_
  refine pm_stk (st' := [.int (g (7 + 5 * i + 4)), .int 2, .int 3, .ref (z + m0)]) rfl ?_
  refine pm_ineg B dX13_doSell_47 ?_
  refine pm_cV (As := [.int 3, .int 2, .int (-(g (7 + 5 * i + 4)))]) (mc2 := 0) (ms2 := 0) B rfl hM rfl (c_X13_denies (f := f) hM) mt_X13_denies sv_X13_83 dX13_doSell_48 rfl rfl rfl rfl rfl ?_
  refine pm_mem (M' := pm_up M m0 (pm_mo z m0 (upd (upd (upd f 7 2) 8 (-(g (7 + 5 * i + 4)))) 6 3))) rfl ?_
  refine pm_stk (st' := [.int 0]) rfl ?_
  exact pm_ireturn B dX13_doSell_51 rfl (by first | rfl | (apply pm_nz; first | assumption | decide | exact pm_in01 _ _ _ | simp)) ⟨rfl, rfl, rfl⟩ rfl rfl
set_option maxRecDepth 100000 in
set_option maxHeartbeats 4000000 in
theorem c_X13_doSell_i4 {l : Launch} {z : Nat} {D : va_G} {kA : Nat → ClassId} {kE : Nat → Nat} {nx : Nat} {M : pm_M} {m0 : Nat} {f : Nat → Int32} (hM : M m0 = some (pm_mo z m0 f)) {g : Nat → Int32} (hg : M (m0 + 1) = some (.inl (kA 0, 91, .inl g))) {i : Nat} {u : Int32} (hi : i < 7) (h1 : ¬ (pm_in (nI i) 0 (g 0 - 1)) = 0) (h3 : (pm_in u 1 99) = 0) : pm_C l z D kA kE yX13_doSell cX13_doSell 4 (some .int) 2 0 0 [.ref (z + m0), .int (nI i), .int u] nx M (pm_rt (some (.int 0)) nx (pm_up M m0 (pm_mo z m0 (upd f 6 2)))) := by
  refine pm_mk (own := RX13) (nm := "doSell") mt_X13_doSell rfl rfl rfl rfl fun X B => ?_
  refine pm_loc (L' := [some (.ref (z + m0)), some (.int (nI i)), some (.int u), none]) rfl ?_
  refine pm_aload_n B dX13_doSell_0 rfl ?_
  refine pm_iload_n B dX13_doSell_1 rfl ?_
  refine pm_cV (As := [.int (nI i)]) (mc2 := 0) (ms2 := 0) B rfl hM rfl (c_X13_isMember (f := f) hM hg) mt_X13_isMember sv_X13_100 dX13_doSell_2 rfl rfl rfl rfl rfl ?_
  refine pm_stk (st' := [.int (pm_in (nI i) 0 (g 0 - 1))]) rfl ?_
  refine pm_if_ne (tgt := 14) B dX13_doSell_5 (by decide) (fun h2 => ?_) (fun h2 => absurd h2 (h1))
  refine pm_iload_n B dX13_doSell_14 rfl ?_
  refine pm_iconst (v := 1) B dX13_doSell_15 (by decide) ?_
  refine pm_bipush (v := 99) B dX13_doSell_16 (by decide) ?_
  refine pm_cS (As := [.int u, .int 1, .int 99]) (mc2 := 0) (ms2 := 0) B c_X13_in mt_X13_in ss_X13_70 dX13_doSell_18 rfl rfl rfl rfl rfl ?_
  refine pm_stk (st' := [.int (pm_in u 1 99)]) rfl ?_
  refine pm_if_ne (tgt := 30) B dX13_doSell_21 (by decide) (fun h4 => absurd (h3) h4) (fun h4 => ?_)
  refine pm_aload_n B dX13_doSell_24 rfl ?_
  refine pm_iconst (v := 2) B dX13_doSell_25 (by decide) ?_
  refine pm_cV (As := [.int 2]) (mc2 := 0) (ms2 := 0) B rfl hM rfl (c_X13_fails (f := f) hM) mt_X13_fails sv_X13_66 dX13_doSell_26 rfl rfl rfl rfl rfl ?_
  refine pm_mem (M' := pm_up M m0 (pm_mo z m0 (upd f 6 2))) rfl ?_
  refine pm_stk (st' := [.int 0]) rfl ?_
  exact pm_ireturn B dX13_doSell_29 rfl (by first | rfl | (apply pm_nz; first | assumption | decide | exact pm_in01 _ _ _ | simp)) ⟨rfl, rfl, rfl⟩ rfl rfl
set_option maxRecDepth 100000 in
set_option maxHeartbeats 4000000 in
theorem c_X13_doSell_i5 {l : Launch} {z : Nat} {D : va_G} {kA : Nat → ClassId} {kE : Nat → Nat} {nx : Nat} {M : pm_M} {m0 : Nat} {f : Nat → Int32} (hM : M m0 = some (pm_mo z m0 f)) {g : Nat → Int32} (hg : M (m0 + 1) = some (.inl (kA 0, 91, .inl g))) {i : Nat} {u : Int32} (hi : i < 7) (h1 : (pm_in (nI i) 0 (g 0 - 1)) = 0) : pm_C l z D kA kE yX13_doSell cX13_doSell 4 (some .int) 2 0 0 [.ref (z + m0), .int (nI i), .int u] nx M (pm_rt (some (.int 0)) nx (pm_up M m0 (pm_mo z m0 (upd f 6 1)))) := by
  refine pm_mk (own := RX13) (nm := "doSell") mt_X13_doSell rfl rfl rfl rfl fun X B => ?_
  refine pm_loc (L' := [some (.ref (z + m0)), some (.int (nI i)), some (.int u), none]) rfl ?_
  refine pm_aload_n B dX13_doSell_0 rfl ?_
  refine pm_iload_n B dX13_doSell_1 rfl ?_
  refine pm_cV (As := [.int (nI i)]) (mc2 := 0) (ms2 := 0) B rfl hM rfl (c_X13_isMember (f := f) hM hg) mt_X13_isMember sv_X13_100 dX13_doSell_2 rfl rfl rfl rfl rfl ?_
  refine pm_stk (st' := [.int (pm_in (nI i) 0 (g 0 - 1))]) rfl ?_
  refine pm_if_ne (tgt := 14) B dX13_doSell_5 (by decide) (fun h2 => absurd (h1) h2) (fun h2 => ?_)
  refine pm_aload_n B dX13_doSell_8 rfl ?_
  refine pm_iconst (v := 1) B dX13_doSell_9 (by decide) ?_
  refine pm_cV (As := [.int 1]) (mc2 := 0) (ms2 := 0) B rfl hM rfl (c_X13_fails (f := f) hM) mt_X13_fails sv_X13_66 dX13_doSell_10 rfl rfl rfl rfl rfl ?_
  refine pm_mem (M' := pm_up M m0 (pm_mo z m0 (upd f 6 1))) rfl ?_
  refine pm_stk (st' := [.int 0]) rfl ?_
  exact pm_ireturn B dX13_doSell_13 rfl (by first | rfl | (apply pm_nz; first | assumption | decide | exact pm_in01 _ _ _ | simp)) ⟨rfl, rfl, rfl⟩ rfl rfl
set_option maxRecDepth 100000 in
set_option maxHeartbeats 4000000 in
theorem c_X13_ends_s1 {l : Launch} {z : Nat} {D : va_G} {kA : Nat → ClassId} {kE : Nat → Nat} {nx : Nat} {M : pm_M} {k : Nat} (hk : k < 8) {m0 : Nat} {f : Nat → Int32} (hM : M m0 = some (pm_mo z m0 (upd f 5 (nI k)))) {g : Nat → Int32} (hg : M (m0 + 1) = some (.inl (kA 0, 91, .inl g))) {gb : Nat → Int32} (hgb : M (m0 + 2) = some (.inl (kA 0, 91, .inl gb))) {gp : Nat → Int32} (hgp : M (m0 + 4) = some (.inl (kA 0, 728, .inl gp))) {x y : Int32} (h1 : ((upd f 5 (nI k)) 7) ≤ 0) (h3 : ((upd f 5 (nI k)) 6) ≤ 0) : pm_C l z D kA kE yX13_ends cX13_ends 3 (some .int) 2 0 0 [.ref (z + m0), .int x, .int y] nx M (pm_rt (some (.int x)) nx (pm_up (pm_up M (m0 + 4) (.inl (kA 0, 728, .inl (va_cpy gb gp 0 (91 * k) 91)))) m0 (pm_mo z m0 (upd (upd f 5 (nI k)) 5 ((nI k) + 1))))) := by
  refine pm_mk (own := RX13) (nm := "ends") mt_X13_ends rfl rfl rfl rfl fun X B => ?_
  refine pm_loc (L' := [some (.ref (z + m0)), some (.int x), some (.int y)]) rfl ?_
  refine pm_aload_n B dX13_ends_0 rfl ?_
  refine pm_get B dX13_ends_1 fl_X13_42 hM rfl ?_
  refine pm_if_le (tgt := 28) B dX13_ends_4 (by decide) (fun h2 => ?_) (fun h2 => absurd (h1) h2)
  refine pm_aload_n B dX13_ends_28 rfl ?_
  refine pm_get B dX13_ends_29 fl_X13_39 hM rfl ?_
  refine pm_if_le (tgt := 52) B dX13_ends_32 (by decide) (fun h4 => ?_) (fun h4 => absurd (h3) h4)
  refine pm_aload_n B dX13_ends_52 rfl ?_
  refine pm_get B dX13_ends_53 fl_X13_63 hM rfl ?_
  refine pm_bipush (v := 8) B dX13_ends_56 (by decide) ?_
  refine pm_icmp_ne (tgt := 88) B dX13_ends_58 (by decide) (fun h5 => ?_) (fun h5 => absurd h5 (fun e => absurd ((nI_eq (by omega) (by decide)).mp (e.trans (show (8 : Int32) = nI 8 from rfl))) (by omega)))
  refine pm_aload_n B dX13_ends_88 rfl ?_
  refine pm_get B dX13_ends_89 fl_X13_13 hM rfl ?_
  refine pm_iconst (v := 0) B dX13_ends_92 (by decide) ?_
  refine pm_aload_n B dX13_ends_93 rfl ?_
  refine pm_get B dX13_ends_94 fl_X13_19 hM rfl ?_
  refine pm_bipush (v := 91) B dX13_ends_97 (by decide) ?_
  refine pm_aload_n B dX13_ends_99 rfl ?_
  refine pm_get B dX13_ends_100 fl_X13_63 hM rfl ?_
  refine pm_imul B dX13_ends_103 ?_
  refine pm_bipush (v := 91) B dX13_ends_104 (by decide) ?_
  refine pm_acopy B dX13_ends_106 (pm_T_in 1721 (by decide +kernel) (by decide +kernel)) hgb hgp 0 (91 * k) 91 rfl (by rw [show (91 : Int32) = nI 91 from rfl, pk_mul]) rfl (by first | decide | omega) (by first | decide | omega) (by first | decide | omega) (by first | decide | omega) rfl rfl ?_
  refine pm_mem (M' := pm_up M (m0 + 4) (.inl (kA 0, 728, .inl (va_cpy gb gp 0 (91 * k) 91)))) rfl ?_
  refine pm_aload_n B dX13_ends_109 rfl ?_
  refine pm_dup B dX13_ends_110 rfl ?_
  refine pm_get B dX13_ends_111 fl_X13_63 ((pm_up_n (by omega)).trans hM) rfl ?_
  refine pm_iconst (v := 1) B dX13_ends_114 (by decide) ?_
  refine pm_iadd B dX13_ends_115 ?_
  refine pm_put B dX13_ends_116 fs_X13_63 ((pm_up_n (by omega)).trans hM) rfl rfl rfl ?_
  refine pm_mem (M' := pm_up (pm_up M (m0 + 4) (.inl (kA 0, 728, .inl (va_cpy gb gp 0 (91 * k) 91)))) m0 (pm_mo z m0 (upd (upd f 5 (nI k)) 5 ((nI k) + 1)))) rfl ?_
  refine pm_iload_n B dX13_ends_119 rfl ?_
  exact pm_ireturn B dX13_ends_120 rfl (by first | rfl | (apply pm_nz; first | assumption | decide | exact pm_in01 _ _ _ | simp)) ⟨rfl, rfl, rfl⟩ rfl rfl
set_option maxRecDepth 100000 in
set_option maxHeartbeats 4000000 in
theorem c_X13_ends_s2 {l : Launch} {z : Nat} {D : va_G} {kA : Nat → ClassId} {kE : Nat → Nat} {nx : Nat} {M : pm_M} {k : Nat} (hk : k < 8) {m0 : Nat} {f : Nat → Int32} (hM : M m0 = some (pm_mo z m0 (upd f 5 (nI k)))) {g : Nat → Int32} (hg : M (m0 + 1) = some (.inl (kA 0, 91, .inl g))) {gb : Nat → Int32} (hgb : M (m0 + 2) = some (.inl (kA 0, 91, .inl gb))) {gp : Nat → Int32} (hgp : M (m0 + 4) = some (.inl (kA 0, 728, .inl gp))) {x y : Int32} (h1 : ((upd f 5 (nI k)) 7) ≤ 0) (h3 : ¬ ((upd f 5 (nI k)) 6) ≤ 0) : pm_C l z D kA kE yX13_ends cX13_ends 3 (some .int) 2 0 0 [.ref (z + m0), .int x, .int y] nx M (pm_rt (some (.int 0)) nx (pm_up M (m0 + 1) (.inl (kA 0, 91, .inl (va_cpy gb g 0 0 91))))) := by
  refine pm_mk (own := RX13) (nm := "ends") mt_X13_ends rfl rfl rfl rfl fun X B => ?_
  refine pm_loc (L' := [some (.ref (z + m0)), some (.int x), some (.int y)]) rfl ?_
  refine pm_aload_n B dX13_ends_0 rfl ?_
  refine pm_get B dX13_ends_1 fl_X13_42 hM rfl ?_
  refine pm_if_le (tgt := 28) B dX13_ends_4 (by decide) (fun h2 => ?_) (fun h2 => absurd (h1) h2)
  refine pm_aload_n B dX13_ends_28 rfl ?_
  refine pm_get B dX13_ends_29 fl_X13_39 hM rfl ?_
  refine pm_if_le (tgt := 52) B dX13_ends_32 (by decide) (fun h4 => absurd h4 (h3)) (fun h4 => ?_)
  refine pm_aload_n B dX13_ends_35 rfl ?_
  refine pm_get B dX13_ends_36 fl_X13_13 hM rfl ?_
  refine pm_iconst (v := 0) B dX13_ends_39 (by decide) ?_
  refine pm_aload_n B dX13_ends_40 rfl ?_
  refine pm_get B dX13_ends_41 fl_X13_9 hM rfl ?_
  refine pm_iconst (v := 0) B dX13_ends_44 (by decide) ?_
  refine pm_bipush (v := 91) B dX13_ends_45 (by decide) ?_
  refine pm_acopy B dX13_ends_47 (pm_T_in 1721 (by decide +kernel) (by decide +kernel)) hgb hg 0 0 91 rfl rfl rfl (by first | decide | omega) (by first | decide | omega) (by first | decide | omega) (by first | decide | omega) rfl rfl ?_
  refine pm_mem (M' := pm_up M (m0 + 1) (.inl (kA 0, 91, .inl (va_cpy gb g 0 0 91)))) rfl ?_
  refine pm_iconst (v := 0) B dX13_ends_50 (by decide) ?_
  exact pm_ireturn B dX13_ends_51 rfl (by first | rfl | (apply pm_nz; first | assumption | decide | exact pm_in01 _ _ _ | simp)) ⟨rfl, rfl, rfl⟩ rfl rfl
set_option maxRecDepth 100000 in
set_option maxHeartbeats 4000000 in
theorem c_X13_ends_s3 {l : Launch} {z : Nat} {D : va_G} {kA : Nat → ClassId} {kE : Nat → Nat} {nx : Nat} {M : pm_M} {k : Nat} (hk : k < 8) {m0 : Nat} {f : Nat → Int32} (hM : M m0 = some (pm_mo z m0 (upd f 5 (nI k)))) {g : Nat → Int32} (hg : M (m0 + 1) = some (.inl (kA 0, 91, .inl g))) {gb : Nat → Int32} (hgb : M (m0 + 2) = some (.inl (kA 0, 91, .inl gb))) {gp : Nat → Int32} (hgp : M (m0 + 4) = some (.inl (kA 0, 728, .inl gp))) {x y : Int32} (h1 : ¬ ((upd f 5 (nI k)) 7) ≤ 0) (h3 : ((upd f 5 (nI k)) 6) ≤ 0) : pm_C l z D kA kE yX13_ends cX13_ends 3 (some .int) 2 0 0 [.ref (z + m0), .int x, .int y] nx M (pm_rt (some (.int x)) nx (pm_up (pm_up M m0 (pm_mo z m0 (upd (upd (upd (upd (upd f 5 (nI k)) 9 ((upd f 5 (nI k)) 7)) 10 ((upd f 5 (nI k)) 8)) 11 y) 5 ((nI k) + 1)))) (m0 + 4) (.inl (kA 0, 728, .inl (va_cpy gb gp 0 (91 * k) 91))))) := by
  refine pm_mk (own := RX13) (nm := "ends") mt_X13_ends rfl rfl rfl rfl fun X B => ?_
  refine pm_loc (L' := [some (.ref (z + m0)), some (.int x), some (.int y)]) rfl ?_
  refine pm_aload_n B dX13_ends_0 rfl ?_
  refine pm_get B dX13_ends_1 fl_X13_42 hM rfl ?_
  refine pm_if_le (tgt := 28) B dX13_ends_4 (by decide) (fun h2 => absurd h2 (h1)) (fun h2 => ?_)
  refine pm_aload_n B dX13_ends_7 rfl ?_
  refine pm_aload_n B dX13_ends_8 rfl ?_
  refine pm_get B dX13_ends_9 fl_X13_42 hM rfl ?_
  refine pm_put B dX13_ends_12 fs_X13_51 hM rfl rfl rfl ?_
  refine pm_mem (M' := pm_up M m0 (pm_mo z m0 (upd (upd f 5 (nI k)) 9 ((upd f 5 (nI k)) 7)))) rfl ?_
  refine pm_aload_n B dX13_ends_15 rfl ?_
  refine pm_aload_n B dX13_ends_16 rfl ?_
  refine pm_get B dX13_ends_17 fl_X13_54 pm_up_s rfl ?_
  refine pm_put B dX13_ends_20 fs_X13_57 pm_up_s rfl rfl rfl ?_
  refine pm_mem (M' := pm_up M m0 (pm_mo z m0 (upd (upd (upd f 5 (nI k)) 9 ((upd f 5 (nI k)) 7)) 10 ((upd f 5 (nI k)) 8)))) pm_up_up ?_
  refine pm_aload_n B dX13_ends_23 rfl ?_
  refine pm_iload_n B dX13_ends_24 rfl ?_
  refine pm_put B dX13_ends_25 fs_X13_60 pm_up_s rfl rfl rfl ?_
  refine pm_mem (M' := pm_up M m0 (pm_mo z m0 (upd (upd (upd (upd f 5 (nI k)) 9 ((upd f 5 (nI k)) 7)) 10 ((upd f 5 (nI k)) 8)) 11 y))) pm_up_up ?_
  refine pm_aload_n B dX13_ends_28 rfl ?_
  refine pm_get B dX13_ends_29 fl_X13_39 pm_up_s rfl ?_
  refine pm_if_le (tgt := 52) B dX13_ends_32 (by decide) (fun h4 => ?_) (fun h4 => absurd (h3) h4)
  refine pm_aload_n B dX13_ends_52 rfl ?_
  refine pm_get B dX13_ends_53 fl_X13_63 pm_up_s rfl ?_
  refine pm_bipush (v := 8) B dX13_ends_56 (by decide) ?_
  refine pm_icmp_ne (tgt := 88) B dX13_ends_58 (by decide) (fun h5 => ?_) (fun h5 => absurd h5 (fun e => absurd ((nI_eq (by omega) (by decide)).mp (e.trans (show (8 : Int32) = nI 8 from rfl))) (by omega)))
  refine pm_aload_n B dX13_ends_88 rfl ?_
  refine pm_get B dX13_ends_89 fl_X13_13 pm_up_s rfl ?_
  refine pm_iconst (v := 0) B dX13_ends_92 (by decide) ?_
  refine pm_aload_n B dX13_ends_93 rfl ?_
  refine pm_get B dX13_ends_94 fl_X13_19 pm_up_s rfl ?_
  refine pm_bipush (v := 91) B dX13_ends_97 (by decide) ?_
  refine pm_aload_n B dX13_ends_99 rfl ?_
  refine pm_get B dX13_ends_100 fl_X13_63 pm_up_s rfl ?_
  refine pm_imul B dX13_ends_103 ?_
  refine pm_bipush (v := 91) B dX13_ends_104 (by decide) ?_
  refine pm_acopy B dX13_ends_106 (pm_T_in 1721 (by decide +kernel) (by decide +kernel)) ((pm_up_n (by omega)).trans hgb) ((pm_up_n (by omega)).trans hgp) 0 (91 * k) 91 rfl (by rw [show (91 : Int32) = nI 91 from rfl, pk_mul]) rfl (by first | decide | omega) (by first | decide | omega) (by first | decide | omega) (by first | decide | omega) rfl rfl ?_
  refine pm_mem (M' := pm_up (pm_up M m0 (pm_mo z m0 (upd (upd (upd (upd f 5 (nI k)) 9 ((upd f 5 (nI k)) 7)) 10 ((upd f 5 (nI k)) 8)) 11 y))) (m0 + 4) (.inl (kA 0, 728, .inl (va_cpy gb gp 0 (91 * k) 91)))) rfl ?_
  refine pm_aload_n B dX13_ends_109 rfl ?_
  refine pm_dup B dX13_ends_110 rfl ?_
  refine pm_get B dX13_ends_111 fl_X13_63 ((pm_up_n (by omega)).trans pm_up_s) rfl ?_
  refine pm_iconst (v := 1) B dX13_ends_114 (by decide) ?_
  refine pm_iadd B dX13_ends_115 ?_
  refine pm_put B dX13_ends_116 fs_X13_63 ((pm_up_n (by omega)).trans pm_up_s) rfl rfl rfl ?_
  refine pm_mem (M' := pm_up (pm_up (pm_up M m0 (pm_mo z m0 (upd (upd (upd (upd f 5 (nI k)) 9 ((upd f 5 (nI k)) 7)) 10 ((upd f 5 (nI k)) 8)) 11 y))) (m0 + 4) (.inl (kA 0, 728, .inl (va_cpy gb gp 0 (91 * k) 91)))) m0 (pm_mo z m0 (upd (upd (upd (upd (upd f 5 (nI k)) 9 ((upd f 5 (nI k)) 7)) 10 ((upd f 5 (nI k)) 8)) 11 y) 5 ((nI k) + 1)))) rfl ?_
  refine pm_mem (M' := pm_up (pm_up M m0 (pm_mo z m0 (upd (upd (upd (upd (upd f 5 (nI k)) 9 ((upd f 5 (nI k)) 7)) 10 ((upd f 5 (nI k)) 8)) 11 y) 5 ((nI k) + 1)))) (m0 + 4) (.inl (kA 0, 728, .inl (va_cpy gb gp 0 (91 * k) 91)))) (by rw [pm_up_sw (a := m0 + 4) (b := m0) (by omega), pm_up_up]) ?_
  refine pm_iload_n B dX13_ends_119 rfl ?_
  exact pm_ireturn B dX13_ends_120 rfl (by first | rfl | (apply pm_nz; first | assumption | decide | exact pm_in01 _ _ _ | simp)) ⟨rfl, rfl, rfl⟩ rfl rfl
set_option maxRecDepth 100000 in
set_option maxHeartbeats 4000000 in
theorem c_X13_ends_s4 {l : Launch} {z : Nat} {D : va_G} {kA : Nat → ClassId} {kE : Nat → Nat} {nx : Nat} {M : pm_M} {k : Nat} (hk : k < 8) {m0 : Nat} {f : Nat → Int32} (hM : M m0 = some (pm_mo z m0 (upd f 5 (nI k)))) {g : Nat → Int32} (hg : M (m0 + 1) = some (.inl (kA 0, 91, .inl g))) {gb : Nat → Int32} (hgb : M (m0 + 2) = some (.inl (kA 0, 91, .inl gb))) {gp : Nat → Int32} (hgp : M (m0 + 4) = some (.inl (kA 0, 728, .inl gp))) {x y : Int32} (h1 : ¬ ((upd f 5 (nI k)) 7) ≤ 0) (h3 : ¬ ((upd f 5 (nI k)) 6) ≤ 0) : pm_C l z D kA kE yX13_ends cX13_ends 3 (some .int) 2 0 0 [.ref (z + m0), .int x, .int y] nx M (pm_rt (some (.int 0)) nx (pm_up (pm_up M m0 (pm_mo z m0 (upd (upd (upd (upd f 5 (nI k)) 9 ((upd f 5 (nI k)) 7)) 10 ((upd f 5 (nI k)) 8)) 11 y))) (m0 + 1) (.inl (kA 0, 91, .inl (va_cpy gb g 0 0 91))))) := by
  refine pm_mk (own := RX13) (nm := "ends") mt_X13_ends rfl rfl rfl rfl fun X B => ?_
  refine pm_loc (L' := [some (.ref (z + m0)), some (.int x), some (.int y)]) rfl ?_
  refine pm_aload_n B dX13_ends_0 rfl ?_
  refine pm_get B dX13_ends_1 fl_X13_42 hM rfl ?_
  refine pm_if_le (tgt := 28) B dX13_ends_4 (by decide) (fun h2 => absurd h2 (h1)) (fun h2 => ?_)
  refine pm_aload_n B dX13_ends_7 rfl ?_
  refine pm_aload_n B dX13_ends_8 rfl ?_
  refine pm_get B dX13_ends_9 fl_X13_42 hM rfl ?_
  refine pm_put B dX13_ends_12 fs_X13_51 hM rfl rfl rfl ?_
  refine pm_mem (M' := pm_up M m0 (pm_mo z m0 (upd (upd f 5 (nI k)) 9 ((upd f 5 (nI k)) 7)))) rfl ?_
  refine pm_aload_n B dX13_ends_15 rfl ?_
  refine pm_aload_n B dX13_ends_16 rfl ?_
  refine pm_get B dX13_ends_17 fl_X13_54 pm_up_s rfl ?_
  refine pm_put B dX13_ends_20 fs_X13_57 pm_up_s rfl rfl rfl ?_
  refine pm_mem (M' := pm_up M m0 (pm_mo z m0 (upd (upd (upd f 5 (nI k)) 9 ((upd f 5 (nI k)) 7)) 10 ((upd f 5 (nI k)) 8)))) pm_up_up ?_
  refine pm_aload_n B dX13_ends_23 rfl ?_
  refine pm_iload_n B dX13_ends_24 rfl ?_
  refine pm_put B dX13_ends_25 fs_X13_60 pm_up_s rfl rfl rfl ?_
  refine pm_mem (M' := pm_up M m0 (pm_mo z m0 (upd (upd (upd (upd f 5 (nI k)) 9 ((upd f 5 (nI k)) 7)) 10 ((upd f 5 (nI k)) 8)) 11 y))) pm_up_up ?_
  refine pm_aload_n B dX13_ends_28 rfl ?_
  refine pm_get B dX13_ends_29 fl_X13_39 pm_up_s rfl ?_
  refine pm_if_le (tgt := 52) B dX13_ends_32 (by decide) (fun h4 => absurd h4 (h3)) (fun h4 => ?_)
  refine pm_aload_n B dX13_ends_35 rfl ?_
  refine pm_get B dX13_ends_36 fl_X13_13 pm_up_s rfl ?_
  refine pm_iconst (v := 0) B dX13_ends_39 (by decide) ?_
  refine pm_aload_n B dX13_ends_40 rfl ?_
  refine pm_get B dX13_ends_41 fl_X13_9 pm_up_s rfl ?_
  refine pm_iconst (v := 0) B dX13_ends_44 (by decide) ?_
  refine pm_bipush (v := 91) B dX13_ends_45 (by decide) ?_
  refine pm_acopy B dX13_ends_47 (pm_T_in 1721 (by decide +kernel) (by decide +kernel)) ((pm_up_n (by omega)).trans hgb) ((pm_up_n (by omega)).trans hg) 0 0 91 rfl rfl rfl (by first | decide | omega) (by first | decide | omega) (by first | decide | omega) (by first | decide | omega) rfl rfl ?_
  refine pm_mem (M' := pm_up (pm_up M m0 (pm_mo z m0 (upd (upd (upd (upd f 5 (nI k)) 9 ((upd f 5 (nI k)) 7)) 10 ((upd f 5 (nI k)) 8)) 11 y))) (m0 + 1) (.inl (kA 0, 91, .inl (va_cpy gb g 0 0 91)))) rfl ?_
  refine pm_iconst (v := 0) B dX13_ends_50 (by decide) ?_
  exact pm_ireturn B dX13_ends_51 rfl (by first | rfl | (apply pm_nz; first | assumption | decide | exact pm_in01 _ _ _ | simp)) ⟨rfl, rfl, rfl⟩ rfl rfl
set_option maxRecDepth 100000 in
set_option maxHeartbeats 4000000 in
theorem c_X13_ends_f1 {l : Launch} {z : Nat} {D : va_G} {kA : Nat → ClassId} {kE : Nat → Nat} {nx : Nat} {M : pm_M} {m0 : Nat} {f : Nat → Int32} (hM : M m0 = some (pm_mo z m0 (upd f 5 8))) {g : Nat → Int32} (hg : M (m0 + 1) = some (.inl (kA 0, 91, .inl g))) {gb : Nat → Int32} (hgb : M (m0 + 2) = some (.inl (kA 0, 91, .inl gb))) {gp : Nat → Int32} (hgp : M (m0 + 4) = some (.inl (kA 0, 728, .inl gp))) {x y : Int32} (h1 : ((upd f 5 8) 7) ≤ 0) (h3 : ((upd f 5 8) 6) ≤ 0) : pm_C l z D kA kE yX13_ends cX13_ends 3 (some .int) 2 0 0 [.ref (z + m0), .int x, .int y] nx M (pm_rt (some (.int x)) nx (pm_up (pm_up M (m0 + 4) (.inl (kA 0, 728, .inl (va_cpy gb (va_cpy gp gp 91 0 637) 0 637 91)))) m0 (pm_mo z m0 (upd (upd (upd f 5 8) 5 (8 - 1)) 5 ((8 - 1) + 1))))) := by
  refine pm_mk (own := RX13) (nm := "ends") mt_X13_ends rfl rfl rfl rfl fun X B => ?_
  refine pm_loc (L' := [some (.ref (z + m0)), some (.int x), some (.int y)]) rfl ?_
  refine pm_aload_n B dX13_ends_0 rfl ?_
  refine pm_get B dX13_ends_1 fl_X13_42 hM rfl ?_
  refine pm_if_le (tgt := 28) B dX13_ends_4 (by decide) (fun h2 => ?_) (fun h2 => absurd (h1) h2)
  refine pm_aload_n B dX13_ends_28 rfl ?_
  refine pm_get B dX13_ends_29 fl_X13_39 hM rfl ?_
  refine pm_if_le (tgt := 52) B dX13_ends_32 (by decide) (fun h4 => ?_) (fun h4 => absurd (h3) h4)
  refine pm_aload_n B dX13_ends_52 rfl ?_
  refine pm_get B dX13_ends_53 fl_X13_63 hM rfl ?_
  refine pm_bipush (v := 8) B dX13_ends_56 (by decide) ?_
  refine pm_icmp_ne (tgt := 88) B dX13_ends_58 (by decide) (fun h5 => absurd (by decide) h5) (fun h5 => ?_)
  refine pm_aload_n B dX13_ends_61 rfl ?_
  refine pm_get B dX13_ends_62 fl_X13_19 hM rfl ?_
  refine pm_bipush (v := 91) B dX13_ends_65 (by decide) ?_
  refine pm_aload_n B dX13_ends_67 rfl ?_
  refine pm_get B dX13_ends_68 fl_X13_19 hM rfl ?_
  refine pm_iconst (v := 0) B dX13_ends_71 (by decide) ?_
  refine pm_sipush (v := 637) B dX13_ends_72 (by decide) ?_
  refine pm_acopy B dX13_ends_75 (pm_T_in 1721 (by decide +kernel) (by decide +kernel)) hgp hgp 91 0 637 rfl rfl rfl (by first | decide | omega) (by first | decide | omega) (by first | decide | omega) (by first | decide | omega) rfl rfl ?_
  refine pm_mem (M' := pm_up M (m0 + 4) (.inl (kA 0, 728, .inl (va_cpy gp gp 91 0 637)))) rfl ?_
  refine pm_aload_n B dX13_ends_78 rfl ?_
  refine pm_dup B dX13_ends_79 rfl ?_
  refine pm_get B dX13_ends_80 fl_X13_63 ((pm_up_n (by omega)).trans hM) rfl ?_
  refine pm_iconst (v := 1) B dX13_ends_83 (by decide) ?_
  refine pm_isub B dX13_ends_84 ?_
  refine pm_put B dX13_ends_85 fs_X13_63 ((pm_up_n (by omega)).trans hM) rfl rfl rfl ?_
  refine pm_mem (M' := pm_up (pm_up M (m0 + 4) (.inl (kA 0, 728, .inl (va_cpy gp gp 91 0 637)))) m0 (pm_mo z m0 (upd (upd f 5 8) 5 (8 - 1)))) rfl ?_
  refine pm_aload_n B dX13_ends_88 rfl ?_
  refine pm_get B dX13_ends_89 fl_X13_13 pm_up_s rfl ?_
  refine pm_iconst (v := 0) B dX13_ends_92 (by decide) ?_
  refine pm_aload_n B dX13_ends_93 rfl ?_
  refine pm_get B dX13_ends_94 fl_X13_19 pm_up_s rfl ?_
  refine pm_bipush (v := 91) B dX13_ends_97 (by decide) ?_
  refine pm_aload_n B dX13_ends_99 rfl ?_
  refine pm_get B dX13_ends_100 fl_X13_63 pm_up_s rfl ?_
  refine pm_imul B dX13_ends_103 ?_
  refine pm_bipush (v := 91) B dX13_ends_104 (by decide) ?_
  refine pm_acopy B dX13_ends_106 (pm_T_in 1721 (by decide +kernel) (by decide +kernel)) ((pm_up_n (by omega)).trans ((pm_up_n (by omega)).trans hgb)) ((pm_up_n (by omega)).trans pm_up_s) 0 637 91 rfl (by decide) rfl (by first | decide | omega) (by first | decide | omega) (by first | decide | omega) (by first | decide | omega) rfl rfl ?_
  refine pm_mem (M' := pm_up (pm_up (pm_up M (m0 + 4) (.inl (kA 0, 728, .inl (va_cpy gp gp 91 0 637)))) m0 (pm_mo z m0 (upd (upd f 5 8) 5 (8 - 1)))) (m0 + 4) (.inl (kA 0, 728, .inl (va_cpy gb (va_cpy gp gp 91 0 637) 0 637 91)))) rfl ?_
  refine pm_mem (M' := pm_up (pm_up M (m0 + 4) (.inl (kA 0, 728, .inl (va_cpy gb (va_cpy gp gp 91 0 637) 0 637 91)))) m0 (pm_mo z m0 (upd (upd f 5 8) 5 (8 - 1)))) (by rw [pm_up_sw (a := m0) (b := m0 + 4) (by omega), pm_up_up]) ?_
  refine pm_aload_n B dX13_ends_109 rfl ?_
  refine pm_dup B dX13_ends_110 rfl ?_
  refine pm_get B dX13_ends_111 fl_X13_63 pm_up_s rfl ?_
  refine pm_iconst (v := 1) B dX13_ends_114 (by decide) ?_
  refine pm_iadd B dX13_ends_115 ?_
  refine pm_put B dX13_ends_116 fs_X13_63 pm_up_s rfl rfl rfl ?_
  refine pm_mem (M' := pm_up (pm_up M (m0 + 4) (.inl (kA 0, 728, .inl (va_cpy gb (va_cpy gp gp 91 0 637) 0 637 91)))) m0 (pm_mo z m0 (upd (upd (upd f 5 8) 5 (8 - 1)) 5 ((8 - 1) + 1)))) pm_up_up ?_
  refine pm_iload_n B dX13_ends_119 rfl ?_
  exact pm_ireturn B dX13_ends_120 rfl (by first | rfl | (apply pm_nz; first | assumption | decide | exact pm_in01 _ _ _ | simp)) ⟨rfl, rfl, rfl⟩ rfl rfl
set_option maxRecDepth 100000 in
set_option maxHeartbeats 4000000 in
theorem c_X13_ends_f2 {l : Launch} {z : Nat} {D : va_G} {kA : Nat → ClassId} {kE : Nat → Nat} {nx : Nat} {M : pm_M} {m0 : Nat} {f : Nat → Int32} (hM : M m0 = some (pm_mo z m0 (upd f 5 8))) {g : Nat → Int32} (hg : M (m0 + 1) = some (.inl (kA 0, 91, .inl g))) {gb : Nat → Int32} (hgb : M (m0 + 2) = some (.inl (kA 0, 91, .inl gb))) {gp : Nat → Int32} (hgp : M (m0 + 4) = some (.inl (kA 0, 728, .inl gp))) {x y : Int32} (h1 : ((upd f 5 8) 7) ≤ 0) (h3 : ¬ ((upd f 5 8) 6) ≤ 0) : pm_C l z D kA kE yX13_ends cX13_ends 3 (some .int) 2 0 0 [.ref (z + m0), .int x, .int y] nx M (pm_rt (some (.int 0)) nx (pm_up M (m0 + 1) (.inl (kA 0, 91, .inl (va_cpy gb g 0 0 91))))) := by
  refine pm_mk (own := RX13) (nm := "ends") mt_X13_ends rfl rfl rfl rfl fun X B => ?_
  refine pm_loc (L' := [some (.ref (z + m0)), some (.int x), some (.int y)]) rfl ?_
  refine pm_aload_n B dX13_ends_0 rfl ?_
  refine pm_get B dX13_ends_1 fl_X13_42 hM rfl ?_
  refine pm_if_le (tgt := 28) B dX13_ends_4 (by decide) (fun h2 => ?_) (fun h2 => absurd (h1) h2)
  refine pm_aload_n B dX13_ends_28 rfl ?_
  refine pm_get B dX13_ends_29 fl_X13_39 hM rfl ?_
  refine pm_if_le (tgt := 52) B dX13_ends_32 (by decide) (fun h4 => absurd h4 (h3)) (fun h4 => ?_)
  refine pm_aload_n B dX13_ends_35 rfl ?_
  refine pm_get B dX13_ends_36 fl_X13_13 hM rfl ?_
  refine pm_iconst (v := 0) B dX13_ends_39 (by decide) ?_
  refine pm_aload_n B dX13_ends_40 rfl ?_
  refine pm_get B dX13_ends_41 fl_X13_9 hM rfl ?_
  refine pm_iconst (v := 0) B dX13_ends_44 (by decide) ?_
  refine pm_bipush (v := 91) B dX13_ends_45 (by decide) ?_
  refine pm_acopy B dX13_ends_47 (pm_T_in 1721 (by decide +kernel) (by decide +kernel)) hgb hg 0 0 91 rfl rfl rfl (by first | decide | omega) (by first | decide | omega) (by first | decide | omega) (by first | decide | omega) rfl rfl ?_
  refine pm_mem (M' := pm_up M (m0 + 1) (.inl (kA 0, 91, .inl (va_cpy gb g 0 0 91)))) rfl ?_
  refine pm_iconst (v := 0) B dX13_ends_50 (by decide) ?_
  exact pm_ireturn B dX13_ends_51 rfl (by first | rfl | (apply pm_nz; first | assumption | decide | exact pm_in01 _ _ _ | simp)) ⟨rfl, rfl, rfl⟩ rfl rfl
set_option maxRecDepth 100000 in
set_option maxHeartbeats 4000000 in
theorem c_X13_ends_f3 {l : Launch} {z : Nat} {D : va_G} {kA : Nat → ClassId} {kE : Nat → Nat} {nx : Nat} {M : pm_M} {m0 : Nat} {f : Nat → Int32} (hM : M m0 = some (pm_mo z m0 (upd f 5 8))) {g : Nat → Int32} (hg : M (m0 + 1) = some (.inl (kA 0, 91, .inl g))) {gb : Nat → Int32} (hgb : M (m0 + 2) = some (.inl (kA 0, 91, .inl gb))) {gp : Nat → Int32} (hgp : M (m0 + 4) = some (.inl (kA 0, 728, .inl gp))) {x y : Int32} (h1 : ¬ ((upd f 5 8) 7) ≤ 0) (h3 : ((upd f 5 8) 6) ≤ 0) : pm_C l z D kA kE yX13_ends cX13_ends 3 (some .int) 2 0 0 [.ref (z + m0), .int x, .int y] nx M (pm_rt (some (.int x)) nx (pm_up (pm_up M m0 (pm_mo z m0 (upd (upd (upd (upd (upd (upd f 5 8) 9 ((upd f 5 8) 7)) 10 ((upd f 5 8) 8)) 11 y) 5 (8 - 1)) 5 ((8 - 1) + 1)))) (m0 + 4) (.inl (kA 0, 728, .inl (va_cpy gb (va_cpy gp gp 91 0 637) 0 637 91))))) := by
  refine pm_mk (own := RX13) (nm := "ends") mt_X13_ends rfl rfl rfl rfl fun X B => ?_
  refine pm_loc (L' := [some (.ref (z + m0)), some (.int x), some (.int y)]) rfl ?_
  refine pm_aload_n B dX13_ends_0 rfl ?_
  refine pm_get B dX13_ends_1 fl_X13_42 hM rfl ?_
  refine pm_if_le (tgt := 28) B dX13_ends_4 (by decide) (fun h2 => absurd h2 (h1)) (fun h2 => ?_)
  refine pm_aload_n B dX13_ends_7 rfl ?_
  refine pm_aload_n B dX13_ends_8 rfl ?_
  refine pm_get B dX13_ends_9 fl_X13_42 hM rfl ?_
  refine pm_put B dX13_ends_12 fs_X13_51 hM rfl rfl rfl ?_
  refine pm_mem (M' := pm_up M m0 (pm_mo z m0 (upd (upd f 5 8) 9 ((upd f 5 8) 7)))) rfl ?_
  refine pm_aload_n B dX13_ends_15 rfl ?_
  refine pm_aload_n B dX13_ends_16 rfl ?_
  refine pm_get B dX13_ends_17 fl_X13_54 pm_up_s rfl ?_
  refine pm_put B dX13_ends_20 fs_X13_57 pm_up_s rfl rfl rfl ?_
  refine pm_mem (M' := pm_up M m0 (pm_mo z m0 (upd (upd (upd f 5 8) 9 ((upd f 5 8) 7)) 10 ((upd f 5 8) 8)))) pm_up_up ?_
  refine pm_aload_n B dX13_ends_23 rfl ?_
  refine pm_iload_n B dX13_ends_24 rfl ?_
  refine pm_put B dX13_ends_25 fs_X13_60 pm_up_s rfl rfl rfl ?_
  refine pm_mem (M' := pm_up M m0 (pm_mo z m0 (upd (upd (upd (upd f 5 8) 9 ((upd f 5 8) 7)) 10 ((upd f 5 8) 8)) 11 y))) pm_up_up ?_
  refine pm_aload_n B dX13_ends_28 rfl ?_
  refine pm_get B dX13_ends_29 fl_X13_39 pm_up_s rfl ?_
  refine pm_if_le (tgt := 52) B dX13_ends_32 (by decide) (fun h4 => ?_) (fun h4 => absurd (h3) h4)
  refine pm_aload_n B dX13_ends_52 rfl ?_
  refine pm_get B dX13_ends_53 fl_X13_63 pm_up_s rfl ?_
  refine pm_bipush (v := 8) B dX13_ends_56 (by decide) ?_
  refine pm_icmp_ne (tgt := 88) B dX13_ends_58 (by decide) (fun h5 => absurd (by decide) h5) (fun h5 => ?_)
  refine pm_aload_n B dX13_ends_61 rfl ?_
  refine pm_get B dX13_ends_62 fl_X13_19 pm_up_s rfl ?_
  refine pm_bipush (v := 91) B dX13_ends_65 (by decide) ?_
  refine pm_aload_n B dX13_ends_67 rfl ?_
  refine pm_get B dX13_ends_68 fl_X13_19 pm_up_s rfl ?_
  refine pm_iconst (v := 0) B dX13_ends_71 (by decide) ?_
  refine pm_sipush (v := 637) B dX13_ends_72 (by decide) ?_
  refine pm_acopy B dX13_ends_75 (pm_T_in 1721 (by decide +kernel) (by decide +kernel)) ((pm_up_n (by omega)).trans hgp) ((pm_up_n (by omega)).trans hgp) 91 0 637 rfl rfl rfl (by first | decide | omega) (by first | decide | omega) (by first | decide | omega) (by first | decide | omega) rfl rfl ?_
  refine pm_mem (M' := pm_up (pm_up M m0 (pm_mo z m0 (upd (upd (upd (upd f 5 8) 9 ((upd f 5 8) 7)) 10 ((upd f 5 8) 8)) 11 y))) (m0 + 4) (.inl (kA 0, 728, .inl (va_cpy gp gp 91 0 637)))) rfl ?_
  refine pm_aload_n B dX13_ends_78 rfl ?_
  refine pm_dup B dX13_ends_79 rfl ?_
  refine pm_get B dX13_ends_80 fl_X13_63 ((pm_up_n (by omega)).trans pm_up_s) rfl ?_
  refine pm_iconst (v := 1) B dX13_ends_83 (by decide) ?_
  refine pm_isub B dX13_ends_84 ?_
  refine pm_put B dX13_ends_85 fs_X13_63 ((pm_up_n (by omega)).trans pm_up_s) rfl rfl rfl ?_
  refine pm_mem (M' := pm_up (pm_up (pm_up M m0 (pm_mo z m0 (upd (upd (upd (upd f 5 8) 9 ((upd f 5 8) 7)) 10 ((upd f 5 8) 8)) 11 y))) (m0 + 4) (.inl (kA 0, 728, .inl (va_cpy gp gp 91 0 637)))) m0 (pm_mo z m0 (upd (upd (upd (upd (upd f 5 8) 9 ((upd f 5 8) 7)) 10 ((upd f 5 8) 8)) 11 y) 5 (8 - 1)))) rfl ?_
  refine pm_mem (M' := pm_up (pm_up M m0 (pm_mo z m0 (upd (upd (upd (upd (upd f 5 8) 9 ((upd f 5 8) 7)) 10 ((upd f 5 8) 8)) 11 y) 5 (8 - 1)))) (m0 + 4) (.inl (kA 0, 728, .inl (va_cpy gp gp 91 0 637)))) (by rw [pm_up_sw (a := m0 + 4) (b := m0) (by omega), pm_up_up]) ?_
  refine pm_aload_n B dX13_ends_88 rfl ?_
  refine pm_get B dX13_ends_89 fl_X13_13 ((pm_up_n (by omega)).trans pm_up_s) rfl ?_
  refine pm_iconst (v := 0) B dX13_ends_92 (by decide) ?_
  refine pm_aload_n B dX13_ends_93 rfl ?_
  refine pm_get B dX13_ends_94 fl_X13_19 ((pm_up_n (by omega)).trans pm_up_s) rfl ?_
  refine pm_bipush (v := 91) B dX13_ends_97 (by decide) ?_
  refine pm_aload_n B dX13_ends_99 rfl ?_
  refine pm_get B dX13_ends_100 fl_X13_63 ((pm_up_n (by omega)).trans pm_up_s) rfl ?_
  refine pm_imul B dX13_ends_103 ?_
  refine pm_bipush (v := 91) B dX13_ends_104 (by decide) ?_
  refine pm_acopy B dX13_ends_106 (pm_T_in 1721 (by decide +kernel) (by decide +kernel)) ((pm_up_n (by omega)).trans ((pm_up_n (by omega)).trans hgb)) pm_up_s 0 637 91 rfl (by decide) rfl (by first | decide | omega) (by first | decide | omega) (by first | decide | omega) (by first | decide | omega) rfl rfl ?_
  refine pm_mem (M' := pm_up (pm_up M m0 (pm_mo z m0 (upd (upd (upd (upd (upd f 5 8) 9 ((upd f 5 8) 7)) 10 ((upd f 5 8) 8)) 11 y) 5 (8 - 1)))) (m0 + 4) (.inl (kA 0, 728, .inl (va_cpy gb (va_cpy gp gp 91 0 637) 0 637 91)))) pm_up_up ?_
  refine pm_aload_n B dX13_ends_109 rfl ?_
  refine pm_dup B dX13_ends_110 rfl ?_
  refine pm_get B dX13_ends_111 fl_X13_63 ((pm_up_n (by omega)).trans pm_up_s) rfl ?_
  refine pm_iconst (v := 1) B dX13_ends_114 (by decide) ?_
  refine pm_iadd B dX13_ends_115 ?_
  refine pm_put B dX13_ends_116 fs_X13_63 ((pm_up_n (by omega)).trans pm_up_s) rfl rfl rfl ?_
  refine pm_mem (M' := pm_up (pm_up (pm_up M m0 (pm_mo z m0 (upd (upd (upd (upd (upd f 5 8) 9 ((upd f 5 8) 7)) 10 ((upd f 5 8) 8)) 11 y) 5 (8 - 1)))) (m0 + 4) (.inl (kA 0, 728, .inl (va_cpy gb (va_cpy gp gp 91 0 637) 0 637 91)))) m0 (pm_mo z m0 (upd (upd (upd (upd (upd (upd f 5 8) 9 ((upd f 5 8) 7)) 10 ((upd f 5 8) 8)) 11 y) 5 (8 - 1)) 5 ((8 - 1) + 1)))) rfl ?_
  refine pm_mem (M' := pm_up (pm_up M m0 (pm_mo z m0 (upd (upd (upd (upd (upd (upd f 5 8) 9 ((upd f 5 8) 7)) 10 ((upd f 5 8) 8)) 11 y) 5 (8 - 1)) 5 ((8 - 1) + 1)))) (m0 + 4) (.inl (kA 0, 728, .inl (va_cpy gb (va_cpy gp gp 91 0 637) 0 637 91)))) (by rw [pm_up_sw (a := m0 + 4) (b := m0) (by omega), pm_up_up]) ?_
  refine pm_iload_n B dX13_ends_119 rfl ?_
  exact pm_ireturn B dX13_ends_120 rfl (by first | rfl | (apply pm_nz; first | assumption | decide | exact pm_in01 _ _ _ | simp)) ⟨rfl, rfl, rfl⟩ rfl rfl
set_option maxRecDepth 100000 in
set_option maxHeartbeats 4000000 in
theorem c_X13_ends_f4 {l : Launch} {z : Nat} {D : va_G} {kA : Nat → ClassId} {kE : Nat → Nat} {nx : Nat} {M : pm_M} {m0 : Nat} {f : Nat → Int32} (hM : M m0 = some (pm_mo z m0 (upd f 5 8))) {g : Nat → Int32} (hg : M (m0 + 1) = some (.inl (kA 0, 91, .inl g))) {gb : Nat → Int32} (hgb : M (m0 + 2) = some (.inl (kA 0, 91, .inl gb))) {gp : Nat → Int32} (hgp : M (m0 + 4) = some (.inl (kA 0, 728, .inl gp))) {x y : Int32} (h1 : ¬ ((upd f 5 8) 7) ≤ 0) (h3 : ¬ ((upd f 5 8) 6) ≤ 0) : pm_C l z D kA kE yX13_ends cX13_ends 3 (some .int) 2 0 0 [.ref (z + m0), .int x, .int y] nx M (pm_rt (some (.int 0)) nx (pm_up (pm_up M m0 (pm_mo z m0 (upd (upd (upd (upd f 5 8) 9 ((upd f 5 8) 7)) 10 ((upd f 5 8) 8)) 11 y))) (m0 + 1) (.inl (kA 0, 91, .inl (va_cpy gb g 0 0 91))))) := by
  refine pm_mk (own := RX13) (nm := "ends") mt_X13_ends rfl rfl rfl rfl fun X B => ?_
  refine pm_loc (L' := [some (.ref (z + m0)), some (.int x), some (.int y)]) rfl ?_
  refine pm_aload_n B dX13_ends_0 rfl ?_
  refine pm_get B dX13_ends_1 fl_X13_42 hM rfl ?_
  refine pm_if_le (tgt := 28) B dX13_ends_4 (by decide) (fun h2 => absurd h2 (h1)) (fun h2 => ?_)
  refine pm_aload_n B dX13_ends_7 rfl ?_
  refine pm_aload_n B dX13_ends_8 rfl ?_
  refine pm_get B dX13_ends_9 fl_X13_42 hM rfl ?_
  refine pm_put B dX13_ends_12 fs_X13_51 hM rfl rfl rfl ?_
  refine pm_mem (M' := pm_up M m0 (pm_mo z m0 (upd (upd f 5 8) 9 ((upd f 5 8) 7)))) rfl ?_
  refine pm_aload_n B dX13_ends_15 rfl ?_
  refine pm_aload_n B dX13_ends_16 rfl ?_
  refine pm_get B dX13_ends_17 fl_X13_54 pm_up_s rfl ?_
  refine pm_put B dX13_ends_20 fs_X13_57 pm_up_s rfl rfl rfl ?_
  refine pm_mem (M' := pm_up M m0 (pm_mo z m0 (upd (upd (upd f 5 8) 9 ((upd f 5 8) 7)) 10 ((upd f 5 8) 8)))) pm_up_up ?_
  refine pm_aload_n B dX13_ends_23 rfl ?_
  refine pm_iload_n B dX13_ends_24 rfl ?_
  refine pm_put B dX13_ends_25 fs_X13_60 pm_up_s rfl rfl rfl ?_
  refine pm_mem (M' := pm_up M m0 (pm_mo z m0 (upd (upd (upd (upd f 5 8) 9 ((upd f 5 8) 7)) 10 ((upd f 5 8) 8)) 11 y))) pm_up_up ?_
  refine pm_aload_n B dX13_ends_28 rfl ?_
  refine pm_get B dX13_ends_29 fl_X13_39 pm_up_s rfl ?_
  refine pm_if_le (tgt := 52) B dX13_ends_32 (by decide) (fun h4 => absurd h4 (h3)) (fun h4 => ?_)
  refine pm_aload_n B dX13_ends_35 rfl ?_
  refine pm_get B dX13_ends_36 fl_X13_13 pm_up_s rfl ?_
  refine pm_iconst (v := 0) B dX13_ends_39 (by decide) ?_
  refine pm_aload_n B dX13_ends_40 rfl ?_
  refine pm_get B dX13_ends_41 fl_X13_9 pm_up_s rfl ?_
  refine pm_iconst (v := 0) B dX13_ends_44 (by decide) ?_
  refine pm_bipush (v := 91) B dX13_ends_45 (by decide) ?_
  refine pm_acopy B dX13_ends_47 (pm_T_in 1721 (by decide +kernel) (by decide +kernel)) ((pm_up_n (by omega)).trans hgb) ((pm_up_n (by omega)).trans hg) 0 0 91 rfl rfl rfl (by first | decide | omega) (by first | decide | omega) (by first | decide | omega) (by first | decide | omega) rfl rfl ?_
  refine pm_mem (M' := pm_up (pm_up M m0 (pm_mo z m0 (upd (upd (upd (upd f 5 8) 9 ((upd f 5 8) 7)) 10 ((upd f 5 8) 8)) 11 y))) (m0 + 1) (.inl (kA 0, 91, .inl (va_cpy gb g 0 0 91)))) rfl ?_
  refine pm_iconst (v := 0) B dX13_ends_50 (by decide) ?_
  exact pm_ireturn B dX13_ends_51 rfl (by first | rfl | (apply pm_nz; first | assumption | decide | exact pm_in01 _ _ _ | simp)) ⟨rfl, rfl, rfl⟩ rfl rfl
set_option maxRecDepth 100000 in
set_option maxHeartbeats 4000000 in
theorem c_X13_addMember_as1 {l : Launch} {z : Nat} {D : va_G} {kA : Nat → ClassId} {kE : Nat → Nat} {nx : Nat} {M : pm_M} {k : Nat} (hk : k < 8) {m0 : Nat} {f : Nat → Int32} (hM : M m0 = some (pm_mo z m0 (upd f 5 (nI k)))) {g : Nat → Int32} (hg : M (m0 + 1) = some (.inl (kA 0, 91, .inl g))) {gb : Nat → Int32} (hgb : M (m0 + 2) = some (.inl (kA 0, 91, .inl gb))) {gp : Nat → Int32} (hgp : M (m0 + 4) = some (.inl (kA 0, 728, .inl gp))) {c v : Int32} {n : Nat} (hn : g 0 = nI n) (h7 : n < 7) (h1 : (pm_in c 1 99) = 0) : pm_C l z D kA kE yX13_addMember cX13_addMember 3 (some .int) 3 0 0 [.ref (z + m0), .int c, .int v] nx M (pm_rt (some (.int 0)) nx (pm_up (pm_up (pm_up M m0 (pm_mo z m0 (upd (upd (upd (upd f 5 (nI k)) 6 0) 7 0) 6 1))) (m0 + 2) (.inl (kA 0, 91, .inl (va_cpy g gb 0 0 91)))) (m0 + 1) (.inl (kA 0, 91, .inl (va_cpy (va_cpy g gb 0 0 91) g 0 0 91))))) := by
  refine pm_mk (own := RX13) (nm := "addMember") mt_X13_addMember rfl rfl rfl rfl fun X B => ?_
  refine pm_loc (L' := [some (.ref (z + m0)), some (.int c), some (.int v)]) rfl ?_
  refine pm_aload_n B dX13_addMember_0 rfl ?_
  refine pm_cV (As := []) (mc2 := 0) (ms2 := 0) B rfl hM rfl (c_X13_keep (f := (upd f 5 (nI k))) (g := g) (gb := gb) hM hg hgb  ) mt_X13_keep sv_X13_91 dX13_addMember_1 rfl rfl rfl rfl rfl ?_
  refine pm_mem (M' := pm_up M m0 (pm_mo z m0 (upd (upd (upd f 5 (nI k)) 6 0) 7 0))) rfl ?_
  refine pm_mem (M' := pm_up (pm_up M m0 (pm_mo z m0 (upd (upd (upd f 5 (nI k)) 6 0) 7 0))) (m0 + 2) (.inl (kA 0, 91, .inl (va_cpy g gb 0 0 91)))) rfl ?_
  refine pm_stk (st' := []) rfl ?_
  refine pm_aload_n B dX13_addMember_4 rfl ?_
  refine pm_aload_n B dX13_addMember_5 rfl ?_
  refine pm_iload_n B dX13_addMember_6 rfl ?_
  refine pm_iload_n B dX13_addMember_7 rfl ?_
  refine pm_cV (As := [.int c, .int v]) (mc2 := 0) (ms2 := 0) B rfl ((pm_up_n (by omega)).trans pm_up_s) rfl (c_X13_doAddMember_a1 (c := c) (v := v) (f := (upd (upd (upd f 5 (nI k)) 6 0) 7 0)) (g := g) ((pm_up_n (by omega)).trans pm_up_s) ((pm_up_n (by omega)).trans ((pm_up_n (by omega)).trans hg)) hn h7 h1) mt_X13_doAddMember sv_X13_94 dX13_addMember_8 rfl rfl rfl rfl rfl ?_
  refine pm_mem (M' := pm_up (pm_up (pm_up M m0 (pm_mo z m0 (upd (upd (upd f 5 (nI k)) 6 0) 7 0))) (m0 + 2) (.inl (kA 0, 91, .inl (va_cpy g gb 0 0 91)))) m0 (pm_mo z m0 (upd (upd (upd (upd f 5 (nI k)) 6 0) 7 0) 6 1))) rfl ?_
  refine pm_mem (M' := pm_up (pm_up M m0 (pm_mo z m0 (upd (upd (upd (upd f 5 (nI k)) 6 0) 7 0) 6 1))) (m0 + 2) (.inl (kA 0, 91, .inl (va_cpy g gb 0 0 91)))) (by rw [pm_up_sw (a := m0 + 2) (b := m0) (by omega), pm_up_up]) ?_
  refine pm_stk (st' := [.int 0, .ref (z + m0)]) rfl ?_
  refine pm_iconst (v := 0) B dX13_addMember_11 (by decide) ?_
  refine pm_cV (As := [.int 0, .int 0]) (mc2 := 0) (ms2 := 0) B rfl ((pm_up_n (by omega)).trans pm_up_s) rfl (c_X13_ends_s2 (x := 0) (y := 0) (k := k) (f := (upd (upd (upd (upd f 5 (nI k)) 6 0) 7 0) 6 1)) (g := g) (gb := (va_cpy g gb 0 0 91)) (gp := gp) ((pm_up_n (by omega)).trans pm_up_s) ((pm_up_n (by omega)).trans ((pm_up_n (by omega)).trans hg)) pm_up_s ((pm_up_n (by omega)).trans ((pm_up_n (by omega)).trans hgp)) (by first | assumption | omega) (by decide) (by decide)) mt_X13_ends sv_X13_97 dX13_addMember_12 rfl rfl rfl rfl rfl ?_
  refine pm_mem (M' := pm_up (pm_up (pm_up M m0 (pm_mo z m0 (upd (upd (upd (upd f 5 (nI k)) 6 0) 7 0) 6 1))) (m0 + 2) (.inl (kA 0, 91, .inl (va_cpy g gb 0 0 91)))) (m0 + 1) (.inl (kA 0, 91, .inl (va_cpy (va_cpy g gb 0 0 91) g 0 0 91)))) rfl ?_
  refine pm_stk (st' := [.int 0]) rfl ?_
  exact pm_ireturn B dX13_addMember_15 rfl (by first | rfl | (apply pm_nz; first | assumption | decide | exact pm_in01 _ _ _ | simp)) ⟨rfl, rfl, rfl⟩ rfl rfl
set_option maxRecDepth 100000 in
set_option maxHeartbeats 4000000 in
theorem c_X13_addMember_as2 {l : Launch} {z : Nat} {D : va_G} {kA : Nat → ClassId} {kE : Nat → Nat} {nx : Nat} {M : pm_M} {k : Nat} (hk : k < 8) {m0 : Nat} {f : Nat → Int32} (hM : M m0 = some (pm_mo z m0 (upd f 5 (nI k)))) {g : Nat → Int32} (hg : M (m0 + 1) = some (.inl (kA 0, 91, .inl g))) {gb : Nat → Int32} (hgb : M (m0 + 2) = some (.inl (kA 0, 91, .inl gb))) {gp : Nat → Int32} (hgp : M (m0 + 4) = some (.inl (kA 0, 728, .inl gp))) {c v : Int32} {n : Nat} (hn : g 0 = nI n) (h7 : n < 7) (h1 : ¬ (pm_in c 1 99) = 0) (h2 : ¬ (pm_in v 1 20) = 0) : pm_C l z D kA kE yX13_addMember cX13_addMember 3 (some .int) 3 0 0 [.ref (z + m0), .int c, .int v] nx M (pm_rt (some (.int (nI n))) nx (pm_up (pm_up (pm_up (pm_up M m0 (pm_mo z m0 (upd (upd (upd (upd (upd f 5 (nI k)) 6 0) 7 0) 5 (nI k)) 5 ((nI k) + 1)))) (m0 + 2) (.inl (kA 0, 91, .inl (va_cpy g gb 0 0 91)))) (m0 + 1) (.inl (kA 0, 91, .inl (upd (upd (upd (upd (upd (upd g (7 + 5 * n + 0) c) (7 + 5 * n + 1) v) (7 + 5 * n + 2) 0) (7 + 5 * n + 3) 0) (7 + 5 * n + 4) 0) 0 ((nI n) + 1))))) (m0 + 4) (.inl (kA 0, 728, .inl (va_cpy (va_cpy g gb 0 0 91) gp 0 (91 * k) 91))))) := by
  refine pm_mk (own := RX13) (nm := "addMember") mt_X13_addMember rfl rfl rfl rfl fun X B => ?_
  refine pm_loc (L' := [some (.ref (z + m0)), some (.int c), some (.int v)]) rfl ?_
  refine pm_aload_n B dX13_addMember_0 rfl ?_
  refine pm_cV (As := []) (mc2 := 0) (ms2 := 0) B rfl hM rfl (c_X13_keep (f := (upd f 5 (nI k))) (g := g) (gb := gb) hM hg hgb  ) mt_X13_keep sv_X13_91 dX13_addMember_1 rfl rfl rfl rfl rfl ?_
  refine pm_mem (M' := pm_up M m0 (pm_mo z m0 (upd (upd (upd f 5 (nI k)) 6 0) 7 0))) rfl ?_
  refine pm_mem (M' := pm_up (pm_up M m0 (pm_mo z m0 (upd (upd (upd f 5 (nI k)) 6 0) 7 0))) (m0 + 2) (.inl (kA 0, 91, .inl (va_cpy g gb 0 0 91)))) rfl ?_
  refine pm_stk (st' := []) rfl ?_
  refine pm_aload_n B dX13_addMember_4 rfl ?_
  refine pm_aload_n B dX13_addMember_5 rfl ?_
  refine pm_iload_n B dX13_addMember_6 rfl ?_
  refine pm_iload_n B dX13_addMember_7 rfl ?_
  refine pm_cV (As := [.int c, .int v]) (mc2 := 0) (ms2 := 0) B rfl ((pm_up_n (by omega)).trans pm_up_s) rfl (c_X13_doAddMember_a2 (c := c) (v := v) (f := (upd (upd (upd f 5 (nI k)) 6 0) 7 0)) (g := g) ((pm_up_n (by omega)).trans pm_up_s) ((pm_up_n (by omega)).trans ((pm_up_n (by omega)).trans hg)) hn h7 h1 h2) mt_X13_doAddMember sv_X13_94 dX13_addMember_8 rfl rfl rfl rfl rfl ?_
  refine pm_mem (M' := pm_up (pm_up (pm_up M m0 (pm_mo z m0 (upd (upd (upd f 5 (nI k)) 6 0) 7 0))) (m0 + 2) (.inl (kA 0, 91, .inl (va_cpy g gb 0 0 91)))) (m0 + 1) (.inl (kA 0, 91, .inl (upd (upd (upd (upd (upd (upd g (7 + 5 * n + 0) c) (7 + 5 * n + 1) v) (7 + 5 * n + 2) 0) (7 + 5 * n + 3) 0) (7 + 5 * n + 4) 0) 0 ((nI n) + 1))))) rfl ?_
  refine pm_stk (st' := [.int (nI n), .ref (z + m0)]) rfl ?_
  refine pm_iconst (v := 0) B dX13_addMember_11 (by decide) ?_
  refine pm_cV (As := [.int (nI n), .int 0]) (mc2 := 0) (ms2 := 0) B rfl ((pm_up_n (by omega)).trans ((pm_up_n (by omega)).trans pm_up_s)) rfl (c_X13_ends_s1 (x := (nI n)) (y := 0) (k := k) (f := (upd (upd (upd f 5 (nI k)) 6 0) 7 0)) (g := (upd (upd (upd (upd (upd (upd g (7 + 5 * n + 0) c) (7 + 5 * n + 1) v) (7 + 5 * n + 2) 0) (7 + 5 * n + 3) 0) (7 + 5 * n + 4) 0) 0 ((nI n) + 1))) (gb := (va_cpy g gb 0 0 91)) (gp := gp) ((pm_up_n (by omega)).trans ((pm_up_n (by omega)).trans pm_up_s)) pm_up_s ((pm_up_n (by omega)).trans pm_up_s) ((pm_up_n (by omega)).trans ((pm_up_n (by omega)).trans ((pm_up_n (by omega)).trans hgp))) (by first | assumption | omega) (by decide) (by decide)) mt_X13_ends sv_X13_97 dX13_addMember_12 rfl rfl rfl rfl rfl ?_
  refine pm_mem (M' := pm_up (pm_up (pm_up (pm_up M m0 (pm_mo z m0 (upd (upd (upd f 5 (nI k)) 6 0) 7 0))) (m0 + 2) (.inl (kA 0, 91, .inl (va_cpy g gb 0 0 91)))) (m0 + 1) (.inl (kA 0, 91, .inl (upd (upd (upd (upd (upd (upd g (7 + 5 * n + 0) c) (7 + 5 * n + 1) v) (7 + 5 * n + 2) 0) (7 + 5 * n + 3) 0) (7 + 5 * n + 4) 0) 0 ((nI n) + 1))))) (m0 + 4) (.inl (kA 0, 728, .inl (va_cpy (va_cpy g gb 0 0 91) gp 0 (91 * k) 91)))) rfl ?_
  refine pm_mem (M' := pm_up (pm_up (pm_up (pm_up (pm_up M m0 (pm_mo z m0 (upd (upd (upd f 5 (nI k)) 6 0) 7 0))) (m0 + 2) (.inl (kA 0, 91, .inl (va_cpy g gb 0 0 91)))) (m0 + 1) (.inl (kA 0, 91, .inl (upd (upd (upd (upd (upd (upd g (7 + 5 * n + 0) c) (7 + 5 * n + 1) v) (7 + 5 * n + 2) 0) (7 + 5 * n + 3) 0) (7 + 5 * n + 4) 0) 0 ((nI n) + 1))))) (m0 + 4) (.inl (kA 0, 728, .inl (va_cpy (va_cpy g gb 0 0 91) gp 0 (91 * k) 91)))) m0 (pm_mo z m0 (upd (upd (upd (upd (upd f 5 (nI k)) 6 0) 7 0) 5 (nI k)) 5 ((nI k) + 1)))) rfl ?_
  refine pm_mem (M' := pm_up (pm_up (pm_up (pm_up M m0 (pm_mo z m0 (upd (upd (upd (upd (upd f 5 (nI k)) 6 0) 7 0) 5 (nI k)) 5 ((nI k) + 1)))) (m0 + 2) (.inl (kA 0, 91, .inl (va_cpy g gb 0 0 91)))) (m0 + 1) (.inl (kA 0, 91, .inl (upd (upd (upd (upd (upd (upd g (7 + 5 * n + 0) c) (7 + 5 * n + 1) v) (7 + 5 * n + 2) 0) (7 + 5 * n + 3) 0) (7 + 5 * n + 4) 0) 0 ((nI n) + 1))))) (m0 + 4) (.inl (kA 0, 728, .inl (va_cpy (va_cpy g gb 0 0 91) gp 0 (91 * k) 91)))) (by rw [pm_up_sw (a := m0 + 4) (b := m0) (by omega), pm_up_sw (a := m0 + 1) (b := m0) (by omega), pm_up_sw (a := m0 + 2) (b := m0) (by omega), pm_up_up]) ?_
  refine pm_stk (st' := [.int (nI n)]) rfl ?_
  exact pm_ireturn B dX13_addMember_15 rfl (by first | rfl | (apply pm_nz; first | assumption | decide | exact pm_in01 _ _ _ | simp)) ⟨rfl, rfl, rfl⟩ rfl rfl
set_option maxRecDepth 100000 in
set_option maxHeartbeats 4000000 in
theorem c_X13_addMember_as3 {l : Launch} {z : Nat} {D : va_G} {kA : Nat → ClassId} {kE : Nat → Nat} {nx : Nat} {M : pm_M} {k : Nat} (hk : k < 8) {m0 : Nat} {f : Nat → Int32} (hM : M m0 = some (pm_mo z m0 (upd f 5 (nI k)))) {g : Nat → Int32} (hg : M (m0 + 1) = some (.inl (kA 0, 91, .inl g))) {gb : Nat → Int32} (hgb : M (m0 + 2) = some (.inl (kA 0, 91, .inl gb))) {gp : Nat → Int32} (hgp : M (m0 + 4) = some (.inl (kA 0, 728, .inl gp))) {c v : Int32} {n : Nat} (hn : g 0 = nI n) (h7 : n < 7) (h1 : ¬ (pm_in c 1 99) = 0) (h2 : (pm_in v 1 20) = 0) : pm_C l z D kA kE yX13_addMember cX13_addMember 3 (some .int) 3 0 0 [.ref (z + m0), .int c, .int v] nx M (pm_rt (some (.int 0)) nx (pm_up (pm_up (pm_up M m0 (pm_mo z m0 (upd (upd (upd (upd f 5 (nI k)) 6 0) 7 0) 6 1))) (m0 + 2) (.inl (kA 0, 91, .inl (va_cpy g gb 0 0 91)))) (m0 + 1) (.inl (kA 0, 91, .inl (va_cpy (va_cpy g gb 0 0 91) g 0 0 91))))) := by
  refine pm_mk (own := RX13) (nm := "addMember") mt_X13_addMember rfl rfl rfl rfl fun X B => ?_
  refine pm_loc (L' := [some (.ref (z + m0)), some (.int c), some (.int v)]) rfl ?_
  refine pm_aload_n B dX13_addMember_0 rfl ?_
  refine pm_cV (As := []) (mc2 := 0) (ms2 := 0) B rfl hM rfl (c_X13_keep (f := (upd f 5 (nI k))) (g := g) (gb := gb) hM hg hgb  ) mt_X13_keep sv_X13_91 dX13_addMember_1 rfl rfl rfl rfl rfl ?_
  refine pm_mem (M' := pm_up M m0 (pm_mo z m0 (upd (upd (upd f 5 (nI k)) 6 0) 7 0))) rfl ?_
  refine pm_mem (M' := pm_up (pm_up M m0 (pm_mo z m0 (upd (upd (upd f 5 (nI k)) 6 0) 7 0))) (m0 + 2) (.inl (kA 0, 91, .inl (va_cpy g gb 0 0 91)))) rfl ?_
  refine pm_stk (st' := []) rfl ?_
  refine pm_aload_n B dX13_addMember_4 rfl ?_
  refine pm_aload_n B dX13_addMember_5 rfl ?_
  refine pm_iload_n B dX13_addMember_6 rfl ?_
  refine pm_iload_n B dX13_addMember_7 rfl ?_
  refine pm_cV (As := [.int c, .int v]) (mc2 := 0) (ms2 := 0) B rfl ((pm_up_n (by omega)).trans pm_up_s) rfl (c_X13_doAddMember_a3 (c := c) (v := v) (f := (upd (upd (upd f 5 (nI k)) 6 0) 7 0)) (g := g) ((pm_up_n (by omega)).trans pm_up_s) ((pm_up_n (by omega)).trans ((pm_up_n (by omega)).trans hg)) hn h7 h1 h2) mt_X13_doAddMember sv_X13_94 dX13_addMember_8 rfl rfl rfl rfl rfl ?_
  refine pm_mem (M' := pm_up (pm_up (pm_up M m0 (pm_mo z m0 (upd (upd (upd f 5 (nI k)) 6 0) 7 0))) (m0 + 2) (.inl (kA 0, 91, .inl (va_cpy g gb 0 0 91)))) m0 (pm_mo z m0 (upd (upd (upd (upd f 5 (nI k)) 6 0) 7 0) 6 1))) rfl ?_
  refine pm_mem (M' := pm_up (pm_up M m0 (pm_mo z m0 (upd (upd (upd (upd f 5 (nI k)) 6 0) 7 0) 6 1))) (m0 + 2) (.inl (kA 0, 91, .inl (va_cpy g gb 0 0 91)))) (by rw [pm_up_sw (a := m0 + 2) (b := m0) (by omega), pm_up_up]) ?_
  refine pm_stk (st' := [.int 0, .ref (z + m0)]) rfl ?_
  refine pm_iconst (v := 0) B dX13_addMember_11 (by decide) ?_
  refine pm_cV (As := [.int 0, .int 0]) (mc2 := 0) (ms2 := 0) B rfl ((pm_up_n (by omega)).trans pm_up_s) rfl (c_X13_ends_s2 (x := 0) (y := 0) (k := k) (f := (upd (upd (upd (upd f 5 (nI k)) 6 0) 7 0) 6 1)) (g := g) (gb := (va_cpy g gb 0 0 91)) (gp := gp) ((pm_up_n (by omega)).trans pm_up_s) ((pm_up_n (by omega)).trans ((pm_up_n (by omega)).trans hg)) pm_up_s ((pm_up_n (by omega)).trans ((pm_up_n (by omega)).trans hgp)) (by first | assumption | omega) (by decide) (by decide)) mt_X13_ends sv_X13_97 dX13_addMember_12 rfl rfl rfl rfl rfl ?_
  refine pm_mem (M' := pm_up (pm_up (pm_up M m0 (pm_mo z m0 (upd (upd (upd (upd f 5 (nI k)) 6 0) 7 0) 6 1))) (m0 + 2) (.inl (kA 0, 91, .inl (va_cpy g gb 0 0 91)))) (m0 + 1) (.inl (kA 0, 91, .inl (va_cpy (va_cpy g gb 0 0 91) g 0 0 91)))) rfl ?_
  refine pm_stk (st' := [.int 0]) rfl ?_
  exact pm_ireturn B dX13_addMember_15 rfl (by first | rfl | (apply pm_nz; first | assumption | decide | exact pm_in01 _ _ _ | simp)) ⟨rfl, rfl, rfl⟩ rfl rfl
set_option maxRecDepth 100000 in
set_option maxHeartbeats 4000000 in
theorem c_X13_addMember_af1 {l : Launch} {z : Nat} {D : va_G} {kA : Nat → ClassId} {kE : Nat → Nat} {nx : Nat} {M : pm_M} {m0 : Nat} {f : Nat → Int32} (hM : M m0 = some (pm_mo z m0 (upd f 5 8))) {g : Nat → Int32} (hg : M (m0 + 1) = some (.inl (kA 0, 91, .inl g))) {gb : Nat → Int32} (hgb : M (m0 + 2) = some (.inl (kA 0, 91, .inl gb))) {gp : Nat → Int32} (hgp : M (m0 + 4) = some (.inl (kA 0, 728, .inl gp))) {c v : Int32} {n : Nat} (hn : g 0 = nI n) (h7 : n < 7) (h1 : (pm_in c 1 99) = 0) : pm_C l z D kA kE yX13_addMember cX13_addMember 3 (some .int) 3 0 0 [.ref (z + m0), .int c, .int v] nx M (pm_rt (some (.int 0)) nx (pm_up (pm_up (pm_up M m0 (pm_mo z m0 (upd (upd (upd (upd f 5 8) 6 0) 7 0) 6 1))) (m0 + 2) (.inl (kA 0, 91, .inl (va_cpy g gb 0 0 91)))) (m0 + 1) (.inl (kA 0, 91, .inl (va_cpy (va_cpy g gb 0 0 91) g 0 0 91))))) := by
  refine pm_mk (own := RX13) (nm := "addMember") mt_X13_addMember rfl rfl rfl rfl fun X B => ?_
  refine pm_loc (L' := [some (.ref (z + m0)), some (.int c), some (.int v)]) rfl ?_
  refine pm_aload_n B dX13_addMember_0 rfl ?_
  refine pm_cV (As := []) (mc2 := 0) (ms2 := 0) B rfl hM rfl (c_X13_keep (f := (upd f 5 8)) (g := g) (gb := gb) hM hg hgb  ) mt_X13_keep sv_X13_91 dX13_addMember_1 rfl rfl rfl rfl rfl ?_
  refine pm_mem (M' := pm_up M m0 (pm_mo z m0 (upd (upd (upd f 5 8) 6 0) 7 0))) rfl ?_
  refine pm_mem (M' := pm_up (pm_up M m0 (pm_mo z m0 (upd (upd (upd f 5 8) 6 0) 7 0))) (m0 + 2) (.inl (kA 0, 91, .inl (va_cpy g gb 0 0 91)))) rfl ?_
  refine pm_stk (st' := []) rfl ?_
  refine pm_aload_n B dX13_addMember_4 rfl ?_
  refine pm_aload_n B dX13_addMember_5 rfl ?_
  refine pm_iload_n B dX13_addMember_6 rfl ?_
  refine pm_iload_n B dX13_addMember_7 rfl ?_
  refine pm_cV (As := [.int c, .int v]) (mc2 := 0) (ms2 := 0) B rfl ((pm_up_n (by omega)).trans pm_up_s) rfl (c_X13_doAddMember_a1 (c := c) (v := v) (f := (upd (upd (upd f 5 8) 6 0) 7 0)) (g := g) ((pm_up_n (by omega)).trans pm_up_s) ((pm_up_n (by omega)).trans ((pm_up_n (by omega)).trans hg)) hn h7 h1) mt_X13_doAddMember sv_X13_94 dX13_addMember_8 rfl rfl rfl rfl rfl ?_
  refine pm_mem (M' := pm_up (pm_up (pm_up M m0 (pm_mo z m0 (upd (upd (upd f 5 8) 6 0) 7 0))) (m0 + 2) (.inl (kA 0, 91, .inl (va_cpy g gb 0 0 91)))) m0 (pm_mo z m0 (upd (upd (upd (upd f 5 8) 6 0) 7 0) 6 1))) rfl ?_
  refine pm_mem (M' := pm_up (pm_up M m0 (pm_mo z m0 (upd (upd (upd (upd f 5 8) 6 0) 7 0) 6 1))) (m0 + 2) (.inl (kA 0, 91, .inl (va_cpy g gb 0 0 91)))) (by rw [pm_up_sw (a := m0 + 2) (b := m0) (by omega), pm_up_up]) ?_
  refine pm_stk (st' := [.int 0, .ref (z + m0)]) rfl ?_
  refine pm_iconst (v := 0) B dX13_addMember_11 (by decide) ?_
  refine pm_cV (As := [.int 0, .int 0]) (mc2 := 0) (ms2 := 0) B rfl ((pm_up_n (by omega)).trans pm_up_s) rfl (c_X13_ends_f2 (x := 0) (y := 0) (f := (upd (upd (upd (upd f 5 8) 6 0) 7 0) 6 1)) (g := g) (gb := (va_cpy g gb 0 0 91)) (gp := gp) ((pm_up_n (by omega)).trans pm_up_s) ((pm_up_n (by omega)).trans ((pm_up_n (by omega)).trans hg)) pm_up_s ((pm_up_n (by omega)).trans ((pm_up_n (by omega)).trans hgp))  (by decide) (by decide)) mt_X13_ends sv_X13_97 dX13_addMember_12 rfl rfl rfl rfl rfl ?_
  refine pm_mem (M' := pm_up (pm_up (pm_up M m0 (pm_mo z m0 (upd (upd (upd (upd f 5 8) 6 0) 7 0) 6 1))) (m0 + 2) (.inl (kA 0, 91, .inl (va_cpy g gb 0 0 91)))) (m0 + 1) (.inl (kA 0, 91, .inl (va_cpy (va_cpy g gb 0 0 91) g 0 0 91)))) rfl ?_
  refine pm_stk (st' := [.int 0]) rfl ?_
  exact pm_ireturn B dX13_addMember_15 rfl (by first | rfl | (apply pm_nz; first | assumption | decide | exact pm_in01 _ _ _ | simp)) ⟨rfl, rfl, rfl⟩ rfl rfl
set_option maxRecDepth 100000 in
set_option maxHeartbeats 4000000 in
theorem c_X13_addMember_af2 {l : Launch} {z : Nat} {D : va_G} {kA : Nat → ClassId} {kE : Nat → Nat} {nx : Nat} {M : pm_M} {m0 : Nat} {f : Nat → Int32} (hM : M m0 = some (pm_mo z m0 (upd f 5 8))) {g : Nat → Int32} (hg : M (m0 + 1) = some (.inl (kA 0, 91, .inl g))) {gb : Nat → Int32} (hgb : M (m0 + 2) = some (.inl (kA 0, 91, .inl gb))) {gp : Nat → Int32} (hgp : M (m0 + 4) = some (.inl (kA 0, 728, .inl gp))) {c v : Int32} {n : Nat} (hn : g 0 = nI n) (h7 : n < 7) (h1 : ¬ (pm_in c 1 99) = 0) (h2 : ¬ (pm_in v 1 20) = 0) : pm_C l z D kA kE yX13_addMember cX13_addMember 3 (some .int) 3 0 0 [.ref (z + m0), .int c, .int v] nx M (pm_rt (some (.int (nI n))) nx (pm_up (pm_up (pm_up (pm_up M m0 (pm_mo z m0 (upd (upd (upd (upd (upd (upd f 5 8) 6 0) 7 0) 5 8) 5 (8 - 1)) 5 ((8 - 1) + 1)))) (m0 + 2) (.inl (kA 0, 91, .inl (va_cpy g gb 0 0 91)))) (m0 + 1) (.inl (kA 0, 91, .inl (upd (upd (upd (upd (upd (upd g (7 + 5 * n + 0) c) (7 + 5 * n + 1) v) (7 + 5 * n + 2) 0) (7 + 5 * n + 3) 0) (7 + 5 * n + 4) 0) 0 ((nI n) + 1))))) (m0 + 4) (.inl (kA 0, 728, .inl (va_cpy (va_cpy g gb 0 0 91) (va_cpy gp gp 91 0 637) 0 637 91))))) := by
  refine pm_mk (own := RX13) (nm := "addMember") mt_X13_addMember rfl rfl rfl rfl fun X B => ?_
  refine pm_loc (L' := [some (.ref (z + m0)), some (.int c), some (.int v)]) rfl ?_
  refine pm_aload_n B dX13_addMember_0 rfl ?_
  refine pm_cV (As := []) (mc2 := 0) (ms2 := 0) B rfl hM rfl (c_X13_keep (f := (upd f 5 8)) (g := g) (gb := gb) hM hg hgb  ) mt_X13_keep sv_X13_91 dX13_addMember_1 rfl rfl rfl rfl rfl ?_
  refine pm_mem (M' := pm_up M m0 (pm_mo z m0 (upd (upd (upd f 5 8) 6 0) 7 0))) rfl ?_
  refine pm_mem (M' := pm_up (pm_up M m0 (pm_mo z m0 (upd (upd (upd f 5 8) 6 0) 7 0))) (m0 + 2) (.inl (kA 0, 91, .inl (va_cpy g gb 0 0 91)))) rfl ?_
  refine pm_stk (st' := []) rfl ?_
  refine pm_aload_n B dX13_addMember_4 rfl ?_
  refine pm_aload_n B dX13_addMember_5 rfl ?_
  refine pm_iload_n B dX13_addMember_6 rfl ?_
  refine pm_iload_n B dX13_addMember_7 rfl ?_
  refine pm_cV (As := [.int c, .int v]) (mc2 := 0) (ms2 := 0) B rfl ((pm_up_n (by omega)).trans pm_up_s) rfl (c_X13_doAddMember_a2 (c := c) (v := v) (f := (upd (upd (upd f 5 8) 6 0) 7 0)) (g := g) ((pm_up_n (by omega)).trans pm_up_s) ((pm_up_n (by omega)).trans ((pm_up_n (by omega)).trans hg)) hn h7 h1 h2) mt_X13_doAddMember sv_X13_94 dX13_addMember_8 rfl rfl rfl rfl rfl ?_
  refine pm_mem (M' := pm_up (pm_up (pm_up M m0 (pm_mo z m0 (upd (upd (upd f 5 8) 6 0) 7 0))) (m0 + 2) (.inl (kA 0, 91, .inl (va_cpy g gb 0 0 91)))) (m0 + 1) (.inl (kA 0, 91, .inl (upd (upd (upd (upd (upd (upd g (7 + 5 * n + 0) c) (7 + 5 * n + 1) v) (7 + 5 * n + 2) 0) (7 + 5 * n + 3) 0) (7 + 5 * n + 4) 0) 0 ((nI n) + 1))))) rfl ?_
  refine pm_stk (st' := [.int (nI n), .ref (z + m0)]) rfl ?_
  refine pm_iconst (v := 0) B dX13_addMember_11 (by decide) ?_
  refine pm_cV (As := [.int (nI n), .int 0]) (mc2 := 0) (ms2 := 0) B rfl ((pm_up_n (by omega)).trans ((pm_up_n (by omega)).trans pm_up_s)) rfl (c_X13_ends_f1 (x := (nI n)) (y := 0) (f := (upd (upd (upd f 5 8) 6 0) 7 0)) (g := (upd (upd (upd (upd (upd (upd g (7 + 5 * n + 0) c) (7 + 5 * n + 1) v) (7 + 5 * n + 2) 0) (7 + 5 * n + 3) 0) (7 + 5 * n + 4) 0) 0 ((nI n) + 1))) (gb := (va_cpy g gb 0 0 91)) (gp := gp) ((pm_up_n (by omega)).trans ((pm_up_n (by omega)).trans pm_up_s)) pm_up_s ((pm_up_n (by omega)).trans pm_up_s) ((pm_up_n (by omega)).trans ((pm_up_n (by omega)).trans ((pm_up_n (by omega)).trans hgp)))  (by decide) (by decide)) mt_X13_ends sv_X13_97 dX13_addMember_12 rfl rfl rfl rfl rfl ?_
  refine pm_mem (M' := pm_up (pm_up (pm_up (pm_up M m0 (pm_mo z m0 (upd (upd (upd f 5 8) 6 0) 7 0))) (m0 + 2) (.inl (kA 0, 91, .inl (va_cpy g gb 0 0 91)))) (m0 + 1) (.inl (kA 0, 91, .inl (upd (upd (upd (upd (upd (upd g (7 + 5 * n + 0) c) (7 + 5 * n + 1) v) (7 + 5 * n + 2) 0) (7 + 5 * n + 3) 0) (7 + 5 * n + 4) 0) 0 ((nI n) + 1))))) (m0 + 4) (.inl (kA 0, 728, .inl (va_cpy (va_cpy g gb 0 0 91) (va_cpy gp gp 91 0 637) 0 637 91)))) rfl ?_
  refine pm_mem (M' := pm_up (pm_up (pm_up (pm_up (pm_up M m0 (pm_mo z m0 (upd (upd (upd f 5 8) 6 0) 7 0))) (m0 + 2) (.inl (kA 0, 91, .inl (va_cpy g gb 0 0 91)))) (m0 + 1) (.inl (kA 0, 91, .inl (upd (upd (upd (upd (upd (upd g (7 + 5 * n + 0) c) (7 + 5 * n + 1) v) (7 + 5 * n + 2) 0) (7 + 5 * n + 3) 0) (7 + 5 * n + 4) 0) 0 ((nI n) + 1))))) (m0 + 4) (.inl (kA 0, 728, .inl (va_cpy (va_cpy g gb 0 0 91) (va_cpy gp gp 91 0 637) 0 637 91)))) m0 (pm_mo z m0 (upd (upd (upd (upd (upd (upd f 5 8) 6 0) 7 0) 5 8) 5 (8 - 1)) 5 ((8 - 1) + 1)))) rfl ?_
  refine pm_mem (M' := pm_up (pm_up (pm_up (pm_up M m0 (pm_mo z m0 (upd (upd (upd (upd (upd (upd f 5 8) 6 0) 7 0) 5 8) 5 (8 - 1)) 5 ((8 - 1) + 1)))) (m0 + 2) (.inl (kA 0, 91, .inl (va_cpy g gb 0 0 91)))) (m0 + 1) (.inl (kA 0, 91, .inl (upd (upd (upd (upd (upd (upd g (7 + 5 * n + 0) c) (7 + 5 * n + 1) v) (7 + 5 * n + 2) 0) (7 + 5 * n + 3) 0) (7 + 5 * n + 4) 0) 0 ((nI n) + 1))))) (m0 + 4) (.inl (kA 0, 728, .inl (va_cpy (va_cpy g gb 0 0 91) (va_cpy gp gp 91 0 637) 0 637 91)))) (by rw [pm_up_sw (a := m0 + 4) (b := m0) (by omega), pm_up_sw (a := m0 + 1) (b := m0) (by omega), pm_up_sw (a := m0 + 2) (b := m0) (by omega), pm_up_up]) ?_
  refine pm_stk (st' := [.int (nI n)]) rfl ?_
  exact pm_ireturn B dX13_addMember_15 rfl (by first | rfl | (apply pm_nz; first | assumption | decide | exact pm_in01 _ _ _ | simp)) ⟨rfl, rfl, rfl⟩ rfl rfl
set_option maxRecDepth 100000 in
set_option maxHeartbeats 4000000 in
theorem c_X13_addMember_af3 {l : Launch} {z : Nat} {D : va_G} {kA : Nat → ClassId} {kE : Nat → Nat} {nx : Nat} {M : pm_M} {m0 : Nat} {f : Nat → Int32} (hM : M m0 = some (pm_mo z m0 (upd f 5 8))) {g : Nat → Int32} (hg : M (m0 + 1) = some (.inl (kA 0, 91, .inl g))) {gb : Nat → Int32} (hgb : M (m0 + 2) = some (.inl (kA 0, 91, .inl gb))) {gp : Nat → Int32} (hgp : M (m0 + 4) = some (.inl (kA 0, 728, .inl gp))) {c v : Int32} {n : Nat} (hn : g 0 = nI n) (h7 : n < 7) (h1 : ¬ (pm_in c 1 99) = 0) (h2 : (pm_in v 1 20) = 0) : pm_C l z D kA kE yX13_addMember cX13_addMember 3 (some .int) 3 0 0 [.ref (z + m0), .int c, .int v] nx M (pm_rt (some (.int 0)) nx (pm_up (pm_up (pm_up M m0 (pm_mo z m0 (upd (upd (upd (upd f 5 8) 6 0) 7 0) 6 1))) (m0 + 2) (.inl (kA 0, 91, .inl (va_cpy g gb 0 0 91)))) (m0 + 1) (.inl (kA 0, 91, .inl (va_cpy (va_cpy g gb 0 0 91) g 0 0 91))))) := by
  refine pm_mk (own := RX13) (nm := "addMember") mt_X13_addMember rfl rfl rfl rfl fun X B => ?_
  refine pm_loc (L' := [some (.ref (z + m0)), some (.int c), some (.int v)]) rfl ?_
  refine pm_aload_n B dX13_addMember_0 rfl ?_
  refine pm_cV (As := []) (mc2 := 0) (ms2 := 0) B rfl hM rfl (c_X13_keep (f := (upd f 5 8)) (g := g) (gb := gb) hM hg hgb  ) mt_X13_keep sv_X13_91 dX13_addMember_1 rfl rfl rfl rfl rfl ?_
  refine pm_mem (M' := pm_up M m0 (pm_mo z m0 (upd (upd (upd f 5 8) 6 0) 7 0))) rfl ?_
  refine pm_mem (M' := pm_up (pm_up M m0 (pm_mo z m0 (upd (upd (upd f 5 8) 6 0) 7 0))) (m0 + 2) (.inl (kA 0, 91, .inl (va_cpy g gb 0 0 91)))) rfl ?_
  refine pm_stk (st' := []) rfl ?_
  refine pm_aload_n B dX13_addMember_4 rfl ?_
  refine pm_aload_n B dX13_addMember_5 rfl ?_
  refine pm_iload_n B dX13_addMember_6 rfl ?_
  refine pm_iload_n B dX13_addMember_7 rfl ?_
  refine pm_cV (As := [.int c, .int v]) (mc2 := 0) (ms2 := 0) B rfl ((pm_up_n (by omega)).trans pm_up_s) rfl (c_X13_doAddMember_a3 (c := c) (v := v) (f := (upd (upd (upd f 5 8) 6 0) 7 0)) (g := g) ((pm_up_n (by omega)).trans pm_up_s) ((pm_up_n (by omega)).trans ((pm_up_n (by omega)).trans hg)) hn h7 h1 h2) mt_X13_doAddMember sv_X13_94 dX13_addMember_8 rfl rfl rfl rfl rfl ?_
  refine pm_mem (M' := pm_up (pm_up (pm_up M m0 (pm_mo z m0 (upd (upd (upd f 5 8) 6 0) 7 0))) (m0 + 2) (.inl (kA 0, 91, .inl (va_cpy g gb 0 0 91)))) m0 (pm_mo z m0 (upd (upd (upd (upd f 5 8) 6 0) 7 0) 6 1))) rfl ?_
  refine pm_mem (M' := pm_up (pm_up M m0 (pm_mo z m0 (upd (upd (upd (upd f 5 8) 6 0) 7 0) 6 1))) (m0 + 2) (.inl (kA 0, 91, .inl (va_cpy g gb 0 0 91)))) (by rw [pm_up_sw (a := m0 + 2) (b := m0) (by omega), pm_up_up]) ?_
  refine pm_stk (st' := [.int 0, .ref (z + m0)]) rfl ?_
  refine pm_iconst (v := 0) B dX13_addMember_11 (by decide) ?_
  refine pm_cV (As := [.int 0, .int 0]) (mc2 := 0) (ms2 := 0) B rfl ((pm_up_n (by omega)).trans pm_up_s) rfl (c_X13_ends_f2 (x := 0) (y := 0) (f := (upd (upd (upd (upd f 5 8) 6 0) 7 0) 6 1)) (g := g) (gb := (va_cpy g gb 0 0 91)) (gp := gp) ((pm_up_n (by omega)).trans pm_up_s) ((pm_up_n (by omega)).trans ((pm_up_n (by omega)).trans hg)) pm_up_s ((pm_up_n (by omega)).trans ((pm_up_n (by omega)).trans hgp))  (by decide) (by decide)) mt_X13_ends sv_X13_97 dX13_addMember_12 rfl rfl rfl rfl rfl ?_
  refine pm_mem (M' := pm_up (pm_up (pm_up M m0 (pm_mo z m0 (upd (upd (upd (upd f 5 8) 6 0) 7 0) 6 1))) (m0 + 2) (.inl (kA 0, 91, .inl (va_cpy g gb 0 0 91)))) (m0 + 1) (.inl (kA 0, 91, .inl (va_cpy (va_cpy g gb 0 0 91) g 0 0 91)))) rfl ?_
  refine pm_stk (st' := [.int 0]) rfl ?_
  exact pm_ireturn B dX13_addMember_15 rfl (by first | rfl | (apply pm_nz; first | assumption | decide | exact pm_in01 _ _ _ | simp)) ⟨rfl, rfl, rfl⟩ rfl rfl
set_option maxRecDepth 100000 in
set_option maxHeartbeats 4000000 in
theorem c_X13_addMember_fs1 {l : Launch} {z : Nat} {D : va_G} {kA : Nat → ClassId} {kE : Nat → Nat} {nx : Nat} {M : pm_M} {k : Nat} (hk : k < 8) {m0 : Nat} {f : Nat → Int32} (hM : M m0 = some (pm_mo z m0 (upd f 5 (nI k)))) {g : Nat → Int32} (hg : M (m0 + 1) = some (.inl (kA 0, 91, .inl g))) {gb : Nat → Int32} (hgb : M (m0 + 2) = some (.inl (kA 0, 91, .inl gb))) {gp : Nat → Int32} (hgp : M (m0 + 4) = some (.inl (kA 0, 728, .inl gp))) {c v : Int32} (hn : g 0 = 7) (h1 : (pm_in c 1 99) = 0) : pm_C l z D kA kE yX13_addMember cX13_addMember 3 (some .int) 3 0 0 [.ref (z + m0), .int c, .int v] nx M (pm_rt (some (.int 0)) nx (pm_up (pm_up (pm_up M m0 (pm_mo z m0 (upd (upd (upd (upd f 5 (nI k)) 6 0) 7 0) 6 1))) (m0 + 2) (.inl (kA 0, 91, .inl (va_cpy g gb 0 0 91)))) (m0 + 1) (.inl (kA 0, 91, .inl (va_cpy (va_cpy g gb 0 0 91) g 0 0 91))))) := by
  refine pm_mk (own := RX13) (nm := "addMember") mt_X13_addMember rfl rfl rfl rfl fun X B => ?_
  refine pm_loc (L' := [some (.ref (z + m0)), some (.int c), some (.int v)]) rfl ?_
  refine pm_aload_n B dX13_addMember_0 rfl ?_
  refine pm_cV (As := []) (mc2 := 0) (ms2 := 0) B rfl hM rfl (c_X13_keep (f := (upd f 5 (nI k))) (g := g) (gb := gb) hM hg hgb  ) mt_X13_keep sv_X13_91 dX13_addMember_1 rfl rfl rfl rfl rfl ?_
  refine pm_mem (M' := pm_up M m0 (pm_mo z m0 (upd (upd (upd f 5 (nI k)) 6 0) 7 0))) rfl ?_
  refine pm_mem (M' := pm_up (pm_up M m0 (pm_mo z m0 (upd (upd (upd f 5 (nI k)) 6 0) 7 0))) (m0 + 2) (.inl (kA 0, 91, .inl (va_cpy g gb 0 0 91)))) rfl ?_
  refine pm_stk (st' := []) rfl ?_
  refine pm_aload_n B dX13_addMember_4 rfl ?_
  refine pm_aload_n B dX13_addMember_5 rfl ?_
  refine pm_iload_n B dX13_addMember_6 rfl ?_
  refine pm_iload_n B dX13_addMember_7 rfl ?_
  refine pm_cV (As := [.int c, .int v]) (mc2 := 0) (ms2 := 0) B rfl ((pm_up_n (by omega)).trans pm_up_s) rfl (c_X13_doAddMember_f1 (c := c) (v := v) (f := (upd (upd (upd f 5 (nI k)) 6 0) 7 0)) (g := g) ((pm_up_n (by omega)).trans pm_up_s) ((pm_up_n (by omega)).trans ((pm_up_n (by omega)).trans hg)) hn h1) mt_X13_doAddMember sv_X13_94 dX13_addMember_8 rfl rfl rfl rfl rfl ?_
  refine pm_mem (M' := pm_up (pm_up (pm_up M m0 (pm_mo z m0 (upd (upd (upd f 5 (nI k)) 6 0) 7 0))) (m0 + 2) (.inl (kA 0, 91, .inl (va_cpy g gb 0 0 91)))) m0 (pm_mo z m0 (upd (upd (upd (upd f 5 (nI k)) 6 0) 7 0) 6 1))) rfl ?_
  refine pm_mem (M' := pm_up (pm_up M m0 (pm_mo z m0 (upd (upd (upd (upd f 5 (nI k)) 6 0) 7 0) 6 1))) (m0 + 2) (.inl (kA 0, 91, .inl (va_cpy g gb 0 0 91)))) (by rw [pm_up_sw (a := m0 + 2) (b := m0) (by omega), pm_up_up]) ?_
  refine pm_stk (st' := [.int 0, .ref (z + m0)]) rfl ?_
  refine pm_iconst (v := 0) B dX13_addMember_11 (by decide) ?_
  refine pm_cV (As := [.int 0, .int 0]) (mc2 := 0) (ms2 := 0) B rfl ((pm_up_n (by omega)).trans pm_up_s) rfl (c_X13_ends_s2 (x := 0) (y := 0) (k := k) (f := (upd (upd (upd (upd f 5 (nI k)) 6 0) 7 0) 6 1)) (g := g) (gb := (va_cpy g gb 0 0 91)) (gp := gp) ((pm_up_n (by omega)).trans pm_up_s) ((pm_up_n (by omega)).trans ((pm_up_n (by omega)).trans hg)) pm_up_s ((pm_up_n (by omega)).trans ((pm_up_n (by omega)).trans hgp)) (by first | assumption | omega) (by decide) (by decide)) mt_X13_ends sv_X13_97 dX13_addMember_12 rfl rfl rfl rfl rfl ?_
  refine pm_mem (M' := pm_up (pm_up (pm_up M m0 (pm_mo z m0 (upd (upd (upd (upd f 5 (nI k)) 6 0) 7 0) 6 1))) (m0 + 2) (.inl (kA 0, 91, .inl (va_cpy g gb 0 0 91)))) (m0 + 1) (.inl (kA 0, 91, .inl (va_cpy (va_cpy g gb 0 0 91) g 0 0 91)))) rfl ?_
  refine pm_stk (st' := [.int 0]) rfl ?_
  exact pm_ireturn B dX13_addMember_15 rfl (by first | rfl | (apply pm_nz; first | assumption | decide | exact pm_in01 _ _ _ | simp)) ⟨rfl, rfl, rfl⟩ rfl rfl
set_option maxRecDepth 100000 in
set_option maxHeartbeats 4000000 in
theorem c_X13_addMember_fs2 {l : Launch} {z : Nat} {D : va_G} {kA : Nat → ClassId} {kE : Nat → Nat} {nx : Nat} {M : pm_M} {k : Nat} (hk : k < 8) {m0 : Nat} {f : Nat → Int32} (hM : M m0 = some (pm_mo z m0 (upd f 5 (nI k)))) {g : Nat → Int32} (hg : M (m0 + 1) = some (.inl (kA 0, 91, .inl g))) {gb : Nat → Int32} (hgb : M (m0 + 2) = some (.inl (kA 0, 91, .inl gb))) {gp : Nat → Int32} (hgp : M (m0 + 4) = some (.inl (kA 0, 728, .inl gp))) {c v : Int32} (hn : g 0 = 7) (h1 : ¬ (pm_in c 1 99) = 0) (h2 : ¬ (pm_in v 1 20) = 0) : pm_C l z D kA kE yX13_addMember cX13_addMember 3 (some .int) 3 0 0 [.ref (z + m0), .int c, .int v] nx M (pm_rt (some (.int 0)) nx (pm_up (pm_up (pm_up M m0 (pm_mo z m0 (upd (upd (upd (upd (upd (upd (upd (upd (upd (upd f 5 (nI k)) 6 0) 7 0) 7 1) 8 7) 6 2) 5 (nI k)) 9 ((upd (upd (upd (upd (upd (upd (upd f 5 (nI k)) 6 0) 7 0) 7 1) 8 7) 6 2) 5 (nI k)) 7)) 10 ((upd (upd (upd (upd (upd (upd (upd f 5 (nI k)) 6 0) 7 0) 7 1) 8 7) 6 2) 5 (nI k)) 8)) 11 0))) (m0 + 2) (.inl (kA 0, 91, .inl (va_cpy g gb 0 0 91)))) (m0 + 1) (.inl (kA 0, 91, .inl (va_cpy (va_cpy g gb 0 0 91) g 0 0 91))))) := by
  refine pm_mk (own := RX13) (nm := "addMember") mt_X13_addMember rfl rfl rfl rfl fun X B => ?_
  refine pm_loc (L' := [some (.ref (z + m0)), some (.int c), some (.int v)]) rfl ?_
  refine pm_aload_n B dX13_addMember_0 rfl ?_
  refine pm_cV (As := []) (mc2 := 0) (ms2 := 0) B rfl hM rfl (c_X13_keep (f := (upd f 5 (nI k))) (g := g) (gb := gb) hM hg hgb  ) mt_X13_keep sv_X13_91 dX13_addMember_1 rfl rfl rfl rfl rfl ?_
  refine pm_mem (M' := pm_up M m0 (pm_mo z m0 (upd (upd (upd f 5 (nI k)) 6 0) 7 0))) rfl ?_
  refine pm_mem (M' := pm_up (pm_up M m0 (pm_mo z m0 (upd (upd (upd f 5 (nI k)) 6 0) 7 0))) (m0 + 2) (.inl (kA 0, 91, .inl (va_cpy g gb 0 0 91)))) rfl ?_
  refine pm_stk (st' := []) rfl ?_
  refine pm_aload_n B dX13_addMember_4 rfl ?_
  refine pm_aload_n B dX13_addMember_5 rfl ?_
  refine pm_iload_n B dX13_addMember_6 rfl ?_
  refine pm_iload_n B dX13_addMember_7 rfl ?_
  refine pm_cV (As := [.int c, .int v]) (mc2 := 0) (ms2 := 0) B rfl ((pm_up_n (by omega)).trans pm_up_s) rfl (c_X13_doAddMember_f2 (c := c) (v := v) (f := (upd (upd (upd f 5 (nI k)) 6 0) 7 0)) (g := g) ((pm_up_n (by omega)).trans pm_up_s) ((pm_up_n (by omega)).trans ((pm_up_n (by omega)).trans hg)) hn h1 h2) mt_X13_doAddMember sv_X13_94 dX13_addMember_8 rfl rfl rfl rfl rfl ?_
  refine pm_mem (M' := pm_up (pm_up (pm_up M m0 (pm_mo z m0 (upd (upd (upd f 5 (nI k)) 6 0) 7 0))) (m0 + 2) (.inl (kA 0, 91, .inl (va_cpy g gb 0 0 91)))) m0 (pm_mo z m0 (upd (upd (upd (upd (upd (upd f 5 (nI k)) 6 0) 7 0) 7 1) 8 7) 6 2))) rfl ?_
  refine pm_mem (M' := pm_up (pm_up M m0 (pm_mo z m0 (upd (upd (upd (upd (upd (upd f 5 (nI k)) 6 0) 7 0) 7 1) 8 7) 6 2))) (m0 + 2) (.inl (kA 0, 91, .inl (va_cpy g gb 0 0 91)))) (by rw [pm_up_sw (a := m0 + 2) (b := m0) (by omega), pm_up_up]) ?_
  refine pm_stk (st' := [.int 0, .ref (z + m0)]) rfl ?_
  refine pm_iconst (v := 0) B dX13_addMember_11 (by decide) ?_
  refine pm_cV (As := [.int 0, .int 0]) (mc2 := 0) (ms2 := 0) B rfl ((pm_up_n (by omega)).trans pm_up_s) rfl (c_X13_ends_s4 (x := 0) (y := 0) (k := k) (f := (upd (upd (upd (upd (upd (upd f 5 (nI k)) 6 0) 7 0) 7 1) 8 7) 6 2)) (g := g) (gb := (va_cpy g gb 0 0 91)) (gp := gp) ((pm_up_n (by omega)).trans pm_up_s) ((pm_up_n (by omega)).trans ((pm_up_n (by omega)).trans hg)) pm_up_s ((pm_up_n (by omega)).trans ((pm_up_n (by omega)).trans hgp)) (by first | assumption | omega) (by decide) (by decide)) mt_X13_ends sv_X13_97 dX13_addMember_12 rfl rfl rfl rfl rfl ?_
  refine pm_mem (M' := pm_up (pm_up (pm_up M m0 (pm_mo z m0 (upd (upd (upd (upd (upd (upd f 5 (nI k)) 6 0) 7 0) 7 1) 8 7) 6 2))) (m0 + 2) (.inl (kA 0, 91, .inl (va_cpy g gb 0 0 91)))) m0 (pm_mo z m0 (upd (upd (upd (upd (upd (upd (upd (upd (upd (upd f 5 (nI k)) 6 0) 7 0) 7 1) 8 7) 6 2) 5 (nI k)) 9 ((upd (upd (upd (upd (upd (upd (upd f 5 (nI k)) 6 0) 7 0) 7 1) 8 7) 6 2) 5 (nI k)) 7)) 10 ((upd (upd (upd (upd (upd (upd (upd f 5 (nI k)) 6 0) 7 0) 7 1) 8 7) 6 2) 5 (nI k)) 8)) 11 0))) rfl ?_
  refine pm_mem (M' := pm_up (pm_up M m0 (pm_mo z m0 (upd (upd (upd (upd (upd (upd (upd (upd (upd (upd f 5 (nI k)) 6 0) 7 0) 7 1) 8 7) 6 2) 5 (nI k)) 9 ((upd (upd (upd (upd (upd (upd (upd f 5 (nI k)) 6 0) 7 0) 7 1) 8 7) 6 2) 5 (nI k)) 7)) 10 ((upd (upd (upd (upd (upd (upd (upd f 5 (nI k)) 6 0) 7 0) 7 1) 8 7) 6 2) 5 (nI k)) 8)) 11 0))) (m0 + 2) (.inl (kA 0, 91, .inl (va_cpy g gb 0 0 91)))) (by rw [pm_up_sw (a := m0 + 2) (b := m0) (by omega), pm_up_up]) ?_
  refine pm_mem (M' := pm_up (pm_up (pm_up M m0 (pm_mo z m0 (upd (upd (upd (upd (upd (upd (upd (upd (upd (upd f 5 (nI k)) 6 0) 7 0) 7 1) 8 7) 6 2) 5 (nI k)) 9 ((upd (upd (upd (upd (upd (upd (upd f 5 (nI k)) 6 0) 7 0) 7 1) 8 7) 6 2) 5 (nI k)) 7)) 10 ((upd (upd (upd (upd (upd (upd (upd f 5 (nI k)) 6 0) 7 0) 7 1) 8 7) 6 2) 5 (nI k)) 8)) 11 0))) (m0 + 2) (.inl (kA 0, 91, .inl (va_cpy g gb 0 0 91)))) (m0 + 1) (.inl (kA 0, 91, .inl (va_cpy (va_cpy g gb 0 0 91) g 0 0 91)))) rfl ?_
  refine pm_stk (st' := [.int 0]) rfl ?_
  exact pm_ireturn B dX13_addMember_15 rfl (by first | rfl | (apply pm_nz; first | assumption | decide | exact pm_in01 _ _ _ | simp)) ⟨rfl, rfl, rfl⟩ rfl rfl
set_option maxRecDepth 100000 in
set_option maxHeartbeats 4000000 in
theorem c_X13_addMember_fs3 {l : Launch} {z : Nat} {D : va_G} {kA : Nat → ClassId} {kE : Nat → Nat} {nx : Nat} {M : pm_M} {k : Nat} (hk : k < 8) {m0 : Nat} {f : Nat → Int32} (hM : M m0 = some (pm_mo z m0 (upd f 5 (nI k)))) {g : Nat → Int32} (hg : M (m0 + 1) = some (.inl (kA 0, 91, .inl g))) {gb : Nat → Int32} (hgb : M (m0 + 2) = some (.inl (kA 0, 91, .inl gb))) {gp : Nat → Int32} (hgp : M (m0 + 4) = some (.inl (kA 0, 728, .inl gp))) {c v : Int32} (hn : g 0 = 7) (h1 : ¬ (pm_in c 1 99) = 0) (h2 : (pm_in v 1 20) = 0) : pm_C l z D kA kE yX13_addMember cX13_addMember 3 (some .int) 3 0 0 [.ref (z + m0), .int c, .int v] nx M (pm_rt (some (.int 0)) nx (pm_up (pm_up (pm_up M m0 (pm_mo z m0 (upd (upd (upd (upd f 5 (nI k)) 6 0) 7 0) 6 1))) (m0 + 2) (.inl (kA 0, 91, .inl (va_cpy g gb 0 0 91)))) (m0 + 1) (.inl (kA 0, 91, .inl (va_cpy (va_cpy g gb 0 0 91) g 0 0 91))))) := by
  refine pm_mk (own := RX13) (nm := "addMember") mt_X13_addMember rfl rfl rfl rfl fun X B => ?_
  refine pm_loc (L' := [some (.ref (z + m0)), some (.int c), some (.int v)]) rfl ?_
  refine pm_aload_n B dX13_addMember_0 rfl ?_
  refine pm_cV (As := []) (mc2 := 0) (ms2 := 0) B rfl hM rfl (c_X13_keep (f := (upd f 5 (nI k))) (g := g) (gb := gb) hM hg hgb  ) mt_X13_keep sv_X13_91 dX13_addMember_1 rfl rfl rfl rfl rfl ?_
  refine pm_mem (M' := pm_up M m0 (pm_mo z m0 (upd (upd (upd f 5 (nI k)) 6 0) 7 0))) rfl ?_
  refine pm_mem (M' := pm_up (pm_up M m0 (pm_mo z m0 (upd (upd (upd f 5 (nI k)) 6 0) 7 0))) (m0 + 2) (.inl (kA 0, 91, .inl (va_cpy g gb 0 0 91)))) rfl ?_
  refine pm_stk (st' := []) rfl ?_
  refine pm_aload_n B dX13_addMember_4 rfl ?_
  refine pm_aload_n B dX13_addMember_5 rfl ?_
  refine pm_iload_n B dX13_addMember_6 rfl ?_
  refine pm_iload_n B dX13_addMember_7 rfl ?_
  refine pm_cV (As := [.int c, .int v]) (mc2 := 0) (ms2 := 0) B rfl ((pm_up_n (by omega)).trans pm_up_s) rfl (c_X13_doAddMember_f3 (c := c) (v := v) (f := (upd (upd (upd f 5 (nI k)) 6 0) 7 0)) (g := g) ((pm_up_n (by omega)).trans pm_up_s) ((pm_up_n (by omega)).trans ((pm_up_n (by omega)).trans hg)) hn h1 h2) mt_X13_doAddMember sv_X13_94 dX13_addMember_8 rfl rfl rfl rfl rfl ?_
  refine pm_mem (M' := pm_up (pm_up (pm_up M m0 (pm_mo z m0 (upd (upd (upd f 5 (nI k)) 6 0) 7 0))) (m0 + 2) (.inl (kA 0, 91, .inl (va_cpy g gb 0 0 91)))) m0 (pm_mo z m0 (upd (upd (upd (upd f 5 (nI k)) 6 0) 7 0) 6 1))) rfl ?_
  refine pm_mem (M' := pm_up (pm_up M m0 (pm_mo z m0 (upd (upd (upd (upd f 5 (nI k)) 6 0) 7 0) 6 1))) (m0 + 2) (.inl (kA 0, 91, .inl (va_cpy g gb 0 0 91)))) (by rw [pm_up_sw (a := m0 + 2) (b := m0) (by omega), pm_up_up]) ?_
  refine pm_stk (st' := [.int 0, .ref (z + m0)]) rfl ?_
  refine pm_iconst (v := 0) B dX13_addMember_11 (by decide) ?_
  refine pm_cV (As := [.int 0, .int 0]) (mc2 := 0) (ms2 := 0) B rfl ((pm_up_n (by omega)).trans pm_up_s) rfl (c_X13_ends_s2 (x := 0) (y := 0) (k := k) (f := (upd (upd (upd (upd f 5 (nI k)) 6 0) 7 0) 6 1)) (g := g) (gb := (va_cpy g gb 0 0 91)) (gp := gp) ((pm_up_n (by omega)).trans pm_up_s) ((pm_up_n (by omega)).trans ((pm_up_n (by omega)).trans hg)) pm_up_s ((pm_up_n (by omega)).trans ((pm_up_n (by omega)).trans hgp)) (by first | assumption | omega) (by decide) (by decide)) mt_X13_ends sv_X13_97 dX13_addMember_12 rfl rfl rfl rfl rfl ?_
  refine pm_mem (M' := pm_up (pm_up (pm_up M m0 (pm_mo z m0 (upd (upd (upd (upd f 5 (nI k)) 6 0) 7 0) 6 1))) (m0 + 2) (.inl (kA 0, 91, .inl (va_cpy g gb 0 0 91)))) (m0 + 1) (.inl (kA 0, 91, .inl (va_cpy (va_cpy g gb 0 0 91) g 0 0 91)))) rfl ?_
  refine pm_stk (st' := [.int 0]) rfl ?_
  exact pm_ireturn B dX13_addMember_15 rfl (by first | rfl | (apply pm_nz; first | assumption | decide | exact pm_in01 _ _ _ | simp)) ⟨rfl, rfl, rfl⟩ rfl rfl
set_option maxRecDepth 100000 in
set_option maxHeartbeats 4000000 in
theorem c_X13_addMember_ff1 {l : Launch} {z : Nat} {D : va_G} {kA : Nat → ClassId} {kE : Nat → Nat} {nx : Nat} {M : pm_M} {m0 : Nat} {f : Nat → Int32} (hM : M m0 = some (pm_mo z m0 (upd f 5 8))) {g : Nat → Int32} (hg : M (m0 + 1) = some (.inl (kA 0, 91, .inl g))) {gb : Nat → Int32} (hgb : M (m0 + 2) = some (.inl (kA 0, 91, .inl gb))) {gp : Nat → Int32} (hgp : M (m0 + 4) = some (.inl (kA 0, 728, .inl gp))) {c v : Int32} (hn : g 0 = 7) (h1 : (pm_in c 1 99) = 0) : pm_C l z D kA kE yX13_addMember cX13_addMember 3 (some .int) 3 0 0 [.ref (z + m0), .int c, .int v] nx M (pm_rt (some (.int 0)) nx (pm_up (pm_up (pm_up M m0 (pm_mo z m0 (upd (upd (upd (upd f 5 8) 6 0) 7 0) 6 1))) (m0 + 2) (.inl (kA 0, 91, .inl (va_cpy g gb 0 0 91)))) (m0 + 1) (.inl (kA 0, 91, .inl (va_cpy (va_cpy g gb 0 0 91) g 0 0 91))))) := by
  refine pm_mk (own := RX13) (nm := "addMember") mt_X13_addMember rfl rfl rfl rfl fun X B => ?_
  refine pm_loc (L' := [some (.ref (z + m0)), some (.int c), some (.int v)]) rfl ?_
  refine pm_aload_n B dX13_addMember_0 rfl ?_
  refine pm_cV (As := []) (mc2 := 0) (ms2 := 0) B rfl hM rfl (c_X13_keep (f := (upd f 5 8)) (g := g) (gb := gb) hM hg hgb  ) mt_X13_keep sv_X13_91 dX13_addMember_1 rfl rfl rfl rfl rfl ?_
  refine pm_mem (M' := pm_up M m0 (pm_mo z m0 (upd (upd (upd f 5 8) 6 0) 7 0))) rfl ?_
  refine pm_mem (M' := pm_up (pm_up M m0 (pm_mo z m0 (upd (upd (upd f 5 8) 6 0) 7 0))) (m0 + 2) (.inl (kA 0, 91, .inl (va_cpy g gb 0 0 91)))) rfl ?_
  refine pm_stk (st' := []) rfl ?_
  refine pm_aload_n B dX13_addMember_4 rfl ?_
  refine pm_aload_n B dX13_addMember_5 rfl ?_
  refine pm_iload_n B dX13_addMember_6 rfl ?_
  refine pm_iload_n B dX13_addMember_7 rfl ?_
  refine pm_cV (As := [.int c, .int v]) (mc2 := 0) (ms2 := 0) B rfl ((pm_up_n (by omega)).trans pm_up_s) rfl (c_X13_doAddMember_f1 (c := c) (v := v) (f := (upd (upd (upd f 5 8) 6 0) 7 0)) (g := g) ((pm_up_n (by omega)).trans pm_up_s) ((pm_up_n (by omega)).trans ((pm_up_n (by omega)).trans hg)) hn h1) mt_X13_doAddMember sv_X13_94 dX13_addMember_8 rfl rfl rfl rfl rfl ?_
  refine pm_mem (M' := pm_up (pm_up (pm_up M m0 (pm_mo z m0 (upd (upd (upd f 5 8) 6 0) 7 0))) (m0 + 2) (.inl (kA 0, 91, .inl (va_cpy g gb 0 0 91)))) m0 (pm_mo z m0 (upd (upd (upd (upd f 5 8) 6 0) 7 0) 6 1))) rfl ?_
  refine pm_mem (M' := pm_up (pm_up M m0 (pm_mo z m0 (upd (upd (upd (upd f 5 8) 6 0) 7 0) 6 1))) (m0 + 2) (.inl (kA 0, 91, .inl (va_cpy g gb 0 0 91)))) (by rw [pm_up_sw (a := m0 + 2) (b := m0) (by omega), pm_up_up]) ?_
  refine pm_stk (st' := [.int 0, .ref (z + m0)]) rfl ?_
  refine pm_iconst (v := 0) B dX13_addMember_11 (by decide) ?_
  refine pm_cV (As := [.int 0, .int 0]) (mc2 := 0) (ms2 := 0) B rfl ((pm_up_n (by omega)).trans pm_up_s) rfl (c_X13_ends_f2 (x := 0) (y := 0) (f := (upd (upd (upd (upd f 5 8) 6 0) 7 0) 6 1)) (g := g) (gb := (va_cpy g gb 0 0 91)) (gp := gp) ((pm_up_n (by omega)).trans pm_up_s) ((pm_up_n (by omega)).trans ((pm_up_n (by omega)).trans hg)) pm_up_s ((pm_up_n (by omega)).trans ((pm_up_n (by omega)).trans hgp))  (by decide) (by decide)) mt_X13_ends sv_X13_97 dX13_addMember_12 rfl rfl rfl rfl rfl ?_
  refine pm_mem (M' := pm_up (pm_up (pm_up M m0 (pm_mo z m0 (upd (upd (upd (upd f 5 8) 6 0) 7 0) 6 1))) (m0 + 2) (.inl (kA 0, 91, .inl (va_cpy g gb 0 0 91)))) (m0 + 1) (.inl (kA 0, 91, .inl (va_cpy (va_cpy g gb 0 0 91) g 0 0 91)))) rfl ?_
  refine pm_stk (st' := [.int 0]) rfl ?_
  exact pm_ireturn B dX13_addMember_15 rfl (by first | rfl | (apply pm_nz; first | assumption | decide | exact pm_in01 _ _ _ | simp)) ⟨rfl, rfl, rfl⟩ rfl rfl
set_option maxRecDepth 100000 in
set_option maxHeartbeats 4000000 in
theorem c_X13_addMember_ff2 {l : Launch} {z : Nat} {D : va_G} {kA : Nat → ClassId} {kE : Nat → Nat} {nx : Nat} {M : pm_M} {m0 : Nat} {f : Nat → Int32} (hM : M m0 = some (pm_mo z m0 (upd f 5 8))) {g : Nat → Int32} (hg : M (m0 + 1) = some (.inl (kA 0, 91, .inl g))) {gb : Nat → Int32} (hgb : M (m0 + 2) = some (.inl (kA 0, 91, .inl gb))) {gp : Nat → Int32} (hgp : M (m0 + 4) = some (.inl (kA 0, 728, .inl gp))) {c v : Int32} (hn : g 0 = 7) (h1 : ¬ (pm_in c 1 99) = 0) (h2 : ¬ (pm_in v 1 20) = 0) : pm_C l z D kA kE yX13_addMember cX13_addMember 3 (some .int) 3 0 0 [.ref (z + m0), .int c, .int v] nx M (pm_rt (some (.int 0)) nx (pm_up (pm_up (pm_up M m0 (pm_mo z m0 (upd (upd (upd (upd (upd (upd (upd (upd (upd (upd f 5 8) 6 0) 7 0) 7 1) 8 7) 6 2) 5 8) 9 ((upd (upd (upd (upd (upd (upd (upd f 5 8) 6 0) 7 0) 7 1) 8 7) 6 2) 5 8) 7)) 10 ((upd (upd (upd (upd (upd (upd (upd f 5 8) 6 0) 7 0) 7 1) 8 7) 6 2) 5 8) 8)) 11 0))) (m0 + 2) (.inl (kA 0, 91, .inl (va_cpy g gb 0 0 91)))) (m0 + 1) (.inl (kA 0, 91, .inl (va_cpy (va_cpy g gb 0 0 91) g 0 0 91))))) := by
  refine pm_mk (own := RX13) (nm := "addMember") mt_X13_addMember rfl rfl rfl rfl fun X B => ?_
  refine pm_loc (L' := [some (.ref (z + m0)), some (.int c), some (.int v)]) rfl ?_
  refine pm_aload_n B dX13_addMember_0 rfl ?_
  refine pm_cV (As := []) (mc2 := 0) (ms2 := 0) B rfl hM rfl (c_X13_keep (f := (upd f 5 8)) (g := g) (gb := gb) hM hg hgb  ) mt_X13_keep sv_X13_91 dX13_addMember_1 rfl rfl rfl rfl rfl ?_
  refine pm_mem (M' := pm_up M m0 (pm_mo z m0 (upd (upd (upd f 5 8) 6 0) 7 0))) rfl ?_
  refine pm_mem (M' := pm_up (pm_up M m0 (pm_mo z m0 (upd (upd (upd f 5 8) 6 0) 7 0))) (m0 + 2) (.inl (kA 0, 91, .inl (va_cpy g gb 0 0 91)))) rfl ?_
  refine pm_stk (st' := []) rfl ?_
  refine pm_aload_n B dX13_addMember_4 rfl ?_
  refine pm_aload_n B dX13_addMember_5 rfl ?_
  refine pm_iload_n B dX13_addMember_6 rfl ?_
  refine pm_iload_n B dX13_addMember_7 rfl ?_
  refine pm_cV (As := [.int c, .int v]) (mc2 := 0) (ms2 := 0) B rfl ((pm_up_n (by omega)).trans pm_up_s) rfl (c_X13_doAddMember_f2 (c := c) (v := v) (f := (upd (upd (upd f 5 8) 6 0) 7 0)) (g := g) ((pm_up_n (by omega)).trans pm_up_s) ((pm_up_n (by omega)).trans ((pm_up_n (by omega)).trans hg)) hn h1 h2) mt_X13_doAddMember sv_X13_94 dX13_addMember_8 rfl rfl rfl rfl rfl ?_
  refine pm_mem (M' := pm_up (pm_up (pm_up M m0 (pm_mo z m0 (upd (upd (upd f 5 8) 6 0) 7 0))) (m0 + 2) (.inl (kA 0, 91, .inl (va_cpy g gb 0 0 91)))) m0 (pm_mo z m0 (upd (upd (upd (upd (upd (upd f 5 8) 6 0) 7 0) 7 1) 8 7) 6 2))) rfl ?_
  refine pm_mem (M' := pm_up (pm_up M m0 (pm_mo z m0 (upd (upd (upd (upd (upd (upd f 5 8) 6 0) 7 0) 7 1) 8 7) 6 2))) (m0 + 2) (.inl (kA 0, 91, .inl (va_cpy g gb 0 0 91)))) (by rw [pm_up_sw (a := m0 + 2) (b := m0) (by omega), pm_up_up]) ?_
  refine pm_stk (st' := [.int 0, .ref (z + m0)]) rfl ?_
  refine pm_iconst (v := 0) B dX13_addMember_11 (by decide) ?_
  refine pm_cV (As := [.int 0, .int 0]) (mc2 := 0) (ms2 := 0) B rfl ((pm_up_n (by omega)).trans pm_up_s) rfl (c_X13_ends_f4 (x := 0) (y := 0) (f := (upd (upd (upd (upd (upd (upd f 5 8) 6 0) 7 0) 7 1) 8 7) 6 2)) (g := g) (gb := (va_cpy g gb 0 0 91)) (gp := gp) ((pm_up_n (by omega)).trans pm_up_s) ((pm_up_n (by omega)).trans ((pm_up_n (by omega)).trans hg)) pm_up_s ((pm_up_n (by omega)).trans ((pm_up_n (by omega)).trans hgp))  (by decide) (by decide)) mt_X13_ends sv_X13_97 dX13_addMember_12 rfl rfl rfl rfl rfl ?_
  refine pm_mem (M' := pm_up (pm_up (pm_up M m0 (pm_mo z m0 (upd (upd (upd (upd (upd (upd f 5 8) 6 0) 7 0) 7 1) 8 7) 6 2))) (m0 + 2) (.inl (kA 0, 91, .inl (va_cpy g gb 0 0 91)))) m0 (pm_mo z m0 (upd (upd (upd (upd (upd (upd (upd (upd (upd (upd f 5 8) 6 0) 7 0) 7 1) 8 7) 6 2) 5 8) 9 ((upd (upd (upd (upd (upd (upd (upd f 5 8) 6 0) 7 0) 7 1) 8 7) 6 2) 5 8) 7)) 10 ((upd (upd (upd (upd (upd (upd (upd f 5 8) 6 0) 7 0) 7 1) 8 7) 6 2) 5 8) 8)) 11 0))) rfl ?_
  refine pm_mem (M' := pm_up (pm_up M m0 (pm_mo z m0 (upd (upd (upd (upd (upd (upd (upd (upd (upd (upd f 5 8) 6 0) 7 0) 7 1) 8 7) 6 2) 5 8) 9 ((upd (upd (upd (upd (upd (upd (upd f 5 8) 6 0) 7 0) 7 1) 8 7) 6 2) 5 8) 7)) 10 ((upd (upd (upd (upd (upd (upd (upd f 5 8) 6 0) 7 0) 7 1) 8 7) 6 2) 5 8) 8)) 11 0))) (m0 + 2) (.inl (kA 0, 91, .inl (va_cpy g gb 0 0 91)))) (by rw [pm_up_sw (a := m0 + 2) (b := m0) (by omega), pm_up_up]) ?_
  refine pm_mem (M' := pm_up (pm_up (pm_up M m0 (pm_mo z m0 (upd (upd (upd (upd (upd (upd (upd (upd (upd (upd f 5 8) 6 0) 7 0) 7 1) 8 7) 6 2) 5 8) 9 ((upd (upd (upd (upd (upd (upd (upd f 5 8) 6 0) 7 0) 7 1) 8 7) 6 2) 5 8) 7)) 10 ((upd (upd (upd (upd (upd (upd (upd f 5 8) 6 0) 7 0) 7 1) 8 7) 6 2) 5 8) 8)) 11 0))) (m0 + 2) (.inl (kA 0, 91, .inl (va_cpy g gb 0 0 91)))) (m0 + 1) (.inl (kA 0, 91, .inl (va_cpy (va_cpy g gb 0 0 91) g 0 0 91)))) rfl ?_
  refine pm_stk (st' := [.int 0]) rfl ?_
  exact pm_ireturn B dX13_addMember_15 rfl (by first | rfl | (apply pm_nz; first | assumption | decide | exact pm_in01 _ _ _ | simp)) ⟨rfl, rfl, rfl⟩ rfl rfl
set_option maxRecDepth 100000 in
set_option maxHeartbeats 4000000 in
theorem c_X13_addMember_ff3 {l : Launch} {z : Nat} {D : va_G} {kA : Nat → ClassId} {kE : Nat → Nat} {nx : Nat} {M : pm_M} {m0 : Nat} {f : Nat → Int32} (hM : M m0 = some (pm_mo z m0 (upd f 5 8))) {g : Nat → Int32} (hg : M (m0 + 1) = some (.inl (kA 0, 91, .inl g))) {gb : Nat → Int32} (hgb : M (m0 + 2) = some (.inl (kA 0, 91, .inl gb))) {gp : Nat → Int32} (hgp : M (m0 + 4) = some (.inl (kA 0, 728, .inl gp))) {c v : Int32} (hn : g 0 = 7) (h1 : ¬ (pm_in c 1 99) = 0) (h2 : (pm_in v 1 20) = 0) : pm_C l z D kA kE yX13_addMember cX13_addMember 3 (some .int) 3 0 0 [.ref (z + m0), .int c, .int v] nx M (pm_rt (some (.int 0)) nx (pm_up (pm_up (pm_up M m0 (pm_mo z m0 (upd (upd (upd (upd f 5 8) 6 0) 7 0) 6 1))) (m0 + 2) (.inl (kA 0, 91, .inl (va_cpy g gb 0 0 91)))) (m0 + 1) (.inl (kA 0, 91, .inl (va_cpy (va_cpy g gb 0 0 91) g 0 0 91))))) := by
  refine pm_mk (own := RX13) (nm := "addMember") mt_X13_addMember rfl rfl rfl rfl fun X B => ?_
  refine pm_loc (L' := [some (.ref (z + m0)), some (.int c), some (.int v)]) rfl ?_
  refine pm_aload_n B dX13_addMember_0 rfl ?_
  refine pm_cV (As := []) (mc2 := 0) (ms2 := 0) B rfl hM rfl (c_X13_keep (f := (upd f 5 8)) (g := g) (gb := gb) hM hg hgb  ) mt_X13_keep sv_X13_91 dX13_addMember_1 rfl rfl rfl rfl rfl ?_
  refine pm_mem (M' := pm_up M m0 (pm_mo z m0 (upd (upd (upd f 5 8) 6 0) 7 0))) rfl ?_
  refine pm_mem (M' := pm_up (pm_up M m0 (pm_mo z m0 (upd (upd (upd f 5 8) 6 0) 7 0))) (m0 + 2) (.inl (kA 0, 91, .inl (va_cpy g gb 0 0 91)))) rfl ?_
  refine pm_stk (st' := []) rfl ?_
  refine pm_aload_n B dX13_addMember_4 rfl ?_
  refine pm_aload_n B dX13_addMember_5 rfl ?_
  refine pm_iload_n B dX13_addMember_6 rfl ?_
  refine pm_iload_n B dX13_addMember_7 rfl ?_
  refine pm_cV (As := [.int c, .int v]) (mc2 := 0) (ms2 := 0) B rfl ((pm_up_n (by omega)).trans pm_up_s) rfl (c_X13_doAddMember_f3 (c := c) (v := v) (f := (upd (upd (upd f 5 8) 6 0) 7 0)) (g := g) ((pm_up_n (by omega)).trans pm_up_s) ((pm_up_n (by omega)).trans ((pm_up_n (by omega)).trans hg)) hn h1 h2) mt_X13_doAddMember sv_X13_94 dX13_addMember_8 rfl rfl rfl rfl rfl ?_
  refine pm_mem (M' := pm_up (pm_up (pm_up M m0 (pm_mo z m0 (upd (upd (upd f 5 8) 6 0) 7 0))) (m0 + 2) (.inl (kA 0, 91, .inl (va_cpy g gb 0 0 91)))) m0 (pm_mo z m0 (upd (upd (upd (upd f 5 8) 6 0) 7 0) 6 1))) rfl ?_
  refine pm_mem (M' := pm_up (pm_up M m0 (pm_mo z m0 (upd (upd (upd (upd f 5 8) 6 0) 7 0) 6 1))) (m0 + 2) (.inl (kA 0, 91, .inl (va_cpy g gb 0 0 91)))) (by rw [pm_up_sw (a := m0 + 2) (b := m0) (by omega), pm_up_up]) ?_
  refine pm_stk (st' := [.int 0, .ref (z + m0)]) rfl ?_
  refine pm_iconst (v := 0) B dX13_addMember_11 (by decide) ?_
  refine pm_cV (As := [.int 0, .int 0]) (mc2 := 0) (ms2 := 0) B rfl ((pm_up_n (by omega)).trans pm_up_s) rfl (c_X13_ends_f2 (x := 0) (y := 0) (f := (upd (upd (upd (upd f 5 8) 6 0) 7 0) 6 1)) (g := g) (gb := (va_cpy g gb 0 0 91)) (gp := gp) ((pm_up_n (by omega)).trans pm_up_s) ((pm_up_n (by omega)).trans ((pm_up_n (by omega)).trans hg)) pm_up_s ((pm_up_n (by omega)).trans ((pm_up_n (by omega)).trans hgp))  (by decide) (by decide)) mt_X13_ends sv_X13_97 dX13_addMember_12 rfl rfl rfl rfl rfl ?_
  refine pm_mem (M' := pm_up (pm_up (pm_up M m0 (pm_mo z m0 (upd (upd (upd (upd f 5 8) 6 0) 7 0) 6 1))) (m0 + 2) (.inl (kA 0, 91, .inl (va_cpy g gb 0 0 91)))) (m0 + 1) (.inl (kA 0, 91, .inl (va_cpy (va_cpy g gb 0 0 91) g 0 0 91)))) rfl ?_
  refine pm_stk (st' := [.int 0]) rfl ?_
  exact pm_ireturn B dX13_addMember_15 rfl (by first | rfl | (apply pm_nz; first | assumption | decide | exact pm_in01 _ _ _ | simp)) ⟨rfl, rfl, rfl⟩ rfl rfl
set_option maxRecDepth 100000 in
set_option maxHeartbeats 4000000 in
theorem c_X13_setRule_s1 {l : Launch} {z : Nat} {D : va_G} {kA : Nat → ClassId} {kE : Nat → Nat} {nx : Nat} {M : pm_M} {k : Nat} (hk : k < 8) {m0 : Nat} {f : Nat → Int32} (hM : M m0 = some (pm_mo z m0 (upd f 5 (nI k)))) {g : Nat → Int32} (hg : M (m0 + 1) = some (.inl (kA 0, 91, .inl g))) {gb : Nat → Int32} (hgb : M (m0 + 2) = some (.inl (kA 0, 91, .inl gb))) {gp : Nat → Int32} (hgp : M (m0 + 4) = some (.inl (kA 0, 728, .inl gp))) {x : Int32} (h1 : ¬ (pm_in x 0 1) = 0) (h2 : ¬ x = (g 1)) : pm_C l z D kA kE yX13_setRule cX13_setRule 2 (some .int) 3 0 0 [.ref (z + m0), .int x] nx M (pm_rt (some (.int (1 - x))) nx (pm_up (pm_up (pm_up (pm_up M m0 (pm_mo z m0 (upd (upd (upd (upd (upd f 5 (nI k)) 6 0) 7 0) 5 (nI k)) 5 ((nI k) + 1)))) (m0 + 2) (.inl (kA 0, 91, .inl (va_cpy g gb 0 0 91)))) (m0 + 1) (.inl (kA 0, 91, .inl (upd g 1 x)))) (m0 + 4) (.inl (kA 0, 728, .inl (va_cpy (va_cpy g gb 0 0 91) gp 0 (91 * k) 91))))) := by
  refine pm_mk (own := RX13) (nm := "setRule") mt_X13_setRule rfl rfl rfl rfl fun X B => ?_
  refine pm_loc (L' := [some (.ref (z + m0)), some (.int x)]) rfl ?_
  refine pm_aload_n B dX13_setRule_0 rfl ?_
  refine pm_cV (As := []) (mc2 := 0) (ms2 := 0) B rfl hM rfl (c_X13_keep (f := (upd f 5 (nI k))) (g := g) (gb := gb) hM hg hgb  ) mt_X13_keep sv_X13_91 dX13_setRule_1 rfl rfl rfl rfl rfl ?_
  refine pm_mem (M' := pm_up M m0 (pm_mo z m0 (upd (upd (upd f 5 (nI k)) 6 0) 7 0))) rfl ?_
  refine pm_mem (M' := pm_up (pm_up M m0 (pm_mo z m0 (upd (upd (upd f 5 (nI k)) 6 0) 7 0))) (m0 + 2) (.inl (kA 0, 91, .inl (va_cpy g gb 0 0 91)))) rfl ?_
  refine pm_stk (st' := []) rfl ?_
  refine pm_aload_n B dX13_setRule_4 rfl ?_
  refine pm_aload_n B dX13_setRule_5 rfl ?_
  refine pm_iload_n B dX13_setRule_6 rfl ?_
  refine pm_cV (As := [.int x]) (mc2 := 0) (ms2 := 0) B rfl ((pm_up_n (by omega)).trans pm_up_s) rfl (c_X13_doSetRule_1 (x := x) (f := (upd (upd (upd f 5 (nI k)) 6 0) 7 0)) (g := g) ((pm_up_n (by omega)).trans pm_up_s) ((pm_up_n (by omega)).trans ((pm_up_n (by omega)).trans hg))  h1 h2) mt_X13_doSetRule sv_X13_124 dX13_setRule_7 rfl rfl rfl rfl rfl ?_
  refine pm_mem (M' := pm_up (pm_up (pm_up M m0 (pm_mo z m0 (upd (upd (upd f 5 (nI k)) 6 0) 7 0))) (m0 + 2) (.inl (kA 0, 91, .inl (va_cpy g gb 0 0 91)))) (m0 + 1) (.inl (kA 0, 91, .inl (upd g 1 x)))) rfl ?_
  refine pm_stk (st' := [.int (1 - x), .ref (z + m0)]) rfl ?_
  refine pm_iconst (v := 0) B dX13_setRule_10 (by decide) ?_
  refine pm_cV (As := [.int (1 - x), .int 0]) (mc2 := 0) (ms2 := 0) B rfl ((pm_up_n (by omega)).trans ((pm_up_n (by omega)).trans pm_up_s)) rfl (c_X13_ends_s1 (x := (1 - x)) (y := 0) (k := k) (f := (upd (upd (upd f 5 (nI k)) 6 0) 7 0)) (g := (upd g 1 x)) (gb := (va_cpy g gb 0 0 91)) (gp := gp) ((pm_up_n (by omega)).trans ((pm_up_n (by omega)).trans pm_up_s)) pm_up_s ((pm_up_n (by omega)).trans pm_up_s) ((pm_up_n (by omega)).trans ((pm_up_n (by omega)).trans ((pm_up_n (by omega)).trans hgp))) (by first | assumption | omega) (by decide) (by decide)) mt_X13_ends sv_X13_97 dX13_setRule_11 rfl rfl rfl rfl rfl ?_
  refine pm_mem (M' := pm_up (pm_up (pm_up (pm_up M m0 (pm_mo z m0 (upd (upd (upd f 5 (nI k)) 6 0) 7 0))) (m0 + 2) (.inl (kA 0, 91, .inl (va_cpy g gb 0 0 91)))) (m0 + 1) (.inl (kA 0, 91, .inl (upd g 1 x)))) (m0 + 4) (.inl (kA 0, 728, .inl (va_cpy (va_cpy g gb 0 0 91) gp 0 (91 * k) 91)))) rfl ?_
  refine pm_mem (M' := pm_up (pm_up (pm_up (pm_up (pm_up M m0 (pm_mo z m0 (upd (upd (upd f 5 (nI k)) 6 0) 7 0))) (m0 + 2) (.inl (kA 0, 91, .inl (va_cpy g gb 0 0 91)))) (m0 + 1) (.inl (kA 0, 91, .inl (upd g 1 x)))) (m0 + 4) (.inl (kA 0, 728, .inl (va_cpy (va_cpy g gb 0 0 91) gp 0 (91 * k) 91)))) m0 (pm_mo z m0 (upd (upd (upd (upd (upd f 5 (nI k)) 6 0) 7 0) 5 (nI k)) 5 ((nI k) + 1)))) rfl ?_
  refine pm_mem (M' := pm_up (pm_up (pm_up (pm_up M m0 (pm_mo z m0 (upd (upd (upd (upd (upd f 5 (nI k)) 6 0) 7 0) 5 (nI k)) 5 ((nI k) + 1)))) (m0 + 2) (.inl (kA 0, 91, .inl (va_cpy g gb 0 0 91)))) (m0 + 1) (.inl (kA 0, 91, .inl (upd g 1 x)))) (m0 + 4) (.inl (kA 0, 728, .inl (va_cpy (va_cpy g gb 0 0 91) gp 0 (91 * k) 91)))) (by rw [pm_up_sw (a := m0 + 4) (b := m0) (by omega), pm_up_sw (a := m0 + 1) (b := m0) (by omega), pm_up_sw (a := m0 + 2) (b := m0) (by omega), pm_up_up]) ?_
  refine pm_stk (st' := [.int (1 - x)]) rfl ?_
  exact pm_ireturn B dX13_setRule_14 rfl (by first | rfl | (apply pm_nz; first | assumption | decide | exact pm_in01 _ _ _ | simp)) ⟨rfl, rfl, rfl⟩ rfl rfl
set_option maxRecDepth 100000 in
set_option maxHeartbeats 4000000 in
theorem c_X13_setRule_s2 {l : Launch} {z : Nat} {D : va_G} {kA : Nat → ClassId} {kE : Nat → Nat} {nx : Nat} {M : pm_M} {k : Nat} (hk : k < 8) {m0 : Nat} {f : Nat → Int32} (hM : M m0 = some (pm_mo z m0 (upd f 5 (nI k)))) {g : Nat → Int32} (hg : M (m0 + 1) = some (.inl (kA 0, 91, .inl g))) {gb : Nat → Int32} (hgb : M (m0 + 2) = some (.inl (kA 0, 91, .inl gb))) {gp : Nat → Int32} (hgp : M (m0 + 4) = some (.inl (kA 0, 728, .inl gp))) {x : Int32} (h1 : ¬ (pm_in x 0 1) = 0) (h2 : x = (g 1)) : pm_C l z D kA kE yX13_setRule cX13_setRule 2 (some .int) 3 0 0 [.ref (z + m0), .int x] nx M (pm_rt (some (.int 0)) nx (pm_up (pm_up (pm_up M m0 (pm_mo z m0 (upd (upd (upd (upd (upd (upd (upd (upd (upd (upd f 5 (nI k)) 6 0) 7 0) 7 7) 8 x) 6 2) 5 (nI k)) 9 ((upd (upd (upd (upd (upd (upd (upd f 5 (nI k)) 6 0) 7 0) 7 7) 8 x) 6 2) 5 (nI k)) 7)) 10 ((upd (upd (upd (upd (upd (upd (upd f 5 (nI k)) 6 0) 7 0) 7 7) 8 x) 6 2) 5 (nI k)) 8)) 11 0))) (m0 + 2) (.inl (kA 0, 91, .inl (va_cpy g gb 0 0 91)))) (m0 + 1) (.inl (kA 0, 91, .inl (va_cpy (va_cpy g gb 0 0 91) g 0 0 91))))) := by
  refine pm_mk (own := RX13) (nm := "setRule") mt_X13_setRule rfl rfl rfl rfl fun X B => ?_
  refine pm_loc (L' := [some (.ref (z + m0)), some (.int x)]) rfl ?_
  refine pm_aload_n B dX13_setRule_0 rfl ?_
  refine pm_cV (As := []) (mc2 := 0) (ms2 := 0) B rfl hM rfl (c_X13_keep (f := (upd f 5 (nI k))) (g := g) (gb := gb) hM hg hgb  ) mt_X13_keep sv_X13_91 dX13_setRule_1 rfl rfl rfl rfl rfl ?_
  refine pm_mem (M' := pm_up M m0 (pm_mo z m0 (upd (upd (upd f 5 (nI k)) 6 0) 7 0))) rfl ?_
  refine pm_mem (M' := pm_up (pm_up M m0 (pm_mo z m0 (upd (upd (upd f 5 (nI k)) 6 0) 7 0))) (m0 + 2) (.inl (kA 0, 91, .inl (va_cpy g gb 0 0 91)))) rfl ?_
  refine pm_stk (st' := []) rfl ?_
  refine pm_aload_n B dX13_setRule_4 rfl ?_
  refine pm_aload_n B dX13_setRule_5 rfl ?_
  refine pm_iload_n B dX13_setRule_6 rfl ?_
  refine pm_cV (As := [.int x]) (mc2 := 0) (ms2 := 0) B rfl ((pm_up_n (by omega)).trans pm_up_s) rfl (c_X13_doSetRule_2 (x := x) (f := (upd (upd (upd f 5 (nI k)) 6 0) 7 0)) (g := g) ((pm_up_n (by omega)).trans pm_up_s) ((pm_up_n (by omega)).trans ((pm_up_n (by omega)).trans hg))  h1 h2) mt_X13_doSetRule sv_X13_124 dX13_setRule_7 rfl rfl rfl rfl rfl ?_
  refine pm_mem (M' := pm_up (pm_up (pm_up M m0 (pm_mo z m0 (upd (upd (upd f 5 (nI k)) 6 0) 7 0))) (m0 + 2) (.inl (kA 0, 91, .inl (va_cpy g gb 0 0 91)))) m0 (pm_mo z m0 (upd (upd (upd (upd (upd (upd f 5 (nI k)) 6 0) 7 0) 7 7) 8 x) 6 2))) rfl ?_
  refine pm_mem (M' := pm_up (pm_up M m0 (pm_mo z m0 (upd (upd (upd (upd (upd (upd f 5 (nI k)) 6 0) 7 0) 7 7) 8 x) 6 2))) (m0 + 2) (.inl (kA 0, 91, .inl (va_cpy g gb 0 0 91)))) (by rw [pm_up_sw (a := m0 + 2) (b := m0) (by omega), pm_up_up]) ?_
  refine pm_stk (st' := [.int 0, .ref (z + m0)]) rfl ?_
  refine pm_iconst (v := 0) B dX13_setRule_10 (by decide) ?_
  refine pm_cV (As := [.int 0, .int 0]) (mc2 := 0) (ms2 := 0) B rfl ((pm_up_n (by omega)).trans pm_up_s) rfl (c_X13_ends_s4 (x := 0) (y := 0) (k := k) (f := (upd (upd (upd (upd (upd (upd f 5 (nI k)) 6 0) 7 0) 7 7) 8 x) 6 2)) (g := g) (gb := (va_cpy g gb 0 0 91)) (gp := gp) ((pm_up_n (by omega)).trans pm_up_s) ((pm_up_n (by omega)).trans ((pm_up_n (by omega)).trans hg)) pm_up_s ((pm_up_n (by omega)).trans ((pm_up_n (by omega)).trans hgp)) (by first | assumption | omega) (by decide) (by decide)) mt_X13_ends sv_X13_97 dX13_setRule_11 rfl rfl rfl rfl rfl ?_
  refine pm_mem (M' := pm_up (pm_up (pm_up M m0 (pm_mo z m0 (upd (upd (upd (upd (upd (upd f 5 (nI k)) 6 0) 7 0) 7 7) 8 x) 6 2))) (m0 + 2) (.inl (kA 0, 91, .inl (va_cpy g gb 0 0 91)))) m0 (pm_mo z m0 (upd (upd (upd (upd (upd (upd (upd (upd (upd (upd f 5 (nI k)) 6 0) 7 0) 7 7) 8 x) 6 2) 5 (nI k)) 9 ((upd (upd (upd (upd (upd (upd (upd f 5 (nI k)) 6 0) 7 0) 7 7) 8 x) 6 2) 5 (nI k)) 7)) 10 ((upd (upd (upd (upd (upd (upd (upd f 5 (nI k)) 6 0) 7 0) 7 7) 8 x) 6 2) 5 (nI k)) 8)) 11 0))) rfl ?_
  refine pm_mem (M' := pm_up (pm_up M m0 (pm_mo z m0 (upd (upd (upd (upd (upd (upd (upd (upd (upd (upd f 5 (nI k)) 6 0) 7 0) 7 7) 8 x) 6 2) 5 (nI k)) 9 ((upd (upd (upd (upd (upd (upd (upd f 5 (nI k)) 6 0) 7 0) 7 7) 8 x) 6 2) 5 (nI k)) 7)) 10 ((upd (upd (upd (upd (upd (upd (upd f 5 (nI k)) 6 0) 7 0) 7 7) 8 x) 6 2) 5 (nI k)) 8)) 11 0))) (m0 + 2) (.inl (kA 0, 91, .inl (va_cpy g gb 0 0 91)))) (by rw [pm_up_sw (a := m0 + 2) (b := m0) (by omega), pm_up_up]) ?_
  refine pm_mem (M' := pm_up (pm_up (pm_up M m0 (pm_mo z m0 (upd (upd (upd (upd (upd (upd (upd (upd (upd (upd f 5 (nI k)) 6 0) 7 0) 7 7) 8 x) 6 2) 5 (nI k)) 9 ((upd (upd (upd (upd (upd (upd (upd f 5 (nI k)) 6 0) 7 0) 7 7) 8 x) 6 2) 5 (nI k)) 7)) 10 ((upd (upd (upd (upd (upd (upd (upd f 5 (nI k)) 6 0) 7 0) 7 7) 8 x) 6 2) 5 (nI k)) 8)) 11 0))) (m0 + 2) (.inl (kA 0, 91, .inl (va_cpy g gb 0 0 91)))) (m0 + 1) (.inl (kA 0, 91, .inl (va_cpy (va_cpy g gb 0 0 91) g 0 0 91)))) rfl ?_
  refine pm_stk (st' := [.int 0]) rfl ?_
  exact pm_ireturn B dX13_setRule_14 rfl (by first | rfl | (apply pm_nz; first | assumption | decide | exact pm_in01 _ _ _ | simp)) ⟨rfl, rfl, rfl⟩ rfl rfl
set_option maxRecDepth 100000 in
set_option maxHeartbeats 4000000 in
theorem c_X13_setRule_s3 {l : Launch} {z : Nat} {D : va_G} {kA : Nat → ClassId} {kE : Nat → Nat} {nx : Nat} {M : pm_M} {k : Nat} (hk : k < 8) {m0 : Nat} {f : Nat → Int32} (hM : M m0 = some (pm_mo z m0 (upd f 5 (nI k)))) {g : Nat → Int32} (hg : M (m0 + 1) = some (.inl (kA 0, 91, .inl g))) {gb : Nat → Int32} (hgb : M (m0 + 2) = some (.inl (kA 0, 91, .inl gb))) {gp : Nat → Int32} (hgp : M (m0 + 4) = some (.inl (kA 0, 728, .inl gp))) {x : Int32} (h1 : (pm_in x 0 1) = 0) : pm_C l z D kA kE yX13_setRule cX13_setRule 2 (some .int) 3 0 0 [.ref (z + m0), .int x] nx M (pm_rt (some (.int 0)) nx (pm_up (pm_up (pm_up M m0 (pm_mo z m0 (upd (upd (upd (upd f 5 (nI k)) 6 0) 7 0) 6 1))) (m0 + 2) (.inl (kA 0, 91, .inl (va_cpy g gb 0 0 91)))) (m0 + 1) (.inl (kA 0, 91, .inl (va_cpy (va_cpy g gb 0 0 91) g 0 0 91))))) := by
  refine pm_mk (own := RX13) (nm := "setRule") mt_X13_setRule rfl rfl rfl rfl fun X B => ?_
  refine pm_loc (L' := [some (.ref (z + m0)), some (.int x)]) rfl ?_
  refine pm_aload_n B dX13_setRule_0 rfl ?_
  refine pm_cV (As := []) (mc2 := 0) (ms2 := 0) B rfl hM rfl (c_X13_keep (f := (upd f 5 (nI k))) (g := g) (gb := gb) hM hg hgb  ) mt_X13_keep sv_X13_91 dX13_setRule_1 rfl rfl rfl rfl rfl ?_
  refine pm_mem (M' := pm_up M m0 (pm_mo z m0 (upd (upd (upd f 5 (nI k)) 6 0) 7 0))) rfl ?_
  refine pm_mem (M' := pm_up (pm_up M m0 (pm_mo z m0 (upd (upd (upd f 5 (nI k)) 6 0) 7 0))) (m0 + 2) (.inl (kA 0, 91, .inl (va_cpy g gb 0 0 91)))) rfl ?_
  refine pm_stk (st' := []) rfl ?_
  refine pm_aload_n B dX13_setRule_4 rfl ?_
  refine pm_aload_n B dX13_setRule_5 rfl ?_
  refine pm_iload_n B dX13_setRule_6 rfl ?_
  refine pm_cV (As := [.int x]) (mc2 := 0) (ms2 := 0) B rfl ((pm_up_n (by omega)).trans pm_up_s) rfl (c_X13_doSetRule_3 (x := x) (f := (upd (upd (upd f 5 (nI k)) 6 0) 7 0)) (g := g) ((pm_up_n (by omega)).trans pm_up_s) ((pm_up_n (by omega)).trans ((pm_up_n (by omega)).trans hg))  h1) mt_X13_doSetRule sv_X13_124 dX13_setRule_7 rfl rfl rfl rfl rfl ?_
  refine pm_mem (M' := pm_up (pm_up (pm_up M m0 (pm_mo z m0 (upd (upd (upd f 5 (nI k)) 6 0) 7 0))) (m0 + 2) (.inl (kA 0, 91, .inl (va_cpy g gb 0 0 91)))) m0 (pm_mo z m0 (upd (upd (upd (upd f 5 (nI k)) 6 0) 7 0) 6 1))) rfl ?_
  refine pm_mem (M' := pm_up (pm_up M m0 (pm_mo z m0 (upd (upd (upd (upd f 5 (nI k)) 6 0) 7 0) 6 1))) (m0 + 2) (.inl (kA 0, 91, .inl (va_cpy g gb 0 0 91)))) (by rw [pm_up_sw (a := m0 + 2) (b := m0) (by omega), pm_up_up]) ?_
  refine pm_stk (st' := [.int 0, .ref (z + m0)]) rfl ?_
  refine pm_iconst (v := 0) B dX13_setRule_10 (by decide) ?_
  refine pm_cV (As := [.int 0, .int 0]) (mc2 := 0) (ms2 := 0) B rfl ((pm_up_n (by omega)).trans pm_up_s) rfl (c_X13_ends_s2 (x := 0) (y := 0) (k := k) (f := (upd (upd (upd (upd f 5 (nI k)) 6 0) 7 0) 6 1)) (g := g) (gb := (va_cpy g gb 0 0 91)) (gp := gp) ((pm_up_n (by omega)).trans pm_up_s) ((pm_up_n (by omega)).trans ((pm_up_n (by omega)).trans hg)) pm_up_s ((pm_up_n (by omega)).trans ((pm_up_n (by omega)).trans hgp)) (by first | assumption | omega) (by decide) (by decide)) mt_X13_ends sv_X13_97 dX13_setRule_11 rfl rfl rfl rfl rfl ?_
  refine pm_mem (M' := pm_up (pm_up (pm_up M m0 (pm_mo z m0 (upd (upd (upd (upd f 5 (nI k)) 6 0) 7 0) 6 1))) (m0 + 2) (.inl (kA 0, 91, .inl (va_cpy g gb 0 0 91)))) (m0 + 1) (.inl (kA 0, 91, .inl (va_cpy (va_cpy g gb 0 0 91) g 0 0 91)))) rfl ?_
  refine pm_stk (st' := [.int 0]) rfl ?_
  exact pm_ireturn B dX13_setRule_14 rfl (by first | rfl | (apply pm_nz; first | assumption | decide | exact pm_in01 _ _ _ | simp)) ⟨rfl, rfl, rfl⟩ rfl rfl
set_option maxRecDepth 100000 in
set_option maxHeartbeats 4000000 in
theorem c_X13_setRule_f1 {l : Launch} {z : Nat} {D : va_G} {kA : Nat → ClassId} {kE : Nat → Nat} {nx : Nat} {M : pm_M} {m0 : Nat} {f : Nat → Int32} (hM : M m0 = some (pm_mo z m0 (upd f 5 8))) {g : Nat → Int32} (hg : M (m0 + 1) = some (.inl (kA 0, 91, .inl g))) {gb : Nat → Int32} (hgb : M (m0 + 2) = some (.inl (kA 0, 91, .inl gb))) {gp : Nat → Int32} (hgp : M (m0 + 4) = some (.inl (kA 0, 728, .inl gp))) {x : Int32} (h1 : ¬ (pm_in x 0 1) = 0) (h2 : ¬ x = (g 1)) : pm_C l z D kA kE yX13_setRule cX13_setRule 2 (some .int) 3 0 0 [.ref (z + m0), .int x] nx M (pm_rt (some (.int (1 - x))) nx (pm_up (pm_up (pm_up (pm_up M m0 (pm_mo z m0 (upd (upd (upd (upd (upd (upd f 5 8) 6 0) 7 0) 5 8) 5 (8 - 1)) 5 ((8 - 1) + 1)))) (m0 + 2) (.inl (kA 0, 91, .inl (va_cpy g gb 0 0 91)))) (m0 + 1) (.inl (kA 0, 91, .inl (upd g 1 x)))) (m0 + 4) (.inl (kA 0, 728, .inl (va_cpy (va_cpy g gb 0 0 91) (va_cpy gp gp 91 0 637) 0 637 91))))) := by
  refine pm_mk (own := RX13) (nm := "setRule") mt_X13_setRule rfl rfl rfl rfl fun X B => ?_
  refine pm_loc (L' := [some (.ref (z + m0)), some (.int x)]) rfl ?_
  refine pm_aload_n B dX13_setRule_0 rfl ?_
  refine pm_cV (As := []) (mc2 := 0) (ms2 := 0) B rfl hM rfl (c_X13_keep (f := (upd f 5 8)) (g := g) (gb := gb) hM hg hgb  ) mt_X13_keep sv_X13_91 dX13_setRule_1 rfl rfl rfl rfl rfl ?_
  refine pm_mem (M' := pm_up M m0 (pm_mo z m0 (upd (upd (upd f 5 8) 6 0) 7 0))) rfl ?_
  refine pm_mem (M' := pm_up (pm_up M m0 (pm_mo z m0 (upd (upd (upd f 5 8) 6 0) 7 0))) (m0 + 2) (.inl (kA 0, 91, .inl (va_cpy g gb 0 0 91)))) rfl ?_
  refine pm_stk (st' := []) rfl ?_
  refine pm_aload_n B dX13_setRule_4 rfl ?_
  refine pm_aload_n B dX13_setRule_5 rfl ?_
  refine pm_iload_n B dX13_setRule_6 rfl ?_
  refine pm_cV (As := [.int x]) (mc2 := 0) (ms2 := 0) B rfl ((pm_up_n (by omega)).trans pm_up_s) rfl (c_X13_doSetRule_1 (x := x) (f := (upd (upd (upd f 5 8) 6 0) 7 0)) (g := g) ((pm_up_n (by omega)).trans pm_up_s) ((pm_up_n (by omega)).trans ((pm_up_n (by omega)).trans hg))  h1 h2) mt_X13_doSetRule sv_X13_124 dX13_setRule_7 rfl rfl rfl rfl rfl ?_
  refine pm_mem (M' := pm_up (pm_up (pm_up M m0 (pm_mo z m0 (upd (upd (upd f 5 8) 6 0) 7 0))) (m0 + 2) (.inl (kA 0, 91, .inl (va_cpy g gb 0 0 91)))) (m0 + 1) (.inl (kA 0, 91, .inl (upd g 1 x)))) rfl ?_
  refine pm_stk (st' := [.int (1 - x), .ref (z + m0)]) rfl ?_
  refine pm_iconst (v := 0) B dX13_setRule_10 (by decide) ?_
  refine pm_cV (As := [.int (1 - x), .int 0]) (mc2 := 0) (ms2 := 0) B rfl ((pm_up_n (by omega)).trans ((pm_up_n (by omega)).trans pm_up_s)) rfl (c_X13_ends_f1 (x := (1 - x)) (y := 0) (f := (upd (upd (upd f 5 8) 6 0) 7 0)) (g := (upd g 1 x)) (gb := (va_cpy g gb 0 0 91)) (gp := gp) ((pm_up_n (by omega)).trans ((pm_up_n (by omega)).trans pm_up_s)) pm_up_s ((pm_up_n (by omega)).trans pm_up_s) ((pm_up_n (by omega)).trans ((pm_up_n (by omega)).trans ((pm_up_n (by omega)).trans hgp)))  (by decide) (by decide)) mt_X13_ends sv_X13_97 dX13_setRule_11 rfl rfl rfl rfl rfl ?_
  refine pm_mem (M' := pm_up (pm_up (pm_up (pm_up M m0 (pm_mo z m0 (upd (upd (upd f 5 8) 6 0) 7 0))) (m0 + 2) (.inl (kA 0, 91, .inl (va_cpy g gb 0 0 91)))) (m0 + 1) (.inl (kA 0, 91, .inl (upd g 1 x)))) (m0 + 4) (.inl (kA 0, 728, .inl (va_cpy (va_cpy g gb 0 0 91) (va_cpy gp gp 91 0 637) 0 637 91)))) rfl ?_
  refine pm_mem (M' := pm_up (pm_up (pm_up (pm_up (pm_up M m0 (pm_mo z m0 (upd (upd (upd f 5 8) 6 0) 7 0))) (m0 + 2) (.inl (kA 0, 91, .inl (va_cpy g gb 0 0 91)))) (m0 + 1) (.inl (kA 0, 91, .inl (upd g 1 x)))) (m0 + 4) (.inl (kA 0, 728, .inl (va_cpy (va_cpy g gb 0 0 91) (va_cpy gp gp 91 0 637) 0 637 91)))) m0 (pm_mo z m0 (upd (upd (upd (upd (upd (upd f 5 8) 6 0) 7 0) 5 8) 5 (8 - 1)) 5 ((8 - 1) + 1)))) rfl ?_
  refine pm_mem (M' := pm_up (pm_up (pm_up (pm_up M m0 (pm_mo z m0 (upd (upd (upd (upd (upd (upd f 5 8) 6 0) 7 0) 5 8) 5 (8 - 1)) 5 ((8 - 1) + 1)))) (m0 + 2) (.inl (kA 0, 91, .inl (va_cpy g gb 0 0 91)))) (m0 + 1) (.inl (kA 0, 91, .inl (upd g 1 x)))) (m0 + 4) (.inl (kA 0, 728, .inl (va_cpy (va_cpy g gb 0 0 91) (va_cpy gp gp 91 0 637) 0 637 91)))) (by rw [pm_up_sw (a := m0 + 4) (b := m0) (by omega), pm_up_sw (a := m0 + 1) (b := m0) (by omega), pm_up_sw (a := m0 + 2) (b := m0) (by omega), pm_up_up]) ?_
  refine pm_stk (st' := [.int (1 - x)]) rfl ?_
  exact pm_ireturn B dX13_setRule_14 rfl (by first | rfl | (apply pm_nz; first | assumption | decide | exact pm_in01 _ _ _ | simp)) ⟨rfl, rfl, rfl⟩ rfl rfl
set_option maxRecDepth 100000 in
set_option maxHeartbeats 4000000 in
theorem c_X13_setRule_f2 {l : Launch} {z : Nat} {D : va_G} {kA : Nat → ClassId} {kE : Nat → Nat} {nx : Nat} {M : pm_M} {m0 : Nat} {f : Nat → Int32} (hM : M m0 = some (pm_mo z m0 (upd f 5 8))) {g : Nat → Int32} (hg : M (m0 + 1) = some (.inl (kA 0, 91, .inl g))) {gb : Nat → Int32} (hgb : M (m0 + 2) = some (.inl (kA 0, 91, .inl gb))) {gp : Nat → Int32} (hgp : M (m0 + 4) = some (.inl (kA 0, 728, .inl gp))) {x : Int32} (h1 : ¬ (pm_in x 0 1) = 0) (h2 : x = (g 1)) : pm_C l z D kA kE yX13_setRule cX13_setRule 2 (some .int) 3 0 0 [.ref (z + m0), .int x] nx M (pm_rt (some (.int 0)) nx (pm_up (pm_up (pm_up M m0 (pm_mo z m0 (upd (upd (upd (upd (upd (upd (upd (upd (upd (upd f 5 8) 6 0) 7 0) 7 7) 8 x) 6 2) 5 8) 9 ((upd (upd (upd (upd (upd (upd (upd f 5 8) 6 0) 7 0) 7 7) 8 x) 6 2) 5 8) 7)) 10 ((upd (upd (upd (upd (upd (upd (upd f 5 8) 6 0) 7 0) 7 7) 8 x) 6 2) 5 8) 8)) 11 0))) (m0 + 2) (.inl (kA 0, 91, .inl (va_cpy g gb 0 0 91)))) (m0 + 1) (.inl (kA 0, 91, .inl (va_cpy (va_cpy g gb 0 0 91) g 0 0 91))))) := by
  refine pm_mk (own := RX13) (nm := "setRule") mt_X13_setRule rfl rfl rfl rfl fun X B => ?_
  refine pm_loc (L' := [some (.ref (z + m0)), some (.int x)]) rfl ?_
  refine pm_aload_n B dX13_setRule_0 rfl ?_
  refine pm_cV (As := []) (mc2 := 0) (ms2 := 0) B rfl hM rfl (c_X13_keep (f := (upd f 5 8)) (g := g) (gb := gb) hM hg hgb  ) mt_X13_keep sv_X13_91 dX13_setRule_1 rfl rfl rfl rfl rfl ?_
  refine pm_mem (M' := pm_up M m0 (pm_mo z m0 (upd (upd (upd f 5 8) 6 0) 7 0))) rfl ?_
  refine pm_mem (M' := pm_up (pm_up M m0 (pm_mo z m0 (upd (upd (upd f 5 8) 6 0) 7 0))) (m0 + 2) (.inl (kA 0, 91, .inl (va_cpy g gb 0 0 91)))) rfl ?_
  refine pm_stk (st' := []) rfl ?_
  refine pm_aload_n B dX13_setRule_4 rfl ?_
  refine pm_aload_n B dX13_setRule_5 rfl ?_
  refine pm_iload_n B dX13_setRule_6 rfl ?_
  refine pm_cV (As := [.int x]) (mc2 := 0) (ms2 := 0) B rfl ((pm_up_n (by omega)).trans pm_up_s) rfl (c_X13_doSetRule_2 (x := x) (f := (upd (upd (upd f 5 8) 6 0) 7 0)) (g := g) ((pm_up_n (by omega)).trans pm_up_s) ((pm_up_n (by omega)).trans ((pm_up_n (by omega)).trans hg))  h1 h2) mt_X13_doSetRule sv_X13_124 dX13_setRule_7 rfl rfl rfl rfl rfl ?_
  refine pm_mem (M' := pm_up (pm_up (pm_up M m0 (pm_mo z m0 (upd (upd (upd f 5 8) 6 0) 7 0))) (m0 + 2) (.inl (kA 0, 91, .inl (va_cpy g gb 0 0 91)))) m0 (pm_mo z m0 (upd (upd (upd (upd (upd (upd f 5 8) 6 0) 7 0) 7 7) 8 x) 6 2))) rfl ?_
  refine pm_mem (M' := pm_up (pm_up M m0 (pm_mo z m0 (upd (upd (upd (upd (upd (upd f 5 8) 6 0) 7 0) 7 7) 8 x) 6 2))) (m0 + 2) (.inl (kA 0, 91, .inl (va_cpy g gb 0 0 91)))) (by rw [pm_up_sw (a := m0 + 2) (b := m0) (by omega), pm_up_up]) ?_
  refine pm_stk (st' := [.int 0, .ref (z + m0)]) rfl ?_
  refine pm_iconst (v := 0) B dX13_setRule_10 (by decide) ?_
  refine pm_cV (As := [.int 0, .int 0]) (mc2 := 0) (ms2 := 0) B rfl ((pm_up_n (by omega)).trans pm_up_s) rfl (c_X13_ends_f4 (x := 0) (y := 0) (f := (upd (upd (upd (upd (upd (upd f 5 8) 6 0) 7 0) 7 7) 8 x) 6 2)) (g := g) (gb := (va_cpy g gb 0 0 91)) (gp := gp) ((pm_up_n (by omega)).trans pm_up_s) ((pm_up_n (by omega)).trans ((pm_up_n (by omega)).trans hg)) pm_up_s ((pm_up_n (by omega)).trans ((pm_up_n (by omega)).trans hgp))  (by decide) (by decide)) mt_X13_ends sv_X13_97 dX13_setRule_11 rfl rfl rfl rfl rfl ?_
  refine pm_mem (M' := pm_up (pm_up (pm_up M m0 (pm_mo z m0 (upd (upd (upd (upd (upd (upd f 5 8) 6 0) 7 0) 7 7) 8 x) 6 2))) (m0 + 2) (.inl (kA 0, 91, .inl (va_cpy g gb 0 0 91)))) m0 (pm_mo z m0 (upd (upd (upd (upd (upd (upd (upd (upd (upd (upd f 5 8) 6 0) 7 0) 7 7) 8 x) 6 2) 5 8) 9 ((upd (upd (upd (upd (upd (upd (upd f 5 8) 6 0) 7 0) 7 7) 8 x) 6 2) 5 8) 7)) 10 ((upd (upd (upd (upd (upd (upd (upd f 5 8) 6 0) 7 0) 7 7) 8 x) 6 2) 5 8) 8)) 11 0))) rfl ?_
  refine pm_mem (M' := pm_up (pm_up M m0 (pm_mo z m0 (upd (upd (upd (upd (upd (upd (upd (upd (upd (upd f 5 8) 6 0) 7 0) 7 7) 8 x) 6 2) 5 8) 9 ((upd (upd (upd (upd (upd (upd (upd f 5 8) 6 0) 7 0) 7 7) 8 x) 6 2) 5 8) 7)) 10 ((upd (upd (upd (upd (upd (upd (upd f 5 8) 6 0) 7 0) 7 7) 8 x) 6 2) 5 8) 8)) 11 0))) (m0 + 2) (.inl (kA 0, 91, .inl (va_cpy g gb 0 0 91)))) (by rw [pm_up_sw (a := m0 + 2) (b := m0) (by omega), pm_up_up]) ?_
  refine pm_mem (M' := pm_up (pm_up (pm_up M m0 (pm_mo z m0 (upd (upd (upd (upd (upd (upd (upd (upd (upd (upd f 5 8) 6 0) 7 0) 7 7) 8 x) 6 2) 5 8) 9 ((upd (upd (upd (upd (upd (upd (upd f 5 8) 6 0) 7 0) 7 7) 8 x) 6 2) 5 8) 7)) 10 ((upd (upd (upd (upd (upd (upd (upd f 5 8) 6 0) 7 0) 7 7) 8 x) 6 2) 5 8) 8)) 11 0))) (m0 + 2) (.inl (kA 0, 91, .inl (va_cpy g gb 0 0 91)))) (m0 + 1) (.inl (kA 0, 91, .inl (va_cpy (va_cpy g gb 0 0 91) g 0 0 91)))) rfl ?_
  refine pm_stk (st' := [.int 0]) rfl ?_
  exact pm_ireturn B dX13_setRule_14 rfl (by first | rfl | (apply pm_nz; first | assumption | decide | exact pm_in01 _ _ _ | simp)) ⟨rfl, rfl, rfl⟩ rfl rfl
set_option maxRecDepth 100000 in
set_option maxHeartbeats 4000000 in
theorem c_X13_setRule_f3 {l : Launch} {z : Nat} {D : va_G} {kA : Nat → ClassId} {kE : Nat → Nat} {nx : Nat} {M : pm_M} {m0 : Nat} {f : Nat → Int32} (hM : M m0 = some (pm_mo z m0 (upd f 5 8))) {g : Nat → Int32} (hg : M (m0 + 1) = some (.inl (kA 0, 91, .inl g))) {gb : Nat → Int32} (hgb : M (m0 + 2) = some (.inl (kA 0, 91, .inl gb))) {gp : Nat → Int32} (hgp : M (m0 + 4) = some (.inl (kA 0, 728, .inl gp))) {x : Int32} (h1 : (pm_in x 0 1) = 0) : pm_C l z D kA kE yX13_setRule cX13_setRule 2 (some .int) 3 0 0 [.ref (z + m0), .int x] nx M (pm_rt (some (.int 0)) nx (pm_up (pm_up (pm_up M m0 (pm_mo z m0 (upd (upd (upd (upd f 5 8) 6 0) 7 0) 6 1))) (m0 + 2) (.inl (kA 0, 91, .inl (va_cpy g gb 0 0 91)))) (m0 + 1) (.inl (kA 0, 91, .inl (va_cpy (va_cpy g gb 0 0 91) g 0 0 91))))) := by
  refine pm_mk (own := RX13) (nm := "setRule") mt_X13_setRule rfl rfl rfl rfl fun X B => ?_
  refine pm_loc (L' := [some (.ref (z + m0)), some (.int x)]) rfl ?_
  refine pm_aload_n B dX13_setRule_0 rfl ?_
  refine pm_cV (As := []) (mc2 := 0) (ms2 := 0) B rfl hM rfl (c_X13_keep (f := (upd f 5 8)) (g := g) (gb := gb) hM hg hgb  ) mt_X13_keep sv_X13_91 dX13_setRule_1 rfl rfl rfl rfl rfl ?_
  refine pm_mem (M' := pm_up M m0 (pm_mo z m0 (upd (upd (upd f 5 8) 6 0) 7 0))) rfl ?_
  refine pm_mem (M' := pm_up (pm_up M m0 (pm_mo z m0 (upd (upd (upd f 5 8) 6 0) 7 0))) (m0 + 2) (.inl (kA 0, 91, .inl (va_cpy g gb 0 0 91)))) rfl ?_
  refine pm_stk (st' := []) rfl ?_
  refine pm_aload_n B dX13_setRule_4 rfl ?_
  refine pm_aload_n B dX13_setRule_5 rfl ?_
  refine pm_iload_n B dX13_setRule_6 rfl ?_
  refine pm_cV (As := [.int x]) (mc2 := 0) (ms2 := 0) B rfl ((pm_up_n (by omega)).trans pm_up_s) rfl (c_X13_doSetRule_3 (x := x) (f := (upd (upd (upd f 5 8) 6 0) 7 0)) (g := g) ((pm_up_n (by omega)).trans pm_up_s) ((pm_up_n (by omega)).trans ((pm_up_n (by omega)).trans hg))  h1) mt_X13_doSetRule sv_X13_124 dX13_setRule_7 rfl rfl rfl rfl rfl ?_
  refine pm_mem (M' := pm_up (pm_up (pm_up M m0 (pm_mo z m0 (upd (upd (upd f 5 8) 6 0) 7 0))) (m0 + 2) (.inl (kA 0, 91, .inl (va_cpy g gb 0 0 91)))) m0 (pm_mo z m0 (upd (upd (upd (upd f 5 8) 6 0) 7 0) 6 1))) rfl ?_
  refine pm_mem (M' := pm_up (pm_up M m0 (pm_mo z m0 (upd (upd (upd (upd f 5 8) 6 0) 7 0) 6 1))) (m0 + 2) (.inl (kA 0, 91, .inl (va_cpy g gb 0 0 91)))) (by rw [pm_up_sw (a := m0 + 2) (b := m0) (by omega), pm_up_up]) ?_
  refine pm_stk (st' := [.int 0, .ref (z + m0)]) rfl ?_
  refine pm_iconst (v := 0) B dX13_setRule_10 (by decide) ?_
  refine pm_cV (As := [.int 0, .int 0]) (mc2 := 0) (ms2 := 0) B rfl ((pm_up_n (by omega)).trans pm_up_s) rfl (c_X13_ends_f2 (x := 0) (y := 0) (f := (upd (upd (upd (upd f 5 8) 6 0) 7 0) 6 1)) (g := g) (gb := (va_cpy g gb 0 0 91)) (gp := gp) ((pm_up_n (by omega)).trans pm_up_s) ((pm_up_n (by omega)).trans ((pm_up_n (by omega)).trans hg)) pm_up_s ((pm_up_n (by omega)).trans ((pm_up_n (by omega)).trans hgp))  (by decide) (by decide)) mt_X13_ends sv_X13_97 dX13_setRule_11 rfl rfl rfl rfl rfl ?_
  refine pm_mem (M' := pm_up (pm_up (pm_up M m0 (pm_mo z m0 (upd (upd (upd (upd f 5 8) 6 0) 7 0) 6 1))) (m0 + 2) (.inl (kA 0, 91, .inl (va_cpy g gb 0 0 91)))) (m0 + 1) (.inl (kA 0, 91, .inl (va_cpy (va_cpy g gb 0 0 91) g 0 0 91)))) rfl ?_
  refine pm_stk (st' := [.int 0]) rfl ?_
  exact pm_ireturn B dX13_setRule_14 rfl (by first | rfl | (apply pm_nz; first | assumption | decide | exact pm_in01 _ _ _ | simp)) ⟨rfl, rfl, rfl⟩ rfl rfl
set_option maxRecDepth 100000 in
set_option maxHeartbeats 4000000 in
theorem c_X13_setSeed_s1 {l : Launch} {z : Nat} {D : va_G} {kA : Nat → ClassId} {kE : Nat → Nat} {nx : Nat} {M : pm_M} {k : Nat} (hk : k < 8) {m0 : Nat} {f : Nat → Int32} (hM : M m0 = some (pm_mo z m0 (upd f 5 (nI k)))) {g : Nat → Int32} (hg : M (m0 + 1) = some (.inl (kA 0, 91, .inl g))) {gb : Nat → Int32} (hgb : M (m0 + 2) = some (.inl (kA 0, 91, .inl gb))) {gp : Nat → Int32} (hgp : M (m0 + 4) = some (.inl (kA 0, 728, .inl gp))) {x : Int32} (h1 : ¬ (pm_in x 0 1023) = 0) : pm_C l z D kA kE yX13_setSeed cX13_setSeed 2 (some .int) 3 0 0 [.ref (z + m0), .int x] nx M (pm_rt (some (.int (g 2))) nx (pm_up (pm_up (pm_up (pm_up M m0 (pm_mo z m0 (upd (upd (upd (upd (upd f 5 (nI k)) 6 0) 7 0) 5 (nI k)) 5 ((nI k) + 1)))) (m0 + 2) (.inl (kA 0, 91, .inl (va_cpy g gb 0 0 91)))) (m0 + 1) (.inl (kA 0, 91, .inl (upd g 2 x)))) (m0 + 4) (.inl (kA 0, 728, .inl (va_cpy (va_cpy g gb 0 0 91) gp 0 (91 * k) 91))))) := by
  refine pm_mk (own := RX13) (nm := "setSeed") mt_X13_setSeed rfl rfl rfl rfl fun X B => ?_
  refine pm_loc (L' := [some (.ref (z + m0)), some (.int x)]) rfl ?_
  refine pm_aload_n B dX13_setSeed_0 rfl ?_
  refine pm_cV (As := []) (mc2 := 0) (ms2 := 0) B rfl hM rfl (c_X13_keep (f := (upd f 5 (nI k))) (g := g) (gb := gb) hM hg hgb  ) mt_X13_keep sv_X13_91 dX13_setSeed_1 rfl rfl rfl rfl rfl ?_
  refine pm_mem (M' := pm_up M m0 (pm_mo z m0 (upd (upd (upd f 5 (nI k)) 6 0) 7 0))) rfl ?_
  refine pm_mem (M' := pm_up (pm_up M m0 (pm_mo z m0 (upd (upd (upd f 5 (nI k)) 6 0) 7 0))) (m0 + 2) (.inl (kA 0, 91, .inl (va_cpy g gb 0 0 91)))) rfl ?_
  refine pm_stk (st' := []) rfl ?_
  refine pm_aload_n B dX13_setSeed_4 rfl ?_
  refine pm_aload_n B dX13_setSeed_5 rfl ?_
  refine pm_iload_n B dX13_setSeed_6 rfl ?_
  refine pm_cV (As := [.int x]) (mc2 := 0) (ms2 := 0) B rfl ((pm_up_n (by omega)).trans pm_up_s) rfl (c_X13_doSetSeed_1 (x := x) (f := (upd (upd (upd f 5 (nI k)) 6 0) 7 0)) (g := g) ((pm_up_n (by omega)).trans pm_up_s) ((pm_up_n (by omega)).trans ((pm_up_n (by omega)).trans hg))  h1) mt_X13_doSetSeed sv_X13_150 dX13_setSeed_7 rfl rfl rfl rfl rfl ?_
  refine pm_mem (M' := pm_up (pm_up (pm_up M m0 (pm_mo z m0 (upd (upd (upd f 5 (nI k)) 6 0) 7 0))) (m0 + 2) (.inl (kA 0, 91, .inl (va_cpy g gb 0 0 91)))) (m0 + 1) (.inl (kA 0, 91, .inl (upd g 2 x)))) rfl ?_
  refine pm_stk (st' := [.int (g 2), .ref (z + m0)]) rfl ?_
  refine pm_iconst (v := 0) B dX13_setSeed_10 (by decide) ?_
  refine pm_cV (As := [.int (g 2), .int 0]) (mc2 := 0) (ms2 := 0) B rfl ((pm_up_n (by omega)).trans ((pm_up_n (by omega)).trans pm_up_s)) rfl (c_X13_ends_s1 (x := (g 2)) (y := 0) (k := k) (f := (upd (upd (upd f 5 (nI k)) 6 0) 7 0)) (g := (upd g 2 x)) (gb := (va_cpy g gb 0 0 91)) (gp := gp) ((pm_up_n (by omega)).trans ((pm_up_n (by omega)).trans pm_up_s)) pm_up_s ((pm_up_n (by omega)).trans pm_up_s) ((pm_up_n (by omega)).trans ((pm_up_n (by omega)).trans ((pm_up_n (by omega)).trans hgp))) (by first | assumption | omega) (by decide) (by decide)) mt_X13_ends sv_X13_97 dX13_setSeed_11 rfl rfl rfl rfl rfl ?_
  refine pm_mem (M' := pm_up (pm_up (pm_up (pm_up M m0 (pm_mo z m0 (upd (upd (upd f 5 (nI k)) 6 0) 7 0))) (m0 + 2) (.inl (kA 0, 91, .inl (va_cpy g gb 0 0 91)))) (m0 + 1) (.inl (kA 0, 91, .inl (upd g 2 x)))) (m0 + 4) (.inl (kA 0, 728, .inl (va_cpy (va_cpy g gb 0 0 91) gp 0 (91 * k) 91)))) rfl ?_
  refine pm_mem (M' := pm_up (pm_up (pm_up (pm_up (pm_up M m0 (pm_mo z m0 (upd (upd (upd f 5 (nI k)) 6 0) 7 0))) (m0 + 2) (.inl (kA 0, 91, .inl (va_cpy g gb 0 0 91)))) (m0 + 1) (.inl (kA 0, 91, .inl (upd g 2 x)))) (m0 + 4) (.inl (kA 0, 728, .inl (va_cpy (va_cpy g gb 0 0 91) gp 0 (91 * k) 91)))) m0 (pm_mo z m0 (upd (upd (upd (upd (upd f 5 (nI k)) 6 0) 7 0) 5 (nI k)) 5 ((nI k) + 1)))) rfl ?_
  refine pm_mem (M' := pm_up (pm_up (pm_up (pm_up M m0 (pm_mo z m0 (upd (upd (upd (upd (upd f 5 (nI k)) 6 0) 7 0) 5 (nI k)) 5 ((nI k) + 1)))) (m0 + 2) (.inl (kA 0, 91, .inl (va_cpy g gb 0 0 91)))) (m0 + 1) (.inl (kA 0, 91, .inl (upd g 2 x)))) (m0 + 4) (.inl (kA 0, 728, .inl (va_cpy (va_cpy g gb 0 0 91) gp 0 (91 * k) 91)))) (by rw [pm_up_sw (a := m0 + 4) (b := m0) (by omega), pm_up_sw (a := m0 + 1) (b := m0) (by omega), pm_up_sw (a := m0 + 2) (b := m0) (by omega), pm_up_up]) ?_
  refine pm_stk (st' := [.int (g 2)]) rfl ?_
  exact pm_ireturn B dX13_setSeed_14 rfl (by first | rfl | (apply pm_nz; first | assumption | decide | exact pm_in01 _ _ _ | simp)) ⟨rfl, rfl, rfl⟩ rfl rfl
set_option maxRecDepth 100000 in
set_option maxHeartbeats 4000000 in
theorem c_X13_setSeed_s2 {l : Launch} {z : Nat} {D : va_G} {kA : Nat → ClassId} {kE : Nat → Nat} {nx : Nat} {M : pm_M} {k : Nat} (hk : k < 8) {m0 : Nat} {f : Nat → Int32} (hM : M m0 = some (pm_mo z m0 (upd f 5 (nI k)))) {g : Nat → Int32} (hg : M (m0 + 1) = some (.inl (kA 0, 91, .inl g))) {gb : Nat → Int32} (hgb : M (m0 + 2) = some (.inl (kA 0, 91, .inl gb))) {gp : Nat → Int32} (hgp : M (m0 + 4) = some (.inl (kA 0, 728, .inl gp))) {x : Int32} (h1 : (pm_in x 0 1023) = 0) : pm_C l z D kA kE yX13_setSeed cX13_setSeed 2 (some .int) 3 0 0 [.ref (z + m0), .int x] nx M (pm_rt (some (.int 0)) nx (pm_up (pm_up (pm_up M m0 (pm_mo z m0 (upd (upd (upd (upd f 5 (nI k)) 6 0) 7 0) 6 1))) (m0 + 2) (.inl (kA 0, 91, .inl (va_cpy g gb 0 0 91)))) (m0 + 1) (.inl (kA 0, 91, .inl (va_cpy (va_cpy g gb 0 0 91) g 0 0 91))))) := by
  refine pm_mk (own := RX13) (nm := "setSeed") mt_X13_setSeed rfl rfl rfl rfl fun X B => ?_
  refine pm_loc (L' := [some (.ref (z + m0)), some (.int x)]) rfl ?_
  refine pm_aload_n B dX13_setSeed_0 rfl ?_
  refine pm_cV (As := []) (mc2 := 0) (ms2 := 0) B rfl hM rfl (c_X13_keep (f := (upd f 5 (nI k))) (g := g) (gb := gb) hM hg hgb  ) mt_X13_keep sv_X13_91 dX13_setSeed_1 rfl rfl rfl rfl rfl ?_
  refine pm_mem (M' := pm_up M m0 (pm_mo z m0 (upd (upd (upd f 5 (nI k)) 6 0) 7 0))) rfl ?_
  refine pm_mem (M' := pm_up (pm_up M m0 (pm_mo z m0 (upd (upd (upd f 5 (nI k)) 6 0) 7 0))) (m0 + 2) (.inl (kA 0, 91, .inl (va_cpy g gb 0 0 91)))) rfl ?_
  refine pm_stk (st' := []) rfl ?_
  refine pm_aload_n B dX13_setSeed_4 rfl ?_
  refine pm_aload_n B dX13_setSeed_5 rfl ?_
  refine pm_iload_n B dX13_setSeed_6 rfl ?_
  refine pm_cV (As := [.int x]) (mc2 := 0) (ms2 := 0) B rfl ((pm_up_n (by omega)).trans pm_up_s) rfl (c_X13_doSetSeed_2 (x := x) (f := (upd (upd (upd f 5 (nI k)) 6 0) 7 0)) (g := g) ((pm_up_n (by omega)).trans pm_up_s) ((pm_up_n (by omega)).trans ((pm_up_n (by omega)).trans hg))  h1) mt_X13_doSetSeed sv_X13_150 dX13_setSeed_7 rfl rfl rfl rfl rfl ?_
  refine pm_mem (M' := pm_up (pm_up (pm_up M m0 (pm_mo z m0 (upd (upd (upd f 5 (nI k)) 6 0) 7 0))) (m0 + 2) (.inl (kA 0, 91, .inl (va_cpy g gb 0 0 91)))) m0 (pm_mo z m0 (upd (upd (upd (upd f 5 (nI k)) 6 0) 7 0) 6 1))) rfl ?_
  refine pm_mem (M' := pm_up (pm_up M m0 (pm_mo z m0 (upd (upd (upd (upd f 5 (nI k)) 6 0) 7 0) 6 1))) (m0 + 2) (.inl (kA 0, 91, .inl (va_cpy g gb 0 0 91)))) (by rw [pm_up_sw (a := m0 + 2) (b := m0) (by omega), pm_up_up]) ?_
  refine pm_stk (st' := [.int 0, .ref (z + m0)]) rfl ?_
  refine pm_iconst (v := 0) B dX13_setSeed_10 (by decide) ?_
  refine pm_cV (As := [.int 0, .int 0]) (mc2 := 0) (ms2 := 0) B rfl ((pm_up_n (by omega)).trans pm_up_s) rfl (c_X13_ends_s2 (x := 0) (y := 0) (k := k) (f := (upd (upd (upd (upd f 5 (nI k)) 6 0) 7 0) 6 1)) (g := g) (gb := (va_cpy g gb 0 0 91)) (gp := gp) ((pm_up_n (by omega)).trans pm_up_s) ((pm_up_n (by omega)).trans ((pm_up_n (by omega)).trans hg)) pm_up_s ((pm_up_n (by omega)).trans ((pm_up_n (by omega)).trans hgp)) (by first | assumption | omega) (by decide) (by decide)) mt_X13_ends sv_X13_97 dX13_setSeed_11 rfl rfl rfl rfl rfl ?_
  refine pm_mem (M' := pm_up (pm_up (pm_up M m0 (pm_mo z m0 (upd (upd (upd (upd f 5 (nI k)) 6 0) 7 0) 6 1))) (m0 + 2) (.inl (kA 0, 91, .inl (va_cpy g gb 0 0 91)))) (m0 + 1) (.inl (kA 0, 91, .inl (va_cpy (va_cpy g gb 0 0 91) g 0 0 91)))) rfl ?_
  refine pm_stk (st' := [.int 0]) rfl ?_
  exact pm_ireturn B dX13_setSeed_14 rfl (by first | rfl | (apply pm_nz; first | assumption | decide | exact pm_in01 _ _ _ | simp)) ⟨rfl, rfl, rfl⟩ rfl rfl
set_option maxRecDepth 100000 in
set_option maxHeartbeats 4000000 in
theorem c_X13_setSeed_f1 {l : Launch} {z : Nat} {D : va_G} {kA : Nat → ClassId} {kE : Nat → Nat} {nx : Nat} {M : pm_M} {m0 : Nat} {f : Nat → Int32} (hM : M m0 = some (pm_mo z m0 (upd f 5 8))) {g : Nat → Int32} (hg : M (m0 + 1) = some (.inl (kA 0, 91, .inl g))) {gb : Nat → Int32} (hgb : M (m0 + 2) = some (.inl (kA 0, 91, .inl gb))) {gp : Nat → Int32} (hgp : M (m0 + 4) = some (.inl (kA 0, 728, .inl gp))) {x : Int32} (h1 : ¬ (pm_in x 0 1023) = 0) : pm_C l z D kA kE yX13_setSeed cX13_setSeed 2 (some .int) 3 0 0 [.ref (z + m0), .int x] nx M (pm_rt (some (.int (g 2))) nx (pm_up (pm_up (pm_up (pm_up M m0 (pm_mo z m0 (upd (upd (upd (upd (upd (upd f 5 8) 6 0) 7 0) 5 8) 5 (8 - 1)) 5 ((8 - 1) + 1)))) (m0 + 2) (.inl (kA 0, 91, .inl (va_cpy g gb 0 0 91)))) (m0 + 1) (.inl (kA 0, 91, .inl (upd g 2 x)))) (m0 + 4) (.inl (kA 0, 728, .inl (va_cpy (va_cpy g gb 0 0 91) (va_cpy gp gp 91 0 637) 0 637 91))))) := by
  refine pm_mk (own := RX13) (nm := "setSeed") mt_X13_setSeed rfl rfl rfl rfl fun X B => ?_
  refine pm_loc (L' := [some (.ref (z + m0)), some (.int x)]) rfl ?_
  refine pm_aload_n B dX13_setSeed_0 rfl ?_
  refine pm_cV (As := []) (mc2 := 0) (ms2 := 0) B rfl hM rfl (c_X13_keep (f := (upd f 5 8)) (g := g) (gb := gb) hM hg hgb  ) mt_X13_keep sv_X13_91 dX13_setSeed_1 rfl rfl rfl rfl rfl ?_
  refine pm_mem (M' := pm_up M m0 (pm_mo z m0 (upd (upd (upd f 5 8) 6 0) 7 0))) rfl ?_
  refine pm_mem (M' := pm_up (pm_up M m0 (pm_mo z m0 (upd (upd (upd f 5 8) 6 0) 7 0))) (m0 + 2) (.inl (kA 0, 91, .inl (va_cpy g gb 0 0 91)))) rfl ?_
  refine pm_stk (st' := []) rfl ?_
  refine pm_aload_n B dX13_setSeed_4 rfl ?_
  refine pm_aload_n B dX13_setSeed_5 rfl ?_
  refine pm_iload_n B dX13_setSeed_6 rfl ?_
  refine pm_cV (As := [.int x]) (mc2 := 0) (ms2 := 0) B rfl ((pm_up_n (by omega)).trans pm_up_s) rfl (c_X13_doSetSeed_1 (x := x) (f := (upd (upd (upd f 5 8) 6 0) 7 0)) (g := g) ((pm_up_n (by omega)).trans pm_up_s) ((pm_up_n (by omega)).trans ((pm_up_n (by omega)).trans hg))  h1) mt_X13_doSetSeed sv_X13_150 dX13_setSeed_7 rfl rfl rfl rfl rfl ?_
  refine pm_mem (M' := pm_up (pm_up (pm_up M m0 (pm_mo z m0 (upd (upd (upd f 5 8) 6 0) 7 0))) (m0 + 2) (.inl (kA 0, 91, .inl (va_cpy g gb 0 0 91)))) (m0 + 1) (.inl (kA 0, 91, .inl (upd g 2 x)))) rfl ?_
  refine pm_stk (st' := [.int (g 2), .ref (z + m0)]) rfl ?_
  refine pm_iconst (v := 0) B dX13_setSeed_10 (by decide) ?_
  refine pm_cV (As := [.int (g 2), .int 0]) (mc2 := 0) (ms2 := 0) B rfl ((pm_up_n (by omega)).trans ((pm_up_n (by omega)).trans pm_up_s)) rfl (c_X13_ends_f1 (x := (g 2)) (y := 0) (f := (upd (upd (upd f 5 8) 6 0) 7 0)) (g := (upd g 2 x)) (gb := (va_cpy g gb 0 0 91)) (gp := gp) ((pm_up_n (by omega)).trans ((pm_up_n (by omega)).trans pm_up_s)) pm_up_s ((pm_up_n (by omega)).trans pm_up_s) ((pm_up_n (by omega)).trans ((pm_up_n (by omega)).trans ((pm_up_n (by omega)).trans hgp)))  (by decide) (by decide)) mt_X13_ends sv_X13_97 dX13_setSeed_11 rfl rfl rfl rfl rfl ?_
  refine pm_mem (M' := pm_up (pm_up (pm_up (pm_up M m0 (pm_mo z m0 (upd (upd (upd f 5 8) 6 0) 7 0))) (m0 + 2) (.inl (kA 0, 91, .inl (va_cpy g gb 0 0 91)))) (m0 + 1) (.inl (kA 0, 91, .inl (upd g 2 x)))) (m0 + 4) (.inl (kA 0, 728, .inl (va_cpy (va_cpy g gb 0 0 91) (va_cpy gp gp 91 0 637) 0 637 91)))) rfl ?_
  refine pm_mem (M' := pm_up (pm_up (pm_up (pm_up (pm_up M m0 (pm_mo z m0 (upd (upd (upd f 5 8) 6 0) 7 0))) (m0 + 2) (.inl (kA 0, 91, .inl (va_cpy g gb 0 0 91)))) (m0 + 1) (.inl (kA 0, 91, .inl (upd g 2 x)))) (m0 + 4) (.inl (kA 0, 728, .inl (va_cpy (va_cpy g gb 0 0 91) (va_cpy gp gp 91 0 637) 0 637 91)))) m0 (pm_mo z m0 (upd (upd (upd (upd (upd (upd f 5 8) 6 0) 7 0) 5 8) 5 (8 - 1)) 5 ((8 - 1) + 1)))) rfl ?_
  refine pm_mem (M' := pm_up (pm_up (pm_up (pm_up M m0 (pm_mo z m0 (upd (upd (upd (upd (upd (upd f 5 8) 6 0) 7 0) 5 8) 5 (8 - 1)) 5 ((8 - 1) + 1)))) (m0 + 2) (.inl (kA 0, 91, .inl (va_cpy g gb 0 0 91)))) (m0 + 1) (.inl (kA 0, 91, .inl (upd g 2 x)))) (m0 + 4) (.inl (kA 0, 728, .inl (va_cpy (va_cpy g gb 0 0 91) (va_cpy gp gp 91 0 637) 0 637 91)))) (by rw [pm_up_sw (a := m0 + 4) (b := m0) (by omega), pm_up_sw (a := m0 + 1) (b := m0) (by omega), pm_up_sw (a := m0 + 2) (b := m0) (by omega), pm_up_up]) ?_
  refine pm_stk (st' := [.int (g 2)]) rfl ?_
  exact pm_ireturn B dX13_setSeed_14 rfl (by first | rfl | (apply pm_nz; first | assumption | decide | exact pm_in01 _ _ _ | simp)) ⟨rfl, rfl, rfl⟩ rfl rfl
set_option maxRecDepth 100000 in
set_option maxHeartbeats 4000000 in
theorem c_X13_setSeed_f2 {l : Launch} {z : Nat} {D : va_G} {kA : Nat → ClassId} {kE : Nat → Nat} {nx : Nat} {M : pm_M} {m0 : Nat} {f : Nat → Int32} (hM : M m0 = some (pm_mo z m0 (upd f 5 8))) {g : Nat → Int32} (hg : M (m0 + 1) = some (.inl (kA 0, 91, .inl g))) {gb : Nat → Int32} (hgb : M (m0 + 2) = some (.inl (kA 0, 91, .inl gb))) {gp : Nat → Int32} (hgp : M (m0 + 4) = some (.inl (kA 0, 728, .inl gp))) {x : Int32} (h1 : (pm_in x 0 1023) = 0) : pm_C l z D kA kE yX13_setSeed cX13_setSeed 2 (some .int) 3 0 0 [.ref (z + m0), .int x] nx M (pm_rt (some (.int 0)) nx (pm_up (pm_up (pm_up M m0 (pm_mo z m0 (upd (upd (upd (upd f 5 8) 6 0) 7 0) 6 1))) (m0 + 2) (.inl (kA 0, 91, .inl (va_cpy g gb 0 0 91)))) (m0 + 1) (.inl (kA 0, 91, .inl (va_cpy (va_cpy g gb 0 0 91) g 0 0 91))))) := by
  refine pm_mk (own := RX13) (nm := "setSeed") mt_X13_setSeed rfl rfl rfl rfl fun X B => ?_
  refine pm_loc (L' := [some (.ref (z + m0)), some (.int x)]) rfl ?_
  refine pm_aload_n B dX13_setSeed_0 rfl ?_
  refine pm_cV (As := []) (mc2 := 0) (ms2 := 0) B rfl hM rfl (c_X13_keep (f := (upd f 5 8)) (g := g) (gb := gb) hM hg hgb  ) mt_X13_keep sv_X13_91 dX13_setSeed_1 rfl rfl rfl rfl rfl ?_
  refine pm_mem (M' := pm_up M m0 (pm_mo z m0 (upd (upd (upd f 5 8) 6 0) 7 0))) rfl ?_
  refine pm_mem (M' := pm_up (pm_up M m0 (pm_mo z m0 (upd (upd (upd f 5 8) 6 0) 7 0))) (m0 + 2) (.inl (kA 0, 91, .inl (va_cpy g gb 0 0 91)))) rfl ?_
  refine pm_stk (st' := []) rfl ?_
  refine pm_aload_n B dX13_setSeed_4 rfl ?_
  refine pm_aload_n B dX13_setSeed_5 rfl ?_
  refine pm_iload_n B dX13_setSeed_6 rfl ?_
  refine pm_cV (As := [.int x]) (mc2 := 0) (ms2 := 0) B rfl ((pm_up_n (by omega)).trans pm_up_s) rfl (c_X13_doSetSeed_2 (x := x) (f := (upd (upd (upd f 5 8) 6 0) 7 0)) (g := g) ((pm_up_n (by omega)).trans pm_up_s) ((pm_up_n (by omega)).trans ((pm_up_n (by omega)).trans hg))  h1) mt_X13_doSetSeed sv_X13_150 dX13_setSeed_7 rfl rfl rfl rfl rfl ?_
  refine pm_mem (M' := pm_up (pm_up (pm_up M m0 (pm_mo z m0 (upd (upd (upd f 5 8) 6 0) 7 0))) (m0 + 2) (.inl (kA 0, 91, .inl (va_cpy g gb 0 0 91)))) m0 (pm_mo z m0 (upd (upd (upd (upd f 5 8) 6 0) 7 0) 6 1))) rfl ?_
  refine pm_mem (M' := pm_up (pm_up M m0 (pm_mo z m0 (upd (upd (upd (upd f 5 8) 6 0) 7 0) 6 1))) (m0 + 2) (.inl (kA 0, 91, .inl (va_cpy g gb 0 0 91)))) (by rw [pm_up_sw (a := m0 + 2) (b := m0) (by omega), pm_up_up]) ?_
  refine pm_stk (st' := [.int 0, .ref (z + m0)]) rfl ?_
  refine pm_iconst (v := 0) B dX13_setSeed_10 (by decide) ?_
  refine pm_cV (As := [.int 0, .int 0]) (mc2 := 0) (ms2 := 0) B rfl ((pm_up_n (by omega)).trans pm_up_s) rfl (c_X13_ends_f2 (x := 0) (y := 0) (f := (upd (upd (upd (upd f 5 8) 6 0) 7 0) 6 1)) (g := g) (gb := (va_cpy g gb 0 0 91)) (gp := gp) ((pm_up_n (by omega)).trans pm_up_s) ((pm_up_n (by omega)).trans ((pm_up_n (by omega)).trans hg)) pm_up_s ((pm_up_n (by omega)).trans ((pm_up_n (by omega)).trans hgp))  (by decide) (by decide)) mt_X13_ends sv_X13_97 dX13_setSeed_11 rfl rfl rfl rfl rfl ?_
  refine pm_mem (M' := pm_up (pm_up (pm_up M m0 (pm_mo z m0 (upd (upd (upd (upd f 5 8) 6 0) 7 0) 6 1))) (m0 + 2) (.inl (kA 0, 91, .inl (va_cpy g gb 0 0 91)))) (m0 + 1) (.inl (kA 0, 91, .inl (va_cpy (va_cpy g gb 0 0 91) g 0 0 91)))) rfl ?_
  refine pm_stk (st' := [.int 0]) rfl ?_
  exact pm_ireturn B dX13_setSeed_14 rfl (by first | rfl | (apply pm_nz; first | assumption | decide | exact pm_in01 _ _ _ | simp)) ⟨rfl, rfl, rfl⟩ rfl rfl
set_option maxRecDepth 100000 in
set_option maxHeartbeats 4000000 in
theorem c_X13_setThreshold_s1 {l : Launch} {z : Nat} {D : va_G} {kA : Nat → ClassId} {kE : Nat → Nat} {nx : Nat} {M : pm_M} {k : Nat} (hk : k < 8) {m0 : Nat} {f : Nat → Int32} (hM : M m0 = some (pm_mo z m0 (upd f 5 (nI k)))) {g : Nat → Int32} (hg : M (m0 + 1) = some (.inl (kA 0, 91, .inl g))) {gb : Nat → Int32} (hgb : M (m0 + 2) = some (.inl (kA 0, 91, .inl gb))) {gp : Nat → Int32} (hgp : M (m0 + 4) = some (.inl (kA 0, 728, .inl gp))) {x : Int32} (h1 : ¬ (pm_in x 1 99) = 0) (h2 : ¬ x = (g 3)) : pm_C l z D kA kE yX13_setThreshold cX13_setThreshold 2 (some .int) 3 0 0 [.ref (z + m0), .int x] nx M (pm_rt (some (.int (g 3))) nx (pm_up (pm_up (pm_up (pm_up M m0 (pm_mo z m0 (upd (upd (upd (upd (upd f 5 (nI k)) 6 0) 7 0) 5 (nI k)) 5 ((nI k) + 1)))) (m0 + 2) (.inl (kA 0, 91, .inl (va_cpy g gb 0 0 91)))) (m0 + 1) (.inl (kA 0, 91, .inl (upd g 3 x)))) (m0 + 4) (.inl (kA 0, 728, .inl (va_cpy (va_cpy g gb 0 0 91) gp 0 (91 * k) 91))))) := by
  refine pm_mk (own := RX13) (nm := "setThreshold") mt_X13_setThreshold rfl rfl rfl rfl fun X B => ?_
  refine pm_loc (L' := [some (.ref (z + m0)), some (.int x)]) rfl ?_
  refine pm_aload_n B dX13_setThreshold_0 rfl ?_
  refine pm_cV (As := []) (mc2 := 0) (ms2 := 0) B rfl hM rfl (c_X13_keep (f := (upd f 5 (nI k))) (g := g) (gb := gb) hM hg hgb  ) mt_X13_keep sv_X13_91 dX13_setThreshold_1 rfl rfl rfl rfl rfl ?_
  refine pm_mem (M' := pm_up M m0 (pm_mo z m0 (upd (upd (upd f 5 (nI k)) 6 0) 7 0))) rfl ?_
  refine pm_mem (M' := pm_up (pm_up M m0 (pm_mo z m0 (upd (upd (upd f 5 (nI k)) 6 0) 7 0))) (m0 + 2) (.inl (kA 0, 91, .inl (va_cpy g gb 0 0 91)))) rfl ?_
  refine pm_stk (st' := []) rfl ?_
  refine pm_aload_n B dX13_setThreshold_4 rfl ?_
  refine pm_aload_n B dX13_setThreshold_5 rfl ?_
  refine pm_iload_n B dX13_setThreshold_6 rfl ?_
  refine pm_cV (As := [.int x]) (mc2 := 0) (ms2 := 0) B rfl ((pm_up_n (by omega)).trans pm_up_s) rfl (c_X13_doSetThreshold_1 (x := x) (f := (upd (upd (upd f 5 (nI k)) 6 0) 7 0)) (g := g) ((pm_up_n (by omega)).trans pm_up_s) ((pm_up_n (by omega)).trans ((pm_up_n (by omega)).trans hg))  h1 h2) mt_X13_doSetThreshold sv_X13_178 dX13_setThreshold_7 rfl rfl rfl rfl rfl ?_
  refine pm_mem (M' := pm_up (pm_up (pm_up M m0 (pm_mo z m0 (upd (upd (upd f 5 (nI k)) 6 0) 7 0))) (m0 + 2) (.inl (kA 0, 91, .inl (va_cpy g gb 0 0 91)))) (m0 + 1) (.inl (kA 0, 91, .inl (upd g 3 x)))) rfl ?_
  refine pm_stk (st' := [.int (g 3), .ref (z + m0)]) rfl ?_
  refine pm_iconst (v := 0) B dX13_setThreshold_10 (by decide) ?_
  refine pm_cV (As := [.int (g 3), .int 0]) (mc2 := 0) (ms2 := 0) B rfl ((pm_up_n (by omega)).trans ((pm_up_n (by omega)).trans pm_up_s)) rfl (c_X13_ends_s1 (x := (g 3)) (y := 0) (k := k) (f := (upd (upd (upd f 5 (nI k)) 6 0) 7 0)) (g := (upd g 3 x)) (gb := (va_cpy g gb 0 0 91)) (gp := gp) ((pm_up_n (by omega)).trans ((pm_up_n (by omega)).trans pm_up_s)) pm_up_s ((pm_up_n (by omega)).trans pm_up_s) ((pm_up_n (by omega)).trans ((pm_up_n (by omega)).trans ((pm_up_n (by omega)).trans hgp))) (by first | assumption | omega) (by decide) (by decide)) mt_X13_ends sv_X13_97 dX13_setThreshold_11 rfl rfl rfl rfl rfl ?_
  refine pm_mem (M' := pm_up (pm_up (pm_up (pm_up M m0 (pm_mo z m0 (upd (upd (upd f 5 (nI k)) 6 0) 7 0))) (m0 + 2) (.inl (kA 0, 91, .inl (va_cpy g gb 0 0 91)))) (m0 + 1) (.inl (kA 0, 91, .inl (upd g 3 x)))) (m0 + 4) (.inl (kA 0, 728, .inl (va_cpy (va_cpy g gb 0 0 91) gp 0 (91 * k) 91)))) rfl ?_
  refine pm_mem (M' := pm_up (pm_up (pm_up (pm_up (pm_up M m0 (pm_mo z m0 (upd (upd (upd f 5 (nI k)) 6 0) 7 0))) (m0 + 2) (.inl (kA 0, 91, .inl (va_cpy g gb 0 0 91)))) (m0 + 1) (.inl (kA 0, 91, .inl (upd g 3 x)))) (m0 + 4) (.inl (kA 0, 728, .inl (va_cpy (va_cpy g gb 0 0 91) gp 0 (91 * k) 91)))) m0 (pm_mo z m0 (upd (upd (upd (upd (upd f 5 (nI k)) 6 0) 7 0) 5 (nI k)) 5 ((nI k) + 1)))) rfl ?_
  refine pm_mem (M' := pm_up (pm_up (pm_up (pm_up M m0 (pm_mo z m0 (upd (upd (upd (upd (upd f 5 (nI k)) 6 0) 7 0) 5 (nI k)) 5 ((nI k) + 1)))) (m0 + 2) (.inl (kA 0, 91, .inl (va_cpy g gb 0 0 91)))) (m0 + 1) (.inl (kA 0, 91, .inl (upd g 3 x)))) (m0 + 4) (.inl (kA 0, 728, .inl (va_cpy (va_cpy g gb 0 0 91) gp 0 (91 * k) 91)))) (by rw [pm_up_sw (a := m0 + 4) (b := m0) (by omega), pm_up_sw (a := m0 + 1) (b := m0) (by omega), pm_up_sw (a := m0 + 2) (b := m0) (by omega), pm_up_up]) ?_
  refine pm_stk (st' := [.int (g 3)]) rfl ?_
  exact pm_ireturn B dX13_setThreshold_14 rfl (by first | rfl | (apply pm_nz; first | assumption | decide | exact pm_in01 _ _ _ | simp)) ⟨rfl, rfl, rfl⟩ rfl rfl
set_option maxRecDepth 100000 in
set_option maxHeartbeats 4000000 in
theorem c_X13_setThreshold_s2 {l : Launch} {z : Nat} {D : va_G} {kA : Nat → ClassId} {kE : Nat → Nat} {nx : Nat} {M : pm_M} {k : Nat} (hk : k < 8) {m0 : Nat} {f : Nat → Int32} (hM : M m0 = some (pm_mo z m0 (upd f 5 (nI k)))) {g : Nat → Int32} (hg : M (m0 + 1) = some (.inl (kA 0, 91, .inl g))) {gb : Nat → Int32} (hgb : M (m0 + 2) = some (.inl (kA 0, 91, .inl gb))) {gp : Nat → Int32} (hgp : M (m0 + 4) = some (.inl (kA 0, 728, .inl gp))) {x : Int32} (h1 : ¬ (pm_in x 1 99) = 0) (h2 : x = (g 3)) : pm_C l z D kA kE yX13_setThreshold cX13_setThreshold 2 (some .int) 3 0 0 [.ref (z + m0), .int x] nx M (pm_rt (some (.int 0)) nx (pm_up (pm_up (pm_up M m0 (pm_mo z m0 (upd (upd (upd (upd (upd (upd (upd (upd (upd (upd f 5 (nI k)) 6 0) 7 0) 7 7) 8 x) 6 2) 5 (nI k)) 9 ((upd (upd (upd (upd (upd (upd (upd f 5 (nI k)) 6 0) 7 0) 7 7) 8 x) 6 2) 5 (nI k)) 7)) 10 ((upd (upd (upd (upd (upd (upd (upd f 5 (nI k)) 6 0) 7 0) 7 7) 8 x) 6 2) 5 (nI k)) 8)) 11 0))) (m0 + 2) (.inl (kA 0, 91, .inl (va_cpy g gb 0 0 91)))) (m0 + 1) (.inl (kA 0, 91, .inl (va_cpy (va_cpy g gb 0 0 91) g 0 0 91))))) := by
  refine pm_mk (own := RX13) (nm := "setThreshold") mt_X13_setThreshold rfl rfl rfl rfl fun X B => ?_
  refine pm_loc (L' := [some (.ref (z + m0)), some (.int x)]) rfl ?_
  refine pm_aload_n B dX13_setThreshold_0 rfl ?_
  refine pm_cV (As := []) (mc2 := 0) (ms2 := 0) B rfl hM rfl (c_X13_keep (f := (upd f 5 (nI k))) (g := g) (gb := gb) hM hg hgb  ) mt_X13_keep sv_X13_91 dX13_setThreshold_1 rfl rfl rfl rfl rfl ?_
  refine pm_mem (M' := pm_up M m0 (pm_mo z m0 (upd (upd (upd f 5 (nI k)) 6 0) 7 0))) rfl ?_
  refine pm_mem (M' := pm_up (pm_up M m0 (pm_mo z m0 (upd (upd (upd f 5 (nI k)) 6 0) 7 0))) (m0 + 2) (.inl (kA 0, 91, .inl (va_cpy g gb 0 0 91)))) rfl ?_
  refine pm_stk (st' := []) rfl ?_
  refine pm_aload_n B dX13_setThreshold_4 rfl ?_
  refine pm_aload_n B dX13_setThreshold_5 rfl ?_
  refine pm_iload_n B dX13_setThreshold_6 rfl ?_
  refine pm_cV (As := [.int x]) (mc2 := 0) (ms2 := 0) B rfl ((pm_up_n (by omega)).trans pm_up_s) rfl (c_X13_doSetThreshold_2 (x := x) (f := (upd (upd (upd f 5 (nI k)) 6 0) 7 0)) (g := g) ((pm_up_n (by omega)).trans pm_up_s) ((pm_up_n (by omega)).trans ((pm_up_n (by omega)).trans hg))  h1 h2) mt_X13_doSetThreshold sv_X13_178 dX13_setThreshold_7 rfl rfl rfl rfl rfl ?_
  refine pm_mem (M' := pm_up (pm_up (pm_up M m0 (pm_mo z m0 (upd (upd (upd f 5 (nI k)) 6 0) 7 0))) (m0 + 2) (.inl (kA 0, 91, .inl (va_cpy g gb 0 0 91)))) m0 (pm_mo z m0 (upd (upd (upd (upd (upd (upd f 5 (nI k)) 6 0) 7 0) 7 7) 8 x) 6 2))) rfl ?_
  refine pm_mem (M' := pm_up (pm_up M m0 (pm_mo z m0 (upd (upd (upd (upd (upd (upd f 5 (nI k)) 6 0) 7 0) 7 7) 8 x) 6 2))) (m0 + 2) (.inl (kA 0, 91, .inl (va_cpy g gb 0 0 91)))) (by rw [pm_up_sw (a := m0 + 2) (b := m0) (by omega), pm_up_up]) ?_
  refine pm_stk (st' := [.int 0, .ref (z + m0)]) rfl ?_
  refine pm_iconst (v := 0) B dX13_setThreshold_10 (by decide) ?_
  refine pm_cV (As := [.int 0, .int 0]) (mc2 := 0) (ms2 := 0) B rfl ((pm_up_n (by omega)).trans pm_up_s) rfl (c_X13_ends_s4 (x := 0) (y := 0) (k := k) (f := (upd (upd (upd (upd (upd (upd f 5 (nI k)) 6 0) 7 0) 7 7) 8 x) 6 2)) (g := g) (gb := (va_cpy g gb 0 0 91)) (gp := gp) ((pm_up_n (by omega)).trans pm_up_s) ((pm_up_n (by omega)).trans ((pm_up_n (by omega)).trans hg)) pm_up_s ((pm_up_n (by omega)).trans ((pm_up_n (by omega)).trans hgp)) (by first | assumption | omega) (by decide) (by decide)) mt_X13_ends sv_X13_97 dX13_setThreshold_11 rfl rfl rfl rfl rfl ?_
  refine pm_mem (M' := pm_up (pm_up (pm_up M m0 (pm_mo z m0 (upd (upd (upd (upd (upd (upd f 5 (nI k)) 6 0) 7 0) 7 7) 8 x) 6 2))) (m0 + 2) (.inl (kA 0, 91, .inl (va_cpy g gb 0 0 91)))) m0 (pm_mo z m0 (upd (upd (upd (upd (upd (upd (upd (upd (upd (upd f 5 (nI k)) 6 0) 7 0) 7 7) 8 x) 6 2) 5 (nI k)) 9 ((upd (upd (upd (upd (upd (upd (upd f 5 (nI k)) 6 0) 7 0) 7 7) 8 x) 6 2) 5 (nI k)) 7)) 10 ((upd (upd (upd (upd (upd (upd (upd f 5 (nI k)) 6 0) 7 0) 7 7) 8 x) 6 2) 5 (nI k)) 8)) 11 0))) rfl ?_
  refine pm_mem (M' := pm_up (pm_up M m0 (pm_mo z m0 (upd (upd (upd (upd (upd (upd (upd (upd (upd (upd f 5 (nI k)) 6 0) 7 0) 7 7) 8 x) 6 2) 5 (nI k)) 9 ((upd (upd (upd (upd (upd (upd (upd f 5 (nI k)) 6 0) 7 0) 7 7) 8 x) 6 2) 5 (nI k)) 7)) 10 ((upd (upd (upd (upd (upd (upd (upd f 5 (nI k)) 6 0) 7 0) 7 7) 8 x) 6 2) 5 (nI k)) 8)) 11 0))) (m0 + 2) (.inl (kA 0, 91, .inl (va_cpy g gb 0 0 91)))) (by rw [pm_up_sw (a := m0 + 2) (b := m0) (by omega), pm_up_up]) ?_
  refine pm_mem (M' := pm_up (pm_up (pm_up M m0 (pm_mo z m0 (upd (upd (upd (upd (upd (upd (upd (upd (upd (upd f 5 (nI k)) 6 0) 7 0) 7 7) 8 x) 6 2) 5 (nI k)) 9 ((upd (upd (upd (upd (upd (upd (upd f 5 (nI k)) 6 0) 7 0) 7 7) 8 x) 6 2) 5 (nI k)) 7)) 10 ((upd (upd (upd (upd (upd (upd (upd f 5 (nI k)) 6 0) 7 0) 7 7) 8 x) 6 2) 5 (nI k)) 8)) 11 0))) (m0 + 2) (.inl (kA 0, 91, .inl (va_cpy g gb 0 0 91)))) (m0 + 1) (.inl (kA 0, 91, .inl (va_cpy (va_cpy g gb 0 0 91) g 0 0 91)))) rfl ?_
  refine pm_stk (st' := [.int 0]) rfl ?_
  exact pm_ireturn B dX13_setThreshold_14 rfl (by first | rfl | (apply pm_nz; first | assumption | decide | exact pm_in01 _ _ _ | simp)) ⟨rfl, rfl, rfl⟩ rfl rfl
set_option maxRecDepth 100000 in
set_option maxHeartbeats 4000000 in
theorem c_X13_setThreshold_s3 {l : Launch} {z : Nat} {D : va_G} {kA : Nat → ClassId} {kE : Nat → Nat} {nx : Nat} {M : pm_M} {k : Nat} (hk : k < 8) {m0 : Nat} {f : Nat → Int32} (hM : M m0 = some (pm_mo z m0 (upd f 5 (nI k)))) {g : Nat → Int32} (hg : M (m0 + 1) = some (.inl (kA 0, 91, .inl g))) {gb : Nat → Int32} (hgb : M (m0 + 2) = some (.inl (kA 0, 91, .inl gb))) {gp : Nat → Int32} (hgp : M (m0 + 4) = some (.inl (kA 0, 728, .inl gp))) {x : Int32} (h1 : (pm_in x 1 99) = 0) : pm_C l z D kA kE yX13_setThreshold cX13_setThreshold 2 (some .int) 3 0 0 [.ref (z + m0), .int x] nx M (pm_rt (some (.int 0)) nx (pm_up (pm_up (pm_up M m0 (pm_mo z m0 (upd (upd (upd (upd f 5 (nI k)) 6 0) 7 0) 6 1))) (m0 + 2) (.inl (kA 0, 91, .inl (va_cpy g gb 0 0 91)))) (m0 + 1) (.inl (kA 0, 91, .inl (va_cpy (va_cpy g gb 0 0 91) g 0 0 91))))) := by
  refine pm_mk (own := RX13) (nm := "setThreshold") mt_X13_setThreshold rfl rfl rfl rfl fun X B => ?_
  refine pm_loc (L' := [some (.ref (z + m0)), some (.int x)]) rfl ?_
  refine pm_aload_n B dX13_setThreshold_0 rfl ?_
  refine pm_cV (As := []) (mc2 := 0) (ms2 := 0) B rfl hM rfl (c_X13_keep (f := (upd f 5 (nI k))) (g := g) (gb := gb) hM hg hgb  ) mt_X13_keep sv_X13_91 dX13_setThreshold_1 rfl rfl rfl rfl rfl ?_
  refine pm_mem (M' := pm_up M m0 (pm_mo z m0 (upd (upd (upd f 5 (nI k)) 6 0) 7 0))) rfl ?_
  refine pm_mem (M' := pm_up (pm_up M m0 (pm_mo z m0 (upd (upd (upd f 5 (nI k)) 6 0) 7 0))) (m0 + 2) (.inl (kA 0, 91, .inl (va_cpy g gb 0 0 91)))) rfl ?_
  refine pm_stk (st' := []) rfl ?_
  refine pm_aload_n B dX13_setThreshold_4 rfl ?_
  refine pm_aload_n B dX13_setThreshold_5 rfl ?_
  refine pm_iload_n B dX13_setThreshold_6 rfl ?_
  refine pm_cV (As := [.int x]) (mc2 := 0) (ms2 := 0) B rfl ((pm_up_n (by omega)).trans pm_up_s) rfl (c_X13_doSetThreshold_3 (x := x) (f := (upd (upd (upd f 5 (nI k)) 6 0) 7 0)) (g := g) ((pm_up_n (by omega)).trans pm_up_s) ((pm_up_n (by omega)).trans ((pm_up_n (by omega)).trans hg))  h1) mt_X13_doSetThreshold sv_X13_178 dX13_setThreshold_7 rfl rfl rfl rfl rfl ?_
  refine pm_mem (M' := pm_up (pm_up (pm_up M m0 (pm_mo z m0 (upd (upd (upd f 5 (nI k)) 6 0) 7 0))) (m0 + 2) (.inl (kA 0, 91, .inl (va_cpy g gb 0 0 91)))) m0 (pm_mo z m0 (upd (upd (upd (upd f 5 (nI k)) 6 0) 7 0) 6 1))) rfl ?_
  refine pm_mem (M' := pm_up (pm_up M m0 (pm_mo z m0 (upd (upd (upd (upd f 5 (nI k)) 6 0) 7 0) 6 1))) (m0 + 2) (.inl (kA 0, 91, .inl (va_cpy g gb 0 0 91)))) (by rw [pm_up_sw (a := m0 + 2) (b := m0) (by omega), pm_up_up]) ?_
  refine pm_stk (st' := [.int 0, .ref (z + m0)]) rfl ?_
  refine pm_iconst (v := 0) B dX13_setThreshold_10 (by decide) ?_
  refine pm_cV (As := [.int 0, .int 0]) (mc2 := 0) (ms2 := 0) B rfl ((pm_up_n (by omega)).trans pm_up_s) rfl (c_X13_ends_s2 (x := 0) (y := 0) (k := k) (f := (upd (upd (upd (upd f 5 (nI k)) 6 0) 7 0) 6 1)) (g := g) (gb := (va_cpy g gb 0 0 91)) (gp := gp) ((pm_up_n (by omega)).trans pm_up_s) ((pm_up_n (by omega)).trans ((pm_up_n (by omega)).trans hg)) pm_up_s ((pm_up_n (by omega)).trans ((pm_up_n (by omega)).trans hgp)) (by first | assumption | omega) (by decide) (by decide)) mt_X13_ends sv_X13_97 dX13_setThreshold_11 rfl rfl rfl rfl rfl ?_
  refine pm_mem (M' := pm_up (pm_up (pm_up M m0 (pm_mo z m0 (upd (upd (upd (upd f 5 (nI k)) 6 0) 7 0) 6 1))) (m0 + 2) (.inl (kA 0, 91, .inl (va_cpy g gb 0 0 91)))) (m0 + 1) (.inl (kA 0, 91, .inl (va_cpy (va_cpy g gb 0 0 91) g 0 0 91)))) rfl ?_
  refine pm_stk (st' := [.int 0]) rfl ?_
  exact pm_ireturn B dX13_setThreshold_14 rfl (by first | rfl | (apply pm_nz; first | assumption | decide | exact pm_in01 _ _ _ | simp)) ⟨rfl, rfl, rfl⟩ rfl rfl
set_option maxRecDepth 100000 in
set_option maxHeartbeats 4000000 in
theorem c_X13_setThreshold_f1 {l : Launch} {z : Nat} {D : va_G} {kA : Nat → ClassId} {kE : Nat → Nat} {nx : Nat} {M : pm_M} {m0 : Nat} {f : Nat → Int32} (hM : M m0 = some (pm_mo z m0 (upd f 5 8))) {g : Nat → Int32} (hg : M (m0 + 1) = some (.inl (kA 0, 91, .inl g))) {gb : Nat → Int32} (hgb : M (m0 + 2) = some (.inl (kA 0, 91, .inl gb))) {gp : Nat → Int32} (hgp : M (m0 + 4) = some (.inl (kA 0, 728, .inl gp))) {x : Int32} (h1 : ¬ (pm_in x 1 99) = 0) (h2 : ¬ x = (g 3)) : pm_C l z D kA kE yX13_setThreshold cX13_setThreshold 2 (some .int) 3 0 0 [.ref (z + m0), .int x] nx M (pm_rt (some (.int (g 3))) nx (pm_up (pm_up (pm_up (pm_up M m0 (pm_mo z m0 (upd (upd (upd (upd (upd (upd f 5 8) 6 0) 7 0) 5 8) 5 (8 - 1)) 5 ((8 - 1) + 1)))) (m0 + 2) (.inl (kA 0, 91, .inl (va_cpy g gb 0 0 91)))) (m0 + 1) (.inl (kA 0, 91, .inl (upd g 3 x)))) (m0 + 4) (.inl (kA 0, 728, .inl (va_cpy (va_cpy g gb 0 0 91) (va_cpy gp gp 91 0 637) 0 637 91))))) := by
  refine pm_mk (own := RX13) (nm := "setThreshold") mt_X13_setThreshold rfl rfl rfl rfl fun X B => ?_
  refine pm_loc (L' := [some (.ref (z + m0)), some (.int x)]) rfl ?_
  refine pm_aload_n B dX13_setThreshold_0 rfl ?_
  refine pm_cV (As := []) (mc2 := 0) (ms2 := 0) B rfl hM rfl (c_X13_keep (f := (upd f 5 8)) (g := g) (gb := gb) hM hg hgb  ) mt_X13_keep sv_X13_91 dX13_setThreshold_1 rfl rfl rfl rfl rfl ?_
  refine pm_mem (M' := pm_up M m0 (pm_mo z m0 (upd (upd (upd f 5 8) 6 0) 7 0))) rfl ?_
  refine pm_mem (M' := pm_up (pm_up M m0 (pm_mo z m0 (upd (upd (upd f 5 8) 6 0) 7 0))) (m0 + 2) (.inl (kA 0, 91, .inl (va_cpy g gb 0 0 91)))) rfl ?_
  refine pm_stk (st' := []) rfl ?_
  refine pm_aload_n B dX13_setThreshold_4 rfl ?_
  refine pm_aload_n B dX13_setThreshold_5 rfl ?_
  refine pm_iload_n B dX13_setThreshold_6 rfl ?_
  refine pm_cV (As := [.int x]) (mc2 := 0) (ms2 := 0) B rfl ((pm_up_n (by omega)).trans pm_up_s) rfl (c_X13_doSetThreshold_1 (x := x) (f := (upd (upd (upd f 5 8) 6 0) 7 0)) (g := g) ((pm_up_n (by omega)).trans pm_up_s) ((pm_up_n (by omega)).trans ((pm_up_n (by omega)).trans hg))  h1 h2) mt_X13_doSetThreshold sv_X13_178 dX13_setThreshold_7 rfl rfl rfl rfl rfl ?_
  refine pm_mem (M' := pm_up (pm_up (pm_up M m0 (pm_mo z m0 (upd (upd (upd f 5 8) 6 0) 7 0))) (m0 + 2) (.inl (kA 0, 91, .inl (va_cpy g gb 0 0 91)))) (m0 + 1) (.inl (kA 0, 91, .inl (upd g 3 x)))) rfl ?_
  refine pm_stk (st' := [.int (g 3), .ref (z + m0)]) rfl ?_
  refine pm_iconst (v := 0) B dX13_setThreshold_10 (by decide) ?_
  refine pm_cV (As := [.int (g 3), .int 0]) (mc2 := 0) (ms2 := 0) B rfl ((pm_up_n (by omega)).trans ((pm_up_n (by omega)).trans pm_up_s)) rfl (c_X13_ends_f1 (x := (g 3)) (y := 0) (f := (upd (upd (upd f 5 8) 6 0) 7 0)) (g := (upd g 3 x)) (gb := (va_cpy g gb 0 0 91)) (gp := gp) ((pm_up_n (by omega)).trans ((pm_up_n (by omega)).trans pm_up_s)) pm_up_s ((pm_up_n (by omega)).trans pm_up_s) ((pm_up_n (by omega)).trans ((pm_up_n (by omega)).trans ((pm_up_n (by omega)).trans hgp)))  (by decide) (by decide)) mt_X13_ends sv_X13_97 dX13_setThreshold_11 rfl rfl rfl rfl rfl ?_
  refine pm_mem (M' := pm_up (pm_up (pm_up (pm_up M m0 (pm_mo z m0 (upd (upd (upd f 5 8) 6 0) 7 0))) (m0 + 2) (.inl (kA 0, 91, .inl (va_cpy g gb 0 0 91)))) (m0 + 1) (.inl (kA 0, 91, .inl (upd g 3 x)))) (m0 + 4) (.inl (kA 0, 728, .inl (va_cpy (va_cpy g gb 0 0 91) (va_cpy gp gp 91 0 637) 0 637 91)))) rfl ?_
  refine pm_mem (M' := pm_up (pm_up (pm_up (pm_up (pm_up M m0 (pm_mo z m0 (upd (upd (upd f 5 8) 6 0) 7 0))) (m0 + 2) (.inl (kA 0, 91, .inl (va_cpy g gb 0 0 91)))) (m0 + 1) (.inl (kA 0, 91, .inl (upd g 3 x)))) (m0 + 4) (.inl (kA 0, 728, .inl (va_cpy (va_cpy g gb 0 0 91) (va_cpy gp gp 91 0 637) 0 637 91)))) m0 (pm_mo z m0 (upd (upd (upd (upd (upd (upd f 5 8) 6 0) 7 0) 5 8) 5 (8 - 1)) 5 ((8 - 1) + 1)))) rfl ?_
  refine pm_mem (M' := pm_up (pm_up (pm_up (pm_up M m0 (pm_mo z m0 (upd (upd (upd (upd (upd (upd f 5 8) 6 0) 7 0) 5 8) 5 (8 - 1)) 5 ((8 - 1) + 1)))) (m0 + 2) (.inl (kA 0, 91, .inl (va_cpy g gb 0 0 91)))) (m0 + 1) (.inl (kA 0, 91, .inl (upd g 3 x)))) (m0 + 4) (.inl (kA 0, 728, .inl (va_cpy (va_cpy g gb 0 0 91) (va_cpy gp gp 91 0 637) 0 637 91)))) (by rw [pm_up_sw (a := m0 + 4) (b := m0) (by omega), pm_up_sw (a := m0 + 1) (b := m0) (by omega), pm_up_sw (a := m0 + 2) (b := m0) (by omega), pm_up_up]) ?_
  refine pm_stk (st' := [.int (g 3)]) rfl ?_
  exact pm_ireturn B dX13_setThreshold_14 rfl (by first | rfl | (apply pm_nz; first | assumption | decide | exact pm_in01 _ _ _ | simp)) ⟨rfl, rfl, rfl⟩ rfl rfl
set_option maxRecDepth 100000 in
set_option maxHeartbeats 4000000 in
theorem c_X13_setThreshold_f2 {l : Launch} {z : Nat} {D : va_G} {kA : Nat → ClassId} {kE : Nat → Nat} {nx : Nat} {M : pm_M} {m0 : Nat} {f : Nat → Int32} (hM : M m0 = some (pm_mo z m0 (upd f 5 8))) {g : Nat → Int32} (hg : M (m0 + 1) = some (.inl (kA 0, 91, .inl g))) {gb : Nat → Int32} (hgb : M (m0 + 2) = some (.inl (kA 0, 91, .inl gb))) {gp : Nat → Int32} (hgp : M (m0 + 4) = some (.inl (kA 0, 728, .inl gp))) {x : Int32} (h1 : ¬ (pm_in x 1 99) = 0) (h2 : x = (g 3)) : pm_C l z D kA kE yX13_setThreshold cX13_setThreshold 2 (some .int) 3 0 0 [.ref (z + m0), .int x] nx M (pm_rt (some (.int 0)) nx (pm_up (pm_up (pm_up M m0 (pm_mo z m0 (upd (upd (upd (upd (upd (upd (upd (upd (upd (upd f 5 8) 6 0) 7 0) 7 7) 8 x) 6 2) 5 8) 9 ((upd (upd (upd (upd (upd (upd (upd f 5 8) 6 0) 7 0) 7 7) 8 x) 6 2) 5 8) 7)) 10 ((upd (upd (upd (upd (upd (upd (upd f 5 8) 6 0) 7 0) 7 7) 8 x) 6 2) 5 8) 8)) 11 0))) (m0 + 2) (.inl (kA 0, 91, .inl (va_cpy g gb 0 0 91)))) (m0 + 1) (.inl (kA 0, 91, .inl (va_cpy (va_cpy g gb 0 0 91) g 0 0 91))))) := by
  refine pm_mk (own := RX13) (nm := "setThreshold") mt_X13_setThreshold rfl rfl rfl rfl fun X B => ?_
  refine pm_loc (L' := [some (.ref (z + m0)), some (.int x)]) rfl ?_
  refine pm_aload_n B dX13_setThreshold_0 rfl ?_
  refine pm_cV (As := []) (mc2 := 0) (ms2 := 0) B rfl hM rfl (c_X13_keep (f := (upd f 5 8)) (g := g) (gb := gb) hM hg hgb  ) mt_X13_keep sv_X13_91 dX13_setThreshold_1 rfl rfl rfl rfl rfl ?_
  refine pm_mem (M' := pm_up M m0 (pm_mo z m0 (upd (upd (upd f 5 8) 6 0) 7 0))) rfl ?_
  refine pm_mem (M' := pm_up (pm_up M m0 (pm_mo z m0 (upd (upd (upd f 5 8) 6 0) 7 0))) (m0 + 2) (.inl (kA 0, 91, .inl (va_cpy g gb 0 0 91)))) rfl ?_
  refine pm_stk (st' := []) rfl ?_
  refine pm_aload_n B dX13_setThreshold_4 rfl ?_
  refine pm_aload_n B dX13_setThreshold_5 rfl ?_
  refine pm_iload_n B dX13_setThreshold_6 rfl ?_
  refine pm_cV (As := [.int x]) (mc2 := 0) (ms2 := 0) B rfl ((pm_up_n (by omega)).trans pm_up_s) rfl (c_X13_doSetThreshold_2 (x := x) (f := (upd (upd (upd f 5 8) 6 0) 7 0)) (g := g) ((pm_up_n (by omega)).trans pm_up_s) ((pm_up_n (by omega)).trans ((pm_up_n (by omega)).trans hg))  h1 h2) mt_X13_doSetThreshold sv_X13_178 dX13_setThreshold_7 rfl rfl rfl rfl rfl ?_
  refine pm_mem (M' := pm_up (pm_up (pm_up M m0 (pm_mo z m0 (upd (upd (upd f 5 8) 6 0) 7 0))) (m0 + 2) (.inl (kA 0, 91, .inl (va_cpy g gb 0 0 91)))) m0 (pm_mo z m0 (upd (upd (upd (upd (upd (upd f 5 8) 6 0) 7 0) 7 7) 8 x) 6 2))) rfl ?_
  refine pm_mem (M' := pm_up (pm_up M m0 (pm_mo z m0 (upd (upd (upd (upd (upd (upd f 5 8) 6 0) 7 0) 7 7) 8 x) 6 2))) (m0 + 2) (.inl (kA 0, 91, .inl (va_cpy g gb 0 0 91)))) (by rw [pm_up_sw (a := m0 + 2) (b := m0) (by omega), pm_up_up]) ?_
  refine pm_stk (st' := [.int 0, .ref (z + m0)]) rfl ?_
  refine pm_iconst (v := 0) B dX13_setThreshold_10 (by decide) ?_
  refine pm_cV (As := [.int 0, .int 0]) (mc2 := 0) (ms2 := 0) B rfl ((pm_up_n (by omega)).trans pm_up_s) rfl (c_X13_ends_f4 (x := 0) (y := 0) (f := (upd (upd (upd (upd (upd (upd f 5 8) 6 0) 7 0) 7 7) 8 x) 6 2)) (g := g) (gb := (va_cpy g gb 0 0 91)) (gp := gp) ((pm_up_n (by omega)).trans pm_up_s) ((pm_up_n (by omega)).trans ((pm_up_n (by omega)).trans hg)) pm_up_s ((pm_up_n (by omega)).trans ((pm_up_n (by omega)).trans hgp))  (by decide) (by decide)) mt_X13_ends sv_X13_97 dX13_setThreshold_11 rfl rfl rfl rfl rfl ?_
  refine pm_mem (M' := pm_up (pm_up (pm_up M m0 (pm_mo z m0 (upd (upd (upd (upd (upd (upd f 5 8) 6 0) 7 0) 7 7) 8 x) 6 2))) (m0 + 2) (.inl (kA 0, 91, .inl (va_cpy g gb 0 0 91)))) m0 (pm_mo z m0 (upd (upd (upd (upd (upd (upd (upd (upd (upd (upd f 5 8) 6 0) 7 0) 7 7) 8 x) 6 2) 5 8) 9 ((upd (upd (upd (upd (upd (upd (upd f 5 8) 6 0) 7 0) 7 7) 8 x) 6 2) 5 8) 7)) 10 ((upd (upd (upd (upd (upd (upd (upd f 5 8) 6 0) 7 0) 7 7) 8 x) 6 2) 5 8) 8)) 11 0))) rfl ?_
  refine pm_mem (M' := pm_up (pm_up M m0 (pm_mo z m0 (upd (upd (upd (upd (upd (upd (upd (upd (upd (upd f 5 8) 6 0) 7 0) 7 7) 8 x) 6 2) 5 8) 9 ((upd (upd (upd (upd (upd (upd (upd f 5 8) 6 0) 7 0) 7 7) 8 x) 6 2) 5 8) 7)) 10 ((upd (upd (upd (upd (upd (upd (upd f 5 8) 6 0) 7 0) 7 7) 8 x) 6 2) 5 8) 8)) 11 0))) (m0 + 2) (.inl (kA 0, 91, .inl (va_cpy g gb 0 0 91)))) (by rw [pm_up_sw (a := m0 + 2) (b := m0) (by omega), pm_up_up]) ?_
  refine pm_mem (M' := pm_up (pm_up (pm_up M m0 (pm_mo z m0 (upd (upd (upd (upd (upd (upd (upd (upd (upd (upd f 5 8) 6 0) 7 0) 7 7) 8 x) 6 2) 5 8) 9 ((upd (upd (upd (upd (upd (upd (upd f 5 8) 6 0) 7 0) 7 7) 8 x) 6 2) 5 8) 7)) 10 ((upd (upd (upd (upd (upd (upd (upd f 5 8) 6 0) 7 0) 7 7) 8 x) 6 2) 5 8) 8)) 11 0))) (m0 + 2) (.inl (kA 0, 91, .inl (va_cpy g gb 0 0 91)))) (m0 + 1) (.inl (kA 0, 91, .inl (va_cpy (va_cpy g gb 0 0 91) g 0 0 91)))) rfl ?_
  refine pm_stk (st' := [.int 0]) rfl ?_
  exact pm_ireturn B dX13_setThreshold_14 rfl (by first | rfl | (apply pm_nz; first | assumption | decide | exact pm_in01 _ _ _ | simp)) ⟨rfl, rfl, rfl⟩ rfl rfl
set_option maxRecDepth 100000 in
set_option maxHeartbeats 4000000 in
theorem c_X13_setThreshold_f3 {l : Launch} {z : Nat} {D : va_G} {kA : Nat → ClassId} {kE : Nat → Nat} {nx : Nat} {M : pm_M} {m0 : Nat} {f : Nat → Int32} (hM : M m0 = some (pm_mo z m0 (upd f 5 8))) {g : Nat → Int32} (hg : M (m0 + 1) = some (.inl (kA 0, 91, .inl g))) {gb : Nat → Int32} (hgb : M (m0 + 2) = some (.inl (kA 0, 91, .inl gb))) {gp : Nat → Int32} (hgp : M (m0 + 4) = some (.inl (kA 0, 728, .inl gp))) {x : Int32} (h1 : (pm_in x 1 99) = 0) : pm_C l z D kA kE yX13_setThreshold cX13_setThreshold 2 (some .int) 3 0 0 [.ref (z + m0), .int x] nx M (pm_rt (some (.int 0)) nx (pm_up (pm_up (pm_up M m0 (pm_mo z m0 (upd (upd (upd (upd f 5 8) 6 0) 7 0) 6 1))) (m0 + 2) (.inl (kA 0, 91, .inl (va_cpy g gb 0 0 91)))) (m0 + 1) (.inl (kA 0, 91, .inl (va_cpy (va_cpy g gb 0 0 91) g 0 0 91))))) := by
  refine pm_mk (own := RX13) (nm := "setThreshold") mt_X13_setThreshold rfl rfl rfl rfl fun X B => ?_
  refine pm_loc (L' := [some (.ref (z + m0)), some (.int x)]) rfl ?_
  refine pm_aload_n B dX13_setThreshold_0 rfl ?_
  refine pm_cV (As := []) (mc2 := 0) (ms2 := 0) B rfl hM rfl (c_X13_keep (f := (upd f 5 8)) (g := g) (gb := gb) hM hg hgb  ) mt_X13_keep sv_X13_91 dX13_setThreshold_1 rfl rfl rfl rfl rfl ?_
  refine pm_mem (M' := pm_up M m0 (pm_mo z m0 (upd (upd (upd f 5 8) 6 0) 7 0))) rfl ?_
  refine pm_mem (M' := pm_up (pm_up M m0 (pm_mo z m0 (upd (upd (upd f 5 8) 6 0) 7 0))) (m0 + 2) (.inl (kA 0, 91, .inl (va_cpy g gb 0 0 91)))) rfl ?_
  refine pm_stk (st' := []) rfl ?_
  refine pm_aload_n B dX13_setThreshold_4 rfl ?_
  refine pm_aload_n B dX13_setThreshold_5 rfl ?_
  refine pm_iload_n B dX13_setThreshold_6 rfl ?_
  refine pm_cV (As := [.int x]) (mc2 := 0) (ms2 := 0) B rfl ((pm_up_n (by omega)).trans pm_up_s) rfl (c_X13_doSetThreshold_3 (x := x) (f := (upd (upd (upd f 5 8) 6 0) 7 0)) (g := g) ((pm_up_n (by omega)).trans pm_up_s) ((pm_up_n (by omega)).trans ((pm_up_n (by omega)).trans hg))  h1) mt_X13_doSetThreshold sv_X13_178 dX13_setThreshold_7 rfl rfl rfl rfl rfl ?_
  refine pm_mem (M' := pm_up (pm_up (pm_up M m0 (pm_mo z m0 (upd (upd (upd f 5 8) 6 0) 7 0))) (m0 + 2) (.inl (kA 0, 91, .inl (va_cpy g gb 0 0 91)))) m0 (pm_mo z m0 (upd (upd (upd (upd f 5 8) 6 0) 7 0) 6 1))) rfl ?_
  refine pm_mem (M' := pm_up (pm_up M m0 (pm_mo z m0 (upd (upd (upd (upd f 5 8) 6 0) 7 0) 6 1))) (m0 + 2) (.inl (kA 0, 91, .inl (va_cpy g gb 0 0 91)))) (by rw [pm_up_sw (a := m0 + 2) (b := m0) (by omega), pm_up_up]) ?_
  refine pm_stk (st' := [.int 0, .ref (z + m0)]) rfl ?_
  refine pm_iconst (v := 0) B dX13_setThreshold_10 (by decide) ?_
  refine pm_cV (As := [.int 0, .int 0]) (mc2 := 0) (ms2 := 0) B rfl ((pm_up_n (by omega)).trans pm_up_s) rfl (c_X13_ends_f2 (x := 0) (y := 0) (f := (upd (upd (upd (upd f 5 8) 6 0) 7 0) 6 1)) (g := g) (gb := (va_cpy g gb 0 0 91)) (gp := gp) ((pm_up_n (by omega)).trans pm_up_s) ((pm_up_n (by omega)).trans ((pm_up_n (by omega)).trans hg)) pm_up_s ((pm_up_n (by omega)).trans ((pm_up_n (by omega)).trans hgp))  (by decide) (by decide)) mt_X13_ends sv_X13_97 dX13_setThreshold_11 rfl rfl rfl rfl rfl ?_
  refine pm_mem (M' := pm_up (pm_up (pm_up M m0 (pm_mo z m0 (upd (upd (upd (upd f 5 8) 6 0) 7 0) 6 1))) (m0 + 2) (.inl (kA 0, 91, .inl (va_cpy g gb 0 0 91)))) (m0 + 1) (.inl (kA 0, 91, .inl (va_cpy (va_cpy g gb 0 0 91) g 0 0 91)))) rfl ?_
  refine pm_stk (st' := [.int 0]) rfl ?_
  exact pm_ireturn B dX13_setThreshold_14 rfl (by first | rfl | (apply pm_nz; first | assumption | decide | exact pm_in01 _ _ _ | simp)) ⟨rfl, rfl, rfl⟩ rfl rfl
set_option maxRecDepth 100000 in
set_option maxHeartbeats 4000000 in
theorem c_X13_sell_os1 {l : Launch} {z : Nat} {D : va_G} {kA : Nat → ClassId} {kE : Nat → Nat} {nx : Nat} {M : pm_M} {k : Nat} (hk : k < 8) {m0 : Nat} {f : Nat → Int32} (hM : M m0 = some (pm_mo z m0 (upd f 5 (nI k)))) {g : Nat → Int32} (hg : M (m0 + 1) = some (.inl (kA 0, 91, .inl g))) {gb : Nat → Int32} (hgb : M (m0 + 2) = some (.inl (kA 0, 91, .inl gb))) {gp : Nat → Int32} (hgp : M (m0 + 4) = some (.inl (kA 0, 728, .inl gp))) {x u : Int32} (h1 : ¬ (pm_in x 0 (g 0 - 1)) = 0) (h2 : (pm_in u 1 99) = 0) : pm_C l z D kA kE yX13_sell cX13_sell 3 (some .int) 3 0 0 [.ref (z + m0), .int x, .int u] nx M (pm_rt (some (.int 0)) nx (pm_up (pm_up (pm_up M m0 (pm_mo z m0 (upd (upd (upd (upd f 5 (nI k)) 6 0) 7 0) 6 2))) (m0 + 2) (.inl (kA 0, 91, .inl (va_cpy g gb 0 0 91)))) (m0 + 1) (.inl (kA 0, 91, .inl (va_cpy (va_cpy g gb 0 0 91) g 0 0 91))))) := by
  refine pm_mk (own := RX13) (nm := "sell") mt_X13_sell rfl rfl rfl rfl fun X B => ?_
  refine pm_loc (L' := [some (.ref (z + m0)), some (.int x), some (.int u)]) rfl ?_
  refine pm_aload_n B dX13_sell_0 rfl ?_
  refine pm_cV (As := []) (mc2 := 0) (ms2 := 0) B rfl hM rfl (c_X13_keep (f := (upd f 5 (nI k))) (g := g) (gb := gb) hM hg hgb  ) mt_X13_keep sv_X13_91 dX13_sell_1 rfl rfl rfl rfl rfl ?_
  refine pm_mem (M' := pm_up M m0 (pm_mo z m0 (upd (upd (upd f 5 (nI k)) 6 0) 7 0))) rfl ?_
  refine pm_mem (M' := pm_up (pm_up M m0 (pm_mo z m0 (upd (upd (upd f 5 (nI k)) 6 0) 7 0))) (m0 + 2) (.inl (kA 0, 91, .inl (va_cpy g gb 0 0 91)))) rfl ?_
  refine pm_stk (st' := []) rfl ?_
  refine pm_aload_n B dX13_sell_4 rfl ?_
  refine pm_aload_n B dX13_sell_5 rfl ?_
  refine pm_iload_n B dX13_sell_6 rfl ?_
  refine pm_iload_n B dX13_sell_7 rfl ?_
  refine pm_cV (As := [.int x, .int u]) (mc2 := 0) (ms2 := 0) B rfl ((pm_up_n (by omega)).trans pm_up_s) rfl (c_X13_doSell_o1 (x := x) (u := u) (f := (upd (upd (upd f 5 (nI k)) 6 0) 7 0)) (g := g) ((pm_up_n (by omega)).trans pm_up_s) ((pm_up_n (by omega)).trans ((pm_up_n (by omega)).trans hg))  h1 h2) mt_X13_doSell sv_X13_134 dX13_sell_8 rfl rfl rfl rfl rfl ?_
  refine pm_mem (M' := pm_up (pm_up (pm_up M m0 (pm_mo z m0 (upd (upd (upd f 5 (nI k)) 6 0) 7 0))) (m0 + 2) (.inl (kA 0, 91, .inl (va_cpy g gb 0 0 91)))) m0 (pm_mo z m0 (upd (upd (upd (upd f 5 (nI k)) 6 0) 7 0) 6 2))) rfl ?_
  refine pm_mem (M' := pm_up (pm_up M m0 (pm_mo z m0 (upd (upd (upd (upd f 5 (nI k)) 6 0) 7 0) 6 2))) (m0 + 2) (.inl (kA 0, 91, .inl (va_cpy g gb 0 0 91)))) (by rw [pm_up_sw (a := m0 + 2) (b := m0) (by omega), pm_up_up]) ?_
  refine pm_stk (st' := [.int 0, .ref (z + m0)]) rfl ?_
  refine pm_iconst (v := 0) B dX13_sell_11 (by decide) ?_
  refine pm_cV (As := [.int 0, .int 0]) (mc2 := 0) (ms2 := 0) B rfl ((pm_up_n (by omega)).trans pm_up_s) rfl (c_X13_ends_s2 (x := 0) (y := 0) (k := k) (f := (upd (upd (upd (upd f 5 (nI k)) 6 0) 7 0) 6 2)) (g := g) (gb := (va_cpy g gb 0 0 91)) (gp := gp) ((pm_up_n (by omega)).trans pm_up_s) ((pm_up_n (by omega)).trans ((pm_up_n (by omega)).trans hg)) pm_up_s ((pm_up_n (by omega)).trans ((pm_up_n (by omega)).trans hgp)) (by first | assumption | omega) (by decide) (by decide)) mt_X13_ends sv_X13_97 dX13_sell_12 rfl rfl rfl rfl rfl ?_
  refine pm_mem (M' := pm_up (pm_up (pm_up M m0 (pm_mo z m0 (upd (upd (upd (upd f 5 (nI k)) 6 0) 7 0) 6 2))) (m0 + 2) (.inl (kA 0, 91, .inl (va_cpy g gb 0 0 91)))) (m0 + 1) (.inl (kA 0, 91, .inl (va_cpy (va_cpy g gb 0 0 91) g 0 0 91)))) rfl ?_
  refine pm_stk (st' := [.int 0]) rfl ?_
  exact pm_ireturn B dX13_sell_15 rfl (by first | rfl | (apply pm_nz; first | assumption | decide | exact pm_in01 _ _ _ | simp)) ⟨rfl, rfl, rfl⟩ rfl rfl
set_option maxRecDepth 100000 in
set_option maxHeartbeats 4000000 in
theorem c_X13_sell_os2 {l : Launch} {z : Nat} {D : va_G} {kA : Nat → ClassId} {kE : Nat → Nat} {nx : Nat} {M : pm_M} {k : Nat} (hk : k < 8) {m0 : Nat} {f : Nat → Int32} (hM : M m0 = some (pm_mo z m0 (upd f 5 (nI k)))) {g : Nat → Int32} (hg : M (m0 + 1) = some (.inl (kA 0, 91, .inl g))) {gb : Nat → Int32} (hgb : M (m0 + 2) = some (.inl (kA 0, 91, .inl gb))) {gp : Nat → Int32} (hgp : M (m0 + 4) = some (.inl (kA 0, 728, .inl gp))) {x u : Int32} (h1 : (pm_in x 0 (g 0 - 1)) = 0) : pm_C l z D kA kE yX13_sell cX13_sell 3 (some .int) 3 0 0 [.ref (z + m0), .int x, .int u] nx M (pm_rt (some (.int 0)) nx (pm_up (pm_up (pm_up M m0 (pm_mo z m0 (upd (upd (upd (upd f 5 (nI k)) 6 0) 7 0) 6 1))) (m0 + 2) (.inl (kA 0, 91, .inl (va_cpy g gb 0 0 91)))) (m0 + 1) (.inl (kA 0, 91, .inl (va_cpy (va_cpy g gb 0 0 91) g 0 0 91))))) := by
  refine pm_mk (own := RX13) (nm := "sell") mt_X13_sell rfl rfl rfl rfl fun X B => ?_
  refine pm_loc (L' := [some (.ref (z + m0)), some (.int x), some (.int u)]) rfl ?_
  refine pm_aload_n B dX13_sell_0 rfl ?_
  refine pm_cV (As := []) (mc2 := 0) (ms2 := 0) B rfl hM rfl (c_X13_keep (f := (upd f 5 (nI k))) (g := g) (gb := gb) hM hg hgb  ) mt_X13_keep sv_X13_91 dX13_sell_1 rfl rfl rfl rfl rfl ?_
  refine pm_mem (M' := pm_up M m0 (pm_mo z m0 (upd (upd (upd f 5 (nI k)) 6 0) 7 0))) rfl ?_
  refine pm_mem (M' := pm_up (pm_up M m0 (pm_mo z m0 (upd (upd (upd f 5 (nI k)) 6 0) 7 0))) (m0 + 2) (.inl (kA 0, 91, .inl (va_cpy g gb 0 0 91)))) rfl ?_
  refine pm_stk (st' := []) rfl ?_
  refine pm_aload_n B dX13_sell_4 rfl ?_
  refine pm_aload_n B dX13_sell_5 rfl ?_
  refine pm_iload_n B dX13_sell_6 rfl ?_
  refine pm_iload_n B dX13_sell_7 rfl ?_
  refine pm_cV (As := [.int x, .int u]) (mc2 := 0) (ms2 := 0) B rfl ((pm_up_n (by omega)).trans pm_up_s) rfl (c_X13_doSell_o2 (x := x) (u := u) (f := (upd (upd (upd f 5 (nI k)) 6 0) 7 0)) (g := g) ((pm_up_n (by omega)).trans pm_up_s) ((pm_up_n (by omega)).trans ((pm_up_n (by omega)).trans hg))  h1) mt_X13_doSell sv_X13_134 dX13_sell_8 rfl rfl rfl rfl rfl ?_
  refine pm_mem (M' := pm_up (pm_up (pm_up M m0 (pm_mo z m0 (upd (upd (upd f 5 (nI k)) 6 0) 7 0))) (m0 + 2) (.inl (kA 0, 91, .inl (va_cpy g gb 0 0 91)))) m0 (pm_mo z m0 (upd (upd (upd (upd f 5 (nI k)) 6 0) 7 0) 6 1))) rfl ?_
  refine pm_mem (M' := pm_up (pm_up M m0 (pm_mo z m0 (upd (upd (upd (upd f 5 (nI k)) 6 0) 7 0) 6 1))) (m0 + 2) (.inl (kA 0, 91, .inl (va_cpy g gb 0 0 91)))) (by rw [pm_up_sw (a := m0 + 2) (b := m0) (by omega), pm_up_up]) ?_
  refine pm_stk (st' := [.int 0, .ref (z + m0)]) rfl ?_
  refine pm_iconst (v := 0) B dX13_sell_11 (by decide) ?_
  refine pm_cV (As := [.int 0, .int 0]) (mc2 := 0) (ms2 := 0) B rfl ((pm_up_n (by omega)).trans pm_up_s) rfl (c_X13_ends_s2 (x := 0) (y := 0) (k := k) (f := (upd (upd (upd (upd f 5 (nI k)) 6 0) 7 0) 6 1)) (g := g) (gb := (va_cpy g gb 0 0 91)) (gp := gp) ((pm_up_n (by omega)).trans pm_up_s) ((pm_up_n (by omega)).trans ((pm_up_n (by omega)).trans hg)) pm_up_s ((pm_up_n (by omega)).trans ((pm_up_n (by omega)).trans hgp)) (by first | assumption | omega) (by decide) (by decide)) mt_X13_ends sv_X13_97 dX13_sell_12 rfl rfl rfl rfl rfl ?_
  refine pm_mem (M' := pm_up (pm_up (pm_up M m0 (pm_mo z m0 (upd (upd (upd (upd f 5 (nI k)) 6 0) 7 0) 6 1))) (m0 + 2) (.inl (kA 0, 91, .inl (va_cpy g gb 0 0 91)))) (m0 + 1) (.inl (kA 0, 91, .inl (va_cpy (va_cpy g gb 0 0 91) g 0 0 91)))) rfl ?_
  refine pm_stk (st' := [.int 0]) rfl ?_
  exact pm_ireturn B dX13_sell_15 rfl (by first | rfl | (apply pm_nz; first | assumption | decide | exact pm_in01 _ _ _ | simp)) ⟨rfl, rfl, rfl⟩ rfl rfl
set_option maxRecDepth 100000 in
set_option maxHeartbeats 4000000 in
theorem c_X13_sell_of1 {l : Launch} {z : Nat} {D : va_G} {kA : Nat → ClassId} {kE : Nat → Nat} {nx : Nat} {M : pm_M} {m0 : Nat} {f : Nat → Int32} (hM : M m0 = some (pm_mo z m0 (upd f 5 8))) {g : Nat → Int32} (hg : M (m0 + 1) = some (.inl (kA 0, 91, .inl g))) {gb : Nat → Int32} (hgb : M (m0 + 2) = some (.inl (kA 0, 91, .inl gb))) {gp : Nat → Int32} (hgp : M (m0 + 4) = some (.inl (kA 0, 728, .inl gp))) {x u : Int32} (h1 : ¬ (pm_in x 0 (g 0 - 1)) = 0) (h2 : (pm_in u 1 99) = 0) : pm_C l z D kA kE yX13_sell cX13_sell 3 (some .int) 3 0 0 [.ref (z + m0), .int x, .int u] nx M (pm_rt (some (.int 0)) nx (pm_up (pm_up (pm_up M m0 (pm_mo z m0 (upd (upd (upd (upd f 5 8) 6 0) 7 0) 6 2))) (m0 + 2) (.inl (kA 0, 91, .inl (va_cpy g gb 0 0 91)))) (m0 + 1) (.inl (kA 0, 91, .inl (va_cpy (va_cpy g gb 0 0 91) g 0 0 91))))) := by
  refine pm_mk (own := RX13) (nm := "sell") mt_X13_sell rfl rfl rfl rfl fun X B => ?_
  refine pm_loc (L' := [some (.ref (z + m0)), some (.int x), some (.int u)]) rfl ?_
  refine pm_aload_n B dX13_sell_0 rfl ?_
  refine pm_cV (As := []) (mc2 := 0) (ms2 := 0) B rfl hM rfl (c_X13_keep (f := (upd f 5 8)) (g := g) (gb := gb) hM hg hgb  ) mt_X13_keep sv_X13_91 dX13_sell_1 rfl rfl rfl rfl rfl ?_
  refine pm_mem (M' := pm_up M m0 (pm_mo z m0 (upd (upd (upd f 5 8) 6 0) 7 0))) rfl ?_
  refine pm_mem (M' := pm_up (pm_up M m0 (pm_mo z m0 (upd (upd (upd f 5 8) 6 0) 7 0))) (m0 + 2) (.inl (kA 0, 91, .inl (va_cpy g gb 0 0 91)))) rfl ?_
  refine pm_stk (st' := []) rfl ?_
  refine pm_aload_n B dX13_sell_4 rfl ?_
  refine pm_aload_n B dX13_sell_5 rfl ?_
  refine pm_iload_n B dX13_sell_6 rfl ?_
  refine pm_iload_n B dX13_sell_7 rfl ?_
  refine pm_cV (As := [.int x, .int u]) (mc2 := 0) (ms2 := 0) B rfl ((pm_up_n (by omega)).trans pm_up_s) rfl (c_X13_doSell_o1 (x := x) (u := u) (f := (upd (upd (upd f 5 8) 6 0) 7 0)) (g := g) ((pm_up_n (by omega)).trans pm_up_s) ((pm_up_n (by omega)).trans ((pm_up_n (by omega)).trans hg))  h1 h2) mt_X13_doSell sv_X13_134 dX13_sell_8 rfl rfl rfl rfl rfl ?_
  refine pm_mem (M' := pm_up (pm_up (pm_up M m0 (pm_mo z m0 (upd (upd (upd f 5 8) 6 0) 7 0))) (m0 + 2) (.inl (kA 0, 91, .inl (va_cpy g gb 0 0 91)))) m0 (pm_mo z m0 (upd (upd (upd (upd f 5 8) 6 0) 7 0) 6 2))) rfl ?_
  refine pm_mem (M' := pm_up (pm_up M m0 (pm_mo z m0 (upd (upd (upd (upd f 5 8) 6 0) 7 0) 6 2))) (m0 + 2) (.inl (kA 0, 91, .inl (va_cpy g gb 0 0 91)))) (by rw [pm_up_sw (a := m0 + 2) (b := m0) (by omega), pm_up_up]) ?_
  refine pm_stk (st' := [.int 0, .ref (z + m0)]) rfl ?_
  refine pm_iconst (v := 0) B dX13_sell_11 (by decide) ?_
  refine pm_cV (As := [.int 0, .int 0]) (mc2 := 0) (ms2 := 0) B rfl ((pm_up_n (by omega)).trans pm_up_s) rfl (c_X13_ends_f2 (x := 0) (y := 0) (f := (upd (upd (upd (upd f 5 8) 6 0) 7 0) 6 2)) (g := g) (gb := (va_cpy g gb 0 0 91)) (gp := gp) ((pm_up_n (by omega)).trans pm_up_s) ((pm_up_n (by omega)).trans ((pm_up_n (by omega)).trans hg)) pm_up_s ((pm_up_n (by omega)).trans ((pm_up_n (by omega)).trans hgp))  (by decide) (by decide)) mt_X13_ends sv_X13_97 dX13_sell_12 rfl rfl rfl rfl rfl ?_
  refine pm_mem (M' := pm_up (pm_up (pm_up M m0 (pm_mo z m0 (upd (upd (upd (upd f 5 8) 6 0) 7 0) 6 2))) (m0 + 2) (.inl (kA 0, 91, .inl (va_cpy g gb 0 0 91)))) (m0 + 1) (.inl (kA 0, 91, .inl (va_cpy (va_cpy g gb 0 0 91) g 0 0 91)))) rfl ?_
  refine pm_stk (st' := [.int 0]) rfl ?_
  exact pm_ireturn B dX13_sell_15 rfl (by first | rfl | (apply pm_nz; first | assumption | decide | exact pm_in01 _ _ _ | simp)) ⟨rfl, rfl, rfl⟩ rfl rfl
set_option maxRecDepth 100000 in
set_option maxHeartbeats 4000000 in
theorem c_X13_sell_of2 {l : Launch} {z : Nat} {D : va_G} {kA : Nat → ClassId} {kE : Nat → Nat} {nx : Nat} {M : pm_M} {m0 : Nat} {f : Nat → Int32} (hM : M m0 = some (pm_mo z m0 (upd f 5 8))) {g : Nat → Int32} (hg : M (m0 + 1) = some (.inl (kA 0, 91, .inl g))) {gb : Nat → Int32} (hgb : M (m0 + 2) = some (.inl (kA 0, 91, .inl gb))) {gp : Nat → Int32} (hgp : M (m0 + 4) = some (.inl (kA 0, 728, .inl gp))) {x u : Int32} (h1 : (pm_in x 0 (g 0 - 1)) = 0) : pm_C l z D kA kE yX13_sell cX13_sell 3 (some .int) 3 0 0 [.ref (z + m0), .int x, .int u] nx M (pm_rt (some (.int 0)) nx (pm_up (pm_up (pm_up M m0 (pm_mo z m0 (upd (upd (upd (upd f 5 8) 6 0) 7 0) 6 1))) (m0 + 2) (.inl (kA 0, 91, .inl (va_cpy g gb 0 0 91)))) (m0 + 1) (.inl (kA 0, 91, .inl (va_cpy (va_cpy g gb 0 0 91) g 0 0 91))))) := by
  refine pm_mk (own := RX13) (nm := "sell") mt_X13_sell rfl rfl rfl rfl fun X B => ?_
  refine pm_loc (L' := [some (.ref (z + m0)), some (.int x), some (.int u)]) rfl ?_
  refine pm_aload_n B dX13_sell_0 rfl ?_
  refine pm_cV (As := []) (mc2 := 0) (ms2 := 0) B rfl hM rfl (c_X13_keep (f := (upd f 5 8)) (g := g) (gb := gb) hM hg hgb  ) mt_X13_keep sv_X13_91 dX13_sell_1 rfl rfl rfl rfl rfl ?_
  refine pm_mem (M' := pm_up M m0 (pm_mo z m0 (upd (upd (upd f 5 8) 6 0) 7 0))) rfl ?_
  refine pm_mem (M' := pm_up (pm_up M m0 (pm_mo z m0 (upd (upd (upd f 5 8) 6 0) 7 0))) (m0 + 2) (.inl (kA 0, 91, .inl (va_cpy g gb 0 0 91)))) rfl ?_
  refine pm_stk (st' := []) rfl ?_
  refine pm_aload_n B dX13_sell_4 rfl ?_
  refine pm_aload_n B dX13_sell_5 rfl ?_
  refine pm_iload_n B dX13_sell_6 rfl ?_
  refine pm_iload_n B dX13_sell_7 rfl ?_
  refine pm_cV (As := [.int x, .int u]) (mc2 := 0) (ms2 := 0) B rfl ((pm_up_n (by omega)).trans pm_up_s) rfl (c_X13_doSell_o2 (x := x) (u := u) (f := (upd (upd (upd f 5 8) 6 0) 7 0)) (g := g) ((pm_up_n (by omega)).trans pm_up_s) ((pm_up_n (by omega)).trans ((pm_up_n (by omega)).trans hg))  h1) mt_X13_doSell sv_X13_134 dX13_sell_8 rfl rfl rfl rfl rfl ?_
  refine pm_mem (M' := pm_up (pm_up (pm_up M m0 (pm_mo z m0 (upd (upd (upd f 5 8) 6 0) 7 0))) (m0 + 2) (.inl (kA 0, 91, .inl (va_cpy g gb 0 0 91)))) m0 (pm_mo z m0 (upd (upd (upd (upd f 5 8) 6 0) 7 0) 6 1))) rfl ?_
  refine pm_mem (M' := pm_up (pm_up M m0 (pm_mo z m0 (upd (upd (upd (upd f 5 8) 6 0) 7 0) 6 1))) (m0 + 2) (.inl (kA 0, 91, .inl (va_cpy g gb 0 0 91)))) (by rw [pm_up_sw (a := m0 + 2) (b := m0) (by omega), pm_up_up]) ?_
  refine pm_stk (st' := [.int 0, .ref (z + m0)]) rfl ?_
  refine pm_iconst (v := 0) B dX13_sell_11 (by decide) ?_
  refine pm_cV (As := [.int 0, .int 0]) (mc2 := 0) (ms2 := 0) B rfl ((pm_up_n (by omega)).trans pm_up_s) rfl (c_X13_ends_f2 (x := 0) (y := 0) (f := (upd (upd (upd (upd f 5 8) 6 0) 7 0) 6 1)) (g := g) (gb := (va_cpy g gb 0 0 91)) (gp := gp) ((pm_up_n (by omega)).trans pm_up_s) ((pm_up_n (by omega)).trans ((pm_up_n (by omega)).trans hg)) pm_up_s ((pm_up_n (by omega)).trans ((pm_up_n (by omega)).trans hgp))  (by decide) (by decide)) mt_X13_ends sv_X13_97 dX13_sell_12 rfl rfl rfl rfl rfl ?_
  refine pm_mem (M' := pm_up (pm_up (pm_up M m0 (pm_mo z m0 (upd (upd (upd (upd f 5 8) 6 0) 7 0) 6 1))) (m0 + 2) (.inl (kA 0, 91, .inl (va_cpy g gb 0 0 91)))) (m0 + 1) (.inl (kA 0, 91, .inl (va_cpy (va_cpy g gb 0 0 91) g 0 0 91)))) rfl ?_
  refine pm_stk (st' := [.int 0]) rfl ?_
  exact pm_ireturn B dX13_sell_15 rfl (by first | rfl | (apply pm_nz; first | assumption | decide | exact pm_in01 _ _ _ | simp)) ⟨rfl, rfl, rfl⟩ rfl rfl
set_option maxRecDepth 100000 in
set_option maxHeartbeats 4000000 in
theorem c_X13_sell_is1 {l : Launch} {z : Nat} {D : va_G} {kA : Nat → ClassId} {kE : Nat → Nat} {nx : Nat} {M : pm_M} {k : Nat} (hk : k < 8) {m0 : Nat} {f : Nat → Int32} (hM : M m0 = some (pm_mo z m0 (upd f 5 (nI k)))) {g : Nat → Int32} (hg : M (m0 + 1) = some (.inl (kA 0, 91, .inl g))) {gb : Nat → Int32} (hgb : M (m0 + 2) = some (.inl (kA 0, 91, .inl gb))) {gp : Nat → Int32} (hgp : M (m0 + 4) = some (.inl (kA 0, 728, .inl gp))) {i : Nat} {u : Int32} (hi : i < 7) (h1 : ¬ (pm_in (nI i) 0 (g 0 - 1)) = 0) (h2 : (pm_in u 1 99) = 0) : pm_C l z D kA kE yX13_sell cX13_sell 3 (some .int) 3 0 0 [.ref (z + m0), .int (nI i), .int u] nx M (pm_rt (some (.int 0)) nx (pm_up (pm_up (pm_up M m0 (pm_mo z m0 (upd (upd (upd (upd f 5 (nI k)) 6 0) 7 0) 6 2))) (m0 + 2) (.inl (kA 0, 91, .inl (va_cpy g gb 0 0 91)))) (m0 + 1) (.inl (kA 0, 91, .inl (va_cpy (va_cpy g gb 0 0 91) g 0 0 91))))) := by
  refine pm_mk (own := RX13) (nm := "sell") mt_X13_sell rfl rfl rfl rfl fun X B => ?_
  refine pm_loc (L' := [some (.ref (z + m0)), some (.int (nI i)), some (.int u)]) rfl ?_
  refine pm_aload_n B dX13_sell_0 rfl ?_
  refine pm_cV (As := []) (mc2 := 0) (ms2 := 0) B rfl hM rfl (c_X13_keep (f := (upd f 5 (nI k))) (g := g) (gb := gb) hM hg hgb  ) mt_X13_keep sv_X13_91 dX13_sell_1 rfl rfl rfl rfl rfl ?_
  refine pm_mem (M' := pm_up M m0 (pm_mo z m0 (upd (upd (upd f 5 (nI k)) 6 0) 7 0))) rfl ?_
  refine pm_mem (M' := pm_up (pm_up M m0 (pm_mo z m0 (upd (upd (upd f 5 (nI k)) 6 0) 7 0))) (m0 + 2) (.inl (kA 0, 91, .inl (va_cpy g gb 0 0 91)))) rfl ?_
  refine pm_stk (st' := []) rfl ?_
  refine pm_aload_n B dX13_sell_4 rfl ?_
  refine pm_aload_n B dX13_sell_5 rfl ?_
  refine pm_iload_n B dX13_sell_6 rfl ?_
  refine pm_iload_n B dX13_sell_7 rfl ?_
  refine pm_cV (As := [.int (nI i), .int u]) (mc2 := 0) (ms2 := 0) B rfl ((pm_up_n (by omega)).trans pm_up_s) rfl (c_X13_doSell_o1 (x := (nI i)) (u := u) (f := (upd (upd (upd f 5 (nI k)) 6 0) 7 0)) (g := g) ((pm_up_n (by omega)).trans pm_up_s) ((pm_up_n (by omega)).trans ((pm_up_n (by omega)).trans hg))  h1 h2) mt_X13_doSell sv_X13_134 dX13_sell_8 rfl rfl rfl rfl rfl ?_
  refine pm_mem (M' := pm_up (pm_up (pm_up M m0 (pm_mo z m0 (upd (upd (upd f 5 (nI k)) 6 0) 7 0))) (m0 + 2) (.inl (kA 0, 91, .inl (va_cpy g gb 0 0 91)))) m0 (pm_mo z m0 (upd (upd (upd (upd f 5 (nI k)) 6 0) 7 0) 6 2))) rfl ?_
  refine pm_mem (M' := pm_up (pm_up M m0 (pm_mo z m0 (upd (upd (upd (upd f 5 (nI k)) 6 0) 7 0) 6 2))) (m0 + 2) (.inl (kA 0, 91, .inl (va_cpy g gb 0 0 91)))) (by rw [pm_up_sw (a := m0 + 2) (b := m0) (by omega), pm_up_up]) ?_
  refine pm_stk (st' := [.int 0, .ref (z + m0)]) rfl ?_
  refine pm_iconst (v := 0) B dX13_sell_11 (by decide) ?_
  refine pm_cV (As := [.int 0, .int 0]) (mc2 := 0) (ms2 := 0) B rfl ((pm_up_n (by omega)).trans pm_up_s) rfl (c_X13_ends_s2 (x := 0) (y := 0) (k := k) (f := (upd (upd (upd (upd f 5 (nI k)) 6 0) 7 0) 6 2)) (g := g) (gb := (va_cpy g gb 0 0 91)) (gp := gp) ((pm_up_n (by omega)).trans pm_up_s) ((pm_up_n (by omega)).trans ((pm_up_n (by omega)).trans hg)) pm_up_s ((pm_up_n (by omega)).trans ((pm_up_n (by omega)).trans hgp)) (by first | assumption | omega) (by decide) (by decide)) mt_X13_ends sv_X13_97 dX13_sell_12 rfl rfl rfl rfl rfl ?_
  refine pm_mem (M' := pm_up (pm_up (pm_up M m0 (pm_mo z m0 (upd (upd (upd (upd f 5 (nI k)) 6 0) 7 0) 6 2))) (m0 + 2) (.inl (kA 0, 91, .inl (va_cpy g gb 0 0 91)))) (m0 + 1) (.inl (kA 0, 91, .inl (va_cpy (va_cpy g gb 0 0 91) g 0 0 91)))) rfl ?_
  refine pm_stk (st' := [.int 0]) rfl ?_
  exact pm_ireturn B dX13_sell_15 rfl (by first | rfl | (apply pm_nz; first | assumption | decide | exact pm_in01 _ _ _ | simp)) ⟨rfl, rfl, rfl⟩ rfl rfl
set_option maxRecDepth 100000 in
set_option maxHeartbeats 4000000 in
theorem c_X13_sell_is2 {l : Launch} {z : Nat} {D : va_G} {kA : Nat → ClassId} {kE : Nat → Nat} {nx : Nat} {M : pm_M} {k : Nat} (hk : k < 8) {m0 : Nat} {f : Nat → Int32} (hM : M m0 = some (pm_mo z m0 (upd f 5 (nI k)))) {g : Nat → Int32} (hg : M (m0 + 1) = some (.inl (kA 0, 91, .inl g))) {gb : Nat → Int32} (hgb : M (m0 + 2) = some (.inl (kA 0, 91, .inl gb))) {gp : Nat → Int32} (hgp : M (m0 + 4) = some (.inl (kA 0, 728, .inl gp))) {i : Nat} {u : Int32} (hi : i < 7) (h1 : (pm_in (nI i) 0 (g 0 - 1)) = 0) : pm_C l z D kA kE yX13_sell cX13_sell 3 (some .int) 3 0 0 [.ref (z + m0), .int (nI i), .int u] nx M (pm_rt (some (.int 0)) nx (pm_up (pm_up (pm_up M m0 (pm_mo z m0 (upd (upd (upd (upd f 5 (nI k)) 6 0) 7 0) 6 1))) (m0 + 2) (.inl (kA 0, 91, .inl (va_cpy g gb 0 0 91)))) (m0 + 1) (.inl (kA 0, 91, .inl (va_cpy (va_cpy g gb 0 0 91) g 0 0 91))))) := by
  refine pm_mk (own := RX13) (nm := "sell") mt_X13_sell rfl rfl rfl rfl fun X B => ?_
  refine pm_loc (L' := [some (.ref (z + m0)), some (.int (nI i)), some (.int u)]) rfl ?_
  refine pm_aload_n B dX13_sell_0 rfl ?_
  refine pm_cV (As := []) (mc2 := 0) (ms2 := 0) B rfl hM rfl (c_X13_keep (f := (upd f 5 (nI k))) (g := g) (gb := gb) hM hg hgb  ) mt_X13_keep sv_X13_91 dX13_sell_1 rfl rfl rfl rfl rfl ?_
  refine pm_mem (M' := pm_up M m0 (pm_mo z m0 (upd (upd (upd f 5 (nI k)) 6 0) 7 0))) rfl ?_
  refine pm_mem (M' := pm_up (pm_up M m0 (pm_mo z m0 (upd (upd (upd f 5 (nI k)) 6 0) 7 0))) (m0 + 2) (.inl (kA 0, 91, .inl (va_cpy g gb 0 0 91)))) rfl ?_
  refine pm_stk (st' := []) rfl ?_
  refine pm_aload_n B dX13_sell_4 rfl ?_
  refine pm_aload_n B dX13_sell_5 rfl ?_
  refine pm_iload_n B dX13_sell_6 rfl ?_
  refine pm_iload_n B dX13_sell_7 rfl ?_
  refine pm_cV (As := [.int (nI i), .int u]) (mc2 := 0) (ms2 := 0) B rfl ((pm_up_n (by omega)).trans pm_up_s) rfl (c_X13_doSell_o2 (x := (nI i)) (u := u) (f := (upd (upd (upd f 5 (nI k)) 6 0) 7 0)) (g := g) ((pm_up_n (by omega)).trans pm_up_s) ((pm_up_n (by omega)).trans ((pm_up_n (by omega)).trans hg))  h1) mt_X13_doSell sv_X13_134 dX13_sell_8 rfl rfl rfl rfl rfl ?_
  refine pm_mem (M' := pm_up (pm_up (pm_up M m0 (pm_mo z m0 (upd (upd (upd f 5 (nI k)) 6 0) 7 0))) (m0 + 2) (.inl (kA 0, 91, .inl (va_cpy g gb 0 0 91)))) m0 (pm_mo z m0 (upd (upd (upd (upd f 5 (nI k)) 6 0) 7 0) 6 1))) rfl ?_
  refine pm_mem (M' := pm_up (pm_up M m0 (pm_mo z m0 (upd (upd (upd (upd f 5 (nI k)) 6 0) 7 0) 6 1))) (m0 + 2) (.inl (kA 0, 91, .inl (va_cpy g gb 0 0 91)))) (by rw [pm_up_sw (a := m0 + 2) (b := m0) (by omega), pm_up_up]) ?_
  refine pm_stk (st' := [.int 0, .ref (z + m0)]) rfl ?_
  refine pm_iconst (v := 0) B dX13_sell_11 (by decide) ?_
  refine pm_cV (As := [.int 0, .int 0]) (mc2 := 0) (ms2 := 0) B rfl ((pm_up_n (by omega)).trans pm_up_s) rfl (c_X13_ends_s2 (x := 0) (y := 0) (k := k) (f := (upd (upd (upd (upd f 5 (nI k)) 6 0) 7 0) 6 1)) (g := g) (gb := (va_cpy g gb 0 0 91)) (gp := gp) ((pm_up_n (by omega)).trans pm_up_s) ((pm_up_n (by omega)).trans ((pm_up_n (by omega)).trans hg)) pm_up_s ((pm_up_n (by omega)).trans ((pm_up_n (by omega)).trans hgp)) (by first | assumption | omega) (by decide) (by decide)) mt_X13_ends sv_X13_97 dX13_sell_12 rfl rfl rfl rfl rfl ?_
  refine pm_mem (M' := pm_up (pm_up (pm_up M m0 (pm_mo z m0 (upd (upd (upd (upd f 5 (nI k)) 6 0) 7 0) 6 1))) (m0 + 2) (.inl (kA 0, 91, .inl (va_cpy g gb 0 0 91)))) (m0 + 1) (.inl (kA 0, 91, .inl (va_cpy (va_cpy g gb 0 0 91) g 0 0 91)))) rfl ?_
  refine pm_stk (st' := [.int 0]) rfl ?_
  exact pm_ireturn B dX13_sell_15 rfl (by first | rfl | (apply pm_nz; first | assumption | decide | exact pm_in01 _ _ _ | simp)) ⟨rfl, rfl, rfl⟩ rfl rfl
set_option maxRecDepth 100000 in
set_option maxHeartbeats 4000000 in
theorem c_X13_sell_is3 {l : Launch} {z : Nat} {D : va_G} {kA : Nat → ClassId} {kE : Nat → Nat} {nx : Nat} {M : pm_M} {k : Nat} (hk : k < 8) {m0 : Nat} {f : Nat → Int32} (hM : M m0 = some (pm_mo z m0 (upd f 5 (nI k)))) {g : Nat → Int32} (hg : M (m0 + 1) = some (.inl (kA 0, 91, .inl g))) {gb : Nat → Int32} (hgb : M (m0 + 2) = some (.inl (kA 0, 91, .inl gb))) {gp : Nat → Int32} (hgp : M (m0 + 4) = some (.inl (kA 0, 728, .inl gp))) {i : Nat} {u : Int32} (hi : i < 7) (h1 : ¬ (pm_in (nI i) 0 (g 0 - 1)) = 0) (h2 : ¬ (pm_in u 1 99) = 0) (h3 : (pm_ib g i) = 0) (h4 : u ≤ ((g (7 + 5 * i + 0)) - (g (7 + 5 * i + 3)))) : pm_C l z D kA kE yX13_sell cX13_sell 3 (some .int) 3 0 0 [.ref (z + m0), .int (nI i), .int u] nx M (pm_rt (some (.int ((g (7 + 5 * i + 3)) + u))) nx (pm_up (pm_up (pm_up (pm_up M m0 (pm_mo z m0 (upd (upd (upd (upd (upd f 5 (nI k)) 6 0) 7 0) 5 (nI k)) 5 ((nI k) + 1)))) (m0 + 2) (.inl (kA 0, 91, .inl (va_cpy g gb 0 0 91)))) (m0 + 1) (.inl (kA 0, 91, .inl (upd g (7 + 5 * i + 3) ((g (7 + 5 * i + 3)) + u))))) (m0 + 4) (.inl (kA 0, 728, .inl (va_cpy (va_cpy g gb 0 0 91) gp 0 (91 * k) 91))))) := by
  refine pm_mk (own := RX13) (nm := "sell") mt_X13_sell rfl rfl rfl rfl fun X B => ?_
  refine pm_loc (L' := [some (.ref (z + m0)), some (.int (nI i)), some (.int u)]) rfl ?_
  refine pm_aload_n B dX13_sell_0 rfl ?_
  refine pm_cV (As := []) (mc2 := 0) (ms2 := 0) B rfl hM rfl (c_X13_keep (f := (upd f 5 (nI k))) (g := g) (gb := gb) hM hg hgb  ) mt_X13_keep sv_X13_91 dX13_sell_1 rfl rfl rfl rfl rfl ?_
  refine pm_mem (M' := pm_up M m0 (pm_mo z m0 (upd (upd (upd f 5 (nI k)) 6 0) 7 0))) rfl ?_
  refine pm_mem (M' := pm_up (pm_up M m0 (pm_mo z m0 (upd (upd (upd f 5 (nI k)) 6 0) 7 0))) (m0 + 2) (.inl (kA 0, 91, .inl (va_cpy g gb 0 0 91)))) rfl ?_
  refine pm_stk (st' := []) rfl ?_
  refine pm_aload_n B dX13_sell_4 rfl ?_
  refine pm_aload_n B dX13_sell_5 rfl ?_
  refine pm_iload_n B dX13_sell_6 rfl ?_
  refine pm_iload_n B dX13_sell_7 rfl ?_
  refine pm_cV (As := [.int (nI i), .int u]) (mc2 := 0) (ms2 := 0) B rfl ((pm_up_n (by omega)).trans pm_up_s) rfl (c_X13_doSell_i1 (i := i) (u := u) (f := (upd (upd (upd f 5 (nI k)) 6 0) 7 0)) (g := g) ((pm_up_n (by omega)).trans pm_up_s) ((pm_up_n (by omega)).trans ((pm_up_n (by omega)).trans hg)) (by omega) h1 h2 h3 h4) mt_X13_doSell sv_X13_134 dX13_sell_8 rfl rfl rfl rfl rfl ?_
  refine pm_mem (M' := pm_up (pm_up (pm_up M m0 (pm_mo z m0 (upd (upd (upd f 5 (nI k)) 6 0) 7 0))) (m0 + 2) (.inl (kA 0, 91, .inl (va_cpy g gb 0 0 91)))) (m0 + 1) (.inl (kA 0, 91, .inl (upd g (7 + 5 * i + 3) ((g (7 + 5 * i + 3)) + u))))) rfl ?_
  refine pm_stk (st' := [.int ((g (7 + 5 * i + 3)) + u), .ref (z + m0)]) rfl ?_
  refine pm_iconst (v := 0) B dX13_sell_11 (by decide) ?_
  refine pm_cV (As := [.int ((g (7 + 5 * i + 3)) + u), .int 0]) (mc2 := 0) (ms2 := 0) B rfl ((pm_up_n (by omega)).trans ((pm_up_n (by omega)).trans pm_up_s)) rfl (c_X13_ends_s1 (x := ((g (7 + 5 * i + 3)) + u)) (y := 0) (k := k) (f := (upd (upd (upd f 5 (nI k)) 6 0) 7 0)) (g := (upd g (7 + 5 * i + 3) ((g (7 + 5 * i + 3)) + u))) (gb := (va_cpy g gb 0 0 91)) (gp := gp) ((pm_up_n (by omega)).trans ((pm_up_n (by omega)).trans pm_up_s)) pm_up_s ((pm_up_n (by omega)).trans pm_up_s) ((pm_up_n (by omega)).trans ((pm_up_n (by omega)).trans ((pm_up_n (by omega)).trans hgp))) (by first | assumption | omega) (by decide) (by decide)) mt_X13_ends sv_X13_97 dX13_sell_12 rfl rfl rfl rfl rfl ?_
  refine pm_mem (M' := pm_up (pm_up (pm_up (pm_up M m0 (pm_mo z m0 (upd (upd (upd f 5 (nI k)) 6 0) 7 0))) (m0 + 2) (.inl (kA 0, 91, .inl (va_cpy g gb 0 0 91)))) (m0 + 1) (.inl (kA 0, 91, .inl (upd g (7 + 5 * i + 3) ((g (7 + 5 * i + 3)) + u))))) (m0 + 4) (.inl (kA 0, 728, .inl (va_cpy (va_cpy g gb 0 0 91) gp 0 (91 * k) 91)))) rfl ?_
  refine pm_mem (M' := pm_up (pm_up (pm_up (pm_up (pm_up M m0 (pm_mo z m0 (upd (upd (upd f 5 (nI k)) 6 0) 7 0))) (m0 + 2) (.inl (kA 0, 91, .inl (va_cpy g gb 0 0 91)))) (m0 + 1) (.inl (kA 0, 91, .inl (upd g (7 + 5 * i + 3) ((g (7 + 5 * i + 3)) + u))))) (m0 + 4) (.inl (kA 0, 728, .inl (va_cpy (va_cpy g gb 0 0 91) gp 0 (91 * k) 91)))) m0 (pm_mo z m0 (upd (upd (upd (upd (upd f 5 (nI k)) 6 0) 7 0) 5 (nI k)) 5 ((nI k) + 1)))) rfl ?_
  refine pm_mem (M' := pm_up (pm_up (pm_up (pm_up M m0 (pm_mo z m0 (upd (upd (upd (upd (upd f 5 (nI k)) 6 0) 7 0) 5 (nI k)) 5 ((nI k) + 1)))) (m0 + 2) (.inl (kA 0, 91, .inl (va_cpy g gb 0 0 91)))) (m0 + 1) (.inl (kA 0, 91, .inl (upd g (7 + 5 * i + 3) ((g (7 + 5 * i + 3)) + u))))) (m0 + 4) (.inl (kA 0, 728, .inl (va_cpy (va_cpy g gb 0 0 91) gp 0 (91 * k) 91)))) (by rw [pm_up_sw (a := m0 + 4) (b := m0) (by omega), pm_up_sw (a := m0 + 1) (b := m0) (by omega), pm_up_sw (a := m0 + 2) (b := m0) (by omega), pm_up_up]) ?_
  refine pm_stk (st' := [.int ((g (7 + 5 * i + 3)) + u)]) rfl ?_
  exact pm_ireturn B dX13_sell_15 rfl (by first | rfl | (apply pm_nz; first | assumption | decide | exact pm_in01 _ _ _ | simp)) ⟨rfl, rfl, rfl⟩ rfl rfl
set_option maxRecDepth 100000 in
set_option maxHeartbeats 4000000 in
theorem c_X13_sell_is4 {l : Launch} {z : Nat} {D : va_G} {kA : Nat → ClassId} {kE : Nat → Nat} {nx : Nat} {M : pm_M} {k : Nat} (hk : k < 8) {m0 : Nat} {f : Nat → Int32} (hM : M m0 = some (pm_mo z m0 (upd f 5 (nI k)))) {g : Nat → Int32} (hg : M (m0 + 1) = some (.inl (kA 0, 91, .inl g))) {gb : Nat → Int32} (hgb : M (m0 + 2) = some (.inl (kA 0, 91, .inl gb))) {gp : Nat → Int32} (hgp : M (m0 + 4) = some (.inl (kA 0, 728, .inl gp))) {i : Nat} {u : Int32} (hi : i < 7) (h1 : ¬ (pm_in (nI i) 0 (g 0 - 1)) = 0) (h2 : ¬ (pm_in u 1 99) = 0) (h3 : (pm_ib g i) = 0) (h4 : ¬ u ≤ ((g (7 + 5 * i + 0)) - (g (7 + 5 * i + 3)))) : pm_C l z D kA kE yX13_sell cX13_sell 3 (some .int) 3 0 0 [.ref (z + m0), .int (nI i), .int u] nx M (pm_rt (some (.int 0)) nx (pm_up (pm_up (pm_up M m0 (pm_mo z m0 (upd (upd (upd (upd (upd (upd (upd (upd (upd (upd f 5 (nI k)) 6 0) 7 0) 7 3) 8 ((g (7 + 5 * i + 0)) - (g (7 + 5 * i + 3)))) 6 3) 5 (nI k)) 9 ((upd (upd (upd (upd (upd (upd (upd f 5 (nI k)) 6 0) 7 0) 7 3) 8 ((g (7 + 5 * i + 0)) - (g (7 + 5 * i + 3)))) 6 3) 5 (nI k)) 7)) 10 ((upd (upd (upd (upd (upd (upd (upd f 5 (nI k)) 6 0) 7 0) 7 3) 8 ((g (7 + 5 * i + 0)) - (g (7 + 5 * i + 3)))) 6 3) 5 (nI k)) 8)) 11 0))) (m0 + 2) (.inl (kA 0, 91, .inl (va_cpy g gb 0 0 91)))) (m0 + 1) (.inl (kA 0, 91, .inl (va_cpy (va_cpy g gb 0 0 91) g 0 0 91))))) := by
  refine pm_mk (own := RX13) (nm := "sell") mt_X13_sell rfl rfl rfl rfl fun X B => ?_
  refine pm_loc (L' := [some (.ref (z + m0)), some (.int (nI i)), some (.int u)]) rfl ?_
  refine pm_aload_n B dX13_sell_0 rfl ?_
  refine pm_cV (As := []) (mc2 := 0) (ms2 := 0) B rfl hM rfl (c_X13_keep (f := (upd f 5 (nI k))) (g := g) (gb := gb) hM hg hgb  ) mt_X13_keep sv_X13_91 dX13_sell_1 rfl rfl rfl rfl rfl ?_
  refine pm_mem (M' := pm_up M m0 (pm_mo z m0 (upd (upd (upd f 5 (nI k)) 6 0) 7 0))) rfl ?_
  refine pm_mem (M' := pm_up (pm_up M m0 (pm_mo z m0 (upd (upd (upd f 5 (nI k)) 6 0) 7 0))) (m0 + 2) (.inl (kA 0, 91, .inl (va_cpy g gb 0 0 91)))) rfl ?_
  refine pm_stk (st' := []) rfl ?_
  refine pm_aload_n B dX13_sell_4 rfl ?_
  refine pm_aload_n B dX13_sell_5 rfl ?_
  refine pm_iload_n B dX13_sell_6 rfl ?_
  refine pm_iload_n B dX13_sell_7 rfl ?_
  refine pm_cV (As := [.int (nI i), .int u]) (mc2 := 0) (ms2 := 0) B rfl ((pm_up_n (by omega)).trans pm_up_s) rfl (c_X13_doSell_i2 (i := i) (u := u) (f := (upd (upd (upd f 5 (nI k)) 6 0) 7 0)) (g := g) ((pm_up_n (by omega)).trans pm_up_s) ((pm_up_n (by omega)).trans ((pm_up_n (by omega)).trans hg)) (by omega) h1 h2 h3 h4) mt_X13_doSell sv_X13_134 dX13_sell_8 rfl rfl rfl rfl rfl ?_
  refine pm_mem (M' := pm_up (pm_up (pm_up M m0 (pm_mo z m0 (upd (upd (upd f 5 (nI k)) 6 0) 7 0))) (m0 + 2) (.inl (kA 0, 91, .inl (va_cpy g gb 0 0 91)))) m0 (pm_mo z m0 (upd (upd (upd (upd (upd (upd f 5 (nI k)) 6 0) 7 0) 7 3) 8 ((g (7 + 5 * i + 0)) - (g (7 + 5 * i + 3)))) 6 3))) rfl ?_
  refine pm_mem (M' := pm_up (pm_up M m0 (pm_mo z m0 (upd (upd (upd (upd (upd (upd f 5 (nI k)) 6 0) 7 0) 7 3) 8 ((g (7 + 5 * i + 0)) - (g (7 + 5 * i + 3)))) 6 3))) (m0 + 2) (.inl (kA 0, 91, .inl (va_cpy g gb 0 0 91)))) (by rw [pm_up_sw (a := m0 + 2) (b := m0) (by omega), pm_up_up]) ?_
  refine pm_stk (st' := [.int 0, .ref (z + m0)]) rfl ?_
  refine pm_iconst (v := 0) B dX13_sell_11 (by decide) ?_
  refine pm_cV (As := [.int 0, .int 0]) (mc2 := 0) (ms2 := 0) B rfl ((pm_up_n (by omega)).trans pm_up_s) rfl (c_X13_ends_s4 (x := 0) (y := 0) (k := k) (f := (upd (upd (upd (upd (upd (upd f 5 (nI k)) 6 0) 7 0) 7 3) 8 ((g (7 + 5 * i + 0)) - (g (7 + 5 * i + 3)))) 6 3)) (g := g) (gb := (va_cpy g gb 0 0 91)) (gp := gp) ((pm_up_n (by omega)).trans pm_up_s) ((pm_up_n (by omega)).trans ((pm_up_n (by omega)).trans hg)) pm_up_s ((pm_up_n (by omega)).trans ((pm_up_n (by omega)).trans hgp)) (by first | assumption | omega) (by decide) (by decide)) mt_X13_ends sv_X13_97 dX13_sell_12 rfl rfl rfl rfl rfl ?_
  refine pm_mem (M' := pm_up (pm_up (pm_up M m0 (pm_mo z m0 (upd (upd (upd (upd (upd (upd f 5 (nI k)) 6 0) 7 0) 7 3) 8 ((g (7 + 5 * i + 0)) - (g (7 + 5 * i + 3)))) 6 3))) (m0 + 2) (.inl (kA 0, 91, .inl (va_cpy g gb 0 0 91)))) m0 (pm_mo z m0 (upd (upd (upd (upd (upd (upd (upd (upd (upd (upd f 5 (nI k)) 6 0) 7 0) 7 3) 8 ((g (7 + 5 * i + 0)) - (g (7 + 5 * i + 3)))) 6 3) 5 (nI k)) 9 ((upd (upd (upd (upd (upd (upd (upd f 5 (nI k)) 6 0) 7 0) 7 3) 8 ((g (7 + 5 * i + 0)) - (g (7 + 5 * i + 3)))) 6 3) 5 (nI k)) 7)) 10 ((upd (upd (upd (upd (upd (upd (upd f 5 (nI k)) 6 0) 7 0) 7 3) 8 ((g (7 + 5 * i + 0)) - (g (7 + 5 * i + 3)))) 6 3) 5 (nI k)) 8)) 11 0))) rfl ?_
  refine pm_mem (M' := pm_up (pm_up M m0 (pm_mo z m0 (upd (upd (upd (upd (upd (upd (upd (upd (upd (upd f 5 (nI k)) 6 0) 7 0) 7 3) 8 ((g (7 + 5 * i + 0)) - (g (7 + 5 * i + 3)))) 6 3) 5 (nI k)) 9 ((upd (upd (upd (upd (upd (upd (upd f 5 (nI k)) 6 0) 7 0) 7 3) 8 ((g (7 + 5 * i + 0)) - (g (7 + 5 * i + 3)))) 6 3) 5 (nI k)) 7)) 10 ((upd (upd (upd (upd (upd (upd (upd f 5 (nI k)) 6 0) 7 0) 7 3) 8 ((g (7 + 5 * i + 0)) - (g (7 + 5 * i + 3)))) 6 3) 5 (nI k)) 8)) 11 0))) (m0 + 2) (.inl (kA 0, 91, .inl (va_cpy g gb 0 0 91)))) (by rw [pm_up_sw (a := m0 + 2) (b := m0) (by omega), pm_up_up]) ?_
  refine pm_mem (M' := pm_up (pm_up (pm_up M m0 (pm_mo z m0 (upd (upd (upd (upd (upd (upd (upd (upd (upd (upd f 5 (nI k)) 6 0) 7 0) 7 3) 8 ((g (7 + 5 * i + 0)) - (g (7 + 5 * i + 3)))) 6 3) 5 (nI k)) 9 ((upd (upd (upd (upd (upd (upd (upd f 5 (nI k)) 6 0) 7 0) 7 3) 8 ((g (7 + 5 * i + 0)) - (g (7 + 5 * i + 3)))) 6 3) 5 (nI k)) 7)) 10 ((upd (upd (upd (upd (upd (upd (upd f 5 (nI k)) 6 0) 7 0) 7 3) 8 ((g (7 + 5 * i + 0)) - (g (7 + 5 * i + 3)))) 6 3) 5 (nI k)) 8)) 11 0))) (m0 + 2) (.inl (kA 0, 91, .inl (va_cpy g gb 0 0 91)))) (m0 + 1) (.inl (kA 0, 91, .inl (va_cpy (va_cpy g gb 0 0 91) g 0 0 91)))) rfl ?_
  refine pm_stk (st' := [.int 0]) rfl ?_
  exact pm_ireturn B dX13_sell_15 rfl (by first | rfl | (apply pm_nz; first | assumption | decide | exact pm_in01 _ _ _ | simp)) ⟨rfl, rfl, rfl⟩ rfl rfl
set_option maxRecDepth 100000 in
set_option maxHeartbeats 4000000 in
theorem c_X13_sell_is5 {l : Launch} {z : Nat} {D : va_G} {kA : Nat → ClassId} {kE : Nat → Nat} {nx : Nat} {M : pm_M} {k : Nat} (hk : k < 8) {m0 : Nat} {f : Nat → Int32} (hM : M m0 = some (pm_mo z m0 (upd f 5 (nI k)))) {g : Nat → Int32} (hg : M (m0 + 1) = some (.inl (kA 0, 91, .inl g))) {gb : Nat → Int32} (hgb : M (m0 + 2) = some (.inl (kA 0, 91, .inl gb))) {gp : Nat → Int32} (hgp : M (m0 + 4) = some (.inl (kA 0, 728, .inl gp))) {i : Nat} {u : Int32} (hi : i < 7) (h1 : ¬ (pm_in (nI i) 0 (g 0 - 1)) = 0) (h2 : ¬ (pm_in u 1 99) = 0) (h3 : ¬ (pm_ib g i) = 0) : pm_C l z D kA kE yX13_sell cX13_sell 3 (some .int) 3 0 0 [.ref (z + m0), .int (nI i), .int u] nx M (pm_rt (some (.int 0)) nx (pm_up (pm_up (pm_up M m0 (pm_mo z m0 (upd (upd (upd (upd (upd (upd (upd (upd (upd (upd f 5 (nI k)) 6 0) 7 0) 7 2) 8 (-(g (7 + 5 * i + 4)))) 6 3) 5 (nI k)) 9 ((upd (upd (upd (upd (upd (upd (upd f 5 (nI k)) 6 0) 7 0) 7 2) 8 (-(g (7 + 5 * i + 4)))) 6 3) 5 (nI k)) 7)) 10 ((upd (upd (upd (upd (upd (upd (upd f 5 (nI k)) 6 0) 7 0) 7 2) 8 (-(g (7 + 5 * i + 4)))) 6 3) 5 (nI k)) 8)) 11 0))) (m0 + 2) (.inl (kA 0, 91, .inl (va_cpy g gb 0 0 91)))) (m0 + 1) (.inl (kA 0, 91, .inl (va_cpy (va_cpy g gb 0 0 91) g 0 0 91))))) := by
  refine pm_mk (own := RX13) (nm := "sell") mt_X13_sell rfl rfl rfl rfl fun X B => ?_
  refine pm_loc (L' := [some (.ref (z + m0)), some (.int (nI i)), some (.int u)]) rfl ?_
  refine pm_aload_n B dX13_sell_0 rfl ?_
  refine pm_cV (As := []) (mc2 := 0) (ms2 := 0) B rfl hM rfl (c_X13_keep (f := (upd f 5 (nI k))) (g := g) (gb := gb) hM hg hgb  ) mt_X13_keep sv_X13_91 dX13_sell_1 rfl rfl rfl rfl rfl ?_
  refine pm_mem (M' := pm_up M m0 (pm_mo z m0 (upd (upd (upd f 5 (nI k)) 6 0) 7 0))) rfl ?_
  refine pm_mem (M' := pm_up (pm_up M m0 (pm_mo z m0 (upd (upd (upd f 5 (nI k)) 6 0) 7 0))) (m0 + 2) (.inl (kA 0, 91, .inl (va_cpy g gb 0 0 91)))) rfl ?_
  refine pm_stk (st' := []) rfl ?_
  refine pm_aload_n B dX13_sell_4 rfl ?_
  refine pm_aload_n B dX13_sell_5 rfl ?_
  refine pm_iload_n B dX13_sell_6 rfl ?_
  refine pm_iload_n B dX13_sell_7 rfl ?_
  refine pm_cV (As := [.int (nI i), .int u]) (mc2 := 0) (ms2 := 0) B rfl ((pm_up_n (by omega)).trans pm_up_s) rfl (c_X13_doSell_i3 (i := i) (u := u) (f := (upd (upd (upd f 5 (nI k)) 6 0) 7 0)) (g := g) ((pm_up_n (by omega)).trans pm_up_s) ((pm_up_n (by omega)).trans ((pm_up_n (by omega)).trans hg)) (by omega) h1 h2 h3) mt_X13_doSell sv_X13_134 dX13_sell_8 rfl rfl rfl rfl rfl ?_
  refine pm_mem (M' := pm_up (pm_up (pm_up M m0 (pm_mo z m0 (upd (upd (upd f 5 (nI k)) 6 0) 7 0))) (m0 + 2) (.inl (kA 0, 91, .inl (va_cpy g gb 0 0 91)))) m0 (pm_mo z m0 (upd (upd (upd (upd (upd (upd f 5 (nI k)) 6 0) 7 0) 7 2) 8 (-(g (7 + 5 * i + 4)))) 6 3))) rfl ?_
  refine pm_mem (M' := pm_up (pm_up M m0 (pm_mo z m0 (upd (upd (upd (upd (upd (upd f 5 (nI k)) 6 0) 7 0) 7 2) 8 (-(g (7 + 5 * i + 4)))) 6 3))) (m0 + 2) (.inl (kA 0, 91, .inl (va_cpy g gb 0 0 91)))) (by rw [pm_up_sw (a := m0 + 2) (b := m0) (by omega), pm_up_up]) ?_
  refine pm_stk (st' := [.int 0, .ref (z + m0)]) rfl ?_
  refine pm_iconst (v := 0) B dX13_sell_11 (by decide) ?_
  refine pm_cV (As := [.int 0, .int 0]) (mc2 := 0) (ms2 := 0) B rfl ((pm_up_n (by omega)).trans pm_up_s) rfl (c_X13_ends_s4 (x := 0) (y := 0) (k := k) (f := (upd (upd (upd (upd (upd (upd f 5 (nI k)) 6 0) 7 0) 7 2) 8 (-(g (7 + 5 * i + 4)))) 6 3)) (g := g) (gb := (va_cpy g gb 0 0 91)) (gp := gp) ((pm_up_n (by omega)).trans pm_up_s) ((pm_up_n (by omega)).trans ((pm_up_n (by omega)).trans hg)) pm_up_s ((pm_up_n (by omega)).trans ((pm_up_n (by omega)).trans hgp)) (by first | assumption | omega) (by decide) (by decide)) mt_X13_ends sv_X13_97 dX13_sell_12 rfl rfl rfl rfl rfl ?_
  refine pm_mem (M' := pm_up (pm_up (pm_up M m0 (pm_mo z m0 (upd (upd (upd (upd (upd (upd f 5 (nI k)) 6 0) 7 0) 7 2) 8 (-(g (7 + 5 * i + 4)))) 6 3))) (m0 + 2) (.inl (kA 0, 91, .inl (va_cpy g gb 0 0 91)))) m0 (pm_mo z m0 (upd (upd (upd (upd (upd (upd (upd (upd (upd (upd f 5 (nI k)) 6 0) 7 0) 7 2) 8 (-(g (7 + 5 * i + 4)))) 6 3) 5 (nI k)) 9 ((upd (upd (upd (upd (upd (upd (upd f 5 (nI k)) 6 0) 7 0) 7 2) 8 (-(g (7 + 5 * i + 4)))) 6 3) 5 (nI k)) 7)) 10 ((upd (upd (upd (upd (upd (upd (upd f 5 (nI k)) 6 0) 7 0) 7 2) 8 (-(g (7 + 5 * i + 4)))) 6 3) 5 (nI k)) 8)) 11 0))) rfl ?_
  refine pm_mem (M' := pm_up (pm_up M m0 (pm_mo z m0 (upd (upd (upd (upd (upd (upd (upd (upd (upd (upd f 5 (nI k)) 6 0) 7 0) 7 2) 8 (-(g (7 + 5 * i + 4)))) 6 3) 5 (nI k)) 9 ((upd (upd (upd (upd (upd (upd (upd f 5 (nI k)) 6 0) 7 0) 7 2) 8 (-(g (7 + 5 * i + 4)))) 6 3) 5 (nI k)) 7)) 10 ((upd (upd (upd (upd (upd (upd (upd f 5 (nI k)) 6 0) 7 0) 7 2) 8 (-(g (7 + 5 * i + 4)))) 6 3) 5 (nI k)) 8)) 11 0))) (m0 + 2) (.inl (kA 0, 91, .inl (va_cpy g gb 0 0 91)))) (by rw [pm_up_sw (a := m0 + 2) (b := m0) (by omega), pm_up_up]) ?_
  refine pm_mem (M' := pm_up (pm_up (pm_up M m0 (pm_mo z m0 (upd (upd (upd (upd (upd (upd (upd (upd (upd (upd f 5 (nI k)) 6 0) 7 0) 7 2) 8 (-(g (7 + 5 * i + 4)))) 6 3) 5 (nI k)) 9 ((upd (upd (upd (upd (upd (upd (upd f 5 (nI k)) 6 0) 7 0) 7 2) 8 (-(g (7 + 5 * i + 4)))) 6 3) 5 (nI k)) 7)) 10 ((upd (upd (upd (upd (upd (upd (upd f 5 (nI k)) 6 0) 7 0) 7 2) 8 (-(g (7 + 5 * i + 4)))) 6 3) 5 (nI k)) 8)) 11 0))) (m0 + 2) (.inl (kA 0, 91, .inl (va_cpy g gb 0 0 91)))) (m0 + 1) (.inl (kA 0, 91, .inl (va_cpy (va_cpy g gb 0 0 91) g 0 0 91)))) rfl ?_
  refine pm_stk (st' := [.int 0]) rfl ?_
  exact pm_ireturn B dX13_sell_15 rfl (by first | rfl | (apply pm_nz; first | assumption | decide | exact pm_in01 _ _ _ | simp)) ⟨rfl, rfl, rfl⟩ rfl rfl
set_option maxRecDepth 100000 in
set_option maxHeartbeats 4000000 in
theorem c_X13_sell_is6 {l : Launch} {z : Nat} {D : va_G} {kA : Nat → ClassId} {kE : Nat → Nat} {nx : Nat} {M : pm_M} {k : Nat} (hk : k < 8) {m0 : Nat} {f : Nat → Int32} (hM : M m0 = some (pm_mo z m0 (upd f 5 (nI k)))) {g : Nat → Int32} (hg : M (m0 + 1) = some (.inl (kA 0, 91, .inl g))) {gb : Nat → Int32} (hgb : M (m0 + 2) = some (.inl (kA 0, 91, .inl gb))) {gp : Nat → Int32} (hgp : M (m0 + 4) = some (.inl (kA 0, 728, .inl gp))) {i : Nat} {u : Int32} (hi : i < 7) (h1 : ¬ (pm_in (nI i) 0 (g 0 - 1)) = 0) (h2 : (pm_in u 1 99) = 0) : pm_C l z D kA kE yX13_sell cX13_sell 3 (some .int) 3 0 0 [.ref (z + m0), .int (nI i), .int u] nx M (pm_rt (some (.int 0)) nx (pm_up (pm_up (pm_up M m0 (pm_mo z m0 (upd (upd (upd (upd f 5 (nI k)) 6 0) 7 0) 6 2))) (m0 + 2) (.inl (kA 0, 91, .inl (va_cpy g gb 0 0 91)))) (m0 + 1) (.inl (kA 0, 91, .inl (va_cpy (va_cpy g gb 0 0 91) g 0 0 91))))) := by
  refine pm_mk (own := RX13) (nm := "sell") mt_X13_sell rfl rfl rfl rfl fun X B => ?_
  refine pm_loc (L' := [some (.ref (z + m0)), some (.int (nI i)), some (.int u)]) rfl ?_
  refine pm_aload_n B dX13_sell_0 rfl ?_
  refine pm_cV (As := []) (mc2 := 0) (ms2 := 0) B rfl hM rfl (c_X13_keep (f := (upd f 5 (nI k))) (g := g) (gb := gb) hM hg hgb  ) mt_X13_keep sv_X13_91 dX13_sell_1 rfl rfl rfl rfl rfl ?_
  refine pm_mem (M' := pm_up M m0 (pm_mo z m0 (upd (upd (upd f 5 (nI k)) 6 0) 7 0))) rfl ?_
  refine pm_mem (M' := pm_up (pm_up M m0 (pm_mo z m0 (upd (upd (upd f 5 (nI k)) 6 0) 7 0))) (m0 + 2) (.inl (kA 0, 91, .inl (va_cpy g gb 0 0 91)))) rfl ?_
  refine pm_stk (st' := []) rfl ?_
  refine pm_aload_n B dX13_sell_4 rfl ?_
  refine pm_aload_n B dX13_sell_5 rfl ?_
  refine pm_iload_n B dX13_sell_6 rfl ?_
  refine pm_iload_n B dX13_sell_7 rfl ?_
  refine pm_cV (As := [.int (nI i), .int u]) (mc2 := 0) (ms2 := 0) B rfl ((pm_up_n (by omega)).trans pm_up_s) rfl (c_X13_doSell_i4 (i := i) (u := u) (f := (upd (upd (upd f 5 (nI k)) 6 0) 7 0)) (g := g) ((pm_up_n (by omega)).trans pm_up_s) ((pm_up_n (by omega)).trans ((pm_up_n (by omega)).trans hg)) (by omega) h1 h2) mt_X13_doSell sv_X13_134 dX13_sell_8 rfl rfl rfl rfl rfl ?_
  refine pm_mem (M' := pm_up (pm_up (pm_up M m0 (pm_mo z m0 (upd (upd (upd f 5 (nI k)) 6 0) 7 0))) (m0 + 2) (.inl (kA 0, 91, .inl (va_cpy g gb 0 0 91)))) m0 (pm_mo z m0 (upd (upd (upd (upd f 5 (nI k)) 6 0) 7 0) 6 2))) rfl ?_
  refine pm_mem (M' := pm_up (pm_up M m0 (pm_mo z m0 (upd (upd (upd (upd f 5 (nI k)) 6 0) 7 0) 6 2))) (m0 + 2) (.inl (kA 0, 91, .inl (va_cpy g gb 0 0 91)))) (by rw [pm_up_sw (a := m0 + 2) (b := m0) (by omega), pm_up_up]) ?_
  refine pm_stk (st' := [.int 0, .ref (z + m0)]) rfl ?_
  refine pm_iconst (v := 0) B dX13_sell_11 (by decide) ?_
  refine pm_cV (As := [.int 0, .int 0]) (mc2 := 0) (ms2 := 0) B rfl ((pm_up_n (by omega)).trans pm_up_s) rfl (c_X13_ends_s2 (x := 0) (y := 0) (k := k) (f := (upd (upd (upd (upd f 5 (nI k)) 6 0) 7 0) 6 2)) (g := g) (gb := (va_cpy g gb 0 0 91)) (gp := gp) ((pm_up_n (by omega)).trans pm_up_s) ((pm_up_n (by omega)).trans ((pm_up_n (by omega)).trans hg)) pm_up_s ((pm_up_n (by omega)).trans ((pm_up_n (by omega)).trans hgp)) (by first | assumption | omega) (by decide) (by decide)) mt_X13_ends sv_X13_97 dX13_sell_12 rfl rfl rfl rfl rfl ?_
  refine pm_mem (M' := pm_up (pm_up (pm_up M m0 (pm_mo z m0 (upd (upd (upd (upd f 5 (nI k)) 6 0) 7 0) 6 2))) (m0 + 2) (.inl (kA 0, 91, .inl (va_cpy g gb 0 0 91)))) (m0 + 1) (.inl (kA 0, 91, .inl (va_cpy (va_cpy g gb 0 0 91) g 0 0 91)))) rfl ?_
  refine pm_stk (st' := [.int 0]) rfl ?_
  exact pm_ireturn B dX13_sell_15 rfl (by first | rfl | (apply pm_nz; first | assumption | decide | exact pm_in01 _ _ _ | simp)) ⟨rfl, rfl, rfl⟩ rfl rfl
set_option maxRecDepth 100000 in
set_option maxHeartbeats 4000000 in
theorem c_X13_sell_is7 {l : Launch} {z : Nat} {D : va_G} {kA : Nat → ClassId} {kE : Nat → Nat} {nx : Nat} {M : pm_M} {k : Nat} (hk : k < 8) {m0 : Nat} {f : Nat → Int32} (hM : M m0 = some (pm_mo z m0 (upd f 5 (nI k)))) {g : Nat → Int32} (hg : M (m0 + 1) = some (.inl (kA 0, 91, .inl g))) {gb : Nat → Int32} (hgb : M (m0 + 2) = some (.inl (kA 0, 91, .inl gb))) {gp : Nat → Int32} (hgp : M (m0 + 4) = some (.inl (kA 0, 728, .inl gp))) {i : Nat} {u : Int32} (hi : i < 7) (h1 : (pm_in (nI i) 0 (g 0 - 1)) = 0) : pm_C l z D kA kE yX13_sell cX13_sell 3 (some .int) 3 0 0 [.ref (z + m0), .int (nI i), .int u] nx M (pm_rt (some (.int 0)) nx (pm_up (pm_up (pm_up M m0 (pm_mo z m0 (upd (upd (upd (upd f 5 (nI k)) 6 0) 7 0) 6 1))) (m0 + 2) (.inl (kA 0, 91, .inl (va_cpy g gb 0 0 91)))) (m0 + 1) (.inl (kA 0, 91, .inl (va_cpy (va_cpy g gb 0 0 91) g 0 0 91))))) := by
  refine pm_mk (own := RX13) (nm := "sell") mt_X13_sell rfl rfl rfl rfl fun X B => ?_
  refine pm_loc (L' := [some (.ref (z + m0)), some (.int (nI i)), some (.int u)]) rfl ?_
  refine pm_aload_n B dX13_sell_0 rfl ?_
  refine pm_cV (As := []) (mc2 := 0) (ms2 := 0) B rfl hM rfl (c_X13_keep (f := (upd f 5 (nI k))) (g := g) (gb := gb) hM hg hgb  ) mt_X13_keep sv_X13_91 dX13_sell_1 rfl rfl rfl rfl rfl ?_
  refine pm_mem (M' := pm_up M m0 (pm_mo z m0 (upd (upd (upd f 5 (nI k)) 6 0) 7 0))) rfl ?_
  refine pm_mem (M' := pm_up (pm_up M m0 (pm_mo z m0 (upd (upd (upd f 5 (nI k)) 6 0) 7 0))) (m0 + 2) (.inl (kA 0, 91, .inl (va_cpy g gb 0 0 91)))) rfl ?_
  refine pm_stk (st' := []) rfl ?_
  refine pm_aload_n B dX13_sell_4 rfl ?_
  refine pm_aload_n B dX13_sell_5 rfl ?_
  refine pm_iload_n B dX13_sell_6 rfl ?_
  refine pm_iload_n B dX13_sell_7 rfl ?_
  refine pm_cV (As := [.int (nI i), .int u]) (mc2 := 0) (ms2 := 0) B rfl ((pm_up_n (by omega)).trans pm_up_s) rfl (c_X13_doSell_i5 (i := i) (u := u) (f := (upd (upd (upd f 5 (nI k)) 6 0) 7 0)) (g := g) ((pm_up_n (by omega)).trans pm_up_s) ((pm_up_n (by omega)).trans ((pm_up_n (by omega)).trans hg)) (by omega) h1) mt_X13_doSell sv_X13_134 dX13_sell_8 rfl rfl rfl rfl rfl ?_
  refine pm_mem (M' := pm_up (pm_up (pm_up M m0 (pm_mo z m0 (upd (upd (upd f 5 (nI k)) 6 0) 7 0))) (m0 + 2) (.inl (kA 0, 91, .inl (va_cpy g gb 0 0 91)))) m0 (pm_mo z m0 (upd (upd (upd (upd f 5 (nI k)) 6 0) 7 0) 6 1))) rfl ?_
  refine pm_mem (M' := pm_up (pm_up M m0 (pm_mo z m0 (upd (upd (upd (upd f 5 (nI k)) 6 0) 7 0) 6 1))) (m0 + 2) (.inl (kA 0, 91, .inl (va_cpy g gb 0 0 91)))) (by rw [pm_up_sw (a := m0 + 2) (b := m0) (by omega), pm_up_up]) ?_
  refine pm_stk (st' := [.int 0, .ref (z + m0)]) rfl ?_
  refine pm_iconst (v := 0) B dX13_sell_11 (by decide) ?_
  refine pm_cV (As := [.int 0, .int 0]) (mc2 := 0) (ms2 := 0) B rfl ((pm_up_n (by omega)).trans pm_up_s) rfl (c_X13_ends_s2 (x := 0) (y := 0) (k := k) (f := (upd (upd (upd (upd f 5 (nI k)) 6 0) 7 0) 6 1)) (g := g) (gb := (va_cpy g gb 0 0 91)) (gp := gp) ((pm_up_n (by omega)).trans pm_up_s) ((pm_up_n (by omega)).trans ((pm_up_n (by omega)).trans hg)) pm_up_s ((pm_up_n (by omega)).trans ((pm_up_n (by omega)).trans hgp)) (by first | assumption | omega) (by decide) (by decide)) mt_X13_ends sv_X13_97 dX13_sell_12 rfl rfl rfl rfl rfl ?_
  refine pm_mem (M' := pm_up (pm_up (pm_up M m0 (pm_mo z m0 (upd (upd (upd (upd f 5 (nI k)) 6 0) 7 0) 6 1))) (m0 + 2) (.inl (kA 0, 91, .inl (va_cpy g gb 0 0 91)))) (m0 + 1) (.inl (kA 0, 91, .inl (va_cpy (va_cpy g gb 0 0 91) g 0 0 91)))) rfl ?_
  refine pm_stk (st' := [.int 0]) rfl ?_
  exact pm_ireturn B dX13_sell_15 rfl (by first | rfl | (apply pm_nz; first | assumption | decide | exact pm_in01 _ _ _ | simp)) ⟨rfl, rfl, rfl⟩ rfl rfl
set_option maxRecDepth 100000 in
set_option maxHeartbeats 4000000 in
theorem c_X13_sell_if1 {l : Launch} {z : Nat} {D : va_G} {kA : Nat → ClassId} {kE : Nat → Nat} {nx : Nat} {M : pm_M} {m0 : Nat} {f : Nat → Int32} (hM : M m0 = some (pm_mo z m0 (upd f 5 8))) {g : Nat → Int32} (hg : M (m0 + 1) = some (.inl (kA 0, 91, .inl g))) {gb : Nat → Int32} (hgb : M (m0 + 2) = some (.inl (kA 0, 91, .inl gb))) {gp : Nat → Int32} (hgp : M (m0 + 4) = some (.inl (kA 0, 728, .inl gp))) {i : Nat} {u : Int32} (hi : i < 7) (h1 : ¬ (pm_in (nI i) 0 (g 0 - 1)) = 0) (h2 : (pm_in u 1 99) = 0) : pm_C l z D kA kE yX13_sell cX13_sell 3 (some .int) 3 0 0 [.ref (z + m0), .int (nI i), .int u] nx M (pm_rt (some (.int 0)) nx (pm_up (pm_up (pm_up M m0 (pm_mo z m0 (upd (upd (upd (upd f 5 8) 6 0) 7 0) 6 2))) (m0 + 2) (.inl (kA 0, 91, .inl (va_cpy g gb 0 0 91)))) (m0 + 1) (.inl (kA 0, 91, .inl (va_cpy (va_cpy g gb 0 0 91) g 0 0 91))))) := by
  refine pm_mk (own := RX13) (nm := "sell") mt_X13_sell rfl rfl rfl rfl fun X B => ?_
  refine pm_loc (L' := [some (.ref (z + m0)), some (.int (nI i)), some (.int u)]) rfl ?_
  refine pm_aload_n B dX13_sell_0 rfl ?_
  refine pm_cV (As := []) (mc2 := 0) (ms2 := 0) B rfl hM rfl (c_X13_keep (f := (upd f 5 8)) (g := g) (gb := gb) hM hg hgb  ) mt_X13_keep sv_X13_91 dX13_sell_1 rfl rfl rfl rfl rfl ?_
  refine pm_mem (M' := pm_up M m0 (pm_mo z m0 (upd (upd (upd f 5 8) 6 0) 7 0))) rfl ?_
  refine pm_mem (M' := pm_up (pm_up M m0 (pm_mo z m0 (upd (upd (upd f 5 8) 6 0) 7 0))) (m0 + 2) (.inl (kA 0, 91, .inl (va_cpy g gb 0 0 91)))) rfl ?_
  refine pm_stk (st' := []) rfl ?_
  refine pm_aload_n B dX13_sell_4 rfl ?_
  refine pm_aload_n B dX13_sell_5 rfl ?_
  refine pm_iload_n B dX13_sell_6 rfl ?_
  refine pm_iload_n B dX13_sell_7 rfl ?_
  refine pm_cV (As := [.int (nI i), .int u]) (mc2 := 0) (ms2 := 0) B rfl ((pm_up_n (by omega)).trans pm_up_s) rfl (c_X13_doSell_o1 (x := (nI i)) (u := u) (f := (upd (upd (upd f 5 8) 6 0) 7 0)) (g := g) ((pm_up_n (by omega)).trans pm_up_s) ((pm_up_n (by omega)).trans ((pm_up_n (by omega)).trans hg))  h1 h2) mt_X13_doSell sv_X13_134 dX13_sell_8 rfl rfl rfl rfl rfl ?_
  refine pm_mem (M' := pm_up (pm_up (pm_up M m0 (pm_mo z m0 (upd (upd (upd f 5 8) 6 0) 7 0))) (m0 + 2) (.inl (kA 0, 91, .inl (va_cpy g gb 0 0 91)))) m0 (pm_mo z m0 (upd (upd (upd (upd f 5 8) 6 0) 7 0) 6 2))) rfl ?_
  refine pm_mem (M' := pm_up (pm_up M m0 (pm_mo z m0 (upd (upd (upd (upd f 5 8) 6 0) 7 0) 6 2))) (m0 + 2) (.inl (kA 0, 91, .inl (va_cpy g gb 0 0 91)))) (by rw [pm_up_sw (a := m0 + 2) (b := m0) (by omega), pm_up_up]) ?_
  refine pm_stk (st' := [.int 0, .ref (z + m0)]) rfl ?_
  refine pm_iconst (v := 0) B dX13_sell_11 (by decide) ?_
  refine pm_cV (As := [.int 0, .int 0]) (mc2 := 0) (ms2 := 0) B rfl ((pm_up_n (by omega)).trans pm_up_s) rfl (c_X13_ends_f2 (x := 0) (y := 0) (f := (upd (upd (upd (upd f 5 8) 6 0) 7 0) 6 2)) (g := g) (gb := (va_cpy g gb 0 0 91)) (gp := gp) ((pm_up_n (by omega)).trans pm_up_s) ((pm_up_n (by omega)).trans ((pm_up_n (by omega)).trans hg)) pm_up_s ((pm_up_n (by omega)).trans ((pm_up_n (by omega)).trans hgp))  (by decide) (by decide)) mt_X13_ends sv_X13_97 dX13_sell_12 rfl rfl rfl rfl rfl ?_
  refine pm_mem (M' := pm_up (pm_up (pm_up M m0 (pm_mo z m0 (upd (upd (upd (upd f 5 8) 6 0) 7 0) 6 2))) (m0 + 2) (.inl (kA 0, 91, .inl (va_cpy g gb 0 0 91)))) (m0 + 1) (.inl (kA 0, 91, .inl (va_cpy (va_cpy g gb 0 0 91) g 0 0 91)))) rfl ?_
  refine pm_stk (st' := [.int 0]) rfl ?_
  exact pm_ireturn B dX13_sell_15 rfl (by first | rfl | (apply pm_nz; first | assumption | decide | exact pm_in01 _ _ _ | simp)) ⟨rfl, rfl, rfl⟩ rfl rfl
set_option maxRecDepth 100000 in
set_option maxHeartbeats 4000000 in
theorem c_X13_sell_if2 {l : Launch} {z : Nat} {D : va_G} {kA : Nat → ClassId} {kE : Nat → Nat} {nx : Nat} {M : pm_M} {m0 : Nat} {f : Nat → Int32} (hM : M m0 = some (pm_mo z m0 (upd f 5 8))) {g : Nat → Int32} (hg : M (m0 + 1) = some (.inl (kA 0, 91, .inl g))) {gb : Nat → Int32} (hgb : M (m0 + 2) = some (.inl (kA 0, 91, .inl gb))) {gp : Nat → Int32} (hgp : M (m0 + 4) = some (.inl (kA 0, 728, .inl gp))) {i : Nat} {u : Int32} (hi : i < 7) (h1 : (pm_in (nI i) 0 (g 0 - 1)) = 0) : pm_C l z D kA kE yX13_sell cX13_sell 3 (some .int) 3 0 0 [.ref (z + m0), .int (nI i), .int u] nx M (pm_rt (some (.int 0)) nx (pm_up (pm_up (pm_up M m0 (pm_mo z m0 (upd (upd (upd (upd f 5 8) 6 0) 7 0) 6 1))) (m0 + 2) (.inl (kA 0, 91, .inl (va_cpy g gb 0 0 91)))) (m0 + 1) (.inl (kA 0, 91, .inl (va_cpy (va_cpy g gb 0 0 91) g 0 0 91))))) := by
  refine pm_mk (own := RX13) (nm := "sell") mt_X13_sell rfl rfl rfl rfl fun X B => ?_
  refine pm_loc (L' := [some (.ref (z + m0)), some (.int (nI i)), some (.int u)]) rfl ?_
  refine pm_aload_n B dX13_sell_0 rfl ?_
  refine pm_cV (As := []) (mc2 := 0) (ms2 := 0) B rfl hM rfl (c_X13_keep (f := (upd f 5 8)) (g := g) (gb := gb) hM hg hgb  ) mt_X13_keep sv_X13_91 dX13_sell_1 rfl rfl rfl rfl rfl ?_
  refine pm_mem (M' := pm_up M m0 (pm_mo z m0 (upd (upd (upd f 5 8) 6 0) 7 0))) rfl ?_
  refine pm_mem (M' := pm_up (pm_up M m0 (pm_mo z m0 (upd (upd (upd f 5 8) 6 0) 7 0))) (m0 + 2) (.inl (kA 0, 91, .inl (va_cpy g gb 0 0 91)))) rfl ?_
  refine pm_stk (st' := []) rfl ?_
  refine pm_aload_n B dX13_sell_4 rfl ?_
  refine pm_aload_n B dX13_sell_5 rfl ?_
  refine pm_iload_n B dX13_sell_6 rfl ?_
  refine pm_iload_n B dX13_sell_7 rfl ?_
  refine pm_cV (As := [.int (nI i), .int u]) (mc2 := 0) (ms2 := 0) B rfl ((pm_up_n (by omega)).trans pm_up_s) rfl (c_X13_doSell_o2 (x := (nI i)) (u := u) (f := (upd (upd (upd f 5 8) 6 0) 7 0)) (g := g) ((pm_up_n (by omega)).trans pm_up_s) ((pm_up_n (by omega)).trans ((pm_up_n (by omega)).trans hg))  h1) mt_X13_doSell sv_X13_134 dX13_sell_8 rfl rfl rfl rfl rfl ?_
  refine pm_mem (M' := pm_up (pm_up (pm_up M m0 (pm_mo z m0 (upd (upd (upd f 5 8) 6 0) 7 0))) (m0 + 2) (.inl (kA 0, 91, .inl (va_cpy g gb 0 0 91)))) m0 (pm_mo z m0 (upd (upd (upd (upd f 5 8) 6 0) 7 0) 6 1))) rfl ?_
  refine pm_mem (M' := pm_up (pm_up M m0 (pm_mo z m0 (upd (upd (upd (upd f 5 8) 6 0) 7 0) 6 1))) (m0 + 2) (.inl (kA 0, 91, .inl (va_cpy g gb 0 0 91)))) (by rw [pm_up_sw (a := m0 + 2) (b := m0) (by omega), pm_up_up]) ?_
  refine pm_stk (st' := [.int 0, .ref (z + m0)]) rfl ?_
  refine pm_iconst (v := 0) B dX13_sell_11 (by decide) ?_
  refine pm_cV (As := [.int 0, .int 0]) (mc2 := 0) (ms2 := 0) B rfl ((pm_up_n (by omega)).trans pm_up_s) rfl (c_X13_ends_f2 (x := 0) (y := 0) (f := (upd (upd (upd (upd f 5 8) 6 0) 7 0) 6 1)) (g := g) (gb := (va_cpy g gb 0 0 91)) (gp := gp) ((pm_up_n (by omega)).trans pm_up_s) ((pm_up_n (by omega)).trans ((pm_up_n (by omega)).trans hg)) pm_up_s ((pm_up_n (by omega)).trans ((pm_up_n (by omega)).trans hgp))  (by decide) (by decide)) mt_X13_ends sv_X13_97 dX13_sell_12 rfl rfl rfl rfl rfl ?_
  refine pm_mem (M' := pm_up (pm_up (pm_up M m0 (pm_mo z m0 (upd (upd (upd (upd f 5 8) 6 0) 7 0) 6 1))) (m0 + 2) (.inl (kA 0, 91, .inl (va_cpy g gb 0 0 91)))) (m0 + 1) (.inl (kA 0, 91, .inl (va_cpy (va_cpy g gb 0 0 91) g 0 0 91)))) rfl ?_
  refine pm_stk (st' := [.int 0]) rfl ?_
  exact pm_ireturn B dX13_sell_15 rfl (by first | rfl | (apply pm_nz; first | assumption | decide | exact pm_in01 _ _ _ | simp)) ⟨rfl, rfl, rfl⟩ rfl rfl
set_option maxRecDepth 100000 in
set_option maxHeartbeats 4000000 in
theorem c_X13_sell_if3 {l : Launch} {z : Nat} {D : va_G} {kA : Nat → ClassId} {kE : Nat → Nat} {nx : Nat} {M : pm_M} {m0 : Nat} {f : Nat → Int32} (hM : M m0 = some (pm_mo z m0 (upd f 5 8))) {g : Nat → Int32} (hg : M (m0 + 1) = some (.inl (kA 0, 91, .inl g))) {gb : Nat → Int32} (hgb : M (m0 + 2) = some (.inl (kA 0, 91, .inl gb))) {gp : Nat → Int32} (hgp : M (m0 + 4) = some (.inl (kA 0, 728, .inl gp))) {i : Nat} {u : Int32} (hi : i < 7) (h1 : ¬ (pm_in (nI i) 0 (g 0 - 1)) = 0) (h2 : ¬ (pm_in u 1 99) = 0) (h3 : (pm_ib g i) = 0) (h4 : u ≤ ((g (7 + 5 * i + 0)) - (g (7 + 5 * i + 3)))) : pm_C l z D kA kE yX13_sell cX13_sell 3 (some .int) 3 0 0 [.ref (z + m0), .int (nI i), .int u] nx M (pm_rt (some (.int ((g (7 + 5 * i + 3)) + u))) nx (pm_up (pm_up (pm_up (pm_up M m0 (pm_mo z m0 (upd (upd (upd (upd (upd (upd f 5 8) 6 0) 7 0) 5 8) 5 (8 - 1)) 5 ((8 - 1) + 1)))) (m0 + 2) (.inl (kA 0, 91, .inl (va_cpy g gb 0 0 91)))) (m0 + 1) (.inl (kA 0, 91, .inl (upd g (7 + 5 * i + 3) ((g (7 + 5 * i + 3)) + u))))) (m0 + 4) (.inl (kA 0, 728, .inl (va_cpy (va_cpy g gb 0 0 91) (va_cpy gp gp 91 0 637) 0 637 91))))) := by
  refine pm_mk (own := RX13) (nm := "sell") mt_X13_sell rfl rfl rfl rfl fun X B => ?_
  refine pm_loc (L' := [some (.ref (z + m0)), some (.int (nI i)), some (.int u)]) rfl ?_
  refine pm_aload_n B dX13_sell_0 rfl ?_
  refine pm_cV (As := []) (mc2 := 0) (ms2 := 0) B rfl hM rfl (c_X13_keep (f := (upd f 5 8)) (g := g) (gb := gb) hM hg hgb  ) mt_X13_keep sv_X13_91 dX13_sell_1 rfl rfl rfl rfl rfl ?_
  refine pm_mem (M' := pm_up M m0 (pm_mo z m0 (upd (upd (upd f 5 8) 6 0) 7 0))) rfl ?_
  refine pm_mem (M' := pm_up (pm_up M m0 (pm_mo z m0 (upd (upd (upd f 5 8) 6 0) 7 0))) (m0 + 2) (.inl (kA 0, 91, .inl (va_cpy g gb 0 0 91)))) rfl ?_
  refine pm_stk (st' := []) rfl ?_
  refine pm_aload_n B dX13_sell_4 rfl ?_
  refine pm_aload_n B dX13_sell_5 rfl ?_
  refine pm_iload_n B dX13_sell_6 rfl ?_
  refine pm_iload_n B dX13_sell_7 rfl ?_
  refine pm_cV (As := [.int (nI i), .int u]) (mc2 := 0) (ms2 := 0) B rfl ((pm_up_n (by omega)).trans pm_up_s) rfl (c_X13_doSell_i1 (i := i) (u := u) (f := (upd (upd (upd f 5 8) 6 0) 7 0)) (g := g) ((pm_up_n (by omega)).trans pm_up_s) ((pm_up_n (by omega)).trans ((pm_up_n (by omega)).trans hg)) (by omega) h1 h2 h3 h4) mt_X13_doSell sv_X13_134 dX13_sell_8 rfl rfl rfl rfl rfl ?_
  refine pm_mem (M' := pm_up (pm_up (pm_up M m0 (pm_mo z m0 (upd (upd (upd f 5 8) 6 0) 7 0))) (m0 + 2) (.inl (kA 0, 91, .inl (va_cpy g gb 0 0 91)))) (m0 + 1) (.inl (kA 0, 91, .inl (upd g (7 + 5 * i + 3) ((g (7 + 5 * i + 3)) + u))))) rfl ?_
  refine pm_stk (st' := [.int ((g (7 + 5 * i + 3)) + u), .ref (z + m0)]) rfl ?_
  refine pm_iconst (v := 0) B dX13_sell_11 (by decide) ?_
  refine pm_cV (As := [.int ((g (7 + 5 * i + 3)) + u), .int 0]) (mc2 := 0) (ms2 := 0) B rfl ((pm_up_n (by omega)).trans ((pm_up_n (by omega)).trans pm_up_s)) rfl (c_X13_ends_f1 (x := ((g (7 + 5 * i + 3)) + u)) (y := 0) (f := (upd (upd (upd f 5 8) 6 0) 7 0)) (g := (upd g (7 + 5 * i + 3) ((g (7 + 5 * i + 3)) + u))) (gb := (va_cpy g gb 0 0 91)) (gp := gp) ((pm_up_n (by omega)).trans ((pm_up_n (by omega)).trans pm_up_s)) pm_up_s ((pm_up_n (by omega)).trans pm_up_s) ((pm_up_n (by omega)).trans ((pm_up_n (by omega)).trans ((pm_up_n (by omega)).trans hgp)))  (by decide) (by decide)) mt_X13_ends sv_X13_97 dX13_sell_12 rfl rfl rfl rfl rfl ?_
  refine pm_mem (M' := pm_up (pm_up (pm_up (pm_up M m0 (pm_mo z m0 (upd (upd (upd f 5 8) 6 0) 7 0))) (m0 + 2) (.inl (kA 0, 91, .inl (va_cpy g gb 0 0 91)))) (m0 + 1) (.inl (kA 0, 91, .inl (upd g (7 + 5 * i + 3) ((g (7 + 5 * i + 3)) + u))))) (m0 + 4) (.inl (kA 0, 728, .inl (va_cpy (va_cpy g gb 0 0 91) (va_cpy gp gp 91 0 637) 0 637 91)))) rfl ?_
  refine pm_mem (M' := pm_up (pm_up (pm_up (pm_up (pm_up M m0 (pm_mo z m0 (upd (upd (upd f 5 8) 6 0) 7 0))) (m0 + 2) (.inl (kA 0, 91, .inl (va_cpy g gb 0 0 91)))) (m0 + 1) (.inl (kA 0, 91, .inl (upd g (7 + 5 * i + 3) ((g (7 + 5 * i + 3)) + u))))) (m0 + 4) (.inl (kA 0, 728, .inl (va_cpy (va_cpy g gb 0 0 91) (va_cpy gp gp 91 0 637) 0 637 91)))) m0 (pm_mo z m0 (upd (upd (upd (upd (upd (upd f 5 8) 6 0) 7 0) 5 8) 5 (8 - 1)) 5 ((8 - 1) + 1)))) rfl ?_
  refine pm_mem (M' := pm_up (pm_up (pm_up (pm_up M m0 (pm_mo z m0 (upd (upd (upd (upd (upd (upd f 5 8) 6 0) 7 0) 5 8) 5 (8 - 1)) 5 ((8 - 1) + 1)))) (m0 + 2) (.inl (kA 0, 91, .inl (va_cpy g gb 0 0 91)))) (m0 + 1) (.inl (kA 0, 91, .inl (upd g (7 + 5 * i + 3) ((g (7 + 5 * i + 3)) + u))))) (m0 + 4) (.inl (kA 0, 728, .inl (va_cpy (va_cpy g gb 0 0 91) (va_cpy gp gp 91 0 637) 0 637 91)))) (by rw [pm_up_sw (a := m0 + 4) (b := m0) (by omega), pm_up_sw (a := m0 + 1) (b := m0) (by omega), pm_up_sw (a := m0 + 2) (b := m0) (by omega), pm_up_up]) ?_
  refine pm_stk (st' := [.int ((g (7 + 5 * i + 3)) + u)]) rfl ?_
  exact pm_ireturn B dX13_sell_15 rfl (by first | rfl | (apply pm_nz; first | assumption | decide | exact pm_in01 _ _ _ | simp)) ⟨rfl, rfl, rfl⟩ rfl rfl
set_option maxRecDepth 100000 in
set_option maxHeartbeats 4000000 in
theorem c_X13_sell_if4 {l : Launch} {z : Nat} {D : va_G} {kA : Nat → ClassId} {kE : Nat → Nat} {nx : Nat} {M : pm_M} {m0 : Nat} {f : Nat → Int32} (hM : M m0 = some (pm_mo z m0 (upd f 5 8))) {g : Nat → Int32} (hg : M (m0 + 1) = some (.inl (kA 0, 91, .inl g))) {gb : Nat → Int32} (hgb : M (m0 + 2) = some (.inl (kA 0, 91, .inl gb))) {gp : Nat → Int32} (hgp : M (m0 + 4) = some (.inl (kA 0, 728, .inl gp))) {i : Nat} {u : Int32} (hi : i < 7) (h1 : ¬ (pm_in (nI i) 0 (g 0 - 1)) = 0) (h2 : ¬ (pm_in u 1 99) = 0) (h3 : (pm_ib g i) = 0) (h4 : ¬ u ≤ ((g (7 + 5 * i + 0)) - (g (7 + 5 * i + 3)))) : pm_C l z D kA kE yX13_sell cX13_sell 3 (some .int) 3 0 0 [.ref (z + m0), .int (nI i), .int u] nx M (pm_rt (some (.int 0)) nx (pm_up (pm_up (pm_up M m0 (pm_mo z m0 (upd (upd (upd (upd (upd (upd (upd (upd (upd (upd f 5 8) 6 0) 7 0) 7 3) 8 ((g (7 + 5 * i + 0)) - (g (7 + 5 * i + 3)))) 6 3) 5 8) 9 ((upd (upd (upd (upd (upd (upd (upd f 5 8) 6 0) 7 0) 7 3) 8 ((g (7 + 5 * i + 0)) - (g (7 + 5 * i + 3)))) 6 3) 5 8) 7)) 10 ((upd (upd (upd (upd (upd (upd (upd f 5 8) 6 0) 7 0) 7 3) 8 ((g (7 + 5 * i + 0)) - (g (7 + 5 * i + 3)))) 6 3) 5 8) 8)) 11 0))) (m0 + 2) (.inl (kA 0, 91, .inl (va_cpy g gb 0 0 91)))) (m0 + 1) (.inl (kA 0, 91, .inl (va_cpy (va_cpy g gb 0 0 91) g 0 0 91))))) := by
  refine pm_mk (own := RX13) (nm := "sell") mt_X13_sell rfl rfl rfl rfl fun X B => ?_
  refine pm_loc (L' := [some (.ref (z + m0)), some (.int (nI i)), some (.int u)]) rfl ?_
  refine pm_aload_n B dX13_sell_0 rfl ?_
  refine pm_cV (As := []) (mc2 := 0) (ms2 := 0) B rfl hM rfl (c_X13_keep (f := (upd f 5 8)) (g := g) (gb := gb) hM hg hgb  ) mt_X13_keep sv_X13_91 dX13_sell_1 rfl rfl rfl rfl rfl ?_
  refine pm_mem (M' := pm_up M m0 (pm_mo z m0 (upd (upd (upd f 5 8) 6 0) 7 0))) rfl ?_
  refine pm_mem (M' := pm_up (pm_up M m0 (pm_mo z m0 (upd (upd (upd f 5 8) 6 0) 7 0))) (m0 + 2) (.inl (kA 0, 91, .inl (va_cpy g gb 0 0 91)))) rfl ?_
  refine pm_stk (st' := []) rfl ?_
  refine pm_aload_n B dX13_sell_4 rfl ?_
  refine pm_aload_n B dX13_sell_5 rfl ?_
  refine pm_iload_n B dX13_sell_6 rfl ?_
  refine pm_iload_n B dX13_sell_7 rfl ?_
  refine pm_cV (As := [.int (nI i), .int u]) (mc2 := 0) (ms2 := 0) B rfl ((pm_up_n (by omega)).trans pm_up_s) rfl (c_X13_doSell_i2 (i := i) (u := u) (f := (upd (upd (upd f 5 8) 6 0) 7 0)) (g := g) ((pm_up_n (by omega)).trans pm_up_s) ((pm_up_n (by omega)).trans ((pm_up_n (by omega)).trans hg)) (by omega) h1 h2 h3 h4) mt_X13_doSell sv_X13_134 dX13_sell_8 rfl rfl rfl rfl rfl ?_
  refine pm_mem (M' := pm_up (pm_up (pm_up M m0 (pm_mo z m0 (upd (upd (upd f 5 8) 6 0) 7 0))) (m0 + 2) (.inl (kA 0, 91, .inl (va_cpy g gb 0 0 91)))) m0 (pm_mo z m0 (upd (upd (upd (upd (upd (upd f 5 8) 6 0) 7 0) 7 3) 8 ((g (7 + 5 * i + 0)) - (g (7 + 5 * i + 3)))) 6 3))) rfl ?_
  refine pm_mem (M' := pm_up (pm_up M m0 (pm_mo z m0 (upd (upd (upd (upd (upd (upd f 5 8) 6 0) 7 0) 7 3) 8 ((g (7 + 5 * i + 0)) - (g (7 + 5 * i + 3)))) 6 3))) (m0 + 2) (.inl (kA 0, 91, .inl (va_cpy g gb 0 0 91)))) (by rw [pm_up_sw (a := m0 + 2) (b := m0) (by omega), pm_up_up]) ?_
  refine pm_stk (st' := [.int 0, .ref (z + m0)]) rfl ?_
  refine pm_iconst (v := 0) B dX13_sell_11 (by decide) ?_
  refine pm_cV (As := [.int 0, .int 0]) (mc2 := 0) (ms2 := 0) B rfl ((pm_up_n (by omega)).trans pm_up_s) rfl (c_X13_ends_f4 (x := 0) (y := 0) (f := (upd (upd (upd (upd (upd (upd f 5 8) 6 0) 7 0) 7 3) 8 ((g (7 + 5 * i + 0)) - (g (7 + 5 * i + 3)))) 6 3)) (g := g) (gb := (va_cpy g gb 0 0 91)) (gp := gp) ((pm_up_n (by omega)).trans pm_up_s) ((pm_up_n (by omega)).trans ((pm_up_n (by omega)).trans hg)) pm_up_s ((pm_up_n (by omega)).trans ((pm_up_n (by omega)).trans hgp))  (by decide) (by decide)) mt_X13_ends sv_X13_97 dX13_sell_12 rfl rfl rfl rfl rfl ?_
  refine pm_mem (M' := pm_up (pm_up (pm_up M m0 (pm_mo z m0 (upd (upd (upd (upd (upd (upd f 5 8) 6 0) 7 0) 7 3) 8 ((g (7 + 5 * i + 0)) - (g (7 + 5 * i + 3)))) 6 3))) (m0 + 2) (.inl (kA 0, 91, .inl (va_cpy g gb 0 0 91)))) m0 (pm_mo z m0 (upd (upd (upd (upd (upd (upd (upd (upd (upd (upd f 5 8) 6 0) 7 0) 7 3) 8 ((g (7 + 5 * i + 0)) - (g (7 + 5 * i + 3)))) 6 3) 5 8) 9 ((upd (upd (upd (upd (upd (upd (upd f 5 8) 6 0) 7 0) 7 3) 8 ((g (7 + 5 * i + 0)) - (g (7 + 5 * i + 3)))) 6 3) 5 8) 7)) 10 ((upd (upd (upd (upd (upd (upd (upd f 5 8) 6 0) 7 0) 7 3) 8 ((g (7 + 5 * i + 0)) - (g (7 + 5 * i + 3)))) 6 3) 5 8) 8)) 11 0))) rfl ?_
  refine pm_mem (M' := pm_up (pm_up M m0 (pm_mo z m0 (upd (upd (upd (upd (upd (upd (upd (upd (upd (upd f 5 8) 6 0) 7 0) 7 3) 8 ((g (7 + 5 * i + 0)) - (g (7 + 5 * i + 3)))) 6 3) 5 8) 9 ((upd (upd (upd (upd (upd (upd (upd f 5 8) 6 0) 7 0) 7 3) 8 ((g (7 + 5 * i + 0)) - (g (7 + 5 * i + 3)))) 6 3) 5 8) 7)) 10 ((upd (upd (upd (upd (upd (upd (upd f 5 8) 6 0) 7 0) 7 3) 8 ((g (7 + 5 * i + 0)) - (g (7 + 5 * i + 3)))) 6 3) 5 8) 8)) 11 0))) (m0 + 2) (.inl (kA 0, 91, .inl (va_cpy g gb 0 0 91)))) (by rw [pm_up_sw (a := m0 + 2) (b := m0) (by omega), pm_up_up]) ?_
  refine pm_mem (M' := pm_up (pm_up (pm_up M m0 (pm_mo z m0 (upd (upd (upd (upd (upd (upd (upd (upd (upd (upd f 5 8) 6 0) 7 0) 7 3) 8 ((g (7 + 5 * i + 0)) - (g (7 + 5 * i + 3)))) 6 3) 5 8) 9 ((upd (upd (upd (upd (upd (upd (upd f 5 8) 6 0) 7 0) 7 3) 8 ((g (7 + 5 * i + 0)) - (g (7 + 5 * i + 3)))) 6 3) 5 8) 7)) 10 ((upd (upd (upd (upd (upd (upd (upd f 5 8) 6 0) 7 0) 7 3) 8 ((g (7 + 5 * i + 0)) - (g (7 + 5 * i + 3)))) 6 3) 5 8) 8)) 11 0))) (m0 + 2) (.inl (kA 0, 91, .inl (va_cpy g gb 0 0 91)))) (m0 + 1) (.inl (kA 0, 91, .inl (va_cpy (va_cpy g gb 0 0 91) g 0 0 91)))) rfl ?_
  refine pm_stk (st' := [.int 0]) rfl ?_
  exact pm_ireturn B dX13_sell_15 rfl (by first | rfl | (apply pm_nz; first | assumption | decide | exact pm_in01 _ _ _ | simp)) ⟨rfl, rfl, rfl⟩ rfl rfl
set_option maxRecDepth 100000 in
set_option maxHeartbeats 4000000 in
theorem c_X13_sell_if5 {l : Launch} {z : Nat} {D : va_G} {kA : Nat → ClassId} {kE : Nat → Nat} {nx : Nat} {M : pm_M} {m0 : Nat} {f : Nat → Int32} (hM : M m0 = some (pm_mo z m0 (upd f 5 8))) {g : Nat → Int32} (hg : M (m0 + 1) = some (.inl (kA 0, 91, .inl g))) {gb : Nat → Int32} (hgb : M (m0 + 2) = some (.inl (kA 0, 91, .inl gb))) {gp : Nat → Int32} (hgp : M (m0 + 4) = some (.inl (kA 0, 728, .inl gp))) {i : Nat} {u : Int32} (hi : i < 7) (h1 : ¬ (pm_in (nI i) 0 (g 0 - 1)) = 0) (h2 : ¬ (pm_in u 1 99) = 0) (h3 : ¬ (pm_ib g i) = 0) : pm_C l z D kA kE yX13_sell cX13_sell 3 (some .int) 3 0 0 [.ref (z + m0), .int (nI i), .int u] nx M (pm_rt (some (.int 0)) nx (pm_up (pm_up (pm_up M m0 (pm_mo z m0 (upd (upd (upd (upd (upd (upd (upd (upd (upd (upd f 5 8) 6 0) 7 0) 7 2) 8 (-(g (7 + 5 * i + 4)))) 6 3) 5 8) 9 ((upd (upd (upd (upd (upd (upd (upd f 5 8) 6 0) 7 0) 7 2) 8 (-(g (7 + 5 * i + 4)))) 6 3) 5 8) 7)) 10 ((upd (upd (upd (upd (upd (upd (upd f 5 8) 6 0) 7 0) 7 2) 8 (-(g (7 + 5 * i + 4)))) 6 3) 5 8) 8)) 11 0))) (m0 + 2) (.inl (kA 0, 91, .inl (va_cpy g gb 0 0 91)))) (m0 + 1) (.inl (kA 0, 91, .inl (va_cpy (va_cpy g gb 0 0 91) g 0 0 91))))) := by
  refine pm_mk (own := RX13) (nm := "sell") mt_X13_sell rfl rfl rfl rfl fun X B => ?_
  refine pm_loc (L' := [some (.ref (z + m0)), some (.int (nI i)), some (.int u)]) rfl ?_
  refine pm_aload_n B dX13_sell_0 rfl ?_
  refine pm_cV (As := []) (mc2 := 0) (ms2 := 0) B rfl hM rfl (c_X13_keep (f := (upd f 5 8)) (g := g) (gb := gb) hM hg hgb  ) mt_X13_keep sv_X13_91 dX13_sell_1 rfl rfl rfl rfl rfl ?_
  refine pm_mem (M' := pm_up M m0 (pm_mo z m0 (upd (upd (upd f 5 8) 6 0) 7 0))) rfl ?_
  refine pm_mem (M' := pm_up (pm_up M m0 (pm_mo z m0 (upd (upd (upd f 5 8) 6 0) 7 0))) (m0 + 2) (.inl (kA 0, 91, .inl (va_cpy g gb 0 0 91)))) rfl ?_
  refine pm_stk (st' := []) rfl ?_
  refine pm_aload_n B dX13_sell_4 rfl ?_
  refine pm_aload_n B dX13_sell_5 rfl ?_
  refine pm_iload_n B dX13_sell_6 rfl ?_
  refine pm_iload_n B dX13_sell_7 rfl ?_
  refine pm_cV (As := [.int (nI i), .int u]) (mc2 := 0) (ms2 := 0) B rfl ((pm_up_n (by omega)).trans pm_up_s) rfl (c_X13_doSell_i3 (i := i) (u := u) (f := (upd (upd (upd f 5 8) 6 0) 7 0)) (g := g) ((pm_up_n (by omega)).trans pm_up_s) ((pm_up_n (by omega)).trans ((pm_up_n (by omega)).trans hg)) (by omega) h1 h2 h3) mt_X13_doSell sv_X13_134 dX13_sell_8 rfl rfl rfl rfl rfl ?_
  refine pm_mem (M' := pm_up (pm_up (pm_up M m0 (pm_mo z m0 (upd (upd (upd f 5 8) 6 0) 7 0))) (m0 + 2) (.inl (kA 0, 91, .inl (va_cpy g gb 0 0 91)))) m0 (pm_mo z m0 (upd (upd (upd (upd (upd (upd f 5 8) 6 0) 7 0) 7 2) 8 (-(g (7 + 5 * i + 4)))) 6 3))) rfl ?_
  refine pm_mem (M' := pm_up (pm_up M m0 (pm_mo z m0 (upd (upd (upd (upd (upd (upd f 5 8) 6 0) 7 0) 7 2) 8 (-(g (7 + 5 * i + 4)))) 6 3))) (m0 + 2) (.inl (kA 0, 91, .inl (va_cpy g gb 0 0 91)))) (by rw [pm_up_sw (a := m0 + 2) (b := m0) (by omega), pm_up_up]) ?_
  refine pm_stk (st' := [.int 0, .ref (z + m0)]) rfl ?_
  refine pm_iconst (v := 0) B dX13_sell_11 (by decide) ?_
  refine pm_cV (As := [.int 0, .int 0]) (mc2 := 0) (ms2 := 0) B rfl ((pm_up_n (by omega)).trans pm_up_s) rfl (c_X13_ends_f4 (x := 0) (y := 0) (f := (upd (upd (upd (upd (upd (upd f 5 8) 6 0) 7 0) 7 2) 8 (-(g (7 + 5 * i + 4)))) 6 3)) (g := g) (gb := (va_cpy g gb 0 0 91)) (gp := gp) ((pm_up_n (by omega)).trans pm_up_s) ((pm_up_n (by omega)).trans ((pm_up_n (by omega)).trans hg)) pm_up_s ((pm_up_n (by omega)).trans ((pm_up_n (by omega)).trans hgp))  (by decide) (by decide)) mt_X13_ends sv_X13_97 dX13_sell_12 rfl rfl rfl rfl rfl ?_
  refine pm_mem (M' := pm_up (pm_up (pm_up M m0 (pm_mo z m0 (upd (upd (upd (upd (upd (upd f 5 8) 6 0) 7 0) 7 2) 8 (-(g (7 + 5 * i + 4)))) 6 3))) (m0 + 2) (.inl (kA 0, 91, .inl (va_cpy g gb 0 0 91)))) m0 (pm_mo z m0 (upd (upd (upd (upd (upd (upd (upd (upd (upd (upd f 5 8) 6 0) 7 0) 7 2) 8 (-(g (7 + 5 * i + 4)))) 6 3) 5 8) 9 ((upd (upd (upd (upd (upd (upd (upd f 5 8) 6 0) 7 0) 7 2) 8 (-(g (7 + 5 * i + 4)))) 6 3) 5 8) 7)) 10 ((upd (upd (upd (upd (upd (upd (upd f 5 8) 6 0) 7 0) 7 2) 8 (-(g (7 + 5 * i + 4)))) 6 3) 5 8) 8)) 11 0))) rfl ?_
  refine pm_mem (M' := pm_up (pm_up M m0 (pm_mo z m0 (upd (upd (upd (upd (upd (upd (upd (upd (upd (upd f 5 8) 6 0) 7 0) 7 2) 8 (-(g (7 + 5 * i + 4)))) 6 3) 5 8) 9 ((upd (upd (upd (upd (upd (upd (upd f 5 8) 6 0) 7 0) 7 2) 8 (-(g (7 + 5 * i + 4)))) 6 3) 5 8) 7)) 10 ((upd (upd (upd (upd (upd (upd (upd f 5 8) 6 0) 7 0) 7 2) 8 (-(g (7 + 5 * i + 4)))) 6 3) 5 8) 8)) 11 0))) (m0 + 2) (.inl (kA 0, 91, .inl (va_cpy g gb 0 0 91)))) (by rw [pm_up_sw (a := m0 + 2) (b := m0) (by omega), pm_up_up]) ?_
  refine pm_mem (M' := pm_up (pm_up (pm_up M m0 (pm_mo z m0 (upd (upd (upd (upd (upd (upd (upd (upd (upd (upd f 5 8) 6 0) 7 0) 7 2) 8 (-(g (7 + 5 * i + 4)))) 6 3) 5 8) 9 ((upd (upd (upd (upd (upd (upd (upd f 5 8) 6 0) 7 0) 7 2) 8 (-(g (7 + 5 * i + 4)))) 6 3) 5 8) 7)) 10 ((upd (upd (upd (upd (upd (upd (upd f 5 8) 6 0) 7 0) 7 2) 8 (-(g (7 + 5 * i + 4)))) 6 3) 5 8) 8)) 11 0))) (m0 + 2) (.inl (kA 0, 91, .inl (va_cpy g gb 0 0 91)))) (m0 + 1) (.inl (kA 0, 91, .inl (va_cpy (va_cpy g gb 0 0 91) g 0 0 91)))) rfl ?_
  refine pm_stk (st' := [.int 0]) rfl ?_
  exact pm_ireturn B dX13_sell_15 rfl (by first | rfl | (apply pm_nz; first | assumption | decide | exact pm_in01 _ _ _ | simp)) ⟨rfl, rfl, rfl⟩ rfl rfl
set_option maxRecDepth 100000 in
set_option maxHeartbeats 4000000 in
theorem c_X13_sell_if6 {l : Launch} {z : Nat} {D : va_G} {kA : Nat → ClassId} {kE : Nat → Nat} {nx : Nat} {M : pm_M} {m0 : Nat} {f : Nat → Int32} (hM : M m0 = some (pm_mo z m0 (upd f 5 8))) {g : Nat → Int32} (hg : M (m0 + 1) = some (.inl (kA 0, 91, .inl g))) {gb : Nat → Int32} (hgb : M (m0 + 2) = some (.inl (kA 0, 91, .inl gb))) {gp : Nat → Int32} (hgp : M (m0 + 4) = some (.inl (kA 0, 728, .inl gp))) {i : Nat} {u : Int32} (hi : i < 7) (h1 : ¬ (pm_in (nI i) 0 (g 0 - 1)) = 0) (h2 : (pm_in u 1 99) = 0) : pm_C l z D kA kE yX13_sell cX13_sell 3 (some .int) 3 0 0 [.ref (z + m0), .int (nI i), .int u] nx M (pm_rt (some (.int 0)) nx (pm_up (pm_up (pm_up M m0 (pm_mo z m0 (upd (upd (upd (upd f 5 8) 6 0) 7 0) 6 2))) (m0 + 2) (.inl (kA 0, 91, .inl (va_cpy g gb 0 0 91)))) (m0 + 1) (.inl (kA 0, 91, .inl (va_cpy (va_cpy g gb 0 0 91) g 0 0 91))))) := by
  refine pm_mk (own := RX13) (nm := "sell") mt_X13_sell rfl rfl rfl rfl fun X B => ?_
  refine pm_loc (L' := [some (.ref (z + m0)), some (.int (nI i)), some (.int u)]) rfl ?_
  refine pm_aload_n B dX13_sell_0 rfl ?_
  refine pm_cV (As := []) (mc2 := 0) (ms2 := 0) B rfl hM rfl (c_X13_keep (f := (upd f 5 8)) (g := g) (gb := gb) hM hg hgb  ) mt_X13_keep sv_X13_91 dX13_sell_1 rfl rfl rfl rfl rfl ?_
  refine pm_mem (M' := pm_up M m0 (pm_mo z m0 (upd (upd (upd f 5 8) 6 0) 7 0))) rfl ?_
  refine pm_mem (M' := pm_up (pm_up M m0 (pm_mo z m0 (upd (upd (upd f 5 8) 6 0) 7 0))) (m0 + 2) (.inl (kA 0, 91, .inl (va_cpy g gb 0 0 91)))) rfl ?_
  refine pm_stk (st' := []) rfl ?_
  refine pm_aload_n B dX13_sell_4 rfl ?_
  refine pm_aload_n B dX13_sell_5 rfl ?_
  refine pm_iload_n B dX13_sell_6 rfl ?_
  refine pm_iload_n B dX13_sell_7 rfl ?_
  refine pm_cV (As := [.int (nI i), .int u]) (mc2 := 0) (ms2 := 0) B rfl ((pm_up_n (by omega)).trans pm_up_s) rfl (c_X13_doSell_i4 (i := i) (u := u) (f := (upd (upd (upd f 5 8) 6 0) 7 0)) (g := g) ((pm_up_n (by omega)).trans pm_up_s) ((pm_up_n (by omega)).trans ((pm_up_n (by omega)).trans hg)) (by omega) h1 h2) mt_X13_doSell sv_X13_134 dX13_sell_8 rfl rfl rfl rfl rfl ?_
  refine pm_mem (M' := pm_up (pm_up (pm_up M m0 (pm_mo z m0 (upd (upd (upd f 5 8) 6 0) 7 0))) (m0 + 2) (.inl (kA 0, 91, .inl (va_cpy g gb 0 0 91)))) m0 (pm_mo z m0 (upd (upd (upd (upd f 5 8) 6 0) 7 0) 6 2))) rfl ?_
  refine pm_mem (M' := pm_up (pm_up M m0 (pm_mo z m0 (upd (upd (upd (upd f 5 8) 6 0) 7 0) 6 2))) (m0 + 2) (.inl (kA 0, 91, .inl (va_cpy g gb 0 0 91)))) (by rw [pm_up_sw (a := m0 + 2) (b := m0) (by omega), pm_up_up]) ?_
  refine pm_stk (st' := [.int 0, .ref (z + m0)]) rfl ?_
  refine pm_iconst (v := 0) B dX13_sell_11 (by decide) ?_
  refine pm_cV (As := [.int 0, .int 0]) (mc2 := 0) (ms2 := 0) B rfl ((pm_up_n (by omega)).trans pm_up_s) rfl (c_X13_ends_f2 (x := 0) (y := 0) (f := (upd (upd (upd (upd f 5 8) 6 0) 7 0) 6 2)) (g := g) (gb := (va_cpy g gb 0 0 91)) (gp := gp) ((pm_up_n (by omega)).trans pm_up_s) ((pm_up_n (by omega)).trans ((pm_up_n (by omega)).trans hg)) pm_up_s ((pm_up_n (by omega)).trans ((pm_up_n (by omega)).trans hgp))  (by decide) (by decide)) mt_X13_ends sv_X13_97 dX13_sell_12 rfl rfl rfl rfl rfl ?_
  refine pm_mem (M' := pm_up (pm_up (pm_up M m0 (pm_mo z m0 (upd (upd (upd (upd f 5 8) 6 0) 7 0) 6 2))) (m0 + 2) (.inl (kA 0, 91, .inl (va_cpy g gb 0 0 91)))) (m0 + 1) (.inl (kA 0, 91, .inl (va_cpy (va_cpy g gb 0 0 91) g 0 0 91)))) rfl ?_
  refine pm_stk (st' := [.int 0]) rfl ?_
  exact pm_ireturn B dX13_sell_15 rfl (by first | rfl | (apply pm_nz; first | assumption | decide | exact pm_in01 _ _ _ | simp)) ⟨rfl, rfl, rfl⟩ rfl rfl
set_option maxRecDepth 100000 in
set_option maxHeartbeats 4000000 in
theorem c_X13_sell_if7 {l : Launch} {z : Nat} {D : va_G} {kA : Nat → ClassId} {kE : Nat → Nat} {nx : Nat} {M : pm_M} {m0 : Nat} {f : Nat → Int32} (hM : M m0 = some (pm_mo z m0 (upd f 5 8))) {g : Nat → Int32} (hg : M (m0 + 1) = some (.inl (kA 0, 91, .inl g))) {gb : Nat → Int32} (hgb : M (m0 + 2) = some (.inl (kA 0, 91, .inl gb))) {gp : Nat → Int32} (hgp : M (m0 + 4) = some (.inl (kA 0, 728, .inl gp))) {i : Nat} {u : Int32} (hi : i < 7) (h1 : (pm_in (nI i) 0 (g 0 - 1)) = 0) : pm_C l z D kA kE yX13_sell cX13_sell 3 (some .int) 3 0 0 [.ref (z + m0), .int (nI i), .int u] nx M (pm_rt (some (.int 0)) nx (pm_up (pm_up (pm_up M m0 (pm_mo z m0 (upd (upd (upd (upd f 5 8) 6 0) 7 0) 6 1))) (m0 + 2) (.inl (kA 0, 91, .inl (va_cpy g gb 0 0 91)))) (m0 + 1) (.inl (kA 0, 91, .inl (va_cpy (va_cpy g gb 0 0 91) g 0 0 91))))) := by
  refine pm_mk (own := RX13) (nm := "sell") mt_X13_sell rfl rfl rfl rfl fun X B => ?_
  refine pm_loc (L' := [some (.ref (z + m0)), some (.int (nI i)), some (.int u)]) rfl ?_
  refine pm_aload_n B dX13_sell_0 rfl ?_
  refine pm_cV (As := []) (mc2 := 0) (ms2 := 0) B rfl hM rfl (c_X13_keep (f := (upd f 5 8)) (g := g) (gb := gb) hM hg hgb  ) mt_X13_keep sv_X13_91 dX13_sell_1 rfl rfl rfl rfl rfl ?_
  refine pm_mem (M' := pm_up M m0 (pm_mo z m0 (upd (upd (upd f 5 8) 6 0) 7 0))) rfl ?_
  refine pm_mem (M' := pm_up (pm_up M m0 (pm_mo z m0 (upd (upd (upd f 5 8) 6 0) 7 0))) (m0 + 2) (.inl (kA 0, 91, .inl (va_cpy g gb 0 0 91)))) rfl ?_
  refine pm_stk (st' := []) rfl ?_
  refine pm_aload_n B dX13_sell_4 rfl ?_
  refine pm_aload_n B dX13_sell_5 rfl ?_
  refine pm_iload_n B dX13_sell_6 rfl ?_
  refine pm_iload_n B dX13_sell_7 rfl ?_
  refine pm_cV (As := [.int (nI i), .int u]) (mc2 := 0) (ms2 := 0) B rfl ((pm_up_n (by omega)).trans pm_up_s) rfl (c_X13_doSell_i5 (i := i) (u := u) (f := (upd (upd (upd f 5 8) 6 0) 7 0)) (g := g) ((pm_up_n (by omega)).trans pm_up_s) ((pm_up_n (by omega)).trans ((pm_up_n (by omega)).trans hg)) (by omega) h1) mt_X13_doSell sv_X13_134 dX13_sell_8 rfl rfl rfl rfl rfl ?_
  refine pm_mem (M' := pm_up (pm_up (pm_up M m0 (pm_mo z m0 (upd (upd (upd f 5 8) 6 0) 7 0))) (m0 + 2) (.inl (kA 0, 91, .inl (va_cpy g gb 0 0 91)))) m0 (pm_mo z m0 (upd (upd (upd (upd f 5 8) 6 0) 7 0) 6 1))) rfl ?_
  refine pm_mem (M' := pm_up (pm_up M m0 (pm_mo z m0 (upd (upd (upd (upd f 5 8) 6 0) 7 0) 6 1))) (m0 + 2) (.inl (kA 0, 91, .inl (va_cpy g gb 0 0 91)))) (by rw [pm_up_sw (a := m0 + 2) (b := m0) (by omega), pm_up_up]) ?_
  refine pm_stk (st' := [.int 0, .ref (z + m0)]) rfl ?_
  refine pm_iconst (v := 0) B dX13_sell_11 (by decide) ?_
  refine pm_cV (As := [.int 0, .int 0]) (mc2 := 0) (ms2 := 0) B rfl ((pm_up_n (by omega)).trans pm_up_s) rfl (c_X13_ends_f2 (x := 0) (y := 0) (f := (upd (upd (upd (upd f 5 8) 6 0) 7 0) 6 1)) (g := g) (gb := (va_cpy g gb 0 0 91)) (gp := gp) ((pm_up_n (by omega)).trans pm_up_s) ((pm_up_n (by omega)).trans ((pm_up_n (by omega)).trans hg)) pm_up_s ((pm_up_n (by omega)).trans ((pm_up_n (by omega)).trans hgp))  (by decide) (by decide)) mt_X13_ends sv_X13_97 dX13_sell_12 rfl rfl rfl rfl rfl ?_
  refine pm_mem (M' := pm_up (pm_up (pm_up M m0 (pm_mo z m0 (upd (upd (upd (upd f 5 8) 6 0) 7 0) 6 1))) (m0 + 2) (.inl (kA 0, 91, .inl (va_cpy g gb 0 0 91)))) (m0 + 1) (.inl (kA 0, 91, .inl (va_cpy (va_cpy g gb 0 0 91) g 0 0 91)))) rfl ?_
  refine pm_stk (st' := [.int 0]) rfl ?_
  exact pm_ireturn B dX13_sell_15 rfl (by first | rfl | (apply pm_nz; first | assumption | decide | exact pm_in01 _ _ _ | simp)) ⟨rfl, rfl, rfl⟩ rfl rfl
