/-! ThunderCartelModel: the object, its row of numbers -/
abbrev pm_mo (z m0 : Nat) (f : Nat → Int32) : va_E := .inr (11, [.ref (z + (m0 + 1)), .ref (z + (m0 + 2)), .ref (z + (m0 + 3)), .int (f 3), .ref (z + (m0 + 4)), .int (f 5), .int (f 6), .int (f 7), .int (f 8), .int (f 9), .int (f 10), .int (f 11), .ref (z + (m0 + 5)), .int (f 13), .ref (z + (m0 + 6)), .int (f 15), .int (f 16), .int (f 17), .int (f 18), .ref (z + (m0 + 7)), .int (f 20), .ref (z + (m0 + 8)), .int (f 22)])
def pm_th (b : Int32) : Int32 := if b = 0 then 1 else 0
abbrev pm_ib (g : Nat → Int32) (i : Nat) : Int32 := if g (7 + 5 * i + 4) < 0 then 1 else 0
abbrev pm_mv (g : Nat → Int32) (i : Nat) : Int32 := pm_max 0 (g (7 + 5 * i + 3) - g (7 + 5 * i + 2))
/-- an index that is in: it is a number -/
theorem pm_in_ex {x : Int32} {n : Nat} (hn : n ≤ 7) (h : ¬ pm_in x 0 (nI n - 1) = 0) : ∃ i, i < n ∧ x = nI i := by
  unfold pm_in at h
  split at h
  · exact absurd rfl h
  · split at h
    · exact absurd rfl h
    · rename_i h1 h2
      obtain ⟨j, hj, rfl⟩ := nI_of h1
      refine ⟨j, ?_, rfl⟩
      cases n with
      | zero => exact absurd (show nI 0 - 1 < nI j by
          rw [Int32.lt_iff_toInt_lt, nI_toInt hj]
          have : (nI 0 - 1 : Int32).toInt = -1 := by decide
          omega) h2
      | succ n =>
        rw [nI_pred] at h2
        have h3 := (nI_leI (a := j) (b := n) hj (by omega)).mp (Int32.not_lt.mp h2)
        omega
theorem pm_out_ex {x : Int32} {n : Nat} (hn : n ≤ 7) (h : pm_in x 0 (nI n - 1) = 0) : x < 0 ∨ nI n ≤ x := by
  unfold pm_in at h
  split at h
  · exact Or.inl (by assumption)
  · split at h
    · rename_i h1 h2
      obtain ⟨j, hj, rfl⟩ := nI_of h1
      refine Or.inr ((nI_leI (by omega) hj).mpr ?_)
      cases n with
      | zero => omega
      | succ n =>
        rw [nI_pred] at h2
        have h3 := (nI_ltI (a := n) (b := j) (by omega) hj).mp h2
        omega
    · exact absurd h (by decide)
set_option maxRecDepth 100000 in
set_option maxHeartbeats 4000000 in
theorem c_X13_in {l : Launch} {z : Nat} {D : va_G} {kA : Nat → ClassId} {kE : Nat → Nat} {nx : Nat} {M : pm_M}  {v lo hi : Int32} : pm_C l z D kA kE yX13_in cX13_in 3 (some .boolean) 0 0 0 [.int v, .int lo, .int hi] nx M (pm_rt (some (.int (pm_in v lo hi))) nx M) := by
  refine pm_mk (own := RX13) (nm := "in") mt_X13_in rfl rfl rfl rfl fun X B => ?_
  refine pm_loc (L' := [some (.int v), some (.int lo), some (.int hi)]) rfl ?_
  refine pm_iload_n B dX13_in_0 rfl ?_
  refine pm_iload_n B dX13_in_1 rfl ?_
  refine pm_icmp_lt (tgt := 14) B dX13_in_2 (by decide) (fun h1 => ?_) (fun h1 => ?_)
  · refine pm_iconst (v := 0) B dX13_in_14 (by decide) ?_
    exact pm_ireturn B dX13_in_15 rfl (by first | rfl | (apply pm_nz; first | assumption | decide | exact pm_in01 _ _ _ | simp)) ⟨by unfold pm_in; rw [if_pos h1], rfl, rfl⟩ rfl rfl
  · refine pm_iload_n B dX13_in_5 rfl ?_
    refine pm_iload_n B dX13_in_6 rfl ?_
    refine pm_icmp_gt (tgt := 14) B dX13_in_7 (by decide) (fun h2 => ?_) (fun h2 => ?_)
    · refine pm_iconst (v := 0) B dX13_in_14 (by decide) ?_
      exact pm_ireturn B dX13_in_15 rfl (by first | rfl | (apply pm_nz; first | assumption | decide | exact pm_in01 _ _ _ | simp)) ⟨by unfold pm_in; rw [if_neg h1, if_pos h2], rfl, rfl⟩ rfl rfl
    · refine pm_iconst (v := 1) B dX13_in_10 (by decide) ?_
      refine pm_goto (tgt := 15) B dX13_in_11 (by decide) ?_
      exact pm_ireturn B dX13_in_15 rfl (by first | rfl | (apply pm_nz; first | assumption | decide | exact pm_in01 _ _ _ | simp)) ⟨by unfold pm_in; rw [if_neg h1, if_neg h2], rfl, rfl⟩ rfl rfl
set_option maxRecDepth 100000 in
set_option maxHeartbeats 4000000 in
theorem c_X13_fails {l : Launch} {z : Nat} {D : va_G} {kA : Nat → ClassId} {kE : Nat → Nat} {nx : Nat} {M : pm_M} {m0 : Nat} {f : Nat → Int32} (hM : M m0 = some (pm_mo z m0 f)) {x : Int32} : pm_C l z D kA kE yX13_fails cX13_fails 2 (some .int) 0 0 0 [.ref (z + m0), .int x] nx M (pm_rt (some (.int 0)) nx (pm_up M m0 (pm_mo z m0 (upd f 6 x)))) := by
  refine pm_mk (own := RX13) (nm := "fails") mt_X13_fails rfl rfl rfl rfl fun X B => ?_
  refine pm_loc (L' := [some (.ref (z + m0)), some (.int x)]) rfl ?_
  refine pm_aload_n B dX13_fails_0 rfl ?_
  refine pm_iload_n B dX13_fails_1 rfl ?_
  refine pm_put B dX13_fails_2 fs_X13_39 hM rfl rfl rfl ?_
  refine pm_mem (M' := pm_up M m0 (pm_mo z m0 (upd f 6 x))) rfl ?_
  refine pm_iconst (v := 0) B dX13_fails_5 (by decide) ?_
  exact pm_ireturn B dX13_fails_6 rfl (by first | rfl | (apply pm_nz; first | assumption | decide | exact pm_in01 _ _ _ | simp)) ⟨rfl, rfl, rfl⟩ rfl rfl
set_option maxRecDepth 100000 in
set_option maxHeartbeats 4000000 in
theorem c_X13_denies {l : Launch} {z : Nat} {D : va_G} {kA : Nat → ClassId} {kE : Nat → Nat} {nx : Nat} {M : pm_M} {m0 : Nat} {f : Nat → Int32} (hM : M m0 = some (pm_mo z m0 f)) {p n dt : Int32} : pm_C l z D kA kE yX13_denies cX13_denies 4 (some .int) 1 0 0 [.ref (z + m0), .int p, .int n, .int dt] nx M (pm_rt (some (.int 0)) nx (pm_up M m0 (pm_mo z m0 (upd (upd (upd f 7 n) 8 dt) 6 p)))) := by
  refine pm_mk (own := RX13) (nm := "denies") mt_X13_denies rfl rfl rfl rfl fun X B => ?_
  refine pm_loc (L' := [some (.ref (z + m0)), some (.int p), some (.int n), some (.int dt)]) rfl ?_
  refine pm_aload_n B dX13_denies_0 rfl ?_
  refine pm_iload_n B dX13_denies_1 rfl ?_
  refine pm_put B dX13_denies_2 fs_X13_42 hM rfl rfl rfl ?_
  refine pm_mem (M' := pm_up M m0 (pm_mo z m0 (upd f 7 n))) rfl ?_
  refine pm_aload_n B dX13_denies_5 rfl ?_
  refine pm_iload_n B dX13_denies_6 rfl ?_
  refine pm_put B dX13_denies_7 fs_X13_54 pm_up_s rfl rfl rfl ?_
  refine pm_mem (M' := pm_up M m0 (pm_mo z m0 (upd (upd f 7 n) 8 dt))) pm_up_up ?_
  refine pm_aload_n B dX13_denies_10 rfl ?_
  refine pm_iload_n B dX13_denies_11 rfl ?_
  refine pm_cV (As := [.int p]) (mc2 := 0) (ms2 := 0) B rfl pm_up_s rfl (c_X13_fails (f := (upd (upd f 7 n) 8 dt)) pm_up_s) mt_X13_fails sv_X13_66 dX13_denies_12 rfl rfl rfl rfl rfl ?_
  refine pm_mem (M' := pm_up M m0 (pm_mo z m0 (upd (upd (upd f 7 n) 8 dt) 6 p))) pm_up_up ?_
  refine pm_stk (st' := [.int 0]) rfl ?_
  exact pm_ireturn B dX13_denies_15 rfl (by first | rfl | (apply pm_nz; first | assumption | decide | exact pm_in01 _ _ _ | simp)) ⟨rfl, rfl, rfl⟩ rfl rfl
set_option maxRecDepth 100000 in
set_option maxHeartbeats 4000000 in
theorem c_X13_isThere {l : Launch} {z : Nat} {D : va_G} {kA : Nat → ClassId} {kE : Nat → Nat} {nx : Nat} {M : pm_M} {m0 : Nat} {f : Nat → Int32} (hM : M m0 = some (pm_mo z m0 f)) {b : Int32} (hb1 : b = 0 ∨ b = 1) : pm_C l z D kA kE yX13_isThere cX13_isThere 2 (some .boolean) 0 0 0 [.ref (z + m0), .int b] nx M (pm_rt (some (.int b)) nx (pm_up M m0 (pm_mo z m0 (upd f 6 (pm_th b))))) := by
  refine pm_mk (own := RX13) (nm := "isThere") mt_X13_isThere rfl rfl rfl rfl fun X B => ?_
  refine pm_loc (L' := [some (.ref (z + m0)), some (.int b)]) rfl ?_
  refine pm_aload_n B dX13_isThere_0 rfl ?_
  refine pm_iload_n B dX13_isThere_1 rfl ?_
  refine pm_if_eq (tgt := 9) B dX13_isThere_2 (by decide) (fun h1 => ?_) (fun h1 => ?_)
  · refine pm_iconst (v := 1) B dX13_isThere_9 (by decide) ?_
    refine pm_put B dX13_isThere_10 fs_X13_39 hM rfl rfl rfl ?_
    refine pm_mem (M' := pm_up M m0 (pm_mo z m0 (upd f 6 1))) rfl ?_
    refine pm_iload_n B dX13_isThere_13 rfl ?_
    exact pm_ireturn B dX13_isThere_14 rfl (by first | rfl | (apply pm_nz; first | assumption | decide | exact pm_in01 _ _ _ | simp)) ⟨rfl, rfl, by unfold pm_th; rw [if_pos h1]⟩ rfl rfl
  · refine pm_iconst (v := 0) B dX13_isThere_5 (by decide) ?_
    refine pm_goto (tgt := 10) B dX13_isThere_6 (by decide) ?_
    refine pm_put B dX13_isThere_10 fs_X13_39 hM rfl rfl rfl ?_
    refine pm_mem (M' := pm_up M m0 (pm_mo z m0 (upd f 6 0))) rfl ?_
    refine pm_iload_n B dX13_isThere_13 rfl ?_
    exact pm_ireturn B dX13_isThere_14 rfl (by first | rfl | (apply pm_nz; first | assumption | decide | exact pm_in01 _ _ _ | simp)) ⟨rfl, rfl, by unfold pm_th; rw [if_neg h1]⟩ rfl rfl
set_option maxRecDepth 100000 in
set_option maxHeartbeats 4000000 in
theorem c_X13_isMember {l : Launch} {z : Nat} {D : va_G} {kA : Nat → ClassId} {kE : Nat → Nat} {nx : Nat} {M : pm_M} {m0 : Nat} {f : Nat → Int32} (hM : M m0 = some (pm_mo z m0 f)) {g : Nat → Int32} (hg : M (m0 + 1) = some (.inl (kA 0, 91, .inl g))) {x : Int32} : pm_C l z D kA kE yX13_isMember cX13_isMember 2 (some .boolean) 1 0 0 [.ref (z + m0), .int x] nx M (pm_rt (some (.int (pm_in x 0 (g 0 - 1)))) nx M) := by
  refine pm_mk (own := RX13) (nm := "isMember") mt_X13_isMember rfl rfl rfl rfl fun X B => ?_
  refine pm_loc (L' := [some (.ref (z + m0)), some (.int x)]) rfl ?_
  refine pm_iload_n B dX13_isMember_0 rfl ?_
  refine pm_iconst (v := 0) B dX13_isMember_1 (by decide) ?_
  refine pm_aload_n B dX13_isMember_2 rfl ?_
  refine pm_get B dX13_isMember_3 fl_X13_9 hM rfl ?_
  refine pm_iconst (v := 0) B dX13_isMember_6 (by decide) ?_
  refine pm_iald_n B dX13_isMember_7 hg 0 (by decide) (by decide) ?_
  refine pm_iconst (v := 1) B dX13_isMember_8 (by decide) ?_
  refine pm_isub B dX13_isMember_9 ?_
  refine pm_cS (As := [.int x, .int 0, .int ((g 0) - 1)]) (mc2 := 0) (ms2 := 0) B c_X13_in mt_X13_in ss_X13_70 dX13_isMember_10 rfl rfl rfl rfl rfl ?_
  refine pm_stk (st' := [.int (pm_in x 0 ((g 0) - 1))]) rfl ?_
  exact pm_ireturn B dX13_isMember_13 rfl (by first | rfl | (apply pm_nz; first | assumption | decide | exact pm_in01 _ _ _ | simp)) ⟨rfl, rfl, rfl⟩ rfl rfl
set_option maxRecDepth 100000 in
set_option maxHeartbeats 4000000 in
theorem c_X13_of {l : Launch} {z : Nat} {D : va_G} {kA : Nat → ClassId} {kE : Nat → Nat} {nx : Nat} {M : pm_M} {m0 : Nat} {f : Nat → Int32} (hM : M m0 = some (pm_mo z m0 f)) {g : Nat → Int32} (hg : M (m0 + 1) = some (.inl (kA 0, 91, .inl g))) {i w : Nat} (hi : i < 7) (hw : w < 5) : pm_C l z D kA kE yX13_of cX13_of 3 (some .int) 0 0 0 [.ref (z + m0), .int (nI i), .int (nI w)] nx M (pm_rt (some (.int (g (7 + 5 * i + w)))) nx M) := by
  refine pm_mk (own := RX13) (nm := "of") mt_X13_of rfl rfl rfl rfl fun X B => ?_
  refine pm_loc (L' := [some (.ref (z + m0)), some (.int (nI i)), some (.int (nI w))]) rfl ?_
  refine pm_aload_n B dX13_of_0 rfl ?_
  refine pm_get B dX13_of_1 fl_X13_9 hM rfl ?_
  refine pm_bipush (v := 7) B dX13_of_4 (by decide) ?_
  refine pm_iconst (v := 5) B dX13_of_6 (by decide) ?_
  refine pm_iload_n B dX13_of_7 rfl ?_
  refine pm_imul B dX13_of_8 ?_
  refine pm_iadd B dX13_of_9 ?_
  refine pm_iload_n B dX13_of_10 rfl ?_
  refine pm_iadd B dX13_of_11 ?_
  refine pm_stk (st' := [.int (nI (7 + 5 * i + w)), .ref (z + (m0 + 1))]) (by rw [show ((7 + (5 * (nI i))) + (nI w)) = (nI (7 + 5 * i + w)) from (by rw [show (7 : Int32) = nI 7 from rfl, show (5 : Int32) = nI 5 from rfl, pk_mul, nI_add, nI_add])]) ?_
  refine pm_iald_n B dX13_of_12 hg (7 + 5 * i + w) (by first | assumption | omega) (by decide) ?_
  exact pm_ireturn B dX13_of_13 rfl (by first | rfl | (apply pm_nz; first | assumption | decide | exact pm_in01 _ _ _ | simp)) ⟨rfl, rfl, rfl⟩ rfl rfl
set_option maxRecDepth 100000 in
set_option maxHeartbeats 4000000 in
theorem c_X13_sets {l : Launch} {z : Nat} {D : va_G} {kA : Nat → ClassId} {kE : Nat → Nat} {nx : Nat} {M : pm_M} {m0 : Nat} {f : Nat → Int32} (hM : M m0 = some (pm_mo z m0 f)) {g : Nat → Int32} (hg : M (m0 + 1) = some (.inl (kA 0, 91, .inl g))) {i w : Nat} (hi : i < 7) (hw : w < 5) {v : Int32} : pm_C l z D kA kE yX13_sets cX13_sets 4 none 0 0 0 [.ref (z + m0), .int (nI i), .int (nI w), .int v] nx M (pm_rt none nx (pm_up M (m0 + 1) (.inl (kA 0, 91, .inl (upd g (7 + 5 * i + w) v))))) := by
  refine pm_mk (own := RX13) (nm := "sets") mt_X13_sets rfl rfl rfl rfl fun X B => ?_
  refine pm_loc (L' := [some (.ref (z + m0)), some (.int (nI i)), some (.int (nI w)), some (.int v)]) rfl ?_
  refine pm_aload_n B dX13_sets_0 rfl ?_
  refine pm_get B dX13_sets_1 fl_X13_9 hM rfl ?_
  refine pm_bipush (v := 7) B dX13_sets_4 (by decide) ?_
  refine pm_iconst (v := 5) B dX13_sets_6 (by decide) ?_
  refine pm_iload_n B dX13_sets_7 rfl ?_
  refine pm_imul B dX13_sets_8 ?_
  refine pm_iadd B dX13_sets_9 ?_
  refine pm_iload_n B dX13_sets_10 rfl ?_
  refine pm_iadd B dX13_sets_11 ?_
  refine pm_iload_n B dX13_sets_12 rfl ?_
  refine pm_stk (st' := [.int v, .int (nI (7 + 5 * i + w)), .ref (z + (m0 + 1))]) (by rw [show ((7 + (5 * (nI i))) + (nI w)) = (nI (7 + 5 * i + w)) from (by rw [show (7 : Int32) = nI 7 from rfl, show (5 : Int32) = nI 5 from rfl, pk_mul, nI_add, nI_add])]) ?_
  refine pm_iast_n B dX13_sets_13 hg (7 + 5 * i + w) (by first | assumption | omega) (by decide) ?_
  refine pm_mem (M' := pm_up M (m0 + 1) (.inl (kA 0, 91, .inl (upd g (7 + 5 * i + w) v)))) rfl ?_
  exact pm_return B dX13_sets_14 rfl ⟨rfl, rfl, rfl⟩ rfl rfl
set_option maxRecDepth 100000 in
set_option maxHeartbeats 4000000 in
theorem c_X13_isBarred {l : Launch} {z : Nat} {D : va_G} {kA : Nat → ClassId} {kE : Nat → Nat} {nx : Nat} {M : pm_M} {m0 : Nat} {f : Nat → Int32} (hM : M m0 = some (pm_mo z m0 f)) {g : Nat → Int32} (hg : M (m0 + 1) = some (.inl (kA 0, 91, .inl g))) {i : Nat} (hi : i < 7) : pm_C l z D kA kE yX13_isBarred cX13_isBarred 2 (some .boolean) 1 0 0 [.ref (z + m0), .int (nI i)] nx M (pm_rt (some (.int (pm_ib g i))) nx M) := by
  refine pm_mk (own := RX13) (nm := "isBarred") mt_X13_isBarred rfl rfl rfl rfl fun X B => ?_
  refine pm_loc (L' := [some (.ref (z + m0)), some (.int (nI i))]) rfl ?_
  refine pm_aload_n B dX13_isBarred_0 rfl ?_
  refine pm_iload_n B dX13_isBarred_1 rfl ?_
  refine pm_iconst (v := 4) B dX13_isBarred_2 (by decide) ?_
  refine pm_cV (As := [.int (nI i), .int (nI 4)]) (mc2 := 0) (ms2 := 0) B rfl hM rfl (c_X13_of (f := f) hM hg (i := i) (w := 4) (by first | assumption | omega) (by first | assumption | omega)) mt_X13_of sv_X13_74 dX13_isBarred_3 rfl rfl rfl rfl rfl ?_
  refine pm_stk (st' := [.int (g (7 + 5 * i + 4))]) rfl ?_
  refine pm_if_ge (tgt := 13) B dX13_isBarred_6 (by decide) (fun h1 => ?_) (fun h1 => ?_)
  · refine pm_iconst (v := 0) B dX13_isBarred_13 (by decide) ?_
    exact pm_ireturn B dX13_isBarred_14 rfl (by first | rfl | (apply pm_nz; first | assumption | decide | exact pm_in01 _ _ _ | simp)) ⟨by unfold pm_ib; first | rw [if_neg (Int32.not_lt.mpr h1)] | rw [if_pos (Int32.not_le.mp h1)] | rw [if_pos h1], rfl, rfl⟩ rfl rfl
  · refine pm_iconst (v := 1) B dX13_isBarred_9 (by decide) ?_
    refine pm_goto (tgt := 14) B dX13_isBarred_10 (by decide) ?_
    exact pm_ireturn B dX13_isBarred_14 rfl (by first | rfl | (apply pm_nz; first | assumption | decide | exact pm_in01 _ _ _ | simp)) ⟨by unfold pm_ib; first | rw [if_neg (Int32.not_lt.mpr h1)] | rw [if_pos (Int32.not_le.mp h1)] | rw [if_neg h1], rfl, rfl⟩ rfl rfl
set_option maxRecDepth 100000 in
set_option maxHeartbeats 4000000 in
theorem c_X13_over {l : Launch} {z : Nat} {D : va_G} {kA : Nat → ClassId} {kE : Nat → Nat} {nx : Nat} {M : pm_M} {m0 : Nat} {f : Nat → Int32} (hM : M m0 = some (pm_mo z m0 f)) {g : Nat → Int32} (hg : M (m0 + 1) = some (.inl (kA 0, 91, .inl g))) {i : Nat} (hi : i < 7) : pm_C l z D kA kE yX13_over cX13_over 2 (some .int) 1 0 0 [.ref (z + m0), .int (nI i)] nx M (pm_rt (some (.int (pm_mv g i))) nx M) := by
  refine pm_mk (own := RX13) (nm := "over") mt_X13_over rfl rfl rfl rfl fun X B => ?_
  refine pm_loc (L' := [some (.ref (z + m0)), some (.int (nI i))]) rfl ?_
  refine pm_iconst (v := 0) B dX13_over_0 (by decide) ?_
  refine pm_aload_n B dX13_over_1 rfl ?_
  refine pm_iload_n B dX13_over_2 rfl ?_
  refine pm_iconst (v := 3) B dX13_over_3 (by decide) ?_
  refine pm_cV (As := [.int (nI i), .int (nI 3)]) (mc2 := 0) (ms2 := 0) B rfl hM rfl (c_X13_of (f := f) hM hg (i := i) (w := 3) (by first | assumption | omega) (by first | assumption | omega)) mt_X13_of sv_X13_74 dX13_over_4 rfl rfl rfl rfl rfl ?_
  refine pm_stk (st' := [.int (g (7 + 5 * i + 3)), .int 0]) rfl ?_
  refine pm_aload_n B dX13_over_7 rfl ?_
  refine pm_iload_n B dX13_over_8 rfl ?_
  refine pm_iconst (v := 2) B dX13_over_9 (by decide) ?_
  refine pm_cV (As := [.int (nI i), .int (nI 2)]) (mc2 := 0) (ms2 := 0) B rfl hM rfl (c_X13_of (f := f) hM hg (i := i) (w := 2) (by first | assumption | omega) (by first | assumption | omega)) mt_X13_of sv_X13_74 dX13_over_10 rfl rfl rfl rfl rfl ?_
  refine pm_stk (st' := [.int (g (7 + 5 * i + 2)), .int (g (7 + 5 * i + 3)), .int 0]) rfl ?_
  refine pm_isub B dX13_over_13 ?_
  refine pm_mmax B dX13_over_14 (pm_T_in 1805 (by decide +kernel) (by decide +kernel)) rfl rfl rfl rfl ?_
  exact pm_ireturn B dX13_over_17 rfl (by first | rfl | (apply pm_nz; first | assumption | decide | exact pm_in01 _ _ _ | simp)) ⟨rfl, rfl, rfl⟩ rfl rfl
set_option maxRecDepth 100000 in
set_option maxHeartbeats 4000000 in
theorem c_X13_thrown {l : Launch} {z : Nat} {D : va_G} {kA : Nat → ClassId} {kE : Nat → Nat} {nx : Nat} {M : pm_M} {m0 : Nat} {f : Nat → Int32} (hM : M m0 = some (pm_mo z m0 f)) : pm_C l z D kA kE yX13_thrown cX13_thrown 1 (some .int) 0 0 0 [.ref (z + m0)] nx M (pm_rt (some (.int (f 6))) nx M) := by
  refine pm_mk (own := RX13) (nm := "thrown") mt_X13_thrown rfl rfl rfl rfl fun X B => ?_
  refine pm_loc (L' := [some (.ref (z + m0))]) rfl ?_
  refine pm_aload_n B dX13_thrown_0 rfl ?_
  refine pm_get B dX13_thrown_1 fl_X13_39 hM rfl ?_
  exact pm_ireturn B dX13_thrown_4 rfl (by first | rfl | (apply pm_nz; first | assumption | decide | exact pm_in01 _ _ _ | simp)) ⟨rfl, rfl, rfl⟩ rfl rfl
