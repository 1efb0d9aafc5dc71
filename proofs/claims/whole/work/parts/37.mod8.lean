/-! ThunderCartelModel: texts -/
/-- the text's fields: its length t, the place, whether it is wrong -/
def pm_tx (t : Nat) (f : Nat → Int32) : Prop := f 16 = nI (pm_n (f 16)) ∧ pm_n (f 16) ≤ t ∧ f 15 = nI t ∧ (f 17 = 0 ∨ f 17 = 1)
theorem pm_tx_o {t k : Nat} {f : Nat → Int32} {v : Int32} (hk : k ≠ 15 ∧ k ≠ 16 ∧ k ≠ 17) (h : pm_tx t f) : pm_tx t (upd f k v) := by
  unfold pm_tx
  rw [pk_un (Ne.symm hk.1), pk_un (Ne.symm hk.2.1), pk_un (Ne.symm hk.2.2)]
  exact h
theorem pm_tx_17 {t : Nat} {f : Nat → Int32} {v : Int32} (h : pm_tx t f) (hv : v = 0 ∨ v = 1) : pm_tx t (upd f 17 v) := by
  unfold pm_tx
  rw [pk_un (by decide), pk_un (by decide), pk_us]
  exact ⟨h.1, h.2.1, h.2.2.1, hv⟩
theorem pm_tx_16 {t b : Nat} {f : Nat → Int32} (h : pm_tx t f) (ht : t ≤ 60) (hb : b ≤ t) : pm_tx t (upd f 16 (nI b)) := by
  unfold pm_tx
  rw [pk_us, pm_n_nI (by omega), pk_un (by decide), pk_un (by decide)]
  exact ⟨rfl, hb, h.2.2.1, h.2.2.2⟩
theorem pm_fz {x : Int32} (h : x = 0 ∨ x = 1) : fits .boolean (.int x) = true := by
  rcases h with rfl | rfl <;> rfl
/-- the signs of a text -/
abbrev pm_sb (bs : List Nat) : Prop := bs.all (fun b => decide (b < 128)) = true ∧ bs.length < 60
theorem pm_sb_at {bs : List Nat} (h : pm_sb bs) (i : Nat) : bs.getD i 0 < 256 := by
  rw [List.getD_eq_getElem?_getD]
  cases hi : bs[i]? with
  | none => simp
  | some b =>
    have := List.all_eq_true.mp h.1 b (List.mem_of_getElem? hi)
    simp at this ⊢
    omega
def d_X13_feed (x : Int32) (t : Nat) (f : Nat → Int32) (gt : Nat → Int32) : (Int32 × (Nat → Int32) × (Nat → Int32)) := if (nI t) = 60 then (0, (upd f 6 1), gt) else ((nI (t + 1)), (upd (upd f 6 0) 15 (nI (t + 1))), (upd gt t (vp_nar .char x)))
set_option maxRecDepth 100000 in
set_option maxHeartbeats 8000000 in
theorem c_X13_feed {l : Launch} {z : Nat} {D : va_G} {kA : Nat → ClassId} {kE : Nat → Nat} {nx : Nat} {M : pm_M} {x : Int32} {t : Nat}{m0 : Nat} {f : Nat → Int32} {gt : Nat → Int32} (hM : M m0 = some (pm_mo z m0 f)) (hgt : M (m0 + 6) = some (.inl (kA 3, 60, .inl gt))) (htx : pm_tx t f) (ht : t ≤ 60) : pm_C l z D kA kE yX13_feed cX13_feed 2 (some .int) 0 0 0 [.ref (z + m0), .int x] nx M (pm_rt (some (.int ((d_X13_feed x t f gt).1))) nx (pm_up (pm_up M m0 (pm_mo z m0 ((d_X13_feed x t f gt).2.1))) (m0 + 6) (.inl (kA 3, 60, .inl ((d_X13_feed x t f gt).2.2))))) := by
  refine pm_mk (own := RX13) (nm := "feed") mt_X13_feed rfl rfl rfl rfl fun X B => ?_
  refine pm_loc (L' := [some (.ref (z + m0)), some (.int x)]) rfl ?_
  refine pm_mem (M' := pm_up (pm_up M m0 (pm_mo z m0 f)) (m0 + 6) (.inl (kA 3, 60, .inl gt))) (by rw [pm_up_id hM, pm_up_id hgt]) ?_
  refine pm_aload_n B dX13_feed_0 rfl ?_
  refine pm_aload_n B dX13_feed_1 rfl ?_
  refine pm_get B dX13_feed_2 fl_X13_205 ((pm_up_n (by omega)).trans pm_up_s) rfl ?_
  refine pm_stk (st' := [.int (nI t), .ref (z + m0)]) (by rw [show (f 15) = (nI t) from (htx.2.2.1)]) ?_
  refine pm_bipush (v := 60) B dX13_feed_5 (by decide) ?_
  refine pm_icmp_ne (tgt := 14) B dX13_feed_7 (by decide) (fun hq1 => ?_) (fun hq1 => ?_)
  · have ht6 : t < 60 := by have h := hq1; rw [show (60 : Int32) = nI 60 from rfl, nI_eq (by omega) (by decide)] at h; omega
    refine pm_iconst (v := 0) B dX13_feed_14 (by decide) ?_
    refine pm_put B dX13_feed_15 fs_X13_39 ((pm_up_n (by omega)).trans pm_up_s) rfl rfl rfl ?_
    refine pm_mem (M' := pm_up (pm_up (pm_up M m0 (pm_mo z m0 f)) (m0 + 6) (.inl (kA 3, 60, .inl gt))) m0 (pm_mo z m0 (upd f 6 0))) rfl ?_
    refine pm_mem (M' := pm_up (pm_up M m0 (pm_mo z m0 (upd f 6 0))) (m0 + 6) (.inl (kA 3, 60, .inl gt))) (by rw [pm_up_sw (a := m0 + 6) (b := m0) (by omega), pm_up_up]) ?_
    refine pm_aload_n B dX13_feed_18 rfl ?_
    refine pm_get B dX13_feed_19 fl_X13_39 ((pm_up_n (by omega)).trans pm_up_s) rfl ?_
    refine pm_stk (st' := [.int 0]) rfl ?_
    refine pm_if_le (tgt := 27) B dX13_feed_22 (by decide) (fun hq2 => ?_) (fun hq2 => absurd (by decide) hq2)
    refine pm_aload_n B dX13_feed_27 rfl ?_
    refine pm_get B dX13_feed_28 fl_X13_25 ((pm_up_n (by omega)).trans pm_up_s) rfl ?_
    refine pm_stk (st' := [.ref (z + (m0 + 6))]) rfl ?_
    refine pm_aload_n B dX13_feed_31 rfl ?_
    refine pm_get B dX13_feed_32 fl_X13_205 ((pm_up_n (by omega)).trans pm_up_s) rfl ?_
    refine pm_stk (st' := [.int (f 15), .ref (z + (m0 + 6))]) rfl ?_
    refine pm_stk (st' := [.int (nI t), .ref (z + (m0 + 6))]) (by rw [show (f 15) = (nI t) from (htx.2.2.1)]) ?_
    refine pm_iload_n B dX13_feed_35 rfl ?_
    refine pm_cast_n B dX13_feed_36 pm_up_s t (by first | assumption | omega) (by decide) ?_
    refine pm_mem (M' := pm_up (pm_up M m0 (pm_mo z m0 (upd f 6 0))) (m0 + 6) (.inl (kA 3, 60, .inl (upd gt t (vp_nar .char x))))) pm_up_up ?_
    refine pm_aload_n B dX13_feed_37 rfl ?_
    refine pm_dup B dX13_feed_38 rfl ?_
    refine pm_get B dX13_feed_39 fl_X13_205 ((pm_up_n (by omega)).trans pm_up_s) rfl ?_
    refine pm_stk (st' := [.int (f 15), .ref (z + m0)]) rfl ?_
    refine pm_stk (st' := [.int (nI t), .ref (z + m0)]) (by rw [show (f 15) = (nI t) from (htx.2.2.1)]) ?_
    refine pm_iconst (v := 1) B dX13_feed_42 (by decide) ?_
    refine pm_iadd B dX13_feed_43 ?_
    refine pm_stk (st' := [.int (nI (t + 1)), .ref (z + m0)]) (by rw [show ((nI t) + 1) = (nI (t + 1)) from (by rw [show (nI t) = nI t from rfl, show 1 = nI 1 from rfl, nI_add])]) ?_
    refine pm_put B dX13_feed_44 fs_X13_205 ((pm_up_n (by omega)).trans pm_up_s) rfl rfl rfl ?_
    refine pm_mem (M' := pm_up (pm_up (pm_up M m0 (pm_mo z m0 (upd f 6 0))) (m0 + 6) (.inl (kA 3, 60, .inl (upd gt t (vp_nar .char x))))) m0 (pm_mo z m0 (upd (upd f 6 0) 15 (nI (t + 1))))) rfl ?_
    refine pm_mem (M' := pm_up (pm_up M m0 (pm_mo z m0 (upd (upd f 6 0) 15 (nI (t + 1))))) (m0 + 6) (.inl (kA 3, 60, .inl (upd gt t (vp_nar .char x))))) (by rw [pm_up_sw (a := m0 + 6) (b := m0) (by omega), pm_up_up]) ?_
    refine pm_aload_n B dX13_feed_47 rfl ?_
    refine pm_get B dX13_feed_48 fl_X13_205 ((pm_up_n (by omega)).trans pm_up_s) rfl ?_
    refine pm_stk (st' := [.int (nI (t + 1))]) rfl ?_
    have hDq3 : (d_X13_feed x t f gt) = ((nI (t + 1)), (upd (upd f 6 0) 15 (nI (t + 1))), (upd gt t (vp_nar .char x))) := by rw [d_X13_feed, if_neg hq1]
    exact pm_ireturn B dX13_feed_51 rfl (by first | rfl | (apply pm_nz; first | assumption | decide | exact pm_in01 _ _ _ | simp)) ⟨(by rw [hDq3]), rfl, by rw [hDq3]⟩ rfl rfl
  · refine pm_iconst (v := 1) B dX13_feed_10 (by decide) ?_
    refine pm_goto (tgt := 15) B dX13_feed_11 (by decide) ?_
    refine pm_put B dX13_feed_15 fs_X13_39 ((pm_up_n (by omega)).trans pm_up_s) rfl rfl rfl ?_
    refine pm_mem (M' := pm_up (pm_up (pm_up M m0 (pm_mo z m0 f)) (m0 + 6) (.inl (kA 3, 60, .inl gt))) m0 (pm_mo z m0 (upd f 6 1))) rfl ?_
    refine pm_mem (M' := pm_up (pm_up M m0 (pm_mo z m0 (upd f 6 1))) (m0 + 6) (.inl (kA 3, 60, .inl gt))) (by rw [pm_up_sw (a := m0 + 6) (b := m0) (by omega), pm_up_up]) ?_
    refine pm_aload_n B dX13_feed_18 rfl ?_
    refine pm_get B dX13_feed_19 fl_X13_39 ((pm_up_n (by omega)).trans pm_up_s) rfl ?_
    refine pm_stk (st' := [.int 1]) rfl ?_
    refine pm_if_le (tgt := 27) B dX13_feed_22 (by decide) (fun hq4 => absurd hq4 (by decide)) (fun hq4 => ?_)
    refine pm_iconst (v := 0) B dX13_feed_25 (by decide) ?_
    have hDq5 : (d_X13_feed x t f gt) = (0, (upd f 6 1), gt) := by rw [d_X13_feed, if_pos hq1]
    exact pm_ireturn B dX13_feed_26 rfl (by first | rfl | (apply pm_nz; first | assumption | decide | exact pm_in01 _ _ _ | simp)) ⟨(by rw [hDq5]), rfl, by rw [hDq5]⟩ rfl rfl
def d_X13_behind (w : Nat) (t : Nat) (f : Nat → Int32) (gt : Nat → Int32) : Int32 := if (nI t) ≤ ((nI (pm_n (f 16))) + (nI w)) then (-1) else (gt ((pm_n (f 16)) + w))
set_option maxRecDepth 100000 in
set_option maxHeartbeats 8000000 in
theorem c_X13_behind {l : Launch} {z : Nat} {D : va_G} {kA : Nat → ClassId} {kE : Nat → Nat} {nx : Nat} {M : pm_M} {w : Nat} {t : Nat}{m0 : Nat} {f : Nat → Int32} {gt : Nat → Int32} (hM : M m0 = some (pm_mo z m0 f)) (hgt : M (m0 + 6) = some (.inl (kA 3, 60, .inl gt))) (htx : pm_tx t f) (ht : t ≤ 60) (hw : w ≤ 2) : pm_C l z D kA kE yX13_behind cX13_behind 2 (some .int) 0 0 0 [.ref (z + m0), .int (nI w)] nx M (pm_rt (some (.int (d_X13_behind w t f gt))) nx M) := by
  refine pm_mk (own := RX13) (nm := "behind") mt_X13_behind rfl rfl rfl rfl fun X B => ?_
  refine pm_loc (L' := [some (.ref (z + m0)), some (.int (nI w))]) rfl ?_
  have htl := htx.2.1
  refine pm_aload_n B dX13_behind_0 rfl ?_
  refine pm_get B dX13_behind_1 fl_X13_208 hM rfl ?_
  refine pm_stk (st' := [.int (nI (pm_n (f 16)))]) (congrArg (fun yy : Int32 => ([.int yy] : List Value)) (show (f 16) = (nI (pm_n (f 16))) from (htx.1))) ?_
  refine pm_iload_n B dX13_behind_4 rfl ?_
  refine pm_iadd B dX13_behind_5 ?_
  refine pm_aload_n B dX13_behind_6 rfl ?_
  refine pm_get B dX13_behind_7 fl_X13_205 hM rfl ?_
  refine pm_stk (st' := [.int (nI t), .int ((nI (pm_n (f 16))) + (nI w))]) (by rw [show (f 15) = (nI t) from (htx.2.2.1)]) ?_
  refine pm_icmp_ge (tgt := 27) B dX13_behind_10 (by decide) (fun hq1 => ?_) (fun hq1 => ?_)
  · refine pm_iconst (v := (-1)) B dX13_behind_27 (by decide) ?_
    have hDq2 : (d_X13_behind w t f gt) = (-1) := by rw [d_X13_behind, if_pos hq1]
    exact pm_ireturn B dX13_behind_28 rfl (by first | rfl | (apply pm_nz; first | assumption | decide | exact pm_in01 _ _ _ | simp)) ⟨(by rw [hDq2]), rfl, rfl⟩ rfl rfl
  · have hbt : pm_n (f 16) + w < t := by have hh := hq1; rw [nI_add, nI_leI (by omega) (by have := htx.2.1; omega)] at hh; omega
    refine pm_aload_n B dX13_behind_13 rfl ?_
    refine pm_get B dX13_behind_14 fl_X13_25 hM rfl ?_
    refine pm_aload_n B dX13_behind_17 rfl ?_
    refine pm_get B dX13_behind_18 fl_X13_208 hM rfl ?_
    refine pm_stk (st' := [.int (nI (pm_n (f 16))), .ref (z + (m0 + 6))]) (congrArg (fun yy : Int32 => ([.int yy, .ref (z + (m0 + 6))] : List Value)) (show (f 16) = (nI (pm_n (f 16))) from (htx.1))) ?_
    refine pm_iload_n B dX13_behind_21 rfl ?_
    refine pm_iadd B dX13_behind_22 ?_
    refine pm_stk (st' := [.int (nI ((pm_n (f 16)) + w)), .ref (z + (m0 + 6))]) (by rw [show ((nI (pm_n (f 16))) + (nI w)) = (nI ((pm_n (f 16)) + w)) from (by rw [show (nI (pm_n (f 16))) = nI (pm_n (f 16)) from rfl, show (nI w) = nI w from rfl, nI_add])]) ?_
    refine pm_cald_n B dX13_behind_23 hgt ((pm_n (f 16)) + w) (by first | assumption | omega) (by decide) ?_
    refine pm_goto (tgt := 28) B dX13_behind_24 (by decide) ?_
    have hDq3 : (d_X13_behind w t f gt) = (gt ((pm_n (f 16)) + w)) := by rw [d_X13_behind, if_neg hq1]
    exact pm_ireturn B dX13_behind_28 rfl (by first | rfl | (apply pm_nz; first | assumption | decide | exact pm_in01 _ _ _ | simp)) ⟨(by rw [hDq3]), rfl, rfl⟩ rfl rfl
theorem d_X13_behind_lt {w t : Nat} {f gt : Nat → Int32} {c : Nat} (htx : pm_tx t f) (ht : t ≤ 60) (hw : w ≤ 2) (hc : c < 2 ^ 31) (h : d_X13_behind w t f gt = nI c) : pm_n (f 16) + w < t := by
  have htl := htx.2.1
  unfold d_X13_behind at h
  split at h
  · exact absurd h (fun e => absurd (show nI c < 0 from e ▸ by decide) (nI_pos hc))
  · rename_i h2
    rw [nI_add, nI_leI (by omega) (by omega)] at h2
    omega
def d_X13_isDigit (t : Nat) (f : Nat → Int32) (gt : Nat → Int32) : Int32 := if (f 17) = 0 then (if (pm_in (d_X13_behind 0 t f gt) 48 57) = 0 then 0 else 1) else 0
set_option maxRecDepth 100000 in
set_option maxHeartbeats 8000000 in
theorem c_X13_isDigit {l : Launch} {z : Nat} {D : va_G} {kA : Nat → ClassId} {kE : Nat → Nat} {nx : Nat} {M : pm_M} {t : Nat}{m0 : Nat} {f : Nat → Int32} {gt : Nat → Int32} (hM : M m0 = some (pm_mo z m0 f)) (hgt : M (m0 + 6) = some (.inl (kA 3, 60, .inl gt))) (htx : pm_tx t f) (ht : t ≤ 60) : pm_C l z D kA kE yX13_isDigit cX13_isDigit 1 (some .boolean) 1 0 0 [.ref (z + m0)] nx M (pm_rt (some (.int (d_X13_isDigit t f gt))) nx M) := by
  refine pm_mk (own := RX13) (nm := "isDigit") mt_X13_isDigit rfl rfl rfl rfl fun X B => ?_
  refine pm_loc (L' := [some (.ref (z + m0))]) rfl ?_
  refine pm_aload_n B dX13_isDigit_0 rfl ?_
  refine pm_get B dX13_isDigit_1 fl_X13_215 hM rfl ?_
  refine pm_if_ne (tgt := 26) B dX13_isDigit_4 (by decide) (fun hq1 => ?_) (fun hq1 => ?_)
  · refine pm_iconst (v := 0) B dX13_isDigit_26 (by decide) ?_
    have hDq2 : (d_X13_isDigit t f gt) = 0 := by rw [d_X13_isDigit, if_neg hq1]
    exact pm_ireturn B dX13_isDigit_27 rfl (by first | rfl | (apply pm_nz; first | assumption | decide | exact pm_in01 _ _ _ | simp)) ⟨(by rw [hDq2]), rfl, rfl⟩ rfl rfl
  · refine pm_aload_n B dX13_isDigit_7 rfl ?_
    refine pm_iconst (v := 0) B dX13_isDigit_8 (by decide) ?_
    refine pm_cV (As := [.int (nI 0)]) (mc2 := 0) (ms2 := 0) B rfl hM rfl (c_X13_behind (w := 0) (t := t) (f := f) (gt := gt) hM hgt htx (by first | assumption | omega) (by first | assumption | decide | omega)) mt_X13_behind sv_X13_219 dX13_isDigit_9 rfl rfl rfl rfl rfl ?_
    refine pm_stk (st' := [.int (d_X13_behind 0 t f gt)]) rfl ?_
    refine pm_bipush (v := 48) B dX13_isDigit_12 (by decide) ?_
    refine pm_bipush (v := 57) B dX13_isDigit_14 (by decide) ?_
    refine pm_cS (As := [.int (d_X13_behind 0 t f gt), .int 48, .int 57]) (mc2 := 0) (ms2 := 0) B c_X13_in mt_X13_in ss_X13_70 dX13_isDigit_16 rfl rfl rfl rfl rfl ?_
    refine pm_stk (st' := [.int (pm_in (d_X13_behind 0 t f gt) 48 57)]) rfl ?_
    refine pm_if_eq (tgt := 26) B dX13_isDigit_19 (by decide) (fun hq3 => ?_) (fun hq3 => ?_)
    · refine pm_iconst (v := 0) B dX13_isDigit_26 (by decide) ?_
      have hDq4 : (d_X13_isDigit t f gt) = 0 := by rw [d_X13_isDigit, if_pos hq1, if_pos hq3]
      exact pm_ireturn B dX13_isDigit_27 rfl (by first | rfl | (apply pm_nz; first | assumption | decide | exact pm_in01 _ _ _ | simp)) ⟨(by rw [hDq4]), rfl, rfl⟩ rfl rfl
    · refine pm_iconst (v := 1) B dX13_isDigit_22 (by decide) ?_
      refine pm_goto (tgt := 27) B dX13_isDigit_23 (by decide) ?_
      have hDq5 : (d_X13_isDigit t f gt) = 1 := by rw [d_X13_isDigit, if_pos hq1, if_neg hq3]
      exact pm_ireturn B dX13_isDigit_27 rfl (by first | rfl | (apply pm_nz; first | assumption | decide | exact pm_in01 _ _ _ | simp)) ⟨(by rw [hDq5]), rfl, rfl⟩ rfl rfl
theorem d_X13_isDigit_lt {t : Nat} {f gt : Nat → Int32} (htx : pm_tx t f) (ht : t ≤ 60) (h : ¬ d_X13_isDigit t f gt = 0) : pm_n (f 16) < t := by
  have htl := htx.2.1
  apply Decidable.byContradiction
  intro hn
  apply h
  unfold d_X13_isDigit
  have hb : d_X13_behind 0 t f gt = -1 := by
    unfold d_X13_behind
    rw [if_pos (by rw [nI_add, nI_leI (by omega) (by omega)]; omega)]
  split
  · rw [hb, if_pos (by decide)]
  · rfl
def d_X13_readsNumber_L1 (t : Nat) (gt : Nat → Int32) : Nat → Nat → Int32 → (Nat → Int32) → (Int32 × (Nat → Int32))
  | 0, _, a2_1, f_1 => (a2_1, f_1)
  | k1 + 1, j1, a2_1, f_1 => if (d_X13_isDigit t f_1 gt) = 0 then (a2_1, f_1) else (d_X13_readsNumber_L1 t gt k1 (j1 + 1) (((10 * a2_1) + (gt (pm_n (f_1 16)))) - 48) (upd f_1 16 (nI ((pm_n (f_1 16)) + 1))))
def d_X13_readsNumber (w : Nat) (t : Nat) (f : Nat → Int32) (gt : Nat → Int32) : (Int32 × (Nat → Int32)) := (((d_X13_readsNumber_L1 t gt w 0 0 (upd f 17 ((if (f 17) = 0 then (if (d_X13_isDigit t f gt) = 0 then 1 else 0) else 1) : Int32))).1), ((d_X13_readsNumber_L1 t gt w 0 0 (upd f 17 ((if (f 17) = 0 then (if (d_X13_isDigit t f gt) = 0 then 1 else 0) else 1) : Int32))).2))
set_option maxRecDepth 100000 in
set_option maxHeartbeats 8000000 in
theorem c_X13_readsNumber {l : Launch} {z : Nat} {D : va_G} {kA : Nat → ClassId} {kE : Nat → Nat} {nx : Nat} {M : pm_M} {w : Nat} {t : Nat}{m0 : Nat} {f : Nat → Int32} {gt : Nat → Int32} (hM : M m0 = some (pm_mo z m0 f)) (hgt : M (m0 + 6) = some (.inl (kA 3, 60, .inl gt))) (htx : pm_tx t f) (ht : t ≤ 60) (hw : w ≤ 4) : pm_C l z D kA kE yX13_readsNumber cX13_readsNumber 4 (some .int) 2 0 0 [.ref (z + m0), .int (nI w)] nx M (pm_rt (some (.int ((d_X13_readsNumber w t f gt).1))) nx (pm_up M m0 (pm_mo z m0 ((d_X13_readsNumber w t f gt).2)))) := by
  refine pm_mk (own := RX13) (nm := "readsNumber") mt_X13_readsNumber rfl rfl rfl rfl fun X B => ?_
  refine pm_loc (L' := [some (.ref (z + m0)), some (.int (nI w)), none, none]) rfl ?_
  refine pm_mem (M' := pm_up M m0 (pm_mo z m0 f)) (by rw [pm_up_id hM]) ?_
  refine pm_aload_n B dX13_readsNumber_0 rfl ?_
  refine pm_aload_n B dX13_readsNumber_1 rfl ?_
  suffices hj1 : pm_G l z D X 0 0 (pm_Q z D (pm_rt (some (.int ((d_X13_readsNumber w t f gt).1))) nx (pm_up M m0 (pm_mo z m0 ((d_X13_readsNumber w t f gt).2)))) 0 0 X) nx (pm_up M m0 (pm_mo z m0 f)) 20 [some (.ref (z + m0)), some (.int (nI w)), none, none] [.int ((if (f 17) = 0 then (if (d_X13_isDigit t f gt) = 0 then 1 else 0) else 1) : Int32), .ref (z + m0)] by
    refine pm_get B dX13_readsNumber_2 fl_X13_215 pm_up_s rfl ?_
    refine pm_if_ne (tgt := 15) B dX13_readsNumber_5 (by decide) (fun hq2 => ?_) (fun hq2 => ?_)
    · refine pm_iconst (v := 1) B dX13_readsNumber_15 (by decide) ?_
      refine pm_goto (tgt := 20) B dX13_readsNumber_16 (by decide) ?_
      exact pm_stk (st' := .int ((if (f 17) = 0 then (if (d_X13_isDigit t f gt) = 0 then 1 else 0) else 1) : Int32) :: [.ref (z + m0)]) (by rw [show ((if (f 17) = 0 then (if (d_X13_isDigit t f gt) = 0 then 1 else 0) else 1) : Int32) = 1 from by rw [if_neg hq2]]) hj1
    · refine pm_aload_n B dX13_readsNumber_8 rfl ?_
      refine pm_cV (As := []) (mc2 := 0) (ms2 := 0) B rfl pm_up_s rfl (c_X13_isDigit (t := t) (f := f) (gt := gt) pm_up_s ((pm_up_n (by omega)).trans hgt) htx (by first | assumption | omega)) mt_X13_isDigit sv_X13_226 dX13_readsNumber_9 rfl rfl rfl rfl rfl ?_
      refine pm_stk (st' := [.int (d_X13_isDigit t f gt), .ref (z + m0)]) rfl ?_
      refine pm_if_ne (tgt := 19) B dX13_readsNumber_12 (by decide) (fun hq3 => ?_) (fun hq3 => ?_)
      · have hlt : pm_n (f 16) < t := by have hh := d_X13_isDigit_lt htx ht hq3; first | exact hh | simpa [upd] using hh
        refine pm_iconst (v := 0) B dX13_readsNumber_19 (by decide) ?_
        exact pm_stk (st' := .int ((if (f 17) = 0 then (if (d_X13_isDigit t f gt) = 0 then 1 else 0) else 1) : Int32) :: [.ref (z + m0)]) (by rw [show ((if (f 17) = 0 then (if (d_X13_isDigit t f gt) = 0 then 1 else 0) else 1) : Int32) = 0 from by rw [if_pos hq2, if_neg hq3]]) hj1
      · refine pm_iconst (v := 1) B dX13_readsNumber_15 (by decide) ?_
        refine pm_goto (tgt := 20) B dX13_readsNumber_16 (by decide) ?_
        exact pm_stk (st' := .int ((if (f 17) = 0 then (if (d_X13_isDigit t f gt) = 0 then 1 else 0) else 1) : Int32) :: [.ref (z + m0)]) (by rw [show ((if (f 17) = 0 then (if (d_X13_isDigit t f gt) = 0 then 1 else 0) else 1) : Int32) = 1 from by rw [if_pos hq2, if_pos hq3]]) hj1
  refine pm_put B dX13_readsNumber_20 fs_X13_215 pm_up_s (pm_nz (by first | assumption | decide | exact pm_in01 _ _ _ | ((repeat' split) <;> first | exact Or.inl rfl | exact Or.inr rfl | assumption))) (pm_fz (by first | assumption | decide | exact pm_in01 _ _ _ | ((repeat' split) <;> first | exact Or.inl rfl | exact Or.inr rfl | assumption))) rfl ?_
  refine pm_mem (M' := pm_up M m0 (pm_mo z m0 (upd f 17 ((if (f 17) = 0 then (if (d_X13_isDigit t f gt) = 0 then 1 else 0) else 1) : Int32)))) pm_up_up ?_
  refine pm_iconst (v := 0) B dX13_readsNumber_23 (by decide) ?_
  refine pm_istore_n B dX13_readsNumber_24 rfl rfl ?_
  refine pm_loc (L' := [some (.ref (z + m0)), some (.int (nI w)), some (.int 0), none]) rfl ?_
  refine pm_iconst (v := 0) B dX13_readsNumber_25 (by decide) ?_
  refine pm_istore_n B dX13_readsNumber_26 rfl rfl ?_
  refine pm_loc (L' := [some (.ref (z + m0)), some (.int (nI w)), some (.int 0), some (.int 0)]) rfl ?_
  refine pm_loc (L' := [some (.ref (z + m0)), some (.int (nI w)), some (.int 0), some (.int (nI 0))]) rfl ?_
  have loop1 : ∀ (K1 : (Int32 → (Nat → Int32) → (Int32 × (Nat → Int32)))), (∀ (a2_1 : Int32) (f_1 : (Nat → Int32)), (htx_1 : pm_tx t f_1) → pm_G l z D X 0 0 (pm_Q z D (pm_rt (some (.int ((K1 a2_1 f_1).1))) nx (pm_up M m0 (pm_mo z m0 ((K1 a2_1 f_1).2)))) 0 0 X) nx (pm_up M m0 (pm_mo z m0 f_1)) 73 [none, none, some (.int a2_1), none] []) → ∀ (k1 j1 : Nat), j1 + k1 = w → ∀ (a2_1 : Int32) (f_1 : (Nat → Int32)), (htx_1 : pm_tx t f_1) → pm_G l z D X 0 0 (pm_Q z D (pm_rt (some (.int ((K1 ((d_X13_readsNumber_L1 t gt k1 j1 a2_1 f_1).1) ((d_X13_readsNumber_L1 t gt k1 j1 a2_1 f_1).2)).1))) nx (pm_up M m0 (pm_mo z m0 ((K1 ((d_X13_readsNumber_L1 t gt k1 j1 a2_1 f_1).1) ((d_X13_readsNumber_L1 t gt k1 j1 a2_1 f_1).2)).2)))) 0 0 X) nx (pm_up M m0 (pm_mo z m0 f_1)) 27 [some (.ref (z + m0)), some (.int (nI w)), some (.int a2_1), some (.int (nI j1))] [] := by
    intro K1 hK1 k1
    induction k1 with
    | zero =>
      intro j1 hj1 a2_1 f_1 htx_1
      have hjn1 : j1 = w := by omega
      refine pm_iload_n B dX13_readsNumber_27 rfl ?_
      refine pm_iload_n B dX13_readsNumber_28 rfl ?_
      refine pm_icmp_ge (tgt := 73) B dX13_readsNumber_29 (by decide) (fun hq4 => ?_) (fun hq4 => absurd ((nI_leI (by first | omega | decide) (by first | omega | decide)).mpr (by omega)) hq4)
      refine pm_wk (L' := [none, none, some (.int a2_1), none]) ⟨rfl, trivial⟩ ?_
      have hDq5 : (K1 ((d_X13_readsNumber_L1 t gt 0 j1 a2_1 f_1).1) ((d_X13_readsNumber_L1 t gt 0 j1 a2_1 f_1).2)) = (K1 a2_1 f_1) := by rw [d_X13_readsNumber_L1]
      refine pm_pst (post' := pm_rt (some (.int ((K1 a2_1 f_1).1))) nx (pm_up M m0 (pm_mo z m0 ((K1 a2_1 f_1).2)))) (by rw [hDq5]) ?_
      exact hK1 a2_1 f_1 (htx_1)
    | succ k1 ih1 =>
      intro j1 hj1 a2_1 f_1 htx_1
      have hjn1 : j1 < w := by omega
      refine pm_iload_n B dX13_readsNumber_27 rfl ?_
      refine pm_iload_n B dX13_readsNumber_28 rfl ?_
      refine pm_icmp_ge (tgt := 73) B dX13_readsNumber_29 (by decide) (fun hq6 => absurd hq6 (fun e => absurd ((nI_leI (by first | omega | decide) (by first | omega | decide)).mp e) (by omega))) (fun hq6 => ?_)
      refine pm_aload_n B dX13_readsNumber_32 rfl ?_
      refine pm_cV (As := []) (mc2 := 0) (ms2 := 0) B rfl pm_up_s rfl (c_X13_isDigit (t := t) (f := f_1) (gt := gt) pm_up_s ((pm_up_n (by omega)).trans hgt) htx_1 (by first | assumption | omega)) mt_X13_isDigit sv_X13_226 dX13_readsNumber_33 rfl rfl rfl rfl rfl ?_
      refine pm_stk (st' := [.int (d_X13_isDigit t f_1 gt)]) rfl ?_
      refine pm_if_eq (tgt := 73) B dX13_readsNumber_36 (by decide) (fun hq7 => ?_) (fun hq7 => ?_)
      · refine pm_wk (L' := [none, none, some (.int a2_1), none]) ⟨rfl, trivial⟩ ?_
        have hDq8 : (K1 ((d_X13_readsNumber_L1 t gt (k1 + 1) j1 a2_1 f_1).1) ((d_X13_readsNumber_L1 t gt (k1 + 1) j1 a2_1 f_1).2)) = (K1 a2_1 f_1) := by rw [d_X13_readsNumber_L1, if_pos hq7]
        refine pm_pst (post' := pm_rt (some (.int ((K1 a2_1 f_1).1))) nx (pm_up M m0 (pm_mo z m0 ((K1 a2_1 f_1).2)))) (by rw [hDq8]) ?_
        exact hK1 a2_1 f_1 (htx_1)
      · have hlt : pm_n (f_1 16) < t := by have hh := d_X13_isDigit_lt htx_1 ht hq7; first | exact hh | simpa [upd] using hh
        refine pm_bipush (v := 10) B dX13_readsNumber_39 (by decide) ?_
        refine pm_iload_n B dX13_readsNumber_41 rfl ?_
        refine pm_imul B dX13_readsNumber_42 ?_
        refine pm_aload_n B dX13_readsNumber_43 rfl ?_
        refine pm_get B dX13_readsNumber_44 fl_X13_25 pm_up_s rfl ?_
        refine pm_aload_n B dX13_readsNumber_47 rfl ?_
        refine pm_get B dX13_readsNumber_48 fl_X13_208 pm_up_s rfl ?_
        refine pm_stk (st' := [.int (nI (pm_n (f_1 16))), .ref (z + (m0 + 6)), .int (10 * a2_1)]) (congrArg (fun yy : Int32 => ([.int yy, .ref (z + (m0 + 6)), .int (10 * a2_1)] : List Value)) (show (f_1 16) = (nI (pm_n (f_1 16))) from (htx_1.1))) ?_
        refine pm_cald_n B dX13_readsNumber_51 ((pm_up_n (by omega)).trans hgt) (pm_n (f_1 16)) (by first | assumption | omega) (by decide) ?_
        refine pm_iadd B dX13_readsNumber_52 ?_
        refine pm_bipush (v := 48) B dX13_readsNumber_53 (by decide) ?_
        refine pm_isub B dX13_readsNumber_55 ?_
        refine pm_istore_n B dX13_readsNumber_56 rfl rfl ?_
        refine pm_loc (L' := [some (.ref (z + m0)), some (.int (nI w)), some (.int (((10 * a2_1) + (gt (pm_n (f_1 16)))) - 48)), some (.int (nI j1))]) rfl ?_
        refine pm_aload_n B dX13_readsNumber_57 rfl ?_
        refine pm_dup B dX13_readsNumber_58 rfl ?_
        refine pm_get B dX13_readsNumber_59 fl_X13_208 pm_up_s rfl ?_
        refine pm_stk (st' := [.int (nI (pm_n (f_1 16))), .ref (z + m0)]) (congrArg (fun yy : Int32 => ([.int yy, .ref (z + m0)] : List Value)) (show (f_1 16) = (nI (pm_n (f_1 16))) from (htx_1.1))) ?_
        refine pm_iconst (v := 1) B dX13_readsNumber_62 (by decide) ?_
        refine pm_iadd B dX13_readsNumber_63 ?_
        refine pm_stk (st' := [.int (nI ((pm_n (f_1 16)) + 1)), .ref (z + m0)]) (by rw [show ((nI (pm_n (f_1 16))) + 1) = (nI ((pm_n (f_1 16)) + 1)) from (by rw [show (nI (pm_n (f_1 16))) = nI (pm_n (f_1 16)) from rfl, show 1 = nI 1 from rfl, nI_add])]) ?_
        refine pm_put B dX13_readsNumber_64 fs_X13_208 pm_up_s rfl rfl rfl ?_
        refine pm_mem (M' := pm_up M m0 (pm_mo z m0 (upd f_1 16 (nI ((pm_n (f_1 16)) + 1))))) pm_up_up ?_
        refine pm_iinc B dX13_readsNumber_67 rfl rfl rfl ?_
        refine pm_loc (L' := [some (.ref (z + m0)), some (.int (nI w)), some (.int (((10 * a2_1) + (gt (pm_n (f_1 16)))) - 48)), some (.int (nI (j1 + 1)))]) (by rw [show ((nI j1) : Int32) + Int32.ofInt 1 = (nI (j1 + 1)) from nI_1 _]; rfl) ?_
        refine pm_goto (tgt := 27) B dX13_readsNumber_70 (by decide) ?_
        have hDq9 : (K1 ((d_X13_readsNumber_L1 t gt (k1 + 1) j1 a2_1 f_1).1) ((d_X13_readsNumber_L1 t gt (k1 + 1) j1 a2_1 f_1).2)) = (K1 ((d_X13_readsNumber_L1 t gt k1 (j1 + 1) (((10 * a2_1) + (gt (pm_n (f_1 16)))) - 48) (upd f_1 16 (nI ((pm_n (f_1 16)) + 1)))).1) ((d_X13_readsNumber_L1 t gt k1 (j1 + 1) (((10 * a2_1) + (gt (pm_n (f_1 16)))) - 48) (upd f_1 16 (nI ((pm_n (f_1 16)) + 1)))).2)) := by rw [d_X13_readsNumber_L1, if_neg hq7]
        refine pm_pst (post' := pm_rt (some (.int ((K1 ((d_X13_readsNumber_L1 t gt k1 (j1 + 1) (((10 * a2_1) + (gt (pm_n (f_1 16)))) - 48) (upd f_1 16 (nI ((pm_n (f_1 16)) + 1)))).1) ((d_X13_readsNumber_L1 t gt k1 (j1 + 1) (((10 * a2_1) + (gt (pm_n (f_1 16)))) - 48) (upd f_1 16 (nI ((pm_n (f_1 16)) + 1)))).2)).1))) nx (pm_up M m0 (pm_mo z m0 ((K1 ((d_X13_readsNumber_L1 t gt k1 (j1 + 1) (((10 * a2_1) + (gt (pm_n (f_1 16)))) - 48) (upd f_1 16 (nI ((pm_n (f_1 16)) + 1)))).1) ((d_X13_readsNumber_L1 t gt k1 (j1 + 1) (((10 * a2_1) + (gt (pm_n (f_1 16)))) - 48) (upd f_1 16 (nI ((pm_n (f_1 16)) + 1)))).2)).2)))) (by rw [hDq9]) ?_
        exact ih1 (j1 + 1) (by omega) (((10 * a2_1) + (gt (pm_n (f_1 16)))) - 48) (upd f_1 16 (nI ((pm_n (f_1 16)) + 1))) ((pm_tx_16 htx_1 ht (by have h9 := htx_1.2.1; omega)))
  refine pm_pst (post' := pm_rt (some (.int ((((d_X13_readsNumber_L1 t gt w 0 0 (upd f 17 ((if (f 17) = 0 then (if (d_X13_isDigit t f gt) = 0 then 1 else 0) else 1) : Int32))).1), ((d_X13_readsNumber_L1 t gt w 0 0 (upd f 17 ((if (f 17) = 0 then (if (d_X13_isDigit t f gt) = 0 then 1 else 0) else 1) : Int32))).2)).1))) nx (pm_up M m0 (pm_mo z m0 ((((d_X13_readsNumber_L1 t gt w 0 0 (upd f 17 ((if (f 17) = 0 then (if (d_X13_isDigit t f gt) = 0 then 1 else 0) else 1) : Int32))).1), ((d_X13_readsNumber_L1 t gt w 0 0 (upd f 17 ((if (f 17) = 0 then (if (d_X13_isDigit t f gt) = 0 then 1 else 0) else 1) : Int32))).2)).2)))) (by rw [show (d_X13_readsNumber w t f gt) = (((d_X13_readsNumber_L1 t gt w 0 0 (upd f 17 ((if (f 17) = 0 then (if (d_X13_isDigit t f gt) = 0 then 1 else 0) else 1) : Int32))).1), ((d_X13_readsNumber_L1 t gt w 0 0 (upd f 17 ((if (f 17) = 0 then (if (d_X13_isDigit t f gt) = 0 then 1 else 0) else 1) : Int32))).2)) from by rw [d_X13_readsNumber]]) ?_
  refine loop1 (fun (a2_1 : Int32) (f_1 : (Nat → Int32)) => (a2_1, f_1)) ?_ w 0 (by omega) 0 (upd f 17 ((if (f 17) = 0 then (if (d_X13_isDigit t f gt) = 0 then 1 else 0) else 1) : Int32)) ((pm_tx_17 htx (by first | exact Or.inl rfl | exact Or.inr rfl | assumption | ((repeat' split) <;> first | exact Or.inl rfl | exact Or.inr rfl))))
  intro a2_1 f_1 htx_1
  refine pm_pst (post' := pm_rt (some (.int ((a2_1, f_1).1))) nx (pm_up M m0 (pm_mo z m0 ((a2_1, f_1).2)))) rfl ?_
  refine pm_iload_n B dX13_readsNumber_73 rfl ?_
  have hDq10 : ((a2_1, f_1)) = (a2_1, f_1) := rfl
  exact pm_ireturn B dX13_readsNumber_74 rfl (by first | rfl | (apply pm_nz; first | assumption | decide | exact pm_in01 _ _ _ | simp)) ⟨(by rw [hDq10]), rfl, by rw [hDq10]⟩ rfl rfl
def d_X13_skip_L1 (bs : List Nat) (t : Nat) (gt : Nat → Int32) : Nat → Nat → (Nat → Int32) → (Nat → Int32)
  | 0, _, f_1 => f_1
  | k1 + 1, j1, f_1 => if (f_1 17) = 0 then (if (d_X13_behind 0 t f_1 gt) = (nI ((bs).getD j1 0)) then (d_X13_skip_L1 bs t gt k1 (j1 + 1) (upd (upd f_1 17 0) 16 (nI ((pm_n (f_1 16)) + 1)))) else (d_X13_skip_L1 bs t gt k1 (j1 + 1) (upd (upd f_1 17 1) 16 (nI ((pm_n (f_1 16)) + 0))))) else f_1
def d_X13_skip (bs : List Nat) (t : Nat) (f : Nat → Int32) (gt : Nat → Int32) : (Nat → Int32) := (d_X13_skip_L1 bs t gt bs.length 0 f)
set_option maxRecDepth 100000 in
set_option maxHeartbeats 8000000 in
theorem c_X13_skip {l : Launch} {z : Nat} {D : va_G} {kA : Nat → ClassId} {kE : Nat → Nat} {nx : Nat} {M : pm_M} {bs : List Nat} {t : Nat} {s : Nat} {v : Nat}{m0 : Nat} {f : Nat → Int32} {gt : Nat → Int32} (hM : M m0 = some (pm_mo z m0 f)) (hgt : M (m0 + 6) = some (.inl (kA 3, 60, .inl gt))) (htx : pm_tx t f) (ht : t ≤ 60) (hZ : ∀ U H, pm_Kx z kE U H → pm_Str z bs s v U H) (hsb : pm_sb bs) : pm_C l z D kA kE yX13_skip cX13_skip 3 none 4 0 0 [.ref (z + m0), .ref s] nx M (pm_rt none nx (pm_up M m0 (pm_mo z m0 (d_X13_skip bs t f gt)))) := by
  refine pm_mk (own := RX13) (nm := "skip") mt_X13_skip rfl rfl rfl rfl fun X B => ?_
  refine pm_loc (L' := [some (.ref (z + m0)), some (.ref s), none]) rfl ?_
  refine pm_mem (M' := pm_up M m0 (pm_mo z m0 f)) (by rw [pm_up_id hM]) ?_
  have hsl := hsb.2
  refine pm_iconst (v := 0) B dX13_skip_0 (by decide) ?_
  refine pm_istore_n B dX13_skip_1 rfl rfl ?_
  refine pm_loc (L' := [some (.ref (z + m0)), some (.ref s), some (.int 0)]) rfl ?_
  refine pm_loc (L' := [some (.ref (z + m0)), some (.ref s), some (.int (nI 0))]) rfl ?_
  have loop1 : ∀ (K1 : ((Nat → Int32) → (Nat → Int32))), (∀ (f_1 : (Nat → Int32)), (htx_1 : pm_tx t f_1) → pm_G l z D X 0 0 (pm_Q z D (pm_rt none nx (pm_up M m0 (pm_mo z m0 (K1 f_1)))) 0 0 X) nx (pm_up M m0 (pm_mo z m0 f_1)) 66 [none, none, none] []) → ∀ (k1 j1 : Nat), j1 + k1 = bs.length → ∀ (f_1 : (Nat → Int32)), (htx_1 : pm_tx t f_1) → pm_G l z D X 0 0 (pm_Q z D (pm_rt none nx (pm_up M m0 (pm_mo z m0 (K1 (d_X13_skip_L1 bs t gt k1 j1 f_1))))) 0 0 X) nx (pm_up M m0 (pm_mo z m0 f_1)) 2 [some (.ref (z + m0)), some (.ref s), some (.int (nI j1))] [] := by
    intro K1 hK1 k1
    induction k1 with
    | zero =>
      intro j1 hj1 f_1 htx_1
      have hjn1 : j1 = bs.length := by omega
      refine pm_iload_n B dX13_skip_2 rfl ?_
      refine pm_aload_n B dX13_skip_3 rfl ?_
      refine pm_cVL (As := []) (mc2 := 0) (ms2 := 0) (ov := some (.int (nI (bs).length))) B (fun U H h => ((hZ U H h)).1) (c_J0_length_8abf5 (bs := bs) (fun U H h => (hZ U H h)) (by first | assumption | decide | omega)) mt_J0_length_8abf5 sv_X13_211 dX13_skip_4 rfl rfl rfl rfl rfl ?_
      refine pm_stk (st' := [.int (nI (bs).length), .int (nI j1)]) rfl ?_
      refine pm_icmp_ge (tgt := 66) B dX13_skip_7 (by decide) (fun hq1 => ?_) (fun hq1 => absurd ((nI_leI (by first | omega | decide) (by first | omega | decide)).mpr (by omega)) hq1)
      refine pm_wk (L' := [none, none, none]) trivial ?_
      have hDq2 : (K1 (d_X13_skip_L1 bs t gt 0 j1 f_1)) = (K1 f_1) := by rw [d_X13_skip_L1]
      refine pm_pst (post' := pm_rt none nx (pm_up M m0 (pm_mo z m0 (K1 f_1)))) (by rw [hDq2]) ?_
      exact hK1 f_1 (htx_1)
    | succ k1 ih1 =>
      intro j1 hj1 f_1 htx_1
      have hjn1 : j1 < bs.length := by omega
      refine pm_iload_n B dX13_skip_2 rfl ?_
      refine pm_aload_n B dX13_skip_3 rfl ?_
      refine pm_cVL (As := []) (mc2 := 0) (ms2 := 0) (ov := some (.int (nI (bs).length))) B (fun U H h => ((hZ U H h)).1) (c_J0_length_8abf5 (bs := bs) (fun U H h => (hZ U H h)) (by first | assumption | decide | omega)) mt_J0_length_8abf5 sv_X13_211 dX13_skip_4 rfl rfl rfl rfl rfl ?_
      refine pm_stk (st' := [.int (nI (bs).length), .int (nI j1)]) rfl ?_
      refine pm_icmp_ge (tgt := 66) B dX13_skip_7 (by decide) (fun hq3 => absurd hq3 (fun e => absurd ((nI_leI (by first | omega | decide) (by first | omega | decide)).mp e) (by omega))) (fun hq3 => ?_)
      refine pm_aload_n B dX13_skip_10 rfl ?_
      refine pm_get B dX13_skip_11 fl_X13_215 pm_up_s rfl ?_
      refine pm_if_ne (tgt := 66) B dX13_skip_14 (by decide) (fun hq4 => ?_) (fun hq4 => ?_)
      · refine pm_wk (L' := [none, none, none]) trivial ?_
        have hDq5 : (K1 (d_X13_skip_L1 bs t gt (k1 + 1) j1 f_1)) = (K1 f_1) := by rw [d_X13_skip_L1, if_neg hq4]
        refine pm_pst (post' := pm_rt none nx (pm_up M m0 (pm_mo z m0 (K1 f_1)))) (by rw [hDq5]) ?_
        exact hK1 f_1 (htx_1)
      · refine pm_aload_n B dX13_skip_17 rfl ?_
        refine pm_aload_n B dX13_skip_18 rfl ?_
        refine pm_iconst (v := 0) B dX13_skip_19 (by decide) ?_
        refine pm_cV (As := [.int (nI 0)]) (mc2 := 0) (ms2 := 0) B rfl pm_up_s rfl (c_X13_behind (w := 0) (t := t) (f := f_1) (gt := gt) pm_up_s ((pm_up_n (by omega)).trans hgt) htx_1 (by first | assumption | omega) (by first | assumption | decide | omega)) mt_X13_behind sv_X13_219 dX13_skip_20 rfl rfl rfl rfl rfl ?_
        refine pm_stk (st' := [.int (d_X13_behind 0 t f_1 gt), .ref (z + m0)]) rfl ?_
        refine pm_aload_n B dX13_skip_23 rfl ?_
        refine pm_iload_n B dX13_skip_24 rfl ?_
        refine pm_cVL (As := [.int (nI j1)]) (mc2 := 0) (ms2 := 0) (ov := some (.int (nI ((bs).getD j1 0)))) B (fun U H h => ((hZ U H h)).1) (c_J0_charAt_5068e (bs := bs) (i := j1) (fun U H h => (hZ U H h)) (by first | assumption | decide | omega) (by first | assumption | decide | omega) (by first | assumption | exact pm_sb_at (by assumption) _ | decide)) mt_J0_charAt_5068e sv_X13_222 dX13_skip_25 rfl rfl rfl rfl rfl ?_
        refine pm_stk (st' := [.int (nI ((bs).getD j1 0)), .int (d_X13_behind 0 t f_1 gt), .ref (z + m0)]) rfl ?_
        refine pm_icmp_eq (tgt := 35) B dX13_skip_28 (by decide) (fun hq6 => ?_) (fun hq6 => ?_)
        · have hlt : pm_n (f_1 16) < t := by have hh := d_X13_behind_lt htx_1 ht (by decide) (by have := pm_sb_at hsb j1; omega) hq6; exact hh
          refine pm_iconst (v := 0) B dX13_skip_35 (by decide) ?_
          refine pm_put B dX13_skip_36 fs_X13_215 pm_up_s rfl rfl rfl ?_
          refine pm_mem (M' := pm_up M m0 (pm_mo z m0 (upd f_1 17 0))) pm_up_up ?_
          refine pm_aload_n B dX13_skip_39 rfl ?_
          refine pm_dup B dX13_skip_40 rfl ?_
          refine pm_get B dX13_skip_41 fl_X13_208 pm_up_s rfl ?_
          refine pm_stk (st' := [.int (f_1 16), .ref (z + m0)]) rfl ?_
          refine pm_stk (st' := [.int (nI (pm_n (f_1 16))), .ref (z + m0)]) (congrArg (fun yy : Int32 => ([.int yy, .ref (z + m0)] : List Value)) (show (f_1 16) = (nI (pm_n (f_1 16))) from (htx_1.1))) ?_
          refine pm_aload_n B dX13_skip_44 rfl ?_
          refine pm_get B dX13_skip_45 fl_X13_215 pm_up_s rfl ?_
          refine pm_stk (st' := [.int 0, .int (nI (pm_n (f_1 16))), .ref (z + m0)]) rfl ?_
          refine pm_if_eq (tgt := 55) B dX13_skip_48 (by decide) (fun hq7 => ?_) (fun hq7 => absurd (by decide) hq7)
          refine pm_iconst (v := 1) B dX13_skip_55 (by decide) ?_
          refine pm_iadd B dX13_skip_56 ?_
          refine pm_stk (st' := [.int (nI ((pm_n (f_1 16)) + 1)), .ref (z + m0)]) (by rw [show ((nI (pm_n (f_1 16))) + 1) = (nI ((pm_n (f_1 16)) + 1)) from (by rw [show (nI (pm_n (f_1 16))) = nI (pm_n (f_1 16)) from rfl, show 1 = nI 1 from rfl, nI_add])]) ?_
          refine pm_put B dX13_skip_57 fs_X13_208 pm_up_s rfl rfl rfl ?_
          refine pm_mem (M' := pm_up M m0 (pm_mo z m0 (upd (upd f_1 17 0) 16 (nI ((pm_n (f_1 16)) + 1))))) pm_up_up ?_
          refine pm_iinc B dX13_skip_60 rfl rfl rfl ?_
          refine pm_loc (L' := [some (.ref (z + m0)), some (.ref s), some (.int (nI (j1 + 1)))]) (by rw [show ((nI j1) : Int32) + Int32.ofInt 1 = (nI (j1 + 1)) from nI_1 _]; rfl) ?_
          refine pm_goto (tgt := 2) B dX13_skip_63 (by decide) ?_
          have hDq8 : (K1 (d_X13_skip_L1 bs t gt (k1 + 1) j1 f_1)) = (K1 (d_X13_skip_L1 bs t gt k1 (j1 + 1) (upd (upd f_1 17 0) 16 (nI ((pm_n (f_1 16)) + 1))))) := by rw [d_X13_skip_L1, if_pos hq4, if_pos hq6]
          refine pm_pst (post' := pm_rt none nx (pm_up M m0 (pm_mo z m0 (K1 (d_X13_skip_L1 bs t gt k1 (j1 + 1) (upd (upd f_1 17 0) 16 (nI ((pm_n (f_1 16)) + 1)))))))) (by rw [hDq8]) ?_
          exact ih1 (j1 + 1) (by omega) (upd (upd f_1 17 0) 16 (nI ((pm_n (f_1 16)) + 1))) ((pm_tx_16 (pm_tx_17 htx_1 (by first | exact Or.inl rfl | exact Or.inr rfl | assumption | ((repeat' split) <;> first | exact Or.inl rfl | exact Or.inr rfl))) ht (by have h9 := htx_1.2.1; omega)))
        · refine pm_iconst (v := 1) B dX13_skip_31 (by decide) ?_
          refine pm_goto (tgt := 36) B dX13_skip_32 (by decide) ?_
          refine pm_put B dX13_skip_36 fs_X13_215 pm_up_s rfl rfl rfl ?_
          refine pm_mem (M' := pm_up M m0 (pm_mo z m0 (upd f_1 17 1))) pm_up_up ?_
          refine pm_aload_n B dX13_skip_39 rfl ?_
          refine pm_dup B dX13_skip_40 rfl ?_
          refine pm_get B dX13_skip_41 fl_X13_208 pm_up_s rfl ?_
          refine pm_stk (st' := [.int (f_1 16), .ref (z + m0)]) rfl ?_
          refine pm_stk (st' := [.int (nI (pm_n (f_1 16))), .ref (z + m0)]) (congrArg (fun yy : Int32 => ([.int yy, .ref (z + m0)] : List Value)) (show (f_1 16) = (nI (pm_n (f_1 16))) from (htx_1.1))) ?_
          refine pm_aload_n B dX13_skip_44 rfl ?_
          refine pm_get B dX13_skip_45 fl_X13_215 pm_up_s rfl ?_
          refine pm_stk (st' := [.int 1, .int (nI (pm_n (f_1 16))), .ref (z + m0)]) rfl ?_
          refine pm_if_eq (tgt := 55) B dX13_skip_48 (by decide) (fun hq9 => absurd hq9 (by decide)) (fun hq9 => ?_)
          refine pm_iconst (v := 0) B dX13_skip_51 (by decide) ?_
          refine pm_goto (tgt := 56) B dX13_skip_52 (by decide) ?_
          refine pm_iadd B dX13_skip_56 ?_
          refine pm_stk (st' := [.int (nI ((pm_n (f_1 16)) + 0)), .ref (z + m0)]) (by rw [show ((nI (pm_n (f_1 16))) + 0) = (nI ((pm_n (f_1 16)) + 0)) from (by rw [show (nI (pm_n (f_1 16))) = nI (pm_n (f_1 16)) from rfl, show 0 = nI 0 from rfl, nI_add])]) ?_
          refine pm_put B dX13_skip_57 fs_X13_208 pm_up_s rfl rfl rfl ?_
          refine pm_mem (M' := pm_up M m0 (pm_mo z m0 (upd (upd f_1 17 1) 16 (nI ((pm_n (f_1 16)) + 0))))) pm_up_up ?_
          refine pm_iinc B dX13_skip_60 rfl rfl rfl ?_
          refine pm_loc (L' := [some (.ref (z + m0)), some (.ref s), some (.int (nI (j1 + 1)))]) (by rw [show ((nI j1) : Int32) + Int32.ofInt 1 = (nI (j1 + 1)) from nI_1 _]; rfl) ?_
          refine pm_goto (tgt := 2) B dX13_skip_63 (by decide) ?_
          have hDq10 : (K1 (d_X13_skip_L1 bs t gt (k1 + 1) j1 f_1)) = (K1 (d_X13_skip_L1 bs t gt k1 (j1 + 1) (upd (upd f_1 17 1) 16 (nI ((pm_n (f_1 16)) + 0))))) := by rw [d_X13_skip_L1, if_pos hq4, if_neg hq6]
          refine pm_pst (post' := pm_rt none nx (pm_up M m0 (pm_mo z m0 (K1 (d_X13_skip_L1 bs t gt k1 (j1 + 1) (upd (upd f_1 17 1) 16 (nI ((pm_n (f_1 16)) + 0)))))))) (by rw [hDq10]) ?_
          exact ih1 (j1 + 1) (by omega) (upd (upd f_1 17 1) 16 (nI ((pm_n (f_1 16)) + 0))) ((pm_tx_16 (pm_tx_17 htx_1 (by first | exact Or.inl rfl | exact Or.inr rfl | assumption | ((repeat' split) <;> first | exact Or.inl rfl | exact Or.inr rfl))) ht (by have h9 := htx_1.2.1; omega)))
  refine pm_pst (post' := pm_rt none nx (pm_up M m0 (pm_mo z m0 (d_X13_skip_L1 bs t gt bs.length 0 f)))) (by rw [show (d_X13_skip bs t f gt) = (d_X13_skip_L1 bs t gt bs.length 0 f) from by rw [d_X13_skip]]) ?_
  refine loop1 (fun (f_1 : (Nat → Int32)) => f_1) ?_ bs.length 0 (by omega) f (htx)
  intro f_1 htx_1
  refine pm_pst (post' := pm_rt none nx (pm_up M m0 (pm_mo z m0 f_1))) rfl ?_
  have hDq11 : (f_1) = f_1 := rfl
  exact pm_return B dX13_skip_66 rfl ⟨rfl, rfl, by rw [hDq11]⟩ rfl rfl
theorem d_X13_readsNumber_tx (w t : Nat) (f gt : Nat → Int32) (ht : t ≤ 60) (htx : pm_tx t f) : pm_tx t (d_X13_readsNumber w t f gt).2 := by
  have h : ∀ (k j : Nat) (a : Int32) (f : Nat → Int32), pm_tx t f → pm_tx t (d_X13_readsNumber_L1 t gt k j a f).2 := by
    intro k
    induction k with
    | zero => intro j a f h; exact h
    | succ k ih =>
      intro j a f h
      simp only [d_X13_readsNumber_L1]
      split
      · exact h
      · rename_i h2
        have h3 := d_X13_isDigit_lt h ht h2
        exact ih _ _ _ (pm_tx_16 h ht (by omega))
  unfold d_X13_readsNumber
  exact h _ _ _ _ (pm_tx_17 htx (by (repeat' split) <;> first | exact Or.inl rfl | exact Or.inr rfl))
theorem d_X13_skip_tx (bs : List Nat) (t : Nat) (f gt : Nat → Int32) (ht : t ≤ 60) (htx : pm_tx t f) (hsb : pm_sb bs) : pm_tx t (d_X13_skip bs t f gt) := by
  have h : ∀ (k j : Nat) (f : Nat → Int32), pm_tx t f → pm_tx t (d_X13_skip_L1 bs t gt k j f) := by
    intro k
    induction k with
    | zero => intro j f h; exact h
    | succ k ih =>
      intro j f h
      simp only [d_X13_skip_L1]
      have h9 := h.2.1
      (repeat' split)
      · rename_i h2 h3
        have h4 := d_X13_behind_lt h ht (by decide) (by have := pm_sb_at hsb j; omega) h3
        exact ih _ _ (pm_tx_16 (pm_tx_17 h (Or.inl rfl)) ht (by omega))
      · exact ih _ _ (pm_tx_16 (pm_tx_17 h (Or.inr rfl)) ht (by omega))
      · exact h
  exact h _ _ _ htx
theorem d_X13_readsNumber_fr (w t : Nat) (f gt : Nat → Int32) {q : Nat} (h6 : q ≠ 16) (h7 : q ≠ 17) : (d_X13_readsNumber w t f gt).2 q = f q := by
  have h : ∀ (k j : Nat) (a : Int32) (f : Nat → Int32), (d_X13_readsNumber_L1 t gt k j a f).2 q = f q := by
    intro k
    induction k with
    | zero => intro j a f; rfl
    | succ k ih =>
      intro j a f
      simp only [d_X13_readsNumber_L1]
      split
      · rfl
      · rw [ih, pk_un h6]
  unfold d_X13_readsNumber
  rw [h, pk_un h7]
theorem d_X13_skip_fr (bs : List Nat) (t : Nat) (f gt : Nat → Int32) {q : Nat} (h6 : q ≠ 16) (h7 : q ≠ 17) : d_X13_skip bs t f gt q = f q := by
  have h : ∀ (k j : Nat) (f : Nat → Int32), d_X13_skip_L1 bs t gt k j f q = f q := by
    intro k
    induction k with
    | zero => intro j f; rfl
    | succ k ih =>
      intro j f
      simp only [d_X13_skip_L1]
      (repeat' split)
      · rw [ih, pk_un h6, pk_un h7]
      · rw [ih, pk_un h6, pk_un h7]
      · rfl
  exact h _ _ _
def d_X13_reads (x : Int32) (w1 : Nat) (w2 : Nat) (bs1 : List Nat) (bs2 : List Nat) (cm : Nat) (t : Nat) (f : Nat → Int32) (gt : Nat → Int32) (gc : Nat → Int32) : ((Nat → Int32) × (Nat → Int32)) := if (nI w1) ≤ 0 then (if (nI w2) ≤ 0 then ((d_X13_skip bs2 t (d_X13_skip bs1 t (upd f 20 (nI (cm + 1))) gt) gt), (upd (upd (upd gc (3 * cm) x) ((3 * cm) + 1) 0) ((3 * cm) + 2) 0)) else (((d_X13_readsNumber w2 t (d_X13_skip bs2 t (d_X13_skip bs1 t (upd f 20 (nI (cm + 1))) gt) gt) gt).2), (upd (upd (upd gc (3 * cm) x) ((3 * cm) + 1) 0) ((3 * cm) + 2) ((d_X13_readsNumber w2 t (d_X13_skip bs2 t (d_X13_skip bs1 t (upd f 20 (nI (cm + 1))) gt) gt) gt).1)))) else (if (nI w2) ≤ 0 then ((d_X13_skip bs2 t ((d_X13_readsNumber w1 t (d_X13_skip bs1 t (upd f 20 (nI (cm + 1))) gt) gt).2) gt), (upd (upd (upd gc (3 * cm) x) ((3 * cm) + 1) ((d_X13_readsNumber w1 t (d_X13_skip bs1 t (upd f 20 (nI (cm + 1))) gt) gt).1)) ((3 * cm) + 2) 0)) else (((d_X13_readsNumber w2 t (d_X13_skip bs2 t ((d_X13_readsNumber w1 t (d_X13_skip bs1 t (upd f 20 (nI (cm + 1))) gt) gt).2) gt) gt).2), (upd (upd (upd gc (3 * cm) x) ((3 * cm) + 1) ((d_X13_readsNumber w1 t (d_X13_skip bs1 t (upd f 20 (nI (cm + 1))) gt) gt).1)) ((3 * cm) + 2) ((d_X13_readsNumber w2 t (d_X13_skip bs2 t ((d_X13_readsNumber w1 t (d_X13_skip bs1 t (upd f 20 (nI (cm + 1))) gt) gt).2) gt) gt).1))))
set_option maxRecDepth 100000 in
set_option maxHeartbeats 8000000 in
theorem c_X13_reads {l : Launch} {z : Nat} {D : va_G} {kA : Nat → ClassId} {kE : Nat → Nat} {nx : Nat} {M : pm_M} {x : Int32} {w1 : Nat} {w2 : Nat} {bs1 : List Nat} {bs2 : List Nat} {cm : Nat} {t : Nat} {s1 : Nat} {v1 : Nat} {s2 : Nat} {v2 : Nat}{m0 : Nat} {f : Nat → Int32} {gt : Nat → Int32} {gc : Nat → Int32} (hM : M m0 = some (pm_mo z m0 f)) (hgt : M (m0 + 6) = some (.inl (kA 3, 60, .inl gt))) (hgc : M (m0 + 7) = some (.inl (kA 0, 180, .inl gc))) (htx : pm_tx t f) (ht : t ≤ 60) (hcm : f 20 = nI cm) (hc59 : cm < 60) (hZ1 : ∀ U H, pm_Kx z kE U H → pm_Str z bs1 s1 v1 U H) (hsb1 : pm_sb bs1) (hZ2 : ∀ U H, pm_Kx z kE U H → pm_Str z bs2 s2 v2 U H) (hsb2 : pm_sb bs2) (hw1 : w1 ≤ 4) (hw2 : w2 ≤ 4) : pm_C l z D kA kE yX13_reads cX13_reads 7 none 5 0 0 [.ref (z + m0), .int x, .ref s1, .int (nI w1), .ref s2, .int (nI w2)] nx M (pm_rt none nx (pm_up (pm_up M m0 (pm_mo z m0 ((d_X13_reads x w1 w2 bs1 bs2 cm t f gt gc).1))) (m0 + 7) (.inl (kA 0, 180, .inl ((d_X13_reads x w1 w2 bs1 bs2 cm t f gt gc).2))))) := by
  refine pm_mk (own := RX13) (nm := "reads") mt_X13_reads rfl rfl rfl rfl fun X B => ?_
  refine pm_loc (L' := [some (.ref (z + m0)), some (.int x), some (.ref s1), some (.int (nI w1)), some (.ref s2), some (.int (nI w2)), none]) rfl ?_
  refine pm_mem (M' := pm_up (pm_up M m0 (pm_mo z m0 f)) (m0 + 7) (.inl (kA 0, 180, .inl gc))) (by rw [pm_up_id hM, pm_up_id hgc]) ?_
  refine pm_iconst (v := 3) B dX13_reads_0 (by decide) ?_
  refine pm_aload_n B dX13_reads_1 rfl ?_
  refine pm_get B dX13_reads_2 fl_X13_230 ((pm_up_n (by omega)).trans pm_up_s) rfl ?_
  refine pm_stk (st' := [.int (nI cm), .int 3]) (by rw [show (f 20) = (nI cm) from by rw [hcm]]) ?_
  refine pm_imul B dX13_reads_5 ?_
  refine pm_istore B dX13_reads_6 rfl rfl ?_
  refine pm_loc (L' := [some (.ref (z + m0)), some (.int x), some (.ref s1), some (.int (nI w1)), some (.ref s2), some (.int (nI w2)), some (.int (3 * (nI cm)))]) rfl ?_
  refine pm_aload_n B dX13_reads_8 rfl ?_
  refine pm_get B dX13_reads_9 fl_X13_33 ((pm_up_n (by omega)).trans pm_up_s) rfl ?_
  refine pm_iload B dX13_reads_12 rfl ?_
  refine pm_iload_n B dX13_reads_14 rfl ?_
  refine pm_stk (st' := [.int x, .int (nI (3 * cm)), .ref (z + (m0 + 7))]) (by rw [show (3 * (nI cm)) = (nI (3 * cm)) from (by rw [show 3 = nI 3 from rfl, show (nI cm) = nI cm from rfl, pk_mul])]) ?_
  refine pm_iast_n B dX13_reads_15 pm_up_s (3 * cm) (by first | assumption | omega) (by decide) ?_
  refine pm_mem (M' := pm_up (pm_up M m0 (pm_mo z m0 f)) (m0 + 7) (.inl (kA 0, 180, .inl (upd gc (3 * cm) x)))) pm_up_up ?_
  refine pm_aload_n B dX13_reads_16 rfl ?_
  refine pm_dup B dX13_reads_17 rfl ?_
  refine pm_get B dX13_reads_18 fl_X13_230 ((pm_up_n (by omega)).trans pm_up_s) rfl ?_
  refine pm_stk (st' := [.int (nI cm), .ref (z + m0)]) (by rw [show (f 20) = (nI cm) from by rw [hcm]]) ?_
  refine pm_iconst (v := 1) B dX13_reads_21 (by decide) ?_
  refine pm_iadd B dX13_reads_22 ?_
  refine pm_stk (st' := [.int (nI (cm + 1)), .ref (z + m0)]) (by rw [show ((nI cm) + 1) = (nI (cm + 1)) from (by rw [show (nI cm) = nI cm from rfl, show 1 = nI 1 from rfl, nI_add])]) ?_
  refine pm_put B dX13_reads_23 fs_X13_230 ((pm_up_n (by omega)).trans pm_up_s) rfl rfl rfl ?_
  refine pm_mem (M' := pm_up (pm_up (pm_up M m0 (pm_mo z m0 f)) (m0 + 7) (.inl (kA 0, 180, .inl (upd gc (3 * cm) x)))) m0 (pm_mo z m0 (upd f 20 (nI (cm + 1))))) rfl ?_
  refine pm_mem (M' := pm_up (pm_up M m0 (pm_mo z m0 (upd f 20 (nI (cm + 1))))) (m0 + 7) (.inl (kA 0, 180, .inl (upd gc (3 * cm) x)))) (by rw [pm_up_sw (a := m0 + 7) (b := m0) (by omega), pm_up_up]) ?_
  refine pm_aload_n B dX13_reads_26 rfl ?_
  refine pm_aload_n B dX13_reads_27 rfl ?_
  refine pm_cV (As := [.ref s1]) (mc2 := 0) (ms2 := 0) B rfl ((pm_up_n (by omega)).trans pm_up_s) rfl (c_X13_skip (bs := bs1) (t := t) (s := s1) (v := v1) (f := (upd f 20 (nI (cm + 1)))) (gt := gt) ((pm_up_n (by omega)).trans pm_up_s) ((pm_up_n (by omega)).trans ((pm_up_n (by omega)).trans hgt)) (pm_tx_o (by decide) htx) (by first | assumption | omega) (fun U H h => (hZ1 U H h)) (by first | assumption | decide)) mt_X13_skip sv_X13_233 dX13_reads_28 rfl rfl rfl rfl rfl ?_
  refine pm_mem (M' := pm_up (pm_up (pm_up M m0 (pm_mo z m0 (upd f 20 (nI (cm + 1))))) (m0 + 7) (.inl (kA 0, 180, .inl (upd gc (3 * cm) x)))) m0 (pm_mo z m0 (d_X13_skip bs1 t (upd f 20 (nI (cm + 1))) gt))) rfl ?_
  refine pm_mem (M' := pm_up (pm_up M m0 (pm_mo z m0 (d_X13_skip bs1 t (upd f 20 (nI (cm + 1))) gt))) (m0 + 7) (.inl (kA 0, 180, .inl (upd gc (3 * cm) x)))) (by rw [pm_up_sw (a := m0 + 7) (b := m0) (by omega), pm_up_up (a := m0)]) ?_
  refine pm_stk (st' := []) rfl ?_
  refine pm_aload_n B dX13_reads_31 rfl ?_
  refine pm_get B dX13_reads_32 fl_X13_33 ((pm_up_n (by omega)).trans pm_up_s) rfl ?_
  refine pm_stk (st' := [.ref (z + (m0 + 7))]) rfl ?_
  refine pm_iload B dX13_reads_35 rfl ?_
  refine pm_iconst (v := 1) B dX13_reads_37 (by decide) ?_
  refine pm_iadd B dX13_reads_38 ?_
  refine pm_iload_n B dX13_reads_39 rfl ?_
  refine pm_if_le (tgt := 51) B dX13_reads_40 (by decide) (fun hq1 => ?_) (fun hq1 => ?_)
  · refine pm_iconst (v := 0) B dX13_reads_51 (by decide) ?_
    refine pm_stk (st' := [.int 0, .int (nI ((3 * cm) + 1)), .ref (z + (m0 + 7))]) (by rw [show ((3 * (nI cm)) + 1) = (nI ((3 * cm) + 1)) from (by rw [show (3 * (nI cm)) = nI (3 * cm) from (by rw [show 3 = nI 3 from rfl, show (nI cm) = nI cm from rfl, pk_mul]), show 1 = nI 1 from rfl, nI_add])]) ?_
    refine pm_iast_n B dX13_reads_52 pm_up_s ((3 * cm) + 1) (by first | assumption | omega) (by decide) ?_
    refine pm_mem (M' := pm_up (pm_up M m0 (pm_mo z m0 (d_X13_skip bs1 t (upd f 20 (nI (cm + 1))) gt))) (m0 + 7) (.inl (kA 0, 180, .inl (upd (upd gc (3 * cm) x) ((3 * cm) + 1) 0)))) pm_up_up ?_
    refine pm_aload_n B dX13_reads_53 rfl ?_
    refine pm_aload B dX13_reads_54 rfl ?_
    refine pm_cV (As := [.ref s2]) (mc2 := 0) (ms2 := 0) B rfl ((pm_up_n (by omega)).trans pm_up_s) rfl (c_X13_skip (bs := bs2) (t := t) (s := s2) (v := v2) (f := (d_X13_skip bs1 t (upd f 20 (nI (cm + 1))) gt)) (gt := gt) ((pm_up_n (by omega)).trans pm_up_s) ((pm_up_n (by omega)).trans ((pm_up_n (by omega)).trans hgt)) (d_X13_skip_tx bs1 t (upd f 20 (nI (cm + 1))) gt ht (pm_tx_o (by decide) htx) (by first | assumption | decide)) (by first | assumption | omega) (fun U H h => (hZ2 U H h)) (by first | assumption | decide)) mt_X13_skip sv_X13_233 dX13_reads_56 rfl rfl rfl rfl rfl ?_
    refine pm_mem (M' := pm_up (pm_up (pm_up M m0 (pm_mo z m0 (d_X13_skip bs1 t (upd f 20 (nI (cm + 1))) gt))) (m0 + 7) (.inl (kA 0, 180, .inl (upd (upd gc (3 * cm) x) ((3 * cm) + 1) 0)))) m0 (pm_mo z m0 (d_X13_skip bs2 t (d_X13_skip bs1 t (upd f 20 (nI (cm + 1))) gt) gt))) rfl ?_
    refine pm_mem (M' := pm_up (pm_up M m0 (pm_mo z m0 (d_X13_skip bs2 t (d_X13_skip bs1 t (upd f 20 (nI (cm + 1))) gt) gt))) (m0 + 7) (.inl (kA 0, 180, .inl (upd (upd gc (3 * cm) x) ((3 * cm) + 1) 0)))) (by rw [pm_up_sw (a := m0 + 7) (b := m0) (by omega), pm_up_up (a := m0)]) ?_
    refine pm_stk (st' := []) rfl ?_
    refine pm_aload_n B dX13_reads_59 rfl ?_
    refine pm_get B dX13_reads_60 fl_X13_33 ((pm_up_n (by omega)).trans pm_up_s) rfl ?_
    refine pm_stk (st' := [.ref (z + (m0 + 7))]) rfl ?_
    refine pm_iload B dX13_reads_63 rfl ?_
    refine pm_iconst (v := 2) B dX13_reads_65 (by decide) ?_
    refine pm_iadd B dX13_reads_66 ?_
    refine pm_iload B dX13_reads_67 rfl ?_
    refine pm_if_le (tgt := 81) B dX13_reads_69 (by decide) (fun hq2 => ?_) (fun hq2 => ?_)
    · refine pm_iconst (v := 0) B dX13_reads_81 (by decide) ?_
      refine pm_stk (st' := [.int 0, .int (nI ((3 * cm) + 2)), .ref (z + (m0 + 7))]) (by rw [show ((3 * (nI cm)) + 2) = (nI ((3 * cm) + 2)) from (by rw [show (3 * (nI cm)) = nI (3 * cm) from (by rw [show 3 = nI 3 from rfl, show (nI cm) = nI cm from rfl, pk_mul]), show 2 = nI 2 from rfl, nI_add])]) ?_
      refine pm_iast_n B dX13_reads_82 pm_up_s ((3 * cm) + 2) (by first | assumption | omega) (by decide) ?_
      refine pm_mem (M' := pm_up (pm_up M m0 (pm_mo z m0 (d_X13_skip bs2 t (d_X13_skip bs1 t (upd f 20 (nI (cm + 1))) gt) gt))) (m0 + 7) (.inl (kA 0, 180, .inl (upd (upd (upd gc (3 * cm) x) ((3 * cm) + 1) 0) ((3 * cm) + 2) 0)))) pm_up_up ?_
      have hDq3 : (d_X13_reads x w1 w2 bs1 bs2 cm t f gt gc) = ((d_X13_skip bs2 t (d_X13_skip bs1 t (upd f 20 (nI (cm + 1))) gt) gt), (upd (upd (upd gc (3 * cm) x) ((3 * cm) + 1) 0) ((3 * cm) + 2) 0)) := by rw [d_X13_reads, if_pos hq1, if_pos hq2]
      exact pm_return B dX13_reads_83 rfl ⟨rfl, rfl, by rw [hDq3]⟩ rfl rfl
    · refine pm_aload_n B dX13_reads_72 rfl ?_
      refine pm_iload B dX13_reads_73 rfl ?_
      refine pm_cV (As := [.int (nI w2)]) (mc2 := 0) (ms2 := 0) B rfl ((pm_up_n (by omega)).trans pm_up_s) rfl (c_X13_readsNumber (w := w2) (t := t) (f := (d_X13_skip bs2 t (d_X13_skip bs1 t (upd f 20 (nI (cm + 1))) gt) gt)) (gt := gt) ((pm_up_n (by omega)).trans pm_up_s) ((pm_up_n (by omega)).trans ((pm_up_n (by omega)).trans hgt)) (d_X13_skip_tx bs2 t (d_X13_skip bs1 t (upd f 20 (nI (cm + 1))) gt) gt ht (d_X13_skip_tx bs1 t (upd f 20 (nI (cm + 1))) gt ht (pm_tx_o (by decide) htx) (by first | assumption | decide)) (by first | assumption | decide)) (by first | assumption | omega) (by first | assumption | decide | omega)) mt_X13_readsNumber sv_X13_237 dX13_reads_75 rfl rfl rfl rfl rfl ?_
      refine pm_mem (M' := pm_up (pm_up (pm_up M m0 (pm_mo z m0 (d_X13_skip bs2 t (d_X13_skip bs1 t (upd f 20 (nI (cm + 1))) gt) gt))) (m0 + 7) (.inl (kA 0, 180, .inl (upd (upd gc (3 * cm) x) ((3 * cm) + 1) 0)))) m0 (pm_mo z m0 ((d_X13_readsNumber w2 t (d_X13_skip bs2 t (d_X13_skip bs1 t (upd f 20 (nI (cm + 1))) gt) gt) gt).2))) rfl ?_
      refine pm_mem (M' := pm_up (pm_up M m0 (pm_mo z m0 ((d_X13_readsNumber w2 t (d_X13_skip bs2 t (d_X13_skip bs1 t (upd f 20 (nI (cm + 1))) gt) gt) gt).2))) (m0 + 7) (.inl (kA 0, 180, .inl (upd (upd gc (3 * cm) x) ((3 * cm) + 1) 0)))) (by rw [pm_up_sw (a := m0 + 7) (b := m0) (by omega), pm_up_up (a := m0)]) ?_
      refine pm_stk (st' := [.int ((d_X13_readsNumber w2 t (d_X13_skip bs2 t (d_X13_skip bs1 t (upd f 20 (nI (cm + 1))) gt) gt) gt).1), .int ((3 * (nI cm)) + 2), .ref (z + (m0 + 7))]) rfl ?_
      refine pm_goto (tgt := 82) B dX13_reads_78 (by decide) ?_
      refine pm_stk (st' := [.int ((d_X13_readsNumber w2 t (d_X13_skip bs2 t (d_X13_skip bs1 t (upd f 20 (nI (cm + 1))) gt) gt) gt).1), .int (nI ((3 * cm) + 2)), .ref (z + (m0 + 7))]) (by rw [show ((3 * (nI cm)) + 2) = (nI ((3 * cm) + 2)) from (by rw [show (3 * (nI cm)) = nI (3 * cm) from (by rw [show 3 = nI 3 from rfl, show (nI cm) = nI cm from rfl, pk_mul]), show 2 = nI 2 from rfl, nI_add])]) ?_
      refine pm_iast_n B dX13_reads_82 pm_up_s ((3 * cm) + 2) (by first | assumption | omega) (by decide) ?_
      refine pm_mem (M' := pm_up (pm_up M m0 (pm_mo z m0 ((d_X13_readsNumber w2 t (d_X13_skip bs2 t (d_X13_skip bs1 t (upd f 20 (nI (cm + 1))) gt) gt) gt).2))) (m0 + 7) (.inl (kA 0, 180, .inl (upd (upd (upd gc (3 * cm) x) ((3 * cm) + 1) 0) ((3 * cm) + 2) ((d_X13_readsNumber w2 t (d_X13_skip bs2 t (d_X13_skip bs1 t (upd f 20 (nI (cm + 1))) gt) gt) gt).1))))) pm_up_up ?_
      have hDq4 : (d_X13_reads x w1 w2 bs1 bs2 cm t f gt gc) = (((d_X13_readsNumber w2 t (d_X13_skip bs2 t (d_X13_skip bs1 t (upd f 20 (nI (cm + 1))) gt) gt) gt).2), (upd (upd (upd gc (3 * cm) x) ((3 * cm) + 1) 0) ((3 * cm) + 2) ((d_X13_readsNumber w2 t (d_X13_skip bs2 t (d_X13_skip bs1 t (upd f 20 (nI (cm + 1))) gt) gt) gt).1))) := by rw [d_X13_reads, if_pos hq1, if_neg hq2]
      exact pm_return B dX13_reads_83 rfl ⟨rfl, rfl, by rw [hDq4]⟩ rfl rfl
  · refine pm_aload_n B dX13_reads_43 rfl ?_
    refine pm_iload_n B dX13_reads_44 rfl ?_
    refine pm_cV (As := [.int (nI w1)]) (mc2 := 0) (ms2 := 0) B rfl ((pm_up_n (by omega)).trans pm_up_s) rfl (c_X13_readsNumber (w := w1) (t := t) (f := (d_X13_skip bs1 t (upd f 20 (nI (cm + 1))) gt)) (gt := gt) ((pm_up_n (by omega)).trans pm_up_s) ((pm_up_n (by omega)).trans ((pm_up_n (by omega)).trans hgt)) (d_X13_skip_tx bs1 t (upd f 20 (nI (cm + 1))) gt ht (pm_tx_o (by decide) htx) (by first | assumption | decide)) (by first | assumption | omega) (by first | assumption | decide | omega)) mt_X13_readsNumber sv_X13_237 dX13_reads_45 rfl rfl rfl rfl rfl ?_
    refine pm_mem (M' := pm_up (pm_up (pm_up M m0 (pm_mo z m0 (d_X13_skip bs1 t (upd f 20 (nI (cm + 1))) gt))) (m0 + 7) (.inl (kA 0, 180, .inl (upd gc (3 * cm) x)))) m0 (pm_mo z m0 ((d_X13_readsNumber w1 t (d_X13_skip bs1 t (upd f 20 (nI (cm + 1))) gt) gt).2))) rfl ?_
    refine pm_mem (M' := pm_up (pm_up M m0 (pm_mo z m0 ((d_X13_readsNumber w1 t (d_X13_skip bs1 t (upd f 20 (nI (cm + 1))) gt) gt).2))) (m0 + 7) (.inl (kA 0, 180, .inl (upd gc (3 * cm) x)))) (by rw [pm_up_sw (a := m0 + 7) (b := m0) (by omega), pm_up_up (a := m0)]) ?_
    refine pm_stk (st' := [.int ((d_X13_readsNumber w1 t (d_X13_skip bs1 t (upd f 20 (nI (cm + 1))) gt) gt).1), .int ((3 * (nI cm)) + 1), .ref (z + (m0 + 7))]) rfl ?_
    refine pm_goto (tgt := 52) B dX13_reads_48 (by decide) ?_
    refine pm_stk (st' := [.int ((d_X13_readsNumber w1 t (d_X13_skip bs1 t (upd f 20 (nI (cm + 1))) gt) gt).1), .int (nI ((3 * cm) + 1)), .ref (z + (m0 + 7))]) (by rw [show ((3 * (nI cm)) + 1) = (nI ((3 * cm) + 1)) from (by rw [show (3 * (nI cm)) = nI (3 * cm) from (by rw [show 3 = nI 3 from rfl, show (nI cm) = nI cm from rfl, pk_mul]), show 1 = nI 1 from rfl, nI_add])]) ?_
    refine pm_iast_n B dX13_reads_52 pm_up_s ((3 * cm) + 1) (by first | assumption | omega) (by decide) ?_
    refine pm_mem (M' := pm_up (pm_up M m0 (pm_mo z m0 ((d_X13_readsNumber w1 t (d_X13_skip bs1 t (upd f 20 (nI (cm + 1))) gt) gt).2))) (m0 + 7) (.inl (kA 0, 180, .inl (upd (upd gc (3 * cm) x) ((3 * cm) + 1) ((d_X13_readsNumber w1 t (d_X13_skip bs1 t (upd f 20 (nI (cm + 1))) gt) gt).1))))) pm_up_up ?_
    refine pm_aload_n B dX13_reads_53 rfl ?_
    refine pm_aload B dX13_reads_54 rfl ?_
    refine pm_cV (As := [.ref s2]) (mc2 := 0) (ms2 := 0) B rfl ((pm_up_n (by omega)).trans pm_up_s) rfl (c_X13_skip (bs := bs2) (t := t) (s := s2) (v := v2) (f := ((d_X13_readsNumber w1 t (d_X13_skip bs1 t (upd f 20 (nI (cm + 1))) gt) gt).2)) (gt := gt) ((pm_up_n (by omega)).trans pm_up_s) ((pm_up_n (by omega)).trans ((pm_up_n (by omega)).trans hgt)) (d_X13_readsNumber_tx w1 t (d_X13_skip bs1 t (upd f 20 (nI (cm + 1))) gt) gt ht (d_X13_skip_tx bs1 t (upd f 20 (nI (cm + 1))) gt ht (pm_tx_o (by decide) htx) (by first | assumption | decide))) (by first | assumption | omega) (fun U H h => (hZ2 U H h)) (by first | assumption | decide)) mt_X13_skip sv_X13_233 dX13_reads_56 rfl rfl rfl rfl rfl ?_
    refine pm_mem (M' := pm_up (pm_up (pm_up M m0 (pm_mo z m0 ((d_X13_readsNumber w1 t (d_X13_skip bs1 t (upd f 20 (nI (cm + 1))) gt) gt).2))) (m0 + 7) (.inl (kA 0, 180, .inl (upd (upd gc (3 * cm) x) ((3 * cm) + 1) ((d_X13_readsNumber w1 t (d_X13_skip bs1 t (upd f 20 (nI (cm + 1))) gt) gt).1))))) m0 (pm_mo z m0 (d_X13_skip bs2 t ((d_X13_readsNumber w1 t (d_X13_skip bs1 t (upd f 20 (nI (cm + 1))) gt) gt).2) gt))) rfl ?_
    refine pm_mem (M' := pm_up (pm_up M m0 (pm_mo z m0 (d_X13_skip bs2 t ((d_X13_readsNumber w1 t (d_X13_skip bs1 t (upd f 20 (nI (cm + 1))) gt) gt).2) gt))) (m0 + 7) (.inl (kA 0, 180, .inl (upd (upd gc (3 * cm) x) ((3 * cm) + 1) ((d_X13_readsNumber w1 t (d_X13_skip bs1 t (upd f 20 (nI (cm + 1))) gt) gt).1))))) (by rw [pm_up_sw (a := m0 + 7) (b := m0) (by omega), pm_up_up (a := m0)]) ?_
    refine pm_stk (st' := []) rfl ?_
    refine pm_aload_n B dX13_reads_59 rfl ?_
    refine pm_get B dX13_reads_60 fl_X13_33 ((pm_up_n (by omega)).trans pm_up_s) rfl ?_
    refine pm_stk (st' := [.ref (z + (m0 + 7))]) rfl ?_
    refine pm_iload B dX13_reads_63 rfl ?_
    refine pm_iconst (v := 2) B dX13_reads_65 (by decide) ?_
    refine pm_iadd B dX13_reads_66 ?_
    refine pm_iload B dX13_reads_67 rfl ?_
    refine pm_if_le (tgt := 81) B dX13_reads_69 (by decide) (fun hq5 => ?_) (fun hq5 => ?_)
    · refine pm_iconst (v := 0) B dX13_reads_81 (by decide) ?_
      refine pm_stk (st' := [.int 0, .int (nI ((3 * cm) + 2)), .ref (z + (m0 + 7))]) (by rw [show ((3 * (nI cm)) + 2) = (nI ((3 * cm) + 2)) from (by rw [show (3 * (nI cm)) = nI (3 * cm) from (by rw [show 3 = nI 3 from rfl, show (nI cm) = nI cm from rfl, pk_mul]), show 2 = nI 2 from rfl, nI_add])]) ?_
      refine pm_iast_n B dX13_reads_82 pm_up_s ((3 * cm) + 2) (by first | assumption | omega) (by decide) ?_
      refine pm_mem (M' := pm_up (pm_up M m0 (pm_mo z m0 (d_X13_skip bs2 t ((d_X13_readsNumber w1 t (d_X13_skip bs1 t (upd f 20 (nI (cm + 1))) gt) gt).2) gt))) (m0 + 7) (.inl (kA 0, 180, .inl (upd (upd (upd gc (3 * cm) x) ((3 * cm) + 1) ((d_X13_readsNumber w1 t (d_X13_skip bs1 t (upd f 20 (nI (cm + 1))) gt) gt).1)) ((3 * cm) + 2) 0)))) pm_up_up ?_
      have hDq6 : (d_X13_reads x w1 w2 bs1 bs2 cm t f gt gc) = ((d_X13_skip bs2 t ((d_X13_readsNumber w1 t (d_X13_skip bs1 t (upd f 20 (nI (cm + 1))) gt) gt).2) gt), (upd (upd (upd gc (3 * cm) x) ((3 * cm) + 1) ((d_X13_readsNumber w1 t (d_X13_skip bs1 t (upd f 20 (nI (cm + 1))) gt) gt).1)) ((3 * cm) + 2) 0)) := by rw [d_X13_reads, if_neg hq1, if_pos hq5]
      exact pm_return B dX13_reads_83 rfl ⟨rfl, rfl, by rw [hDq6]⟩ rfl rfl
    · refine pm_aload_n B dX13_reads_72 rfl ?_
      refine pm_iload B dX13_reads_73 rfl ?_
      refine pm_cV (As := [.int (nI w2)]) (mc2 := 0) (ms2 := 0) B rfl ((pm_up_n (by omega)).trans pm_up_s) rfl (c_X13_readsNumber (w := w2) (t := t) (f := (d_X13_skip bs2 t ((d_X13_readsNumber w1 t (d_X13_skip bs1 t (upd f 20 (nI (cm + 1))) gt) gt).2) gt)) (gt := gt) ((pm_up_n (by omega)).trans pm_up_s) ((pm_up_n (by omega)).trans ((pm_up_n (by omega)).trans hgt)) (d_X13_skip_tx bs2 t ((d_X13_readsNumber w1 t (d_X13_skip bs1 t (upd f 20 (nI (cm + 1))) gt) gt).2) gt ht (d_X13_readsNumber_tx w1 t (d_X13_skip bs1 t (upd f 20 (nI (cm + 1))) gt) gt ht (d_X13_skip_tx bs1 t (upd f 20 (nI (cm + 1))) gt ht (pm_tx_o (by decide) htx) (by first | assumption | decide))) (by first | assumption | decide)) (by first | assumption | omega) (by first | assumption | decide | omega)) mt_X13_readsNumber sv_X13_237 dX13_reads_75 rfl rfl rfl rfl rfl ?_
      refine pm_mem (M' := pm_up (pm_up (pm_up M m0 (pm_mo z m0 (d_X13_skip bs2 t ((d_X13_readsNumber w1 t (d_X13_skip bs1 t (upd f 20 (nI (cm + 1))) gt) gt).2) gt))) (m0 + 7) (.inl (kA 0, 180, .inl (upd (upd gc (3 * cm) x) ((3 * cm) + 1) ((d_X13_readsNumber w1 t (d_X13_skip bs1 t (upd f 20 (nI (cm + 1))) gt) gt).1))))) m0 (pm_mo z m0 ((d_X13_readsNumber w2 t (d_X13_skip bs2 t ((d_X13_readsNumber w1 t (d_X13_skip bs1 t (upd f 20 (nI (cm + 1))) gt) gt).2) gt) gt).2))) rfl ?_
      refine pm_mem (M' := pm_up (pm_up M m0 (pm_mo z m0 ((d_X13_readsNumber w2 t (d_X13_skip bs2 t ((d_X13_readsNumber w1 t (d_X13_skip bs1 t (upd f 20 (nI (cm + 1))) gt) gt).2) gt) gt).2))) (m0 + 7) (.inl (kA 0, 180, .inl (upd (upd gc (3 * cm) x) ((3 * cm) + 1) ((d_X13_readsNumber w1 t (d_X13_skip bs1 t (upd f 20 (nI (cm + 1))) gt) gt).1))))) (by rw [pm_up_sw (a := m0 + 7) (b := m0) (by omega), pm_up_up (a := m0)]) ?_
      refine pm_stk (st' := [.int ((d_X13_readsNumber w2 t (d_X13_skip bs2 t ((d_X13_readsNumber w1 t (d_X13_skip bs1 t (upd f 20 (nI (cm + 1))) gt) gt).2) gt) gt).1), .int ((3 * (nI cm)) + 2), .ref (z + (m0 + 7))]) rfl ?_
      refine pm_goto (tgt := 82) B dX13_reads_78 (by decide) ?_
      refine pm_stk (st' := [.int ((d_X13_readsNumber w2 t (d_X13_skip bs2 t ((d_X13_readsNumber w1 t (d_X13_skip bs1 t (upd f 20 (nI (cm + 1))) gt) gt).2) gt) gt).1), .int (nI ((3 * cm) + 2)), .ref (z + (m0 + 7))]) (by rw [show ((3 * (nI cm)) + 2) = (nI ((3 * cm) + 2)) from (by rw [show (3 * (nI cm)) = nI (3 * cm) from (by rw [show 3 = nI 3 from rfl, show (nI cm) = nI cm from rfl, pk_mul]), show 2 = nI 2 from rfl, nI_add])]) ?_
      refine pm_iast_n B dX13_reads_82 pm_up_s ((3 * cm) + 2) (by first | assumption | omega) (by decide) ?_
      refine pm_mem (M' := pm_up (pm_up M m0 (pm_mo z m0 ((d_X13_readsNumber w2 t (d_X13_skip bs2 t ((d_X13_readsNumber w1 t (d_X13_skip bs1 t (upd f 20 (nI (cm + 1))) gt) gt).2) gt) gt).2))) (m0 + 7) (.inl (kA 0, 180, .inl (upd (upd (upd gc (3 * cm) x) ((3 * cm) + 1) ((d_X13_readsNumber w1 t (d_X13_skip bs1 t (upd f 20 (nI (cm + 1))) gt) gt).1)) ((3 * cm) + 2) ((d_X13_readsNumber w2 t (d_X13_skip bs2 t ((d_X13_readsNumber w1 t (d_X13_skip bs1 t (upd f 20 (nI (cm + 1))) gt) gt).2) gt) gt).1))))) pm_up_up ?_
      have hDq7 : (d_X13_reads x w1 w2 bs1 bs2 cm t f gt gc) = (((d_X13_readsNumber w2 t (d_X13_skip bs2 t ((d_X13_readsNumber w1 t (d_X13_skip bs1 t (upd f 20 (nI (cm + 1))) gt) gt).2) gt) gt).2), (upd (upd (upd gc (3 * cm) x) ((3 * cm) + 1) ((d_X13_readsNumber w1 t (d_X13_skip bs1 t (upd f 20 (nI (cm + 1))) gt) gt).1)) ((3 * cm) + 2) ((d_X13_readsNumber w2 t (d_X13_skip bs2 t ((d_X13_readsNumber w1 t (d_X13_skip bs1 t (upd f 20 (nI (cm + 1))) gt) gt).2) gt) gt).1))) := by rw [d_X13_reads, if_neg hq1, if_neg hq5]
      exact pm_return B dX13_reads_83 rfl ⟨rfl, rfl, by rw [hDq7]⟩ rfl rfl
theorem d_X13_reads_tx (x : Int32) (w1 w2 : Nat) (bs1 bs2 : List Nat) (cm t : Nat) (f gt gc : Nat → Int32) (ht : t ≤ 60) (htx : pm_tx t f) (hs1 : pm_sb bs1) (hs2 : pm_sb bs2) : pm_tx t (d_X13_reads x w1 w2 bs1 bs2 cm t f gt gc).1 := by
  have h0 := d_X13_skip_tx bs1 t _ gt ht (pm_tx_o (k := 20) (v := nI (cm + 1)) (by decide) htx) hs1
  unfold d_X13_reads
  (repeat' split)
  · exact d_X13_skip_tx _ _ _ _ ht h0 hs2
  · exact d_X13_readsNumber_tx _ _ _ _ ht (d_X13_skip_tx _ _ _ _ ht h0 hs2)
  · exact d_X13_skip_tx _ _ _ _ ht (d_X13_readsNumber_tx _ _ _ _ ht h0) hs2
  · exact d_X13_readsNumber_tx _ _ _ _ ht (d_X13_skip_tx _ _ _ _ ht (d_X13_readsNumber_tx _ _ _ _ ht h0) hs2)
theorem d_X13_reads_fr (x : Int32) (w1 w2 : Nat) (bs1 bs2 : List Nat) (cm t : Nat) (f gt gc : Nat → Int32) {q : Nat} (h6 : q ≠ 16) (h7 : q ≠ 17) : (d_X13_reads x w1 w2 bs1 bs2 cm t f gt gc).1 q = upd f 20 (nI (cm + 1)) q := by
  unfold d_X13_reads
  (repeat' split) <;> simp only [d_X13_skip_fr _ _ _ _ h6 h7, d_X13_readsNumber_fr _ _ _ _ h6 h7]
def d_X13_kind (t : Nat) (f : Nat → Int32) (gt : Nat → Int32) : Int32 := if (d_X13_behind 0 t f gt) = 97 then (if (d_X13_behind 1 t f gt) = 117 then 117 else 97) else (if (d_X13_behind 0 t f gt) = 99 then (if (d_X13_behind 1 t f gt) = 117 then 116 else 99) else (if (d_X13_behind 0 t f gt) = 108 then (if (d_X13_behind 1 t f gt) = 105 then (if (d_X13_behind 2 t f gt) = 109 then 109 else 108) else 108) else (if (d_X13_behind 0 t f gt) = 112 then 112 else (if (d_X13_behind 0 t f gt) = 114 then 114 else (if (d_X13_behind 0 t f gt) = 115 then (if (d_X13_behind 1 t f gt) = 101 then (if (d_X13_behind 2 t f gt) = 101 then 100 else 115) else 115) else 106)))))
set_option maxRecDepth 100000 in
set_option maxHeartbeats 8000000 in
theorem c_X13_kind {l : Launch} {z : Nat} {D : va_G} {kA : Nat → ClassId} {kE : Nat → Nat} {nx : Nat} {M : pm_M} {t : Nat}{m0 : Nat} {f : Nat → Int32} {gt : Nat → Int32} (hM : M m0 = some (pm_mo z m0 f)) (hgt : M (m0 + 6) = some (.inl (kA 3, 60, .inl gt))) (htx : pm_tx t f) (ht : t ≤ 60) : pm_C l z D kA kE yX13_kind cX13_kind 3 (some .int) 1 0 0 [.ref (z + m0)] nx M (pm_rt (some (.int (d_X13_kind t f gt))) nx M) := by
  refine pm_mk (own := RX13) (nm := "kind") mt_X13_kind rfl rfl rfl rfl fun X B => ?_
  refine pm_loc (L' := [some (.ref (z + m0)), none, none]) rfl ?_
  refine pm_aload_n B dX13_kind_0 rfl ?_
  refine pm_iconst (v := 1) B dX13_kind_1 (by decide) ?_
  refine pm_cV (As := [.int (nI 1)]) (mc2 := 0) (ms2 := 0) B rfl hM rfl (c_X13_behind (w := 1) (t := t) (f := f) (gt := gt) hM hgt htx (by first | assumption | omega) (by first | assumption | decide | omega)) mt_X13_behind sv_X13_219 dX13_kind_2 rfl rfl rfl rfl rfl ?_
  refine pm_stk (st' := [.int (d_X13_behind 1 t f gt)]) rfl ?_
  refine pm_istore_n B dX13_kind_5 rfl rfl ?_
  refine pm_loc (L' := [some (.ref (z + m0)), some (.int (d_X13_behind 1 t f gt)), none]) rfl ?_
  refine pm_aload_n B dX13_kind_6 rfl ?_
  refine pm_iconst (v := 2) B dX13_kind_7 (by decide) ?_
  refine pm_cV (As := [.int (nI 2)]) (mc2 := 0) (ms2 := 0) B rfl hM rfl (c_X13_behind (w := 2) (t := t) (f := f) (gt := gt) hM hgt htx (by first | assumption | omega) (by first | assumption | decide | omega)) mt_X13_behind sv_X13_219 dX13_kind_8 rfl rfl rfl rfl rfl ?_
  refine pm_stk (st' := [.int (d_X13_behind 2 t f gt)]) rfl ?_
  refine pm_istore_n B dX13_kind_11 rfl rfl ?_
  refine pm_loc (L' := [some (.ref (z + m0)), some (.int (d_X13_behind 1 t f gt)), some (.int (d_X13_behind 2 t f gt))]) rfl ?_
  refine pm_aload_n B dX13_kind_12 rfl ?_
  refine pm_iconst (v := 0) B dX13_kind_13 (by decide) ?_
  refine pm_cV (As := [.int (nI 0)]) (mc2 := 0) (ms2 := 0) B rfl hM rfl (c_X13_behind (w := 0) (t := t) (f := f) (gt := gt) hM hgt htx (by first | assumption | omega) (by first | assumption | decide | omega)) mt_X13_behind sv_X13_219 dX13_kind_14 rfl rfl rfl rfl rfl ?_
  refine pm_stk (st' := [.int (d_X13_behind 0 t f gt)]) rfl ?_
  by_cases hq1 : (d_X13_behind 0 t f gt) = 97
  · refine pm_stk (st' := [.int 97]) (by rw [show (d_X13_behind 0 t f gt) = 97 from hq1]) ?_
    refine pm_tableIn (off := 91) (tgt := 108) B dX13_kind_17 (by decide) (by decide) (by decide) (by decide) ?_
    refine pm_iload_n B dX13_kind_108 rfl ?_
    refine pm_bipush (v := 117) B dX13_kind_109 (by decide) ?_
    refine pm_icmp_ne (tgt := 119) B dX13_kind_111 (by decide) (fun hq2 => ?_) (fun hq2 => ?_)
    · refine pm_bipush (v := 97) B dX13_kind_119 (by decide) ?_
      have hDq3 : (d_X13_kind t f gt) = 97 := by rw [d_X13_kind, if_pos hq1, if_neg hq2]
      exact pm_ireturn B dX13_kind_121 rfl (by first | rfl | (apply pm_nz; first | assumption | decide | exact pm_in01 _ _ _ | simp)) ⟨(by rw [hDq3]), rfl, rfl⟩ rfl rfl
    · refine pm_bipush (v := 117) B dX13_kind_114 (by decide) ?_
      refine pm_goto (tgt := 121) B dX13_kind_116 (by decide) ?_
      have hDq4 : (d_X13_kind t f gt) = 117 := by rw [d_X13_kind, if_pos hq1, if_pos hq2]
      exact pm_ireturn B dX13_kind_121 rfl (by first | rfl | (apply pm_nz; first | assumption | decide | exact pm_in01 _ _ _ | simp)) ⟨(by rw [hDq4]), rfl, rfl⟩ rfl rfl
  · skip
    by_cases hq5 : (d_X13_behind 0 t f gt) = 99
    · refine pm_stk (st' := [.int 99]) (by rw [show (d_X13_behind 0 t f gt) = 99 from hq5]) ?_
      refine pm_tableIn (off := 125) (tgt := 142) B dX13_kind_17 (by decide) (by decide) (by decide) (by decide) ?_
      refine pm_iload_n B dX13_kind_142 rfl ?_
      refine pm_bipush (v := 117) B dX13_kind_143 (by decide) ?_
      refine pm_icmp_ne (tgt := 153) B dX13_kind_145 (by decide) (fun hq6 => ?_) (fun hq6 => ?_)
      · refine pm_bipush (v := 99) B dX13_kind_153 (by decide) ?_
        have hDq7 : (d_X13_kind t f gt) = 99 := by rw [d_X13_kind, if_neg hq1, if_pos hq5, if_neg hq6]
        exact pm_ireturn B dX13_kind_155 rfl (by first | rfl | (apply pm_nz; first | assumption | decide | exact pm_in01 _ _ _ | simp)) ⟨(by rw [hDq7]), rfl, rfl⟩ rfl rfl
      · refine pm_bipush (v := 116) B dX13_kind_148 (by decide) ?_
        refine pm_goto (tgt := 155) B dX13_kind_150 (by decide) ?_
        have hDq8 : (d_X13_kind t f gt) = 116 := by rw [d_X13_kind, if_neg hq1, if_pos hq5, if_pos hq6]
        exact pm_ireturn B dX13_kind_155 rfl (by first | rfl | (apply pm_nz; first | assumption | decide | exact pm_in01 _ _ _ | simp)) ⟨(by rw [hDq8]), rfl, rfl⟩ rfl rfl
    · skip
      by_cases hq9 : (d_X13_behind 0 t f gt) = 108
      · refine pm_stk (st' := [.int 108]) (by rw [show (d_X13_behind 0 t f gt) = 108 from hq9]) ?_
        refine pm_tableIn (off := 139) (tgt := 156) B dX13_kind_17 (by decide) (by decide) (by decide) (by decide) ?_
        refine pm_iload_n B dX13_kind_156 rfl ?_
        refine pm_bipush (v := 105) B dX13_kind_157 (by decide) ?_
        refine pm_icmp_ne (tgt := 173) B dX13_kind_159 (by decide) (fun hq10 => ?_) (fun hq10 => ?_)
        · refine pm_bipush (v := 108) B dX13_kind_173 (by decide) ?_
          have hDq11 : (d_X13_kind t f gt) = 108 := by rw [d_X13_kind, if_neg hq1, if_neg hq5, if_pos hq9, if_neg hq10]
          exact pm_ireturn B dX13_kind_175 rfl (by first | rfl | (apply pm_nz; first | assumption | decide | exact pm_in01 _ _ _ | simp)) ⟨(by rw [hDq11]), rfl, rfl⟩ rfl rfl
        · refine pm_iload_n B dX13_kind_162 rfl ?_
          refine pm_bipush (v := 109) B dX13_kind_163 (by decide) ?_
          refine pm_icmp_ne (tgt := 173) B dX13_kind_165 (by decide) (fun hq12 => ?_) (fun hq12 => ?_)
          · refine pm_bipush (v := 108) B dX13_kind_173 (by decide) ?_
            have hDq13 : (d_X13_kind t f gt) = 108 := by rw [d_X13_kind, if_neg hq1, if_neg hq5, if_pos hq9, if_pos hq10, if_neg hq12]
            exact pm_ireturn B dX13_kind_175 rfl (by first | rfl | (apply pm_nz; first | assumption | decide | exact pm_in01 _ _ _ | simp)) ⟨(by rw [hDq13]), rfl, rfl⟩ rfl rfl
          · refine pm_bipush (v := 109) B dX13_kind_168 (by decide) ?_
            refine pm_goto (tgt := 175) B dX13_kind_170 (by decide) ?_
            have hDq14 : (d_X13_kind t f gt) = 109 := by rw [d_X13_kind, if_neg hq1, if_neg hq5, if_pos hq9, if_pos hq10, if_pos hq12]
            exact pm_ireturn B dX13_kind_175 rfl (by first | rfl | (apply pm_nz; first | assumption | decide | exact pm_in01 _ _ _ | simp)) ⟨(by rw [hDq14]), rfl, rfl⟩ rfl rfl
      · skip
        by_cases hq15 : (d_X13_behind 0 t f gt) = 112
        · refine pm_stk (st' := [.int 112]) (by rw [show (d_X13_behind 0 t f gt) = 112 from hq15]) ?_
          refine pm_tableIn (off := 162) (tgt := 179) B dX13_kind_17 (by decide) (by decide) (by decide) (by decide) ?_
          refine pm_bipush (v := 112) B dX13_kind_179 (by decide) ?_
          have hDq16 : (d_X13_kind t f gt) = 112 := by rw [d_X13_kind, if_neg hq1, if_neg hq5, if_neg hq9, if_pos hq15]
          exact pm_ireturn B dX13_kind_181 rfl (by first | rfl | (apply pm_nz; first | assumption | decide | exact pm_in01 _ _ _ | simp)) ⟨(by rw [hDq16]), rfl, rfl⟩ rfl rfl
        · skip
          by_cases hq17 : (d_X13_behind 0 t f gt) = 114
          · refine pm_stk (st' := [.int 114]) (by rw [show (d_X13_behind 0 t f gt) = 114 from hq17]) ?_
            refine pm_tableIn (off := 159) (tgt := 176) B dX13_kind_17 (by decide) (by decide) (by decide) (by decide) ?_
            refine pm_bipush (v := 114) B dX13_kind_176 (by decide) ?_
            have hDq18 : (d_X13_kind t f gt) = 114 := by rw [d_X13_kind, if_neg hq1, if_neg hq5, if_neg hq9, if_neg hq15, if_pos hq17]
            exact pm_ireturn B dX13_kind_178 rfl (by first | rfl | (apply pm_nz; first | assumption | decide | exact pm_in01 _ _ _ | simp)) ⟨(by rw [hDq18]), rfl, rfl⟩ rfl rfl
          · skip
            by_cases hq19 : (d_X13_behind 0 t f gt) = 115
            · refine pm_stk (st' := [.int 115]) (by rw [show (d_X13_behind 0 t f gt) = 115 from hq19]) ?_
              refine pm_tableIn (off := 105) (tgt := 122) B dX13_kind_17 (by decide) (by decide) (by decide) (by decide) ?_
              refine pm_iload_n B dX13_kind_122 rfl ?_
              refine pm_bipush (v := 101) B dX13_kind_123 (by decide) ?_
              refine pm_icmp_ne (tgt := 139) B dX13_kind_125 (by decide) (fun hq20 => ?_) (fun hq20 => ?_)
              · refine pm_bipush (v := 115) B dX13_kind_139 (by decide) ?_
                have hDq21 : (d_X13_kind t f gt) = 115 := by rw [d_X13_kind, if_neg hq1, if_neg hq5, if_neg hq9, if_neg hq15, if_neg hq17, if_pos hq19, if_neg hq20]
                exact pm_ireturn B dX13_kind_141 rfl (by first | rfl | (apply pm_nz; first | assumption | decide | exact pm_in01 _ _ _ | simp)) ⟨(by rw [hDq21]), rfl, rfl⟩ rfl rfl
              · refine pm_iload_n B dX13_kind_128 rfl ?_
                refine pm_bipush (v := 101) B dX13_kind_129 (by decide) ?_
                refine pm_icmp_ne (tgt := 139) B dX13_kind_131 (by decide) (fun hq22 => ?_) (fun hq22 => ?_)
                · refine pm_bipush (v := 115) B dX13_kind_139 (by decide) ?_
                  have hDq23 : (d_X13_kind t f gt) = 115 := by rw [d_X13_kind, if_neg hq1, if_neg hq5, if_neg hq9, if_neg hq15, if_neg hq17, if_pos hq19, if_pos hq20, if_neg hq22]
                  exact pm_ireturn B dX13_kind_141 rfl (by first | rfl | (apply pm_nz; first | assumption | decide | exact pm_in01 _ _ _ | simp)) ⟨(by rw [hDq23]), rfl, rfl⟩ rfl rfl
                · refine pm_bipush (v := 100) B dX13_kind_134 (by decide) ?_
                  refine pm_goto (tgt := 141) B dX13_kind_136 (by decide) ?_
                  have hDq24 : (d_X13_kind t f gt) = 100 := by rw [d_X13_kind, if_neg hq1, if_neg hq5, if_neg hq9, if_neg hq15, if_neg hq17, if_pos hq19, if_pos hq20, if_pos hq22]
                  exact pm_ireturn B dX13_kind_141 rfl (by first | rfl | (apply pm_nz; first | assumption | decide | exact pm_in01 _ _ _ | simp)) ⟨(by rw [hDq24]), rfl, rfl⟩ rfl rfl
            · skip
              refine pm_tableD (tgt := 182) B dX13_kind_17 (by decide) [97, 99, 108, 112, 114, 115] (by decide) (by decide +kernel) (List.forall_mem_cons.mpr ⟨pm_neI (by decide) hq1, (List.forall_mem_cons.mpr ⟨pm_neI (by decide) hq5, (List.forall_mem_cons.mpr ⟨pm_neI (by decide) hq9, (List.forall_mem_cons.mpr ⟨pm_neI (by decide) hq15, (List.forall_mem_cons.mpr ⟨pm_neI (by decide) hq17, (List.forall_mem_cons.mpr ⟨pm_neI (by decide) hq19, (fun c hc => absurd hc List.not_mem_nil)⟩)⟩)⟩)⟩)⟩)⟩) ?_
              refine pm_bipush (v := 106) B dX13_kind_182 (by decide) ?_
              have hDq25 : (d_X13_kind t f gt) = 106 := by rw [d_X13_kind, if_neg hq1, if_neg hq5, if_neg hq9, if_neg hq15, if_neg hq17, if_neg hq19]
              exact pm_ireturn B dX13_kind_184 rfl (by first | rfl | (apply pm_nz; first | assumption | decide | exact pm_in01 _ _ _ | simp)) ⟨(by rw [hDq25]), rfl, rfl⟩ rfl rfl
def d_X13_readsCommand (cm : Nat) (t : Nat) (f : Nat → Int32) (gt : Nat → Int32) (gc : Nat → Int32) : ((Nat → Int32) × (Nat → Int32)) := if (f 17) = 0 then (if (d_X13_kind t f gt) = 97 then (((d_X13_reads (d_X13_kind t f gt) 4 0 ([97, 115, 115, 105, 103, 110, 32]) ([]) cm t f gt gc).1), ((d_X13_reads (d_X13_kind t f gt) 4 0 ([97, 115, 115, 105, 103, 110, 32]) ([]) cm t f gt gc).2)) else (if (d_X13_kind t f gt) = 99 then (((d_X13_reads (d_X13_kind t f gt) 0 0 ([99, 108, 111, 115, 101]) ([]) cm t f gt gc).1), ((d_X13_reads (d_X13_kind t f gt) 0 0 ([99, 108, 111, 115, 101]) ([]) cm t f gt gc).2)) else (if (d_X13_kind t f gt) = 100 then (((d_X13_reads (d_X13_kind t f gt) 4 0 ([115, 101, 101, 100, 32]) ([]) cm t f gt gc).1), ((d_X13_reads (d_X13_kind t f gt) 4 0 ([115, 101, 101, 100, 32]) ([]) cm t f gt gc).2)) else (if (d_X13_kind t f gt) = 108 then (((d_X13_reads (d_X13_kind t f gt) 1 1 ([108, 105, 110, 107, 32]) ([45]) cm t f gt gc).1), ((d_X13_reads (d_X13_kind t f gt) 1 1 ([108, 105, 110, 107, 32]) ([45]) cm t f gt gc).2)) else (if (d_X13_kind t f gt) = 109 then (((d_X13_reads (d_X13_kind t f gt) 2 0 ([108, 105, 109, 105, 116, 32]) ([]) cm t f gt gc).1), ((d_X13_reads (d_X13_kind t f gt) 2 0 ([108, 105, 109, 105, 116, 32]) ([]) cm t f gt gc).2)) else (if (d_X13_kind t f gt) = 112 then (((d_X13_reads (d_X13_kind t f gt) 1 0 ([112, 97, 114, 100, 111, 110, 32]) ([]) cm t f gt gc).1), ((d_X13_reads (d_X13_kind t f gt) 1 0 ([112, 97, 114, 100, 111, 110, 32]) ([]) cm t f gt gc).2)) else (if (d_X13_kind t f gt) = 114 then (((d_X13_reads (d_X13_kind t f gt) 1 0 ([114, 117, 108, 101, 32]) ([]) cm t f gt gc).1), ((d_X13_reads (d_X13_kind t f gt) 1 0 ([114, 117, 108, 101, 32]) ([]) cm t f gt gc).2)) else (if (d_X13_kind t f gt) = 115 then (((d_X13_reads (d_X13_kind t f gt) 1 2 ([115, 101, 108, 108, 32]) ([32]) cm t f gt gc).1), ((d_X13_reads (d_X13_kind t f gt) 1 2 ([115, 101, 108, 108, 32]) ([32]) cm t f gt gc).2)) else (if (d_X13_kind t f gt) = 116 then (((d_X13_reads (d_X13_kind t f gt) 1 1 ([99, 117, 116, 32]) ([45]) cm t f gt gc).1), ((d_X13_reads (d_X13_kind t f gt) 1 1 ([99, 117, 116, 32]) ([45]) cm t f gt gc).2)) else (if (d_X13_kind t f gt) = 117 then (((d_X13_reads (d_X13_kind t f gt) 1 0 ([97, 117, 100, 105, 116, 32]) ([]) cm t f gt gc).1), ((d_X13_reads (d_X13_kind t f gt) 1 0 ([97, 117, 100, 105, 116, 32]) ([]) cm t f gt gc).2)) else (((d_X13_reads (d_X13_kind t f gt) 2 2 ([106, 111, 105, 110, 32]) ([32]) cm t f gt gc).1), ((d_X13_reads (d_X13_kind t f gt) 2 2 ([106, 111, 105, 110, 32]) ([32]) cm t f gt gc).2)))))))))))) else (f, gc)
set_option maxRecDepth 100000 in
set_option maxHeartbeats 8000000 in
theorem c_X13_readsCommand {l : Launch} {z : Nat} {D : va_G} {kA : Nat → ClassId} {kE : Nat → Nat} {nx : Nat} {M : pm_M} {cm : Nat} {t : Nat}{m0 : Nat} {f : Nat → Int32} {gt : Nat → Int32} {gc : Nat → Int32} (hM : M m0 = some (pm_mo z m0 f)) (hgt : M (m0 + 6) = some (.inl (kA 3, 60, .inl gt))) (hgc : M (m0 + 7) = some (.inl (kA 0, 180, .inl gc))) (htx : pm_tx t f) (ht : t ≤ 60) (hcm : f 20 = nI cm) (hc59 : cm < 60) : pm_C l z D kA kE yX13_readsCommand cX13_readsCommand 2 none 6 0 0 [.ref (z + m0)] nx M (pm_rt none nx (pm_up (pm_up M m0 (pm_mo z m0 ((d_X13_readsCommand cm t f gt gc).1))) (m0 + 7) (.inl (kA 0, 180, .inl ((d_X13_readsCommand cm t f gt gc).2))))) := by
  refine pm_mk (own := RX13) (nm := "readsCommand") mt_X13_readsCommand rfl rfl rfl rfl fun X B => ?_
  refine pm_loc (L' := [some (.ref (z + m0)), none]) rfl ?_
  refine pm_mem (M' := pm_up (pm_up M m0 (pm_mo z m0 f)) (m0 + 7) (.inl (kA 0, 180, .inl gc))) (by rw [pm_up_id hM, pm_up_id hgc]) ?_
  refine pm_aload_n B dX13_readsCommand_0 rfl ?_
  refine pm_get B dX13_readsCommand_1 fl_X13_215 ((pm_up_n (by omega)).trans pm_up_s) rfl ?_
  refine pm_if_eq (tgt := 8) B dX13_readsCommand_4 (by decide) (fun hq1 => ?_) (fun hq1 => ?_)
  · refine pm_aload_n B dX13_readsCommand_8 rfl ?_
    refine pm_cV (As := []) (mc2 := 0) (ms2 := 0) B rfl ((pm_up_n (by omega)).trans pm_up_s) rfl (c_X13_kind (t := t) (f := f) (gt := gt) ((pm_up_n (by omega)).trans pm_up_s) ((pm_up_n (by omega)).trans ((pm_up_n (by omega)).trans hgt)) htx (by first | assumption | omega)) mt_X13_kind sv_X13_240 dX13_readsCommand_9 rfl rfl rfl rfl rfl ?_
    refine pm_stk (st' := [.int (d_X13_kind t f gt)]) rfl ?_
    refine pm_istore_n B dX13_readsCommand_12 rfl rfl ?_
    refine pm_loc (L' := [some (.ref (z + m0)), some (.int (d_X13_kind t f gt))]) rfl ?_
    refine pm_iload_n B dX13_readsCommand_13 rfl ?_
    by_cases hq2 : (d_X13_kind t f gt) = 97
    · refine pm_stk (st' := [.int 97]) (by rw [show (d_X13_kind t f gt) = 97 from hq2]) ?_
      refine pm_tableIn (off := 98) (tgt := 112) B dX13_readsCommand_14 (by decide) (by decide) (by decide) (by decide) ?_
      refine pm_aload_n B dX13_readsCommand_112 rfl ?_
      refine pm_iload_n B dX13_readsCommand_113 rfl ?_
      refine pm_ldcS (a := kE (40 + 0)) B (fun U H h => (h.2.1 0 (by decide)).1) dX13_readsCommand_114 ?_
      refine pm_iconst (v := 4) B dX13_readsCommand_116 (by decide) ?_
      refine pm_ldcS (a := kE (40 + 1)) B (fun U H h => (h.2.1 1 (by decide)).1) dX13_readsCommand_117 ?_
      refine pm_iconst (v := 0) B dX13_readsCommand_119 (by decide) ?_
      refine pm_cV (As := [.int (d_X13_kind t f gt), .ref (kE (40 + 0)), .int (nI 4), .ref (kE (40 + 1)), .int (nI 0)]) (mc2 := 0) (ms2 := 0) B rfl ((pm_up_n (by omega)).trans pm_up_s) rfl (c_X13_reads (x := (d_X13_kind t f gt)) (w1 := 4) (w2 := 0) (bs1 := [97, 115, 115, 105, 103, 110, 32]) (bs2 := []) (cm := cm) (t := t) (s1 := kE (40 + 0)) (v1 := kE (140 + 0)) (s2 := kE (40 + 1)) (v2 := kE (140 + 1)) (f := f) (gt := gt) (gc := gc) ((pm_up_n (by omega)).trans pm_up_s) ((pm_up_n (by omega)).trans ((pm_up_n (by omega)).trans hgt)) pm_up_s htx (by first | assumption | omega) hcm (by first | assumption | omega) (fun U H h => (h.2.1 0 (by decide)).2) (by first | assumption | decide) (fun U H h => (h.2.1 1 (by decide)).2) (by first | assumption | decide) (by decide) (by decide)) mt_X13_reads sv_X13_247 dX13_readsCommand_120 rfl rfl rfl rfl rfl ?_
      refine pm_mem (M' := pm_up (pm_up (pm_up (pm_up M m0 (pm_mo z m0 f)) (m0 + 7) (.inl (kA 0, 180, .inl gc))) m0 (pm_mo z m0 ((d_X13_reads (d_X13_kind t f gt) 4 0 ([97, 115, 115, 105, 103, 110, 32]) ([]) cm t f gt gc).1))) (m0 + 7) (.inl (kA 0, 180, .inl ((d_X13_reads (d_X13_kind t f gt) 4 0 ([97, 115, 115, 105, 103, 110, 32]) ([]) cm t f gt gc).2)))) rfl ?_
      refine pm_mem (M' := pm_up (pm_up (pm_up M m0 (pm_mo z m0 ((d_X13_reads (d_X13_kind t f gt) 4 0 ([97, 115, 115, 105, 103, 110, 32]) ([]) cm t f gt gc).1))) (m0 + 7) (.inl (kA 0, 180, .inl gc))) (m0 + 7) (.inl (kA 0, 180, .inl ((d_X13_reads (d_X13_kind t f gt) 4 0 ([97, 115, 115, 105, 103, 110, 32]) ([]) cm t f gt gc).2)))) (by rw [pm_up_sw (a := m0 + 7) (b := m0) (by omega), pm_up_up (a := m0)]) ?_
      refine pm_mem (M' := pm_up (pm_up M m0 (pm_mo z m0 ((d_X13_reads (d_X13_kind t f gt) 4 0 ([97, 115, 115, 105, 103, 110, 32]) ([]) cm t f gt gc).1))) (m0 + 7) (.inl (kA 0, 180, .inl ((d_X13_reads (d_X13_kind t f gt) 4 0 ([97, 115, 115, 105, 103, 110, 32]) ([]) cm t f gt gc).2)))) (by rw [pm_up_up (a := m0 + 7)]) ?_
      refine pm_stk (st' := []) rfl ?_
      refine pm_goto (tgt := 273) B dX13_readsCommand_123 (by decide) ?_
      have hDq3 : (d_X13_readsCommand cm t f gt gc) = (((d_X13_reads (d_X13_kind t f gt) 4 0 ([97, 115, 115, 105, 103, 110, 32]) ([]) cm t f gt gc).1), ((d_X13_reads (d_X13_kind t f gt) 4 0 ([97, 115, 115, 105, 103, 110, 32]) ([]) cm t f gt gc).2)) := by rw [d_X13_readsCommand, if_pos hq1, if_pos hq2]
      exact pm_return B dX13_readsCommand_273 rfl ⟨rfl, rfl, by rw [hDq3]⟩ rfl rfl
    · skip
      by_cases hq4 : (d_X13_kind t f gt) = 99
      · refine pm_stk (st' := [.int 99]) (by rw [show (d_X13_kind t f gt) = 99 from hq4]) ?_
        refine pm_tableIn (off := 155) (tgt := 169) B dX13_readsCommand_14 (by decide) (by decide) (by decide) (by decide) ?_
        refine pm_aload_n B dX13_readsCommand_169 rfl ?_
        refine pm_iload_n B dX13_readsCommand_170 rfl ?_
        refine pm_ldcwS (a := kE (40 + 6)) B (fun U H h => (h.2.1 6 (by decide)).1) dX13_readsCommand_171 ?_
        refine pm_iconst (v := 0) B dX13_readsCommand_174 (by decide) ?_
        refine pm_ldcS (a := kE (40 + 1)) B (fun U H h => (h.2.1 1 (by decide)).1) dX13_readsCommand_175 ?_
        refine pm_iconst (v := 0) B dX13_readsCommand_177 (by decide) ?_
        refine pm_cV (As := [.int (d_X13_kind t f gt), .ref (kE (40 + 6)), .int (nI 0), .ref (kE (40 + 1)), .int (nI 0)]) (mc2 := 0) (ms2 := 0) B rfl ((pm_up_n (by omega)).trans pm_up_s) rfl (c_X13_reads (x := (d_X13_kind t f gt)) (w1 := 0) (w2 := 0) (bs1 := [99, 108, 111, 115, 101]) (bs2 := []) (cm := cm) (t := t) (s1 := kE (40 + 6)) (v1 := kE (140 + 6)) (s2 := kE (40 + 1)) (v2 := kE (140 + 1)) (f := f) (gt := gt) (gc := gc) ((pm_up_n (by omega)).trans pm_up_s) ((pm_up_n (by omega)).trans ((pm_up_n (by omega)).trans hgt)) pm_up_s htx (by first | assumption | omega) hcm (by first | assumption | omega) (fun U H h => (h.2.1 6 (by decide)).2) (by first | assumption | decide) (fun U H h => (h.2.1 1 (by decide)).2) (by first | assumption | decide) (by decide) (by decide)) mt_X13_reads sv_X13_247 dX13_readsCommand_178 rfl rfl rfl rfl rfl ?_
        refine pm_mem (M' := pm_up (pm_up (pm_up (pm_up M m0 (pm_mo z m0 f)) (m0 + 7) (.inl (kA 0, 180, .inl gc))) m0 (pm_mo z m0 ((d_X13_reads (d_X13_kind t f gt) 0 0 ([99, 108, 111, 115, 101]) ([]) cm t f gt gc).1))) (m0 + 7) (.inl (kA 0, 180, .inl ((d_X13_reads (d_X13_kind t f gt) 0 0 ([99, 108, 111, 115, 101]) ([]) cm t f gt gc).2)))) rfl ?_
        refine pm_mem (M' := pm_up (pm_up (pm_up M m0 (pm_mo z m0 ((d_X13_reads (d_X13_kind t f gt) 0 0 ([99, 108, 111, 115, 101]) ([]) cm t f gt gc).1))) (m0 + 7) (.inl (kA 0, 180, .inl gc))) (m0 + 7) (.inl (kA 0, 180, .inl ((d_X13_reads (d_X13_kind t f gt) 0 0 ([99, 108, 111, 115, 101]) ([]) cm t f gt gc).2)))) (by rw [pm_up_sw (a := m0 + 7) (b := m0) (by omega), pm_up_up (a := m0)]) ?_
        refine pm_mem (M' := pm_up (pm_up M m0 (pm_mo z m0 ((d_X13_reads (d_X13_kind t f gt) 0 0 ([99, 108, 111, 115, 101]) ([]) cm t f gt gc).1))) (m0 + 7) (.inl (kA 0, 180, .inl ((d_X13_reads (d_X13_kind t f gt) 0 0 ([99, 108, 111, 115, 101]) ([]) cm t f gt gc).2)))) (by rw [pm_up_up (a := m0 + 7)]) ?_
        refine pm_stk (st' := []) rfl ?_
        refine pm_goto (tgt := 273) B dX13_readsCommand_181 (by decide) ?_
        have hDq5 : (d_X13_readsCommand cm t f gt gc) = (((d_X13_reads (d_X13_kind t f gt) 0 0 ([99, 108, 111, 115, 101]) ([]) cm t f gt gc).1), ((d_X13_reads (d_X13_kind t f gt) 0 0 ([99, 108, 111, 115, 101]) ([]) cm t f gt gc).2)) := by rw [d_X13_readsCommand, if_pos hq1, if_neg hq2, if_pos hq4]
        exact pm_return B dX13_readsCommand_273 rfl ⟨rfl, rfl, by rw [hDq5]⟩ rfl rfl
      · skip
        by_cases hq6 : (d_X13_kind t f gt) = 100
        · refine pm_stk (st' := [.int 100]) (by rw [show (d_X13_kind t f gt) = 100 from hq6]) ?_
          refine pm_tableIn (off := 140) (tgt := 154) B dX13_readsCommand_14 (by decide) (by decide) (by decide) (by decide) ?_
          refine pm_aload_n B dX13_readsCommand_154 rfl ?_
          refine pm_iload_n B dX13_readsCommand_155 rfl ?_
          refine pm_ldcwS (a := kE (40 + 5)) B (fun U H h => (h.2.1 5 (by decide)).1) dX13_readsCommand_156 ?_
          refine pm_iconst (v := 4) B dX13_readsCommand_159 (by decide) ?_
          refine pm_ldcS (a := kE (40 + 1)) B (fun U H h => (h.2.1 1 (by decide)).1) dX13_readsCommand_160 ?_
          refine pm_iconst (v := 0) B dX13_readsCommand_162 (by decide) ?_
          refine pm_cV (As := [.int (d_X13_kind t f gt), .ref (kE (40 + 5)), .int (nI 4), .ref (kE (40 + 1)), .int (nI 0)]) (mc2 := 0) (ms2 := 0) B rfl ((pm_up_n (by omega)).trans pm_up_s) rfl (c_X13_reads (x := (d_X13_kind t f gt)) (w1 := 4) (w2 := 0) (bs1 := [115, 101, 101, 100, 32]) (bs2 := []) (cm := cm) (t := t) (s1 := kE (40 + 5)) (v1 := kE (140 + 5)) (s2 := kE (40 + 1)) (v2 := kE (140 + 1)) (f := f) (gt := gt) (gc := gc) ((pm_up_n (by omega)).trans pm_up_s) ((pm_up_n (by omega)).trans ((pm_up_n (by omega)).trans hgt)) pm_up_s htx (by first | assumption | omega) hcm (by first | assumption | omega) (fun U H h => (h.2.1 5 (by decide)).2) (by first | assumption | decide) (fun U H h => (h.2.1 1 (by decide)).2) (by first | assumption | decide) (by decide) (by decide)) mt_X13_reads sv_X13_247 dX13_readsCommand_163 rfl rfl rfl rfl rfl ?_
          refine pm_mem (M' := pm_up (pm_up (pm_up (pm_up M m0 (pm_mo z m0 f)) (m0 + 7) (.inl (kA 0, 180, .inl gc))) m0 (pm_mo z m0 ((d_X13_reads (d_X13_kind t f gt) 4 0 ([115, 101, 101, 100, 32]) ([]) cm t f gt gc).1))) (m0 + 7) (.inl (kA 0, 180, .inl ((d_X13_reads (d_X13_kind t f gt) 4 0 ([115, 101, 101, 100, 32]) ([]) cm t f gt gc).2)))) rfl ?_
          refine pm_mem (M' := pm_up (pm_up (pm_up M m0 (pm_mo z m0 ((d_X13_reads (d_X13_kind t f gt) 4 0 ([115, 101, 101, 100, 32]) ([]) cm t f gt gc).1))) (m0 + 7) (.inl (kA 0, 180, .inl gc))) (m0 + 7) (.inl (kA 0, 180, .inl ((d_X13_reads (d_X13_kind t f gt) 4 0 ([115, 101, 101, 100, 32]) ([]) cm t f gt gc).2)))) (by rw [pm_up_sw (a := m0 + 7) (b := m0) (by omega), pm_up_up (a := m0)]) ?_
          refine pm_mem (M' := pm_up (pm_up M m0 (pm_mo z m0 ((d_X13_reads (d_X13_kind t f gt) 4 0 ([115, 101, 101, 100, 32]) ([]) cm t f gt gc).1))) (m0 + 7) (.inl (kA 0, 180, .inl ((d_X13_reads (d_X13_kind t f gt) 4 0 ([115, 101, 101, 100, 32]) ([]) cm t f gt gc).2)))) (by rw [pm_up_up (a := m0 + 7)]) ?_
          refine pm_stk (st' := []) rfl ?_
          refine pm_goto (tgt := 273) B dX13_readsCommand_166 (by decide) ?_
          have hDq7 : (d_X13_readsCommand cm t f gt gc) = (((d_X13_reads (d_X13_kind t f gt) 4 0 ([115, 101, 101, 100, 32]) ([]) cm t f gt gc).1), ((d_X13_reads (d_X13_kind t f gt) 4 0 ([115, 101, 101, 100, 32]) ([]) cm t f gt gc).2)) := by rw [d_X13_readsCommand, if_pos hq1, if_neg hq2, if_neg hq4, if_pos hq6]
          exact pm_return B dX13_readsCommand_273 rfl ⟨rfl, rfl, by rw [hDq7]⟩ rfl rfl
        · skip
          by_cases hq8 : (d_X13_kind t f gt) = 108
          · refine pm_stk (st' := [.int 108]) (by rw [show (d_X13_kind t f gt) = 108 from hq8]) ?_
            refine pm_tableIn (off := 186) (tgt := 200) B dX13_readsCommand_14 (by decide) (by decide) (by decide) (by decide) ?_
            refine pm_aload_n B dX13_readsCommand_200 rfl ?_
            refine pm_iload_n B dX13_readsCommand_201 rfl ?_
            refine pm_ldcwS (a := kE (40 + 9)) B (fun U H h => (h.2.1 9 (by decide)).1) dX13_readsCommand_202 ?_
            refine pm_iconst (v := 1) B dX13_readsCommand_205 (by decide) ?_
            refine pm_ldcwS (a := kE (40 + 8)) B (fun U H h => (h.2.1 8 (by decide)).1) dX13_readsCommand_206 ?_
            refine pm_iconst (v := 1) B dX13_readsCommand_209 (by decide) ?_
            refine pm_cV (As := [.int (d_X13_kind t f gt), .ref (kE (40 + 9)), .int (nI 1), .ref (kE (40 + 8)), .int (nI 1)]) (mc2 := 0) (ms2 := 0) B rfl ((pm_up_n (by omega)).trans pm_up_s) rfl (c_X13_reads (x := (d_X13_kind t f gt)) (w1 := 1) (w2 := 1) (bs1 := [108, 105, 110, 107, 32]) (bs2 := [45]) (cm := cm) (t := t) (s1 := kE (40 + 9)) (v1 := kE (140 + 9)) (s2 := kE (40 + 8)) (v2 := kE (140 + 8)) (f := f) (gt := gt) (gc := gc) ((pm_up_n (by omega)).trans pm_up_s) ((pm_up_n (by omega)).trans ((pm_up_n (by omega)).trans hgt)) pm_up_s htx (by first | assumption | omega) hcm (by first | assumption | omega) (fun U H h => (h.2.1 9 (by decide)).2) (by first | assumption | decide) (fun U H h => (h.2.1 8 (by decide)).2) (by first | assumption | decide) (by decide) (by decide)) mt_X13_reads sv_X13_247 dX13_readsCommand_210 rfl rfl rfl rfl rfl ?_
            refine pm_mem (M' := pm_up (pm_up (pm_up (pm_up M m0 (pm_mo z m0 f)) (m0 + 7) (.inl (kA 0, 180, .inl gc))) m0 (pm_mo z m0 ((d_X13_reads (d_X13_kind t f gt) 1 1 ([108, 105, 110, 107, 32]) ([45]) cm t f gt gc).1))) (m0 + 7) (.inl (kA 0, 180, .inl ((d_X13_reads (d_X13_kind t f gt) 1 1 ([108, 105, 110, 107, 32]) ([45]) cm t f gt gc).2)))) rfl ?_
            refine pm_mem (M' := pm_up (pm_up (pm_up M m0 (pm_mo z m0 ((d_X13_reads (d_X13_kind t f gt) 1 1 ([108, 105, 110, 107, 32]) ([45]) cm t f gt gc).1))) (m0 + 7) (.inl (kA 0, 180, .inl gc))) (m0 + 7) (.inl (kA 0, 180, .inl ((d_X13_reads (d_X13_kind t f gt) 1 1 ([108, 105, 110, 107, 32]) ([45]) cm t f gt gc).2)))) (by rw [pm_up_sw (a := m0 + 7) (b := m0) (by omega), pm_up_up (a := m0)]) ?_
            refine pm_mem (M' := pm_up (pm_up M m0 (pm_mo z m0 ((d_X13_reads (d_X13_kind t f gt) 1 1 ([108, 105, 110, 107, 32]) ([45]) cm t f gt gc).1))) (m0 + 7) (.inl (kA 0, 180, .inl ((d_X13_reads (d_X13_kind t f gt) 1 1 ([108, 105, 110, 107, 32]) ([45]) cm t f gt gc).2)))) (by rw [pm_up_up (a := m0 + 7)]) ?_
            refine pm_stk (st' := []) rfl ?_
            refine pm_goto (tgt := 273) B dX13_readsCommand_213 (by decide) ?_
            have hDq9 : (d_X13_readsCommand cm t f gt gc) = (((d_X13_reads (d_X13_kind t f gt) 1 1 ([108, 105, 110, 107, 32]) ([45]) cm t f gt gc).1), ((d_X13_reads (d_X13_kind t f gt) 1 1 ([108, 105, 110, 107, 32]) ([45]) cm t f gt gc).2)) := by rw [d_X13_readsCommand, if_pos hq1, if_neg hq2, if_neg hq4, if_neg hq6, if_pos hq8]
            exact pm_return B dX13_readsCommand_273 rfl ⟨rfl, rfl, by rw [hDq9]⟩ rfl rfl
          · skip
            by_cases hq10 : (d_X13_kind t f gt) = 109
            · refine pm_stk (st' := [.int 109]) (by rw [show (d_X13_kind t f gt) = 109 from hq10]) ?_
              refine pm_tableIn (off := 202) (tgt := 216) B dX13_readsCommand_14 (by decide) (by decide) (by decide) (by decide) ?_
              refine pm_aload_n B dX13_readsCommand_216 rfl ?_
              refine pm_iload_n B dX13_readsCommand_217 rfl ?_
              refine pm_ldcwS (a := kE (40 + 10)) B (fun U H h => (h.2.1 10 (by decide)).1) dX13_readsCommand_218 ?_
              refine pm_iconst (v := 2) B dX13_readsCommand_221 (by decide) ?_
              refine pm_ldcS (a := kE (40 + 1)) B (fun U H h => (h.2.1 1 (by decide)).1) dX13_readsCommand_222 ?_
              refine pm_iconst (v := 0) B dX13_readsCommand_224 (by decide) ?_
              refine pm_cV (As := [.int (d_X13_kind t f gt), .ref (kE (40 + 10)), .int (nI 2), .ref (kE (40 + 1)), .int (nI 0)]) (mc2 := 0) (ms2 := 0) B rfl ((pm_up_n (by omega)).trans pm_up_s) rfl (c_X13_reads (x := (d_X13_kind t f gt)) (w1 := 2) (w2 := 0) (bs1 := [108, 105, 109, 105, 116, 32]) (bs2 := []) (cm := cm) (t := t) (s1 := kE (40 + 10)) (v1 := kE (140 + 10)) (s2 := kE (40 + 1)) (v2 := kE (140 + 1)) (f := f) (gt := gt) (gc := gc) ((pm_up_n (by omega)).trans pm_up_s) ((pm_up_n (by omega)).trans ((pm_up_n (by omega)).trans hgt)) pm_up_s htx (by first | assumption | omega) hcm (by first | assumption | omega) (fun U H h => (h.2.1 10 (by decide)).2) (by first | assumption | decide) (fun U H h => (h.2.1 1 (by decide)).2) (by first | assumption | decide) (by decide) (by decide)) mt_X13_reads sv_X13_247 dX13_readsCommand_225 rfl rfl rfl rfl rfl ?_
              refine pm_mem (M' := pm_up (pm_up (pm_up (pm_up M m0 (pm_mo z m0 f)) (m0 + 7) (.inl (kA 0, 180, .inl gc))) m0 (pm_mo z m0 ((d_X13_reads (d_X13_kind t f gt) 2 0 ([108, 105, 109, 105, 116, 32]) ([]) cm t f gt gc).1))) (m0 + 7) (.inl (kA 0, 180, .inl ((d_X13_reads (d_X13_kind t f gt) 2 0 ([108, 105, 109, 105, 116, 32]) ([]) cm t f gt gc).2)))) rfl ?_
              refine pm_mem (M' := pm_up (pm_up (pm_up M m0 (pm_mo z m0 ((d_X13_reads (d_X13_kind t f gt) 2 0 ([108, 105, 109, 105, 116, 32]) ([]) cm t f gt gc).1))) (m0 + 7) (.inl (kA 0, 180, .inl gc))) (m0 + 7) (.inl (kA 0, 180, .inl ((d_X13_reads (d_X13_kind t f gt) 2 0 ([108, 105, 109, 105, 116, 32]) ([]) cm t f gt gc).2)))) (by rw [pm_up_sw (a := m0 + 7) (b := m0) (by omega), pm_up_up (a := m0)]) ?_
              refine pm_mem (M' := pm_up (pm_up M m0 (pm_mo z m0 ((d_X13_reads (d_X13_kind t f gt) 2 0 ([108, 105, 109, 105, 116, 32]) ([]) cm t f gt gc).1))) (m0 + 7) (.inl (kA 0, 180, .inl ((d_X13_reads (d_X13_kind t f gt) 2 0 ([108, 105, 109, 105, 116, 32]) ([]) cm t f gt gc).2)))) (by rw [pm_up_up (a := m0 + 7)]) ?_
              refine pm_stk (st' := []) rfl ?_
              refine pm_goto (tgt := 273) B dX13_readsCommand_228 (by decide) ?_
              have hDq11 : (d_X13_readsCommand cm t f gt gc) = (((d_X13_reads (d_X13_kind t f gt) 2 0 ([108, 105, 109, 105, 116, 32]) ([]) cm t f gt gc).1), ((d_X13_reads (d_X13_kind t f gt) 2 0 ([108, 105, 109, 105, 116, 32]) ([]) cm t f gt gc).2)) := by rw [d_X13_readsCommand, if_pos hq1, if_neg hq2, if_neg hq4, if_neg hq6, if_neg hq8, if_pos hq10]
              exact pm_return B dX13_readsCommand_273 rfl ⟨rfl, rfl, by rw [hDq11]⟩ rfl rfl
            · skip
              by_cases hq12 : (d_X13_kind t f gt) = 112
              · refine pm_stk (st' := [.int 112]) (by rw [show (d_X13_kind t f gt) = 112 from hq12]) ?_
                refine pm_tableIn (off := 232) (tgt := 246) B dX13_readsCommand_14 (by decide) (by decide) (by decide) (by decide) ?_
                refine pm_aload_n B dX13_readsCommand_246 rfl ?_
                refine pm_iload_n B dX13_readsCommand_247 rfl ?_
                refine pm_ldcwS (a := kE (40 + 12)) B (fun U H h => (h.2.1 12 (by decide)).1) dX13_readsCommand_248 ?_
                refine pm_iconst (v := 1) B dX13_readsCommand_251 (by decide) ?_
                refine pm_ldcS (a := kE (40 + 1)) B (fun U H h => (h.2.1 1 (by decide)).1) dX13_readsCommand_252 ?_
                refine pm_iconst (v := 0) B dX13_readsCommand_254 (by decide) ?_
                refine pm_cV (As := [.int (d_X13_kind t f gt), .ref (kE (40 + 12)), .int (nI 1), .ref (kE (40 + 1)), .int (nI 0)]) (mc2 := 0) (ms2 := 0) B rfl ((pm_up_n (by omega)).trans pm_up_s) rfl (c_X13_reads (x := (d_X13_kind t f gt)) (w1 := 1) (w2 := 0) (bs1 := [112, 97, 114, 100, 111, 110, 32]) (bs2 := []) (cm := cm) (t := t) (s1 := kE (40 + 12)) (v1 := kE (140 + 12)) (s2 := kE (40 + 1)) (v2 := kE (140 + 1)) (f := f) (gt := gt) (gc := gc) ((pm_up_n (by omega)).trans pm_up_s) ((pm_up_n (by omega)).trans ((pm_up_n (by omega)).trans hgt)) pm_up_s htx (by first | assumption | omega) hcm (by first | assumption | omega) (fun U H h => (h.2.1 12 (by decide)).2) (by first | assumption | decide) (fun U H h => (h.2.1 1 (by decide)).2) (by first | assumption | decide) (by decide) (by decide)) mt_X13_reads sv_X13_247 dX13_readsCommand_255 rfl rfl rfl rfl rfl ?_
                refine pm_mem (M' := pm_up (pm_up (pm_up (pm_up M m0 (pm_mo z m0 f)) (m0 + 7) (.inl (kA 0, 180, .inl gc))) m0 (pm_mo z m0 ((d_X13_reads (d_X13_kind t f gt) 1 0 ([112, 97, 114, 100, 111, 110, 32]) ([]) cm t f gt gc).1))) (m0 + 7) (.inl (kA 0, 180, .inl ((d_X13_reads (d_X13_kind t f gt) 1 0 ([112, 97, 114, 100, 111, 110, 32]) ([]) cm t f gt gc).2)))) rfl ?_
                refine pm_mem (M' := pm_up (pm_up (pm_up M m0 (pm_mo z m0 ((d_X13_reads (d_X13_kind t f gt) 1 0 ([112, 97, 114, 100, 111, 110, 32]) ([]) cm t f gt gc).1))) (m0 + 7) (.inl (kA 0, 180, .inl gc))) (m0 + 7) (.inl (kA 0, 180, .inl ((d_X13_reads (d_X13_kind t f gt) 1 0 ([112, 97, 114, 100, 111, 110, 32]) ([]) cm t f gt gc).2)))) (by rw [pm_up_sw (a := m0 + 7) (b := m0) (by omega), pm_up_up (a := m0)]) ?_
                refine pm_mem (M' := pm_up (pm_up M m0 (pm_mo z m0 ((d_X13_reads (d_X13_kind t f gt) 1 0 ([112, 97, 114, 100, 111, 110, 32]) ([]) cm t f gt gc).1))) (m0 + 7) (.inl (kA 0, 180, .inl ((d_X13_reads (d_X13_kind t f gt) 1 0 ([112, 97, 114, 100, 111, 110, 32]) ([]) cm t f gt gc).2)))) (by rw [pm_up_up (a := m0 + 7)]) ?_
                refine pm_stk (st' := []) rfl ?_
                refine pm_goto (tgt := 273) B dX13_readsCommand_258 (by decide) ?_
                have hDq13 : (d_X13_readsCommand cm t f gt gc) = (((d_X13_reads (d_X13_kind t f gt) 1 0 ([112, 97, 114, 100, 111, 110, 32]) ([]) cm t f gt gc).1), ((d_X13_reads (d_X13_kind t f gt) 1 0 ([112, 97, 114, 100, 111, 110, 32]) ([]) cm t f gt gc).2)) := by rw [d_X13_readsCommand, if_pos hq1, if_neg hq2, if_neg hq4, if_neg hq6, if_neg hq8, if_neg hq10, if_pos hq12]
                exact pm_return B dX13_readsCommand_273 rfl ⟨rfl, rfl, by rw [hDq13]⟩ rfl rfl
              · skip
                by_cases hq14 : (d_X13_kind t f gt) = 114
                · refine pm_stk (st' := [.int 114]) (by rw [show (d_X13_kind t f gt) = 114 from hq14]) ?_
                  refine pm_tableIn (off := 217) (tgt := 231) B dX13_readsCommand_14 (by decide) (by decide) (by decide) (by decide) ?_
                  refine pm_aload_n B dX13_readsCommand_231 rfl ?_
                  refine pm_iload_n B dX13_readsCommand_232 rfl ?_
                  refine pm_ldcwS (a := kE (40 + 11)) B (fun U H h => (h.2.1 11 (by decide)).1) dX13_readsCommand_233 ?_
                  refine pm_iconst (v := 1) B dX13_readsCommand_236 (by decide) ?_
                  refine pm_ldcS (a := kE (40 + 1)) B (fun U H h => (h.2.1 1 (by decide)).1) dX13_readsCommand_237 ?_
                  refine pm_iconst (v := 0) B dX13_readsCommand_239 (by decide) ?_
                  refine pm_cV (As := [.int (d_X13_kind t f gt), .ref (kE (40 + 11)), .int (nI 1), .ref (kE (40 + 1)), .int (nI 0)]) (mc2 := 0) (ms2 := 0) B rfl ((pm_up_n (by omega)).trans pm_up_s) rfl (c_X13_reads (x := (d_X13_kind t f gt)) (w1 := 1) (w2 := 0) (bs1 := [114, 117, 108, 101, 32]) (bs2 := []) (cm := cm) (t := t) (s1 := kE (40 + 11)) (v1 := kE (140 + 11)) (s2 := kE (40 + 1)) (v2 := kE (140 + 1)) (f := f) (gt := gt) (gc := gc) ((pm_up_n (by omega)).trans pm_up_s) ((pm_up_n (by omega)).trans ((pm_up_n (by omega)).trans hgt)) pm_up_s htx (by first | assumption | omega) hcm (by first | assumption | omega) (fun U H h => (h.2.1 11 (by decide)).2) (by first | assumption | decide) (fun U H h => (h.2.1 1 (by decide)).2) (by first | assumption | decide) (by decide) (by decide)) mt_X13_reads sv_X13_247 dX13_readsCommand_240 rfl rfl rfl rfl rfl ?_
                  refine pm_mem (M' := pm_up (pm_up (pm_up (pm_up M m0 (pm_mo z m0 f)) (m0 + 7) (.inl (kA 0, 180, .inl gc))) m0 (pm_mo z m0 ((d_X13_reads (d_X13_kind t f gt) 1 0 ([114, 117, 108, 101, 32]) ([]) cm t f gt gc).1))) (m0 + 7) (.inl (kA 0, 180, .inl ((d_X13_reads (d_X13_kind t f gt) 1 0 ([114, 117, 108, 101, 32]) ([]) cm t f gt gc).2)))) rfl ?_
                  refine pm_mem (M' := pm_up (pm_up (pm_up M m0 (pm_mo z m0 ((d_X13_reads (d_X13_kind t f gt) 1 0 ([114, 117, 108, 101, 32]) ([]) cm t f gt gc).1))) (m0 + 7) (.inl (kA 0, 180, .inl gc))) (m0 + 7) (.inl (kA 0, 180, .inl ((d_X13_reads (d_X13_kind t f gt) 1 0 ([114, 117, 108, 101, 32]) ([]) cm t f gt gc).2)))) (by rw [pm_up_sw (a := m0 + 7) (b := m0) (by omega), pm_up_up (a := m0)]) ?_
                  refine pm_mem (M' := pm_up (pm_up M m0 (pm_mo z m0 ((d_X13_reads (d_X13_kind t f gt) 1 0 ([114, 117, 108, 101, 32]) ([]) cm t f gt gc).1))) (m0 + 7) (.inl (kA 0, 180, .inl ((d_X13_reads (d_X13_kind t f gt) 1 0 ([114, 117, 108, 101, 32]) ([]) cm t f gt gc).2)))) (by rw [pm_up_up (a := m0 + 7)]) ?_
                  refine pm_stk (st' := []) rfl ?_
                  refine pm_goto (tgt := 273) B dX13_readsCommand_243 (by decide) ?_
                  have hDq15 : (d_X13_readsCommand cm t f gt gc) = (((d_X13_reads (d_X13_kind t f gt) 1 0 ([114, 117, 108, 101, 32]) ([]) cm t f gt gc).1), ((d_X13_reads (d_X13_kind t f gt) 1 0 ([114, 117, 108, 101, 32]) ([]) cm t f gt gc).2)) := by rw [d_X13_readsCommand, if_pos hq1, if_neg hq2, if_neg hq4, if_neg hq6, if_neg hq8, if_neg hq10, if_neg hq12, if_pos hq14]
                  exact pm_return B dX13_readsCommand_273 rfl ⟨rfl, rfl, by rw [hDq15]⟩ rfl rfl
                · skip
                  by_cases hq16 : (d_X13_kind t f gt) = 115
                  · refine pm_stk (st' := [.int 115]) (by rw [show (d_X13_kind t f gt) = 115 from hq16]) ?_
                    refine pm_tableIn (off := 126) (tgt := 140) B dX13_readsCommand_14 (by decide) (by decide) (by decide) (by decide) ?_
                    refine pm_aload_n B dX13_readsCommand_140 rfl ?_
                    refine pm_iload_n B dX13_readsCommand_141 rfl ?_
                    refine pm_ldcS (a := kE (40 + 3)) B (fun U H h => (h.2.1 3 (by decide)).1) dX13_readsCommand_142 ?_
                    refine pm_iconst (v := 1) B dX13_readsCommand_144 (by decide) ?_
                    refine pm_ldcS (a := kE (40 + 4)) B (fun U H h => (h.2.1 4 (by decide)).1) dX13_readsCommand_145 ?_
                    refine pm_iconst (v := 2) B dX13_readsCommand_147 (by decide) ?_
                    refine pm_cV (As := [.int (d_X13_kind t f gt), .ref (kE (40 + 3)), .int (nI 1), .ref (kE (40 + 4)), .int (nI 2)]) (mc2 := 0) (ms2 := 0) B rfl ((pm_up_n (by omega)).trans pm_up_s) rfl (c_X13_reads (x := (d_X13_kind t f gt)) (w1 := 1) (w2 := 2) (bs1 := [115, 101, 108, 108, 32]) (bs2 := [32]) (cm := cm) (t := t) (s1 := kE (40 + 3)) (v1 := kE (140 + 3)) (s2 := kE (40 + 4)) (v2 := kE (140 + 4)) (f := f) (gt := gt) (gc := gc) ((pm_up_n (by omega)).trans pm_up_s) ((pm_up_n (by omega)).trans ((pm_up_n (by omega)).trans hgt)) pm_up_s htx (by first | assumption | omega) hcm (by first | assumption | omega) (fun U H h => (h.2.1 3 (by decide)).2) (by first | assumption | decide) (fun U H h => (h.2.1 4 (by decide)).2) (by first | assumption | decide) (by decide) (by decide)) mt_X13_reads sv_X13_247 dX13_readsCommand_148 rfl rfl rfl rfl rfl ?_
                    refine pm_mem (M' := pm_up (pm_up (pm_up (pm_up M m0 (pm_mo z m0 f)) (m0 + 7) (.inl (kA 0, 180, .inl gc))) m0 (pm_mo z m0 ((d_X13_reads (d_X13_kind t f gt) 1 2 ([115, 101, 108, 108, 32]) ([32]) cm t f gt gc).1))) (m0 + 7) (.inl (kA 0, 180, .inl ((d_X13_reads (d_X13_kind t f gt) 1 2 ([115, 101, 108, 108, 32]) ([32]) cm t f gt gc).2)))) rfl ?_
                    refine pm_mem (M' := pm_up (pm_up (pm_up M m0 (pm_mo z m0 ((d_X13_reads (d_X13_kind t f gt) 1 2 ([115, 101, 108, 108, 32]) ([32]) cm t f gt gc).1))) (m0 + 7) (.inl (kA 0, 180, .inl gc))) (m0 + 7) (.inl (kA 0, 180, .inl ((d_X13_reads (d_X13_kind t f gt) 1 2 ([115, 101, 108, 108, 32]) ([32]) cm t f gt gc).2)))) (by rw [pm_up_sw (a := m0 + 7) (b := m0) (by omega), pm_up_up (a := m0)]) ?_
                    refine pm_mem (M' := pm_up (pm_up M m0 (pm_mo z m0 ((d_X13_reads (d_X13_kind t f gt) 1 2 ([115, 101, 108, 108, 32]) ([32]) cm t f gt gc).1))) (m0 + 7) (.inl (kA 0, 180, .inl ((d_X13_reads (d_X13_kind t f gt) 1 2 ([115, 101, 108, 108, 32]) ([32]) cm t f gt gc).2)))) (by rw [pm_up_up (a := m0 + 7)]) ?_
                    refine pm_stk (st' := []) rfl ?_
                    refine pm_goto (tgt := 273) B dX13_readsCommand_151 (by decide) ?_
                    have hDq17 : (d_X13_readsCommand cm t f gt gc) = (((d_X13_reads (d_X13_kind t f gt) 1 2 ([115, 101, 108, 108, 32]) ([32]) cm t f gt gc).1), ((d_X13_reads (d_X13_kind t f gt) 1 2 ([115, 101, 108, 108, 32]) ([32]) cm t f gt gc).2)) := by rw [d_X13_readsCommand, if_pos hq1, if_neg hq2, if_neg hq4, if_neg hq6, if_neg hq8, if_neg hq10, if_neg hq12, if_neg hq14, if_pos hq16]
                    exact pm_return B dX13_readsCommand_273 rfl ⟨rfl, rfl, by rw [hDq17]⟩ rfl rfl
                  · skip
                    by_cases hq18 : (d_X13_kind t f gt) = 116
                    · refine pm_stk (st' := [.int 116]) (by rw [show (d_X13_kind t f gt) = 116 from hq18]) ?_
                      refine pm_tableIn (off := 170) (tgt := 184) B dX13_readsCommand_14 (by decide) (by decide) (by decide) (by decide) ?_
                      refine pm_aload_n B dX13_readsCommand_184 rfl ?_
                      refine pm_iload_n B dX13_readsCommand_185 rfl ?_
                      refine pm_ldcwS (a := kE (40 + 7)) B (fun U H h => (h.2.1 7 (by decide)).1) dX13_readsCommand_186 ?_
                      refine pm_iconst (v := 1) B dX13_readsCommand_189 (by decide) ?_
                      refine pm_ldcwS (a := kE (40 + 8)) B (fun U H h => (h.2.1 8 (by decide)).1) dX13_readsCommand_190 ?_
                      refine pm_iconst (v := 1) B dX13_readsCommand_193 (by decide) ?_
                      refine pm_cV (As := [.int (d_X13_kind t f gt), .ref (kE (40 + 7)), .int (nI 1), .ref (kE (40 + 8)), .int (nI 1)]) (mc2 := 0) (ms2 := 0) B rfl ((pm_up_n (by omega)).trans pm_up_s) rfl (c_X13_reads (x := (d_X13_kind t f gt)) (w1 := 1) (w2 := 1) (bs1 := [99, 117, 116, 32]) (bs2 := [45]) (cm := cm) (t := t) (s1 := kE (40 + 7)) (v1 := kE (140 + 7)) (s2 := kE (40 + 8)) (v2 := kE (140 + 8)) (f := f) (gt := gt) (gc := gc) ((pm_up_n (by omega)).trans pm_up_s) ((pm_up_n (by omega)).trans ((pm_up_n (by omega)).trans hgt)) pm_up_s htx (by first | assumption | omega) hcm (by first | assumption | omega) (fun U H h => (h.2.1 7 (by decide)).2) (by first | assumption | decide) (fun U H h => (h.2.1 8 (by decide)).2) (by first | assumption | decide) (by decide) (by decide)) mt_X13_reads sv_X13_247 dX13_readsCommand_194 rfl rfl rfl rfl rfl ?_
                      refine pm_mem (M' := pm_up (pm_up (pm_up (pm_up M m0 (pm_mo z m0 f)) (m0 + 7) (.inl (kA 0, 180, .inl gc))) m0 (pm_mo z m0 ((d_X13_reads (d_X13_kind t f gt) 1 1 ([99, 117, 116, 32]) ([45]) cm t f gt gc).1))) (m0 + 7) (.inl (kA 0, 180, .inl ((d_X13_reads (d_X13_kind t f gt) 1 1 ([99, 117, 116, 32]) ([45]) cm t f gt gc).2)))) rfl ?_
                      refine pm_mem (M' := pm_up (pm_up (pm_up M m0 (pm_mo z m0 ((d_X13_reads (d_X13_kind t f gt) 1 1 ([99, 117, 116, 32]) ([45]) cm t f gt gc).1))) (m0 + 7) (.inl (kA 0, 180, .inl gc))) (m0 + 7) (.inl (kA 0, 180, .inl ((d_X13_reads (d_X13_kind t f gt) 1 1 ([99, 117, 116, 32]) ([45]) cm t f gt gc).2)))) (by rw [pm_up_sw (a := m0 + 7) (b := m0) (by omega), pm_up_up (a := m0)]) ?_
                      refine pm_mem (M' := pm_up (pm_up M m0 (pm_mo z m0 ((d_X13_reads (d_X13_kind t f gt) 1 1 ([99, 117, 116, 32]) ([45]) cm t f gt gc).1))) (m0 + 7) (.inl (kA 0, 180, .inl ((d_X13_reads (d_X13_kind t f gt) 1 1 ([99, 117, 116, 32]) ([45]) cm t f gt gc).2)))) (by rw [pm_up_up (a := m0 + 7)]) ?_
                      refine pm_stk (st' := []) rfl ?_
                      refine pm_goto (tgt := 273) B dX13_readsCommand_197 (by decide) ?_
                      have hDq19 : (d_X13_readsCommand cm t f gt gc) = (((d_X13_reads (d_X13_kind t f gt) 1 1 ([99, 117, 116, 32]) ([45]) cm t f gt gc).1), ((d_X13_reads (d_X13_kind t f gt) 1 1 ([99, 117, 116, 32]) ([45]) cm t f gt gc).2)) := by rw [d_X13_readsCommand, if_pos hq1, if_neg hq2, if_neg hq4, if_neg hq6, if_neg hq8, if_neg hq10, if_neg hq12, if_neg hq14, if_neg hq16, if_pos hq18]
                      exact pm_return B dX13_readsCommand_273 rfl ⟨rfl, rfl, by rw [hDq19]⟩ rfl rfl
                    · skip
                      by_cases hq20 : (d_X13_kind t f gt) = 117
                      · refine pm_stk (st' := [.int 117]) (by rw [show (d_X13_kind t f gt) = 117 from hq20]) ?_
                        refine pm_tableIn (off := 112) (tgt := 126) B dX13_readsCommand_14 (by decide) (by decide) (by decide) (by decide) ?_
                        refine pm_aload_n B dX13_readsCommand_126 rfl ?_
                        refine pm_iload_n B dX13_readsCommand_127 rfl ?_
                        refine pm_ldcS (a := kE (40 + 2)) B (fun U H h => (h.2.1 2 (by decide)).1) dX13_readsCommand_128 ?_
                        refine pm_iconst (v := 1) B dX13_readsCommand_130 (by decide) ?_
                        refine pm_ldcS (a := kE (40 + 1)) B (fun U H h => (h.2.1 1 (by decide)).1) dX13_readsCommand_131 ?_
                        refine pm_iconst (v := 0) B dX13_readsCommand_133 (by decide) ?_
                        refine pm_cV (As := [.int (d_X13_kind t f gt), .ref (kE (40 + 2)), .int (nI 1), .ref (kE (40 + 1)), .int (nI 0)]) (mc2 := 0) (ms2 := 0) B rfl ((pm_up_n (by omega)).trans pm_up_s) rfl (c_X13_reads (x := (d_X13_kind t f gt)) (w1 := 1) (w2 := 0) (bs1 := [97, 117, 100, 105, 116, 32]) (bs2 := []) (cm := cm) (t := t) (s1 := kE (40 + 2)) (v1 := kE (140 + 2)) (s2 := kE (40 + 1)) (v2 := kE (140 + 1)) (f := f) (gt := gt) (gc := gc) ((pm_up_n (by omega)).trans pm_up_s) ((pm_up_n (by omega)).trans ((pm_up_n (by omega)).trans hgt)) pm_up_s htx (by first | assumption | omega) hcm (by first | assumption | omega) (fun U H h => (h.2.1 2 (by decide)).2) (by first | assumption | decide) (fun U H h => (h.2.1 1 (by decide)).2) (by first | assumption | decide) (by decide) (by decide)) mt_X13_reads sv_X13_247 dX13_readsCommand_134 rfl rfl rfl rfl rfl ?_
                        refine pm_mem (M' := pm_up (pm_up (pm_up (pm_up M m0 (pm_mo z m0 f)) (m0 + 7) (.inl (kA 0, 180, .inl gc))) m0 (pm_mo z m0 ((d_X13_reads (d_X13_kind t f gt) 1 0 ([97, 117, 100, 105, 116, 32]) ([]) cm t f gt gc).1))) (m0 + 7) (.inl (kA 0, 180, .inl ((d_X13_reads (d_X13_kind t f gt) 1 0 ([97, 117, 100, 105, 116, 32]) ([]) cm t f gt gc).2)))) rfl ?_
                        refine pm_mem (M' := pm_up (pm_up (pm_up M m0 (pm_mo z m0 ((d_X13_reads (d_X13_kind t f gt) 1 0 ([97, 117, 100, 105, 116, 32]) ([]) cm t f gt gc).1))) (m0 + 7) (.inl (kA 0, 180, .inl gc))) (m0 + 7) (.inl (kA 0, 180, .inl ((d_X13_reads (d_X13_kind t f gt) 1 0 ([97, 117, 100, 105, 116, 32]) ([]) cm t f gt gc).2)))) (by rw [pm_up_sw (a := m0 + 7) (b := m0) (by omega), pm_up_up (a := m0)]) ?_
                        refine pm_mem (M' := pm_up (pm_up M m0 (pm_mo z m0 ((d_X13_reads (d_X13_kind t f gt) 1 0 ([97, 117, 100, 105, 116, 32]) ([]) cm t f gt gc).1))) (m0 + 7) (.inl (kA 0, 180, .inl ((d_X13_reads (d_X13_kind t f gt) 1 0 ([97, 117, 100, 105, 116, 32]) ([]) cm t f gt gc).2)))) (by rw [pm_up_up (a := m0 + 7)]) ?_
                        refine pm_stk (st' := []) rfl ?_
                        refine pm_goto (tgt := 273) B dX13_readsCommand_137 (by decide) ?_
                        have hDq21 : (d_X13_readsCommand cm t f gt gc) = (((d_X13_reads (d_X13_kind t f gt) 1 0 ([97, 117, 100, 105, 116, 32]) ([]) cm t f gt gc).1), ((d_X13_reads (d_X13_kind t f gt) 1 0 ([97, 117, 100, 105, 116, 32]) ([]) cm t f gt gc).2)) := by rw [d_X13_readsCommand, if_pos hq1, if_neg hq2, if_neg hq4, if_neg hq6, if_neg hq8, if_neg hq10, if_neg hq12, if_neg hq14, if_neg hq16, if_neg hq18, if_pos hq20]
                        exact pm_return B dX13_readsCommand_273 rfl ⟨rfl, rfl, by rw [hDq21]⟩ rfl rfl
                      · skip
                        refine pm_tableD (tgt := 261) B dX13_readsCommand_14 (by decide) [97, 99, 100, 108, 109, 112, 114, 115, 116, 117] (by decide) (by decide +kernel) (List.forall_mem_cons.mpr ⟨pm_neI (by decide) hq2, (List.forall_mem_cons.mpr ⟨pm_neI (by decide) hq4, (List.forall_mem_cons.mpr ⟨pm_neI (by decide) hq6, (List.forall_mem_cons.mpr ⟨pm_neI (by decide) hq8, (List.forall_mem_cons.mpr ⟨pm_neI (by decide) hq10, (List.forall_mem_cons.mpr ⟨pm_neI (by decide) hq12, (List.forall_mem_cons.mpr ⟨pm_neI (by decide) hq14, (List.forall_mem_cons.mpr ⟨pm_neI (by decide) hq16, (List.forall_mem_cons.mpr ⟨pm_neI (by decide) hq18, (List.forall_mem_cons.mpr ⟨pm_neI (by decide) hq20, (fun c hc => absurd hc List.not_mem_nil)⟩)⟩)⟩)⟩)⟩)⟩)⟩)⟩)⟩)⟩) ?_
                        refine pm_aload_n B dX13_readsCommand_261 rfl ?_
                        refine pm_iload_n B dX13_readsCommand_262 rfl ?_
                        refine pm_ldcwS (a := kE (40 + 13)) B (fun U H h => (h.2.1 13 (by decide)).1) dX13_readsCommand_263 ?_
                        refine pm_iconst (v := 2) B dX13_readsCommand_266 (by decide) ?_
                        refine pm_ldcS (a := kE (40 + 4)) B (fun U H h => (h.2.1 4 (by decide)).1) dX13_readsCommand_267 ?_
                        refine pm_iconst (v := 2) B dX13_readsCommand_269 (by decide) ?_
                        refine pm_cV (As := [.int (d_X13_kind t f gt), .ref (kE (40 + 13)), .int (nI 2), .ref (kE (40 + 4)), .int (nI 2)]) (mc2 := 0) (ms2 := 0) B rfl ((pm_up_n (by omega)).trans pm_up_s) rfl (c_X13_reads (x := (d_X13_kind t f gt)) (w1 := 2) (w2 := 2) (bs1 := [106, 111, 105, 110, 32]) (bs2 := [32]) (cm := cm) (t := t) (s1 := kE (40 + 13)) (v1 := kE (140 + 13)) (s2 := kE (40 + 4)) (v2 := kE (140 + 4)) (f := f) (gt := gt) (gc := gc) ((pm_up_n (by omega)).trans pm_up_s) ((pm_up_n (by omega)).trans ((pm_up_n (by omega)).trans hgt)) pm_up_s htx (by first | assumption | omega) hcm (by first | assumption | omega) (fun U H h => (h.2.1 13 (by decide)).2) (by first | assumption | decide) (fun U H h => (h.2.1 4 (by decide)).2) (by first | assumption | decide) (by decide) (by decide)) mt_X13_reads sv_X13_247 dX13_readsCommand_270 rfl rfl rfl rfl rfl ?_
                        refine pm_mem (M' := pm_up (pm_up (pm_up (pm_up M m0 (pm_mo z m0 f)) (m0 + 7) (.inl (kA 0, 180, .inl gc))) m0 (pm_mo z m0 ((d_X13_reads (d_X13_kind t f gt) 2 2 ([106, 111, 105, 110, 32]) ([32]) cm t f gt gc).1))) (m0 + 7) (.inl (kA 0, 180, .inl ((d_X13_reads (d_X13_kind t f gt) 2 2 ([106, 111, 105, 110, 32]) ([32]) cm t f gt gc).2)))) rfl ?_
                        refine pm_mem (M' := pm_up (pm_up (pm_up M m0 (pm_mo z m0 ((d_X13_reads (d_X13_kind t f gt) 2 2 ([106, 111, 105, 110, 32]) ([32]) cm t f gt gc).1))) (m0 + 7) (.inl (kA 0, 180, .inl gc))) (m0 + 7) (.inl (kA 0, 180, .inl ((d_X13_reads (d_X13_kind t f gt) 2 2 ([106, 111, 105, 110, 32]) ([32]) cm t f gt gc).2)))) (by rw [pm_up_sw (a := m0 + 7) (b := m0) (by omega), pm_up_up (a := m0)]) ?_
                        refine pm_mem (M' := pm_up (pm_up M m0 (pm_mo z m0 ((d_X13_reads (d_X13_kind t f gt) 2 2 ([106, 111, 105, 110, 32]) ([32]) cm t f gt gc).1))) (m0 + 7) (.inl (kA 0, 180, .inl ((d_X13_reads (d_X13_kind t f gt) 2 2 ([106, 111, 105, 110, 32]) ([32]) cm t f gt gc).2)))) (by rw [pm_up_up (a := m0 + 7)]) ?_
                        refine pm_stk (st' := []) rfl ?_
                        have hDq22 : (d_X13_readsCommand cm t f gt gc) = (((d_X13_reads (d_X13_kind t f gt) 2 2 ([106, 111, 105, 110, 32]) ([32]) cm t f gt gc).1), ((d_X13_reads (d_X13_kind t f gt) 2 2 ([106, 111, 105, 110, 32]) ([32]) cm t f gt gc).2)) := by rw [d_X13_readsCommand, if_pos hq1, if_neg hq2, if_neg hq4, if_neg hq6, if_neg hq8, if_neg hq10, if_neg hq12, if_neg hq14, if_neg hq16, if_neg hq18, if_neg hq20]
                        exact pm_return B dX13_readsCommand_273 rfl ⟨rfl, rfl, by rw [hDq22]⟩ rfl rfl
  · have hDq23 : (d_X13_readsCommand cm t f gt gc) = (f, gc) := by rw [d_X13_readsCommand, if_neg hq1]
    exact pm_return B dX13_readsCommand_7 rfl ⟨rfl, rfl, by rw [hDq23]⟩ rfl rfl
