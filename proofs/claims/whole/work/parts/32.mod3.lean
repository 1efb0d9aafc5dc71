/-! ThunderCartelModel: questions -/
theorem pm_kpred {k : Nat} (h : ¬ k = 0) : nI k - 1 = nI (k - 1) := by
  obtain ⟨m, rfl⟩ : ∃ m, k = m + 1 := ⟨k - 1, by omega⟩
  rw [nI_pred]; rfl
def d_X13_tells (x : Int32) (w : Nat) (n : Nat) (f : Nat → Int32) (g : Nat → Int32) : (Int32 × (Nat → Int32)) := if (pm_in x 0 (nI n - 1)) = 0 then (0, (upd f 6 (pm_th (pm_in x 0 (nI n - 1))))) else ((g (7 + 5 * (pm_n x) + w)), (upd f 6 (pm_th (pm_in x 0 (nI n - 1)))))
set_option maxRecDepth 100000 in
set_option maxHeartbeats 8000000 in
theorem c_X13_tells {l : Launch} {z : Nat} {D : va_G} {kA : Nat → ClassId} {kE : Nat → Nat} {nx : Nat} {M : pm_M} {x : Int32} {w : Nat} {n : Nat}{m0 : Nat} {f : Nat → Int32} {g : Nat → Int32} (hM : M m0 = some (pm_mo z m0 f)) (hg : M (m0 + 1) = some (.inl (kA 0, 91, .inl g))) (hn : g 0 = nI n) (h7 : n ≤ 7) (hw : w < 5) : pm_C l z D kA kE yX13_tells cX13_tells 3 (some .int) 2 0 0 [.ref (z + m0), .int x, .int (nI w)] nx M (pm_rt (some (.int ((d_X13_tells x w n f g).1))) nx (pm_up M m0 (pm_mo z m0 ((d_X13_tells x w n f g).2)))) := by
  refine pm_mk (own := RX13) (nm := "tells") mt_X13_tells rfl rfl rfl rfl fun X B => ?_
  refine pm_loc (L' := [some (.ref (z + m0)), some (.int x), some (.int (nI w))]) rfl ?_
  refine pm_mem (M' := pm_up M m0 (pm_mo z m0 f)) (by rw [pm_up_id hM]) ?_
  refine pm_aload_n B dX13_tells_0 rfl ?_
  refine pm_aload_n B dX13_tells_1 rfl ?_
  refine pm_iload_n B dX13_tells_2 rfl ?_
  refine pm_cV (As := [.int x]) (mc2 := 0) (ms2 := 0) B rfl pm_up_s rfl (c_X13_isMember (f := f) pm_up_s ((pm_up_n (by omega)).trans hg)) mt_X13_isMember sv_X13_100 dX13_tells_3 rfl rfl rfl rfl rfl ?_
  refine pm_stk (st' := [.int (pm_in x 0 (g 0 - 1)), .ref (z + m0)]) rfl ?_
  refine pm_stk (st' := [.int (pm_in x 0 (nI n - 1)), .ref (z + m0)]) (by rw [show (pm_in x 0 (g 0 - 1)) = (pm_in x 0 (nI n - 1)) from by rw [hn]]) ?_
  refine pm_cV (As := [.int (pm_in x 0 (nI n - 1))]) (mc2 := 0) (ms2 := 0) B rfl pm_up_s rfl (c_X13_isThere (f := f) (b := (pm_in x 0 (nI n - 1))) pm_up_s (by first | assumption | exact pm_in01 _ _ _ | decide | simp)) mt_X13_isThere sv_X13_107 dX13_tells_6 rfl rfl rfl rfl rfl ?_
  refine pm_mem (M' := pm_up M m0 (pm_mo z m0 (upd f 6 (pm_th (pm_in x 0 (nI n - 1)))))) pm_up_up ?_
  refine pm_stk (st' := [.int (pm_in x 0 (nI n - 1))]) rfl ?_
  refine pm_if_eq (tgt := 21) B dX13_tells_9 (by decide) (fun hq1 => ?_) (fun hq1 => ?_)
  · refine pm_iconst (v := 0) B dX13_tells_21 (by decide) ?_
    have hDq2 : (d_X13_tells x w n f g) = (0, (upd f 6 (pm_th (pm_in x 0 (nI n - 1))))) := by rw [d_X13_tells, if_pos hq1]
    exact pm_ireturn B dX13_tells_22 rfl (by first | rfl | (apply pm_nz; first | assumption | decide | exact pm_in01 _ _ _ | simp)) ⟨(by rw [hDq2]), rfl, by rw [hDq2]⟩ rfl rfl
  · obtain ⟨he_x, hl_x⟩ := pm_in_nx h7 hq1
    refine pm_loc (L' := [some (.ref (z + m0)), some (.int (nI (pm_n x))), some (.int (nI w))]) (congrArg (fun yy : Int32 => ([some (.ref (z + m0)), some (.int yy), some (.int (nI w))] : List (Option Value))) he_x) ?_
    refine pm_aload_n B dX13_tells_12 rfl ?_
    refine pm_iload_n B dX13_tells_13 rfl ?_
    refine pm_iload_n B dX13_tells_14 rfl ?_
    refine pm_cV (As := [.int (nI (pm_n x)), .int (nI w)]) (mc2 := 0) (ms2 := 0) B rfl pm_up_s rfl (c_X13_of (f := (upd f 6 (pm_th (pm_in x 0 (nI n - 1))))) pm_up_s ((pm_up_n (by omega)).trans hg) (i := (pm_n x)) (w := w) (by first | assumption | omega) (by first | assumption | omega)) mt_X13_of sv_X13_74 dX13_tells_15 rfl rfl rfl rfl rfl ?_
    refine pm_stk (st' := [.int (g (7 + 5 * (pm_n x) + w))]) rfl ?_
    refine pm_goto (tgt := 22) B dX13_tells_18 (by decide) ?_
    have hDq3 : (d_X13_tells x w n f g) = ((g (7 + 5 * (pm_n x) + w)), (upd f 6 (pm_th (pm_in x 0 (nI n - 1))))) := by rw [d_X13_tells, if_neg hq1]
    exact pm_ireturn B dX13_tells_22 rfl (by first | rfl | (apply pm_nz; first | assumption | decide | exact pm_in01 _ _ _ | simp)) ⟨(by rw [hDq3]), rfl, by rw [hDq3]⟩ rfl rfl
def d_X13_capacity (x : Int32) (n : Nat) (f : Nat → Int32) (g : Nat → Int32) : (Int32 × (Nat → Int32)) := (((d_X13_tells x 0 n f g).1), ((d_X13_tells x 0 n f g).2))
set_option maxRecDepth 100000 in
set_option maxHeartbeats 8000000 in
theorem c_X13_capacity {l : Launch} {z : Nat} {D : va_G} {kA : Nat → ClassId} {kE : Nat → Nat} {nx : Nat} {M : pm_M} {x : Int32} {n : Nat}{m0 : Nat} {f : Nat → Int32} {g : Nat → Int32} (hM : M m0 = some (pm_mo z m0 f)) (hg : M (m0 + 1) = some (.inl (kA 0, 91, .inl g))) (hn : g 0 = nI n) (h7 : n ≤ 7) : pm_C l z D kA kE yX13_capacity cX13_capacity 2 (some .int) 3 0 0 [.ref (z + m0), .int x] nx M (pm_rt (some (.int ((d_X13_capacity x n f g).1))) nx (pm_up M m0 (pm_mo z m0 ((d_X13_capacity x n f g).2)))) := by
  refine pm_mk (own := RX13) (nm := "capacity") mt_X13_capacity rfl rfl rfl rfl fun X B => ?_
  refine pm_loc (L' := [some (.ref (z + m0)), some (.int x)]) rfl ?_
  refine pm_mem (M' := pm_up M m0 (pm_mo z m0 f)) (by rw [pm_up_id hM]) ?_
  refine pm_aload_n B dX13_capacity_0 rfl ?_
  refine pm_iload_n B dX13_capacity_1 rfl ?_
  refine pm_iconst (v := 0) B dX13_capacity_2 (by decide) ?_
  refine pm_cV (As := [.int x, .int (nI 0)]) (mc2 := 0) (ms2 := 0) B rfl pm_up_s rfl (c_X13_tells (x := x) (w := 0) (n := n) (f := f) (g := g) pm_up_s ((pm_up_n (by omega)).trans hg) hn (by first | assumption | omega) (by omega)) mt_X13_tells sv_X13_111 dX13_capacity_3 rfl rfl rfl rfl rfl ?_
  refine pm_mem (M' := pm_up (pm_up M m0 (pm_mo z m0 f)) m0 (pm_mo z m0 ((d_X13_tells x 0 n f g).2))) rfl ?_
  refine pm_mem (M' := pm_up M m0 (pm_mo z m0 ((d_X13_tells x 0 n f g).2))) (by rw [pm_up_up (a := m0)]) ?_
  refine pm_stk (st' := [.int ((d_X13_tells x 0 n f g).1)]) rfl ?_
  have hDq1 : (d_X13_capacity x n f g) = (((d_X13_tells x 0 n f g).1), ((d_X13_tells x 0 n f g).2)) := by rw [d_X13_capacity]
  exact pm_ireturn B dX13_capacity_6 rfl (by first | rfl | (apply pm_nz; first | assumption | decide | exact pm_in01 _ _ _ | simp)) ⟨(by rw [hDq1]), rfl, by rw [hDq1]⟩ rfl rfl
def d_X13_votes (x : Int32) (n : Nat) (f : Nat → Int32) (g : Nat → Int32) : (Int32 × (Nat → Int32)) := (((d_X13_tells x 1 n f g).1), ((d_X13_tells x 1 n f g).2))
set_option maxRecDepth 100000 in
set_option maxHeartbeats 8000000 in
theorem c_X13_votes {l : Launch} {z : Nat} {D : va_G} {kA : Nat → ClassId} {kE : Nat → Nat} {nx : Nat} {M : pm_M} {x : Int32} {n : Nat}{m0 : Nat} {f : Nat → Int32} {g : Nat → Int32} (hM : M m0 = some (pm_mo z m0 f)) (hg : M (m0 + 1) = some (.inl (kA 0, 91, .inl g))) (hn : g 0 = nI n) (h7 : n ≤ 7) : pm_C l z D kA kE yX13_votes cX13_votes 2 (some .int) 3 0 0 [.ref (z + m0), .int x] nx M (pm_rt (some (.int ((d_X13_votes x n f g).1))) nx (pm_up M m0 (pm_mo z m0 ((d_X13_votes x n f g).2)))) := by
  refine pm_mk (own := RX13) (nm := "votes") mt_X13_votes rfl rfl rfl rfl fun X B => ?_
  refine pm_loc (L' := [some (.ref (z + m0)), some (.int x)]) rfl ?_
  refine pm_mem (M' := pm_up M m0 (pm_mo z m0 f)) (by rw [pm_up_id hM]) ?_
  refine pm_aload_n B dX13_votes_0 rfl ?_
  refine pm_iload_n B dX13_votes_1 rfl ?_
  refine pm_iconst (v := 1) B dX13_votes_2 (by decide) ?_
  refine pm_cV (As := [.int x, .int (nI 1)]) (mc2 := 0) (ms2 := 0) B rfl pm_up_s rfl (c_X13_tells (x := x) (w := 1) (n := n) (f := f) (g := g) pm_up_s ((pm_up_n (by omega)).trans hg) hn (by first | assumption | omega) (by omega)) mt_X13_tells sv_X13_111 dX13_votes_3 rfl rfl rfl rfl rfl ?_
  refine pm_mem (M' := pm_up (pm_up M m0 (pm_mo z m0 f)) m0 (pm_mo z m0 ((d_X13_tells x 1 n f g).2))) rfl ?_
  refine pm_mem (M' := pm_up M m0 (pm_mo z m0 ((d_X13_tells x 1 n f g).2))) (by rw [pm_up_up (a := m0)]) ?_
  refine pm_stk (st' := [.int ((d_X13_tells x 1 n f g).1)]) rfl ?_
  have hDq1 : (d_X13_votes x n f g) = (((d_X13_tells x 1 n f g).1), ((d_X13_tells x 1 n f g).2)) := by rw [d_X13_votes]
  exact pm_ireturn B dX13_votes_6 rfl (by first | rfl | (apply pm_nz; first | assumption | decide | exact pm_in01 _ _ _ | simp)) ⟨(by rw [hDq1]), rfl, by rw [hDq1]⟩ rfl rfl
def d_X13_quota (x : Int32) (n : Nat) (f : Nat → Int32) (g : Nat → Int32) : (Int32 × (Nat → Int32)) := (((d_X13_tells x 2 n f g).1), ((d_X13_tells x 2 n f g).2))
set_option maxRecDepth 100000 in
set_option maxHeartbeats 8000000 in
theorem c_X13_quota {l : Launch} {z : Nat} {D : va_G} {kA : Nat → ClassId} {kE : Nat → Nat} {nx : Nat} {M : pm_M} {x : Int32} {n : Nat}{m0 : Nat} {f : Nat → Int32} {g : Nat → Int32} (hM : M m0 = some (pm_mo z m0 f)) (hg : M (m0 + 1) = some (.inl (kA 0, 91, .inl g))) (hn : g 0 = nI n) (h7 : n ≤ 7) : pm_C l z D kA kE yX13_quota cX13_quota 2 (some .int) 3 0 0 [.ref (z + m0), .int x] nx M (pm_rt (some (.int ((d_X13_quota x n f g).1))) nx (pm_up M m0 (pm_mo z m0 ((d_X13_quota x n f g).2)))) := by
  refine pm_mk (own := RX13) (nm := "quota") mt_X13_quota rfl rfl rfl rfl fun X B => ?_
  refine pm_loc (L' := [some (.ref (z + m0)), some (.int x)]) rfl ?_
  refine pm_mem (M' := pm_up M m0 (pm_mo z m0 f)) (by rw [pm_up_id hM]) ?_
  refine pm_aload_n B dX13_quota_0 rfl ?_
  refine pm_iload_n B dX13_quota_1 rfl ?_
  refine pm_iconst (v := 2) B dX13_quota_2 (by decide) ?_
  refine pm_cV (As := [.int x, .int (nI 2)]) (mc2 := 0) (ms2 := 0) B rfl pm_up_s rfl (c_X13_tells (x := x) (w := 2) (n := n) (f := f) (g := g) pm_up_s ((pm_up_n (by omega)).trans hg) hn (by first | assumption | omega) (by omega)) mt_X13_tells sv_X13_111 dX13_quota_3 rfl rfl rfl rfl rfl ?_
  refine pm_mem (M' := pm_up (pm_up M m0 (pm_mo z m0 f)) m0 (pm_mo z m0 ((d_X13_tells x 2 n f g).2))) rfl ?_
  refine pm_mem (M' := pm_up M m0 (pm_mo z m0 ((d_X13_tells x 2 n f g).2))) (by rw [pm_up_up (a := m0)]) ?_
  refine pm_stk (st' := [.int ((d_X13_tells x 2 n f g).1)]) rfl ?_
  have hDq1 : (d_X13_quota x n f g) = (((d_X13_tells x 2 n f g).1), ((d_X13_tells x 2 n f g).2)) := by rw [d_X13_quota]
  exact pm_ireturn B dX13_quota_6 rfl (by first | rfl | (apply pm_nz; first | assumption | decide | exact pm_in01 _ _ _ | simp)) ⟨(by rw [hDq1]), rfl, by rw [hDq1]⟩ rfl rfl
def d_X13_sales (x : Int32) (n : Nat) (f : Nat → Int32) (g : Nat → Int32) : (Int32 × (Nat → Int32)) := (((d_X13_tells x 3 n f g).1), ((d_X13_tells x 3 n f g).2))
set_option maxRecDepth 100000 in
set_option maxHeartbeats 8000000 in
theorem c_X13_sales {l : Launch} {z : Nat} {D : va_G} {kA : Nat → ClassId} {kE : Nat → Nat} {nx : Nat} {M : pm_M} {x : Int32} {n : Nat}{m0 : Nat} {f : Nat → Int32} {g : Nat → Int32} (hM : M m0 = some (pm_mo z m0 f)) (hg : M (m0 + 1) = some (.inl (kA 0, 91, .inl g))) (hn : g 0 = nI n) (h7 : n ≤ 7) : pm_C l z D kA kE yX13_sales cX13_sales 2 (some .int) 3 0 0 [.ref (z + m0), .int x] nx M (pm_rt (some (.int ((d_X13_sales x n f g).1))) nx (pm_up M m0 (pm_mo z m0 ((d_X13_sales x n f g).2)))) := by
  refine pm_mk (own := RX13) (nm := "sales") mt_X13_sales rfl rfl rfl rfl fun X B => ?_
  refine pm_loc (L' := [some (.ref (z + m0)), some (.int x)]) rfl ?_
  refine pm_mem (M' := pm_up M m0 (pm_mo z m0 f)) (by rw [pm_up_id hM]) ?_
  refine pm_aload_n B dX13_sales_0 rfl ?_
  refine pm_iload_n B dX13_sales_1 rfl ?_
  refine pm_iconst (v := 3) B dX13_sales_2 (by decide) ?_
  refine pm_cV (As := [.int x, .int (nI 3)]) (mc2 := 0) (ms2 := 0) B rfl pm_up_s rfl (c_X13_tells (x := x) (w := 3) (n := n) (f := f) (g := g) pm_up_s ((pm_up_n (by omega)).trans hg) hn (by first | assumption | omega) (by omega)) mt_X13_tells sv_X13_111 dX13_sales_3 rfl rfl rfl rfl rfl ?_
  refine pm_mem (M' := pm_up (pm_up M m0 (pm_mo z m0 f)) m0 (pm_mo z m0 ((d_X13_tells x 3 n f g).2))) rfl ?_
  refine pm_mem (M' := pm_up M m0 (pm_mo z m0 ((d_X13_tells x 3 n f g).2))) (by rw [pm_up_up (a := m0)]) ?_
  refine pm_stk (st' := [.int ((d_X13_tells x 3 n f g).1)]) rfl ?_
  have hDq1 : (d_X13_sales x n f g) = (((d_X13_tells x 3 n f g).1), ((d_X13_tells x 3 n f g).2)) := by rw [d_X13_sales]
  exact pm_ireturn B dX13_sales_6 rfl (by first | rfl | (apply pm_nz; first | assumption | decide | exact pm_in01 _ _ _ | simp)) ⟨(by rw [hDq1]), rfl, by rw [hDq1]⟩ rfl rfl
def d_X13_standing (x : Int32) (n : Nat) (f : Nat → Int32) (g : Nat → Int32) : (Int32 × (Nat → Int32)) := if (((d_X13_tells x 4 n f g).2) 6) ≤ 0 then (if ((d_X13_tells x 4 n f g).1) = 0 then (108, ((d_X13_tells x 4 n f g).2)) else (if ((d_X13_tells x 4 n f g).1) ≤ 0 then (98, ((d_X13_tells x 4 n f g).2)) else (119, ((d_X13_tells x 4 n f g).2)))) else (32, ((d_X13_tells x 4 n f g).2))
set_option maxRecDepth 100000 in
set_option maxHeartbeats 8000000 in
theorem c_X13_standing {l : Launch} {z : Nat} {D : va_G} {kA : Nat → ClassId} {kE : Nat → Nat} {nx : Nat} {M : pm_M} {x : Int32} {n : Nat}{m0 : Nat} {f : Nat → Int32} {g : Nat → Int32} (hM : M m0 = some (pm_mo z m0 f)) (hg : M (m0 + 1) = some (.inl (kA 0, 91, .inl g))) (hn : g 0 = nI n) (h7 : n ≤ 7) : pm_C l z D kA kE yX13_standing cX13_standing 3 (some .char) 3 0 0 [.ref (z + m0), .int x] nx M (pm_rt (some (.int ((d_X13_standing x n f g).1))) nx (pm_up M m0 (pm_mo z m0 ((d_X13_standing x n f g).2)))) := by
  refine pm_mk (own := RX13) (nm := "standing") mt_X13_standing rfl rfl rfl rfl fun X B => ?_
  refine pm_loc (L' := [some (.ref (z + m0)), some (.int x), none]) rfl ?_
  refine pm_mem (M' := pm_up M m0 (pm_mo z m0 f)) (by rw [pm_up_id hM]) ?_
  refine pm_aload_n B dX13_standing_0 rfl ?_
  refine pm_iload_n B dX13_standing_1 rfl ?_
  refine pm_iconst (v := 4) B dX13_standing_2 (by decide) ?_
  refine pm_cV (As := [.int x, .int (nI 4)]) (mc2 := 0) (ms2 := 0) B rfl pm_up_s rfl (c_X13_tells (x := x) (w := 4) (n := n) (f := f) (g := g) pm_up_s ((pm_up_n (by omega)).trans hg) hn (by first | assumption | omega) (by omega)) mt_X13_tells sv_X13_111 dX13_standing_3 rfl rfl rfl rfl rfl ?_
  refine pm_mem (M' := pm_up (pm_up M m0 (pm_mo z m0 f)) m0 (pm_mo z m0 ((d_X13_tells x 4 n f g).2))) rfl ?_
  refine pm_mem (M' := pm_up M m0 (pm_mo z m0 ((d_X13_tells x 4 n f g).2))) (by rw [pm_up_up (a := m0)]) ?_
  refine pm_stk (st' := [.int ((d_X13_tells x 4 n f g).1)]) rfl ?_
  refine pm_istore_n B dX13_standing_6 rfl rfl ?_
  refine pm_loc (L' := [some (.ref (z + m0)), some (.int x), some (.int ((d_X13_tells x 4 n f g).1))]) rfl ?_
  refine pm_aload_n B dX13_standing_7 rfl ?_
  refine pm_get B dX13_standing_8 fl_X13_39 pm_up_s rfl ?_
  refine pm_if_le (tgt := 19) B dX13_standing_11 (by decide) (fun hq1 => ?_) (fun hq1 => ?_)
  · refine pm_iload_n B dX13_standing_19 rfl ?_
    refine pm_if_ne (tgt := 28) B dX13_standing_20 (by decide) (fun hq2 => ?_) (fun hq2 => ?_)
    · refine pm_iload_n B dX13_standing_28 rfl ?_
      refine pm_if_le (tgt := 37) B dX13_standing_29 (by decide) (fun hq3 => ?_) (fun hq3 => ?_)
      · refine pm_bipush (v := 98) B dX13_standing_37 (by decide) ?_
        have hDq4 : (d_X13_standing x n f g) = (98, ((d_X13_tells x 4 n f g).2)) := by rw [d_X13_standing, if_pos hq1, if_neg hq2, if_pos hq3]
        exact pm_ireturn B dX13_standing_39 rfl (by first | rfl | (apply pm_nz; first | assumption | decide | exact pm_in01 _ _ _ | simp)) ⟨(by rw [hDq4]), rfl, by rw [hDq4]⟩ rfl rfl
      · refine pm_bipush (v := 119) B dX13_standing_32 (by decide) ?_
        refine pm_goto (tgt := 39) B dX13_standing_34 (by decide) ?_
        have hDq5 : (d_X13_standing x n f g) = (119, ((d_X13_tells x 4 n f g).2)) := by rw [d_X13_standing, if_pos hq1, if_neg hq2, if_neg hq3]
        exact pm_ireturn B dX13_standing_39 rfl (by first | rfl | (apply pm_nz; first | assumption | decide | exact pm_in01 _ _ _ | simp)) ⟨(by rw [hDq5]), rfl, by rw [hDq5]⟩ rfl rfl
    · refine pm_bipush (v := 108) B dX13_standing_23 (by decide) ?_
      refine pm_goto (tgt := 39) B dX13_standing_25 (by decide) ?_
      have hDq6 : (d_X13_standing x n f g) = (108, ((d_X13_tells x 4 n f g).2)) := by rw [d_X13_standing, if_pos hq1, if_pos hq2]
      exact pm_ireturn B dX13_standing_39 rfl (by first | rfl | (apply pm_nz; first | assumption | decide | exact pm_in01 _ _ _ | simp)) ⟨(by rw [hDq6]), rfl, by rw [hDq6]⟩ rfl rfl
  · refine pm_bipush (v := 32) B dX13_standing_14 (by decide) ?_
    refine pm_goto (tgt := 39) B dX13_standing_16 (by decide) ?_
    have hDq7 : (d_X13_standing x n f g) = (32, ((d_X13_tells x 4 n f g).2)) := by rw [d_X13_standing, if_neg hq1]
    exact pm_ireturn B dX13_standing_39 rfl (by first | rfl | (apply pm_nz; first | assumption | decide | exact pm_in01 _ _ _ | simp)) ⟨(by rw [hDq7]), rfl, by rw [hDq7]⟩ rfl rfl
def d_X13_warnings (x : Int32) (n : Nat) (f : Nat → Int32) (g : Nat → Int32) : (Int32 × (Nat → Int32)) := if (pm_in x 0 (nI n - 1)) = 0 then (0, (upd f 6 1)) else (if 0 < (g (7 + 5 * (pm_n x) + 4)) then ((g (7 + 5 * (pm_n x) + 4)), (upd f 6 0)) else (0, (upd f 6 2)))
set_option maxRecDepth 100000 in
set_option maxHeartbeats 8000000 in
theorem c_X13_warnings {l : Launch} {z : Nat} {D : va_G} {kA : Nat → ClassId} {kE : Nat → Nat} {nx : Nat} {M : pm_M} {x : Int32} {n : Nat}{m0 : Nat} {f : Nat → Int32} {g : Nat → Int32} (hM : M m0 = some (pm_mo z m0 f)) (hg : M (m0 + 1) = some (.inl (kA 0, 91, .inl g))) (hn : g 0 = nI n) (h7 : n ≤ 7) : pm_C l z D kA kE yX13_warnings cX13_warnings 2 (some .int) 3 0 0 [.ref (z + m0), .int x] nx M (pm_rt (some (.int ((d_X13_warnings x n f g).1))) nx (pm_up M m0 (pm_mo z m0 ((d_X13_warnings x n f g).2)))) := by
  refine pm_mk (own := RX13) (nm := "warnings") mt_X13_warnings rfl rfl rfl rfl fun X B => ?_
  refine pm_loc (L' := [some (.ref (z + m0)), some (.int x)]) rfl ?_
  refine pm_mem (M' := pm_up M m0 (pm_mo z m0 f)) (by rw [pm_up_id hM]) ?_
  refine pm_aload_n B dX13_warnings_0 rfl ?_
  refine pm_aload_n B dX13_warnings_1 rfl ?_
  refine pm_iload_n B dX13_warnings_2 rfl ?_
  refine pm_cV (As := [.int x]) (mc2 := 0) (ms2 := 0) B rfl pm_up_s rfl (c_X13_isMember (f := f) pm_up_s ((pm_up_n (by omega)).trans hg)) mt_X13_isMember sv_X13_100 dX13_warnings_3 rfl rfl rfl rfl rfl ?_
  refine pm_stk (st' := [.int (pm_in x 0 (g 0 - 1)), .ref (z + m0)]) rfl ?_
  refine pm_stk (st' := [.int (pm_in x 0 (nI n - 1)), .ref (z + m0)]) (by rw [show (pm_in x 0 (g 0 - 1)) = (pm_in x 0 (nI n - 1)) from by rw [hn]]) ?_
  refine pm_if_ne (tgt := 13) B dX13_warnings_6 (by decide) (fun hq1 => ?_) (fun hq1 => ?_)
  · obtain ⟨he_x, hl_x⟩ := pm_in_nx h7 hq1
    refine pm_loc (L' := [some (.ref (z + m0)), some (.int (nI (pm_n x)))]) (congrArg (fun yy : Int32 => ([some (.ref (z + m0)), some (.int yy)] : List (Option Value))) he_x) ?_
    refine pm_aload_n B dX13_warnings_13 rfl ?_
    refine pm_iload_n B dX13_warnings_14 rfl ?_
    refine pm_iconst (v := 4) B dX13_warnings_15 (by decide) ?_
    refine pm_cV (As := [.int (nI (pm_n x)), .int (nI 4)]) (mc2 := 0) (ms2 := 0) B rfl pm_up_s rfl (c_X13_of (f := f) pm_up_s ((pm_up_n (by omega)).trans hg) (i := (pm_n x)) (w := 4) (by first | assumption | omega) (by first | assumption | omega)) mt_X13_of sv_X13_74 dX13_warnings_16 rfl rfl rfl rfl rfl ?_
    refine pm_stk (st' := [.int (g (7 + 5 * (pm_n x) + 4)), .ref (z + m0)]) rfl ?_
    refine pm_if_gt (tgt := 26) B dX13_warnings_19 (by decide) (fun hq2 => ?_) (fun hq2 => ?_)
    · refine pm_iconst (v := 0) B dX13_warnings_26 (by decide) ?_
      refine pm_put B dX13_warnings_27 fs_X13_39 pm_up_s rfl rfl rfl ?_
      refine pm_mem (M' := pm_up M m0 (pm_mo z m0 (upd f 6 0))) pm_up_up ?_
      refine pm_aload_n B dX13_warnings_30 rfl ?_
      refine pm_get B dX13_warnings_31 fl_X13_39 pm_up_s rfl ?_
      refine pm_stk (st' := [.int 0]) rfl ?_
      refine pm_if_le (tgt := 41) B dX13_warnings_34 (by decide) (fun hq3 => ?_) (fun hq3 => absurd (by decide) hq3)
      refine pm_aload_n B dX13_warnings_41 rfl ?_
      refine pm_iload_n B dX13_warnings_42 rfl ?_
      refine pm_iconst (v := 4) B dX13_warnings_43 (by decide) ?_
      refine pm_cV (As := [.int (nI (pm_n x)), .int (nI 4)]) (mc2 := 0) (ms2 := 0) B rfl pm_up_s rfl (c_X13_of (f := (upd f 6 0)) pm_up_s ((pm_up_n (by omega)).trans hg) (i := (pm_n x)) (w := 4) (by first | assumption | omega) (by first | assumption | omega)) mt_X13_of sv_X13_74 dX13_warnings_44 rfl rfl rfl rfl rfl ?_
      refine pm_stk (st' := [.int (g (7 + 5 * (pm_n x) + 4))]) rfl ?_
      have hDq4 : (d_X13_warnings x n f g) = ((g (7 + 5 * (pm_n x) + 4)), (upd f 6 0)) := by rw [d_X13_warnings, if_neg hq1, if_pos hq2]
      exact pm_ireturn B dX13_warnings_47 rfl (by first | rfl | (apply pm_nz; first | assumption | decide | exact pm_in01 _ _ _ | simp)) ⟨(by rw [hDq4]), rfl, by rw [hDq4]⟩ rfl rfl
    · refine pm_iconst (v := 2) B dX13_warnings_22 (by decide) ?_
      refine pm_goto (tgt := 27) B dX13_warnings_23 (by decide) ?_
      refine pm_put B dX13_warnings_27 fs_X13_39 pm_up_s rfl rfl rfl ?_
      refine pm_mem (M' := pm_up M m0 (pm_mo z m0 (upd f 6 2))) pm_up_up ?_
      refine pm_aload_n B dX13_warnings_30 rfl ?_
      refine pm_get B dX13_warnings_31 fl_X13_39 pm_up_s rfl ?_
      refine pm_stk (st' := [.int 2]) rfl ?_
      refine pm_if_le (tgt := 41) B dX13_warnings_34 (by decide) (fun hq5 => absurd hq5 (by decide)) (fun hq5 => ?_)
      refine pm_iconst (v := 0) B dX13_warnings_37 (by decide) ?_
      refine pm_goto (tgt := 47) B dX13_warnings_38 (by decide) ?_
      have hDq6 : (d_X13_warnings x n f g) = (0, (upd f 6 2)) := by rw [d_X13_warnings, if_neg hq1, if_neg hq2]
      exact pm_ireturn B dX13_warnings_47 rfl (by first | rfl | (apply pm_nz; first | assumption | decide | exact pm_in01 _ _ _ | simp)) ⟨(by rw [hDq6]), rfl, by rw [hDq6]⟩ rfl rfl
  · refine pm_iconst (v := 1) B dX13_warnings_9 (by decide) ?_
    refine pm_goto (tgt := 27) B dX13_warnings_10 (by decide) ?_
    refine pm_put B dX13_warnings_27 fs_X13_39 pm_up_s rfl rfl rfl ?_
    refine pm_mem (M' := pm_up M m0 (pm_mo z m0 (upd f 6 1))) pm_up_up ?_
    refine pm_aload_n B dX13_warnings_30 rfl ?_
    refine pm_get B dX13_warnings_31 fl_X13_39 pm_up_s rfl ?_
    refine pm_stk (st' := [.int 1]) rfl ?_
    refine pm_if_le (tgt := 41) B dX13_warnings_34 (by decide) (fun hq7 => absurd hq7 (by decide)) (fun hq7 => ?_)
    refine pm_iconst (v := 0) B dX13_warnings_37 (by decide) ?_
    refine pm_goto (tgt := 47) B dX13_warnings_38 (by decide) ?_
    have hDq8 : (d_X13_warnings x n f g) = (0, (upd f 6 1)) := by rw [d_X13_warnings, if_pos hq1]
    exact pm_ireturn B dX13_warnings_47 rfl (by first | rfl | (apply pm_nz; first | assumption | decide | exact pm_in01 _ _ _ | simp)) ⟨(by rw [hDq8]), rfl, by rw [hDq8]⟩ rfl rfl
def d_X13_barredMonths (x : Int32) (n : Nat) (f : Nat → Int32) (g : Nat → Int32) : (Int32 × (Nat → Int32)) := if (pm_in x 0 (nI n - 1)) = 0 then (0, (upd f 6 1)) else (if (pm_ib g (pm_n x)) = 0 then (0, (upd f 6 2)) else ((-(g (7 + 5 * (pm_n x) + 4))), (upd f 6 0)))
set_option maxRecDepth 100000 in
set_option maxHeartbeats 8000000 in
theorem c_X13_barredMonths {l : Launch} {z : Nat} {D : va_G} {kA : Nat → ClassId} {kE : Nat → Nat} {nx : Nat} {M : pm_M} {x : Int32} {n : Nat}{m0 : Nat} {f : Nat → Int32} {g : Nat → Int32} (hM : M m0 = some (pm_mo z m0 f)) (hg : M (m0 + 1) = some (.inl (kA 0, 91, .inl g))) (hn : g 0 = nI n) (h7 : n ≤ 7) : pm_C l z D kA kE yX13_barredMonths cX13_barredMonths 2 (some .int) 3 0 0 [.ref (z + m0), .int x] nx M (pm_rt (some (.int ((d_X13_barredMonths x n f g).1))) nx (pm_up M m0 (pm_mo z m0 ((d_X13_barredMonths x n f g).2)))) := by
  refine pm_mk (own := RX13) (nm := "barredMonths") mt_X13_barredMonths rfl rfl rfl rfl fun X B => ?_
  refine pm_loc (L' := [some (.ref (z + m0)), some (.int x)]) rfl ?_
  refine pm_mem (M' := pm_up M m0 (pm_mo z m0 f)) (by rw [pm_up_id hM]) ?_
  refine pm_aload_n B dX13_barredMonths_0 rfl ?_
  refine pm_aload_n B dX13_barredMonths_1 rfl ?_
  refine pm_iload_n B dX13_barredMonths_2 rfl ?_
  refine pm_cV (As := [.int x]) (mc2 := 0) (ms2 := 0) B rfl pm_up_s rfl (c_X13_isMember (f := f) pm_up_s ((pm_up_n (by omega)).trans hg)) mt_X13_isMember sv_X13_100 dX13_barredMonths_3 rfl rfl rfl rfl rfl ?_
  refine pm_stk (st' := [.int (pm_in x 0 (g 0 - 1)), .ref (z + m0)]) rfl ?_
  refine pm_stk (st' := [.int (pm_in x 0 (nI n - 1)), .ref (z + m0)]) (by rw [show (pm_in x 0 (g 0 - 1)) = (pm_in x 0 (nI n - 1)) from by rw [hn]]) ?_
  refine pm_if_ne (tgt := 13) B dX13_barredMonths_6 (by decide) (fun hq1 => ?_) (fun hq1 => ?_)
  · obtain ⟨he_x, hl_x⟩ := pm_in_nx h7 hq1
    refine pm_loc (L' := [some (.ref (z + m0)), some (.int (nI (pm_n x)))]) (congrArg (fun yy : Int32 => ([some (.ref (z + m0)), some (.int yy)] : List (Option Value))) he_x) ?_
    refine pm_aload_n B dX13_barredMonths_13 rfl ?_
    refine pm_iload_n B dX13_barredMonths_14 rfl ?_
    refine pm_cV (As := [.int (nI (pm_n x))]) (mc2 := 0) (ms2 := 0) B rfl pm_up_s rfl (c_X13_isBarred (f := f) pm_up_s ((pm_up_n (by omega)).trans hg) (i := (pm_n x)) (by first | assumption | omega)) mt_X13_isBarred sv_X13_114 dX13_barredMonths_15 rfl rfl rfl rfl rfl ?_
    refine pm_stk (st' := [.int (pm_ib g (pm_n x)), .ref (z + m0)]) rfl ?_
    refine pm_if_ne (tgt := 25) B dX13_barredMonths_18 (by decide) (fun hq2 => ?_) (fun hq2 => ?_)
    · refine pm_iconst (v := 0) B dX13_barredMonths_25 (by decide) ?_
      refine pm_put B dX13_barredMonths_26 fs_X13_39 pm_up_s rfl rfl rfl ?_
      refine pm_mem (M' := pm_up M m0 (pm_mo z m0 (upd f 6 0))) pm_up_up ?_
      refine pm_aload_n B dX13_barredMonths_29 rfl ?_
      refine pm_get B dX13_barredMonths_30 fl_X13_39 pm_up_s rfl ?_
      refine pm_stk (st' := [.int 0]) rfl ?_
      refine pm_if_le (tgt := 40) B dX13_barredMonths_33 (by decide) (fun hq3 => ?_) (fun hq3 => absurd (by decide) hq3)
      refine pm_aload_n B dX13_barredMonths_40 rfl ?_
      refine pm_iload_n B dX13_barredMonths_41 rfl ?_
      refine pm_iconst (v := 4) B dX13_barredMonths_42 (by decide) ?_
      refine pm_cV (As := [.int (nI (pm_n x)), .int (nI 4)]) (mc2 := 0) (ms2 := 0) B rfl pm_up_s rfl (c_X13_of (f := (upd f 6 0)) pm_up_s ((pm_up_n (by omega)).trans hg) (i := (pm_n x)) (w := 4) (by first | assumption | omega) (by first | assumption | omega)) mt_X13_of sv_X13_74 dX13_barredMonths_43 rfl rfl rfl rfl rfl ?_
      refine pm_stk (st' := [.int (g (7 + 5 * (pm_n x) + 4))]) rfl ?_
      refine pm_ineg B dX13_barredMonths_46 ?_
      have hDq4 : (d_X13_barredMonths x n f g) = ((-(g (7 + 5 * (pm_n x) + 4))), (upd f 6 0)) := by rw [d_X13_barredMonths, if_neg hq1, if_neg hq2]
      exact pm_ireturn B dX13_barredMonths_47 rfl (by first | rfl | (apply pm_nz; first | assumption | decide | exact pm_in01 _ _ _ | simp)) ⟨(by rw [hDq4]), rfl, by rw [hDq4]⟩ rfl rfl
    · refine pm_iconst (v := 2) B dX13_barredMonths_21 (by decide) ?_
      refine pm_goto (tgt := 26) B dX13_barredMonths_22 (by decide) ?_
      refine pm_put B dX13_barredMonths_26 fs_X13_39 pm_up_s rfl rfl rfl ?_
      refine pm_mem (M' := pm_up M m0 (pm_mo z m0 (upd f 6 2))) pm_up_up ?_
      refine pm_aload_n B dX13_barredMonths_29 rfl ?_
      refine pm_get B dX13_barredMonths_30 fl_X13_39 pm_up_s rfl ?_
      refine pm_stk (st' := [.int 2]) rfl ?_
      refine pm_if_le (tgt := 40) B dX13_barredMonths_33 (by decide) (fun hq5 => absurd hq5 (by decide)) (fun hq5 => ?_)
      refine pm_iconst (v := 0) B dX13_barredMonths_36 (by decide) ?_
      refine pm_goto (tgt := 47) B dX13_barredMonths_37 (by decide) ?_
      have hDq6 : (d_X13_barredMonths x n f g) = (0, (upd f 6 2)) := by rw [d_X13_barredMonths, if_neg hq1, if_pos hq2]
      exact pm_ireturn B dX13_barredMonths_47 rfl (by first | rfl | (apply pm_nz; first | assumption | decide | exact pm_in01 _ _ _ | simp)) ⟨(by rw [hDq6]), rfl, by rw [hDq6]⟩ rfl rfl
  · refine pm_iconst (v := 1) B dX13_barredMonths_9 (by decide) ?_
    refine pm_goto (tgt := 26) B dX13_barredMonths_10 (by decide) ?_
    refine pm_put B dX13_barredMonths_26 fs_X13_39 pm_up_s rfl rfl rfl ?_
    refine pm_mem (M' := pm_up M m0 (pm_mo z m0 (upd f 6 1))) pm_up_up ?_
    refine pm_aload_n B dX13_barredMonths_29 rfl ?_
    refine pm_get B dX13_barredMonths_30 fl_X13_39 pm_up_s rfl ?_
    refine pm_stk (st' := [.int 1]) rfl ?_
    refine pm_if_le (tgt := 40) B dX13_barredMonths_33 (by decide) (fun hq7 => absurd hq7 (by decide)) (fun hq7 => ?_)
    refine pm_iconst (v := 0) B dX13_barredMonths_36 (by decide) ?_
    refine pm_goto (tgt := 47) B dX13_barredMonths_37 (by decide) ?_
    have hDq8 : (d_X13_barredMonths x n f g) = (0, (upd f 6 1)) := by rw [d_X13_barredMonths, if_pos hq1]
    exact pm_ireturn B dX13_barredMonths_47 rfl (by first | rfl | (apply pm_nz; first | assumption | decide | exact pm_in01 _ _ _ | simp)) ⟨(by rw [hDq8]), rfl, by rw [hDq8]⟩ rfl rfl
def d_X13_excess (x : Int32) (n : Nat) (f : Nat → Int32) (g : Nat → Int32) : (Int32 × (Nat → Int32)) := if (pm_in x 0 (nI n - 1)) = 0 then (0, (upd f 6 (pm_th (pm_in x 0 (nI n - 1))))) else ((pm_mv g (pm_n x)), (upd f 6 (pm_th (pm_in x 0 (nI n - 1)))))
set_option maxRecDepth 100000 in
set_option maxHeartbeats 8000000 in
theorem c_X13_excess {l : Launch} {z : Nat} {D : va_G} {kA : Nat → ClassId} {kE : Nat → Nat} {nx : Nat} {M : pm_M} {x : Int32} {n : Nat}{m0 : Nat} {f : Nat → Int32} {g : Nat → Int32} (hM : M m0 = some (pm_mo z m0 f)) (hg : M (m0 + 1) = some (.inl (kA 0, 91, .inl g))) (hn : g 0 = nI n) (h7 : n ≤ 7) : pm_C l z D kA kE yX13_excess cX13_excess 2 (some .int) 3 0 0 [.ref (z + m0), .int x] nx M (pm_rt (some (.int ((d_X13_excess x n f g).1))) nx (pm_up M m0 (pm_mo z m0 ((d_X13_excess x n f g).2)))) := by
  refine pm_mk (own := RX13) (nm := "excess") mt_X13_excess rfl rfl rfl rfl fun X B => ?_
  refine pm_loc (L' := [some (.ref (z + m0)), some (.int x)]) rfl ?_
  refine pm_mem (M' := pm_up M m0 (pm_mo z m0 f)) (by rw [pm_up_id hM]) ?_
  refine pm_aload_n B dX13_excess_0 rfl ?_
  refine pm_aload_n B dX13_excess_1 rfl ?_
  refine pm_iload_n B dX13_excess_2 rfl ?_
  refine pm_cV (As := [.int x]) (mc2 := 0) (ms2 := 0) B rfl pm_up_s rfl (c_X13_isMember (f := f) pm_up_s ((pm_up_n (by omega)).trans hg)) mt_X13_isMember sv_X13_100 dX13_excess_3 rfl rfl rfl rfl rfl ?_
  refine pm_stk (st' := [.int (pm_in x 0 (g 0 - 1)), .ref (z + m0)]) rfl ?_
  refine pm_stk (st' := [.int (pm_in x 0 (nI n - 1)), .ref (z + m0)]) (by rw [show (pm_in x 0 (g 0 - 1)) = (pm_in x 0 (nI n - 1)) from by rw [hn]]) ?_
  refine pm_cV (As := [.int (pm_in x 0 (nI n - 1))]) (mc2 := 0) (ms2 := 0) B rfl pm_up_s rfl (c_X13_isThere (f := f) (b := (pm_in x 0 (nI n - 1))) pm_up_s (by first | assumption | exact pm_in01 _ _ _ | decide | simp)) mt_X13_isThere sv_X13_107 dX13_excess_6 rfl rfl rfl rfl rfl ?_
  refine pm_mem (M' := pm_up M m0 (pm_mo z m0 (upd f 6 (pm_th (pm_in x 0 (nI n - 1)))))) pm_up_up ?_
  refine pm_stk (st' := [.int (pm_in x 0 (nI n - 1))]) rfl ?_
  refine pm_if_eq (tgt := 20) B dX13_excess_9 (by decide) (fun hq1 => ?_) (fun hq1 => ?_)
  · refine pm_iconst (v := 0) B dX13_excess_20 (by decide) ?_
    have hDq2 : (d_X13_excess x n f g) = (0, (upd f 6 (pm_th (pm_in x 0 (nI n - 1))))) := by rw [d_X13_excess, if_pos hq1]
    exact pm_ireturn B dX13_excess_21 rfl (by first | rfl | (apply pm_nz; first | assumption | decide | exact pm_in01 _ _ _ | simp)) ⟨(by rw [hDq2]), rfl, by rw [hDq2]⟩ rfl rfl
  · obtain ⟨he_x, hl_x⟩ := pm_in_nx h7 hq1
    refine pm_loc (L' := [some (.ref (z + m0)), some (.int (nI (pm_n x)))]) (congrArg (fun yy : Int32 => ([some (.ref (z + m0)), some (.int yy)] : List (Option Value))) he_x) ?_
    refine pm_aload_n B dX13_excess_12 rfl ?_
    refine pm_iload_n B dX13_excess_13 rfl ?_
    refine pm_cV (As := [.int (nI (pm_n x))]) (mc2 := 0) (ms2 := 0) B rfl pm_up_s rfl (c_X13_over (f := (upd f 6 (pm_th (pm_in x 0 (nI n - 1))))) pm_up_s ((pm_up_n (by omega)).trans hg) (i := (pm_n x)) (by first | assumption | omega)) mt_X13_over sv_X13_117 dX13_excess_14 rfl rfl rfl rfl rfl ?_
    refine pm_stk (st' := [.int (pm_mv g (pm_n x))]) rfl ?_
    refine pm_goto (tgt := 21) B dX13_excess_17 (by decide) ?_
    have hDq3 : (d_X13_excess x n f g) = ((pm_mv g (pm_n x)), (upd f 6 (pm_th (pm_in x 0 (nI n - 1))))) := by rw [d_X13_excess, if_neg hq1]
    exact pm_ireturn B dX13_excess_21 rfl (by first | rfl | (apply pm_nz; first | assumption | decide | exact pm_in01 _ _ _ | simp)) ⟨(by rw [hDq3]), rfl, by rw [hDq3]⟩ rfl rfl
def d_X13_memberCount (f : Nat → Int32) (g : Nat → Int32) : (Int32 × (Nat → Int32)) := ((g 0), (upd f 6 0))
set_option maxRecDepth 100000 in
set_option maxHeartbeats 8000000 in
theorem c_X13_memberCount {l : Launch} {z : Nat} {D : va_G} {kA : Nat → ClassId} {kE : Nat → Nat} {nx : Nat} {M : pm_M} {m0 : Nat} {f : Nat → Int32} {g : Nat → Int32} (hM : M m0 = some (pm_mo z m0 f)) (hg : M (m0 + 1) = some (.inl (kA 0, 91, .inl g))) : pm_C l z D kA kE yX13_memberCount cX13_memberCount 1 (some .int) 1 0 0 [.ref (z + m0)] nx M (pm_rt (some (.int ((d_X13_memberCount f g).1))) nx (pm_up M m0 (pm_mo z m0 ((d_X13_memberCount f g).2)))) := by
  refine pm_mk (own := RX13) (nm := "memberCount") mt_X13_memberCount rfl rfl rfl rfl fun X B => ?_
  refine pm_loc (L' := [some (.ref (z + m0))]) rfl ?_
  refine pm_mem (M' := pm_up M m0 (pm_mo z m0 f)) (by rw [pm_up_id hM]) ?_
  refine pm_aload_n B dX13_memberCount_0 rfl ?_
  refine pm_iconst (v := 0) B dX13_memberCount_1 (by decide) ?_
  refine pm_put B dX13_memberCount_2 fs_X13_39 pm_up_s rfl rfl rfl ?_
  refine pm_mem (M' := pm_up M m0 (pm_mo z m0 (upd f 6 0))) pm_up_up ?_
  refine pm_aload_n B dX13_memberCount_5 rfl ?_
  refine pm_get B dX13_memberCount_6 fl_X13_9 pm_up_s rfl ?_
  refine pm_stk (st' := [.ref (z + (m0 + 1))]) rfl ?_
  refine pm_iconst (v := 0) B dX13_memberCount_9 (by decide) ?_
  refine pm_iald_n B dX13_memberCount_10 ((pm_up_n (by omega)).trans hg) 0 (by decide) (by decide) ?_
  have hDq1 : (d_X13_memberCount f g) = ((g 0), (upd f 6 0)) := by rw [d_X13_memberCount]
  exact pm_ireturn B dX13_memberCount_11 rfl (by first | rfl | (apply pm_nz; first | assumption | decide | exact pm_in01 _ _ _ | simp)) ⟨(by rw [hDq1]), rfl, by rw [hDq1]⟩ rfl rfl
def d_X13_asks (w : Nat) (f : Nat → Int32) (g : Nat → Int32) : (Int32 × (Nat → Int32)) := ((g w), (upd f 6 0))
set_option maxRecDepth 100000 in
set_option maxHeartbeats 8000000 in
theorem c_X13_asks {l : Launch} {z : Nat} {D : va_G} {kA : Nat → ClassId} {kE : Nat → Nat} {nx : Nat} {M : pm_M} {w : Nat}{m0 : Nat} {f : Nat → Int32} {g : Nat → Int32} (hM : M m0 = some (pm_mo z m0 f)) (hg : M (m0 + 1) = some (.inl (kA 0, 91, .inl g))) (hw : w < 91) : pm_C l z D kA kE yX13_asks cX13_asks 2 (some .int) 1 0 0 [.ref (z + m0), .int (nI w)] nx M (pm_rt (some (.int ((d_X13_asks w f g).1))) nx (pm_up M m0 (pm_mo z m0 ((d_X13_asks w f g).2)))) := by
  refine pm_mk (own := RX13) (nm := "asks") mt_X13_asks rfl rfl rfl rfl fun X B => ?_
  refine pm_loc (L' := [some (.ref (z + m0)), some (.int (nI w))]) rfl ?_
  refine pm_mem (M' := pm_up M m0 (pm_mo z m0 f)) (by rw [pm_up_id hM]) ?_
  refine pm_aload_n B dX13_asks_0 rfl ?_
  refine pm_iconst (v := 0) B dX13_asks_1 (by decide) ?_
  refine pm_put B dX13_asks_2 fs_X13_39 pm_up_s rfl rfl rfl ?_
  refine pm_mem (M' := pm_up M m0 (pm_mo z m0 (upd f 6 0))) pm_up_up ?_
  refine pm_aload_n B dX13_asks_5 rfl ?_
  refine pm_get B dX13_asks_6 fl_X13_9 pm_up_s rfl ?_
  refine pm_stk (st' := [.ref (z + (m0 + 1))]) rfl ?_
  refine pm_iload_n B dX13_asks_9 rfl ?_
  refine pm_iald_n B dX13_asks_10 ((pm_up_n (by omega)).trans hg) w (by first | assumption | omega) (by decide) ?_
  have hDq1 : (d_X13_asks w f g) = ((g w), (upd f 6 0)) := by rw [d_X13_asks]
  exact pm_ireturn B dX13_asks_11 rfl (by first | rfl | (apply pm_nz; first | assumption | decide | exact pm_in01 _ _ _ | simp)) ⟨(by rw [hDq1]), rfl, by rw [hDq1]⟩ rfl rfl
def d_X13_month (f : Nat → Int32) (g : Nat → Int32) : (Int32 × (Nat → Int32)) := (((d_X13_asks 4 f g).1), ((d_X13_asks 4 f g).2))
set_option maxRecDepth 100000 in
set_option maxHeartbeats 8000000 in
theorem c_X13_month {l : Launch} {z : Nat} {D : va_G} {kA : Nat → ClassId} {kE : Nat → Nat} {nx : Nat} {M : pm_M} {m0 : Nat} {f : Nat → Int32} {g : Nat → Int32} (hM : M m0 = some (pm_mo z m0 f)) (hg : M (m0 + 1) = some (.inl (kA 0, 91, .inl g))) : pm_C l z D kA kE yX13_month cX13_month 1 (some .int) 2 0 0 [.ref (z + m0)] nx M (pm_rt (some (.int ((d_X13_month f g).1))) nx (pm_up M m0 (pm_mo z m0 ((d_X13_month f g).2)))) := by
  refine pm_mk (own := RX13) (nm := "month") mt_X13_month rfl rfl rfl rfl fun X B => ?_
  refine pm_loc (L' := [some (.ref (z + m0))]) rfl ?_
  refine pm_mem (M' := pm_up M m0 (pm_mo z m0 f)) (by rw [pm_up_id hM]) ?_
  refine pm_aload_n B dX13_month_0 rfl ?_
  refine pm_iconst (v := 4) B dX13_month_1 (by decide) ?_
  refine pm_cV (As := [.int (nI 4)]) (mc2 := 0) (ms2 := 0) B rfl pm_up_s rfl (c_X13_asks (w := 4) (f := f) (g := g) pm_up_s ((pm_up_n (by omega)).trans hg) (by omega)) mt_X13_asks sv_X13_202 dX13_month_2 rfl rfl rfl rfl rfl ?_
  refine pm_mem (M' := pm_up (pm_up M m0 (pm_mo z m0 f)) m0 (pm_mo z m0 ((d_X13_asks 4 f g).2))) rfl ?_
  refine pm_mem (M' := pm_up M m0 (pm_mo z m0 ((d_X13_asks 4 f g).2))) (by rw [pm_up_up (a := m0)]) ?_
  refine pm_stk (st' := [.int ((d_X13_asks 4 f g).1)]) rfl ?_
  have hDq1 : (d_X13_month f g) = (((d_X13_asks 4 f g).1), ((d_X13_asks 4 f g).2)) := by rw [d_X13_month]
  exact pm_ireturn B dX13_month_5 rfl (by first | rfl | (apply pm_nz; first | assumption | decide | exact pm_in01 _ _ _ | simp)) ⟨(by rw [hDq1]), rfl, by rw [hDq1]⟩ rfl rfl
def d_X13_soldTotal (f : Nat → Int32) (g : Nat → Int32) : (Int32 × (Nat → Int32)) := (((d_X13_asks 5 f g).1), ((d_X13_asks 5 f g).2))
set_option maxRecDepth 100000 in
set_option maxHeartbeats 8000000 in
theorem c_X13_soldTotal {l : Launch} {z : Nat} {D : va_G} {kA : Nat → ClassId} {kE : Nat → Nat} {nx : Nat} {M : pm_M} {m0 : Nat} {f : Nat → Int32} {g : Nat → Int32} (hM : M m0 = some (pm_mo z m0 f)) (hg : M (m0 + 1) = some (.inl (kA 0, 91, .inl g))) : pm_C l z D kA kE yX13_soldTotal cX13_soldTotal 1 (some .int) 2 0 0 [.ref (z + m0)] nx M (pm_rt (some (.int ((d_X13_soldTotal f g).1))) nx (pm_up M m0 (pm_mo z m0 ((d_X13_soldTotal f g).2)))) := by
  refine pm_mk (own := RX13) (nm := "soldTotal") mt_X13_soldTotal rfl rfl rfl rfl fun X B => ?_
  refine pm_loc (L' := [some (.ref (z + m0))]) rfl ?_
  refine pm_mem (M' := pm_up M m0 (pm_mo z m0 f)) (by rw [pm_up_id hM]) ?_
  refine pm_aload_n B dX13_soldTotal_0 rfl ?_
  refine pm_iconst (v := 5) B dX13_soldTotal_1 (by decide) ?_
  refine pm_cV (As := [.int (nI 5)]) (mc2 := 0) (ms2 := 0) B rfl pm_up_s rfl (c_X13_asks (w := 5) (f := f) (g := g) pm_up_s ((pm_up_n (by omega)).trans hg) (by omega)) mt_X13_asks sv_X13_202 dX13_soldTotal_2 rfl rfl rfl rfl rfl ?_
  refine pm_mem (M' := pm_up (pm_up M m0 (pm_mo z m0 f)) m0 (pm_mo z m0 ((d_X13_asks 5 f g).2))) rfl ?_
  refine pm_mem (M' := pm_up M m0 (pm_mo z m0 ((d_X13_asks 5 f g).2))) (by rw [pm_up_up (a := m0)]) ?_
  refine pm_stk (st' := [.int ((d_X13_asks 5 f g).1)]) rfl ?_
  have hDq1 : (d_X13_soldTotal f g) = (((d_X13_asks 5 f g).1), ((d_X13_asks 5 f g).2)) := by rw [d_X13_soldTotal]
  exact pm_ireturn B dX13_soldTotal_5 rfl (by first | rfl | (apply pm_nz; first | assumption | decide | exact pm_in01 _ _ _ | simp)) ⟨(by rw [hDq1]), rfl, by rw [hDq1]⟩ rfl rfl
def d_X13_withinTotal (f : Nat → Int32) (g : Nat → Int32) : (Int32 × (Nat → Int32)) := ((((d_X13_asks 5 f g).1) - (g 6)), ((d_X13_asks 5 f g).2))
set_option maxRecDepth 100000 in
set_option maxHeartbeats 8000000 in
theorem c_X13_withinTotal {l : Launch} {z : Nat} {D : va_G} {kA : Nat → ClassId} {kE : Nat → Nat} {nx : Nat} {M : pm_M} {m0 : Nat} {f : Nat → Int32} {g : Nat → Int32} (hM : M m0 = some (pm_mo z m0 f)) (hg : M (m0 + 1) = some (.inl (kA 0, 91, .inl g))) : pm_C l z D kA kE yX13_withinTotal cX13_withinTotal 1 (some .int) 2 0 0 [.ref (z + m0)] nx M (pm_rt (some (.int ((d_X13_withinTotal f g).1))) nx (pm_up M m0 (pm_mo z m0 ((d_X13_withinTotal f g).2)))) := by
  refine pm_mk (own := RX13) (nm := "withinTotal") mt_X13_withinTotal rfl rfl rfl rfl fun X B => ?_
  refine pm_loc (L' := [some (.ref (z + m0))]) rfl ?_
  refine pm_mem (M' := pm_up M m0 (pm_mo z m0 f)) (by rw [pm_up_id hM]) ?_
  refine pm_aload_n B dX13_withinTotal_0 rfl ?_
  refine pm_iconst (v := 5) B dX13_withinTotal_1 (by decide) ?_
  refine pm_cV (As := [.int (nI 5)]) (mc2 := 0) (ms2 := 0) B rfl pm_up_s rfl (c_X13_asks (w := 5) (f := f) (g := g) pm_up_s ((pm_up_n (by omega)).trans hg) (by omega)) mt_X13_asks sv_X13_202 dX13_withinTotal_2 rfl rfl rfl rfl rfl ?_
  refine pm_mem (M' := pm_up (pm_up M m0 (pm_mo z m0 f)) m0 (pm_mo z m0 ((d_X13_asks 5 f g).2))) rfl ?_
  refine pm_mem (M' := pm_up M m0 (pm_mo z m0 ((d_X13_asks 5 f g).2))) (by rw [pm_up_up (a := m0)]) ?_
  refine pm_stk (st' := [.int ((d_X13_asks 5 f g).1)]) rfl ?_
  refine pm_aload_n B dX13_withinTotal_5 rfl ?_
  refine pm_get B dX13_withinTotal_6 fl_X13_9 pm_up_s rfl ?_
  refine pm_bipush (v := 6) B dX13_withinTotal_9 (by decide) ?_
  refine pm_iald_n B dX13_withinTotal_11 ((pm_up_n (by omega)).trans hg) 6 (by decide) (by decide) ?_
  refine pm_isub B dX13_withinTotal_12 ?_
  have hDq1 : (d_X13_withinTotal f g) = ((((d_X13_asks 5 f g).1) - (g 6)), ((d_X13_asks 5 f g).2)) := by rw [d_X13_withinTotal]
  exact pm_ireturn B dX13_withinTotal_13 rfl (by first | rfl | (apply pm_nz; first | assumption | decide | exact pm_in01 _ _ _ | simp)) ⟨(by rw [hDq1]), rfl, by rw [hDq1]⟩ rfl rfl
def d_X13_finedTotal (f : Nat → Int32) (g : Nat → Int32) : (Int32 × (Nat → Int32)) := (((d_X13_asks 6 f g).1), ((d_X13_asks 6 f g).2))
set_option maxRecDepth 100000 in
set_option maxHeartbeats 8000000 in
theorem c_X13_finedTotal {l : Launch} {z : Nat} {D : va_G} {kA : Nat → ClassId} {kE : Nat → Nat} {nx : Nat} {M : pm_M} {m0 : Nat} {f : Nat → Int32} {g : Nat → Int32} (hM : M m0 = some (pm_mo z m0 f)) (hg : M (m0 + 1) = some (.inl (kA 0, 91, .inl g))) : pm_C l z D kA kE yX13_finedTotal cX13_finedTotal 1 (some .int) 2 0 0 [.ref (z + m0)] nx M (pm_rt (some (.int ((d_X13_finedTotal f g).1))) nx (pm_up M m0 (pm_mo z m0 ((d_X13_finedTotal f g).2)))) := by
  refine pm_mk (own := RX13) (nm := "finedTotal") mt_X13_finedTotal rfl rfl rfl rfl fun X B => ?_
  refine pm_loc (L' := [some (.ref (z + m0))]) rfl ?_
  refine pm_mem (M' := pm_up M m0 (pm_mo z m0 f)) (by rw [pm_up_id hM]) ?_
  refine pm_aload_n B dX13_finedTotal_0 rfl ?_
  refine pm_bipush (v := 6) B dX13_finedTotal_1 (by decide) ?_
  refine pm_cV (As := [.int (nI 6)]) (mc2 := 0) (ms2 := 0) B rfl pm_up_s rfl (c_X13_asks (w := 6) (f := f) (g := g) pm_up_s ((pm_up_n (by omega)).trans hg) (by omega)) mt_X13_asks sv_X13_202 dX13_finedTotal_3 rfl rfl rfl rfl rfl ?_
  refine pm_mem (M' := pm_up (pm_up M m0 (pm_mo z m0 f)) m0 (pm_mo z m0 ((d_X13_asks 6 f g).2))) rfl ?_
  refine pm_mem (M' := pm_up M m0 (pm_mo z m0 ((d_X13_asks 6 f g).2))) (by rw [pm_up_up (a := m0)]) ?_
  refine pm_stk (st' := [.int ((d_X13_asks 6 f g).1)]) rfl ?_
  have hDq1 : (d_X13_finedTotal f g) = (((d_X13_asks 6 f g).1), ((d_X13_asks 6 f g).2)) := by rw [d_X13_finedTotal]
  exact pm_ireturn B dX13_finedTotal_6 rfl (by first | rfl | (apply pm_nz; first | assumption | decide | exact pm_in01 _ _ _ | simp)) ⟨(by rw [hDq1]), rfl, by rw [hDq1]⟩ rfl rfl
def d_X13_fines (f : Nat → Int32) (g : Nat → Int32) : (Int32 × (Nat → Int32)) := ((3 * ((d_X13_asks 6 f g).1)), ((d_X13_asks 6 f g).2))
set_option maxRecDepth 100000 in
set_option maxHeartbeats 8000000 in
theorem c_X13_fines {l : Launch} {z : Nat} {D : va_G} {kA : Nat → ClassId} {kE : Nat → Nat} {nx : Nat} {M : pm_M} {m0 : Nat} {f : Nat → Int32} {g : Nat → Int32} (hM : M m0 = some (pm_mo z m0 f)) (hg : M (m0 + 1) = some (.inl (kA 0, 91, .inl g))) : pm_C l z D kA kE yX13_fines cX13_fines 1 (some .int) 2 0 0 [.ref (z + m0)] nx M (pm_rt (some (.int ((d_X13_fines f g).1))) nx (pm_up M m0 (pm_mo z m0 ((d_X13_fines f g).2)))) := by
  refine pm_mk (own := RX13) (nm := "fines") mt_X13_fines rfl rfl rfl rfl fun X B => ?_
  refine pm_loc (L' := [some (.ref (z + m0))]) rfl ?_
  refine pm_mem (M' := pm_up M m0 (pm_mo z m0 f)) (by rw [pm_up_id hM]) ?_
  refine pm_iconst (v := 3) B dX13_fines_0 (by decide) ?_
  refine pm_aload_n B dX13_fines_1 rfl ?_
  refine pm_bipush (v := 6) B dX13_fines_2 (by decide) ?_
  refine pm_cV (As := [.int (nI 6)]) (mc2 := 0) (ms2 := 0) B rfl pm_up_s rfl (c_X13_asks (w := 6) (f := f) (g := g) pm_up_s ((pm_up_n (by omega)).trans hg) (by omega)) mt_X13_asks sv_X13_202 dX13_fines_4 rfl rfl rfl rfl rfl ?_
  refine pm_mem (M' := pm_up (pm_up M m0 (pm_mo z m0 f)) m0 (pm_mo z m0 ((d_X13_asks 6 f g).2))) rfl ?_
  refine pm_mem (M' := pm_up M m0 (pm_mo z m0 ((d_X13_asks 6 f g).2))) (by rw [pm_up_up (a := m0)]) ?_
  refine pm_stk (st' := [.int ((d_X13_asks 6 f g).1), .int 3]) rfl ?_
  refine pm_imul B dX13_fines_7 ?_
  have hDq1 : (d_X13_fines f g) = ((3 * ((d_X13_asks 6 f g).1)), ((d_X13_asks 6 f g).2)) := by rw [d_X13_fines]
  exact pm_ireturn B dX13_fines_8 rfl (by first | rfl | (apply pm_nz; first | assumption | decide | exact pm_in01 _ _ _ | simp)) ⟨(by rw [hDq1]), rfl, by rw [hDq1]⟩ rfl rfl
def d_X13_faultPosition (f : Nat → Int32) : (Int32 × (Nat → Int32)) := if (f 18) < 0 then (0, (upd f 6 (pm_th 0))) else ((f 18), (upd f 6 (pm_th 1)))
set_option maxRecDepth 100000 in
set_option maxHeartbeats 8000000 in
theorem c_X13_faultPosition {l : Launch} {z : Nat} {D : va_G} {kA : Nat → ClassId} {kE : Nat → Nat} {nx : Nat} {M : pm_M} {m0 : Nat} {f : Nat → Int32} (hM : M m0 = some (pm_mo z m0 f)) : pm_C l z D kA kE yX13_faultPosition cX13_faultPosition 1 (some .int) 2 0 0 [.ref (z + m0)] nx M (pm_rt (some (.int ((d_X13_faultPosition f).1))) nx (pm_up M m0 (pm_mo z m0 ((d_X13_faultPosition f).2)))) := by
  refine pm_mk (own := RX13) (nm := "faultPosition") mt_X13_faultPosition rfl rfl rfl rfl fun X B => ?_
  refine pm_loc (L' := [some (.ref (z + m0))]) rfl ?_
  refine pm_mem (M' := pm_up M m0 (pm_mo z m0 f)) (by rw [pm_up_id hM]) ?_
  refine pm_aload_n B dX13_faultPosition_0 rfl ?_
  refine pm_aload_n B dX13_faultPosition_1 rfl ?_
  refine pm_get B dX13_faultPosition_2 fl_X13_29 pm_up_s rfl ?_
  refine pm_if_lt (tgt := 12) B dX13_faultPosition_5 (by decide) (fun hq1 => ?_) (fun hq1 => ?_)
  · refine pm_iconst (v := 0) B dX13_faultPosition_12 (by decide) ?_
    refine pm_cV (As := [.int 0]) (mc2 := 0) (ms2 := 0) B rfl pm_up_s rfl (c_X13_isThere (f := f) (b := 0) pm_up_s (by first | assumption | exact pm_in01 _ _ _ | decide | simp)) mt_X13_isThere sv_X13_107 dX13_faultPosition_13 rfl rfl rfl rfl rfl ?_
    refine pm_mem (M' := pm_up M m0 (pm_mo z m0 (upd f 6 (pm_th 0)))) pm_up_up ?_
    refine pm_stk (st' := [.int 0]) rfl ?_
    refine pm_if_eq (tgt := 26) B dX13_faultPosition_16 (by decide) (fun hq2 => ?_) (fun hq2 => absurd (by decide) hq2)
    refine pm_iconst (v := 0) B dX13_faultPosition_26 (by decide) ?_
    have hDq3 : (d_X13_faultPosition f) = (0, (upd f 6 (pm_th 0))) := by rw [d_X13_faultPosition, if_pos hq1]
    exact pm_ireturn B dX13_faultPosition_27 rfl (by first | rfl | (apply pm_nz; first | assumption | decide | exact pm_in01 _ _ _ | simp)) ⟨(by rw [hDq3]), rfl, by rw [hDq3]⟩ rfl rfl
  · refine pm_iconst (v := 1) B dX13_faultPosition_8 (by decide) ?_
    refine pm_goto (tgt := 13) B dX13_faultPosition_9 (by decide) ?_
    refine pm_cV (As := [.int 1]) (mc2 := 0) (ms2 := 0) B rfl pm_up_s rfl (c_X13_isThere (f := f) (b := 1) pm_up_s (by first | assumption | exact pm_in01 _ _ _ | decide | simp)) mt_X13_isThere sv_X13_107 dX13_faultPosition_13 rfl rfl rfl rfl rfl ?_
    refine pm_mem (M' := pm_up M m0 (pm_mo z m0 (upd f 6 (pm_th 1)))) pm_up_up ?_
    refine pm_stk (st' := [.int 1]) rfl ?_
    refine pm_if_eq (tgt := 26) B dX13_faultPosition_16 (by decide) (fun hq4 => absurd hq4 (by decide)) (fun hq4 => ?_)
    refine pm_aload_n B dX13_faultPosition_19 rfl ?_
    refine pm_get B dX13_faultPosition_20 fl_X13_29 pm_up_s rfl ?_
    refine pm_stk (st' := [.int (f 18)]) rfl ?_
    refine pm_goto (tgt := 27) B dX13_faultPosition_23 (by decide) ?_
    have hDq5 : (d_X13_faultPosition f) = ((f 18), (upd f 6 (pm_th 1))) := by rw [d_X13_faultPosition, if_neg hq1]
    exact pm_ireturn B dX13_faultPosition_27 rfl (by first | rfl | (apply pm_nz; first | assumption | decide | exact pm_in01 _ _ _ | simp)) ⟨(by rw [hDq5]), rfl, by rw [hDq5]⟩ rfl rfl
def d_X13_denial (f : Nat → Int32) : (Int32 × (Nat → Int32)) := if (f 9) ≤ 0 then (0, (upd f 6 (pm_th 0))) else ((f 9), (upd f 6 (pm_th 1)))
set_option maxRecDepth 100000 in
set_option maxHeartbeats 8000000 in
theorem c_X13_denial {l : Launch} {z : Nat} {D : va_G} {kA : Nat → ClassId} {kE : Nat → Nat} {nx : Nat} {M : pm_M} {m0 : Nat} {f : Nat → Int32} (hM : M m0 = some (pm_mo z m0 f)) : pm_C l z D kA kE yX13_denial cX13_denial 1 (some .int) 2 0 0 [.ref (z + m0)] nx M (pm_rt (some (.int ((d_X13_denial f).1))) nx (pm_up M m0 (pm_mo z m0 ((d_X13_denial f).2)))) := by
  refine pm_mk (own := RX13) (nm := "denial") mt_X13_denial rfl rfl rfl rfl fun X B => ?_
  refine pm_loc (L' := [some (.ref (z + m0))]) rfl ?_
  refine pm_mem (M' := pm_up M m0 (pm_mo z m0 f)) (by rw [pm_up_id hM]) ?_
  refine pm_aload_n B dX13_denial_0 rfl ?_
  refine pm_aload_n B dX13_denial_1 rfl ?_
  refine pm_get B dX13_denial_2 fl_X13_51 pm_up_s rfl ?_
  refine pm_if_le (tgt := 12) B dX13_denial_5 (by decide) (fun hq1 => ?_) (fun hq1 => ?_)
  · refine pm_iconst (v := 0) B dX13_denial_12 (by decide) ?_
    refine pm_cV (As := [.int 0]) (mc2 := 0) (ms2 := 0) B rfl pm_up_s rfl (c_X13_isThere (f := f) (b := 0) pm_up_s (by first | assumption | exact pm_in01 _ _ _ | decide | simp)) mt_X13_isThere sv_X13_107 dX13_denial_13 rfl rfl rfl rfl rfl ?_
    refine pm_mem (M' := pm_up M m0 (pm_mo z m0 (upd f 6 (pm_th 0)))) pm_up_up ?_
    refine pm_stk (st' := [.int 0]) rfl ?_
    refine pm_if_eq (tgt := 26) B dX13_denial_16 (by decide) (fun hq2 => ?_) (fun hq2 => absurd (by decide) hq2)
    refine pm_iconst (v := 0) B dX13_denial_26 (by decide) ?_
    have hDq3 : (d_X13_denial f) = (0, (upd f 6 (pm_th 0))) := by rw [d_X13_denial, if_pos hq1]
    exact pm_ireturn B dX13_denial_27 rfl (by first | rfl | (apply pm_nz; first | assumption | decide | exact pm_in01 _ _ _ | simp)) ⟨(by rw [hDq3]), rfl, by rw [hDq3]⟩ rfl rfl
  · refine pm_iconst (v := 1) B dX13_denial_8 (by decide) ?_
    refine pm_goto (tgt := 13) B dX13_denial_9 (by decide) ?_
    refine pm_cV (As := [.int 1]) (mc2 := 0) (ms2 := 0) B rfl pm_up_s rfl (c_X13_isThere (f := f) (b := 1) pm_up_s (by first | assumption | exact pm_in01 _ _ _ | decide | simp)) mt_X13_isThere sv_X13_107 dX13_denial_13 rfl rfl rfl rfl rfl ?_
    refine pm_mem (M' := pm_up M m0 (pm_mo z m0 (upd f 6 (pm_th 1)))) pm_up_up ?_
    refine pm_stk (st' := [.int 1]) rfl ?_
    refine pm_if_eq (tgt := 26) B dX13_denial_16 (by decide) (fun hq4 => absurd hq4 (by decide)) (fun hq4 => ?_)
    refine pm_aload_n B dX13_denial_19 rfl ?_
    refine pm_get B dX13_denial_20 fl_X13_51 pm_up_s rfl ?_
    refine pm_stk (st' := [.int (f 9)]) rfl ?_
    refine pm_goto (tgt := 27) B dX13_denial_23 (by decide) ?_
    have hDq5 : (d_X13_denial f) = ((f 9), (upd f 6 (pm_th 1))) := by rw [d_X13_denial, if_neg hq1]
    exact pm_ireturn B dX13_denial_27 rfl (by first | rfl | (apply pm_nz; first | assumption | decide | exact pm_in01 _ _ _ | simp)) ⟨(by rw [hDq5]), rfl, by rw [hDq5]⟩ rfl rfl
def d_X13_denialDetail (f : Nat → Int32) : (Int32 × (Nat → Int32)) := if (f 9) ≤ 0 then (0, (upd f 6 (pm_th 0))) else ((f 10), (upd f 6 (pm_th 1)))
set_option maxRecDepth 100000 in
set_option maxHeartbeats 8000000 in
theorem c_X13_denialDetail {l : Launch} {z : Nat} {D : va_G} {kA : Nat → ClassId} {kE : Nat → Nat} {nx : Nat} {M : pm_M} {m0 : Nat} {f : Nat → Int32} (hM : M m0 = some (pm_mo z m0 f)) : pm_C l z D kA kE yX13_denialDetail cX13_denialDetail 1 (some .int) 2 0 0 [.ref (z + m0)] nx M (pm_rt (some (.int ((d_X13_denialDetail f).1))) nx (pm_up M m0 (pm_mo z m0 ((d_X13_denialDetail f).2)))) := by
  refine pm_mk (own := RX13) (nm := "denialDetail") mt_X13_denialDetail rfl rfl rfl rfl fun X B => ?_
  refine pm_loc (L' := [some (.ref (z + m0))]) rfl ?_
  refine pm_mem (M' := pm_up M m0 (pm_mo z m0 f)) (by rw [pm_up_id hM]) ?_
  refine pm_aload_n B dX13_denialDetail_0 rfl ?_
  refine pm_aload_n B dX13_denialDetail_1 rfl ?_
  refine pm_get B dX13_denialDetail_2 fl_X13_51 pm_up_s rfl ?_
  refine pm_if_le (tgt := 12) B dX13_denialDetail_5 (by decide) (fun hq1 => ?_) (fun hq1 => ?_)
  · refine pm_iconst (v := 0) B dX13_denialDetail_12 (by decide) ?_
    refine pm_cV (As := [.int 0]) (mc2 := 0) (ms2 := 0) B rfl pm_up_s rfl (c_X13_isThere (f := f) (b := 0) pm_up_s (by first | assumption | exact pm_in01 _ _ _ | decide | simp)) mt_X13_isThere sv_X13_107 dX13_denialDetail_13 rfl rfl rfl rfl rfl ?_
    refine pm_mem (M' := pm_up M m0 (pm_mo z m0 (upd f 6 (pm_th 0)))) pm_up_up ?_
    refine pm_stk (st' := [.int 0]) rfl ?_
    refine pm_if_eq (tgt := 26) B dX13_denialDetail_16 (by decide) (fun hq2 => ?_) (fun hq2 => absurd (by decide) hq2)
    refine pm_iconst (v := 0) B dX13_denialDetail_26 (by decide) ?_
    have hDq3 : (d_X13_denialDetail f) = (0, (upd f 6 (pm_th 0))) := by rw [d_X13_denialDetail, if_pos hq1]
    exact pm_ireturn B dX13_denialDetail_27 rfl (by first | rfl | (apply pm_nz; first | assumption | decide | exact pm_in01 _ _ _ | simp)) ⟨(by rw [hDq3]), rfl, by rw [hDq3]⟩ rfl rfl
  · refine pm_iconst (v := 1) B dX13_denialDetail_8 (by decide) ?_
    refine pm_goto (tgt := 13) B dX13_denialDetail_9 (by decide) ?_
    refine pm_cV (As := [.int 1]) (mc2 := 0) (ms2 := 0) B rfl pm_up_s rfl (c_X13_isThere (f := f) (b := 1) pm_up_s (by first | assumption | exact pm_in01 _ _ _ | decide | simp)) mt_X13_isThere sv_X13_107 dX13_denialDetail_13 rfl rfl rfl rfl rfl ?_
    refine pm_mem (M' := pm_up M m0 (pm_mo z m0 (upd f 6 (pm_th 1)))) pm_up_up ?_
    refine pm_stk (st' := [.int 1]) rfl ?_
    refine pm_if_eq (tgt := 26) B dX13_denialDetail_16 (by decide) (fun hq4 => absurd hq4 (by decide)) (fun hq4 => ?_)
    refine pm_aload_n B dX13_denialDetail_19 rfl ?_
    refine pm_get B dX13_denialDetail_20 fl_X13_57 pm_up_s rfl ?_
    refine pm_stk (st' := [.int (f 10)]) rfl ?_
    refine pm_goto (tgt := 27) B dX13_denialDetail_23 (by decide) ?_
    have hDq5 : (d_X13_denialDetail f) = ((f 10), (upd f 6 (pm_th 1))) := by rw [d_X13_denialDetail, if_neg hq1]
    exact pm_ireturn B dX13_denialDetail_27 rfl (by first | rfl | (apply pm_nz; first | assumption | decide | exact pm_in01 _ _ _ | simp)) ⟨(by rw [hDq5]), rfl, by rw [hDq5]⟩ rfl rfl
def d_X13_denialCause (f : Nat → Int32) : (Int32 × (Nat → Int32)) := if (f 9) ≤ 0 then (0, (upd f 6 (pm_th 0))) else (if (f 11) ≤ 0 then (0, (upd f 6 (pm_th 0))) else ((f 11), (upd f 6 (pm_th 1))))
set_option maxRecDepth 100000 in
set_option maxHeartbeats 8000000 in
theorem c_X13_denialCause {l : Launch} {z : Nat} {D : va_G} {kA : Nat → ClassId} {kE : Nat → Nat} {nx : Nat} {M : pm_M} {m0 : Nat} {f : Nat → Int32} (hM : M m0 = some (pm_mo z m0 f)) : pm_C l z D kA kE yX13_denialCause cX13_denialCause 1 (some .int) 2 0 0 [.ref (z + m0)] nx M (pm_rt (some (.int ((d_X13_denialCause f).1))) nx (pm_up M m0 (pm_mo z m0 ((d_X13_denialCause f).2)))) := by
  refine pm_mk (own := RX13) (nm := "denialCause") mt_X13_denialCause rfl rfl rfl rfl fun X B => ?_
  refine pm_loc (L' := [some (.ref (z + m0))]) rfl ?_
  refine pm_mem (M' := pm_up M m0 (pm_mo z m0 f)) (by rw [pm_up_id hM]) ?_
  refine pm_aload_n B dX13_denialCause_0 rfl ?_
  refine pm_aload_n B dX13_denialCause_1 rfl ?_
  refine pm_get B dX13_denialCause_2 fl_X13_51 pm_up_s rfl ?_
  refine pm_if_le (tgt := 19) B dX13_denialCause_5 (by decide) (fun hq1 => ?_) (fun hq1 => ?_)
  · refine pm_iconst (v := 0) B dX13_denialCause_19 (by decide) ?_
    refine pm_cV (As := [.int 0]) (mc2 := 0) (ms2 := 0) B rfl pm_up_s rfl (c_X13_isThere (f := f) (b := 0) pm_up_s (by first | assumption | exact pm_in01 _ _ _ | decide | simp)) mt_X13_isThere sv_X13_107 dX13_denialCause_20 rfl rfl rfl rfl rfl ?_
    refine pm_mem (M' := pm_up M m0 (pm_mo z m0 (upd f 6 (pm_th 0)))) pm_up_up ?_
    refine pm_stk (st' := [.int 0]) rfl ?_
    refine pm_if_eq (tgt := 33) B dX13_denialCause_23 (by decide) (fun hq2 => ?_) (fun hq2 => absurd (by decide) hq2)
    refine pm_iconst (v := 0) B dX13_denialCause_33 (by decide) ?_
    have hDq3 : (d_X13_denialCause f) = (0, (upd f 6 (pm_th 0))) := by rw [d_X13_denialCause, if_pos hq1]
    exact pm_ireturn B dX13_denialCause_34 rfl (by first | rfl | (apply pm_nz; first | assumption | decide | exact pm_in01 _ _ _ | simp)) ⟨(by rw [hDq3]), rfl, by rw [hDq3]⟩ rfl rfl
  · refine pm_aload_n B dX13_denialCause_8 rfl ?_
    refine pm_get B dX13_denialCause_9 fl_X13_60 pm_up_s rfl ?_
    refine pm_if_le (tgt := 19) B dX13_denialCause_12 (by decide) (fun hq4 => ?_) (fun hq4 => ?_)
    · refine pm_iconst (v := 0) B dX13_denialCause_19 (by decide) ?_
      refine pm_cV (As := [.int 0]) (mc2 := 0) (ms2 := 0) B rfl pm_up_s rfl (c_X13_isThere (f := f) (b := 0) pm_up_s (by first | assumption | exact pm_in01 _ _ _ | decide | simp)) mt_X13_isThere sv_X13_107 dX13_denialCause_20 rfl rfl rfl rfl rfl ?_
      refine pm_mem (M' := pm_up M m0 (pm_mo z m0 (upd f 6 (pm_th 0)))) pm_up_up ?_
      refine pm_stk (st' := [.int 0]) rfl ?_
      refine pm_if_eq (tgt := 33) B dX13_denialCause_23 (by decide) (fun hq5 => ?_) (fun hq5 => absurd (by decide) hq5)
      refine pm_iconst (v := 0) B dX13_denialCause_33 (by decide) ?_
      have hDq6 : (d_X13_denialCause f) = (0, (upd f 6 (pm_th 0))) := by rw [d_X13_denialCause, if_neg hq1, if_pos hq4]
      exact pm_ireturn B dX13_denialCause_34 rfl (by first | rfl | (apply pm_nz; first | assumption | decide | exact pm_in01 _ _ _ | simp)) ⟨(by rw [hDq6]), rfl, by rw [hDq6]⟩ rfl rfl
    · refine pm_iconst (v := 1) B dX13_denialCause_15 (by decide) ?_
      refine pm_goto (tgt := 20) B dX13_denialCause_16 (by decide) ?_
      refine pm_cV (As := [.int 1]) (mc2 := 0) (ms2 := 0) B rfl pm_up_s rfl (c_X13_isThere (f := f) (b := 1) pm_up_s (by first | assumption | exact pm_in01 _ _ _ | decide | simp)) mt_X13_isThere sv_X13_107 dX13_denialCause_20 rfl rfl rfl rfl rfl ?_
      refine pm_mem (M' := pm_up M m0 (pm_mo z m0 (upd f 6 (pm_th 1)))) pm_up_up ?_
      refine pm_stk (st' := [.int 1]) rfl ?_
      refine pm_if_eq (tgt := 33) B dX13_denialCause_23 (by decide) (fun hq7 => absurd hq7 (by decide)) (fun hq7 => ?_)
      refine pm_aload_n B dX13_denialCause_26 rfl ?_
      refine pm_get B dX13_denialCause_27 fl_X13_60 pm_up_s rfl ?_
      refine pm_stk (st' := [.int (f 11)]) rfl ?_
      refine pm_goto (tgt := 34) B dX13_denialCause_30 (by decide) ?_
      have hDq8 : (d_X13_denialCause f) = ((f 11), (upd f 6 (pm_th 1))) := by rw [d_X13_denialCause, if_neg hq1, if_neg hq4]
      exact pm_ireturn B dX13_denialCause_34 rfl (by first | rfl | (apply pm_nz; first | assumption | decide | exact pm_in01 _ _ _ | simp)) ⟨(by rw [hDq8]), rfl, by rw [hDq8]⟩ rfl rfl
def d_X13_undoCount (f : Nat → Int32) : (Int32 × (Nat → Int32)) := ((f 5), (upd f 6 0))
set_option maxRecDepth 100000 in
set_option maxHeartbeats 8000000 in
theorem c_X13_undoCount {l : Launch} {z : Nat} {D : va_G} {kA : Nat → ClassId} {kE : Nat → Nat} {nx : Nat} {M : pm_M} {m0 : Nat} {f : Nat → Int32} (hM : M m0 = some (pm_mo z m0 f)) : pm_C l z D kA kE yX13_undoCount cX13_undoCount 1 (some .int) 1 0 0 [.ref (z + m0)] nx M (pm_rt (some (.int ((d_X13_undoCount f).1))) nx (pm_up M m0 (pm_mo z m0 ((d_X13_undoCount f).2)))) := by
  refine pm_mk (own := RX13) (nm := "undoCount") mt_X13_undoCount rfl rfl rfl rfl fun X B => ?_
  refine pm_loc (L' := [some (.ref (z + m0))]) rfl ?_
  refine pm_mem (M' := pm_up M m0 (pm_mo z m0 f)) (by rw [pm_up_id hM]) ?_
  refine pm_aload_n B dX13_undoCount_0 rfl ?_
  refine pm_iconst (v := 0) B dX13_undoCount_1 (by decide) ?_
  refine pm_put B dX13_undoCount_2 fs_X13_39 pm_up_s rfl rfl rfl ?_
  refine pm_mem (M' := pm_up M m0 (pm_mo z m0 (upd f 6 0))) pm_up_up ?_
  refine pm_aload_n B dX13_undoCount_5 rfl ?_
  refine pm_get B dX13_undoCount_6 fl_X13_63 pm_up_s rfl ?_
  refine pm_stk (st' := [.int (f 5)]) rfl ?_
  have hDq1 : (d_X13_undoCount f) = ((f 5), (upd f 6 0)) := by rw [d_X13_undoCount]
  exact pm_ireturn B dX13_undoCount_9 rfl (by first | rfl | (apply pm_nz; first | assumption | decide | exact pm_in01 _ _ _ | simp)) ⟨(by rw [hDq1]), rfl, by rw [hDq1]⟩ rfl rfl
def d_X13_saveSnapshot (f : Nat → Int32) (g : Nat → Int32) (gs : Nat → Int32) : (Int32 × (Nat → Int32) × (Nat → Int32)) := ((g 0), (upd (upd f 6 0) 3 1), (va_cpy g gs 0 0 91))
set_option maxRecDepth 100000 in
set_option maxHeartbeats 8000000 in
theorem c_X13_saveSnapshot {l : Launch} {z : Nat} {D : va_G} {kA : Nat → ClassId} {kE : Nat → Nat} {nx : Nat} {M : pm_M} {m0 : Nat} {f : Nat → Int32} {g : Nat → Int32} {gs : Nat → Int32} (hM : M m0 = some (pm_mo z m0 f)) (hg : M (m0 + 1) = some (.inl (kA 0, 91, .inl g))) (hgs : M (m0 + 3) = some (.inl (kA 0, 91, .inl gs))) : pm_C l z D kA kE yX13_saveSnapshot cX13_saveSnapshot 1 (some .int) 2 0 0 [.ref (z + m0)] nx M (pm_rt (some (.int ((d_X13_saveSnapshot f g gs).1))) nx (pm_up (pm_up M m0 (pm_mo z m0 ((d_X13_saveSnapshot f g gs).2.1))) (m0 + 3) (.inl (kA 0, 91, .inl ((d_X13_saveSnapshot f g gs).2.2))))) := by
  refine pm_mk (own := RX13) (nm := "saveSnapshot") mt_X13_saveSnapshot rfl rfl rfl rfl fun X B => ?_
  refine pm_loc (L' := [some (.ref (z + m0))]) rfl ?_
  refine pm_mem (M' := pm_up (pm_up M m0 (pm_mo z m0 f)) (m0 + 3) (.inl (kA 0, 91, .inl gs))) (by rw [pm_up_id hM, pm_up_id hgs]) ?_
  refine pm_aload_n B dX13_saveSnapshot_0 rfl ?_
  refine pm_iconst (v := 0) B dX13_saveSnapshot_1 (by decide) ?_
  refine pm_put B dX13_saveSnapshot_2 fs_X13_39 ((pm_up_n (by omega)).trans pm_up_s) rfl rfl rfl ?_
  refine pm_mem (M' := pm_up (pm_up (pm_up M m0 (pm_mo z m0 f)) (m0 + 3) (.inl (kA 0, 91, .inl gs))) m0 (pm_mo z m0 (upd f 6 0))) rfl ?_
  refine pm_mem (M' := pm_up (pm_up M m0 (pm_mo z m0 (upd f 6 0))) (m0 + 3) (.inl (kA 0, 91, .inl gs))) (by rw [pm_up_sw (a := m0 + 3) (b := m0) (by omega), pm_up_up]) ?_
  refine pm_aload_n B dX13_saveSnapshot_5 rfl ?_
  refine pm_get B dX13_saveSnapshot_6 fl_X13_9 ((pm_up_n (by omega)).trans pm_up_s) rfl ?_
  refine pm_stk (st' := [.ref (z + (m0 + 1))]) rfl ?_
  refine pm_iconst (v := 0) B dX13_saveSnapshot_9 (by decide) ?_
  refine pm_aload_n B dX13_saveSnapshot_10 rfl ?_
  refine pm_get B dX13_saveSnapshot_11 fl_X13_16 ((pm_up_n (by omega)).trans pm_up_s) rfl ?_
  refine pm_stk (st' := [.ref (z + (m0 + 3)), .int 0, .ref (z + (m0 + 1))]) rfl ?_
  refine pm_iconst (v := 0) B dX13_saveSnapshot_14 (by decide) ?_
  refine pm_bipush (v := 91) B dX13_saveSnapshot_15 (by decide) ?_
  refine pm_acopy B dX13_saveSnapshot_17 (pm_T_in 1721 (by decide +kernel) (by decide +kernel)) ((pm_up_n (by omega)).trans ((pm_up_n (by omega)).trans hg)) pm_up_s 0 0 91 rfl rfl rfl (by first | decide | omega) (by first | decide | omega) (by first | decide | omega) (by first | decide | omega) rfl rfl ?_
  refine pm_mem (M' := pm_up (pm_up M m0 (pm_mo z m0 (upd f 6 0))) (m0 + 3) (.inl (kA 0, 91, .inl (va_cpy g gs 0 0 91)))) pm_up_up ?_
  refine pm_aload_n B dX13_saveSnapshot_20 rfl ?_
  refine pm_iconst (v := 1) B dX13_saveSnapshot_21 (by decide) ?_
  refine pm_put B dX13_saveSnapshot_22 fs_X13_291 ((pm_up_n (by omega)).trans pm_up_s) rfl rfl rfl ?_
  refine pm_mem (M' := pm_up (pm_up (pm_up M m0 (pm_mo z m0 (upd f 6 0))) (m0 + 3) (.inl (kA 0, 91, .inl (va_cpy g gs 0 0 91)))) m0 (pm_mo z m0 (upd (upd f 6 0) 3 1))) rfl ?_
  refine pm_mem (M' := pm_up (pm_up M m0 (pm_mo z m0 (upd (upd f 6 0) 3 1))) (m0 + 3) (.inl (kA 0, 91, .inl (va_cpy g gs 0 0 91)))) (by rw [pm_up_sw (a := m0 + 3) (b := m0) (by omega), pm_up_up]) ?_
  refine pm_aload_n B dX13_saveSnapshot_25 rfl ?_
  refine pm_get B dX13_saveSnapshot_26 fl_X13_9 ((pm_up_n (by omega)).trans pm_up_s) rfl ?_
  refine pm_stk (st' := [.ref (z + (m0 + 1))]) rfl ?_
  refine pm_iconst (v := 0) B dX13_saveSnapshot_29 (by decide) ?_
  refine pm_iald_n B dX13_saveSnapshot_30 ((pm_up_n (by omega)).trans ((pm_up_n (by omega)).trans hg)) 0 (by decide) (by decide) ?_
  have hDq1 : (d_X13_saveSnapshot f g gs) = ((g 0), (upd (upd f 6 0) 3 1), (va_cpy g gs 0 0 91)) := by rw [d_X13_saveSnapshot]
  exact pm_ireturn B dX13_saveSnapshot_31 rfl (by first | rfl | (apply pm_nz; first | assumption | decide | exact pm_in01 _ _ _ | simp)) ⟨(by rw [hDq1]), rfl, by rw [hDq1]⟩ rfl rfl
def d_X13_restoreSnapshot (f : Nat → Int32) (g : Nat → Int32) (gs : Nat → Int32) : (Int32 × (Nat → Int32) × (Nat → Int32)) := if (f 3) = 0 then (0, (upd f 6 1), g) else (((va_cpy gs g 0 0 91) 0), (upd (upd f 6 0) 5 0), (va_cpy gs g 0 0 91))
set_option maxRecDepth 100000 in
set_option maxHeartbeats 8000000 in
theorem c_X13_restoreSnapshot {l : Launch} {z : Nat} {D : va_G} {kA : Nat → ClassId} {kE : Nat → Nat} {nx : Nat} {M : pm_M} {m0 : Nat} {f : Nat → Int32} {g : Nat → Int32} {gs : Nat → Int32} (hM : M m0 = some (pm_mo z m0 f)) (hg : M (m0 + 1) = some (.inl (kA 0, 91, .inl g))) (hgs : M (m0 + 3) = some (.inl (kA 0, 91, .inl gs))) : pm_C l z D kA kE yX13_restoreSnapshot cX13_restoreSnapshot 1 (some .int) 2 0 0 [.ref (z + m0)] nx M (pm_rt (some (.int ((d_X13_restoreSnapshot f g gs).1))) nx (pm_up (pm_up M m0 (pm_mo z m0 ((d_X13_restoreSnapshot f g gs).2.1))) (m0 + 1) (.inl (kA 0, 91, .inl ((d_X13_restoreSnapshot f g gs).2.2))))) := by
  refine pm_mk (own := RX13) (nm := "restoreSnapshot") mt_X13_restoreSnapshot rfl rfl rfl rfl fun X B => ?_
  refine pm_loc (L' := [some (.ref (z + m0))]) rfl ?_
  refine pm_mem (M' := pm_up (pm_up M m0 (pm_mo z m0 f)) (m0 + 1) (.inl (kA 0, 91, .inl g))) (by rw [pm_up_id hM, pm_up_id hg]) ?_
  refine pm_aload_n B dX13_restoreSnapshot_0 rfl ?_
  refine pm_aload_n B dX13_restoreSnapshot_1 rfl ?_
  refine pm_get B dX13_restoreSnapshot_2 fl_X13_291 ((pm_up_n (by omega)).trans pm_up_s) rfl ?_
  refine pm_if_eq (tgt := 12) B dX13_restoreSnapshot_5 (by decide) (fun hq1 => ?_) (fun hq1 => ?_)
  · refine pm_iconst (v := 1) B dX13_restoreSnapshot_12 (by decide) ?_
    refine pm_put B dX13_restoreSnapshot_13 fs_X13_39 ((pm_up_n (by omega)).trans pm_up_s) rfl rfl rfl ?_
    refine pm_mem (M' := pm_up (pm_up (pm_up M m0 (pm_mo z m0 f)) (m0 + 1) (.inl (kA 0, 91, .inl g))) m0 (pm_mo z m0 (upd f 6 1))) rfl ?_
    refine pm_mem (M' := pm_up (pm_up M m0 (pm_mo z m0 (upd f 6 1))) (m0 + 1) (.inl (kA 0, 91, .inl g))) (by rw [pm_up_sw (a := m0 + 1) (b := m0) (by omega), pm_up_up]) ?_
    refine pm_aload_n B dX13_restoreSnapshot_16 rfl ?_
    refine pm_get B dX13_restoreSnapshot_17 fl_X13_39 ((pm_up_n (by omega)).trans pm_up_s) rfl ?_
    refine pm_stk (st' := [.int 1]) rfl ?_
    refine pm_if_le (tgt := 25) B dX13_restoreSnapshot_20 (by decide) (fun hq2 => absurd hq2 (by decide)) (fun hq2 => ?_)
    refine pm_iconst (v := 0) B dX13_restoreSnapshot_23 (by decide) ?_
    have hDq3 : (d_X13_restoreSnapshot f g gs) = (0, (upd f 6 1), g) := by rw [d_X13_restoreSnapshot, if_pos hq1]
    exact pm_ireturn B dX13_restoreSnapshot_24 rfl (by first | rfl | (apply pm_nz; first | assumption | decide | exact pm_in01 _ _ _ | simp)) ⟨(by rw [hDq3]), rfl, by rw [hDq3]⟩ rfl rfl
  · refine pm_iconst (v := 0) B dX13_restoreSnapshot_8 (by decide) ?_
    refine pm_goto (tgt := 13) B dX13_restoreSnapshot_9 (by decide) ?_
    refine pm_put B dX13_restoreSnapshot_13 fs_X13_39 ((pm_up_n (by omega)).trans pm_up_s) rfl rfl rfl ?_
    refine pm_mem (M' := pm_up (pm_up (pm_up M m0 (pm_mo z m0 f)) (m0 + 1) (.inl (kA 0, 91, .inl g))) m0 (pm_mo z m0 (upd f 6 0))) rfl ?_
    refine pm_mem (M' := pm_up (pm_up M m0 (pm_mo z m0 (upd f 6 0))) (m0 + 1) (.inl (kA 0, 91, .inl g))) (by rw [pm_up_sw (a := m0 + 1) (b := m0) (by omega), pm_up_up]) ?_
    refine pm_aload_n B dX13_restoreSnapshot_16 rfl ?_
    refine pm_get B dX13_restoreSnapshot_17 fl_X13_39 ((pm_up_n (by omega)).trans pm_up_s) rfl ?_
    refine pm_stk (st' := [.int 0]) rfl ?_
    refine pm_if_le (tgt := 25) B dX13_restoreSnapshot_20 (by decide) (fun hq4 => ?_) (fun hq4 => absurd (by decide) hq4)
    refine pm_aload_n B dX13_restoreSnapshot_25 rfl ?_
    refine pm_get B dX13_restoreSnapshot_26 fl_X13_16 ((pm_up_n (by omega)).trans pm_up_s) rfl ?_
    refine pm_stk (st' := [.ref (z + (m0 + 3))]) rfl ?_
    refine pm_iconst (v := 0) B dX13_restoreSnapshot_29 (by decide) ?_
    refine pm_aload_n B dX13_restoreSnapshot_30 rfl ?_
    refine pm_get B dX13_restoreSnapshot_31 fl_X13_9 ((pm_up_n (by omega)).trans pm_up_s) rfl ?_
    refine pm_stk (st' := [.ref (z + (m0 + 1)), .int 0, .ref (z + (m0 + 3))]) rfl ?_
    refine pm_iconst (v := 0) B dX13_restoreSnapshot_34 (by decide) ?_
    refine pm_bipush (v := 91) B dX13_restoreSnapshot_35 (by decide) ?_
    refine pm_acopy B dX13_restoreSnapshot_37 (pm_T_in 1721 (by decide +kernel) (by decide +kernel)) ((pm_up_n (by omega)).trans ((pm_up_n (by omega)).trans hgs)) pm_up_s 0 0 91 rfl rfl rfl (by first | decide | omega) (by first | decide | omega) (by first | decide | omega) (by first | decide | omega) rfl rfl ?_
    refine pm_mem (M' := pm_up (pm_up M m0 (pm_mo z m0 (upd f 6 0))) (m0 + 1) (.inl (kA 0, 91, .inl (va_cpy gs g 0 0 91)))) pm_up_up ?_
    refine pm_aload_n B dX13_restoreSnapshot_40 rfl ?_
    refine pm_iconst (v := 0) B dX13_restoreSnapshot_41 (by decide) ?_
    refine pm_put B dX13_restoreSnapshot_42 fs_X13_63 ((pm_up_n (by omega)).trans pm_up_s) rfl rfl rfl ?_
    refine pm_mem (M' := pm_up (pm_up (pm_up M m0 (pm_mo z m0 (upd f 6 0))) (m0 + 1) (.inl (kA 0, 91, .inl (va_cpy gs g 0 0 91)))) m0 (pm_mo z m0 (upd (upd f 6 0) 5 0))) rfl ?_
    refine pm_mem (M' := pm_up (pm_up M m0 (pm_mo z m0 (upd (upd f 6 0) 5 0))) (m0 + 1) (.inl (kA 0, 91, .inl (va_cpy gs g 0 0 91)))) (by rw [pm_up_sw (a := m0 + 1) (b := m0) (by omega), pm_up_up]) ?_
    refine pm_aload_n B dX13_restoreSnapshot_45 rfl ?_
    refine pm_get B dX13_restoreSnapshot_46 fl_X13_9 ((pm_up_n (by omega)).trans pm_up_s) rfl ?_
    refine pm_stk (st' := [.ref (z + (m0 + 1))]) rfl ?_
    refine pm_iconst (v := 0) B dX13_restoreSnapshot_49 (by decide) ?_
    refine pm_iald_n B dX13_restoreSnapshot_50 pm_up_s 0 (by decide) (by decide) ?_
    have hDq5 : (d_X13_restoreSnapshot f g gs) = (((va_cpy gs g 0 0 91) 0), (upd (upd f 6 0) 5 0), (va_cpy gs g 0 0 91)) := by rw [d_X13_restoreSnapshot, if_neg hq1]
    exact pm_ireturn B dX13_restoreSnapshot_51 rfl (by first | rfl | (apply pm_nz; first | assumption | decide | exact pm_in01 _ _ _ | simp)) ⟨(by rw [hDq5]), rfl, by rw [hDq5]⟩ rfl rfl
def d_X13_undo (k : Nat) (f : Nat → Int32) (g : Nat → Int32) (gp : Nat → Int32) : (Int32 × (Nat → Int32) × (Nat → Int32)) := if (nI k) = 0 then (0, (upd f 6 1), g) else ((nI (k - 1)), (upd (upd f 6 0) 5 (nI (k - 1))), (va_cpy gp g (91 * (k - 1)) 0 91))
set_option maxRecDepth 100000 in
set_option maxHeartbeats 8000000 in
theorem c_X13_undo {l : Launch} {z : Nat} {D : va_G} {kA : Nat → ClassId} {kE : Nat → Nat} {nx : Nat} {M : pm_M} {k : Nat}{m0 : Nat} {f : Nat → Int32} {g : Nat → Int32} {gp : Nat → Int32} (hM : M m0 = some (pm_mo z m0 f)) (hg : M (m0 + 1) = some (.inl (kA 0, 91, .inl g))) (hgp : M (m0 + 4) = some (.inl (kA 0, 728, .inl gp))) (hf5 : f 5 = nI k) (h8 : k ≤ 8) : pm_C l z D kA kE yX13_undo cX13_undo 1 (some .int) 2 0 0 [.ref (z + m0)] nx M (pm_rt (some (.int ((d_X13_undo k f g gp).1))) nx (pm_up (pm_up M m0 (pm_mo z m0 ((d_X13_undo k f g gp).2.1))) (m0 + 1) (.inl (kA 0, 91, .inl ((d_X13_undo k f g gp).2.2))))) := by
  refine pm_mk (own := RX13) (nm := "undo") mt_X13_undo rfl rfl rfl rfl fun X B => ?_
  refine pm_loc (L' := [some (.ref (z + m0))]) rfl ?_
  refine pm_mem (M' := pm_up (pm_up M m0 (pm_mo z m0 f)) (m0 + 1) (.inl (kA 0, 91, .inl g))) (by rw [pm_up_id hM, pm_up_id hg]) ?_
  refine pm_aload_n B dX13_undo_0 rfl ?_
  refine pm_aload_n B dX13_undo_1 rfl ?_
  refine pm_get B dX13_undo_2 fl_X13_63 ((pm_up_n (by omega)).trans pm_up_s) rfl ?_
  refine pm_stk (st' := [.int (nI k), .ref (z + m0)]) (by rw [show (f 5) = (nI k) from by rw [hf5]]) ?_
  refine pm_if_ne (tgt := 12) B dX13_undo_5 (by decide) (fun hq1 => ?_) (fun hq1 => ?_)
  · have hk0 : ¬ k = 0 := fun e => hq1 (by rw [e]; rfl)
    refine pm_iconst (v := 0) B dX13_undo_12 (by decide) ?_
    refine pm_put B dX13_undo_13 fs_X13_39 ((pm_up_n (by omega)).trans pm_up_s) rfl rfl rfl ?_
    refine pm_mem (M' := pm_up (pm_up (pm_up M m0 (pm_mo z m0 f)) (m0 + 1) (.inl (kA 0, 91, .inl g))) m0 (pm_mo z m0 (upd f 6 0))) rfl ?_
    refine pm_mem (M' := pm_up (pm_up M m0 (pm_mo z m0 (upd f 6 0))) (m0 + 1) (.inl (kA 0, 91, .inl g))) (by rw [pm_up_sw (a := m0 + 1) (b := m0) (by omega), pm_up_up]) ?_
    refine pm_aload_n B dX13_undo_16 rfl ?_
    refine pm_get B dX13_undo_17 fl_X13_39 ((pm_up_n (by omega)).trans pm_up_s) rfl ?_
    refine pm_stk (st' := [.int 0]) rfl ?_
    refine pm_if_le (tgt := 25) B dX13_undo_20 (by decide) (fun hq2 => ?_) (fun hq2 => absurd (by decide) hq2)
    refine pm_aload_n B dX13_undo_25 rfl ?_
    refine pm_dup B dX13_undo_26 rfl ?_
    refine pm_get B dX13_undo_27 fl_X13_63 ((pm_up_n (by omega)).trans pm_up_s) rfl ?_
    refine pm_stk (st' := [.int (f 5), .ref (z + m0)]) rfl ?_
    refine pm_stk (st' := [.int (nI k), .ref (z + m0)]) (by rw [show (f 5) = (nI k) from by rw [hf5]]) ?_
    refine pm_iconst (v := 1) B dX13_undo_30 (by decide) ?_
    refine pm_isub B dX13_undo_31 ?_
    refine pm_stk (st' := [.int (nI (k - 1)), .ref (z + m0)]) (by rw [show ((nI k) - 1) = (nI (k - 1)) from pm_kpred hk0]) ?_
    refine pm_put B dX13_undo_32 fs_X13_63 ((pm_up_n (by omega)).trans pm_up_s) rfl rfl rfl ?_
    refine pm_mem (M' := pm_up (pm_up (pm_up M m0 (pm_mo z m0 (upd f 6 0))) (m0 + 1) (.inl (kA 0, 91, .inl g))) m0 (pm_mo z m0 (upd (upd f 6 0) 5 (nI (k - 1))))) rfl ?_
    refine pm_mem (M' := pm_up (pm_up M m0 (pm_mo z m0 (upd (upd f 6 0) 5 (nI (k - 1))))) (m0 + 1) (.inl (kA 0, 91, .inl g))) (by rw [pm_up_sw (a := m0 + 1) (b := m0) (by omega), pm_up_up]) ?_
    refine pm_aload_n B dX13_undo_35 rfl ?_
    refine pm_get B dX13_undo_36 fl_X13_19 ((pm_up_n (by omega)).trans pm_up_s) rfl ?_
    refine pm_stk (st' := [.ref (z + (m0 + 4))]) rfl ?_
    refine pm_bipush (v := 91) B dX13_undo_39 (by decide) ?_
    refine pm_aload_n B dX13_undo_41 rfl ?_
    refine pm_get B dX13_undo_42 fl_X13_63 ((pm_up_n (by omega)).trans pm_up_s) rfl ?_
    refine pm_stk (st' := [.int (nI (k - 1)), .int 91, .ref (z + (m0 + 4))]) rfl ?_
    refine pm_imul B dX13_undo_45 ?_
    refine pm_aload_n B dX13_undo_46 rfl ?_
    refine pm_get B dX13_undo_47 fl_X13_9 ((pm_up_n (by omega)).trans pm_up_s) rfl ?_
    refine pm_stk (st' := [.ref (z + (m0 + 1)), .int (91 * (nI (k - 1))), .ref (z + (m0 + 4))]) rfl ?_
    refine pm_iconst (v := 0) B dX13_undo_50 (by decide) ?_
    refine pm_bipush (v := 91) B dX13_undo_51 (by decide) ?_
    refine pm_acopy B dX13_undo_53 (pm_T_in 1721 (by decide +kernel) (by decide +kernel)) ((pm_up_n (by omega)).trans ((pm_up_n (by omega)).trans hgp)) pm_up_s (91 * (k - 1)) 0 91 (by rw [show (91 : Int32) = nI 91 from rfl, pk_mul]) rfl rfl (by first | decide | omega) (by first | decide | omega) (by first | decide | omega) (by first | decide | omega) rfl rfl ?_
    refine pm_mem (M' := pm_up (pm_up M m0 (pm_mo z m0 (upd (upd f 6 0) 5 (nI (k - 1))))) (m0 + 1) (.inl (kA 0, 91, .inl (va_cpy gp g (91 * (k - 1)) 0 91)))) pm_up_up ?_
    refine pm_aload_n B dX13_undo_56 rfl ?_
    refine pm_get B dX13_undo_57 fl_X13_63 ((pm_up_n (by omega)).trans pm_up_s) rfl ?_
    refine pm_stk (st' := [.int (nI (k - 1))]) rfl ?_
    have hDq3 : (d_X13_undo k f g gp) = ((nI (k - 1)), (upd (upd f 6 0) 5 (nI (k - 1))), (va_cpy gp g (91 * (k - 1)) 0 91)) := by rw [d_X13_undo, if_neg hq1]
    exact pm_ireturn B dX13_undo_60 rfl (by first | rfl | (apply pm_nz; first | assumption | decide | exact pm_in01 _ _ _ | simp)) ⟨(by rw [hDq3]), rfl, by rw [hDq3]⟩ rfl rfl
  · refine pm_iconst (v := 1) B dX13_undo_8 (by decide) ?_
    refine pm_goto (tgt := 13) B dX13_undo_9 (by decide) ?_
    refine pm_put B dX13_undo_13 fs_X13_39 ((pm_up_n (by omega)).trans pm_up_s) rfl rfl rfl ?_
    refine pm_mem (M' := pm_up (pm_up (pm_up M m0 (pm_mo z m0 f)) (m0 + 1) (.inl (kA 0, 91, .inl g))) m0 (pm_mo z m0 (upd f 6 1))) rfl ?_
    refine pm_mem (M' := pm_up (pm_up M m0 (pm_mo z m0 (upd f 6 1))) (m0 + 1) (.inl (kA 0, 91, .inl g))) (by rw [pm_up_sw (a := m0 + 1) (b := m0) (by omega), pm_up_up]) ?_
    refine pm_aload_n B dX13_undo_16 rfl ?_
    refine pm_get B dX13_undo_17 fl_X13_39 ((pm_up_n (by omega)).trans pm_up_s) rfl ?_
    refine pm_stk (st' := [.int 1]) rfl ?_
    refine pm_if_le (tgt := 25) B dX13_undo_20 (by decide) (fun hq4 => absurd hq4 (by decide)) (fun hq4 => ?_)
    refine pm_iconst (v := 0) B dX13_undo_23 (by decide) ?_
    have hDq5 : (d_X13_undo k f g gp) = (0, (upd f 6 1), g) := by rw [d_X13_undo, if_pos hq1]
    exact pm_ireturn B dX13_undo_24 rfl (by first | rfl | (apply pm_nz; first | assumption | decide | exact pm_in01 _ _ _ | simp)) ⟨(by rw [hDq5]), rfl, by rw [hDq5]⟩ rfl rfl
