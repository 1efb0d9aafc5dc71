/-! the class: Office's changes -/
def pm_wn1 (w : Int32) : Int32 := if 2 ≤ w then 0 else w + 1
def pm_wn2 (w b : Int32) : Int32 := if 2 ≤ w then 2 else b
def pm_im1 (w : Int32) : Int32 := if w ≤ 0 then w else w - 1
def pm_im2 (w b : Int32) : Int32 := if w ≤ 0 then (if b ≤ 0 then b else b - 1) else b
section SB
variable {z b a : Nat} {kA : Nat → ClassId} {M : pm_M} {r : Nat → Int32}
theorem pm_sw_45 {i : Nat} {w x : Int32} (hi : i < 7) (ha : a = b + 2 + i) : pm_up (pm_sw z kA b M r) a (pm_mb (r (7 + 6 * i + 0)) (r (7 + 6 * i + 1)) (r (7 + 6 * i + 2)) (r (7 + 6 * i + 3)) w x) = pm_sw z kA b M (upd (upd r (7 + 6 * i + 4) w) (7 + 6 * i + 5) x) := by
  rw [← pm_sw_m5 hi ha, ← pm_sw_m4 hi ha]
  simp only [pm_up_up, pm_mb]
  congr 1
  simp [upd]
theorem pm_sw_warn {i : Nat} (hi : i < 7) (ha : a = b + 2 + i) : pm_up (pm_sw z kA b M r) a (if 2 ≤ r (7 + 6 * i + 4) then pm_mb (r (7 + 6 * i + 0)) (r (7 + 6 * i + 1)) (r (7 + 6 * i + 2)) (r (7 + 6 * i + 3)) 0 2 else pm_mb (r (7 + 6 * i + 0)) (r (7 + 6 * i + 1)) (r (7 + 6 * i + 2)) (r (7 + 6 * i + 3)) (r (7 + 6 * i + 4) + 1) (r (7 + 6 * i + 5))) = pm_sw z kA b M (upd (upd r (7 + 6 * i + 4) (pm_wn1 (r (7 + 6 * i + 4)))) (7 + 6 * i + 5) (pm_wn2 (r (7 + 6 * i + 4)) (r (7 + 6 * i + 5)))) := by
  rw [← pm_sw_45 hi ha]
  unfold pm_wn1 pm_wn2
  split <;> rfl
theorem pm_sw_imp {i : Nat} (hi : i < 7) (ha : a = b + 2 + i) : (if r (7 + 6 * i + 4) ≤ 0 then (if r (7 + 6 * i + 5) ≤ 0 then pm_sw z kA b M r else pm_up (pm_sw z kA b M r) a (pm_mb (r (7 + 6 * i + 0)) (r (7 + 6 * i + 1)) (r (7 + 6 * i + 2)) (r (7 + 6 * i + 3)) (r (7 + 6 * i + 4)) (r (7 + 6 * i + 5) - 1))) else pm_up (pm_sw z kA b M r) a (pm_mb (r (7 + 6 * i + 0)) (r (7 + 6 * i + 1)) (r (7 + 6 * i + 2)) (r (7 + 6 * i + 3)) (r (7 + 6 * i + 4) - 1) (r (7 + 6 * i + 5)))) = pm_sw z kA b M (upd (upd r (7 + 6 * i + 4) (pm_im1 (r (7 + 6 * i + 4)))) (7 + 6 * i + 5) (pm_im2 (r (7 + 6 * i + 4)) (r (7 + 6 * i + 5)))) := by
  unfold pm_im1 pm_im2
  split
  · split
    · congr 1
      funext k
      by_cases h5 : k = 7 + 6 * i + 5
      · subst h5; rw [pk_us]
      · rw [pk_un h5]
        by_cases h4 : k = 7 + 6 * i + 4
        · subst h4; rw [pk_us]
        · rw [pk_un h4]
    · exact pm_sw_45 hi ha
  · exact pm_sw_45 hi ha
theorem pm_sw_pp {i k : Nat} {x y : Int32} (hi : i < 7) (hk : k < 7) (ha : a = b + 10) : pm_up (pm_sw z kA b M r) a (.inl (kA 0, 7, .inl (upd (upd (fun q => r (49 + q)) i x) k y))) = pm_sw z kA b M (upd (upd r (49 + i) x) (49 + k) y) := by
  have e : (fun q => upd r (49 + i) x (49 + q)) = upd (fun q => r (49 + q)) i x := by
    funext q
    by_cases hq : q = i
    · subst hq; rw [pk_us, pk_us]
    · rw [pk_un (by omega), pk_un hq]
  rw [← pm_sw_p hk ha, e, ← pm_sw_p hi ha, pm_up_up]
end SB
def d_X7_enter (x : Int32) (y : Int32) (n : Nat) (r : Nat → Int32) : (Int32 × (Nat → Int32)) := ((nI n), (upd (pm_r6 r n x y 0 0 0 0) 0 (((pm_r6 r n x y 0 0 0 0) 0) + 1)))
set_option maxRecDepth 100000 in
set_option maxHeartbeats 8000000 in
theorem c_X7_enter {l : Launch} {z : Nat} {D : va_G} {kA : Nat → ClassId} {kE : Nat → Nat} {nx : Nat} {M : pm_M} {x : Int32} {y : Int32} {n : Nat} {r : Nat → Int32} (hS : pm_SA z kA 2 M r) (hO1 : M 1 = some (.inr (5, [.ref (z + 2), .ref (z + 13), .ref (z + 16)]))) (hn : r 0 = nI n) (h7 : n ≤ 7) (h6 : n < 7) : pm_C l z D kA kE yX7_enter cX7_enter 4 (some .int) 3 0 0 [.ref (z + 1), .int x, .int y] nx M (pm_rt (some (.int ((d_X7_enter x y n r).1))) nx (pm_sw z kA 2 M ((d_X7_enter x y n r).2))) := by
  refine pm_mk (own := RX7) (nm := "enter") mt_X7_enter rfl rfl rfl rfl fun X B => ?_
  refine pm_loc (L' := [some (.ref (z + 1)), some (.int x), some (.int y), none]) rfl ?_
  refine pm_mem (M' := pm_sw z kA 2 M r) (by rw [pm_sw_id hS]) ?_
  refine pm_aload_n B dX7_enter_0 rfl ?_
  refine pm_get B dX7_enter_1 fl_X7_12 ((pm_sw_n (by omega)).trans hO1) rfl ?_
  refine pm_get B dX7_enter_4 fl_X7_116 ((pm_swS (z := z) (b := 2) (kA := kA)).1) rfl ?_
  refine pm_stk (st' := [.int (nI n)]) (by rw [show (r 0) = (nI n) from by rw [hn]]) ?_
  refine pm_istore_n B dX7_enter_7 rfl rfl ?_
  refine pm_loc (L' := [some (.ref (z + 1)), some (.int x), some (.int y), some (.int (nI n))]) rfl ?_
  refine pm_aload_n B dX7_enter_8 rfl ?_
  refine pm_get B dX7_enter_9 fl_X7_12 ((pm_sw_n (by omega)).trans hO1) rfl ?_
  refine pm_get B dX7_enter_12 fl_X7_123 ((pm_swS (z := z) (b := 2) (kA := kA)).1) rfl ?_
  refine pm_iload_n B dX7_enter_15 rfl ?_
  refine pm_aald_n B dX7_enter_16 ((pm_swS (z := z) (b := 2) (kA := kA)).2.1) rfl n (by first | assumption | omega) (by decide) (pm_mr_at (by first | assumption | omega)) ?_
  refine pm_iload_n B dX7_enter_17 rfl ?_
  refine pm_iload_n B dX7_enter_18 rfl ?_
  refine pm_cV (As := [.int x, .int y]) (mc2 := 0) (ms2 := 0) B rfl ((pm_swS (z := z) (b := 2) (kA := kA)).2.2.1 n (by first | assumption | omega)) rfl (c_X6_enter (c2 := x) (v2 := y) ((pm_swS (z := z) (b := 2) (kA := kA)).2.2.1 n (by first | assumption | omega))) mt_X6_enter sv_X7_161 dX7_enter_19 rfl rfl rfl rfl rfl ?_
  refine pm_mem (M' := pm_sw z kA 2 M (pm_r6 r n x y 0 0 0 0)) (pm_sw_m6 (i := n) (by first | assumption | omega) (by omega)) ?_
  refine pm_stk (st' := []) rfl ?_
  refine pm_aload_n B dX7_enter_22 rfl ?_
  refine pm_get B dX7_enter_23 fl_X7_12 ((pm_sw_n (by omega)).trans hO1) rfl ?_
  refine pm_dup B dX7_enter_26 rfl ?_
  refine pm_get B dX7_enter_27 fl_X7_116 ((pm_swS (z := z) (b := 2) (kA := kA)).1) rfl ?_
  refine pm_iconst (v := 1) B dX7_enter_30 (by decide) ?_
  refine pm_iadd B dX7_enter_31 ?_
  refine pm_put B dX7_enter_32 fs_X7_116 ((pm_swS (z := z) (b := 2) (kA := kA)).1) rfl rfl rfl ?_
  refine pm_mem (M' := pm_sw z kA 2 M (upd (pm_r6 r n x y 0 0 0 0) 0 (((pm_r6 r n x y 0 0 0 0) 0) + 1))) (pm_sw_f0) ?_
  refine pm_iload_n B dX7_enter_35 rfl ?_
  have hDq1 : (d_X7_enter x y n r) = ((nI n), (upd (pm_r6 r n x y 0 0 0 0) 0 (((pm_r6 r n x y 0 0 0 0) 0) + 1))) := by rw [d_X7_enter]
  exact pm_ireturn B dX7_enter_36 rfl (by first | rfl | (apply pm_nz; first | assumption | decide | exact pm_in01 _ _ _ | simp)) ⟨(by rw [hDq1]), rfl, by rw [hDq1]⟩ rfl rfl
def d_X7_forgive (i : Nat) (n : Nat) (r : Nat → Int32) : (Int32 × (Nat → Int32)) := ((d_X10_loyalCount n (upd (upd r (7 + 6 * i + 4) 0) (7 + 6 * i + 5) 0)), (upd (upd r (7 + 6 * i + 4) 0) (7 + 6 * i + 5) 0))
set_option maxRecDepth 100000 in
set_option maxHeartbeats 8000000 in
theorem c_X7_forgive {l : Launch} {z : Nat} {D : va_G} {kA : Nat → ClassId} {kE : Nat → Nat} {nx : Nat} {M : pm_M} {i : Nat} {n : Nat} {r : Nat → Int32} (hS : pm_SA z kA 2 M r) (hO1 : M 1 = some (.inr (5, [.ref (z + 2), .ref (z + 13), .ref (z + 16)]))) (hn : r 0 = nI n) (h7 : n ≤ 7) (hi : i < n) : pm_C l z D kA kE yX7_forgive cX7_forgive 2 (some .int) 3 0 0 [.ref (z + 1), .int (nI i)] nx M (pm_rt (some (.int ((d_X7_forgive i n r).1))) nx (pm_sw z kA 2 M ((d_X7_forgive i n r).2))) := by
  refine pm_mk (own := RX7) (nm := "forgive") mt_X7_forgive rfl rfl rfl rfl fun X B => ?_
  refine pm_loc (L' := [some (.ref (z + 1)), some (.int (nI i))]) rfl ?_
  refine pm_mem (M' := pm_sw z kA 2 M r) (by rw [pm_sw_id hS]) ?_
  refine pm_aload_n B dX7_forgive_0 rfl ?_
  refine pm_get B dX7_forgive_1 fl_X7_12 ((pm_sw_n (by omega)).trans hO1) rfl ?_
  refine pm_get B dX7_forgive_4 fl_X7_123 ((pm_swS (z := z) (b := 2) (kA := kA)).1) rfl ?_
  refine pm_iload_n B dX7_forgive_7 rfl ?_
  refine pm_aald_n B dX7_forgive_8 ((pm_swS (z := z) (b := 2) (kA := kA)).2.1) rfl i (by first | assumption | omega) (by decide) (pm_mr_at (by first | assumption | omega)) ?_
  refine pm_cV (As := []) (mc2 := 0) (ms2 := 0) B rfl ((pm_swS (z := z) (b := 2) (kA := kA)).2.2.1 i (by first | assumption | omega)) rfl (c_X6_forgive ((pm_swS (z := z) (b := 2) (kA := kA)).2.2.1 i (by first | assumption | omega))) mt_X6_forgive sv_X7_164 dX7_forgive_9 rfl rfl rfl rfl rfl ?_
  refine pm_mem (M' := pm_sw z kA 2 M (upd (upd r (7 + 6 * i + 4) 0) (7 + 6 * i + 5) 0)) (pm_sw_45 (i := i) (by first | assumption | omega) (by omega)) ?_
  refine pm_stk (st' := []) rfl ?_
  refine pm_aload_n B dX7_forgive_12 rfl ?_
  refine pm_get B dX7_forgive_13 fl_X7_12 ((pm_sw_n (by omega)).trans hO1) rfl ?_
  refine pm_cV (As := []) (mc2 := 0) (ms2 := 0) B rfl ((pm_swS (z := z) (b := 2) (kA := kA)).1) rfl (c_X10_loyalCounts (n := n) (r := (upd (upd r (7 + 6 * i + 4) 0) (7 + 6 * i + 5) 0)) (pm_swS (z := z) (b := 2) (kA := kA)) (show (upd (upd r (7 + 6 * i + 4) 0) (7 + 6 * i + 5) 0) 0 = (nI n) from by rw [pk_un (show 0 ≠ 7 + 6 * i + 5 from (by omega)), pk_un (show 0 ≠ 7 + 6 * i + 4 from (by omega)), hn]) (by first | assumption | omega)) mt_X10_loyalCount sv_X7_166 dX7_forgive_16 rfl rfl rfl rfl rfl ?_
  refine pm_stk (st' := [.int (d_X10_loyalCount n (upd (upd r (7 + 6 * i + 4) 0) (7 + 6 * i + 5) 0))]) rfl ?_
  have hDq1 : (d_X7_forgive i n r) = ((d_X10_loyalCount n (upd (upd r (7 + 6 * i + 4) 0) (7 + 6 * i + 5) 0)), (upd (upd r (7 + 6 * i + 4) 0) (7 + 6 * i + 5) 0)) := by rw [d_X7_forgive]
  exact pm_ireturn B dX7_forgive_19 rfl (by first | rfl | (apply pm_nz; first | assumption | decide | exact pm_in01 _ _ _ | simp)) ⟨(by rw [hDq1]), rfl, by rw [hDq1]⟩ rfl rfl
def d_X7_changeRule (x : Int32) (r : Nat → Int32) : (Int32 × (Nat → Int32)) := ((r 1), (upd r 1 x))
set_option maxRecDepth 100000 in
set_option maxHeartbeats 8000000 in
theorem c_X7_changeRule {l : Launch} {z : Nat} {D : va_G} {kA : Nat → ClassId} {kE : Nat → Nat} {nx : Nat} {M : pm_M} {x : Int32} {r : Nat → Int32} (hS : pm_SA z kA 2 M r) (hO1 : M 1 = some (.inr (5, [.ref (z + 2), .ref (z + 13), .ref (z + 16)]))) : pm_C l z D kA kE yX7_changeRule cX7_changeRule 3 (some .int) 0 0 0 [.ref (z + 1), .int x] nx M (pm_rt (some (.int ((d_X7_changeRule x r).1))) nx (pm_sw z kA 2 M ((d_X7_changeRule x r).2))) := by
  refine pm_mk (own := RX7) (nm := "changeRule") mt_X7_changeRule rfl rfl rfl rfl fun X B => ?_
  refine pm_loc (L' := [some (.ref (z + 1)), some (.int x), none]) rfl ?_
  refine pm_mem (M' := pm_sw z kA 2 M r) (by rw [pm_sw_id hS]) ?_
  refine pm_aload_n B dX7_changeRule_0 rfl ?_
  refine pm_get B dX7_changeRule_1 fl_X7_12 ((pm_sw_n (by omega)).trans hO1) rfl ?_
  refine pm_get B dX7_changeRule_4 fl_X7_48 ((pm_swS (z := z) (b := 2) (kA := kA)).1) rfl ?_
  refine pm_istore_n B dX7_changeRule_7 rfl rfl ?_
  refine pm_loc (L' := [some (.ref (z + 1)), some (.int x), some (.int (r 1))]) rfl ?_
  refine pm_aload_n B dX7_changeRule_8 rfl ?_
  refine pm_get B dX7_changeRule_9 fl_X7_12 ((pm_sw_n (by omega)).trans hO1) rfl ?_
  refine pm_iload_n B dX7_changeRule_12 rfl ?_
  refine pm_put B dX7_changeRule_13 fs_X7_48 ((pm_swS (z := z) (b := 2) (kA := kA)).1) rfl rfl rfl ?_
  refine pm_mem (M' := pm_sw z kA 2 M (upd r 1 x)) (pm_sw_f1) ?_
  refine pm_iload_n B dX7_changeRule_16 rfl ?_
  have hDq1 : (d_X7_changeRule x r) = ((r 1), (upd r 1 x)) := by rw [d_X7_changeRule]
  exact pm_ireturn B dX7_changeRule_17 rfl (by first | rfl | (apply pm_nz; first | assumption | decide | exact pm_in01 _ _ _ | simp)) ⟨(by rw [hDq1]), rfl, by rw [hDq1]⟩ rfl rfl
def d_X7_changeThreshold (x : Int32) (r : Nat → Int32) : (Int32 × (Nat → Int32)) := ((r 3), (upd r 3 x))
set_option maxRecDepth 100000 in
set_option maxHeartbeats 8000000 in
theorem c_X7_changeThreshold {l : Launch} {z : Nat} {D : va_G} {kA : Nat → ClassId} {kE : Nat → Nat} {nx : Nat} {M : pm_M} {x : Int32} {r : Nat → Int32} (hS : pm_SA z kA 2 M r) (hO1 : M 1 = some (.inr (5, [.ref (z + 2), .ref (z + 13), .ref (z + 16)]))) : pm_C l z D kA kE yX7_changeThreshold cX7_changeThreshold 3 (some .int) 0 0 0 [.ref (z + 1), .int x] nx M (pm_rt (some (.int ((d_X7_changeThreshold x r).1))) nx (pm_sw z kA 2 M ((d_X7_changeThreshold x r).2))) := by
  refine pm_mk (own := RX7) (nm := "changeThreshold") mt_X7_changeThreshold rfl rfl rfl rfl fun X B => ?_
  refine pm_loc (L' := [some (.ref (z + 1)), some (.int x), none]) rfl ?_
  refine pm_mem (M' := pm_sw z kA 2 M r) (by rw [pm_sw_id hS]) ?_
  refine pm_aload_n B dX7_changeThreshold_0 rfl ?_
  refine pm_get B dX7_changeThreshold_1 fl_X7_12 ((pm_sw_n (by omega)).trans hO1) rfl ?_
  refine pm_get B dX7_changeThreshold_4 fl_X7_72 ((pm_swS (z := z) (b := 2) (kA := kA)).1) rfl ?_
  refine pm_istore_n B dX7_changeThreshold_7 rfl rfl ?_
  refine pm_loc (L' := [some (.ref (z + 1)), some (.int x), some (.int (r 3))]) rfl ?_
  refine pm_aload_n B dX7_changeThreshold_8 rfl ?_
  refine pm_get B dX7_changeThreshold_9 fl_X7_12 ((pm_sw_n (by omega)).trans hO1) rfl ?_
  refine pm_iload_n B dX7_changeThreshold_12 rfl ?_
  refine pm_put B dX7_changeThreshold_13 fs_X7_72 ((pm_swS (z := z) (b := 2) (kA := kA)).1) rfl rfl rfl ?_
  refine pm_mem (M' := pm_sw z kA 2 M (upd r 3 x)) (pm_sw_f3) ?_
  refine pm_iload_n B dX7_changeThreshold_16 rfl ?_
  have hDq1 : (d_X7_changeThreshold x r) = ((r 3), (upd r 3 x)) := by rw [d_X7_changeThreshold]
  exact pm_ireturn B dX7_changeThreshold_17 rfl (by first | rfl | (apply pm_nz; first | assumption | decide | exact pm_in01 _ _ _ | simp)) ⟨(by rw [hDq1]), rfl, by rw [hDq1]⟩ rfl rfl
def d_X7_changeSeed (x : Int32) (r : Nat → Int32) : (Int32 × (Nat → Int32)) := ((r 2), (upd r 2 x))
set_option maxRecDepth 100000 in
set_option maxHeartbeats 8000000 in
theorem c_X7_changeSeed {l : Launch} {z : Nat} {D : va_G} {kA : Nat → ClassId} {kE : Nat → Nat} {nx : Nat} {M : pm_M} {x : Int32} {r : Nat → Int32} (hS : pm_SA z kA 2 M r) (hO1 : M 1 = some (.inr (5, [.ref (z + 2), .ref (z + 13), .ref (z + 16)]))) : pm_C l z D kA kE yX7_changeSeed cX7_changeSeed 3 (some .int) 0 0 0 [.ref (z + 1), .int x] nx M (pm_rt (some (.int ((d_X7_changeSeed x r).1))) nx (pm_sw z kA 2 M ((d_X7_changeSeed x r).2))) := by
  refine pm_mk (own := RX7) (nm := "changeSeed") mt_X7_changeSeed rfl rfl rfl rfl fun X B => ?_
  refine pm_loc (L' := [some (.ref (z + 1)), some (.int x), none]) rfl ?_
  refine pm_mem (M' := pm_sw z kA 2 M r) (by rw [pm_sw_id hS]) ?_
  refine pm_aload_n B dX7_changeSeed_0 rfl ?_
  refine pm_get B dX7_changeSeed_1 fl_X7_12 ((pm_sw_n (by omega)).trans hO1) rfl ?_
  refine pm_get B dX7_changeSeed_4 fl_X7_169 ((pm_swS (z := z) (b := 2) (kA := kA)).1) rfl ?_
  refine pm_istore_n B dX7_changeSeed_7 rfl rfl ?_
  refine pm_loc (L' := [some (.ref (z + 1)), some (.int x), some (.int (r 2))]) rfl ?_
  refine pm_aload_n B dX7_changeSeed_8 rfl ?_
  refine pm_get B dX7_changeSeed_9 fl_X7_12 ((pm_sw_n (by omega)).trans hO1) rfl ?_
  refine pm_iload_n B dX7_changeSeed_12 rfl ?_
  refine pm_put B dX7_changeSeed_13 fs_X7_169 ((pm_swS (z := z) (b := 2) (kA := kA)).1) rfl rfl rfl ?_
  refine pm_mem (M' := pm_sw z kA 2 M (upd r 2 x)) (pm_sw_f2) ?_
  refine pm_iload_n B dX7_changeSeed_16 rfl ?_
  have hDq1 : (d_X7_changeSeed x r) = ((r 2), (upd r 2 x)) := by rw [d_X7_changeSeed]
  exact pm_ireturn B dX7_changeSeed_17 rfl (by first | rfl | (apply pm_nz; first | assumption | decide | exact pm_in01 _ _ _ | simp)) ⟨(by rw [hDq1]), rfl, by rw [hDq1]⟩ rfl rfl
def d_X7_sellUnits (i : Nat) (x : Int32) (n : Nat) (r : Nat → Int32) : (Int32 × (Nat → Int32)) := (((r (7 + 6 * i + 3)) + x), (upd r (7 + 6 * i + 3) ((r (7 + 6 * i + 3)) + x)))
set_option maxRecDepth 100000 in
set_option maxHeartbeats 8000000 in
theorem c_X7_sellUnits {l : Launch} {z : Nat} {D : va_G} {kA : Nat → ClassId} {kE : Nat → Nat} {nx : Nat} {M : pm_M} {i : Nat} {x : Int32} {n : Nat} {r : Nat → Int32} (hS : pm_SA z kA 2 M r) (hO1 : M 1 = some (.inr (5, [.ref (z + 2), .ref (z + 13), .ref (z + 16)]))) (hn : r 0 = nI n) (h7 : n ≤ 7) (hi : i < n) : pm_C l z D kA kE yX7_sellUnits cX7_sellUnits 3 (some .int) 0 0 0 [.ref (z + 1), .int (nI i), .int x] nx M (pm_rt (some (.int ((d_X7_sellUnits i x n r).1))) nx (pm_sw z kA 2 M ((d_X7_sellUnits i x n r).2))) := by
  refine pm_mk (own := RX7) (nm := "sellUnits") mt_X7_sellUnits rfl rfl rfl rfl fun X B => ?_
  refine pm_loc (L' := [some (.ref (z + 1)), some (.int (nI i)), some (.int x)]) rfl ?_
  refine pm_mem (M' := pm_sw z kA 2 M r) (by rw [pm_sw_id hS]) ?_
  refine pm_aload_n B dX7_sellUnits_0 rfl ?_
  refine pm_get B dX7_sellUnits_1 fl_X7_12 ((pm_sw_n (by omega)).trans hO1) rfl ?_
  refine pm_get B dX7_sellUnits_4 fl_X7_123 ((pm_swS (z := z) (b := 2) (kA := kA)).1) rfl ?_
  refine pm_iload_n B dX7_sellUnits_7 rfl ?_
  refine pm_aald_n B dX7_sellUnits_8 ((pm_swS (z := z) (b := 2) (kA := kA)).2.1) rfl i (by first | assumption | omega) (by decide) (pm_mr_at (by first | assumption | omega)) ?_
  refine pm_dup B dX7_sellUnits_9 rfl ?_
  refine pm_get B dX7_sellUnits_10 fl_X7_142 ((pm_swS (z := z) (b := 2) (kA := kA)).2.2.1 i (by first | assumption | omega)) rfl ?_
  refine pm_iload_n B dX7_sellUnits_13 rfl ?_
  refine pm_iadd B dX7_sellUnits_14 ?_
  refine pm_put B dX7_sellUnits_15 fs_X7_142 ((pm_swS (z := z) (b := 2) (kA := kA)).2.2.1 i (by first | assumption | omega)) rfl rfl rfl ?_
  refine pm_mem (M' := pm_sw z kA 2 M (upd r (7 + 6 * i + 3) ((r (7 + 6 * i + 3)) + x))) (pm_sw_m3 (i := i) (by first | assumption | omega) (by omega)) ?_
  refine pm_aload_n B dX7_sellUnits_18 rfl ?_
  refine pm_get B dX7_sellUnits_19 fl_X7_12 ((pm_sw_n (by omega)).trans hO1) rfl ?_
  refine pm_get B dX7_sellUnits_22 fl_X7_123 ((pm_swS (z := z) (b := 2) (kA := kA)).1) rfl ?_
  refine pm_iload_n B dX7_sellUnits_25 rfl ?_
  refine pm_aald_n B dX7_sellUnits_26 ((pm_swS (z := z) (b := 2) (kA := kA)).2.1) rfl i (by first | assumption | omega) (by decide) (pm_mr_at (by first | assumption | omega)) ?_
  refine pm_get B dX7_sellUnits_27 fl_X7_142 ((pm_swS (z := z) (b := 2) (kA := kA)).2.2.1 i (by first | assumption | omega)) rfl ?_
  refine pm_stk (st' := [.int ((r (7 + 6 * i + 3)) + x)]) (by rw [show ((upd r (7 + 6 * i + 3) ((r (7 + 6 * i + 3)) + x)) (7 + 6 * i + 3)) = ((r (7 + 6 * i + 3)) + x) from by rw [pk_us]]) ?_
  have hDq1 : (d_X7_sellUnits i x n r) = (((r (7 + 6 * i + 3)) + x), (upd r (7 + 6 * i + 3) ((r (7 + 6 * i + 3)) + x))) := by rw [d_X7_sellUnits]
  exact pm_ireturn B dX7_sellUnits_30 rfl (by first | rfl | (apply pm_nz; first | assumption | decide | exact pm_in01 _ _ _ | simp)) ⟨(by rw [hDq1]), rfl, by rw [hDq1]⟩ rfl rfl
def d_X7_flipLink (i : Nat) (k : Nat) (n : Nat) (r : Nat → Int32) : (Int32 × (Nat → Int32)) := ((pm_lt (fun j => (upd (upd r (49 + i) (r (49 + i) ^^^ ((1 : Int32) <<< (nI k &&& 31)))) (49 + k) ((upd (fun j => r (49 + j)) i (r (49 + i) ^^^ ((1 : Int32) <<< (nI k &&& 31)))) k ^^^ ((1 : Int32) <<< (nI i &&& 31)))) (49 + j)) 7 / 2), (upd (upd r (49 + i) (r (49 + i) ^^^ ((1 : Int32) <<< (nI k &&& 31)))) (49 + k) ((upd (fun j => r (49 + j)) i (r (49 + i) ^^^ ((1 : Int32) <<< (nI k &&& 31)))) k ^^^ ((1 : Int32) <<< (nI i &&& 31)))))
set_option maxRecDepth 100000 in
set_option maxHeartbeats 8000000 in
theorem c_X7_flipLink {l : Launch} {z : Nat} {D : va_G} {kA : Nat → ClassId} {kE : Nat → Nat} {nx : Nat} {M : pm_M} {i : Nat} {k : Nat} {n : Nat} {r : Nat → Int32} (hS : pm_SA z kA 2 M r) (hO1 : M 1 = some (.inr (5, [.ref (z + 2), .ref (z + 13), .ref (z + 16)]))) (hn : r 0 = nI n) (h7 : n ≤ 7) (hi : i < n) (hk : k < n) : pm_C l z D kA kE yX7_flipLink cX7_flipLink 3 (some .int) 2 0 0 [.ref (z + 1), .int (nI i), .int (nI k)] nx M (pm_rt (some (.int ((d_X7_flipLink i k n r).1))) nx (pm_sw z kA 2 M ((d_X7_flipLink i k n r).2))) := by
  refine pm_mk (own := RX7) (nm := "flipLink") mt_X7_flipLink rfl rfl rfl rfl fun X B => ?_
  refine pm_loc (L' := [some (.ref (z + 1)), some (.int (nI i)), some (.int (nI k))]) rfl ?_
  refine pm_mem (M' := pm_sw z kA 2 M r) (by rw [pm_sw_id hS]) ?_
  refine pm_aload_n B dX7_flipLink_0 rfl ?_
  refine pm_get B dX7_flipLink_1 fl_X7_12 ((pm_sw_n (by omega)).trans hO1) rfl ?_
  refine pm_get B dX7_flipLink_4 fl_X7_148 ((pm_swS (z := z) (b := 2) (kA := kA)).1) rfl ?_
  refine pm_iload_n B dX7_flipLink_7 rfl ?_
  refine pm_iload_n B dX7_flipLink_8 rfl ?_
  refine pm_cV (As := [.int (nI i), .int (nI k)]) (mc2 := 0) (ms2 := 0) B rfl ((pm_swS (z := z) (b := 2) (kA := kA)).2.2.2.1) rfl (c_X5_flip (g := (fun j => r (49 + j))) (i := i) (k := k) ((pm_swS (z := z) (b := 2) (kA := kA)).2.2.2.1) ((pm_swS (z := z) (b := 2) (kA := kA)).2.2.2.2) (by first | assumption | omega) (by first | assumption | omega)) mt_X5_flip sv_X7_203 dX7_flipLink_9 rfl rfl rfl rfl rfl ?_
  refine pm_mem (M' := pm_sw z kA 2 M (upd (upd r (49 + i) (r (49 + i) ^^^ ((1 : Int32) <<< (nI k &&& 31)))) (49 + k) ((upd (fun j => r (49 + j)) i (r (49 + i) ^^^ ((1 : Int32) <<< (nI k &&& 31)))) k ^^^ ((1 : Int32) <<< (nI i &&& 31))))) (pm_sw_pp (i := i) (k := k) (by first | assumption | omega) (by first | assumption | omega) (by omega)) ?_
  refine pm_stk (st' := []) rfl ?_
  refine pm_aload_n B dX7_flipLink_12 rfl ?_
  refine pm_get B dX7_flipLink_13 fl_X7_12 ((pm_sw_n (by omega)).trans hO1) rfl ?_
  refine pm_get B dX7_flipLink_16 fl_X7_148 ((pm_swS (z := z) (b := 2) (kA := kA)).1) rfl ?_
  refine pm_cV (As := []) (mc2 := 0) (ms2 := 0) B rfl ((pm_swS (z := z) (b := 2) (kA := kA)).2.2.2.1) rfl (c_X5_total (g := (fun j => (upd (upd r (49 + i) (r (49 + i) ^^^ ((1 : Int32) <<< (nI k &&& 31)))) (49 + k) ((upd (fun j => r (49 + j)) i (r (49 + i) ^^^ ((1 : Int32) <<< (nI k &&& 31)))) k ^^^ ((1 : Int32) <<< (nI i &&& 31)))) (49 + j))) ((pm_swS (z := z) (b := 2) (kA := kA)).2.2.2.1) ((pm_swS (z := z) (b := 2) (kA := kA)).2.2.2.2)) mt_X5_total sv_X7_152 dX7_flipLink_19 rfl rfl rfl rfl rfl ?_
  refine pm_stk (st' := [.int (pm_lt (fun j => (upd (upd r (49 + i) (r (49 + i) ^^^ ((1 : Int32) <<< (nI k &&& 31)))) (49 + k) ((upd (fun j => r (49 + j)) i (r (49 + i) ^^^ ((1 : Int32) <<< (nI k &&& 31)))) k ^^^ ((1 : Int32) <<< (nI i &&& 31)))) (49 + j)) 7 / 2)]) rfl ?_
  have hDq1 : (d_X7_flipLink i k n r) = ((pm_lt (fun j => (upd (upd r (49 + i) (r (49 + i) ^^^ ((1 : Int32) <<< (nI k &&& 31)))) (49 + k) ((upd (fun j => r (49 + j)) i (r (49 + i) ^^^ ((1 : Int32) <<< (nI k &&& 31)))) k ^^^ ((1 : Int32) <<< (nI i &&& 31)))) (49 + j)) 7 / 2), (upd (upd r (49 + i) (r (49 + i) ^^^ ((1 : Int32) <<< (nI k &&& 31)))) (49 + k) ((upd (fun j => r (49 + j)) i (r (49 + i) ^^^ ((1 : Int32) <<< (nI k &&& 31)))) k ^^^ ((1 : Int32) <<< (nI i &&& 31))))) := by rw [d_X7_flipLink]
  exact pm_ireturn B dX7_flipLink_22 rfl (by first | rfl | (apply pm_nz; first | assumption | decide | exact pm_in01 _ _ _ | simp)) ⟨(by rw [hDq1]), rfl, by rw [hDq1]⟩ rfl rfl
def d_X7_closeMonth_L1  : Nat → Nat → Int32 → (Nat → Int32) → (Int32 × (Nat → Int32))
  | 0, _, a1_1, r_1 => (a1_1, r_1)
  | k1 + 1, j1, a1_1, r_1 => if (pm_max 0 ((r_1 (7 + 6 * j1 + 3)) - (r_1 (7 + 6 * j1 + 2)))) = 0 then (d_X7_closeMonth_L1 k1 (j1 + 1) (a1_1 + (pm_max 0 ((r_1 (7 + 6 * j1 + 3)) - (r_1 (7 + 6 * j1 + 2))))) (upd (upd (upd (upd r_1 5 ((r_1 5) + ((r_1 (7 + 6 * j1 + 3)) - (pm_max 0 ((r_1 (7 + 6 * j1 + 3)) - (r_1 (7 + 6 * j1 + 2))))))) (7 + 6 * j1 + 4) (pm_im1 ((upd r_1 5 ((r_1 5) + ((r_1 (7 + 6 * j1 + 3)) - (pm_max 0 ((r_1 (7 + 6 * j1 + 3)) - (r_1 (7 + 6 * j1 + 2))))))) (7 + 6 * j1 + 4)))) (7 + 6 * j1 + 5) (pm_im2 ((upd r_1 5 ((r_1 5) + ((r_1 (7 + 6 * j1 + 3)) - (pm_max 0 ((r_1 (7 + 6 * j1 + 3)) - (r_1 (7 + 6 * j1 + 2))))))) (7 + 6 * j1 + 4)) ((upd r_1 5 ((r_1 5) + ((r_1 (7 + 6 * j1 + 3)) - (pm_max 0 ((r_1 (7 + 6 * j1 + 3)) - (r_1 (7 + 6 * j1 + 2))))))) (7 + 6 * j1 + 5)))) (7 + 6 * j1 + 3) 0)) else (d_X7_closeMonth_L1 k1 (j1 + 1) (a1_1 + (pm_max 0 ((r_1 (7 + 6 * j1 + 3)) - (r_1 (7 + 6 * j1 + 2))))) (upd (upd r_1 5 ((r_1 5) + ((r_1 (7 + 6 * j1 + 3)) - (pm_max 0 ((r_1 (7 + 6 * j1 + 3)) - (r_1 (7 + 6 * j1 + 2))))))) (7 + 6 * j1 + 3) 0))
def d_X7_closeMonth (n : Nat) (r : Nat → Int32) : (Int32 × (Nat → Int32)) := ((((d_X7_closeMonth_L1 n 0 0 r).1) * 3), (upd (upd ((d_X7_closeMonth_L1 n 0 0 r).2) 6 ((((d_X7_closeMonth_L1 n 0 0 r).2) 6) + ((d_X7_closeMonth_L1 n 0 0 r).1))) 4 ((((d_X7_closeMonth_L1 n 0 0 r).2) 4) + 1)))
set_option maxRecDepth 100000 in
set_option maxHeartbeats 8000000 in
theorem c_X7_closeMonth {l : Launch} {z : Nat} {D : va_G} {kA : Nat → ClassId} {kE : Nat → Nat} {nx : Nat} {M : pm_M} {n : Nat} {r : Nat → Int32} (hS : pm_SA z kA 2 M r) (hO1 : M 1 = some (.inr (5, [.ref (z + 2), .ref (z + 13), .ref (z + 16)]))) (hn : r 0 = nI n) (h7 : n ≤ 7) : pm_C l z D kA kE yX7_closeMonth cX7_closeMonth 5 (some .int) 3 0 0 [.ref (z + 1)] nx M (pm_rt (some (.int ((d_X7_closeMonth n r).1))) nx (pm_sw z kA 2 M ((d_X7_closeMonth n r).2))) := by
  refine pm_mk (own := RX7) (nm := "closeMonth") mt_X7_closeMonth rfl rfl rfl rfl fun X B => ?_
  refine pm_loc (L' := [some (.ref (z + 1)), none, none, none, none]) rfl ?_
  refine pm_mem (M' := pm_sw z kA 2 M r) (by rw [pm_sw_id hS]) ?_
  refine pm_iconst (v := 0) B dX7_closeMonth_0 (by decide) ?_
  refine pm_istore_n B dX7_closeMonth_1 rfl rfl ?_
  refine pm_loc (L' := [some (.ref (z + 1)), some (.int 0), none, none, none]) rfl ?_
  refine pm_iconst (v := 0) B dX7_closeMonth_2 (by decide) ?_
  refine pm_istore_n B dX7_closeMonth_3 rfl rfl ?_
  refine pm_loc (L' := [some (.ref (z + 1)), some (.int 0), some (.int 0), none, none]) rfl ?_
  refine pm_loc (L' := [some (.ref (z + 1)), some (.int 0), some (.int (nI 0)), none, none]) rfl ?_
  have loop1 : ∀ (K1 : (Int32 → (Nat → Int32) → (Int32 × (Nat → Int32)))), (∀ (a1_1 : Int32) (r_1 : (Nat → Int32)), (hn_1 : r_1 0 = nI n) → pm_G l z D X 0 0 (pm_Q z D (pm_rt (some (.int ((K1 a1_1 r_1).1))) nx (pm_sw z kA 2 M ((K1 a1_1 r_1).2))) 0 0 X) nx (pm_sw z kA 2 M r_1) 75 [some (.ref (z + 1)), some (.int a1_1), none, none, none] []) → ∀ (k1 j1 : Nat), j1 + k1 = n → ∀ (a1_1 : Int32) (r_1 : (Nat → Int32)), (hn_1 : r_1 0 = nI n) → pm_G l z D X 0 0 (pm_Q z D (pm_rt (some (.int ((K1 ((d_X7_closeMonth_L1 k1 j1 a1_1 r_1).1) ((d_X7_closeMonth_L1 k1 j1 a1_1 r_1).2)).1))) nx (pm_sw z kA 2 M ((K1 ((d_X7_closeMonth_L1 k1 j1 a1_1 r_1).1) ((d_X7_closeMonth_L1 k1 j1 a1_1 r_1).2)).2))) 0 0 X) nx (pm_sw z kA 2 M r_1) 4 [some (.ref (z + 1)), some (.int a1_1), some (.int (nI j1)), none, none] [] := by
    intro K1 hK1 k1
    induction k1 with
    | zero =>
      intro j1 hj1 a1_1 r_1 hn_1
      have hjn1 : j1 = n := by omega
      refine pm_iload_n B dX7_closeMonth_4 rfl ?_
      refine pm_aload_n B dX7_closeMonth_5 rfl ?_
      refine pm_get B dX7_closeMonth_6 fl_X7_12 ((pm_sw_n (by omega)).trans hO1) rfl ?_
      refine pm_get B dX7_closeMonth_9 fl_X7_116 ((pm_swS (z := z) (b := 2) (kA := kA)).1) rfl ?_
      refine pm_stk (st' := [.int (nI n), .int (nI j1)]) (by rw [show (r_1 0) = (nI n) from by rw [hn_1]]) ?_
      refine pm_icmp_ge (tgt := 75) B dX7_closeMonth_12 (by decide) (fun hq1 => ?_) (fun hq1 => absurd ((nI_leI (by first | omega | decide) (by first | omega | decide)).mpr (by omega)) hq1)
      refine pm_wk (L' := [some (.ref (z + 1)), some (.int a1_1), none, none, none]) ⟨rfl, ⟨rfl, trivial⟩⟩ ?_
      have hDq2 : (K1 ((d_X7_closeMonth_L1 0 j1 a1_1 r_1).1) ((d_X7_closeMonth_L1 0 j1 a1_1 r_1).2)) = (K1 a1_1 r_1) := by rw [d_X7_closeMonth_L1]
      refine pm_pst (post' := pm_rt (some (.int ((K1 a1_1 r_1).1))) nx (pm_sw z kA 2 M ((K1 a1_1 r_1).2))) (by rw [hDq2]) ?_
      exact hK1 a1_1 r_1 (hn_1)
    | succ k1 ih1 =>
      intro j1 hj1 a1_1 r_1 hn_1
      have hjn1 : j1 < n := by omega
      refine pm_iload_n B dX7_closeMonth_4 rfl ?_
      refine pm_aload_n B dX7_closeMonth_5 rfl ?_
      refine pm_get B dX7_closeMonth_6 fl_X7_12 ((pm_sw_n (by omega)).trans hO1) rfl ?_
      refine pm_get B dX7_closeMonth_9 fl_X7_116 ((pm_swS (z := z) (b := 2) (kA := kA)).1) rfl ?_
      refine pm_stk (st' := [.int (nI n), .int (nI j1)]) (by rw [show (r_1 0) = (nI n) from by rw [hn_1]]) ?_
      refine pm_icmp_ge (tgt := 75) B dX7_closeMonth_12 (by decide) (fun hq3 => absurd hq3 (fun e => absurd ((nI_leI (by first | omega | decide) (by first | omega | decide)).mp e) (by omega))) (fun hq3 => ?_)
      refine pm_aload_n B dX7_closeMonth_15 rfl ?_
      refine pm_get B dX7_closeMonth_16 fl_X7_12 ((pm_sw_n (by omega)).trans hO1) rfl ?_
      refine pm_get B dX7_closeMonth_19 fl_X7_123 ((pm_swS (z := z) (b := 2) (kA := kA)).1) rfl ?_
      refine pm_iload_n B dX7_closeMonth_22 rfl ?_
      refine pm_aald_n B dX7_closeMonth_23 ((pm_swS (z := z) (b := 2) (kA := kA)).2.1) rfl j1 (by first | assumption | omega) (by decide) (pm_mr_at (by first | assumption | omega)) ?_
      refine pm_astore_n B dX7_closeMonth_24 rfl rfl ?_
      refine pm_loc (L' := [some (.ref (z + 1)), some (.int a1_1), some (.int (nI j1)), some (.ref (z + (4 + j1))), none]) rfl ?_
      refine pm_aload_n B dX7_closeMonth_25 rfl ?_
      refine pm_cV (As := []) (mc2 := 0) (ms2 := 0) B rfl ((pm_swS (z := z) (b := 2) (kA := kA)).2.2.1 j1 (by first | assumption | omega)) rfl (c_X6_unitsAbove ((pm_swS (z := z) (b := 2) (kA := kA)).2.2.1 j1 (by first | assumption | omega))) mt_X6_unitsAbove sv_X7_182 dX7_closeMonth_26 rfl rfl rfl rfl rfl ?_
      refine pm_stk (st' := [.int (pm_max 0 ((r_1 (7 + 6 * j1 + 3)) - (r_1 (7 + 6 * j1 + 2))))]) rfl ?_
      refine pm_istore B dX7_closeMonth_29 rfl rfl ?_
      refine pm_loc (L' := [some (.ref (z + 1)), some (.int a1_1), some (.int (nI j1)), some (.ref (z + (4 + j1))), some (.int (pm_max 0 ((r_1 (7 + 6 * j1 + 3)) - (r_1 (7 + 6 * j1 + 2)))))]) rfl ?_
      refine pm_iload_n B dX7_closeMonth_31 rfl ?_
      refine pm_iload B dX7_closeMonth_32 rfl ?_
      refine pm_iadd B dX7_closeMonth_34 ?_
      refine pm_istore_n B dX7_closeMonth_35 rfl rfl ?_
      refine pm_loc (L' := [some (.ref (z + 1)), some (.int (a1_1 + (pm_max 0 ((r_1 (7 + 6 * j1 + 3)) - (r_1 (7 + 6 * j1 + 2)))))), some (.int (nI j1)), some (.ref (z + (4 + j1))), some (.int (pm_max 0 ((r_1 (7 + 6 * j1 + 3)) - (r_1 (7 + 6 * j1 + 2)))))]) rfl ?_
      refine pm_aload_n B dX7_closeMonth_36 rfl ?_
      refine pm_get B dX7_closeMonth_37 fl_X7_12 ((pm_sw_n (by omega)).trans hO1) rfl ?_
      refine pm_dup B dX7_closeMonth_40 rfl ?_
      refine pm_get B dX7_closeMonth_41 fl_X7_185 ((pm_swS (z := z) (b := 2) (kA := kA)).1) rfl ?_
      refine pm_aload_n B dX7_closeMonth_44 rfl ?_
      refine pm_get B dX7_closeMonth_45 fl_X7_142 ((pm_swS (z := z) (b := 2) (kA := kA)).2.2.1 j1 (by first | assumption | omega)) rfl ?_
      refine pm_iload B dX7_closeMonth_48 rfl ?_
      refine pm_isub B dX7_closeMonth_50 ?_
      refine pm_iadd B dX7_closeMonth_51 ?_
      refine pm_put B dX7_closeMonth_52 fs_X7_185 ((pm_swS (z := z) (b := 2) (kA := kA)).1) rfl rfl rfl ?_
      refine pm_mem (M' := pm_sw z kA 2 M (upd r_1 5 ((r_1 5) + ((r_1 (7 + 6 * j1 + 3)) - (pm_max 0 ((r_1 (7 + 6 * j1 + 3)) - (r_1 (7 + 6 * j1 + 2)))))))) (pm_sw_f5) ?_
      refine pm_iload B dX7_closeMonth_55 rfl ?_
      refine pm_if_ne (tgt := 64) B dX7_closeMonth_57 (by decide) (fun hq4 => ?_) (fun hq4 => ?_)
      · refine pm_aload_n B dX7_closeMonth_64 rfl ?_
        refine pm_iconst (v := 0) B dX7_closeMonth_65 (by decide) ?_
        refine pm_put B dX7_closeMonth_66 fs_X7_142 ((pm_swS (z := z) (b := 2) (kA := kA)).2.2.1 j1 (by first | assumption | omega)) rfl rfl rfl ?_
        refine pm_mem (M' := pm_sw z kA 2 M (upd (upd r_1 5 ((r_1 5) + ((r_1 (7 + 6 * j1 + 3)) - (pm_max 0 ((r_1 (7 + 6 * j1 + 3)) - (r_1 (7 + 6 * j1 + 2))))))) (7 + 6 * j1 + 3) 0)) (pm_sw_m3 (i := j1) (by first | assumption | omega) (by omega)) ?_
        refine pm_iinc B dX7_closeMonth_69 rfl rfl rfl ?_
        refine pm_loc (L' := [some (.ref (z + 1)), some (.int (a1_1 + (pm_max 0 ((r_1 (7 + 6 * j1 + 3)) - (r_1 (7 + 6 * j1 + 2)))))), some (.int (nI (j1 + 1))), some (.ref (z + (4 + j1))), some (.int (pm_max 0 ((r_1 (7 + 6 * j1 + 3)) - (r_1 (7 + 6 * j1 + 2)))))]) (by rw [show ((nI j1) : Int32) + Int32.ofInt 1 = (nI (j1 + 1)) from nI_1 _]; rfl) ?_
        refine pm_goto (tgt := 4) B dX7_closeMonth_72 (by decide) ?_
        refine pm_wk (L' := [some (.ref (z + 1)), some (.int (a1_1 + (pm_max 0 ((r_1 (7 + 6 * j1 + 3)) - (r_1 (7 + 6 * j1 + 2)))))), some (.int (nI (j1 + 1))), none, none]) ⟨rfl, ⟨rfl, ⟨rfl, trivial⟩⟩⟩ ?_
        have hDq5 : (K1 ((d_X7_closeMonth_L1 (k1 + 1) j1 a1_1 r_1).1) ((d_X7_closeMonth_L1 (k1 + 1) j1 a1_1 r_1).2)) = (K1 ((d_X7_closeMonth_L1 k1 (j1 + 1) (a1_1 + (pm_max 0 ((r_1 (7 + 6 * j1 + 3)) - (r_1 (7 + 6 * j1 + 2))))) (upd (upd r_1 5 ((r_1 5) + ((r_1 (7 + 6 * j1 + 3)) - (pm_max 0 ((r_1 (7 + 6 * j1 + 3)) - (r_1 (7 + 6 * j1 + 2))))))) (7 + 6 * j1 + 3) 0)).1) ((d_X7_closeMonth_L1 k1 (j1 + 1) (a1_1 + (pm_max 0 ((r_1 (7 + 6 * j1 + 3)) - (r_1 (7 + 6 * j1 + 2))))) (upd (upd r_1 5 ((r_1 5) + ((r_1 (7 + 6 * j1 + 3)) - (pm_max 0 ((r_1 (7 + 6 * j1 + 3)) - (r_1 (7 + 6 * j1 + 2))))))) (7 + 6 * j1 + 3) 0)).2)) := by rw [d_X7_closeMonth_L1, if_neg hq4]
        refine pm_pst (post' := pm_rt (some (.int ((K1 ((d_X7_closeMonth_L1 k1 (j1 + 1) (a1_1 + (pm_max 0 ((r_1 (7 + 6 * j1 + 3)) - (r_1 (7 + 6 * j1 + 2))))) (upd (upd r_1 5 ((r_1 5) + ((r_1 (7 + 6 * j1 + 3)) - (pm_max 0 ((r_1 (7 + 6 * j1 + 3)) - (r_1 (7 + 6 * j1 + 2))))))) (7 + 6 * j1 + 3) 0)).1) ((d_X7_closeMonth_L1 k1 (j1 + 1) (a1_1 + (pm_max 0 ((r_1 (7 + 6 * j1 + 3)) - (r_1 (7 + 6 * j1 + 2))))) (upd (upd r_1 5 ((r_1 5) + ((r_1 (7 + 6 * j1 + 3)) - (pm_max 0 ((r_1 (7 + 6 * j1 + 3)) - (r_1 (7 + 6 * j1 + 2))))))) (7 + 6 * j1 + 3) 0)).2)).1))) nx (pm_sw z kA 2 M ((K1 ((d_X7_closeMonth_L1 k1 (j1 + 1) (a1_1 + (pm_max 0 ((r_1 (7 + 6 * j1 + 3)) - (r_1 (7 + 6 * j1 + 2))))) (upd (upd r_1 5 ((r_1 5) + ((r_1 (7 + 6 * j1 + 3)) - (pm_max 0 ((r_1 (7 + 6 * j1 + 3)) - (r_1 (7 + 6 * j1 + 2))))))) (7 + 6 * j1 + 3) 0)).1) ((d_X7_closeMonth_L1 k1 (j1 + 1) (a1_1 + (pm_max 0 ((r_1 (7 + 6 * j1 + 3)) - (r_1 (7 + 6 * j1 + 2))))) (upd (upd r_1 5 ((r_1 5) + ((r_1 (7 + 6 * j1 + 3)) - (pm_max 0 ((r_1 (7 + 6 * j1 + 3)) - (r_1 (7 + 6 * j1 + 2))))))) (7 + 6 * j1 + 3) 0)).2)).2))) (by rw [hDq5]) ?_
        exact ih1 (j1 + 1) (by omega) (a1_1 + (pm_max 0 ((r_1 (7 + 6 * j1 + 3)) - (r_1 (7 + 6 * j1 + 2))))) (upd (upd r_1 5 ((r_1 5) + ((r_1 (7 + 6 * j1 + 3)) - (pm_max 0 ((r_1 (7 + 6 * j1 + 3)) - (r_1 (7 + 6 * j1 + 2))))))) (7 + 6 * j1 + 3) 0) ((show (upd (upd r_1 5 ((r_1 5) + ((r_1 (7 + 6 * j1 + 3)) - (pm_max 0 ((r_1 (7 + 6 * j1 + 3)) - (r_1 (7 + 6 * j1 + 2))))))) (7 + 6 * j1 + 3) 0) 0 = (nI n) from by rw [pk_un (show 0 ≠ 7 + 6 * j1 + 3 from (by omega)), pk_un (show 0 ≠ 5 from (by decide)), hn_1]))
      · refine pm_aload_n B dX7_closeMonth_60 rfl ?_
        refine pm_cV (As := []) (mc2 := 0) (ms2 := 0) B rfl ((pm_swS (z := z) (b := 2) (kA := kA)).2.2.1 j1 (by first | assumption | omega)) rfl (c_X6_improve ((pm_swS (z := z) (b := 2) (kA := kA)).2.2.1 j1 (by first | assumption | omega))) mt_X6_improve sv_X7_188 dX7_closeMonth_61 rfl rfl rfl rfl rfl ?_
        refine pm_mem (M' := pm_sw z kA 2 M (upd (upd (upd r_1 5 ((r_1 5) + ((r_1 (7 + 6 * j1 + 3)) - (pm_max 0 ((r_1 (7 + 6 * j1 + 3)) - (r_1 (7 + 6 * j1 + 2))))))) (7 + 6 * j1 + 4) (pm_im1 ((upd r_1 5 ((r_1 5) + ((r_1 (7 + 6 * j1 + 3)) - (pm_max 0 ((r_1 (7 + 6 * j1 + 3)) - (r_1 (7 + 6 * j1 + 2))))))) (7 + 6 * j1 + 4)))) (7 + 6 * j1 + 5) (pm_im2 ((upd r_1 5 ((r_1 5) + ((r_1 (7 + 6 * j1 + 3)) - (pm_max 0 ((r_1 (7 + 6 * j1 + 3)) - (r_1 (7 + 6 * j1 + 2))))))) (7 + 6 * j1 + 4)) ((upd r_1 5 ((r_1 5) + ((r_1 (7 + 6 * j1 + 3)) - (pm_max 0 ((r_1 (7 + 6 * j1 + 3)) - (r_1 (7 + 6 * j1 + 2))))))) (7 + 6 * j1 + 5))))) (pm_sw_imp (i := j1) (by first | assumption | omega) (by omega)) ?_
        refine pm_stk (st' := []) rfl ?_
        refine pm_aload_n B dX7_closeMonth_64 rfl ?_
        refine pm_iconst (v := 0) B dX7_closeMonth_65 (by decide) ?_
        refine pm_put B dX7_closeMonth_66 fs_X7_142 ((pm_swS (z := z) (b := 2) (kA := kA)).2.2.1 j1 (by first | assumption | omega)) rfl rfl rfl ?_
        refine pm_mem (M' := pm_sw z kA 2 M (upd (upd (upd (upd r_1 5 ((r_1 5) + ((r_1 (7 + 6 * j1 + 3)) - (pm_max 0 ((r_1 (7 + 6 * j1 + 3)) - (r_1 (7 + 6 * j1 + 2))))))) (7 + 6 * j1 + 4) (pm_im1 ((upd r_1 5 ((r_1 5) + ((r_1 (7 + 6 * j1 + 3)) - (pm_max 0 ((r_1 (7 + 6 * j1 + 3)) - (r_1 (7 + 6 * j1 + 2))))))) (7 + 6 * j1 + 4)))) (7 + 6 * j1 + 5) (pm_im2 ((upd r_1 5 ((r_1 5) + ((r_1 (7 + 6 * j1 + 3)) - (pm_max 0 ((r_1 (7 + 6 * j1 + 3)) - (r_1 (7 + 6 * j1 + 2))))))) (7 + 6 * j1 + 4)) ((upd r_1 5 ((r_1 5) + ((r_1 (7 + 6 * j1 + 3)) - (pm_max 0 ((r_1 (7 + 6 * j1 + 3)) - (r_1 (7 + 6 * j1 + 2))))))) (7 + 6 * j1 + 5)))) (7 + 6 * j1 + 3) 0)) (pm_sw_m3 (i := j1) (by first | assumption | omega) (by omega)) ?_
        refine pm_iinc B dX7_closeMonth_69 rfl rfl rfl ?_
        refine pm_loc (L' := [some (.ref (z + 1)), some (.int (a1_1 + (pm_max 0 ((r_1 (7 + 6 * j1 + 3)) - (r_1 (7 + 6 * j1 + 2)))))), some (.int (nI (j1 + 1))), some (.ref (z + (4 + j1))), some (.int (pm_max 0 ((r_1 (7 + 6 * j1 + 3)) - (r_1 (7 + 6 * j1 + 2)))))]) (by rw [show ((nI j1) : Int32) + Int32.ofInt 1 = (nI (j1 + 1)) from nI_1 _]; rfl) ?_
        refine pm_goto (tgt := 4) B dX7_closeMonth_72 (by decide) ?_
        refine pm_wk (L' := [some (.ref (z + 1)), some (.int (a1_1 + (pm_max 0 ((r_1 (7 + 6 * j1 + 3)) - (r_1 (7 + 6 * j1 + 2)))))), some (.int (nI (j1 + 1))), none, none]) ⟨rfl, ⟨rfl, ⟨rfl, trivial⟩⟩⟩ ?_
        have hDq6 : (K1 ((d_X7_closeMonth_L1 (k1 + 1) j1 a1_1 r_1).1) ((d_X7_closeMonth_L1 (k1 + 1) j1 a1_1 r_1).2)) = (K1 ((d_X7_closeMonth_L1 k1 (j1 + 1) (a1_1 + (pm_max 0 ((r_1 (7 + 6 * j1 + 3)) - (r_1 (7 + 6 * j1 + 2))))) (upd (upd (upd (upd r_1 5 ((r_1 5) + ((r_1 (7 + 6 * j1 + 3)) - (pm_max 0 ((r_1 (7 + 6 * j1 + 3)) - (r_1 (7 + 6 * j1 + 2))))))) (7 + 6 * j1 + 4) (pm_im1 ((upd r_1 5 ((r_1 5) + ((r_1 (7 + 6 * j1 + 3)) - (pm_max 0 ((r_1 (7 + 6 * j1 + 3)) - (r_1 (7 + 6 * j1 + 2))))))) (7 + 6 * j1 + 4)))) (7 + 6 * j1 + 5) (pm_im2 ((upd r_1 5 ((r_1 5) + ((r_1 (7 + 6 * j1 + 3)) - (pm_max 0 ((r_1 (7 + 6 * j1 + 3)) - (r_1 (7 + 6 * j1 + 2))))))) (7 + 6 * j1 + 4)) ((upd r_1 5 ((r_1 5) + ((r_1 (7 + 6 * j1 + 3)) - (pm_max 0 ((r_1 (7 + 6 * j1 + 3)) - (r_1 (7 + 6 * j1 + 2))))))) (7 + 6 * j1 + 5)))) (7 + 6 * j1 + 3) 0)).1) ((d_X7_closeMonth_L1 k1 (j1 + 1) (a1_1 + (pm_max 0 ((r_1 (7 + 6 * j1 + 3)) - (r_1 (7 + 6 * j1 + 2))))) (upd (upd (upd (upd r_1 5 ((r_1 5) + ((r_1 (7 + 6 * j1 + 3)) - (pm_max 0 ((r_1 (7 + 6 * j1 + 3)) - (r_1 (7 + 6 * j1 + 2))))))) (7 + 6 * j1 + 4) (pm_im1 ((upd r_1 5 ((r_1 5) + ((r_1 (7 + 6 * j1 + 3)) - (pm_max 0 ((r_1 (7 + 6 * j1 + 3)) - (r_1 (7 + 6 * j1 + 2))))))) (7 + 6 * j1 + 4)))) (7 + 6 * j1 + 5) (pm_im2 ((upd r_1 5 ((r_1 5) + ((r_1 (7 + 6 * j1 + 3)) - (pm_max 0 ((r_1 (7 + 6 * j1 + 3)) - (r_1 (7 + 6 * j1 + 2))))))) (7 + 6 * j1 + 4)) ((upd r_1 5 ((r_1 5) + ((r_1 (7 + 6 * j1 + 3)) - (pm_max 0 ((r_1 (7 + 6 * j1 + 3)) - (r_1 (7 + 6 * j1 + 2))))))) (7 + 6 * j1 + 5)))) (7 + 6 * j1 + 3) 0)).2)) := by rw [d_X7_closeMonth_L1, if_pos hq4]
        refine pm_pst (post' := pm_rt (some (.int ((K1 ((d_X7_closeMonth_L1 k1 (j1 + 1) (a1_1 + (pm_max 0 ((r_1 (7 + 6 * j1 + 3)) - (r_1 (7 + 6 * j1 + 2))))) (upd (upd (upd (upd r_1 5 ((r_1 5) + ((r_1 (7 + 6 * j1 + 3)) - (pm_max 0 ((r_1 (7 + 6 * j1 + 3)) - (r_1 (7 + 6 * j1 + 2))))))) (7 + 6 * j1 + 4) (pm_im1 ((upd r_1 5 ((r_1 5) + ((r_1 (7 + 6 * j1 + 3)) - (pm_max 0 ((r_1 (7 + 6 * j1 + 3)) - (r_1 (7 + 6 * j1 + 2))))))) (7 + 6 * j1 + 4)))) (7 + 6 * j1 + 5) (pm_im2 ((upd r_1 5 ((r_1 5) + ((r_1 (7 + 6 * j1 + 3)) - (pm_max 0 ((r_1 (7 + 6 * j1 + 3)) - (r_1 (7 + 6 * j1 + 2))))))) (7 + 6 * j1 + 4)) ((upd r_1 5 ((r_1 5) + ((r_1 (7 + 6 * j1 + 3)) - (pm_max 0 ((r_1 (7 + 6 * j1 + 3)) - (r_1 (7 + 6 * j1 + 2))))))) (7 + 6 * j1 + 5)))) (7 + 6 * j1 + 3) 0)).1) ((d_X7_closeMonth_L1 k1 (j1 + 1) (a1_1 + (pm_max 0 ((r_1 (7 + 6 * j1 + 3)) - (r_1 (7 + 6 * j1 + 2))))) (upd (upd (upd (upd r_1 5 ((r_1 5) + ((r_1 (7 + 6 * j1 + 3)) - (pm_max 0 ((r_1 (7 + 6 * j1 + 3)) - (r_1 (7 + 6 * j1 + 2))))))) (7 + 6 * j1 + 4) (pm_im1 ((upd r_1 5 ((r_1 5) + ((r_1 (7 + 6 * j1 + 3)) - (pm_max 0 ((r_1 (7 + 6 * j1 + 3)) - (r_1 (7 + 6 * j1 + 2))))))) (7 + 6 * j1 + 4)))) (7 + 6 * j1 + 5) (pm_im2 ((upd r_1 5 ((r_1 5) + ((r_1 (7 + 6 * j1 + 3)) - (pm_max 0 ((r_1 (7 + 6 * j1 + 3)) - (r_1 (7 + 6 * j1 + 2))))))) (7 + 6 * j1 + 4)) ((upd r_1 5 ((r_1 5) + ((r_1 (7 + 6 * j1 + 3)) - (pm_max 0 ((r_1 (7 + 6 * j1 + 3)) - (r_1 (7 + 6 * j1 + 2))))))) (7 + 6 * j1 + 5)))) (7 + 6 * j1 + 3) 0)).2)).1))) nx (pm_sw z kA 2 M ((K1 ((d_X7_closeMonth_L1 k1 (j1 + 1) (a1_1 + (pm_max 0 ((r_1 (7 + 6 * j1 + 3)) - (r_1 (7 + 6 * j1 + 2))))) (upd (upd (upd (upd r_1 5 ((r_1 5) + ((r_1 (7 + 6 * j1 + 3)) - (pm_max 0 ((r_1 (7 + 6 * j1 + 3)) - (r_1 (7 + 6 * j1 + 2))))))) (7 + 6 * j1 + 4) (pm_im1 ((upd r_1 5 ((r_1 5) + ((r_1 (7 + 6 * j1 + 3)) - (pm_max 0 ((r_1 (7 + 6 * j1 + 3)) - (r_1 (7 + 6 * j1 + 2))))))) (7 + 6 * j1 + 4)))) (7 + 6 * j1 + 5) (pm_im2 ((upd r_1 5 ((r_1 5) + ((r_1 (7 + 6 * j1 + 3)) - (pm_max 0 ((r_1 (7 + 6 * j1 + 3)) - (r_1 (7 + 6 * j1 + 2))))))) (7 + 6 * j1 + 4)) ((upd r_1 5 ((r_1 5) + ((r_1 (7 + 6 * j1 + 3)) - (pm_max 0 ((r_1 (7 + 6 * j1 + 3)) - (r_1 (7 + 6 * j1 + 2))))))) (7 + 6 * j1 + 5)))) (7 + 6 * j1 + 3) 0)).1) ((d_X7_closeMonth_L1 k1 (j1 + 1) (a1_1 + (pm_max 0 ((r_1 (7 + 6 * j1 + 3)) - (r_1 (7 + 6 * j1 + 2))))) (upd (upd (upd (upd r_1 5 ((r_1 5) + ((r_1 (7 + 6 * j1 + 3)) - (pm_max 0 ((r_1 (7 + 6 * j1 + 3)) - (r_1 (7 + 6 * j1 + 2))))))) (7 + 6 * j1 + 4) (pm_im1 ((upd r_1 5 ((r_1 5) + ((r_1 (7 + 6 * j1 + 3)) - (pm_max 0 ((r_1 (7 + 6 * j1 + 3)) - (r_1 (7 + 6 * j1 + 2))))))) (7 + 6 * j1 + 4)))) (7 + 6 * j1 + 5) (pm_im2 ((upd r_1 5 ((r_1 5) + ((r_1 (7 + 6 * j1 + 3)) - (pm_max 0 ((r_1 (7 + 6 * j1 + 3)) - (r_1 (7 + 6 * j1 + 2))))))) (7 + 6 * j1 + 4)) ((upd r_1 5 ((r_1 5) + ((r_1 (7 + 6 * j1 + 3)) - (pm_max 0 ((r_1 (7 + 6 * j1 + 3)) - (r_1 (7 + 6 * j1 + 2))))))) (7 + 6 * j1 + 5)))) (7 + 6 * j1 + 3) 0)).2)).2))) (by rw [hDq6]) ?_
        exact ih1 (j1 + 1) (by omega) (a1_1 + (pm_max 0 ((r_1 (7 + 6 * j1 + 3)) - (r_1 (7 + 6 * j1 + 2))))) (upd (upd (upd (upd r_1 5 ((r_1 5) + ((r_1 (7 + 6 * j1 + 3)) - (pm_max 0 ((r_1 (7 + 6 * j1 + 3)) - (r_1 (7 + 6 * j1 + 2))))))) (7 + 6 * j1 + 4) (pm_im1 ((upd r_1 5 ((r_1 5) + ((r_1 (7 + 6 * j1 + 3)) - (pm_max 0 ((r_1 (7 + 6 * j1 + 3)) - (r_1 (7 + 6 * j1 + 2))))))) (7 + 6 * j1 + 4)))) (7 + 6 * j1 + 5) (pm_im2 ((upd r_1 5 ((r_1 5) + ((r_1 (7 + 6 * j1 + 3)) - (pm_max 0 ((r_1 (7 + 6 * j1 + 3)) - (r_1 (7 + 6 * j1 + 2))))))) (7 + 6 * j1 + 4)) ((upd r_1 5 ((r_1 5) + ((r_1 (7 + 6 * j1 + 3)) - (pm_max 0 ((r_1 (7 + 6 * j1 + 3)) - (r_1 (7 + 6 * j1 + 2))))))) (7 + 6 * j1 + 5)))) (7 + 6 * j1 + 3) 0) ((show (upd (upd (upd (upd r_1 5 ((r_1 5) + ((r_1 (7 + 6 * j1 + 3)) - (pm_max 0 ((r_1 (7 + 6 * j1 + 3)) - (r_1 (7 + 6 * j1 + 2))))))) (7 + 6 * j1 + 4) (pm_im1 ((upd r_1 5 ((r_1 5) + ((r_1 (7 + 6 * j1 + 3)) - (pm_max 0 ((r_1 (7 + 6 * j1 + 3)) - (r_1 (7 + 6 * j1 + 2))))))) (7 + 6 * j1 + 4)))) (7 + 6 * j1 + 5) (pm_im2 ((upd r_1 5 ((r_1 5) + ((r_1 (7 + 6 * j1 + 3)) - (pm_max 0 ((r_1 (7 + 6 * j1 + 3)) - (r_1 (7 + 6 * j1 + 2))))))) (7 + 6 * j1 + 4)) ((upd r_1 5 ((r_1 5) + ((r_1 (7 + 6 * j1 + 3)) - (pm_max 0 ((r_1 (7 + 6 * j1 + 3)) - (r_1 (7 + 6 * j1 + 2))))))) (7 + 6 * j1 + 5)))) (7 + 6 * j1 + 3) 0) 0 = (nI n) from by rw [pk_un (show 0 ≠ 7 + 6 * j1 + 3 from (by omega)), pk_un (show 0 ≠ 7 + 6 * j1 + 5 from (by omega)), pk_un (show 0 ≠ 7 + 6 * j1 + 4 from (by omega)), pk_un (show 0 ≠ 5 from (by decide)), hn_1]))
  refine pm_pst (post' := pm_rt (some (.int (((((d_X7_closeMonth_L1 n 0 0 r).1) * 3), (upd (upd ((d_X7_closeMonth_L1 n 0 0 r).2) 6 ((((d_X7_closeMonth_L1 n 0 0 r).2) 6) + ((d_X7_closeMonth_L1 n 0 0 r).1))) 4 ((((d_X7_closeMonth_L1 n 0 0 r).2) 4) + 1))).1))) nx (pm_sw z kA 2 M (((((d_X7_closeMonth_L1 n 0 0 r).1) * 3), (upd (upd ((d_X7_closeMonth_L1 n 0 0 r).2) 6 ((((d_X7_closeMonth_L1 n 0 0 r).2) 6) + ((d_X7_closeMonth_L1 n 0 0 r).1))) 4 ((((d_X7_closeMonth_L1 n 0 0 r).2) 4) + 1))).2))) (by rw [show (d_X7_closeMonth n r) = ((((d_X7_closeMonth_L1 n 0 0 r).1) * 3), (upd (upd ((d_X7_closeMonth_L1 n 0 0 r).2) 6 ((((d_X7_closeMonth_L1 n 0 0 r).2) 6) + ((d_X7_closeMonth_L1 n 0 0 r).1))) 4 ((((d_X7_closeMonth_L1 n 0 0 r).2) 4) + 1))) from by rw [d_X7_closeMonth]]) ?_
  refine loop1 (fun (a1_1 : Int32) (r_1 : (Nat → Int32)) => ((a1_1 * 3), (upd (upd r_1 6 ((r_1 6) + a1_1)) 4 ((r_1 4) + 1)))) ?_ n 0 (by omega) 0 r (hn)
  intro a1_1 r_1 hn_1
  refine pm_pst (post' := pm_rt (some (.int (((a1_1 * 3), (upd (upd r_1 6 ((r_1 6) + a1_1)) 4 ((r_1 4) + 1))).1))) nx (pm_sw z kA 2 M (((a1_1 * 3), (upd (upd r_1 6 ((r_1 6) + a1_1)) 4 ((r_1 4) + 1))).2))) rfl ?_
  refine pm_aload_n B dX7_closeMonth_75 rfl ?_
  refine pm_get B dX7_closeMonth_76 fl_X7_12 ((pm_sw_n (by omega)).trans hO1) rfl ?_
  refine pm_dup B dX7_closeMonth_79 rfl ?_
  refine pm_get B dX7_closeMonth_80 fl_X7_191 ((pm_swS (z := z) (b := 2) (kA := kA)).1) rfl ?_
  refine pm_iload_n B dX7_closeMonth_83 rfl ?_
  refine pm_iadd B dX7_closeMonth_84 ?_
  refine pm_put B dX7_closeMonth_85 fs_X7_191 ((pm_swS (z := z) (b := 2) (kA := kA)).1) rfl rfl rfl ?_
  refine pm_mem (M' := pm_sw z kA 2 M (upd r_1 6 ((r_1 6) + a1_1))) (pm_sw_f6) ?_
  refine pm_aload_n B dX7_closeMonth_88 rfl ?_
  refine pm_get B dX7_closeMonth_89 fl_X7_12 ((pm_sw_n (by omega)).trans hO1) rfl ?_
  refine pm_dup B dX7_closeMonth_92 rfl ?_
  refine pm_get B dX7_closeMonth_93 fl_X7_194 ((pm_swS (z := z) (b := 2) (kA := kA)).1) rfl ?_
  refine pm_stk (st' := [.int (r_1 4), .ref (z + 2)]) (by rw [show ((upd r_1 6 ((r_1 6) + a1_1)) 4) = (r_1 4) from by rw [pk_un (show 4 ≠ 6 from (by decide))]]) ?_
  refine pm_iconst (v := 1) B dX7_closeMonth_96 (by decide) ?_
  refine pm_iadd B dX7_closeMonth_97 ?_
  refine pm_put B dX7_closeMonth_98 fs_X7_194 ((pm_swS (z := z) (b := 2) (kA := kA)).1) rfl rfl rfl ?_
  refine pm_mem (M' := pm_sw z kA 2 M (upd (upd r_1 6 ((r_1 6) + a1_1)) 4 ((r_1 4) + 1))) (pm_sw_f4) ?_
  refine pm_iload_n B dX7_closeMonth_101 rfl ?_
  refine pm_iconst (v := 3) B dX7_closeMonth_102 (by decide) ?_
  refine pm_imul B dX7_closeMonth_103 ?_
  have hDq7 : (((a1_1 * 3), (upd (upd r_1 6 ((r_1 6) + a1_1)) 4 ((r_1 4) + 1)))) = ((a1_1 * 3), (upd (upd r_1 6 ((r_1 6) + a1_1)) 4 ((r_1 4) + 1))) := rfl
  exact pm_ireturn B dX7_closeMonth_104 rfl (by first | rfl | (apply pm_nz; first | assumption | decide | exact pm_in01 _ _ _ | simp)) ⟨rfl, rfl, rfl⟩ rfl rfl
def d_X7_assignTotal_L1 (x : Int32) (n : Nat) (r : Nat → Int32) (q : Nat → Int32) (rm : Nat → Int32) : Nat → Nat → Int32 → (Nat → Int32) → (Int32 × (Nat → Int32))
  | 0, _, a2_1, r_1 => (a2_1, r_1)
  | k1 + 1, j1, a2_1, r_1 => if (r_1 (7 + 6 * j1 + 2)) = (((d_X1_apportion x (r 1) n r q rm).1) j1) then (d_X7_assignTotal_L1 x n r q rm k1 (j1 + 1) (a2_1 + 0) (upd r_1 (7 + 6 * j1 + 2) (((d_X1_apportion x (r 1) n r q rm).1) j1))) else (d_X7_assignTotal_L1 x n r q rm k1 (j1 + 1) (a2_1 + 1) (upd r_1 (7 + 6 * j1 + 2) (((d_X1_apportion x (r 1) n r q rm).1) j1)))
def d_X7_assignTotal (x : Int32) (n : Nat) (r : Nat → Int32) (q : Nat → Int32) (rm : Nat → Int32) : (Int32 × (Nat → Int32) × (Nat → Int32) × (Nat → Int32)) := (((d_X7_assignTotal_L1 x n r q rm n 0 0 r).1), ((d_X7_assignTotal_L1 x n r q rm n 0 0 r).2), ((d_X1_apportion x (r 1) n r q rm).1), ((d_X1_apportion x (r 1) n r q rm).2))
set_option maxRecDepth 100000 in
set_option maxHeartbeats 8000000 in
theorem c_X7_assignTotal {l : Launch} {z : Nat} {D : va_G} {kA : Nat → ClassId} {kE : Nat → Nat} {nx : Nat} {M : pm_M} {x : Int32} {n : Nat} {r : Nat → Int32} {q : Nat → Int32} {rm : Nat → Int32} (hS : pm_SA z kA 2 M r) (hq : M 14 = some (.inl (kA 0, 7, .inl q))) (hrm : M 15 = some (.inl (kA 0, 7, .inl rm))) (hO1 : M 1 = some (.inr (5, [.ref (z + 2), .ref (z + 13), .ref (z + 16)]))) (hO13 : M 13 = some (.inr (0, [.ref (z + 14), .ref (z + 15)]))) (hn : r 0 = nI n) (h7 : n ≤ 7) (hx : x = nI (pm_n x)) (hx2 : pm_n x < 2147483648) : pm_C l z D kA kE yX7_assignTotal cX7_assignTotal 4 (some .int) 4 0 0 [.ref (z + 1), .int x] nx M (pm_rt (some (.int ((d_X7_assignTotal x n r q rm).1))) nx (pm_sw z kA 2 (pm_up (pm_up M 14 (.inl (kA 0, 7, .inl ((d_X7_assignTotal x n r q rm).2.2.1)))) 15 (.inl (kA 0, 7, .inl ((d_X7_assignTotal x n r q rm).2.2.2)))) ((d_X7_assignTotal x n r q rm).2.1))) := by
  refine pm_mk (own := RX7) (nm := "assignTotal") mt_X7_assignTotal rfl rfl rfl rfl fun X B => ?_
  refine pm_loc (L' := [some (.ref (z + 1)), some (.int x), none, none]) rfl ?_
  refine pm_mem (M' := pm_sw z kA 2 (pm_up (pm_up M 14 (.inl (kA 0, 7, .inl q))) 15 (.inl (kA 0, 7, .inl rm))) r) (by rw [pm_up_id hq, pm_up_id hrm, pm_sw_id hS]) ?_
  refine pm_aload_n B dX7_assignTotal_0 rfl ?_
  refine pm_get B dX7_assignTotal_1 fl_X7_21 ((pm_sw_n (by omega)).trans ((pm_up_n (by omega)).trans ((pm_up_n (by omega)).trans hO1))) rfl ?_
  refine pm_aload_n B dX7_assignTotal_4 rfl ?_
  refine pm_get B dX7_assignTotal_5 fl_X7_12 ((pm_sw_n (by omega)).trans ((pm_up_n (by omega)).trans ((pm_up_n (by omega)).trans hO1))) rfl ?_
  refine pm_iload_n B dX7_assignTotal_8 rfl ?_
  refine pm_aload_n B dX7_assignTotal_9 rfl ?_
  refine pm_get B dX7_assignTotal_10 fl_X7_12 ((pm_sw_n (by omega)).trans ((pm_up_n (by omega)).trans ((pm_up_n (by omega)).trans hO1))) rfl ?_
  refine pm_get B dX7_assignTotal_13 fl_X7_48 ((pm_swS (z := z) (b := 2) (kA := kA)).1) rfl ?_
  refine pm_cV (As := [.ref (z + 2), .int x, .int (r 1)]) (mc2 := 0) (ms2 := 0) B rfl ((pm_sw_n (by omega)).trans ((pm_up_n (by omega)).trans ((pm_up_n (by omega)).trans hO13))) rfl (c_X1_apportion (x := x) (y := (r 1)) (n := n) (r := r) (q := q) (rm := rm) (pm_swS (z := z) (b := 2) (kA := kA)) ((pm_sw_n (by omega)).trans ((pm_up_n (by omega)).trans pm_up_s)) ((pm_sw_n (by omega)).trans pm_up_s) ((pm_sw_n (by omega)).trans ((pm_up_n (by omega)).trans ((pm_up_n (by omega)).trans hO13))) hn (by first | assumption | omega) (by first | assumption | rfl) (by first | assumption | omega)) mt_X1_apportion sv_X7_172 dX7_assignTotal_16 rfl rfl rfl rfl rfl ?_
  refine pm_mem (M' := pm_sw z kA 2 (pm_up (pm_up M 14 (.inl (kA 0, 7, .inl ((d_X1_apportion x (r 1) n r q rm).1)))) 15 (.inl (kA 0, 7, .inl ((d_X1_apportion x (r 1) n r q rm).2)))) r) (by rw [pm_sw_c (a := 14) (by omega), pm_sw_c (a := 15) (by omega), pm_up_sw (a := 15) (b := 14) (by omega), pm_up_up (a := 14), pm_up_up (a := 15)] <;> rfl) ?_
  refine pm_stk (st' := []) rfl ?_
  refine pm_iconst (v := 0) B dX7_assignTotal_19 (by decide) ?_
  refine pm_istore_n B dX7_assignTotal_20 rfl rfl ?_
  refine pm_loc (L' := [some (.ref (z + 1)), some (.int x), some (.int 0), none]) rfl ?_
  refine pm_iconst (v := 0) B dX7_assignTotal_21 (by decide) ?_
  refine pm_istore_n B dX7_assignTotal_22 rfl rfl ?_
  refine pm_loc (L' := [some (.ref (z + 1)), some (.int x), some (.int 0), some (.int 0)]) rfl ?_
  refine pm_wk (L' := [some (.ref (z + 1)), none, some (.int 0), some (.int 0)]) ⟨rfl, ⟨rfl, ⟨rfl, trivial⟩⟩⟩ ?_
  refine pm_loc (L' := [some (.ref (z + 1)), none, some (.int 0), some (.int (nI 0))]) rfl ?_
  have loop1 : ∀ (K1 : (Int32 → (Nat → Int32) → (Int32 × (Nat → Int32) × (Nat → Int32) × (Nat → Int32)))), (∀ (a2_1 : Int32) (r_1 : (Nat → Int32)), (hn_1 : r_1 0 = nI n) → pm_G l z D X 0 0 (pm_Q z D (pm_rt (some (.int ((K1 a2_1 r_1).1))) nx (pm_sw z kA 2 (pm_up (pm_up M 14 (.inl (kA 0, 7, .inl ((K1 a2_1 r_1).2.2.1)))) 15 (.inl (kA 0, 7, .inl ((K1 a2_1 r_1).2.2.2)))) ((K1 a2_1 r_1).2.1))) 0 0 X) nx (pm_sw z kA 2 (pm_up (pm_up M 14 (.inl (kA 0, 7, .inl ((d_X1_apportion x (r 1) n r q rm).1)))) 15 (.inl (kA 0, 7, .inl ((d_X1_apportion x (r 1) n r q rm).2)))) r_1) 93 [none, none, some (.int a2_1), none] []) → ∀ (k1 j1 : Nat), j1 + k1 = n → ∀ (a2_1 : Int32) (r_1 : (Nat → Int32)), (hn_1 : r_1 0 = nI n) → pm_G l z D X 0 0 (pm_Q z D (pm_rt (some (.int ((K1 ((d_X7_assignTotal_L1 x n r q rm k1 j1 a2_1 r_1).1) ((d_X7_assignTotal_L1 x n r q rm k1 j1 a2_1 r_1).2)).1))) nx (pm_sw z kA 2 (pm_up (pm_up M 14 (.inl (kA 0, 7, .inl ((K1 ((d_X7_assignTotal_L1 x n r q rm k1 j1 a2_1 r_1).1) ((d_X7_assignTotal_L1 x n r q rm k1 j1 a2_1 r_1).2)).2.2.1)))) 15 (.inl (kA 0, 7, .inl ((K1 ((d_X7_assignTotal_L1 x n r q rm k1 j1 a2_1 r_1).1) ((d_X7_assignTotal_L1 x n r q rm k1 j1 a2_1 r_1).2)).2.2.2)))) ((K1 ((d_X7_assignTotal_L1 x n r q rm k1 j1 a2_1 r_1).1) ((d_X7_assignTotal_L1 x n r q rm k1 j1 a2_1 r_1).2)).2.1))) 0 0 X) nx (pm_sw z kA 2 (pm_up (pm_up M 14 (.inl (kA 0, 7, .inl ((d_X1_apportion x (r 1) n r q rm).1)))) 15 (.inl (kA 0, 7, .inl ((d_X1_apportion x (r 1) n r q rm).2)))) r_1) 23 [some (.ref (z + 1)), none, some (.int a2_1), some (.int (nI j1))] [] := by
    intro K1 hK1 k1
    induction k1 with
    | zero =>
      intro j1 hj1 a2_1 r_1 hn_1
      have hjn1 : j1 = n := by omega
      refine pm_iload_n B dX7_assignTotal_23 rfl ?_
      refine pm_aload_n B dX7_assignTotal_24 rfl ?_
      refine pm_get B dX7_assignTotal_25 fl_X7_12 ((pm_sw_n (by omega)).trans ((pm_up_n (by omega)).trans ((pm_up_n (by omega)).trans hO1))) rfl ?_
      refine pm_get B dX7_assignTotal_28 fl_X7_116 ((pm_swS (z := z) (b := 2) (kA := kA)).1) rfl ?_
      refine pm_stk (st' := [.int (nI n), .int (nI j1)]) (by rw [show (r_1 0) = (nI n) from by rw [hn_1]]) ?_
      refine pm_icmp_ge (tgt := 93) B dX7_assignTotal_31 (by decide) (fun hq1 => ?_) (fun hq1 => absurd ((nI_leI (by first | omega | decide) (by first | omega | decide)).mpr (by omega)) hq1)
      refine pm_wk (L' := [none, none, some (.int a2_1), none]) ⟨rfl, trivial⟩ ?_
      have hDq2 : (K1 ((d_X7_assignTotal_L1 x n r q rm 0 j1 a2_1 r_1).1) ((d_X7_assignTotal_L1 x n r q rm 0 j1 a2_1 r_1).2)) = (K1 a2_1 r_1) := by rw [d_X7_assignTotal_L1]
      refine pm_pst (post' := pm_rt (some (.int ((K1 a2_1 r_1).1))) nx (pm_sw z kA 2 (pm_up (pm_up M 14 (.inl (kA 0, 7, .inl ((K1 a2_1 r_1).2.2.1)))) 15 (.inl (kA 0, 7, .inl ((K1 a2_1 r_1).2.2.2)))) ((K1 a2_1 r_1).2.1))) (by rw [hDq2]) ?_
      exact hK1 a2_1 r_1 (hn_1)
    | succ k1 ih1 =>
      intro j1 hj1 a2_1 r_1 hn_1
      have hjn1 : j1 < n := by omega
      refine pm_iload_n B dX7_assignTotal_23 rfl ?_
      refine pm_aload_n B dX7_assignTotal_24 rfl ?_
      refine pm_get B dX7_assignTotal_25 fl_X7_12 ((pm_sw_n (by omega)).trans ((pm_up_n (by omega)).trans ((pm_up_n (by omega)).trans hO1))) rfl ?_
      refine pm_get B dX7_assignTotal_28 fl_X7_116 ((pm_swS (z := z) (b := 2) (kA := kA)).1) rfl ?_
      refine pm_stk (st' := [.int (nI n), .int (nI j1)]) (by rw [show (r_1 0) = (nI n) from by rw [hn_1]]) ?_
      refine pm_icmp_ge (tgt := 93) B dX7_assignTotal_31 (by decide) (fun hq3 => absurd hq3 (fun e => absurd ((nI_leI (by first | omega | decide) (by first | omega | decide)).mp e) (by omega))) (fun hq3 => ?_)
      refine pm_iload_n B dX7_assignTotal_34 rfl ?_
      refine pm_aload_n B dX7_assignTotal_35 rfl ?_
      refine pm_get B dX7_assignTotal_36 fl_X7_12 ((pm_sw_n (by omega)).trans ((pm_up_n (by omega)).trans ((pm_up_n (by omega)).trans hO1))) rfl ?_
      refine pm_get B dX7_assignTotal_39 fl_X7_123 ((pm_swS (z := z) (b := 2) (kA := kA)).1) rfl ?_
      refine pm_iload_n B dX7_assignTotal_42 rfl ?_
      refine pm_aald_n B dX7_assignTotal_43 ((pm_swS (z := z) (b := 2) (kA := kA)).2.1) rfl j1 (by first | assumption | omega) (by decide) (pm_mr_at (by first | assumption | omega)) ?_
      refine pm_get B dX7_assignTotal_44 fl_X7_176 ((pm_swS (z := z) (b := 2) (kA := kA)).2.2.1 j1 (by first | assumption | omega)) rfl ?_
      refine pm_aload_n B dX7_assignTotal_47 rfl ?_
      refine pm_get B dX7_assignTotal_48 fl_X7_21 ((pm_sw_n (by omega)).trans ((pm_up_n (by omega)).trans ((pm_up_n (by omega)).trans hO1))) rfl ?_
      refine pm_get B dX7_assignTotal_51 fl_X7_179 ((pm_sw_n (by omega)).trans ((pm_up_n (by omega)).trans ((pm_up_n (by omega)).trans hO13))) rfl ?_
      refine pm_iload_n B dX7_assignTotal_54 rfl ?_
      refine pm_iald_n B dX7_assignTotal_55 ((pm_sw_n (by omega)).trans ((pm_up_n (by omega)).trans pm_up_s)) j1 (by first | assumption | omega) (by decide) ?_
      refine pm_icmp_eq (tgt := 63) B dX7_assignTotal_56 (by decide) (fun hq4 => ?_) (fun hq4 => ?_)
      · refine pm_iconst (v := 0) B dX7_assignTotal_63 (by decide) ?_
        refine pm_iadd B dX7_assignTotal_64 ?_
        refine pm_istore_n B dX7_assignTotal_65 rfl rfl ?_
        refine pm_loc (L' := [some (.ref (z + 1)), none, some (.int (a2_1 + 0)), some (.int (nI j1))]) rfl ?_
        refine pm_aload_n B dX7_assignTotal_66 rfl ?_
        refine pm_get B dX7_assignTotal_67 fl_X7_12 ((pm_sw_n (by omega)).trans ((pm_up_n (by omega)).trans ((pm_up_n (by omega)).trans hO1))) rfl ?_
        refine pm_get B dX7_assignTotal_70 fl_X7_123 ((pm_swS (z := z) (b := 2) (kA := kA)).1) rfl ?_
        refine pm_iload_n B dX7_assignTotal_73 rfl ?_
        refine pm_aald_n B dX7_assignTotal_74 ((pm_swS (z := z) (b := 2) (kA := kA)).2.1) rfl j1 (by first | assumption | omega) (by decide) (pm_mr_at (by first | assumption | omega)) ?_
        refine pm_aload_n B dX7_assignTotal_75 rfl ?_
        refine pm_get B dX7_assignTotal_76 fl_X7_21 ((pm_sw_n (by omega)).trans ((pm_up_n (by omega)).trans ((pm_up_n (by omega)).trans hO1))) rfl ?_
        refine pm_get B dX7_assignTotal_79 fl_X7_179 ((pm_sw_n (by omega)).trans ((pm_up_n (by omega)).trans ((pm_up_n (by omega)).trans hO13))) rfl ?_
        refine pm_iload_n B dX7_assignTotal_82 rfl ?_
        refine pm_iald_n B dX7_assignTotal_83 ((pm_sw_n (by omega)).trans ((pm_up_n (by omega)).trans pm_up_s)) j1 (by first | assumption | omega) (by decide) ?_
        refine pm_put B dX7_assignTotal_84 fs_X7_176 ((pm_swS (z := z) (b := 2) (kA := kA)).2.2.1 j1 (by first | assumption | omega)) rfl rfl rfl ?_
        refine pm_mem (M' := pm_sw z kA 2 (pm_up (pm_up M 14 (.inl (kA 0, 7, .inl ((d_X1_apportion x (r 1) n r q rm).1)))) 15 (.inl (kA 0, 7, .inl ((d_X1_apportion x (r 1) n r q rm).2)))) (upd r_1 (7 + 6 * j1 + 2) (((d_X1_apportion x (r 1) n r q rm).1) j1))) (pm_sw_m2 (i := j1) (by first | assumption | omega) (by omega)) ?_
        refine pm_iinc B dX7_assignTotal_87 rfl rfl rfl ?_
        refine pm_loc (L' := [some (.ref (z + 1)), none, some (.int (a2_1 + 0)), some (.int (nI (j1 + 1)))]) (by rw [show ((nI j1) : Int32) + Int32.ofInt 1 = (nI (j1 + 1)) from nI_1 _]; rfl) ?_
        refine pm_goto (tgt := 23) B dX7_assignTotal_90 (by decide) ?_
        have hDq5 : (K1 ((d_X7_assignTotal_L1 x n r q rm (k1 + 1) j1 a2_1 r_1).1) ((d_X7_assignTotal_L1 x n r q rm (k1 + 1) j1 a2_1 r_1).2)) = (K1 ((d_X7_assignTotal_L1 x n r q rm k1 (j1 + 1) (a2_1 + 0) (upd r_1 (7 + 6 * j1 + 2) (((d_X1_apportion x (r 1) n r q rm).1) j1))).1) ((d_X7_assignTotal_L1 x n r q rm k1 (j1 + 1) (a2_1 + 0) (upd r_1 (7 + 6 * j1 + 2) (((d_X1_apportion x (r 1) n r q rm).1) j1))).2)) := by rw [d_X7_assignTotal_L1, if_pos hq4]
        refine pm_pst (post' := pm_rt (some (.int ((K1 ((d_X7_assignTotal_L1 x n r q rm k1 (j1 + 1) (a2_1 + 0) (upd r_1 (7 + 6 * j1 + 2) (((d_X1_apportion x (r 1) n r q rm).1) j1))).1) ((d_X7_assignTotal_L1 x n r q rm k1 (j1 + 1) (a2_1 + 0) (upd r_1 (7 + 6 * j1 + 2) (((d_X1_apportion x (r 1) n r q rm).1) j1))).2)).1))) nx (pm_sw z kA 2 (pm_up (pm_up M 14 (.inl (kA 0, 7, .inl ((K1 ((d_X7_assignTotal_L1 x n r q rm k1 (j1 + 1) (a2_1 + 0) (upd r_1 (7 + 6 * j1 + 2) (((d_X1_apportion x (r 1) n r q rm).1) j1))).1) ((d_X7_assignTotal_L1 x n r q rm k1 (j1 + 1) (a2_1 + 0) (upd r_1 (7 + 6 * j1 + 2) (((d_X1_apportion x (r 1) n r q rm).1) j1))).2)).2.2.1)))) 15 (.inl (kA 0, 7, .inl ((K1 ((d_X7_assignTotal_L1 x n r q rm k1 (j1 + 1) (a2_1 + 0) (upd r_1 (7 + 6 * j1 + 2) (((d_X1_apportion x (r 1) n r q rm).1) j1))).1) ((d_X7_assignTotal_L1 x n r q rm k1 (j1 + 1) (a2_1 + 0) (upd r_1 (7 + 6 * j1 + 2) (((d_X1_apportion x (r 1) n r q rm).1) j1))).2)).2.2.2)))) ((K1 ((d_X7_assignTotal_L1 x n r q rm k1 (j1 + 1) (a2_1 + 0) (upd r_1 (7 + 6 * j1 + 2) (((d_X1_apportion x (r 1) n r q rm).1) j1))).1) ((d_X7_assignTotal_L1 x n r q rm k1 (j1 + 1) (a2_1 + 0) (upd r_1 (7 + 6 * j1 + 2) (((d_X1_apportion x (r 1) n r q rm).1) j1))).2)).2.1))) (by rw [hDq5]) ?_
        exact ih1 (j1 + 1) (by omega) (a2_1 + 0) (upd r_1 (7 + 6 * j1 + 2) (((d_X1_apportion x (r 1) n r q rm).1) j1)) ((show (upd r_1 (7 + 6 * j1 + 2) (((d_X1_apportion x (r 1) n r q rm).1) j1)) 0 = (nI n) from by rw [pk_un (show 0 ≠ 7 + 6 * j1 + 2 from (by omega)), hn_1]))
      · refine pm_iconst (v := 1) B dX7_assignTotal_59 (by decide) ?_
        refine pm_goto (tgt := 64) B dX7_assignTotal_60 (by decide) ?_
        refine pm_iadd B dX7_assignTotal_64 ?_
        refine pm_istore_n B dX7_assignTotal_65 rfl rfl ?_
        refine pm_loc (L' := [some (.ref (z + 1)), none, some (.int (a2_1 + 1)), some (.int (nI j1))]) rfl ?_
        refine pm_aload_n B dX7_assignTotal_66 rfl ?_
        refine pm_get B dX7_assignTotal_67 fl_X7_12 ((pm_sw_n (by omega)).trans ((pm_up_n (by omega)).trans ((pm_up_n (by omega)).trans hO1))) rfl ?_
        refine pm_get B dX7_assignTotal_70 fl_X7_123 ((pm_swS (z := z) (b := 2) (kA := kA)).1) rfl ?_
        refine pm_iload_n B dX7_assignTotal_73 rfl ?_
        refine pm_aald_n B dX7_assignTotal_74 ((pm_swS (z := z) (b := 2) (kA := kA)).2.1) rfl j1 (by first | assumption | omega) (by decide) (pm_mr_at (by first | assumption | omega)) ?_
        refine pm_aload_n B dX7_assignTotal_75 rfl ?_
        refine pm_get B dX7_assignTotal_76 fl_X7_21 ((pm_sw_n (by omega)).trans ((pm_up_n (by omega)).trans ((pm_up_n (by omega)).trans hO1))) rfl ?_
        refine pm_get B dX7_assignTotal_79 fl_X7_179 ((pm_sw_n (by omega)).trans ((pm_up_n (by omega)).trans ((pm_up_n (by omega)).trans hO13))) rfl ?_
        refine pm_iload_n B dX7_assignTotal_82 rfl ?_
        refine pm_iald_n B dX7_assignTotal_83 ((pm_sw_n (by omega)).trans ((pm_up_n (by omega)).trans pm_up_s)) j1 (by first | assumption | omega) (by decide) ?_
        refine pm_put B dX7_assignTotal_84 fs_X7_176 ((pm_swS (z := z) (b := 2) (kA := kA)).2.2.1 j1 (by first | assumption | omega)) rfl rfl rfl ?_
        refine pm_mem (M' := pm_sw z kA 2 (pm_up (pm_up M 14 (.inl (kA 0, 7, .inl ((d_X1_apportion x (r 1) n r q rm).1)))) 15 (.inl (kA 0, 7, .inl ((d_X1_apportion x (r 1) n r q rm).2)))) (upd r_1 (7 + 6 * j1 + 2) (((d_X1_apportion x (r 1) n r q rm).1) j1))) (pm_sw_m2 (i := j1) (by first | assumption | omega) (by omega)) ?_
        refine pm_iinc B dX7_assignTotal_87 rfl rfl rfl ?_
        refine pm_loc (L' := [some (.ref (z + 1)), none, some (.int (a2_1 + 1)), some (.int (nI (j1 + 1)))]) (by rw [show ((nI j1) : Int32) + Int32.ofInt 1 = (nI (j1 + 1)) from nI_1 _]; rfl) ?_
        refine pm_goto (tgt := 23) B dX7_assignTotal_90 (by decide) ?_
        have hDq6 : (K1 ((d_X7_assignTotal_L1 x n r q rm (k1 + 1) j1 a2_1 r_1).1) ((d_X7_assignTotal_L1 x n r q rm (k1 + 1) j1 a2_1 r_1).2)) = (K1 ((d_X7_assignTotal_L1 x n r q rm k1 (j1 + 1) (a2_1 + 1) (upd r_1 (7 + 6 * j1 + 2) (((d_X1_apportion x (r 1) n r q rm).1) j1))).1) ((d_X7_assignTotal_L1 x n r q rm k1 (j1 + 1) (a2_1 + 1) (upd r_1 (7 + 6 * j1 + 2) (((d_X1_apportion x (r 1) n r q rm).1) j1))).2)) := by rw [d_X7_assignTotal_L1, if_neg hq4]
        refine pm_pst (post' := pm_rt (some (.int ((K1 ((d_X7_assignTotal_L1 x n r q rm k1 (j1 + 1) (a2_1 + 1) (upd r_1 (7 + 6 * j1 + 2) (((d_X1_apportion x (r 1) n r q rm).1) j1))).1) ((d_X7_assignTotal_L1 x n r q rm k1 (j1 + 1) (a2_1 + 1) (upd r_1 (7 + 6 * j1 + 2) (((d_X1_apportion x (r 1) n r q rm).1) j1))).2)).1))) nx (pm_sw z kA 2 (pm_up (pm_up M 14 (.inl (kA 0, 7, .inl ((K1 ((d_X7_assignTotal_L1 x n r q rm k1 (j1 + 1) (a2_1 + 1) (upd r_1 (7 + 6 * j1 + 2) (((d_X1_apportion x (r 1) n r q rm).1) j1))).1) ((d_X7_assignTotal_L1 x n r q rm k1 (j1 + 1) (a2_1 + 1) (upd r_1 (7 + 6 * j1 + 2) (((d_X1_apportion x (r 1) n r q rm).1) j1))).2)).2.2.1)))) 15 (.inl (kA 0, 7, .inl ((K1 ((d_X7_assignTotal_L1 x n r q rm k1 (j1 + 1) (a2_1 + 1) (upd r_1 (7 + 6 * j1 + 2) (((d_X1_apportion x (r 1) n r q rm).1) j1))).1) ((d_X7_assignTotal_L1 x n r q rm k1 (j1 + 1) (a2_1 + 1) (upd r_1 (7 + 6 * j1 + 2) (((d_X1_apportion x (r 1) n r q rm).1) j1))).2)).2.2.2)))) ((K1 ((d_X7_assignTotal_L1 x n r q rm k1 (j1 + 1) (a2_1 + 1) (upd r_1 (7 + 6 * j1 + 2) (((d_X1_apportion x (r 1) n r q rm).1) j1))).1) ((d_X7_assignTotal_L1 x n r q rm k1 (j1 + 1) (a2_1 + 1) (upd r_1 (7 + 6 * j1 + 2) (((d_X1_apportion x (r 1) n r q rm).1) j1))).2)).2.1))) (by rw [hDq6]) ?_
        exact ih1 (j1 + 1) (by omega) (a2_1 + 1) (upd r_1 (7 + 6 * j1 + 2) (((d_X1_apportion x (r 1) n r q rm).1) j1)) ((show (upd r_1 (7 + 6 * j1 + 2) (((d_X1_apportion x (r 1) n r q rm).1) j1)) 0 = (nI n) from by rw [pk_un (show 0 ≠ 7 + 6 * j1 + 2 from (by omega)), hn_1]))
  refine pm_pst (post' := pm_rt (some (.int ((((d_X7_assignTotal_L1 x n r q rm n 0 0 r).1), ((d_X7_assignTotal_L1 x n r q rm n 0 0 r).2), ((d_X1_apportion x (r 1) n r q rm).1), ((d_X1_apportion x (r 1) n r q rm).2)).1))) nx (pm_sw z kA 2 (pm_up (pm_up M 14 (.inl (kA 0, 7, .inl ((((d_X7_assignTotal_L1 x n r q rm n 0 0 r).1), ((d_X7_assignTotal_L1 x n r q rm n 0 0 r).2), ((d_X1_apportion x (r 1) n r q rm).1), ((d_X1_apportion x (r 1) n r q rm).2)).2.2.1)))) 15 (.inl (kA 0, 7, .inl ((((d_X7_assignTotal_L1 x n r q rm n 0 0 r).1), ((d_X7_assignTotal_L1 x n r q rm n 0 0 r).2), ((d_X1_apportion x (r 1) n r q rm).1), ((d_X1_apportion x (r 1) n r q rm).2)).2.2.2)))) ((((d_X7_assignTotal_L1 x n r q rm n 0 0 r).1), ((d_X7_assignTotal_L1 x n r q rm n 0 0 r).2), ((d_X1_apportion x (r 1) n r q rm).1), ((d_X1_apportion x (r 1) n r q rm).2)).2.1))) (by rw [show (d_X7_assignTotal x n r q rm) = (((d_X7_assignTotal_L1 x n r q rm n 0 0 r).1), ((d_X7_assignTotal_L1 x n r q rm n 0 0 r).2), ((d_X1_apportion x (r 1) n r q rm).1), ((d_X1_apportion x (r 1) n r q rm).2)) from by rw [d_X7_assignTotal]]) ?_
  refine loop1 (fun (a2_1 : Int32) (r_1 : (Nat → Int32)) => (a2_1, r_1, ((d_X1_apportion x (r 1) n r q rm).1), ((d_X1_apportion x (r 1) n r q rm).2))) ?_ n 0 (by omega) 0 r (hn)
  intro a2_1 r_1 hn_1
  refine pm_pst (post' := pm_rt (some (.int ((a2_1, r_1, ((d_X1_apportion x (r 1) n r q rm).1), ((d_X1_apportion x (r 1) n r q rm).2)).1))) nx (pm_sw z kA 2 (pm_up (pm_up M 14 (.inl (kA 0, 7, .inl ((a2_1, r_1, ((d_X1_apportion x (r 1) n r q rm).1), ((d_X1_apportion x (r 1) n r q rm).2)).2.2.1)))) 15 (.inl (kA 0, 7, .inl ((a2_1, r_1, ((d_X1_apportion x (r 1) n r q rm).1), ((d_X1_apportion x (r 1) n r q rm).2)).2.2.2)))) ((a2_1, r_1, ((d_X1_apportion x (r 1) n r q rm).1), ((d_X1_apportion x (r 1) n r q rm).2)).2.1))) rfl ?_
  refine pm_iload_n B dX7_assignTotal_93 rfl ?_
  have hDq7 : ((a2_1, r_1, ((d_X1_apportion x (r 1) n r q rm).1), ((d_X1_apportion x (r 1) n r q rm).2))) = (a2_1, r_1, ((d_X1_apportion x (r 1) n r q rm).1), ((d_X1_apportion x (r 1) n r q rm).2)) := rfl
  exact pm_ireturn B dX7_assignTotal_94 rfl (by first | rfl | (apply pm_nz; first | assumption | decide | exact pm_in01 _ _ _ | simp)) ⟨rfl, rfl, rfl⟩ rfl rfl
def d_X7_drawMembers_L2 (n : Nat) (a4_1 : Int32) : Nat → Nat → Int32 → Int32
  | 0, _, a6_2 => a6_2
  | k2 + 1, j2, a6_2 => if (nI (pm_n a4_1 / 2 ^ (pm_n a6_2) % 2)) = 1 then (d_X7_drawMembers_L2 n a4_1 k2 (j2 + 1) (nI ((pm_n a6_2 + 1) % n))) else a6_2
def d_X7_drawMembers_L1 (n : Nat) : Nat → Nat → Int32 → Int32 → (Nat → Int32) → (Int32 × Int32 × (Nat → Int32))
  | 0, _, a2_1, a4_1, dr_1 => (a2_1, a4_1, dr_1)
  | k1 + 1, j1, a2_1, a4_1, dr_1 => if (nI n) ≤ (nI j1) then (a2_1, a4_1, dr_1) else (d_X7_drawMembers_L1 n k1 (j1 + 1) (nI ((pm_n a2_1 * 109 + 89) % 1024)) (nI (pm_n a4_1 ||| 2 ^ (pm_n (d_X7_drawMembers_L2 n a4_1 n 0 (nI (((pm_n a2_1 * 109 + 89) % 1024) % n)))))) (upd dr_1 j1 (d_X7_drawMembers_L2 n a4_1 n 0 (nI (((pm_n a2_1 * 109 + 89) % 1024) % n)))))
def d_X7_drawMembers (w : Nat) (n : Nat) (r : Nat → Int32) (dr : Nat → Int32) : (Int32 × (Nat → Int32)) := if (nI n) = 0 then ((nI (pm_n (r 2))), dr) else (((d_X7_drawMembers_L1 n w 0 (nI (pm_n (r 2))) 0 dr).1), ((d_X7_drawMembers_L1 n w 0 (nI (pm_n (r 2))) 0 dr).2.2))
set_option maxRecDepth 100000 in
set_option maxHeartbeats 8000000 in
theorem c_X7_drawMembers {l : Launch} {z : Nat} {D : va_G} {kA : Nat → ClassId} {kE : Nat → Nat} {nx : Nat} {M : pm_M} {w : Nat} {n : Nat} {r : Nat → Int32} {dr : Nat → Int32} (hS : pm_SA z kA 2 M r) (hdr : M 16 = some (.inl (kA 0, 7, .inl dr))) (hO1 : M 1 = some (.inr (5, [.ref (z + 2), .ref (z + 13), .ref (z + 16)]))) (hn : r 0 = nI n) (h7 : n ≤ 7) (hsd : r 2 = nI (pm_n (r 2))) (hsl : pm_n (r 2) < 1024) (hw : w ≤ 7) : pm_C l z D kA kE yX7_drawMembers cX7_drawMembers 8 (some .int) 0 0 0 [.ref (z + 1), .int (nI w)] nx M (pm_rt (some (.int ((d_X7_drawMembers w n r dr).1))) nx (pm_up M 16 (.inl (kA 0, 7, .inl ((d_X7_drawMembers w n r dr).2))))) := by
  refine pm_mk (own := RX7) (nm := "drawMembers") mt_X7_drawMembers rfl rfl rfl rfl fun X B => ?_
  refine pm_loc (L' := [some (.ref (z + 1)), some (.int (nI w)), none, none, none, none, none, none]) rfl ?_
  refine pm_mem (M' := pm_up M 16 (.inl (kA 0, 7, .inl dr))) (by rw [pm_up_id hdr]) ?_
  refine pm_aload_n B dX7_drawMembers_0 rfl ?_
  refine pm_get B dX7_drawMembers_1 fl_X7_12 ((pm_up_n (by omega)).trans hO1) rfl ?_
  refine pm_get B dX7_drawMembers_4 fl_X7_169 ((pm_up_n (by omega)).trans (hS.1)) rfl ?_
  refine pm_stk (st' := [.int (nI (pm_n (r 2)))]) (congrArg (fun yy : Int32 => ([.int yy] : List Value)) (show (r 2) = (nI (pm_n (r 2))) from hsd)) ?_
  refine pm_istore_n B dX7_drawMembers_7 rfl rfl ?_
  refine pm_loc (L' := [some (.ref (z + 1)), some (.int (nI w)), some (.int (nI (pm_n (r 2)))), none, none, none, none, none]) rfl ?_
  refine pm_aload_n B dX7_drawMembers_8 rfl ?_
  refine pm_get B dX7_drawMembers_9 fl_X7_12 ((pm_up_n (by omega)).trans hO1) rfl ?_
  refine pm_get B dX7_drawMembers_12 fl_X7_116 ((pm_up_n (by omega)).trans (hS.1)) rfl ?_
  refine pm_stk (st' := [.int (nI n)]) (by rw [show (r 0) = (nI n) from by rw [hn]]) ?_
  refine pm_istore_n B dX7_drawMembers_15 rfl rfl ?_
  refine pm_loc (L' := [some (.ref (z + 1)), some (.int (nI w)), some (.int (nI (pm_n (r 2)))), some (.int (nI n)), none, none, none, none]) rfl ?_
  refine pm_iload_n B dX7_drawMembers_16 rfl ?_
  refine pm_if_ne (tgt := 22) B dX7_drawMembers_17 (by decide) (fun hq1 => ?_) (fun hq1 => ?_)
  · have hn0 : 0 < n := by apply Nat.pos_of_ne_zero; rintro rfl; exact hq1 rfl
    have hnn : ¬ nI n = 0 := hq1
    refine pm_iconst (v := 0) B dX7_drawMembers_22 (by decide) ?_
    refine pm_istore B dX7_drawMembers_23 rfl rfl ?_
    refine pm_loc (L' := [some (.ref (z + 1)), some (.int (nI w)), some (.int (nI (pm_n (r 2)))), some (.int (nI n)), some (.int 0), none, none, none]) rfl ?_
    refine pm_iconst (v := 0) B dX7_drawMembers_25 (by decide) ?_
    refine pm_istore B dX7_drawMembers_26 rfl rfl ?_
    refine pm_loc (L' := [some (.ref (z + 1)), some (.int (nI w)), some (.int (nI (pm_n (r 2)))), some (.int (nI n)), some (.int 0), some (.int 0), none, none]) rfl ?_
    refine pm_loc (L' := [some (.ref (z + 1)), some (.int (nI w)), some (.int (nI (pm_n (r 2)))), some (.int (nI n)), some (.int 0), some (.int (nI 0)), none, none]) rfl ?_
    have loop1 : ∀ (K1 : (Int32 → Int32 → (Nat → Int32) → (Int32 × (Nat → Int32)))), (∀ (a2_1 : Int32) (a4_1 : Int32) (dr_1 : (Nat → Int32)), (hs_1 : a2_1 = nI (pm_n a2_1) ∧ pm_n a2_1 < 1024) → (hc_1 : a4_1 = nI (pm_n a4_1) ∧ pm_n a4_1 < 128) → pm_G l z D X 0 0 (pm_Q z D (pm_rt (some (.int ((K1 a2_1 a4_1 dr_1).1))) nx (pm_up M 16 (.inl (kA 0, 7, .inl ((K1 a2_1 a4_1 dr_1).2))))) 0 0 X) nx (pm_up M 16 (.inl (kA 0, 7, .inl dr_1))) 115 [none, none, some (.int a2_1), none, none, none, none, none] []) → ∀ (k1 j1 : Nat), j1 + k1 = w → ∀ (a2_1 : Int32) (a4_1 : Int32) (dr_1 : (Nat → Int32)), (hs_1 : a2_1 = nI (pm_n a2_1) ∧ pm_n a2_1 < 1024) → (hc_1 : a4_1 = nI (pm_n a4_1) ∧ pm_n a4_1 < 128) → pm_G l z D X 0 0 (pm_Q z D (pm_rt (some (.int ((K1 ((d_X7_drawMembers_L1 n k1 j1 a2_1 a4_1 dr_1).1) ((d_X7_drawMembers_L1 n k1 j1 a2_1 a4_1 dr_1).2.1) ((d_X7_drawMembers_L1 n k1 j1 a2_1 a4_1 dr_1).2.2)).1))) nx (pm_up M 16 (.inl (kA 0, 7, .inl ((K1 ((d_X7_drawMembers_L1 n k1 j1 a2_1 a4_1 dr_1).1) ((d_X7_drawMembers_L1 n k1 j1 a2_1 a4_1 dr_1).2.1) ((d_X7_drawMembers_L1 n k1 j1 a2_1 a4_1 dr_1).2.2)).2))))) 0 0 X) nx (pm_up M 16 (.inl (kA 0, 7, .inl dr_1))) 28 [some (.ref (z + 1)), some (.int (nI w)), some (.int a2_1), some (.int (nI n)), some (.int a4_1), some (.int (nI j1)), none, none] [] := by
      intro K1 hK1 k1
      induction k1 with
      | zero =>
        intro j1 hj1 a2_1 a4_1 dr_1 hs_1 hc_1
        have hjn1 : j1 = w := by omega
        refine pm_iload B dX7_drawMembers_28 rfl ?_
        refine pm_iload_n B dX7_drawMembers_30 rfl ?_
        refine pm_icmp_ge (tgt := 115) B dX7_drawMembers_31 (by decide) (fun hq2 => ?_) (fun hq2 => absurd ((nI_leI (by first | omega | decide) (by first | omega | decide)).mpr (by omega)) hq2)
        refine pm_wk (L' := [none, none, some (.int a2_1), none, none, none, none, none]) ⟨rfl, trivial⟩ ?_
        have hDq3 : (K1 ((d_X7_drawMembers_L1 n 0 j1 a2_1 a4_1 dr_1).1) ((d_X7_drawMembers_L1 n 0 j1 a2_1 a4_1 dr_1).2.1) ((d_X7_drawMembers_L1 n 0 j1 a2_1 a4_1 dr_1).2.2)) = (K1 a2_1 a4_1 dr_1) := by rw [d_X7_drawMembers_L1]
        refine pm_pst (post' := pm_rt (some (.int ((K1 a2_1 a4_1 dr_1).1))) nx (pm_up M 16 (.inl (kA 0, 7, .inl ((K1 a2_1 a4_1 dr_1).2))))) (by rw [hDq3]) ?_
        exact hK1 a2_1 a4_1 dr_1 (hs_1) (hc_1)
      | succ k1 ih1 =>
        intro j1 hj1 a2_1 a4_1 dr_1 hs_1 hc_1
        have hjn1 : j1 < w := by omega
        refine pm_iload B dX7_drawMembers_28 rfl ?_
        refine pm_iload_n B dX7_drawMembers_30 rfl ?_
        refine pm_icmp_ge (tgt := 115) B dX7_drawMembers_31 (by decide) (fun hq4 => absurd hq4 (fun e => absurd ((nI_leI (by first | omega | decide) (by first | omega | decide)).mp e) (by omega))) (fun hq4 => ?_)
        refine pm_iload B dX7_drawMembers_34 rfl ?_
        refine pm_iload_n B dX7_drawMembers_36 rfl ?_
        refine pm_icmp_ge (tgt := 115) B dX7_drawMembers_37 (by decide) (fun hq5 => ?_) (fun hq5 => ?_)
        · refine pm_wk (L' := [none, none, some (.int a2_1), none, none, none, none, none]) ⟨rfl, trivial⟩ ?_
          have hDq6 : (K1 ((d_X7_drawMembers_L1 n (k1 + 1) j1 a2_1 a4_1 dr_1).1) ((d_X7_drawMembers_L1 n (k1 + 1) j1 a2_1 a4_1 dr_1).2.1) ((d_X7_drawMembers_L1 n (k1 + 1) j1 a2_1 a4_1 dr_1).2.2)) = (K1 a2_1 a4_1 dr_1) := by rw [d_X7_drawMembers_L1, if_pos hq5]
          refine pm_pst (post' := pm_rt (some (.int ((K1 a2_1 a4_1 dr_1).1))) nx (pm_up M 16 (.inl (kA 0, 7, .inl ((K1 a2_1 a4_1 dr_1).2))))) (by rw [hDq6]) ?_
          exact hK1 a2_1 a4_1 dr_1 (hs_1) (hc_1)
        · have hjn : j1 < n := by have hh := hq5; rw [nI_leI (by omega) (by omega)] at hh; omega
          refine pm_iload_n B dX7_drawMembers_40 rfl ?_
          refine pm_bipush (v := 109) B dX7_drawMembers_41 (by decide) ?_
          refine pm_imul B dX7_drawMembers_43 ?_
          refine pm_bipush (v := 89) B dX7_drawMembers_44 (by decide) ?_
          refine pm_iadd B dX7_drawMembers_46 ?_
          refine pm_sipush (v := 1024) B dX7_drawMembers_47 (by decide) ?_
          refine pm_irem B dX7_drawMembers_50 (by first | decide | assumption | exact pm_le_ne (by assumption)) ?_
          refine pm_stk (st' := [.int (nI ((pm_n a2_1 * 109 + 89) % 1024))]) (by rw [show (((a2_1 * 109) + 89) - ((a2_1 * 109) + 89) / 1024 * 1024) = (nI ((pm_n a2_1 * 109 + 89) % 1024)) from by rw [hs_1.1, show (109 : Int32) = nI 109 from rfl, show (89 : Int32) = nI 89 from rfl, show (1024 : Int32) = nI 1024 from rfl, pk_mul, nI_add, pk_rem (by omega) (by decide) (by decide), pm_n_nI (by omega)]]) ?_
          refine pm_istore_n B dX7_drawMembers_51 rfl rfl ?_
          refine pm_loc (L' := [some (.ref (z + 1)), some (.int (nI w)), some (.int (nI ((pm_n a2_1 * 109 + 89) % 1024))), some (.int (nI n)), some (.int a4_1), some (.int (nI j1)), none, none]) rfl ?_
          refine pm_iload_n B dX7_drawMembers_52 rfl ?_
          refine pm_iload_n B dX7_drawMembers_53 rfl ?_
          refine pm_irem B dX7_drawMembers_54 (by first | decide | assumption | exact pm_le_ne (by assumption)) ?_
          refine pm_stk (st' := [.int (nI (((pm_n a2_1 * 109 + 89) % 1024) % n))]) (by rw [show ((nI ((pm_n a2_1 * 109 + 89) % 1024)) - (nI ((pm_n a2_1 * 109 + 89) % 1024)) / (nI n) * (nI n)) = (nI (((pm_n a2_1 * 109 + 89) % 1024) % n)) from pk_rem (by omega) (by omega) (by omega)]) ?_
          have hm0 : ((pm_n a2_1 * 109 + 89) % 1024) % n < n := Nat.mod_lt _ (by omega)
          refine pm_istore B dX7_drawMembers_55 rfl rfl ?_
          refine pm_loc (L' := [some (.ref (z + 1)), some (.int (nI w)), some (.int (nI ((pm_n a2_1 * 109 + 89) % 1024))), some (.int (nI n)), some (.int a4_1), some (.int (nI j1)), some (.int (nI (((pm_n a2_1 * 109 + 89) % 1024) % n))), none]) rfl ?_
          refine pm_iconst (v := 0) B dX7_drawMembers_57 (by decide) ?_
          refine pm_istore B dX7_drawMembers_58 rfl rfl ?_
          refine pm_loc (L' := [some (.ref (z + 1)), some (.int (nI w)), some (.int (nI ((pm_n a2_1 * 109 + 89) % 1024))), some (.int (nI n)), some (.int a4_1), some (.int (nI j1)), some (.int (nI (((pm_n a2_1 * 109 + 89) % 1024) % n))), some (.int 0)]) rfl ?_
          refine pm_loc (L' := [some (.ref (z + 1)), some (.int (nI w)), some (.int (nI ((pm_n a2_1 * 109 + 89) % 1024))), some (.int (nI n)), some (.int a4_1), some (.int (nI j1)), some (.int (nI (((pm_n a2_1 * 109 + 89) % 1024) % n))), some (.int (nI 0))]) rfl ?_
          have loop2 : ∀ (K2 : (Int32 → (Int32 × (Nat → Int32)))), (∀ (a6_2 : Int32), (hm_2 : a6_2 = nI (pm_n a6_2) ∧ pm_n a6_2 < n) → pm_G l z D X 0 0 (pm_Q z D (pm_rt (some (.int ((K2 a6_2).1))) nx (pm_up M 16 (.inl (kA 0, 7, .inl ((K2 a6_2).2))))) 0 0 X) nx (pm_up M 16 (.inl (kA 0, 7, .inl dr_1))) 91 [some (.ref (z + 1)), some (.int (nI w)), some (.int (nI ((pm_n a2_1 * 109 + 89) % 1024))), some (.int (nI n)), some (.int a4_1), some (.int (nI j1)), some (.int a6_2), none] []) → ∀ (k2 j2 : Nat), j2 + k2 = n → ∀ (a6_2 : Int32), (hm_2 : a6_2 = nI (pm_n a6_2) ∧ pm_n a6_2 < n) → pm_G l z D X 0 0 (pm_Q z D (pm_rt (some (.int ((K2 (d_X7_drawMembers_L2 n a4_1 k2 j2 a6_2)).1))) nx (pm_up M 16 (.inl (kA 0, 7, .inl ((K2 (d_X7_drawMembers_L2 n a4_1 k2 j2 a6_2)).2))))) 0 0 X) nx (pm_up M 16 (.inl (kA 0, 7, .inl dr_1))) 60 [some (.ref (z + 1)), some (.int (nI w)), some (.int (nI ((pm_n a2_1 * 109 + 89) % 1024))), some (.int (nI n)), some (.int a4_1), some (.int (nI j1)), some (.int a6_2), some (.int (nI j2))] [] := by
            intro K2 hK2 k2
            induction k2 with
            | zero =>
              intro j2 hj2 a6_2 hm_2
              have hjn2 : j2 = n := by omega
              refine pm_iload B dX7_drawMembers_60 rfl ?_
              refine pm_iload_n B dX7_drawMembers_62 rfl ?_
              refine pm_icmp_ge (tgt := 91) B dX7_drawMembers_63 (by decide) (fun hq7 => ?_) (fun hq7 => absurd ((nI_leI (by first | omega | decide) (by first | omega | decide)).mpr (by omega)) hq7)
              refine pm_wk (L' := [some (.ref (z + 1)), some (.int (nI w)), some (.int (nI ((pm_n a2_1 * 109 + 89) % 1024))), some (.int (nI n)), some (.int a4_1), some (.int (nI j1)), some (.int a6_2), none]) ⟨rfl, ⟨rfl, ⟨rfl, ⟨rfl, ⟨rfl, ⟨rfl, ⟨rfl, trivial⟩⟩⟩⟩⟩⟩⟩ ?_
              have hDq8 : (K2 (d_X7_drawMembers_L2 n a4_1 0 j2 a6_2)) = (K2 a6_2) := by rw [d_X7_drawMembers_L2]
              refine pm_pst (post' := pm_rt (some (.int ((K2 a6_2).1))) nx (pm_up M 16 (.inl (kA 0, 7, .inl ((K2 a6_2).2))))) (by rw [hDq8]) ?_
              exact hK2 a6_2 (hm_2)
            | succ k2 ih2 =>
              intro j2 hj2 a6_2 hm_2
              have hjn2 : j2 < n := by omega
              refine pm_iload B dX7_drawMembers_60 rfl ?_
              refine pm_iload_n B dX7_drawMembers_62 rfl ?_
              refine pm_icmp_ge (tgt := 91) B dX7_drawMembers_63 (by decide) (fun hq9 => absurd hq9 (fun e => absurd ((nI_leI (by first | omega | decide) (by first | omega | decide)).mp e) (by omega))) (fun hq9 => ?_)
              refine pm_iload B dX7_drawMembers_66 rfl ?_
              refine pm_iload B dX7_drawMembers_68 rfl ?_
              refine pm_ishr B dX7_drawMembers_70 ?_
              refine pm_iconst (v := 1) B dX7_drawMembers_71 (by decide) ?_
              refine pm_iand B dX7_drawMembers_72 ?_
              refine pm_stk (st' := [.int (nI (pm_n a4_1 / 2 ^ (pm_n a6_2) % 2))]) (by rw [show ((a4_1 >>> (a6_2 &&& 31)) &&& 1) = (nI (pm_n a4_1 / 2 ^ (pm_n a6_2) % 2)) from by rw [hc_1.1, hm_2.1, pm_n_nI (by omega), pm_n_nI (by omega)]; exact pm_tb hc_1.2 (by omega)]) ?_
              refine pm_iconst (v := 1) B dX7_drawMembers_73 (by decide) ?_
              refine pm_icmp_ne (tgt := 91) B dX7_drawMembers_74 (by decide) (fun hq10 => ?_) (fun hq10 => ?_)
              · refine pm_wk (L' := [some (.ref (z + 1)), some (.int (nI w)), some (.int (nI ((pm_n a2_1 * 109 + 89) % 1024))), some (.int (nI n)), some (.int a4_1), some (.int (nI j1)), some (.int a6_2), none]) ⟨rfl, ⟨rfl, ⟨rfl, ⟨rfl, ⟨rfl, ⟨rfl, ⟨rfl, trivial⟩⟩⟩⟩⟩⟩⟩ ?_
                have hDq11 : (K2 (d_X7_drawMembers_L2 n a4_1 (k2 + 1) j2 a6_2)) = (K2 a6_2) := by rw [d_X7_drawMembers_L2, if_neg hq10]
                refine pm_pst (post' := pm_rt (some (.int ((K2 a6_2).1))) nx (pm_up M 16 (.inl (kA 0, 7, .inl ((K2 a6_2).2))))) (by rw [hDq11]) ?_
                exact hK2 a6_2 (hm_2)
              · refine pm_iload B dX7_drawMembers_77 rfl ?_
                refine pm_iconst (v := 1) B dX7_drawMembers_79 (by decide) ?_
                refine pm_iadd B dX7_drawMembers_80 ?_
                refine pm_iload_n B dX7_drawMembers_81 rfl ?_
                refine pm_irem B dX7_drawMembers_82 (by first | decide | assumption | exact pm_le_ne (by assumption)) ?_
                refine pm_stk (st' := [.int (nI ((pm_n a6_2 + 1) % n))]) (by rw [show ((a6_2 + 1) - (a6_2 + 1) / (nI n) * (nI n)) = (nI ((pm_n a6_2 + 1) % n)) from by rw [hm_2.1, show (1 : Int32) = nI 1 from rfl, nI_add, pm_n_nI (by omega)]; exact pk_rem (by omega) (by omega) (by omega)]) ?_
                refine pm_istore B dX7_drawMembers_83 rfl rfl ?_
                refine pm_loc (L' := [some (.ref (z + 1)), some (.int (nI w)), some (.int (nI ((pm_n a2_1 * 109 + 89) % 1024))), some (.int (nI n)), some (.int a4_1), some (.int (nI j1)), some (.int (nI ((pm_n a6_2 + 1) % n))), some (.int (nI j2))]) rfl ?_
                refine pm_iinc B dX7_drawMembers_85 rfl rfl rfl ?_
                refine pm_loc (L' := [some (.ref (z + 1)), some (.int (nI w)), some (.int (nI ((pm_n a2_1 * 109 + 89) % 1024))), some (.int (nI n)), some (.int a4_1), some (.int (nI j1)), some (.int (nI ((pm_n a6_2 + 1) % n))), some (.int (nI (j2 + 1)))]) (by rw [show ((nI j2) : Int32) + Int32.ofInt 1 = (nI (j2 + 1)) from nI_1 _]; rfl) ?_
                refine pm_goto (tgt := 60) B dX7_drawMembers_88 (by decide) ?_
                have hDq12 : (K2 (d_X7_drawMembers_L2 n a4_1 (k2 + 1) j2 a6_2)) = (K2 (d_X7_drawMembers_L2 n a4_1 k2 (j2 + 1) (nI ((pm_n a6_2 + 1) % n)))) := by rw [d_X7_drawMembers_L2, if_pos hq10]
                refine pm_pst (post' := pm_rt (some (.int ((K2 (d_X7_drawMembers_L2 n a4_1 k2 (j2 + 1) (nI ((pm_n a6_2 + 1) % n)))).1))) nx (pm_up M 16 (.inl (kA 0, 7, .inl ((K2 (d_X7_drawMembers_L2 n a4_1 k2 (j2 + 1) (nI ((pm_n a6_2 + 1) % n)))).2))))) (by rw [hDq12]) ?_
                exact ih2 (j2 + 1) (by omega) (nI ((pm_n a6_2 + 1) % n)) ((by have hq := Nat.mod_lt (pm_n a6_2 + 1) (show 0 < n by omega); rw [pm_n_nI (by omega)]; exact ⟨rfl, hq⟩))
          refine pm_pst (post' := pm_rt (some (.int ((K1 ((d_X7_drawMembers_L1 n k1 (j1 + 1) (nI ((pm_n a2_1 * 109 + 89) % 1024)) (nI (pm_n a4_1 ||| 2 ^ (pm_n (d_X7_drawMembers_L2 n a4_1 n 0 (nI (((pm_n a2_1 * 109 + 89) % 1024) % n)))))) (upd dr_1 j1 (d_X7_drawMembers_L2 n a4_1 n 0 (nI (((pm_n a2_1 * 109 + 89) % 1024) % n))))).1) ((d_X7_drawMembers_L1 n k1 (j1 + 1) (nI ((pm_n a2_1 * 109 + 89) % 1024)) (nI (pm_n a4_1 ||| 2 ^ (pm_n (d_X7_drawMembers_L2 n a4_1 n 0 (nI (((pm_n a2_1 * 109 + 89) % 1024) % n)))))) (upd dr_1 j1 (d_X7_drawMembers_L2 n a4_1 n 0 (nI (((pm_n a2_1 * 109 + 89) % 1024) % n))))).2.1) ((d_X7_drawMembers_L1 n k1 (j1 + 1) (nI ((pm_n a2_1 * 109 + 89) % 1024)) (nI (pm_n a4_1 ||| 2 ^ (pm_n (d_X7_drawMembers_L2 n a4_1 n 0 (nI (((pm_n a2_1 * 109 + 89) % 1024) % n)))))) (upd dr_1 j1 (d_X7_drawMembers_L2 n a4_1 n 0 (nI (((pm_n a2_1 * 109 + 89) % 1024) % n))))).2.2)).1))) nx (pm_up M 16 (.inl (kA 0, 7, .inl ((K1 ((d_X7_drawMembers_L1 n k1 (j1 + 1) (nI ((pm_n a2_1 * 109 + 89) % 1024)) (nI (pm_n a4_1 ||| 2 ^ (pm_n (d_X7_drawMembers_L2 n a4_1 n 0 (nI (((pm_n a2_1 * 109 + 89) % 1024) % n)))))) (upd dr_1 j1 (d_X7_drawMembers_L2 n a4_1 n 0 (nI (((pm_n a2_1 * 109 + 89) % 1024) % n))))).1) ((d_X7_drawMembers_L1 n k1 (j1 + 1) (nI ((pm_n a2_1 * 109 + 89) % 1024)) (nI (pm_n a4_1 ||| 2 ^ (pm_n (d_X7_drawMembers_L2 n a4_1 n 0 (nI (((pm_n a2_1 * 109 + 89) % 1024) % n)))))) (upd dr_1 j1 (d_X7_drawMembers_L2 n a4_1 n 0 (nI (((pm_n a2_1 * 109 + 89) % 1024) % n))))).2.1) ((d_X7_drawMembers_L1 n k1 (j1 + 1) (nI ((pm_n a2_1 * 109 + 89) % 1024)) (nI (pm_n a4_1 ||| 2 ^ (pm_n (d_X7_drawMembers_L2 n a4_1 n 0 (nI (((pm_n a2_1 * 109 + 89) % 1024) % n)))))) (upd dr_1 j1 (d_X7_drawMembers_L2 n a4_1 n 0 (nI (((pm_n a2_1 * 109 + 89) % 1024) % n))))).2.2)).2))))) (by rw [show (K1 ((d_X7_drawMembers_L1 n (k1 + 1) j1 a2_1 a4_1 dr_1).1) ((d_X7_drawMembers_L1 n (k1 + 1) j1 a2_1 a4_1 dr_1).2.1) ((d_X7_drawMembers_L1 n (k1 + 1) j1 a2_1 a4_1 dr_1).2.2)) = (K1 ((d_X7_drawMembers_L1 n k1 (j1 + 1) (nI ((pm_n a2_1 * 109 + 89) % 1024)) (nI (pm_n a4_1 ||| 2 ^ (pm_n (d_X7_drawMembers_L2 n a4_1 n 0 (nI (((pm_n a2_1 * 109 + 89) % 1024) % n)))))) (upd dr_1 j1 (d_X7_drawMembers_L2 n a4_1 n 0 (nI (((pm_n a2_1 * 109 + 89) % 1024) % n))))).1) ((d_X7_drawMembers_L1 n k1 (j1 + 1) (nI ((pm_n a2_1 * 109 + 89) % 1024)) (nI (pm_n a4_1 ||| 2 ^ (pm_n (d_X7_drawMembers_L2 n a4_1 n 0 (nI (((pm_n a2_1 * 109 + 89) % 1024) % n)))))) (upd dr_1 j1 (d_X7_drawMembers_L2 n a4_1 n 0 (nI (((pm_n a2_1 * 109 + 89) % 1024) % n))))).2.1) ((d_X7_drawMembers_L1 n k1 (j1 + 1) (nI ((pm_n a2_1 * 109 + 89) % 1024)) (nI (pm_n a4_1 ||| 2 ^ (pm_n (d_X7_drawMembers_L2 n a4_1 n 0 (nI (((pm_n a2_1 * 109 + 89) % 1024) % n)))))) (upd dr_1 j1 (d_X7_drawMembers_L2 n a4_1 n 0 (nI (((pm_n a2_1 * 109 + 89) % 1024) % n))))).2.2)) from by rw [d_X7_drawMembers_L1, if_neg hq5]]) ?_
          refine loop2 (fun (a6_2 : Int32) => (K1 ((d_X7_drawMembers_L1 n k1 (j1 + 1) (nI ((pm_n a2_1 * 109 + 89) % 1024)) (nI (pm_n a4_1 ||| 2 ^ (pm_n a6_2))) (upd dr_1 j1 a6_2)).1) ((d_X7_drawMembers_L1 n k1 (j1 + 1) (nI ((pm_n a2_1 * 109 + 89) % 1024)) (nI (pm_n a4_1 ||| 2 ^ (pm_n a6_2))) (upd dr_1 j1 a6_2)).2.1) ((d_X7_drawMembers_L1 n k1 (j1 + 1) (nI ((pm_n a2_1 * 109 + 89) % 1024)) (nI (pm_n a4_1 ||| 2 ^ (pm_n a6_2))) (upd dr_1 j1 a6_2)).2.2))) ?_ n 0 (by omega) (nI (((pm_n a2_1 * 109 + 89) % 1024) % n)) ((by rw [pm_n_nI (by omega)]; exact ⟨rfl, hm0⟩))
          intro a6_2 hm_2
          refine pm_pst (post' := pm_rt (some (.int ((K1 ((d_X7_drawMembers_L1 n k1 (j1 + 1) (nI ((pm_n a2_1 * 109 + 89) % 1024)) (nI (pm_n a4_1 ||| 2 ^ (pm_n a6_2))) (upd dr_1 j1 a6_2)).1) ((d_X7_drawMembers_L1 n k1 (j1 + 1) (nI ((pm_n a2_1 * 109 + 89) % 1024)) (nI (pm_n a4_1 ||| 2 ^ (pm_n a6_2))) (upd dr_1 j1 a6_2)).2.1) ((d_X7_drawMembers_L1 n k1 (j1 + 1) (nI ((pm_n a2_1 * 109 + 89) % 1024)) (nI (pm_n a4_1 ||| 2 ^ (pm_n a6_2))) (upd dr_1 j1 a6_2)).2.2)).1))) nx (pm_up M 16 (.inl (kA 0, 7, .inl ((K1 ((d_X7_drawMembers_L1 n k1 (j1 + 1) (nI ((pm_n a2_1 * 109 + 89) % 1024)) (nI (pm_n a4_1 ||| 2 ^ (pm_n a6_2))) (upd dr_1 j1 a6_2)).1) ((d_X7_drawMembers_L1 n k1 (j1 + 1) (nI ((pm_n a2_1 * 109 + 89) % 1024)) (nI (pm_n a4_1 ||| 2 ^ (pm_n a6_2))) (upd dr_1 j1 a6_2)).2.1) ((d_X7_drawMembers_L1 n k1 (j1 + 1) (nI ((pm_n a2_1 * 109 + 89) % 1024)) (nI (pm_n a4_1 ||| 2 ^ (pm_n a6_2))) (upd dr_1 j1 a6_2)).2.2)).2))))) rfl ?_
          refine pm_iload B dX7_drawMembers_91 rfl ?_
          refine pm_iconst (v := 1) B dX7_drawMembers_93 (by decide) ?_
          refine pm_iload B dX7_drawMembers_94 rfl ?_
          refine pm_ishl B dX7_drawMembers_96 ?_
          refine pm_ior B dX7_drawMembers_97 ?_
          refine pm_stk (st' := [.int (nI (pm_n a4_1 ||| 2 ^ (pm_n a6_2)))]) (by rw [show (a4_1 ||| (1 <<< (a6_2 &&& 31))) = (nI (pm_n a4_1 ||| 2 ^ (pm_n a6_2))) from by rw [hc_1.1, hm_2.1, pm_n_nI (by omega), pm_n_nI (by omega)]; exact (pm_orN hc_1.2 (by omega)).1]) ?_
          refine pm_istore B dX7_drawMembers_98 rfl rfl ?_
          refine pm_loc (L' := [some (.ref (z + 1)), some (.int (nI w)), some (.int (nI ((pm_n a2_1 * 109 + 89) % 1024))), some (.int (nI n)), some (.int (nI (pm_n a4_1 ||| 2 ^ (pm_n a6_2)))), some (.int (nI j1)), some (.int a6_2), none]) rfl ?_
          refine pm_aload_n B dX7_drawMembers_100 rfl ?_
          refine pm_get B dX7_drawMembers_101 fl_X7_25 ((pm_up_n (by omega)).trans hO1) rfl ?_
          refine pm_iload B dX7_drawMembers_104 rfl ?_
          refine pm_iload B dX7_drawMembers_106 rfl ?_
          refine pm_iast_n B dX7_drawMembers_108 pm_up_s j1 (by first | assumption | omega) (by decide) ?_
          refine pm_mem (M' := pm_up M 16 (.inl (kA 0, 7, .inl (upd dr_1 j1 a6_2)))) (by rw [pm_up_up] <;> rfl) ?_
          refine pm_iinc B dX7_drawMembers_109 rfl rfl rfl ?_
          refine pm_loc (L' := [some (.ref (z + 1)), some (.int (nI w)), some (.int (nI ((pm_n a2_1 * 109 + 89) % 1024))), some (.int (nI n)), some (.int (nI (pm_n a4_1 ||| 2 ^ (pm_n a6_2)))), some (.int (nI (j1 + 1))), some (.int a6_2), none]) (by rw [show ((nI j1) : Int32) + Int32.ofInt 1 = (nI (j1 + 1)) from nI_1 _]; rfl) ?_
          refine pm_goto (tgt := 28) B dX7_drawMembers_112 (by decide) ?_
          refine pm_wk (L' := [some (.ref (z + 1)), some (.int (nI w)), some (.int (nI ((pm_n a2_1 * 109 + 89) % 1024))), some (.int (nI n)), some (.int (nI (pm_n a4_1 ||| 2 ^ (pm_n a6_2)))), some (.int (nI (j1 + 1))), none, none]) ⟨rfl, ⟨rfl, ⟨rfl, ⟨rfl, ⟨rfl, ⟨rfl, trivial⟩⟩⟩⟩⟩⟩ ?_
          have hDq13 : ((K1 ((d_X7_drawMembers_L1 n k1 (j1 + 1) (nI ((pm_n a2_1 * 109 + 89) % 1024)) (nI (pm_n a4_1 ||| 2 ^ (pm_n a6_2))) (upd dr_1 j1 a6_2)).1) ((d_X7_drawMembers_L1 n k1 (j1 + 1) (nI ((pm_n a2_1 * 109 + 89) % 1024)) (nI (pm_n a4_1 ||| 2 ^ (pm_n a6_2))) (upd dr_1 j1 a6_2)).2.1) ((d_X7_drawMembers_L1 n k1 (j1 + 1) (nI ((pm_n a2_1 * 109 + 89) % 1024)) (nI (pm_n a4_1 ||| 2 ^ (pm_n a6_2))) (upd dr_1 j1 a6_2)).2.2))) = (K1 ((d_X7_drawMembers_L1 n k1 (j1 + 1) (nI ((pm_n a2_1 * 109 + 89) % 1024)) (nI (pm_n a4_1 ||| 2 ^ (pm_n a6_2))) (upd dr_1 j1 a6_2)).1) ((d_X7_drawMembers_L1 n k1 (j1 + 1) (nI ((pm_n a2_1 * 109 + 89) % 1024)) (nI (pm_n a4_1 ||| 2 ^ (pm_n a6_2))) (upd dr_1 j1 a6_2)).2.1) ((d_X7_drawMembers_L1 n k1 (j1 + 1) (nI ((pm_n a2_1 * 109 + 89) % 1024)) (nI (pm_n a4_1 ||| 2 ^ (pm_n a6_2))) (upd dr_1 j1 a6_2)).2.2)) := rfl
          refine pm_pst (post' := pm_rt (some (.int ((K1 ((d_X7_drawMembers_L1 n k1 (j1 + 1) (nI ((pm_n a2_1 * 109 + 89) % 1024)) (nI (pm_n a4_1 ||| 2 ^ (pm_n a6_2))) (upd dr_1 j1 a6_2)).1) ((d_X7_drawMembers_L1 n k1 (j1 + 1) (nI ((pm_n a2_1 * 109 + 89) % 1024)) (nI (pm_n a4_1 ||| 2 ^ (pm_n a6_2))) (upd dr_1 j1 a6_2)).2.1) ((d_X7_drawMembers_L1 n k1 (j1 + 1) (nI ((pm_n a2_1 * 109 + 89) % 1024)) (nI (pm_n a4_1 ||| 2 ^ (pm_n a6_2))) (upd dr_1 j1 a6_2)).2.2)).1))) nx (pm_up M 16 (.inl (kA 0, 7, .inl ((K1 ((d_X7_drawMembers_L1 n k1 (j1 + 1) (nI ((pm_n a2_1 * 109 + 89) % 1024)) (nI (pm_n a4_1 ||| 2 ^ (pm_n a6_2))) (upd dr_1 j1 a6_2)).1) ((d_X7_drawMembers_L1 n k1 (j1 + 1) (nI ((pm_n a2_1 * 109 + 89) % 1024)) (nI (pm_n a4_1 ||| 2 ^ (pm_n a6_2))) (upd dr_1 j1 a6_2)).2.1) ((d_X7_drawMembers_L1 n k1 (j1 + 1) (nI ((pm_n a2_1 * 109 + 89) % 1024)) (nI (pm_n a4_1 ||| 2 ^ (pm_n a6_2))) (upd dr_1 j1 a6_2)).2.2)).2))))) (by rw [hDq13]) ?_
          exact ih1 (j1 + 1) (by omega) (nI ((pm_n a2_1 * 109 + 89) % 1024)) (nI (pm_n a4_1 ||| 2 ^ (pm_n a6_2))) (upd dr_1 j1 a6_2) ((by rw [pm_n_nI (by omega)]; exact ⟨rfl, by omega⟩)) ((by have hq := (pm_orN (m := pm_n a6_2) hc_1.2 (by omega)).2; rw [pm_n_nI (by omega)]; exact ⟨rfl, hq⟩))
    refine pm_pst (post' := pm_rt (some (.int ((((d_X7_drawMembers_L1 n w 0 (nI (pm_n (r 2))) 0 dr).1), ((d_X7_drawMembers_L1 n w 0 (nI (pm_n (r 2))) 0 dr).2.2)).1))) nx (pm_up M 16 (.inl (kA 0, 7, .inl ((((d_X7_drawMembers_L1 n w 0 (nI (pm_n (r 2))) 0 dr).1), ((d_X7_drawMembers_L1 n w 0 (nI (pm_n (r 2))) 0 dr).2.2)).2))))) (by rw [show (d_X7_drawMembers w n r dr) = (((d_X7_drawMembers_L1 n w 0 (nI (pm_n (r 2))) 0 dr).1), ((d_X7_drawMembers_L1 n w 0 (nI (pm_n (r 2))) 0 dr).2.2)) from by rw [d_X7_drawMembers, if_neg hq1]]) ?_
    refine loop1 (fun (a2_1 : Int32) (a4_1 : Int32) (dr_1 : (Nat → Int32)) => (a2_1, dr_1)) ?_ w 0 (by omega) (nI (pm_n (r 2))) 0 dr ((by rw [pm_n_nI (by omega)]; exact ⟨rfl, hsl⟩)) (⟨rfl, by decide⟩)
    intro a2_1 a4_1 dr_1 hs_1 hc_1
    refine pm_pst (post' := pm_rt (some (.int ((a2_1, dr_1).1))) nx (pm_up M 16 (.inl (kA 0, 7, .inl ((a2_1, dr_1).2))))) rfl ?_
    refine pm_iload_n B dX7_drawMembers_115 rfl ?_
    have hDq14 : ((a2_1, dr_1)) = (a2_1, dr_1) := rfl
    exact pm_ireturn B dX7_drawMembers_116 rfl (by first | rfl | (apply pm_nz; first | assumption | decide | exact pm_in01 _ _ _ | simp)) ⟨rfl, rfl, rfl⟩ rfl rfl
  · refine pm_iload_n B dX7_drawMembers_20 rfl ?_
    have hDq15 : (d_X7_drawMembers w n r dr) = ((nI (pm_n (r 2))), dr) := by rw [d_X7_drawMembers, if_pos hq1]
    exact pm_ireturn B dX7_drawMembers_21 rfl (by first | rfl | (apply pm_nz; first | assumption | decide | exact pm_in01 _ _ _ | simp)) ⟨(by rw [hDq15]), rfl, by rw [hDq15]⟩ rfl rfl
theorem d_X7_dL2_in {n : Nat} (h0 : 0 < n) (h7 : n ≤ 7) (a4 : Int32) : ∀ (k j m : Nat), m < n → ∃ d, d < n ∧ d_X7_drawMembers_L2 n a4 k j (nI m) = nI d := by
  intro k
  induction k with
  | zero => intro j m hm; exact ⟨m, hm, rfl⟩
  | succ k ih =>
    intro j m hm
    simp only [d_X7_drawMembers_L2]
    split
    · exact ih _ _ (Nat.mod_lt _ h0)
    · exact ⟨m, hm, rfl⟩
theorem d_X7_dL1_at {n : Nat} (h0 : 0 < n) (h7 : n ≤ 7) : ∀ (k j : Nat) (a2 a4 : Int32) (dr : Nat → Int32), j + k ≤ n → (∀ p, p < j → ∃ d, d < n ∧ dr p = nI d) → ∀ p, p < j + k → ∃ d, d < n ∧ (d_X7_drawMembers_L1 n k j a2 a4 dr).2.2 p = nI d := by
  intro k
  induction k with
  | zero => intro j a2 a4 dr _ h p hp; exact h p hp
  | succ k ih =>
    intro j a2 a4 dr hj h p hp
    simp only [d_X7_drawMembers_L1]
    rw [if_neg (by rw [nI_leI (by omega) (by omega)]; omega)]
    refine ih _ _ _ _ (by omega) (fun q hq => ?_) p (by omega)
    by_cases hqj : q = j
    · subst hqj
      rw [pk_us]
      exact d_X7_dL2_in h0 h7 _ _ _ _ (Nat.mod_lt _ h0)
    · rw [pk_un hqj]
      exact h q (by omega)
theorem d_X7_drawMembers_at {w n : Nat} {r dr : Nat → Int32} (h7 : n ≤ 7) (h1 : 1 ≤ w) (hw : w ≤ n) {p : Nat} (hp : p < w) : (d_X7_drawMembers w n r dr).2 p = nI (pm_n ((d_X7_drawMembers w n r dr).2 p)) ∧ pm_n ((d_X7_drawMembers w n r dr).2 p) < n := by
  unfold d_X7_drawMembers
  rw [if_neg (nI_ne0 (by omega) (by omega))]
  obtain ⟨d, hd, he⟩ := d_X7_dL1_at (n := n) (by omega) h7 w 0 (nI (pm_n (r 2))) 0 dr (by omega) (fun p hp => absurd hp (Nat.not_lt_zero p)) p (by omega)
  show (d_X7_drawMembers_L1 n w 0 (nI (pm_n (r 2))) 0 dr).2.2 p = _ ∧ _
  simp only [he]
  rw [pm_n_nI (by omega)]
  exact ⟨rfl, hd⟩
def d_X7_auditMembers_L1 (w : Nat) (n : Nat) (r : Nat → Int32) (dr : Nat → Int32) : Nat → Nat → Int32 → (Nat → Int32) → (Int32 × (Nat → Int32))
  | 0, _, a2_1, r_1 => (a2_1, r_1)
  | k1 + 1, j1, a2_1, r_1 => if (r_1 (7 + 6 * (pm_n (((d_X7_drawMembers w n r dr).2) j1)) + 5)) = 0 then (if (pm_max 0 ((r_1 (7 + 6 * (pm_n (((d_X7_drawMembers w n r dr).2) j1)) + 3)) - (r_1 (7 + 6 * (pm_n (((d_X7_drawMembers w n r dr).2) j1)) + 2)))) ≤ 0 then (d_X7_auditMembers_L1 w n r dr k1 (j1 + 1) a2_1 r_1) else (d_X7_auditMembers_L1 w n r dr k1 (j1 + 1) (a2_1 + Int32.ofInt 1) (upd (upd r_1 (7 + 6 * (pm_n (((d_X7_drawMembers w n r dr).2) j1)) + 4) (pm_wn1 (r_1 (7 + 6 * (pm_n (((d_X7_drawMembers w n r dr).2) j1)) + 4)))) (7 + 6 * (pm_n (((d_X7_drawMembers w n r dr).2) j1)) + 5) (pm_wn2 (r_1 (7 + 6 * (pm_n (((d_X7_drawMembers w n r dr).2) j1)) + 4)) (r_1 (7 + 6 * (pm_n (((d_X7_drawMembers w n r dr).2) j1)) + 5)))))) else (d_X7_auditMembers_L1 w n r dr k1 (j1 + 1) a2_1 r_1)
def d_X7_auditMembers (w : Nat) (n : Nat) (r : Nat → Int32) (dr : Nat → Int32) : (Int32 × (Nat → Int32) × (Nat → Int32)) := (((d_X7_auditMembers_L1 w n r dr w 0 0 (upd r 2 ((d_X7_drawMembers w n r dr).1))).1), ((d_X7_auditMembers_L1 w n r dr w 0 0 (upd r 2 ((d_X7_drawMembers w n r dr).1))).2), ((d_X7_drawMembers w n r dr).2))
set_option maxRecDepth 100000 in
set_option maxHeartbeats 8000000 in
theorem c_X7_auditMembers {l : Launch} {z : Nat} {D : va_G} {kA : Nat → ClassId} {kE : Nat → Nat} {nx : Nat} {M : pm_M} {w : Nat} {n : Nat} {r : Nat → Int32} {dr : Nat → Int32} (hS : pm_SA z kA 2 M r) (hdr : M 16 = some (.inl (kA 0, 7, .inl dr))) (hO1 : M 1 = some (.inr (5, [.ref (z + 2), .ref (z + 13), .ref (z + 16)]))) (hn : r 0 = nI n) (h7 : n ≤ 7) (hsd : r 2 = nI (pm_n (r 2))) (hsl : pm_n (r 2) < 1024) (hw1 : 1 ≤ w) (hwn : w ≤ n) : pm_C l z D kA kE yX7_auditMembers cX7_auditMembers 5 (some .int) 2 0 0 [.ref (z + 1), .int (nI w)] nx M (pm_rt (some (.int ((d_X7_auditMembers w n r dr).1))) nx (pm_sw z kA 2 (pm_up M 16 (.inl (kA 0, 7, .inl ((d_X7_auditMembers w n r dr).2.2)))) ((d_X7_auditMembers w n r dr).2.1))) := by
  refine pm_mk (own := RX7) (nm := "auditMembers") mt_X7_auditMembers rfl rfl rfl rfl fun X B => ?_
  refine pm_loc (L' := [some (.ref (z + 1)), some (.int (nI w)), none, none, none]) rfl ?_
  refine pm_mem (M' := pm_sw z kA 2 (pm_up M 16 (.inl (kA 0, 7, .inl dr))) r) (by rw [pm_up_id hdr, pm_sw_id hS]) ?_
  refine pm_aload_n B dX7_auditMembers_0 rfl ?_
  refine pm_get B dX7_auditMembers_1 fl_X7_12 ((pm_sw_n (by omega)).trans ((pm_up_n (by omega)).trans hO1)) rfl ?_
  refine pm_aload_n B dX7_auditMembers_4 rfl ?_
  refine pm_iload_n B dX7_auditMembers_5 rfl ?_
  refine pm_cV (As := [.int (nI w)]) (mc2 := 0) (ms2 := 0) B rfl ((pm_sw_n (by omega)).trans ((pm_up_n (by omega)).trans hO1)) rfl (c_X7_drawMembers (w := w) (n := n) (r := r) (dr := dr) (pm_swS (z := z) (b := 2) (kA := kA)) ((pm_sw_n (by omega)).trans pm_up_s) ((pm_sw_n (by omega)).trans ((pm_up_n (by omega)).trans hO1)) hn (by first | assumption | omega) (by first | assumption | exact hsd) (by first | assumption | omega) (by first | assumption | omega)) mt_X7_drawMembers sv_X7_197 dX7_auditMembers_6 rfl rfl rfl rfl rfl ?_
  refine pm_mem (M' := pm_sw z kA 2 (pm_up M 16 (.inl (kA 0, 7, .inl ((d_X7_drawMembers w n r dr).2)))) r) (by rw [pm_sw_c (a := 16) (by omega), pm_up_up (a := 16)] <;> rfl) ?_
  refine pm_stk (st' := [.int ((d_X7_drawMembers w n r dr).1), .ref (z + 2)]) rfl ?_
  refine pm_put B dX7_auditMembers_9 fs_X7_169 ((pm_swS (z := z) (b := 2) (kA := kA)).1) rfl rfl rfl ?_
  refine pm_mem (M' := pm_sw z kA 2 (pm_up M 16 (.inl (kA 0, 7, .inl ((d_X7_drawMembers w n r dr).2)))) (upd r 2 ((d_X7_drawMembers w n r dr).1))) (pm_sw_f2) ?_
  refine pm_iconst (v := 0) B dX7_auditMembers_12 (by decide) ?_
  refine pm_istore_n B dX7_auditMembers_13 rfl rfl ?_
  refine pm_loc (L' := [some (.ref (z + 1)), some (.int (nI w)), some (.int 0), none, none]) rfl ?_
  refine pm_iconst (v := 0) B dX7_auditMembers_14 (by decide) ?_
  refine pm_istore_n B dX7_auditMembers_15 rfl rfl ?_
  refine pm_loc (L' := [some (.ref (z + 1)), some (.int (nI w)), some (.int 0), some (.int 0), none]) rfl ?_
  refine pm_loc (L' := [some (.ref (z + 1)), some (.int (nI w)), some (.int 0), some (.int (nI 0)), none]) rfl ?_
  have loop1 : ∀ (K1 : (Int32 → (Nat → Int32) → (Int32 × (Nat → Int32) × (Nat → Int32)))), (∀ (a2_1 : Int32) (r_1 : (Nat → Int32)), (hn_1 : r_1 0 = nI n) → pm_G l z D X 0 0 (pm_Q z D (pm_rt (some (.int ((K1 a2_1 r_1).1))) nx (pm_sw z kA 2 (pm_up M 16 (.inl (kA 0, 7, .inl ((K1 a2_1 r_1).2.2)))) ((K1 a2_1 r_1).2.1))) 0 0 X) nx (pm_sw z kA 2 (pm_up M 16 (.inl (kA 0, 7, .inl ((d_X7_drawMembers w n r dr).2)))) r_1) 67 [none, none, some (.int a2_1), none, none] []) → ∀ (k1 j1 : Nat), j1 + k1 = w → ∀ (a2_1 : Int32) (r_1 : (Nat → Int32)), (hn_1 : r_1 0 = nI n) → pm_G l z D X 0 0 (pm_Q z D (pm_rt (some (.int ((K1 ((d_X7_auditMembers_L1 w n r dr k1 j1 a2_1 r_1).1) ((d_X7_auditMembers_L1 w n r dr k1 j1 a2_1 r_1).2)).1))) nx (pm_sw z kA 2 (pm_up M 16 (.inl (kA 0, 7, .inl ((K1 ((d_X7_auditMembers_L1 w n r dr k1 j1 a2_1 r_1).1) ((d_X7_auditMembers_L1 w n r dr k1 j1 a2_1 r_1).2)).2.2)))) ((K1 ((d_X7_auditMembers_L1 w n r dr k1 j1 a2_1 r_1).1) ((d_X7_auditMembers_L1 w n r dr k1 j1 a2_1 r_1).2)).2.1))) 0 0 X) nx (pm_sw z kA 2 (pm_up M 16 (.inl (kA 0, 7, .inl ((d_X7_drawMembers w n r dr).2)))) r_1) 16 [some (.ref (z + 1)), some (.int (nI w)), some (.int a2_1), some (.int (nI j1)), none] [] := by
    intro K1 hK1 k1
    induction k1 with
    | zero =>
      intro j1 hj1 a2_1 r_1 hn_1
      have hjn1 : j1 = w := by omega
      refine pm_iload_n B dX7_auditMembers_16 rfl ?_
      refine pm_iload_n B dX7_auditMembers_17 rfl ?_
      refine pm_icmp_ge (tgt := 67) B dX7_auditMembers_18 (by decide) (fun hq1 => ?_) (fun hq1 => absurd ((nI_leI (by first | omega | decide) (by first | omega | decide)).mpr (by omega)) hq1)
      refine pm_wk (L' := [none, none, some (.int a2_1), none, none]) ⟨rfl, trivial⟩ ?_
      have hDq2 : (K1 ((d_X7_auditMembers_L1 w n r dr 0 j1 a2_1 r_1).1) ((d_X7_auditMembers_L1 w n r dr 0 j1 a2_1 r_1).2)) = (K1 a2_1 r_1) := by rw [d_X7_auditMembers_L1]
      refine pm_pst (post' := pm_rt (some (.int ((K1 a2_1 r_1).1))) nx (pm_sw z kA 2 (pm_up M 16 (.inl (kA 0, 7, .inl ((K1 a2_1 r_1).2.2)))) ((K1 a2_1 r_1).2.1))) (by rw [hDq2]) ?_
      exact hK1 a2_1 r_1 (hn_1)
    | succ k1 ih1 =>
      intro j1 hj1 a2_1 r_1 hn_1
      have hjn1 : j1 < w := by omega
      refine pm_iload_n B dX7_auditMembers_16 rfl ?_
      refine pm_iload_n B dX7_auditMembers_17 rfl ?_
      refine pm_icmp_ge (tgt := 67) B dX7_auditMembers_18 (by decide) (fun hq3 => absurd hq3 (fun e => absurd ((nI_leI (by first | omega | decide) (by first | omega | decide)).mp e) (by omega))) (fun hq3 => ?_)
      refine pm_aload_n B dX7_auditMembers_21 rfl ?_
      refine pm_get B dX7_auditMembers_22 fl_X7_12 ((pm_sw_n (by omega)).trans ((pm_up_n (by omega)).trans hO1)) rfl ?_
      refine pm_get B dX7_auditMembers_25 fl_X7_123 ((pm_swS (z := z) (b := 2) (kA := kA)).1) rfl ?_
      refine pm_aload_n B dX7_auditMembers_28 rfl ?_
      refine pm_get B dX7_auditMembers_29 fl_X7_25 ((pm_sw_n (by omega)).trans ((pm_up_n (by omega)).trans hO1)) rfl ?_
      refine pm_iload_n B dX7_auditMembers_32 rfl ?_
      refine pm_iald_n B dX7_auditMembers_33 ((pm_sw_n (by omega)).trans pm_up_s) j1 (by first | assumption | omega) (by decide) ?_
      obtain ⟨hd1, hd2⟩ := d_X7_drawMembers_at (w := w) (n := n) (r := r) (dr := dr) h7 hw1 hwn (p := j1) (by omega)
      refine pm_stk (st' := [.int (nI (pm_n (((d_X7_drawMembers w n r dr).2) j1))), .ref (z + 3)]) (congrArg (fun yy : Int32 => ([.int yy, .ref (z + 3)] : List Value)) (show (((d_X7_drawMembers w n r dr).2) j1) = (nI (pm_n (((d_X7_drawMembers w n r dr).2) j1))) from hd1)) ?_
      refine pm_aald_n B dX7_auditMembers_34 ((pm_swS (z := z) (b := 2) (kA := kA)).2.1) rfl (pm_n (((d_X7_drawMembers w n r dr).2) j1)) (by first | assumption | omega) (by decide) (pm_mr_at (by first | assumption | omega)) ?_
      refine pm_astore B dX7_auditMembers_35 rfl rfl ?_
      refine pm_loc (L' := [some (.ref (z + 1)), some (.int (nI w)), some (.int a2_1), some (.int (nI j1)), some (.ref (z + (4 + (pm_n (((d_X7_drawMembers w n r dr).2) j1)))))]) rfl ?_
      refine pm_aload B dX7_auditMembers_37 rfl ?_
      refine pm_cV (As := []) (mc2 := 0) (ms2 := 0) B rfl ((pm_swS (z := z) (b := 2) (kA := kA)).2.2.1 (pm_n (((d_X7_drawMembers w n r dr).2) j1)) (by first | assumption | omega)) rfl (c_X6_isActive ((pm_swS (z := z) (b := 2) (kA := kA)).2.2.1 (pm_n (((d_X7_drawMembers w n r dr).2) j1)) (by first | assumption | omega))) mt_X6_isActive sv_X7_133 dX7_auditMembers_39 rfl rfl rfl rfl rfl ?_
      refine pm_stk (st' := [.int (if (r_1 (7 + 6 * (pm_n (((d_X7_drawMembers w n r dr).2) j1)) + 5)) = 0 then 1 else 0)]) rfl ?_
      refine pm_if_eq (tgt := 61) B dX7_auditMembers_42 (by decide) (fun hq4 => ?_) (fun hq4 => ?_)
      · have hq4p : ¬ ((r_1 (7 + 6 * (pm_n (((d_X7_drawMembers w n r dr).2) j1)) + 5)) = 0) := (pm_if01 _ _).mp hq4
        refine pm_iinc B dX7_auditMembers_61 rfl rfl rfl ?_
        refine pm_loc (L' := [some (.ref (z + 1)), some (.int (nI w)), some (.int a2_1), some (.int (nI (j1 + 1))), some (.ref (z + (4 + (pm_n (((d_X7_drawMembers w n r dr).2) j1)))))]) (by rw [show ((nI j1) : Int32) + Int32.ofInt 1 = (nI (j1 + 1)) from nI_1 _]; rfl) ?_
        refine pm_goto (tgt := 16) B dX7_auditMembers_64 (by decide) ?_
        refine pm_wk (L' := [some (.ref (z + 1)), some (.int (nI w)), some (.int a2_1), some (.int (nI (j1 + 1))), none]) ⟨rfl, ⟨rfl, ⟨rfl, ⟨rfl, trivial⟩⟩⟩⟩ ?_
        have hDq5 : (K1 ((d_X7_auditMembers_L1 w n r dr (k1 + 1) j1 a2_1 r_1).1) ((d_X7_auditMembers_L1 w n r dr (k1 + 1) j1 a2_1 r_1).2)) = (K1 ((d_X7_auditMembers_L1 w n r dr k1 (j1 + 1) a2_1 r_1).1) ((d_X7_auditMembers_L1 w n r dr k1 (j1 + 1) a2_1 r_1).2)) := by rw [d_X7_auditMembers_L1, if_neg hq4p]
        refine pm_pst (post' := pm_rt (some (.int ((K1 ((d_X7_auditMembers_L1 w n r dr k1 (j1 + 1) a2_1 r_1).1) ((d_X7_auditMembers_L1 w n r dr k1 (j1 + 1) a2_1 r_1).2)).1))) nx (pm_sw z kA 2 (pm_up M 16 (.inl (kA 0, 7, .inl ((K1 ((d_X7_auditMembers_L1 w n r dr k1 (j1 + 1) a2_1 r_1).1) ((d_X7_auditMembers_L1 w n r dr k1 (j1 + 1) a2_1 r_1).2)).2.2)))) ((K1 ((d_X7_auditMembers_L1 w n r dr k1 (j1 + 1) a2_1 r_1).1) ((d_X7_auditMembers_L1 w n r dr k1 (j1 + 1) a2_1 r_1).2)).2.1))) (by rw [hDq5]) ?_
        exact ih1 (j1 + 1) (by omega) a2_1 r_1 (hn_1)
      · have hq4p : ((r_1 (7 + 6 * (pm_n (((d_X7_drawMembers w n r dr).2) j1)) + 5)) = 0) := Decidable.not_not.mp (fun e => hq4 ((pm_if01 _ _).mpr e))
        refine pm_aload B dX7_auditMembers_45 rfl ?_
        refine pm_cV (As := []) (mc2 := 0) (ms2 := 0) B rfl ((pm_swS (z := z) (b := 2) (kA := kA)).2.2.1 (pm_n (((d_X7_drawMembers w n r dr).2) j1)) (by first | assumption | omega)) rfl (c_X6_unitsAbove ((pm_swS (z := z) (b := 2) (kA := kA)).2.2.1 (pm_n (((d_X7_drawMembers w n r dr).2) j1)) (by first | assumption | omega))) mt_X6_unitsAbove sv_X7_182 dX7_auditMembers_47 rfl rfl rfl rfl rfl ?_
        refine pm_stk (st' := [.int (pm_max 0 ((r_1 (7 + 6 * (pm_n (((d_X7_drawMembers w n r dr).2) j1)) + 3)) - (r_1 (7 + 6 * (pm_n (((d_X7_drawMembers w n r dr).2) j1)) + 2))))]) rfl ?_
        refine pm_if_le (tgt := 61) B dX7_auditMembers_50 (by decide) (fun hq6 => ?_) (fun hq6 => ?_)
        · refine pm_iinc B dX7_auditMembers_61 rfl rfl rfl ?_
          refine pm_loc (L' := [some (.ref (z + 1)), some (.int (nI w)), some (.int a2_1), some (.int (nI (j1 + 1))), some (.ref (z + (4 + (pm_n (((d_X7_drawMembers w n r dr).2) j1)))))]) (by rw [show ((nI j1) : Int32) + Int32.ofInt 1 = (nI (j1 + 1)) from nI_1 _]; rfl) ?_
          refine pm_goto (tgt := 16) B dX7_auditMembers_64 (by decide) ?_
          refine pm_wk (L' := [some (.ref (z + 1)), some (.int (nI w)), some (.int a2_1), some (.int (nI (j1 + 1))), none]) ⟨rfl, ⟨rfl, ⟨rfl, ⟨rfl, trivial⟩⟩⟩⟩ ?_
          have hDq7 : (K1 ((d_X7_auditMembers_L1 w n r dr (k1 + 1) j1 a2_1 r_1).1) ((d_X7_auditMembers_L1 w n r dr (k1 + 1) j1 a2_1 r_1).2)) = (K1 ((d_X7_auditMembers_L1 w n r dr k1 (j1 + 1) a2_1 r_1).1) ((d_X7_auditMembers_L1 w n r dr k1 (j1 + 1) a2_1 r_1).2)) := by rw [d_X7_auditMembers_L1, if_pos hq4p, if_pos hq6]
          refine pm_pst (post' := pm_rt (some (.int ((K1 ((d_X7_auditMembers_L1 w n r dr k1 (j1 + 1) a2_1 r_1).1) ((d_X7_auditMembers_L1 w n r dr k1 (j1 + 1) a2_1 r_1).2)).1))) nx (pm_sw z kA 2 (pm_up M 16 (.inl (kA 0, 7, .inl ((K1 ((d_X7_auditMembers_L1 w n r dr k1 (j1 + 1) a2_1 r_1).1) ((d_X7_auditMembers_L1 w n r dr k1 (j1 + 1) a2_1 r_1).2)).2.2)))) ((K1 ((d_X7_auditMembers_L1 w n r dr k1 (j1 + 1) a2_1 r_1).1) ((d_X7_auditMembers_L1 w n r dr k1 (j1 + 1) a2_1 r_1).2)).2.1))) (by rw [hDq7]) ?_
          exact ih1 (j1 + 1) (by omega) a2_1 r_1 (hn_1)
        · refine pm_aload B dX7_auditMembers_53 rfl ?_
          refine pm_cV (As := []) (mc2 := 0) (ms2 := 0) B rfl ((pm_swS (z := z) (b := 2) (kA := kA)).2.2.1 (pm_n (((d_X7_drawMembers w n r dr).2) j1)) (by first | assumption | omega)) rfl (c_X6_warn ((pm_swS (z := z) (b := 2) (kA := kA)).2.2.1 (pm_n (((d_X7_drawMembers w n r dr).2) j1)) (by first | assumption | omega))) mt_X6_warn sv_X7_200 dX7_auditMembers_55 rfl rfl rfl rfl rfl ?_
          refine pm_mem (M' := pm_sw z kA 2 (pm_up M 16 (.inl (kA 0, 7, .inl ((d_X7_drawMembers w n r dr).2)))) (upd (upd r_1 (7 + 6 * (pm_n (((d_X7_drawMembers w n r dr).2) j1)) + 4) (pm_wn1 (r_1 (7 + 6 * (pm_n (((d_X7_drawMembers w n r dr).2) j1)) + 4)))) (7 + 6 * (pm_n (((d_X7_drawMembers w n r dr).2) j1)) + 5) (pm_wn2 (r_1 (7 + 6 * (pm_n (((d_X7_drawMembers w n r dr).2) j1)) + 4)) (r_1 (7 + 6 * (pm_n (((d_X7_drawMembers w n r dr).2) j1)) + 5))))) (pm_sw_warn (i := (pm_n (((d_X7_drawMembers w n r dr).2) j1))) (by first | assumption | omega) (by omega)) ?_
          refine pm_stk (st' := []) rfl ?_
          refine pm_iinc B dX7_auditMembers_58 rfl rfl rfl ?_
          refine pm_loc (L' := [some (.ref (z + 1)), some (.int (nI w)), some (.int (a2_1 + Int32.ofInt 1)), some (.int (nI j1)), some (.ref (z + (4 + (pm_n (((d_X7_drawMembers w n r dr).2) j1)))))]) rfl ?_
          refine pm_iinc B dX7_auditMembers_61 rfl rfl rfl ?_
          refine pm_loc (L' := [some (.ref (z + 1)), some (.int (nI w)), some (.int (a2_1 + Int32.ofInt 1)), some (.int (nI (j1 + 1))), some (.ref (z + (4 + (pm_n (((d_X7_drawMembers w n r dr).2) j1)))))]) (by rw [show ((nI j1) : Int32) + Int32.ofInt 1 = (nI (j1 + 1)) from nI_1 _]; rfl) ?_
          refine pm_goto (tgt := 16) B dX7_auditMembers_64 (by decide) ?_
          refine pm_wk (L' := [some (.ref (z + 1)), some (.int (nI w)), some (.int (a2_1 + Int32.ofInt 1)), some (.int (nI (j1 + 1))), none]) ⟨rfl, ⟨rfl, ⟨rfl, ⟨rfl, trivial⟩⟩⟩⟩ ?_
          have hDq8 : (K1 ((d_X7_auditMembers_L1 w n r dr (k1 + 1) j1 a2_1 r_1).1) ((d_X7_auditMembers_L1 w n r dr (k1 + 1) j1 a2_1 r_1).2)) = (K1 ((d_X7_auditMembers_L1 w n r dr k1 (j1 + 1) (a2_1 + Int32.ofInt 1) (upd (upd r_1 (7 + 6 * (pm_n (((d_X7_drawMembers w n r dr).2) j1)) + 4) (pm_wn1 (r_1 (7 + 6 * (pm_n (((d_X7_drawMembers w n r dr).2) j1)) + 4)))) (7 + 6 * (pm_n (((d_X7_drawMembers w n r dr).2) j1)) + 5) (pm_wn2 (r_1 (7 + 6 * (pm_n (((d_X7_drawMembers w n r dr).2) j1)) + 4)) (r_1 (7 + 6 * (pm_n (((d_X7_drawMembers w n r dr).2) j1)) + 5))))).1) ((d_X7_auditMembers_L1 w n r dr k1 (j1 + 1) (a2_1 + Int32.ofInt 1) (upd (upd r_1 (7 + 6 * (pm_n (((d_X7_drawMembers w n r dr).2) j1)) + 4) (pm_wn1 (r_1 (7 + 6 * (pm_n (((d_X7_drawMembers w n r dr).2) j1)) + 4)))) (7 + 6 * (pm_n (((d_X7_drawMembers w n r dr).2) j1)) + 5) (pm_wn2 (r_1 (7 + 6 * (pm_n (((d_X7_drawMembers w n r dr).2) j1)) + 4)) (r_1 (7 + 6 * (pm_n (((d_X7_drawMembers w n r dr).2) j1)) + 5))))).2)) := by rw [d_X7_auditMembers_L1, if_pos hq4p, if_neg hq6]
          refine pm_pst (post' := pm_rt (some (.int ((K1 ((d_X7_auditMembers_L1 w n r dr k1 (j1 + 1) (a2_1 + Int32.ofInt 1) (upd (upd r_1 (7 + 6 * (pm_n (((d_X7_drawMembers w n r dr).2) j1)) + 4) (pm_wn1 (r_1 (7 + 6 * (pm_n (((d_X7_drawMembers w n r dr).2) j1)) + 4)))) (7 + 6 * (pm_n (((d_X7_drawMembers w n r dr).2) j1)) + 5) (pm_wn2 (r_1 (7 + 6 * (pm_n (((d_X7_drawMembers w n r dr).2) j1)) + 4)) (r_1 (7 + 6 * (pm_n (((d_X7_drawMembers w n r dr).2) j1)) + 5))))).1) ((d_X7_auditMembers_L1 w n r dr k1 (j1 + 1) (a2_1 + Int32.ofInt 1) (upd (upd r_1 (7 + 6 * (pm_n (((d_X7_drawMembers w n r dr).2) j1)) + 4) (pm_wn1 (r_1 (7 + 6 * (pm_n (((d_X7_drawMembers w n r dr).2) j1)) + 4)))) (7 + 6 * (pm_n (((d_X7_drawMembers w n r dr).2) j1)) + 5) (pm_wn2 (r_1 (7 + 6 * (pm_n (((d_X7_drawMembers w n r dr).2) j1)) + 4)) (r_1 (7 + 6 * (pm_n (((d_X7_drawMembers w n r dr).2) j1)) + 5))))).2)).1))) nx (pm_sw z kA 2 (pm_up M 16 (.inl (kA 0, 7, .inl ((K1 ((d_X7_auditMembers_L1 w n r dr k1 (j1 + 1) (a2_1 + Int32.ofInt 1) (upd (upd r_1 (7 + 6 * (pm_n (((d_X7_drawMembers w n r dr).2) j1)) + 4) (pm_wn1 (r_1 (7 + 6 * (pm_n (((d_X7_drawMembers w n r dr).2) j1)) + 4)))) (7 + 6 * (pm_n (((d_X7_drawMembers w n r dr).2) j1)) + 5) (pm_wn2 (r_1 (7 + 6 * (pm_n (((d_X7_drawMembers w n r dr).2) j1)) + 4)) (r_1 (7 + 6 * (pm_n (((d_X7_drawMembers w n r dr).2) j1)) + 5))))).1) ((d_X7_auditMembers_L1 w n r dr k1 (j1 + 1) (a2_1 + Int32.ofInt 1) (upd (upd r_1 (7 + 6 * (pm_n (((d_X7_drawMembers w n r dr).2) j1)) + 4) (pm_wn1 (r_1 (7 + 6 * (pm_n (((d_X7_drawMembers w n r dr).2) j1)) + 4)))) (7 + 6 * (pm_n (((d_X7_drawMembers w n r dr).2) j1)) + 5) (pm_wn2 (r_1 (7 + 6 * (pm_n (((d_X7_drawMembers w n r dr).2) j1)) + 4)) (r_1 (7 + 6 * (pm_n (((d_X7_drawMembers w n r dr).2) j1)) + 5))))).2)).2.2)))) ((K1 ((d_X7_auditMembers_L1 w n r dr k1 (j1 + 1) (a2_1 + Int32.ofInt 1) (upd (upd r_1 (7 + 6 * (pm_n (((d_X7_drawMembers w n r dr).2) j1)) + 4) (pm_wn1 (r_1 (7 + 6 * (pm_n (((d_X7_drawMembers w n r dr).2) j1)) + 4)))) (7 + 6 * (pm_n (((d_X7_drawMembers w n r dr).2) j1)) + 5) (pm_wn2 (r_1 (7 + 6 * (pm_n (((d_X7_drawMembers w n r dr).2) j1)) + 4)) (r_1 (7 + 6 * (pm_n (((d_X7_drawMembers w n r dr).2) j1)) + 5))))).1) ((d_X7_auditMembers_L1 w n r dr k1 (j1 + 1) (a2_1 + Int32.ofInt 1) (upd (upd r_1 (7 + 6 * (pm_n (((d_X7_drawMembers w n r dr).2) j1)) + 4) (pm_wn1 (r_1 (7 + 6 * (pm_n (((d_X7_drawMembers w n r dr).2) j1)) + 4)))) (7 + 6 * (pm_n (((d_X7_drawMembers w n r dr).2) j1)) + 5) (pm_wn2 (r_1 (7 + 6 * (pm_n (((d_X7_drawMembers w n r dr).2) j1)) + 4)) (r_1 (7 + 6 * (pm_n (((d_X7_drawMembers w n r dr).2) j1)) + 5))))).2)).2.1))) (by rw [hDq8]) ?_
          exact ih1 (j1 + 1) (by omega) (a2_1 + Int32.ofInt 1) (upd (upd r_1 (7 + 6 * (pm_n (((d_X7_drawMembers w n r dr).2) j1)) + 4) (pm_wn1 (r_1 (7 + 6 * (pm_n (((d_X7_drawMembers w n r dr).2) j1)) + 4)))) (7 + 6 * (pm_n (((d_X7_drawMembers w n r dr).2) j1)) + 5) (pm_wn2 (r_1 (7 + 6 * (pm_n (((d_X7_drawMembers w n r dr).2) j1)) + 4)) (r_1 (7 + 6 * (pm_n (((d_X7_drawMembers w n r dr).2) j1)) + 5)))) ((show (upd (upd r_1 (7 + 6 * (pm_n (((d_X7_drawMembers w n r dr).2) j1)) + 4) (pm_wn1 (r_1 (7 + 6 * (pm_n (((d_X7_drawMembers w n r dr).2) j1)) + 4)))) (7 + 6 * (pm_n (((d_X7_drawMembers w n r dr).2) j1)) + 5) (pm_wn2 (r_1 (7 + 6 * (pm_n (((d_X7_drawMembers w n r dr).2) j1)) + 4)) (r_1 (7 + 6 * (pm_n (((d_X7_drawMembers w n r dr).2) j1)) + 5)))) 0 = (nI n) from by rw [pk_un (show 0 ≠ 7 + 6 * (pm_n (((d_X7_drawMembers w n r dr).2) j1)) + 5 from (by omega)), pk_un (show 0 ≠ 7 + 6 * (pm_n (((d_X7_drawMembers w n r dr).2) j1)) + 4 from (by omega)), hn_1]))
  refine pm_pst (post' := pm_rt (some (.int ((((d_X7_auditMembers_L1 w n r dr w 0 0 (upd r 2 ((d_X7_drawMembers w n r dr).1))).1), ((d_X7_auditMembers_L1 w n r dr w 0 0 (upd r 2 ((d_X7_drawMembers w n r dr).1))).2), ((d_X7_drawMembers w n r dr).2)).1))) nx (pm_sw z kA 2 (pm_up M 16 (.inl (kA 0, 7, .inl ((((d_X7_auditMembers_L1 w n r dr w 0 0 (upd r 2 ((d_X7_drawMembers w n r dr).1))).1), ((d_X7_auditMembers_L1 w n r dr w 0 0 (upd r 2 ((d_X7_drawMembers w n r dr).1))).2), ((d_X7_drawMembers w n r dr).2)).2.2)))) ((((d_X7_auditMembers_L1 w n r dr w 0 0 (upd r 2 ((d_X7_drawMembers w n r dr).1))).1), ((d_X7_auditMembers_L1 w n r dr w 0 0 (upd r 2 ((d_X7_drawMembers w n r dr).1))).2), ((d_X7_drawMembers w n r dr).2)).2.1))) (by rw [show (d_X7_auditMembers w n r dr) = (((d_X7_auditMembers_L1 w n r dr w 0 0 (upd r 2 ((d_X7_drawMembers w n r dr).1))).1), ((d_X7_auditMembers_L1 w n r dr w 0 0 (upd r 2 ((d_X7_drawMembers w n r dr).1))).2), ((d_X7_drawMembers w n r dr).2)) from by rw [d_X7_auditMembers]]) ?_
  refine loop1 (fun (a2_1 : Int32) (r_1 : (Nat → Int32)) => (a2_1, r_1, ((d_X7_drawMembers w n r dr).2))) ?_ w 0 (by omega) 0 (upd r 2 ((d_X7_drawMembers w n r dr).1)) ((show (upd r 2 ((d_X7_drawMembers w n r dr).1)) 0 = (nI n) from by rw [pk_un (show 0 ≠ 2 from (by decide)), hn]))
  intro a2_1 r_1 hn_1
  refine pm_pst (post' := pm_rt (some (.int ((a2_1, r_1, ((d_X7_drawMembers w n r dr).2)).1))) nx (pm_sw z kA 2 (pm_up M 16 (.inl (kA 0, 7, .inl ((a2_1, r_1, ((d_X7_drawMembers w n r dr).2)).2.2)))) ((a2_1, r_1, ((d_X7_drawMembers w n r dr).2)).2.1))) rfl ?_
  refine pm_iload_n B dX7_auditMembers_67 rfl ?_
  have hDq9 : ((a2_1, r_1, ((d_X7_drawMembers w n r dr).2))) = (a2_1, r_1, ((d_X7_drawMembers w n r dr).2)) := rfl
  exact pm_ireturn B dX7_auditMembers_68 rfl (by first | rfl | (apply pm_nz; first | assumption | decide | exact pm_in01 _ _ _ | simp)) ⟨rfl, rfl, rfl⟩ rfl rfl
