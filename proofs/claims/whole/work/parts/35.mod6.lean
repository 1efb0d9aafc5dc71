/-! ThunderCartelModel: shares, means -/
theorem pm_max0 (x : Int32) : ¬ pm_max 0 x < 0 := by
  unfold pm_max
  split
  · rename_i h; exact fun e => absurd (Int32.lt_trans h e) Int32.lt_irrefl
  · exact Int32.lt_irrefl
theorem pm_mvN (g : Nat → Int32) (i : Nat) : pm_mv g i = nI (pm_n (pm_mv g i)) ∧ pm_n (pm_mv g i) < 2 ^ 31 := by
  obtain ⟨j, hj, he⟩ := nI_of (pm_max0 (g (7 + 5 * i + 3) - g (7 + 5 * i + 2)))
  have he' : pm_mv g i = nI j := he
  rw [he', pm_n_nI hj]
  exact ⟨rfl, hj⟩
/-- those counted so far; the one at m is among them -/
def pm_ct (m j : Nat) (a : Int32) : Prop := ∃ c, a = nI c ∧ c ≤ j ∧ (m < j → 0 < c)
theorem pm_ct0 (m : Nat) : pm_ct m 0 0 := ⟨0, rfl, by omega, by omega⟩
theorem pm_ct1 {m j : Nat} {a : Int32} (h : pm_ct m j a) : pm_ct m (j + 1) (a + 1) := by
  obtain ⟨c, rfl, hc, hm⟩ := h
  exact ⟨c + 1, nI_1 c, by omega, by omega⟩
theorem pm_ct2 {m j : Nat} {a : Int32} (h : pm_ct m j a) (hj : ¬ j = m) : pm_ct m (j + 1) (a + 0) := by
  obtain ⟨c, rfl, hc, hm⟩ := h
  refine ⟨c, by simp, by omega, fun h => hm (by omega)⟩
theorem pm_ctn {m j n : Nat} {a : Int32} (h : pm_ct m j a) (hj : j = n) (hn : n ≤ 7) (hm : m < n) : ¬ a = 0 := by
  obtain ⟨c, rfl, hc, h0⟩ := h
  intro e
  have h2 := h0 (by omega)
  have := (nI_eq (a := c) (b := 0) (by omega) (by decide)).mp e
  omega
theorem pm_ltne {g : Nat → Int32} {u m j : Nat} (h : ¬ pm_mv g m < nI u) (h2 : pm_mv g j < nI u) : ¬ j = m := by
  rintro rfl; exact h h2
def d_X13_share_L1  : Nat → Nat → Int32 → Int32
  | 0, _, a2_1 => a2_1
  | k1 + 1, j1, a2_1 => (d_X13_share_L1 k1 (j1 + 1) (a2_1 * (nI j1)))
def d_X13_share_L3 (g : Nat → Int32) (j2 : Nat) : Nat → Nat → Int32 → Int32
  | 0, _, a5_3 => a5_3
  | k3 + 1, j3, a5_3 => if (pm_mv g j3) < (nI j2) then (d_X13_share_L3 g j2 k3 (j3 + 1) (a5_3 + 0)) else (d_X13_share_L3 g j2 k3 (j3 + 1) (a5_3 + 1))
def d_X13_share_L2 (n : Nat) (g : Nat → Int32) (a2_1 : Int32) : Nat → Nat → Int32 → Int32
  | 0, _, a3_2 => a3_2
  | k2 + 1, j2, a3_2 => (d_X13_share_L2 n g a2_1 k2 (j2 + 1) (a3_2 + (a2_1 / (d_X13_share_L3 g j2 n 0 0))))
def d_X13_share (x : Int32) (n : Nat) (f : Nat → Int32) (g : Nat → Int32) : (Int32 × (Nat → Int32)) := if (pm_in x 0 (nI n - 1)) = 0 then (0, (upd f 6 (pm_th (pm_in x 0 (nI n - 1))))) else ((d_X13_share_L2 n g (d_X13_share_L1 ((2 + (n - 1)) - 2) 2 1) ((1 + pm_n (pm_mv g (pm_n x))) - 1) 1 0), (upd f 6 (pm_th (pm_in x 0 (nI n - 1)))))
set_option maxRecDepth 100000 in
set_option maxHeartbeats 8000000 in
theorem c_X13_share {l : Launch} {z : Nat} {D : va_G} {kA : Nat → ClassId} {kE : Nat → Nat} {nx : Nat} {M : pm_M} {x : Int32} {n : Nat}{m0 : Nat} {f : Nat → Int32} {g : Nat → Int32} (hM : M m0 = some (pm_mo z m0 f)) (hg : M (m0 + 1) = some (.inl (kA 0, 91, .inl g))) (hn : g 0 = nI n) (h7 : n ≤ 7) (hv : ∀ i, i < n → pm_n (pm_mv g i) < 1000) : pm_C l z D kA kE yX13_share cX13_share 7 (some .int) 3 0 0 [.ref (z + m0), .int x] nx M (pm_rt (some (.int ((d_X13_share x n f g).1))) nx (pm_up M m0 (pm_mo z m0 ((d_X13_share x n f g).2)))) := by
  refine pm_mk (own := RX13) (nm := "share") mt_X13_share rfl rfl rfl rfl fun X B => ?_
  refine pm_loc (L' := [some (.ref (z + m0)), some (.int x), none, none, none, none, none]) rfl ?_
  refine pm_mem (M' := pm_up M m0 (pm_mo z m0 f)) (by rw [pm_up_id hM]) ?_
  refine pm_aload_n B dX13_share_0 rfl ?_
  refine pm_aload_n B dX13_share_1 rfl ?_
  refine pm_iload_n B dX13_share_2 rfl ?_
  refine pm_cV (As := [.int x]) (mc2 := 0) (ms2 := 0) B rfl pm_up_s rfl (c_X13_isMember (f := f) pm_up_s ((pm_up_n (by omega)).trans hg)) mt_X13_isMember sv_X13_100 dX13_share_3 rfl rfl rfl rfl rfl ?_
  refine pm_stk (st' := [.int (pm_in x 0 (g 0 - 1)), .ref (z + m0)]) rfl ?_
  refine pm_stk (st' := [.int (pm_in x 0 (nI n - 1)), .ref (z + m0)]) (by rw [show (pm_in x 0 (g 0 - 1)) = (pm_in x 0 (nI n - 1)) from by rw [hn]]) ?_
  refine pm_cV (As := [.int (pm_in x 0 (nI n - 1))]) (mc2 := 0) (ms2 := 0) B rfl pm_up_s rfl (c_X13_isThere (f := f) (b := (pm_in x 0 (nI n - 1))) pm_up_s (by first | assumption | exact pm_in01 _ _ _ | decide | simp)) mt_X13_isThere sv_X13_107 dX13_share_6 rfl rfl rfl rfl rfl ?_
  refine pm_mem (M' := pm_up M m0 (pm_mo z m0 (upd f 6 (pm_th (pm_in x 0 (nI n - 1)))))) pm_up_up ?_
  refine pm_stk (st' := [.int (pm_in x 0 (nI n - 1))]) rfl ?_
  refine pm_if_ne (tgt := 14) B dX13_share_9 (by decide) (fun hq1 => ?_) (fun hq1 => ?_)
  · obtain ⟨he_x, hl_x⟩ := pm_in_nx h7 hq1
    refine pm_loc (L' := [some (.ref (z + m0)), some (.int (nI (pm_n x))), none, none, none, none, none]) (congrArg (fun yy : Int32 => ([some (.ref (z + m0)), some (.int yy), none, none, none, none, none] : List (Option Value))) he_x) ?_
    have hvx := hv _ hl_x
    refine pm_iconst (v := 1) B dX13_share_14 (by decide) ?_
    refine pm_istore_n B dX13_share_15 rfl rfl ?_
    refine pm_loc (L' := [some (.ref (z + m0)), some (.int (nI (pm_n x))), some (.int 1), none, none, none, none]) rfl ?_
    refine pm_iconst (v := 2) B dX13_share_16 (by decide) ?_
    refine pm_istore_n B dX13_share_17 rfl rfl ?_
    refine pm_loc (L' := [some (.ref (z + m0)), some (.int (nI (pm_n x))), some (.int 1), some (.int 2), none, none, none]) rfl ?_
    refine pm_loc (L' := [some (.ref (z + m0)), some (.int (nI (pm_n x))), some (.int 1), some (.int (nI 2)), none, none, none]) rfl ?_
    have loop1 : ∀ (K1 : (Int32 → (Int32 × (Nat → Int32)))), (∀ (a2_1 : Int32), pm_G l z D X 0 0 (pm_Q z D (pm_rt (some (.int ((K1 a2_1).1))) nx (pm_up M m0 (pm_mo z m0 ((K1 a2_1).2)))) 0 0 X) nx (pm_up M m0 (pm_mo z m0 (upd f 6 (pm_th (pm_in x 0 (nI n - 1)))))) 38 [some (.ref (z + m0)), some (.int (nI (pm_n x))), some (.int a2_1), none, none, none, none] []) → ∀ (k1 j1 : Nat), j1 + k1 = (2 + (n - 1)) → ∀ (a2_1 : Int32), pm_G l z D X 0 0 (pm_Q z D (pm_rt (some (.int ((K1 (d_X13_share_L1 k1 j1 a2_1)).1))) nx (pm_up M m0 (pm_mo z m0 ((K1 (d_X13_share_L1 k1 j1 a2_1)).2)))) 0 0 X) nx (pm_up M m0 (pm_mo z m0 (upd f 6 (pm_th (pm_in x 0 (nI n - 1)))))) 18 [some (.ref (z + m0)), some (.int (nI (pm_n x))), some (.int a2_1), some (.int (nI j1)), none, none, none] [] := by
      intro K1 hK1 k1
      induction k1 with
      | zero =>
        intro j1 hj1 a2_1
        have hjn1 : j1 = (2 + (n - 1)) := by omega
        refine pm_iload_n B dX13_share_18 rfl ?_
        refine pm_aload_n B dX13_share_19 rfl ?_
        refine pm_get B dX13_share_20 fl_X13_9 pm_up_s rfl ?_
        refine pm_stk (st' := [.ref (z + (m0 + 1)), .int (nI j1)]) rfl ?_
        refine pm_iconst (v := 0) B dX13_share_23 (by decide) ?_
        refine pm_iald_n B dX13_share_24 ((pm_up_n (by omega)).trans hg) 0 (by decide) (by decide) ?_
        refine pm_stk (st' := [.int (nI n), .int (nI j1)]) (by rw [show (g 0) = (nI n) from by rw [hn]]) ?_
        refine pm_icmp_gt (tgt := 38) B dX13_share_25 (by decide) (fun hq2 => ?_) (fun hq2 => absurd ((nI_ltI (by first | omega | decide) (by first | omega | decide)).mpr (by omega)) hq2)
        refine pm_wk (L' := [some (.ref (z + m0)), some (.int (nI (pm_n x))), some (.int a2_1), none, none, none, none]) ⟨rfl, ⟨rfl, ⟨rfl, trivial⟩⟩⟩ ?_
        have hDq3 : (K1 (d_X13_share_L1 0 j1 a2_1)) = (K1 a2_1) := by rw [d_X13_share_L1]
        refine pm_pst (post' := pm_rt (some (.int ((K1 a2_1).1))) nx (pm_up M m0 (pm_mo z m0 ((K1 a2_1).2)))) (by rw [hDq3]) ?_
        exact hK1 a2_1
      | succ k1 ih1 =>
        intro j1 hj1 a2_1
        have hjn1 : j1 < (2 + (n - 1)) := by omega
        refine pm_iload_n B dX13_share_18 rfl ?_
        refine pm_aload_n B dX13_share_19 rfl ?_
        refine pm_get B dX13_share_20 fl_X13_9 pm_up_s rfl ?_
        refine pm_stk (st' := [.ref (z + (m0 + 1)), .int (nI j1)]) rfl ?_
        refine pm_iconst (v := 0) B dX13_share_23 (by decide) ?_
        refine pm_iald_n B dX13_share_24 ((pm_up_n (by omega)).trans hg) 0 (by decide) (by decide) ?_
        refine pm_stk (st' := [.int (nI n), .int (nI j1)]) (by rw [show (g 0) = (nI n) from by rw [hn]]) ?_
        refine pm_icmp_gt (tgt := 38) B dX13_share_25 (by decide) (fun hq4 => absurd hq4 (fun e => absurd ((nI_ltI (by first | omega | decide) (by first | omega | decide)).mp e) (by omega))) (fun hq4 => ?_)
        refine pm_iload_n B dX13_share_28 rfl ?_
        refine pm_iload_n B dX13_share_29 rfl ?_
        refine pm_imul B dX13_share_30 ?_
        refine pm_istore_n B dX13_share_31 rfl rfl ?_
        refine pm_loc (L' := [some (.ref (z + m0)), some (.int (nI (pm_n x))), some (.int (a2_1 * (nI j1))), some (.int (nI j1)), none, none, none]) rfl ?_
        refine pm_iinc B dX13_share_32 rfl rfl rfl ?_
        refine pm_loc (L' := [some (.ref (z + m0)), some (.int (nI (pm_n x))), some (.int (a2_1 * (nI j1))), some (.int (nI (j1 + 1))), none, none, none]) (by rw [show ((nI j1) : Int32) + Int32.ofInt 1 = (nI (j1 + 1)) from nI_1 _]; rfl) ?_
        refine pm_goto (tgt := 18) B dX13_share_35 (by decide) ?_
        have hDq5 : (K1 (d_X13_share_L1 (k1 + 1) j1 a2_1)) = (K1 (d_X13_share_L1 k1 (j1 + 1) (a2_1 * (nI j1)))) := by rw [d_X13_share_L1]
        refine pm_pst (post' := pm_rt (some (.int ((K1 (d_X13_share_L1 k1 (j1 + 1) (a2_1 * (nI j1)))).1))) nx (pm_up M m0 (pm_mo z m0 ((K1 (d_X13_share_L1 k1 (j1 + 1) (a2_1 * (nI j1)))).2)))) (by rw [hDq5]) ?_
        exact ih1 (j1 + 1) (by omega) (a2_1 * (nI j1))
    refine pm_pst (post' := pm_rt (some (.int (((d_X13_share_L2 n g (d_X13_share_L1 ((2 + (n - 1)) - 2) 2 1) ((1 + pm_n (pm_mv g (pm_n x))) - 1) 1 0), (upd f 6 (pm_th (pm_in x 0 (nI n - 1))))).1))) nx (pm_up M m0 (pm_mo z m0 (((d_X13_share_L2 n g (d_X13_share_L1 ((2 + (n - 1)) - 2) 2 1) ((1 + pm_n (pm_mv g (pm_n x))) - 1) 1 0), (upd f 6 (pm_th (pm_in x 0 (nI n - 1))))).2)))) (by rw [show (d_X13_share x n f g) = ((d_X13_share_L2 n g (d_X13_share_L1 ((2 + (n - 1)) - 2) 2 1) ((1 + pm_n (pm_mv g (pm_n x))) - 1) 1 0), (upd f 6 (pm_th (pm_in x 0 (nI n - 1))))) from by rw [d_X13_share, if_neg hq1]]) ?_
    refine loop1 (fun (a2_1 : Int32) => ((d_X13_share_L2 n g a2_1 ((1 + pm_n (pm_mv g (pm_n x))) - 1) 1 0), (upd f 6 (pm_th (pm_in x 0 (nI n - 1)))))) ?_ ((2 + (n - 1)) - 2) 2 (by omega) 1
    intro a2_1
    refine pm_pst (post' := pm_rt (some (.int (((d_X13_share_L2 n g a2_1 ((1 + pm_n (pm_mv g (pm_n x))) - 1) 1 0), (upd f 6 (pm_th (pm_in x 0 (nI n - 1))))).1))) nx (pm_up M m0 (pm_mo z m0 (((d_X13_share_L2 n g a2_1 ((1 + pm_n (pm_mv g (pm_n x))) - 1) 1 0), (upd f 6 (pm_th (pm_in x 0 (nI n - 1))))).2)))) rfl ?_
    refine pm_iconst (v := 0) B dX13_share_38 (by decide) ?_
    refine pm_istore_n B dX13_share_39 rfl rfl ?_
    refine pm_loc (L' := [some (.ref (z + m0)), some (.int (nI (pm_n x))), some (.int a2_1), some (.int 0), none, none, none]) rfl ?_
    refine pm_iconst (v := 1) B dX13_share_40 (by decide) ?_
    refine pm_istore B dX13_share_41 rfl rfl ?_
    refine pm_loc (L' := [some (.ref (z + m0)), some (.int (nI (pm_n x))), some (.int a2_1), some (.int 0), some (.int 1), none, none]) rfl ?_
    refine pm_loc (L' := [some (.ref (z + m0)), some (.int (nI (pm_n x))), some (.int a2_1), some (.int 0), some (.int (nI 1)), none, none]) rfl ?_
    have loop2 : ∀ (K2 : (Int32 → (Int32 × (Nat → Int32)))), (∀ (a3_2 : Int32), pm_G l z D X 0 0 (pm_Q z D (pm_rt (some (.int ((K2 a3_2).1))) nx (pm_up M m0 (pm_mo z m0 ((K2 a3_2).2)))) 0 0 X) nx (pm_up M m0 (pm_mo z m0 (upd f 6 (pm_th (pm_in x 0 (nI n - 1)))))) 110 [none, none, none, some (.int a3_2), none, none, none] []) → ∀ (k2 j2 : Nat), j2 + k2 = (1 + pm_n (pm_mv g (pm_n x))) → ∀ (a3_2 : Int32), pm_G l z D X 0 0 (pm_Q z D (pm_rt (some (.int ((K2 (d_X13_share_L2 n g a2_1 k2 j2 a3_2)).1))) nx (pm_up M m0 (pm_mo z m0 ((K2 (d_X13_share_L2 n g a2_1 k2 j2 a3_2)).2)))) 0 0 X) nx (pm_up M m0 (pm_mo z m0 (upd f 6 (pm_th (pm_in x 0 (nI n - 1)))))) 43 [some (.ref (z + m0)), some (.int (nI (pm_n x))), some (.int a2_1), some (.int a3_2), some (.int (nI j2)), none, none] [] := by
      intro K2 hK2 k2
      induction k2 with
      | zero =>
        intro j2 hj2 a3_2
        have hjn2 : j2 = (1 + pm_n (pm_mv g (pm_n x))) := by omega
        refine pm_iload B dX13_share_43 rfl ?_
        refine pm_aload_n B dX13_share_45 rfl ?_
        refine pm_iload_n B dX13_share_46 rfl ?_
        refine pm_cV (As := [.int (nI (pm_n x))]) (mc2 := 0) (ms2 := 0) B rfl pm_up_s rfl (c_X13_over (f := (upd f 6 (pm_th (pm_in x 0 (nI n - 1))))) pm_up_s ((pm_up_n (by omega)).trans hg) (i := (pm_n x)) (by first | assumption | omega)) mt_X13_over sv_X13_117 dX13_share_47 rfl rfl rfl rfl rfl ?_
        refine pm_stk (st' := [.int (pm_mv g (pm_n x)), .int (nI j2)]) rfl ?_
        refine pm_stk (st' := [.int (nI (pm_n (pm_mv g (pm_n x)))), .int (nI j2)]) (congrArg (fun yy : Int32 => ([.int yy, .int (nI j2)] : List Value)) (show (pm_mv g (pm_n x)) = (nI (pm_n (pm_mv g (pm_n x)))) from (pm_mvN g (pm_n x)).1)) ?_
        refine pm_icmp_gt (tgt := 110) B dX13_share_50 (by decide) (fun hq6 => ?_) (fun hq6 => absurd ((nI_ltI (by first | omega | decide) (by first | omega | decide)).mpr (by omega)) hq6)
        refine pm_wk (L' := [none, none, none, some (.int a3_2), none, none, none]) ⟨rfl, trivial⟩ ?_
        have hDq7 : (K2 (d_X13_share_L2 n g a2_1 0 j2 a3_2)) = (K2 a3_2) := by rw [d_X13_share_L2]
        refine pm_pst (post' := pm_rt (some (.int ((K2 a3_2).1))) nx (pm_up M m0 (pm_mo z m0 ((K2 a3_2).2)))) (by rw [hDq7]) ?_
        exact hK2 a3_2
      | succ k2 ih2 =>
        intro j2 hj2 a3_2
        have hjn2 : j2 < (1 + pm_n (pm_mv g (pm_n x))) := by omega
        have hm2 : ¬ pm_mv g (pm_n x) < nI j2 := by rw [(pm_mvN g (pm_n x)).1, nI_ltI (by omega) (by omega)]; omega
        refine pm_iload B dX13_share_43 rfl ?_
        refine pm_aload_n B dX13_share_45 rfl ?_
        refine pm_iload_n B dX13_share_46 rfl ?_
        refine pm_cV (As := [.int (nI (pm_n x))]) (mc2 := 0) (ms2 := 0) B rfl pm_up_s rfl (c_X13_over (f := (upd f 6 (pm_th (pm_in x 0 (nI n - 1))))) pm_up_s ((pm_up_n (by omega)).trans hg) (i := (pm_n x)) (by first | assumption | omega)) mt_X13_over sv_X13_117 dX13_share_47 rfl rfl rfl rfl rfl ?_
        refine pm_stk (st' := [.int (pm_mv g (pm_n x)), .int (nI j2)]) rfl ?_
        refine pm_stk (st' := [.int (nI (pm_n (pm_mv g (pm_n x)))), .int (nI j2)]) (congrArg (fun yy : Int32 => ([.int yy, .int (nI j2)] : List Value)) (show (pm_mv g (pm_n x)) = (nI (pm_n (pm_mv g (pm_n x)))) from (pm_mvN g (pm_n x)).1)) ?_
        refine pm_icmp_gt (tgt := 110) B dX13_share_50 (by decide) (fun hq8 => absurd hq8 (fun e => absurd ((nI_ltI (by first | omega | decide) (by first | omega | decide)).mp e) (by omega))) (fun hq8 => ?_)
        refine pm_iconst (v := 0) B dX13_share_53 (by decide) ?_
        refine pm_istore B dX13_share_54 rfl rfl ?_
        refine pm_loc (L' := [some (.ref (z + m0)), some (.int (nI (pm_n x))), some (.int a2_1), some (.int a3_2), some (.int (nI j2)), some (.int 0), none]) rfl ?_
        refine pm_iconst (v := 0) B dX13_share_56 (by decide) ?_
        refine pm_istore B dX13_share_57 rfl rfl ?_
        refine pm_loc (L' := [some (.ref (z + m0)), some (.int (nI (pm_n x))), some (.int a2_1), some (.int a3_2), some (.int (nI j2)), some (.int 0), some (.int 0)]) rfl ?_
        refine pm_loc (L' := [some (.ref (z + m0)), some (.int (nI (pm_n x))), some (.int a2_1), some (.int a3_2), some (.int (nI j2)), some (.int 0), some (.int (nI 0))]) rfl ?_
        have loop3 : ∀ (K3 : (Int32 → (Int32 × (Nat → Int32)))), (∀ (a5_3 : Int32), (hc_3 : ¬ a5_3 = 0) → pm_G l z D X 0 0 (pm_Q z D (pm_rt (some (.int ((K3 a5_3).1))) nx (pm_up M m0 (pm_mo z m0 ((K3 a5_3).2)))) 0 0 X) nx (pm_up M m0 (pm_mo z m0 (upd f 6 (pm_th (pm_in x 0 (nI n - 1)))))) 97 [some (.ref (z + m0)), some (.int (nI (pm_n x))), some (.int a2_1), some (.int a3_2), some (.int (nI j2)), some (.int a5_3), none] []) → ∀ (k3 j3 : Nat), j3 + k3 = n → ∀ (a5_3 : Int32), (hc_3 : pm_ct (pm_n x) j3 a5_3) → pm_G l z D X 0 0 (pm_Q z D (pm_rt (some (.int ((K3 (d_X13_share_L3 g j2 k3 j3 a5_3)).1))) nx (pm_up M m0 (pm_mo z m0 ((K3 (d_X13_share_L3 g j2 k3 j3 a5_3)).2)))) 0 0 X) nx (pm_up M m0 (pm_mo z m0 (upd f 6 (pm_th (pm_in x 0 (nI n - 1)))))) 59 [some (.ref (z + m0)), some (.int (nI (pm_n x))), some (.int a2_1), some (.int a3_2), some (.int (nI j2)), some (.int a5_3), some (.int (nI j3))] [] := by
          intro K3 hK3 k3
          induction k3 with
          | zero =>
            intro j3 hj3 a5_3 hc_3
            have hjn3 : j3 = n := by omega
            refine pm_iload B dX13_share_59 rfl ?_
            refine pm_aload_n B dX13_share_61 rfl ?_
            refine pm_get B dX13_share_62 fl_X13_9 pm_up_s rfl ?_
            refine pm_stk (st' := [.ref (z + (m0 + 1)), .int (nI j3)]) rfl ?_
            refine pm_iconst (v := 0) B dX13_share_65 (by decide) ?_
            refine pm_iald_n B dX13_share_66 ((pm_up_n (by omega)).trans hg) 0 (by decide) (by decide) ?_
            refine pm_stk (st' := [.int (nI n), .int (nI j3)]) (by rw [show (g 0) = (nI n) from by rw [hn]]) ?_
            refine pm_icmp_ge (tgt := 97) B dX13_share_67 (by decide) (fun hq9 => ?_) (fun hq9 => absurd ((nI_leI (by first | omega | decide) (by first | omega | decide)).mpr (by omega)) hq9)
            refine pm_wk (L' := [some (.ref (z + m0)), some (.int (nI (pm_n x))), some (.int a2_1), some (.int a3_2), some (.int (nI j2)), some (.int a5_3), none]) ⟨rfl, ⟨rfl, ⟨rfl, ⟨rfl, ⟨rfl, ⟨rfl, trivial⟩⟩⟩⟩⟩⟩ ?_
            have hDq10 : (K3 (d_X13_share_L3 g j2 0 j3 a5_3)) = (K3 a5_3) := by rw [d_X13_share_L3]
            refine pm_pst (post' := pm_rt (some (.int ((K3 a5_3).1))) nx (pm_up M m0 (pm_mo z m0 ((K3 a5_3).2)))) (by rw [hDq10]) ?_
            exact hK3 a5_3 (pm_ctn hc_3 hjn3 h7 hl_x)
          | succ k3 ih3 =>
            intro j3 hj3 a5_3 hc_3
            have hjn3 : j3 < n := by omega
            refine pm_iload B dX13_share_59 rfl ?_
            refine pm_aload_n B dX13_share_61 rfl ?_
            refine pm_get B dX13_share_62 fl_X13_9 pm_up_s rfl ?_
            refine pm_stk (st' := [.ref (z + (m0 + 1)), .int (nI j3)]) rfl ?_
            refine pm_iconst (v := 0) B dX13_share_65 (by decide) ?_
            refine pm_iald_n B dX13_share_66 ((pm_up_n (by omega)).trans hg) 0 (by decide) (by decide) ?_
            refine pm_stk (st' := [.int (nI n), .int (nI j3)]) (by rw [show (g 0) = (nI n) from by rw [hn]]) ?_
            refine pm_icmp_ge (tgt := 97) B dX13_share_67 (by decide) (fun hq11 => absurd hq11 (fun e => absurd ((nI_leI (by first | omega | decide) (by first | omega | decide)).mp e) (by omega))) (fun hq11 => ?_)
            refine pm_iload B dX13_share_70 rfl ?_
            refine pm_aload_n B dX13_share_72 rfl ?_
            refine pm_iload B dX13_share_73 rfl ?_
            refine pm_cV (As := [.int (nI j3)]) (mc2 := 0) (ms2 := 0) B rfl pm_up_s rfl (c_X13_over (f := (upd f 6 (pm_th (pm_in x 0 (nI n - 1))))) pm_up_s ((pm_up_n (by omega)).trans hg) (i := j3) (by first | assumption | omega)) mt_X13_over sv_X13_117 dX13_share_75 rfl rfl rfl rfl rfl ?_
            refine pm_stk (st' := [.int (pm_mv g j3), .int a5_3]) rfl ?_
            refine pm_iload B dX13_share_78 rfl ?_
            refine pm_icmp_lt (tgt := 87) B dX13_share_80 (by decide) (fun hq12 => ?_) (fun hq12 => ?_)
            · refine pm_iconst (v := 0) B dX13_share_87 (by decide) ?_
              refine pm_iadd B dX13_share_88 ?_
              refine pm_istore B dX13_share_89 rfl rfl ?_
              refine pm_loc (L' := [some (.ref (z + m0)), some (.int (nI (pm_n x))), some (.int a2_1), some (.int a3_2), some (.int (nI j2)), some (.int (a5_3 + 0)), some (.int (nI j3))]) rfl ?_
              refine pm_iinc B dX13_share_91 rfl rfl rfl ?_
              refine pm_loc (L' := [some (.ref (z + m0)), some (.int (nI (pm_n x))), some (.int a2_1), some (.int a3_2), some (.int (nI j2)), some (.int (a5_3 + 0)), some (.int (nI (j3 + 1)))]) (by rw [show ((nI j3) : Int32) + Int32.ofInt 1 = (nI (j3 + 1)) from nI_1 _]; rfl) ?_
              refine pm_goto (tgt := 59) B dX13_share_94 (by decide) ?_
              have hDq13 : (K3 (d_X13_share_L3 g j2 (k3 + 1) j3 a5_3)) = (K3 (d_X13_share_L3 g j2 k3 (j3 + 1) (a5_3 + 0))) := by rw [d_X13_share_L3, if_pos hq12]
              refine pm_pst (post' := pm_rt (some (.int ((K3 (d_X13_share_L3 g j2 k3 (j3 + 1) (a5_3 + 0))).1))) nx (pm_up M m0 (pm_mo z m0 ((K3 (d_X13_share_L3 g j2 k3 (j3 + 1) (a5_3 + 0))).2)))) (by rw [hDq13]) ?_
              exact ih3 (j3 + 1) (by omega) (a5_3 + 0) ((by first | exact pm_ct0 _ | exact pm_ct1 hc_3 | exact pm_ct2 hc_3 (pm_ltne hm2 (by assumption))))
            · refine pm_iconst (v := 1) B dX13_share_83 (by decide) ?_
              refine pm_goto (tgt := 88) B dX13_share_84 (by decide) ?_
              refine pm_iadd B dX13_share_88 ?_
              refine pm_istore B dX13_share_89 rfl rfl ?_
              refine pm_loc (L' := [some (.ref (z + m0)), some (.int (nI (pm_n x))), some (.int a2_1), some (.int a3_2), some (.int (nI j2)), some (.int (a5_3 + 1)), some (.int (nI j3))]) rfl ?_
              refine pm_iinc B dX13_share_91 rfl rfl rfl ?_
              refine pm_loc (L' := [some (.ref (z + m0)), some (.int (nI (pm_n x))), some (.int a2_1), some (.int a3_2), some (.int (nI j2)), some (.int (a5_3 + 1)), some (.int (nI (j3 + 1)))]) (by rw [show ((nI j3) : Int32) + Int32.ofInt 1 = (nI (j3 + 1)) from nI_1 _]; rfl) ?_
              refine pm_goto (tgt := 59) B dX13_share_94 (by decide) ?_
              have hDq14 : (K3 (d_X13_share_L3 g j2 (k3 + 1) j3 a5_3)) = (K3 (d_X13_share_L3 g j2 k3 (j3 + 1) (a5_3 + 1))) := by rw [d_X13_share_L3, if_neg hq12]
              refine pm_pst (post' := pm_rt (some (.int ((K3 (d_X13_share_L3 g j2 k3 (j3 + 1) (a5_3 + 1))).1))) nx (pm_up M m0 (pm_mo z m0 ((K3 (d_X13_share_L3 g j2 k3 (j3 + 1) (a5_3 + 1))).2)))) (by rw [hDq14]) ?_
              exact ih3 (j3 + 1) (by omega) (a5_3 + 1) ((by first | exact pm_ct0 _ | exact pm_ct1 hc_3 | exact pm_ct2 hc_3 (pm_ltne hm2 (by assumption))))
        refine pm_pst (post' := pm_rt (some (.int ((K2 (d_X13_share_L2 n g a2_1 k2 (j2 + 1) (a3_2 + (a2_1 / (d_X13_share_L3 g j2 n 0 0))))).1))) nx (pm_up M m0 (pm_mo z m0 ((K2 (d_X13_share_L2 n g a2_1 k2 (j2 + 1) (a3_2 + (a2_1 / (d_X13_share_L3 g j2 n 0 0))))).2)))) (by rw [show (K2 (d_X13_share_L2 n g a2_1 (k2 + 1) j2 a3_2)) = (K2 (d_X13_share_L2 n g a2_1 k2 (j2 + 1) (a3_2 + (a2_1 / (d_X13_share_L3 g j2 n 0 0))))) from by rw [d_X13_share_L2]]) ?_
        refine loop3 (fun (a5_3 : Int32) => (K2 (d_X13_share_L2 n g a2_1 k2 (j2 + 1) (a3_2 + (a2_1 / a5_3))))) ?_ n 0 (by omega) 0 ((by first | exact pm_ct0 _ | exact pm_ct1 hc_3 | exact pm_ct2 hc_3 (pm_ltne hm2 (by assumption))))
        intro a5_3 hc_3
        refine pm_pst (post' := pm_rt (some (.int ((K2 (d_X13_share_L2 n g a2_1 k2 (j2 + 1) (a3_2 + (a2_1 / a5_3)))).1))) nx (pm_up M m0 (pm_mo z m0 ((K2 (d_X13_share_L2 n g a2_1 k2 (j2 + 1) (a3_2 + (a2_1 / a5_3)))).2)))) rfl ?_
        refine pm_iload_n B dX13_share_97 rfl ?_
        refine pm_iload_n B dX13_share_98 rfl ?_
        refine pm_iload B dX13_share_99 rfl ?_
        refine pm_idiv B dX13_share_101 (by first | decide | assumption) ?_
        refine pm_iadd B dX13_share_102 ?_
        refine pm_istore_n B dX13_share_103 rfl rfl ?_
        refine pm_loc (L' := [some (.ref (z + m0)), some (.int (nI (pm_n x))), some (.int a2_1), some (.int (a3_2 + (a2_1 / a5_3))), some (.int (nI j2)), some (.int a5_3), none]) rfl ?_
        refine pm_iinc B dX13_share_104 rfl rfl rfl ?_
        refine pm_loc (L' := [some (.ref (z + m0)), some (.int (nI (pm_n x))), some (.int a2_1), some (.int (a3_2 + (a2_1 / a5_3))), some (.int (nI (j2 + 1))), some (.int a5_3), none]) (by rw [show ((nI j2) : Int32) + Int32.ofInt 1 = (nI (j2 + 1)) from nI_1 _]; rfl) ?_
        refine pm_goto (tgt := 43) B dX13_share_107 (by decide) ?_
        refine pm_wk (L' := [some (.ref (z + m0)), some (.int (nI (pm_n x))), some (.int a2_1), some (.int (a3_2 + (a2_1 / a5_3))), some (.int (nI (j2 + 1))), none, none]) ⟨rfl, ⟨rfl, ⟨rfl, ⟨rfl, ⟨rfl, trivial⟩⟩⟩⟩⟩ ?_
        have hDq15 : ((K2 (d_X13_share_L2 n g a2_1 k2 (j2 + 1) (a3_2 + (a2_1 / a5_3))))) = (K2 (d_X13_share_L2 n g a2_1 k2 (j2 + 1) (a3_2 + (a2_1 / a5_3)))) := rfl
        refine pm_pst (post' := pm_rt (some (.int ((K2 (d_X13_share_L2 n g a2_1 k2 (j2 + 1) (a3_2 + (a2_1 / a5_3)))).1))) nx (pm_up M m0 (pm_mo z m0 ((K2 (d_X13_share_L2 n g a2_1 k2 (j2 + 1) (a3_2 + (a2_1 / a5_3)))).2)))) (by rw [hDq15]) ?_
        exact ih2 (j2 + 1) (by omega) (a3_2 + (a2_1 / a5_3))
    refine pm_pst (post' := pm_rt (some (.int (((d_X13_share_L2 n g a2_1 ((1 + pm_n (pm_mv g (pm_n x))) - 1) 1 0), (upd f 6 (pm_th (pm_in x 0 (nI n - 1))))).1))) nx (pm_up M m0 (pm_mo z m0 (((d_X13_share_L2 n g a2_1 ((1 + pm_n (pm_mv g (pm_n x))) - 1) 1 0), (upd f 6 (pm_th (pm_in x 0 (nI n - 1))))).2)))) (by rw [show (((d_X13_share_L2 n g a2_1 ((1 + pm_n (pm_mv g (pm_n x))) - 1) 1 0), (upd f 6 (pm_th (pm_in x 0 (nI n - 1)))))) = ((d_X13_share_L2 n g a2_1 ((1 + pm_n (pm_mv g (pm_n x))) - 1) 1 0), (upd f 6 (pm_th (pm_in x 0 (nI n - 1))))) from rfl]) ?_
    refine loop2 (fun (a3_2 : Int32) => (a3_2, (upd f 6 (pm_th (pm_in x 0 (nI n - 1)))))) ?_ ((1 + pm_n (pm_mv g (pm_n x))) - 1) 1 (by omega) 0
    intro a3_2
    refine pm_pst (post' := pm_rt (some (.int ((a3_2, (upd f 6 (pm_th (pm_in x 0 (nI n - 1))))).1))) nx (pm_up M m0 (pm_mo z m0 ((a3_2, (upd f 6 (pm_th (pm_in x 0 (nI n - 1))))).2)))) rfl ?_
    refine pm_iload_n B dX13_share_110 rfl ?_
    have hDq16 : ((a3_2, (upd f 6 (pm_th (pm_in x 0 (nI n - 1)))))) = (a3_2, (upd f 6 (pm_th (pm_in x 0 (nI n - 1))))) := rfl
    exact pm_ireturn B dX13_share_111 rfl (by first | rfl | (apply pm_nz; first | assumption | decide | exact pm_in01 _ _ _ | simp)) ⟨(by rw [hDq16]), rfl, by rw [hDq16]⟩ rfl rfl
  · refine pm_iconst (v := 0) B dX13_share_12 (by decide) ?_
    have hDq17 : (d_X13_share x n f g) = (0, (upd f 6 (pm_th (pm_in x 0 (nI n - 1))))) := by rw [d_X13_share, if_pos hq1]
    exact pm_ireturn B dX13_share_13 rfl (by first | rfl | (apply pm_nz; first | assumption | decide | exact pm_in01 _ _ _ | simp)) ⟨(by rw [hDq17]), rfl, by rw [hDq17]⟩ rfl rfl
def d_X13_shareBySteps (x : Int32) (n : Nat) (f : Nat → Int32) (g : Nat → Int32) : (Int32 × (Nat → Int32)) := (((d_X13_share x n f g).1), ((d_X13_share x n f g).2))
set_option maxRecDepth 100000 in
set_option maxHeartbeats 8000000 in
theorem c_X13_shareBySteps {l : Launch} {z : Nat} {D : va_G} {kA : Nat → ClassId} {kE : Nat → Nat} {nx : Nat} {M : pm_M} {x : Int32} {n : Nat}{m0 : Nat} {f : Nat → Int32} {g : Nat → Int32} (hM : M m0 = some (pm_mo z m0 f)) (hg : M (m0 + 1) = some (.inl (kA 0, 91, .inl g))) (hn : g 0 = nI n) (h7 : n ≤ 7) (hv : ∀ i, i < n → pm_n (pm_mv g i) < 1000) : pm_C l z D kA kE yX13_shareBySteps cX13_shareBySteps 2 (some .int) 4 0 0 [.ref (z + m0), .int x] nx M (pm_rt (some (.int ((d_X13_shareBySteps x n f g).1))) nx (pm_up M m0 (pm_mo z m0 ((d_X13_shareBySteps x n f g).2)))) := by
  refine pm_mk (own := RX13) (nm := "shareBySteps") mt_X13_shareBySteps rfl rfl rfl rfl fun X B => ?_
  refine pm_loc (L' := [some (.ref (z + m0)), some (.int x)]) rfl ?_
  refine pm_mem (M' := pm_up M m0 (pm_mo z m0 f)) (by rw [pm_up_id hM]) ?_
  refine pm_aload_n B dX13_shareBySteps_0 rfl ?_
  refine pm_iload_n B dX13_shareBySteps_1 rfl ?_
  refine pm_cV (As := [.int x]) (mc2 := 0) (ms2 := 0) B rfl pm_up_s rfl (c_X13_share (x := x) (n := n) (f := f) (g := g) pm_up_s ((pm_up_n (by omega)).trans hg) hn (by first | assumption | omega) (by assumption)) mt_X13_share sv_X13_199 dX13_shareBySteps_2 rfl rfl rfl rfl rfl ?_
  refine pm_mem (M' := pm_up (pm_up M m0 (pm_mo z m0 f)) m0 (pm_mo z m0 ((d_X13_share x n f g).2))) rfl ?_
  refine pm_mem (M' := pm_up M m0 (pm_mo z m0 ((d_X13_share x n f g).2))) (by rw [pm_up_up (a := m0)]) ?_
  refine pm_stk (st' := [.int ((d_X13_share x n f g).1)]) rfl ?_
  have hDq1 : (d_X13_shareBySteps x n f g) = (((d_X13_share x n f g).1), ((d_X13_share x n f g).2)) := by rw [d_X13_shareBySteps]
  exact pm_ireturn B dX13_shareBySteps_5 rfl (by first | rfl | (apply pm_nz; first | assumption | decide | exact pm_in01 _ _ _ | simp)) ⟨(by rw [hDq1]), rfl, by rw [hDq1]⟩ rfl rfl
theorem pm_le_ne {x : Int32} (h : ¬ x ≤ 0) : ¬ x = 0 := by
  rintro rfl; exact h (Int32.le_refl _)
def d_X13_meanSales_L1 (g : Nat → Int32) : Nat → Nat → Int32 → Int32
  | 0, _, a1_1 => a1_1
  | k1 + 1, j1, a1_1 => (d_X13_meanSales_L1 g k1 (j1 + 1) (a1_1 + (g (7 + 5 * j1 + 3))))
def d_X13_meanSales (n : Nat) (f : Nat → Int32) (g : Nat → Int32) : (UInt64 × (Nat → Int32)) := if (nI n) ≤ 0 then (FP.dconst0, (upd f 6 (pm_th 0))) else ((FP.ddiv (FP.i2d (d_X13_meanSales_L1 g n 0 0)) (FP.i2d (nI n))), (upd f 6 (pm_th 1)))
set_option maxRecDepth 100000 in
set_option maxHeartbeats 8000000 in
theorem c_X13_meanSales {l : Launch} {z : Nat} {D : va_G} {kA : Nat → ClassId} {kE : Nat → Nat} {nx : Nat} {M : pm_M} {n : Nat}{m0 : Nat} {f : Nat → Int32} {g : Nat → Int32} (hM : M m0 = some (pm_mo z m0 f)) (hg : M (m0 + 1) = some (.inl (kA 0, 91, .inl g))) (hn : g 0 = nI n) (h7 : n ≤ 7) (hnan : ∀ a b : Int32, ¬ b = 0 → vf_n64 (FP.ddiv (FP.i2d a) (FP.i2d b))) : pm_C l z D kA kE yX13_meanSales cX13_meanSales 3 (some .double) 2 0 0 [.ref (z + m0)] nx M (pm_rt (some (.double ((d_X13_meanSales n f g).1))) nx (pm_up M m0 (pm_mo z m0 ((d_X13_meanSales n f g).2)))) := by
  refine pm_mk (own := RX13) (nm := "meanSales") mt_X13_meanSales rfl rfl rfl rfl fun X B => ?_
  refine pm_loc (L' := [some (.ref (z + m0)), none, none]) rfl ?_
  refine pm_mem (M' := pm_up M m0 (pm_mo z m0 f)) (by rw [pm_up_id hM]) ?_
  refine pm_iconst (v := 0) B dX13_meanSales_0 (by decide) ?_
  refine pm_istore_n B dX13_meanSales_1 rfl rfl ?_
  refine pm_loc (L' := [some (.ref (z + m0)), some (.int 0), none]) rfl ?_
  refine pm_iconst (v := 0) B dX13_meanSales_2 (by decide) ?_
  refine pm_istore_n B dX13_meanSales_3 rfl rfl ?_
  refine pm_loc (L' := [some (.ref (z + m0)), some (.int 0), some (.int 0)]) rfl ?_
  refine pm_loc (L' := [some (.ref (z + m0)), some (.int 0), some (.int (nI 0))]) rfl ?_
  have loop1 : ∀ (K1 : (Int32 → (UInt64 × (Nat → Int32)))), (∀ (a1_1 : Int32), pm_G l z D X 0 0 (pm_Q z D (pm_rt (some (.double ((K1 a1_1).1))) nx (pm_up M m0 (pm_mo z m0 ((K1 a1_1).2)))) 0 0 X) nx (pm_up M m0 (pm_mo z m0 f)) 29 [some (.ref (z + m0)), some (.int a1_1), none] []) → ∀ (k1 j1 : Nat), j1 + k1 = n → ∀ (a1_1 : Int32), pm_G l z D X 0 0 (pm_Q z D (pm_rt (some (.double ((K1 (d_X13_meanSales_L1 g k1 j1 a1_1)).1))) nx (pm_up M m0 (pm_mo z m0 ((K1 (d_X13_meanSales_L1 g k1 j1 a1_1)).2)))) 0 0 X) nx (pm_up M m0 (pm_mo z m0 f)) 4 [some (.ref (z + m0)), some (.int a1_1), some (.int (nI j1))] [] := by
    intro K1 hK1 k1
    induction k1 with
    | zero =>
      intro j1 hj1 a1_1
      have hjn1 : j1 = n := by omega
      refine pm_iload_n B dX13_meanSales_4 rfl ?_
      refine pm_aload_n B dX13_meanSales_5 rfl ?_
      refine pm_get B dX13_meanSales_6 fl_X13_9 pm_up_s rfl ?_
      refine pm_iconst (v := 0) B dX13_meanSales_9 (by decide) ?_
      refine pm_iald_n B dX13_meanSales_10 ((pm_up_n (by omega)).trans hg) 0 (by decide) (by decide) ?_
      refine pm_stk (st' := [.int (nI n), .int (nI j1)]) (by rw [show (g 0) = (nI n) from by rw [hn]]) ?_
      refine pm_icmp_ge (tgt := 29) B dX13_meanSales_11 (by decide) (fun hq1 => ?_) (fun hq1 => absurd ((nI_leI (by first | omega | decide) (by first | omega | decide)).mpr (by omega)) hq1)
      refine pm_wk (L' := [some (.ref (z + m0)), some (.int a1_1), none]) ⟨rfl, ⟨rfl, trivial⟩⟩ ?_
      have hDq2 : (K1 (d_X13_meanSales_L1 g 0 j1 a1_1)) = (K1 a1_1) := by rw [d_X13_meanSales_L1]
      refine pm_pst (post' := pm_rt (some (.double ((K1 a1_1).1))) nx (pm_up M m0 (pm_mo z m0 ((K1 a1_1).2)))) (by rw [hDq2]) ?_
      exact hK1 a1_1
    | succ k1 ih1 =>
      intro j1 hj1 a1_1
      have hjn1 : j1 < n := by omega
      refine pm_iload_n B dX13_meanSales_4 rfl ?_
      refine pm_aload_n B dX13_meanSales_5 rfl ?_
      refine pm_get B dX13_meanSales_6 fl_X13_9 pm_up_s rfl ?_
      refine pm_iconst (v := 0) B dX13_meanSales_9 (by decide) ?_
      refine pm_iald_n B dX13_meanSales_10 ((pm_up_n (by omega)).trans hg) 0 (by decide) (by decide) ?_
      refine pm_stk (st' := [.int (nI n), .int (nI j1)]) (by rw [show (g 0) = (nI n) from by rw [hn]]) ?_
      refine pm_icmp_ge (tgt := 29) B dX13_meanSales_11 (by decide) (fun hq3 => absurd hq3 (fun e => absurd ((nI_leI (by first | omega | decide) (by first | omega | decide)).mp e) (by omega))) (fun hq3 => ?_)
      refine pm_iload_n B dX13_meanSales_14 rfl ?_
      refine pm_aload_n B dX13_meanSales_15 rfl ?_
      refine pm_iload_n B dX13_meanSales_16 rfl ?_
      refine pm_iconst (v := 3) B dX13_meanSales_17 (by decide) ?_
      refine pm_cV (As := [.int (nI j1), .int (nI 3)]) (mc2 := 0) (ms2 := 0) B rfl pm_up_s rfl (c_X13_of (f := f) pm_up_s ((pm_up_n (by omega)).trans hg) (i := j1) (w := 3) (by first | assumption | omega) (by first | assumption | omega)) mt_X13_of sv_X13_74 dX13_meanSales_18 rfl rfl rfl rfl rfl ?_
      refine pm_stk (st' := [.int (g (7 + 5 * j1 + 3)), .int a1_1]) rfl ?_
      refine pm_iadd B dX13_meanSales_21 ?_
      refine pm_istore_n B dX13_meanSales_22 rfl rfl ?_
      refine pm_loc (L' := [some (.ref (z + m0)), some (.int (a1_1 + (g (7 + 5 * j1 + 3)))), some (.int (nI j1))]) rfl ?_
      refine pm_iinc B dX13_meanSales_23 rfl rfl rfl ?_
      refine pm_loc (L' := [some (.ref (z + m0)), some (.int (a1_1 + (g (7 + 5 * j1 + 3)))), some (.int (nI (j1 + 1)))]) (by rw [show ((nI j1) : Int32) + Int32.ofInt 1 = (nI (j1 + 1)) from nI_1 _]; rfl) ?_
      refine pm_goto (tgt := 4) B dX13_meanSales_26 (by decide) ?_
      have hDq4 : (K1 (d_X13_meanSales_L1 g (k1 + 1) j1 a1_1)) = (K1 (d_X13_meanSales_L1 g k1 (j1 + 1) (a1_1 + (g (7 + 5 * j1 + 3))))) := by rw [d_X13_meanSales_L1]
      refine pm_pst (post' := pm_rt (some (.double ((K1 (d_X13_meanSales_L1 g k1 (j1 + 1) (a1_1 + (g (7 + 5 * j1 + 3))))).1))) nx (pm_up M m0 (pm_mo z m0 ((K1 (d_X13_meanSales_L1 g k1 (j1 + 1) (a1_1 + (g (7 + 5 * j1 + 3))))).2)))) (by rw [hDq4]) ?_
      exact ih1 (j1 + 1) (by omega) (a1_1 + (g (7 + 5 * j1 + 3)))
  refine pm_pst (post' := pm_rt (some (.double ((if (nI n) ≤ 0 then (FP.dconst0, (upd f 6 (pm_th 0))) else ((FP.ddiv (FP.i2d (d_X13_meanSales_L1 g n 0 0)) (FP.i2d (nI n))), (upd f 6 (pm_th 1)))).1))) nx (pm_up M m0 (pm_mo z m0 ((if (nI n) ≤ 0 then (FP.dconst0, (upd f 6 (pm_th 0))) else ((FP.ddiv (FP.i2d (d_X13_meanSales_L1 g n 0 0)) (FP.i2d (nI n))), (upd f 6 (pm_th 1)))).2)))) (by rw [show (d_X13_meanSales n f g) = if (nI n) ≤ 0 then (FP.dconst0, (upd f 6 (pm_th 0))) else ((FP.ddiv (FP.i2d (d_X13_meanSales_L1 g n 0 0)) (FP.i2d (nI n))), (upd f 6 (pm_th 1))) from by rw [d_X13_meanSales]]) ?_
  refine loop1 (fun (a1_1 : Int32) => if (nI n) ≤ 0 then (FP.dconst0, (upd f 6 (pm_th 0))) else ((FP.ddiv (FP.i2d a1_1) (FP.i2d (nI n))), (upd f 6 (pm_th 1)))) ?_ n 0 (by omega) 0
  intro a1_1
  refine pm_pst (post' := pm_rt (some (.double ((if (nI n) ≤ 0 then (FP.dconst0, (upd f 6 (pm_th 0))) else ((FP.ddiv (FP.i2d a1_1) (FP.i2d (nI n))), (upd f 6 (pm_th 1)))).1))) nx (pm_up M m0 (pm_mo z m0 ((if (nI n) ≤ 0 then (FP.dconst0, (upd f 6 (pm_th 0))) else ((FP.ddiv (FP.i2d a1_1) (FP.i2d (nI n))), (upd f 6 (pm_th 1)))).2)))) rfl ?_
  refine pm_aload_n B dX13_meanSales_29 rfl ?_
  refine pm_aload_n B dX13_meanSales_30 rfl ?_
  refine pm_get B dX13_meanSales_31 fl_X13_9 pm_up_s rfl ?_
  refine pm_iconst (v := 0) B dX13_meanSales_34 (by decide) ?_
  refine pm_iald_n B dX13_meanSales_35 ((pm_up_n (by omega)).trans hg) 0 (by decide) (by decide) ?_
  refine pm_stk (st' := [.int (nI n), .ref (z + m0)]) (by rw [show (g 0) = (nI n) from by rw [hn]]) ?_
  refine pm_if_le (tgt := 43) B dX13_meanSales_36 (by decide) (fun hq5 => ?_) (fun hq5 => ?_)
  · refine pm_iconst (v := 0) B dX13_meanSales_43 (by decide) ?_
    refine pm_cV (As := [.int 0]) (mc2 := 0) (ms2 := 0) B rfl pm_up_s rfl (c_X13_isThere (f := f) (b := 0) pm_up_s (by first | assumption | exact pm_in01 _ _ _ | decide | simp)) mt_X13_isThere sv_X13_107 dX13_meanSales_44 rfl rfl rfl rfl rfl ?_
    refine pm_mem (M' := pm_up M m0 (pm_mo z m0 (upd f 6 (pm_th 0)))) pm_up_up ?_
    refine pm_stk (st' := [.int 0]) rfl ?_
    refine pm_if_eq (tgt := 63) B dX13_meanSales_47 (by decide) (fun hq6 => ?_) (fun hq6 => absurd (by decide) hq6)
    refine pm_dconst0 B dX13_meanSales_63 ?_
    have hDq7 : (if (nI n) ≤ 0 then (FP.dconst0, (upd f 6 (pm_th 0))) else ((FP.ddiv (FP.i2d a1_1) (FP.i2d (nI n))), (upd f 6 (pm_th 1)))) = (FP.dconst0, (upd f 6 (pm_th 0))) := by rw [if_pos hq5]
    exact pm_dreturn B dX13_meanSales_64 rfl ⟨(by rw [hDq7]), rfl, by rw [hDq7]⟩ rfl rfl
  · refine pm_iconst (v := 1) B dX13_meanSales_39 (by decide) ?_
    refine pm_goto (tgt := 44) B dX13_meanSales_40 (by decide) ?_
    refine pm_cV (As := [.int 1]) (mc2 := 0) (ms2 := 0) B rfl pm_up_s rfl (c_X13_isThere (f := f) (b := 1) pm_up_s (by first | assumption | exact pm_in01 _ _ _ | decide | simp)) mt_X13_isThere sv_X13_107 dX13_meanSales_44 rfl rfl rfl rfl rfl ?_
    refine pm_mem (M' := pm_up M m0 (pm_mo z m0 (upd f 6 (pm_th 1)))) pm_up_up ?_
    refine pm_stk (st' := [.int 1]) rfl ?_
    refine pm_if_eq (tgt := 63) B dX13_meanSales_47 (by decide) (fun hq8 => absurd hq8 (by decide)) (fun hq8 => ?_)
    refine pm_iload_n B dX13_meanSales_50 rfl ?_
    refine pm_i2d B dX13_meanSales_51 ?_
    refine pm_aload_n B dX13_meanSales_52 rfl ?_
    refine pm_get B dX13_meanSales_53 fl_X13_9 pm_up_s rfl ?_
    refine pm_stk (st' := [.ref (z + (m0 + 1)), .double (FP.i2d a1_1)]) rfl ?_
    refine pm_iconst (v := 0) B dX13_meanSales_56 (by decide) ?_
    refine pm_iald_n B dX13_meanSales_57 ((pm_up_n (by omega)).trans hg) 0 (by decide) (by decide) ?_
    refine pm_stk (st' := [.int (nI n), .double (FP.i2d a1_1)]) (by rw [show (g 0) = (nI n) from by rw [hn]]) ?_
    refine pm_i2d B dX13_meanSales_58 ?_
    refine pm_ddiv B dX13_meanSales_59 (hnan _ _ (pm_le_ne (by assumption))) ?_
    refine pm_goto (tgt := 64) B dX13_meanSales_60 (by decide) ?_
    have hDq9 : (if (nI n) ≤ 0 then (FP.dconst0, (upd f 6 (pm_th 0))) else ((FP.ddiv (FP.i2d a1_1) (FP.i2d (nI n))), (upd f 6 (pm_th 1)))) = ((FP.ddiv (FP.i2d a1_1) (FP.i2d (nI n))), (upd f 6 (pm_th 1))) := by rw [if_neg hq5]
    exact pm_dreturn B dX13_meanSales_64 rfl ⟨(by rw [hDq9]), rfl, by rw [hDq9]⟩ rfl rfl
def d_X13_finedShare (f : Nat → Int32) (g : Nat → Int32) : (UInt32 × (Nat → Int32)) := if (g 5) ≤ 0 then (FP.fconst0, (upd f 6 (pm_th 0))) else ((FP.fdiv (FP.i2f (g 6)) (FP.i2f (g 5))), (upd f 6 (pm_th 1)))
set_option maxRecDepth 100000 in
set_option maxHeartbeats 8000000 in
theorem c_X13_finedShare {l : Launch} {z : Nat} {D : va_G} {kA : Nat → ClassId} {kE : Nat → Nat} {nx : Nat} {M : pm_M} {m0 : Nat} {f : Nat → Int32} {g : Nat → Int32} (hM : M m0 = some (pm_mo z m0 f)) (hg : M (m0 + 1) = some (.inl (kA 0, 91, .inl g))) (hnan : ∀ a b : Int32, ¬ b = 0 → vf_n32 (FP.fdiv (FP.i2f a) (FP.i2f b))) : pm_C l z D kA kE yX13_finedShare cX13_finedShare 1 (some .float) 2 0 0 [.ref (z + m0)] nx M (pm_rt (some (.float ((d_X13_finedShare f g).1))) nx (pm_up M m0 (pm_mo z m0 ((d_X13_finedShare f g).2)))) := by
  refine pm_mk (own := RX13) (nm := "finedShare") mt_X13_finedShare rfl rfl rfl rfl fun X B => ?_
  refine pm_loc (L' := [some (.ref (z + m0))]) rfl ?_
  refine pm_mem (M' := pm_up M m0 (pm_mo z m0 f)) (by rw [pm_up_id hM]) ?_
  refine pm_aload_n B dX13_finedShare_0 rfl ?_
  refine pm_aload_n B dX13_finedShare_1 rfl ?_
  refine pm_get B dX13_finedShare_2 fl_X13_9 pm_up_s rfl ?_
  refine pm_iconst (v := 5) B dX13_finedShare_5 (by decide) ?_
  refine pm_iald_n B dX13_finedShare_6 ((pm_up_n (by omega)).trans hg) 5 (by decide) (by decide) ?_
  refine pm_if_le (tgt := 14) B dX13_finedShare_7 (by decide) (fun hq1 => ?_) (fun hq1 => ?_)
  · refine pm_iconst (v := 0) B dX13_finedShare_14 (by decide) ?_
    refine pm_cV (As := [.int 0]) (mc2 := 0) (ms2 := 0) B rfl pm_up_s rfl (c_X13_isThere (f := f) (b := 0) pm_up_s (by first | assumption | exact pm_in01 _ _ _ | decide | simp)) mt_X13_isThere sv_X13_107 dX13_finedShare_15 rfl rfl rfl rfl rfl ?_
    refine pm_mem (M' := pm_up M m0 (pm_mo z m0 (upd f 6 (pm_th 0)))) pm_up_up ?_
    refine pm_stk (st' := [.int 0]) rfl ?_
    refine pm_if_eq (tgt := 40) B dX13_finedShare_18 (by decide) (fun hq2 => ?_) (fun hq2 => absurd (by decide) hq2)
    refine pm_fconst0 B dX13_finedShare_40 ?_
    have hDq3 : (d_X13_finedShare f g) = (FP.fconst0, (upd f 6 (pm_th 0))) := by rw [d_X13_finedShare, if_pos hq1]
    exact pm_freturn B dX13_finedShare_41 rfl ⟨(by rw [hDq3]), rfl, by rw [hDq3]⟩ rfl rfl
  · refine pm_iconst (v := 1) B dX13_finedShare_10 (by decide) ?_
    refine pm_goto (tgt := 15) B dX13_finedShare_11 (by decide) ?_
    refine pm_cV (As := [.int 1]) (mc2 := 0) (ms2 := 0) B rfl pm_up_s rfl (c_X13_isThere (f := f) (b := 1) pm_up_s (by first | assumption | exact pm_in01 _ _ _ | decide | simp)) mt_X13_isThere sv_X13_107 dX13_finedShare_15 rfl rfl rfl rfl rfl ?_
    refine pm_mem (M' := pm_up M m0 (pm_mo z m0 (upd f 6 (pm_th 1)))) pm_up_up ?_
    refine pm_stk (st' := [.int 1]) rfl ?_
    refine pm_if_eq (tgt := 40) B dX13_finedShare_18 (by decide) (fun hq4 => absurd hq4 (by decide)) (fun hq4 => ?_)
    refine pm_aload_n B dX13_finedShare_21 rfl ?_
    refine pm_get B dX13_finedShare_22 fl_X13_9 pm_up_s rfl ?_
    refine pm_stk (st' := [.ref (z + (m0 + 1))]) rfl ?_
    refine pm_bipush (v := 6) B dX13_finedShare_25 (by decide) ?_
    refine pm_iald_n B dX13_finedShare_27 ((pm_up_n (by omega)).trans hg) 6 (by decide) (by decide) ?_
    refine pm_i2f B dX13_finedShare_28 ?_
    refine pm_aload_n B dX13_finedShare_29 rfl ?_
    refine pm_get B dX13_finedShare_30 fl_X13_9 pm_up_s rfl ?_
    refine pm_stk (st' := [.ref (z + (m0 + 1)), .float (FP.i2f (g 6))]) rfl ?_
    refine pm_iconst (v := 5) B dX13_finedShare_33 (by decide) ?_
    refine pm_iald_n B dX13_finedShare_34 ((pm_up_n (by omega)).trans hg) 5 (by decide) (by decide) ?_
    refine pm_i2f B dX13_finedShare_35 ?_
    refine pm_fdiv B dX13_finedShare_36 (hnan _ _ (pm_le_ne (by assumption))) ?_
    refine pm_goto (tgt := 41) B dX13_finedShare_37 (by decide) ?_
    have hDq5 : (d_X13_finedShare f g) = ((FP.fdiv (FP.i2f (g 6)) (FP.i2f (g 5))), (upd f 6 (pm_th 1))) := by rw [d_X13_finedShare, if_neg hq1]
    exact pm_freturn B dX13_finedShare_41 rfl ⟨(by rw [hDq5]), rfl, by rw [hDq5]⟩ rfl rfl
theorem pm_n0 {x : Int32} (h : pm_n x = 0) : x ≤ 0 := by
  by_cases h0 : x < 0
  · exact Int32.le_of_lt h0
  · obtain ⟨j, hj, rfl⟩ := nI_of h0
    rw [pm_n_nI hj] at h
    subst h
    exact Int32.le_refl _
theorem pm_nP {x : Int32} {k : Nat} (h : pm_n x = k + 1) : ¬ x ≤ 0 ∧ pm_n (x + Int32.ofInt (-1)) = k := by
  have h0 : ¬ x < 0 := by
    intro h0
    have : pm_n x = 0 := by
      unfold pm_n Int32.toNatClampNeg
      have h1 : x.toInt < 0 := by simpa using Int32.lt_iff_toInt_lt.mp h0
      omega
    omega
  obtain ⟨j, hj, rfl⟩ := nI_of h0
  rw [pm_n_nI hj] at h
  subst h
  constructor
  · intro h1
    have := (nI_leI (a := k + 1) (b := 0) (by omega) (by decide)).mp h1
    omega
  · have : nI (k + 1) + Int32.ofInt (-1) = nI k := pk_m1 k
    rw [this, pm_n_nI (by omega)]
def pm_bst (n : Nat) (x : Int32) : Prop := x = -1 ∨ ∃ b, b < n ∧ x = nI b
theorem pm_bstN {n : Nat} {x : Int32} (h7 : n ≤ 7) (h : pm_bst n x) (h0 : ¬ x < 0) : x = nI (pm_n x) ∧ pm_n x < n := by
  rcases h with rfl | ⟨b, hb, rfl⟩
  · exact absurd (by decide) h0
  · rw [pm_n_nI (by omega)]; exact ⟨rfl, hb⟩
def d_X13_isFirst (i : Nat) (w : Nat) (t : Int32) (c : Int32) (r : Int32) (f : Nat → Int32) (g : Nat → Int32) (gq : Nat → Int32) : Int32 := if r = 0 then (if ((t * (g (7 + 5 * i + 0))) - (t * (g (7 + 5 * i + 0))) / c * c) ≤ ((t * (g (7 + 5 * w + 0))) - (t * (g (7 + 5 * w + 0))) / c * c) then 0 else 1) else (if ((g (7 + 5 * i + 0)) * ((gq w) + 1)) ≤ ((g (7 + 5 * w + 0)) * ((gq i) + 1)) then 0 else 1)
set_option maxRecDepth 100000 in
set_option maxHeartbeats 8000000 in
theorem c_X13_isFirst {l : Launch} {z : Nat} {D : va_G} {kA : Nat → ClassId} {kE : Nat → Nat} {nx : Nat} {M : pm_M} {i : Nat} {w : Nat} {t : Int32} {c : Int32} {r : Int32}{m0 : Nat} {f : Nat → Int32} {g : Nat → Int32} {gq : Nat → Int32} (hM : M m0 = some (pm_mo z m0 f)) (hg : M (m0 + 1) = some (.inl (kA 0, 91, .inl g))) (hgq : M (m0 + 5) = some (.inl (kA 0, 7, .inl gq))) (hi : i < 7) (hw : w < 7) (hc : ¬ c = 0) : pm_C l z D kA kE yX13_isFirst cX13_isFirst 6 (some .boolean) 2 0 0 [.ref (z + m0), .int (nI i), .int (nI w), .int t, .int c, .int r] nx M (pm_rt (some (.int (d_X13_isFirst i w t c r f g gq))) nx M) := by
  refine pm_mk (own := RX13) (nm := "isFirst") mt_X13_isFirst rfl rfl rfl rfl fun X B => ?_
  refine pm_loc (L' := [some (.ref (z + m0)), some (.int (nI i)), some (.int (nI w)), some (.int t), some (.int c), some (.int r)]) rfl ?_
  refine pm_iload B dX13_isFirst_0 rfl ?_
  refine pm_if_ne (tgt := 36) B dX13_isFirst_2 (by decide) (fun hq1 => ?_) (fun hq1 => ?_)
  · refine pm_aload_n B dX13_isFirst_36 rfl ?_
    refine pm_iload_n B dX13_isFirst_37 rfl ?_
    refine pm_iconst (v := 0) B dX13_isFirst_38 (by decide) ?_
    refine pm_cV (As := [.int (nI i), .int (nI 0)]) (mc2 := 0) (ms2 := 0) B rfl hM rfl (c_X13_of (f := f) hM hg (i := i) (w := 0) (by first | assumption | omega) (by first | assumption | omega)) mt_X13_of sv_X13_74 dX13_isFirst_39 rfl rfl rfl rfl rfl ?_
    refine pm_stk (st' := [.int (g (7 + 5 * i + 0))]) rfl ?_
    refine pm_aload_n B dX13_isFirst_42 rfl ?_
    refine pm_get B dX13_isFirst_43 fl_X13_22 hM rfl ?_
    refine pm_iload_n B dX13_isFirst_46 rfl ?_
    refine pm_iald_n B dX13_isFirst_47 hgq w (by first | assumption | omega) (by decide) ?_
    refine pm_iconst (v := 1) B dX13_isFirst_48 (by decide) ?_
    refine pm_iadd B dX13_isFirst_49 ?_
    refine pm_imul B dX13_isFirst_50 ?_
    refine pm_aload_n B dX13_isFirst_51 rfl ?_
    refine pm_iload_n B dX13_isFirst_52 rfl ?_
    refine pm_iconst (v := 0) B dX13_isFirst_53 (by decide) ?_
    refine pm_cV (As := [.int (nI w), .int (nI 0)]) (mc2 := 0) (ms2 := 0) B rfl hM rfl (c_X13_of (f := f) hM hg (i := w) (w := 0) (by first | assumption | omega) (by first | assumption | omega)) mt_X13_of sv_X13_74 dX13_isFirst_54 rfl rfl rfl rfl rfl ?_
    refine pm_stk (st' := [.int (g (7 + 5 * w + 0)), .int ((g (7 + 5 * i + 0)) * ((gq w) + 1))]) rfl ?_
    refine pm_aload_n B dX13_isFirst_57 rfl ?_
    refine pm_get B dX13_isFirst_58 fl_X13_22 hM rfl ?_
    refine pm_iload_n B dX13_isFirst_61 rfl ?_
    refine pm_iald_n B dX13_isFirst_62 hgq i (by first | assumption | omega) (by decide) ?_
    refine pm_iconst (v := 1) B dX13_isFirst_63 (by decide) ?_
    refine pm_iadd B dX13_isFirst_64 ?_
    refine pm_imul B dX13_isFirst_65 ?_
    refine pm_icmp_le (tgt := 73) B dX13_isFirst_66 (by decide) (fun hq2 => ?_) (fun hq2 => ?_)
    · refine pm_iconst (v := 0) B dX13_isFirst_73 (by decide) ?_
      have hDq3 : (d_X13_isFirst i w t c r f g gq) = 0 := by rw [d_X13_isFirst, if_neg hq1, if_pos hq2]
      exact pm_ireturn B dX13_isFirst_74 rfl (by first | rfl | (apply pm_nz; first | assumption | decide | exact pm_in01 _ _ _ | simp)) ⟨(by rw [hDq3]), rfl, rfl⟩ rfl rfl
    · refine pm_iconst (v := 1) B dX13_isFirst_69 (by decide) ?_
      refine pm_goto (tgt := 74) B dX13_isFirst_70 (by decide) ?_
      have hDq4 : (d_X13_isFirst i w t c r f g gq) = 1 := by rw [d_X13_isFirst, if_neg hq1, if_neg hq2]
      exact pm_ireturn B dX13_isFirst_74 rfl (by first | rfl | (apply pm_nz; first | assumption | decide | exact pm_in01 _ _ _ | simp)) ⟨(by rw [hDq4]), rfl, rfl⟩ rfl rfl
  · refine pm_iload_n B dX13_isFirst_5 rfl ?_
    refine pm_aload_n B dX13_isFirst_6 rfl ?_
    refine pm_iload_n B dX13_isFirst_7 rfl ?_
    refine pm_iconst (v := 0) B dX13_isFirst_8 (by decide) ?_
    refine pm_cV (As := [.int (nI i), .int (nI 0)]) (mc2 := 0) (ms2 := 0) B rfl hM rfl (c_X13_of (f := f) hM hg (i := i) (w := 0) (by first | assumption | omega) (by first | assumption | omega)) mt_X13_of sv_X13_74 dX13_isFirst_9 rfl rfl rfl rfl rfl ?_
    refine pm_stk (st' := [.int (g (7 + 5 * i + 0)), .int t]) rfl ?_
    refine pm_imul B dX13_isFirst_12 ?_
    refine pm_iload B dX13_isFirst_13 rfl ?_
    refine pm_irem B dX13_isFirst_15 (by first | decide | assumption) ?_
    refine pm_iload_n B dX13_isFirst_16 rfl ?_
    refine pm_aload_n B dX13_isFirst_17 rfl ?_
    refine pm_iload_n B dX13_isFirst_18 rfl ?_
    refine pm_iconst (v := 0) B dX13_isFirst_19 (by decide) ?_
    refine pm_cV (As := [.int (nI w), .int (nI 0)]) (mc2 := 0) (ms2 := 0) B rfl hM rfl (c_X13_of (f := f) hM hg (i := w) (w := 0) (by first | assumption | omega) (by first | assumption | omega)) mt_X13_of sv_X13_74 dX13_isFirst_20 rfl rfl rfl rfl rfl ?_
    refine pm_stk (st' := [.int (g (7 + 5 * w + 0)), .int t, .int ((t * (g (7 + 5 * i + 0))) - (t * (g (7 + 5 * i + 0))) / c * c)]) rfl ?_
    refine pm_imul B dX13_isFirst_23 ?_
    refine pm_iload B dX13_isFirst_24 rfl ?_
    refine pm_irem B dX13_isFirst_26 (by first | decide | assumption) ?_
    refine pm_icmp_le (tgt := 34) B dX13_isFirst_27 (by decide) (fun hq5 => ?_) (fun hq5 => ?_)
    · refine pm_iconst (v := 0) B dX13_isFirst_34 (by decide) ?_
      have hDq6 : (d_X13_isFirst i w t c r f g gq) = 0 := by rw [d_X13_isFirst, if_pos hq1, if_pos hq5]
      exact pm_ireturn B dX13_isFirst_35 rfl (by first | rfl | (apply pm_nz; first | assumption | decide | exact pm_in01 _ _ _ | simp)) ⟨(by rw [hDq6]), rfl, rfl⟩ rfl rfl
    · refine pm_iconst (v := 1) B dX13_isFirst_30 (by decide) ?_
      refine pm_goto (tgt := 35) B dX13_isFirst_31 (by decide) ?_
      have hDq7 : (d_X13_isFirst i w t c r f g gq) = 1 := by rw [d_X13_isFirst, if_pos hq1, if_neg hq5]
      exact pm_ireturn B dX13_isFirst_35 rfl (by first | rfl | (apply pm_nz; first | assumption | decide | exact pm_in01 _ _ _ | simp)) ⟨(by rw [hDq7]), rfl, rfl⟩ rfl rfl
def d_X13_apportions_L1 (g : Nat → Int32) : Nat → Nat → Int32 → (Nat → Int32) → (Int32 × (Nat → Int32))
  | 0, _, a3_1, gq_1 => (a3_1, gq_1)
  | k1 + 1, j1, a3_1, gq_1 => if (pm_ib g j1) = 0 then (d_X13_apportions_L1 g k1 (j1 + 1) (a3_1 + (g (7 + 5 * j1 + 0))) (upd gq_1 j1 0)) else (d_X13_apportions_L1 g k1 (j1 + 1) (a3_1 + 0) (upd gq_1 j1 0))
def d_X13_apportions_L2 (x : Int32) (y : Int32) (g : Nat → Int32) (a3_1 : Int32) : Nat → Nat → Int32 → (Nat → Int32) → (Int32 × (Nat → Int32))
  | 0, _, a4_2, gq_2 => (a4_2, gq_2)
  | k2 + 1, j2, a4_2, gq_2 => if y = 0 then (if (pm_ib g j2) = 0 then (d_X13_apportions_L2 x y g a3_1 k2 (j2 + 1) (a4_2 - ((x * (g (7 + 5 * j2 + 0))) / a3_1)) (upd gq_2 j2 ((x * (g (7 + 5 * j2 + 0))) / a3_1))) else (d_X13_apportions_L2 x y g a3_1 k2 (j2 + 1) (a4_2 - 0) (upd gq_2 j2 0))) else (a4_2, gq_2)
def d_X13_apportions_L4 (x : Int32) (y : Int32) (f : Nat → Int32) (g : Nat → Int32) (a3_1 : Int32) (a5_3 : Int32) (gq_3 : Nat → Int32) : Nat → Nat → Int32 → Int32
  | 0, _, a6_4 => a6_4
  | k4 + 1, j4, a6_4 => if (pm_ib g j4) = 0 then (if ((a5_3 >>> ((nI j4) &&& 31)) &&& 1) = 0 then (if a6_4 < 0 then (d_X13_apportions_L4 x y f g a3_1 a5_3 gq_3 k4 (j4 + 1) (nI j4)) else (if (d_X13_isFirst j4 (pm_n a6_4) x a3_1 y f g gq_3) = 0 then (d_X13_apportions_L4 x y f g a3_1 a5_3 gq_3 k4 (j4 + 1) a6_4) else (d_X13_apportions_L4 x y f g a3_1 a5_3 gq_3 k4 (j4 + 1) (nI j4)))) else (d_X13_apportions_L4 x y f g a3_1 a5_3 gq_3 k4 (j4 + 1) a6_4)) else (d_X13_apportions_L4 x y f g a3_1 a5_3 gq_3 k4 (j4 + 1) a6_4)
def d_X13_apportions_L3 (x : Int32) (y : Int32) (n : Nat) (f : Nat → Int32) (g : Nat → Int32) (a3_1 : Int32) : Nat → Int32 → Int32 → (Nat → Int32) → (Int32 × Int32 × (Nat → Int32))
  | 0, a4_3, a5_3, gq_3 => (a4_3, a5_3, gq_3)
  | k3 + 1, a4_3, a5_3, gq_3 => if y = 0 then (d_X13_apportions_L3 x y n f g a3_1 k3 (a4_3 + Int32.ofInt (-1)) (a5_3 ||| (1 <<< ((nI (pm_n (d_X13_apportions_L4 x y f g a3_1 a5_3 gq_3 n 0 (-1)))) &&& 31))) (upd gq_3 (pm_n (d_X13_apportions_L4 x y f g a3_1 a5_3 gq_3 n 0 (-1))) ((gq_3 (pm_n (d_X13_apportions_L4 x y f g a3_1 a5_3 gq_3 n 0 (-1)))) + 1))) else (d_X13_apportions_L3 x y n f g a3_1 k3 (a4_3 + Int32.ofInt (-1)) (a5_3 ||| 0) (upd gq_3 (pm_n (d_X13_apportions_L4 x y f g a3_1 a5_3 gq_3 n 0 (-1))) ((gq_3 (pm_n (d_X13_apportions_L4 x y f g a3_1 a5_3 gq_3 n 0 (-1)))) + 1)))
/-- each unit finds a member -/
def pm_apS (x y : Int32) (n : Nat) (f g : Nat → Int32) (a3_1 : Int32) : Nat → Int32 → (Nat → Int32) → Prop
  | 0, _, _ => True
  | k + 1, a5_3, gq_3 => let b := (d_X13_apportions_L4 x y f g a3_1 a5_3 gq_3 n 0 (-1)); ¬ b < 0 ∧ pm_apS x y n f g a3_1 k (if y = 0 then a5_3 ||| ((1 : Int32) <<< ((nI (pm_n b)) &&& 31)) else a5_3 ||| 0) (upd gq_3 (pm_n b) (gq_3 (pm_n b) + 1))
def pm_apOK (x y : Int32) (n : Nat) (f g gq : Nat → Int32) : Prop := ∀ a q a2 q2, (a, q) = d_X13_apportions_L1 g n 0 0 gq → ¬ a = 0 → (a2, q2) = d_X13_apportions_L2 x y g a n 0 x q → pm_apS x y n f g a (pm_n a2) 0 q2
def d_X13_apportions (x : Int32) (y : Int32) (n : Nat) (f : Nat → Int32) (g : Nat → Int32) (gq : Nat → Int32) : (Nat → Int32) := if ((d_X13_apportions_L1 g n 0 0 gq).1) = 0 then ((d_X13_apportions_L1 g n 0 0 gq).2) else ((d_X13_apportions_L3 x y n f g ((d_X13_apportions_L1 g n 0 0 gq).1) (pm_n ((d_X13_apportions_L2 x y g ((d_X13_apportions_L1 g n 0 0 gq).1) n 0 x ((d_X13_apportions_L1 g n 0 0 gq).2)).1)) ((d_X13_apportions_L2 x y g ((d_X13_apportions_L1 g n 0 0 gq).1) n 0 x ((d_X13_apportions_L1 g n 0 0 gq).2)).1) 0 ((d_X13_apportions_L2 x y g ((d_X13_apportions_L1 g n 0 0 gq).1) n 0 x ((d_X13_apportions_L1 g n 0 0 gq).2)).2)).2.2)
set_option maxRecDepth 100000 in
set_option maxHeartbeats 8000000 in
theorem c_X13_apportions {l : Launch} {z : Nat} {D : va_G} {kA : Nat → ClassId} {kE : Nat → Nat} {nx : Nat} {M : pm_M} {x : Int32} {y : Int32} {n : Nat}{m0 : Nat} {f : Nat → Int32} {g : Nat → Int32} {gq : Nat → Int32} (hM : M m0 = some (pm_mo z m0 f)) (hg : M (m0 + 1) = some (.inl (kA 0, 91, .inl g))) (hgq : M (m0 + 5) = some (.inl (kA 0, 7, .inl gq))) (hn : g 0 = nI n) (h7 : n ≤ 7) (hOK : pm_apOK x y n f g gq) : pm_C l z D kA kE yX13_apportions cX13_apportions 9 none 3 0 0 [.ref (z + m0), .int x, .int y] nx M (pm_rt none nx (pm_up M (m0 + 5) (.inl (kA 0, 7, .inl (d_X13_apportions x y n f g gq))))) := by
  refine pm_mk (own := RX13) (nm := "apportions") mt_X13_apportions rfl rfl rfl rfl fun X B => ?_
  refine pm_loc (L' := [some (.ref (z + m0)), some (.int x), some (.int y), none, none, none, none, none, none]) rfl ?_
  refine pm_mem (M' := pm_up M (m0 + 5) (.inl (kA 0, 7, .inl gq))) (by rw [pm_up_id hgq]) ?_
  obtain ⟨gq0, hgq0⟩ : ∃ q, q = gq := ⟨_, rfl⟩
  refine pm_iconst (v := 0) B dX13_apportions_0 (by decide) ?_
  refine pm_istore_n B dX13_apportions_1 rfl rfl ?_
  refine pm_loc (L' := [some (.ref (z + m0)), some (.int x), some (.int y), some (.int 0), none, none, none, none, none]) rfl ?_
  refine pm_iconst (v := 0) B dX13_apportions_2 (by decide) ?_
  refine pm_istore B dX13_apportions_3 rfl rfl ?_
  refine pm_loc (L' := [some (.ref (z + m0)), some (.int x), some (.int y), some (.int 0), some (.int 0), none, none, none, none]) rfl ?_
  refine pm_loc (L' := [some (.ref (z + m0)), some (.int x), some (.int y), some (.int 0), some (.int (nI 0)), none, none, none, none]) rfl ?_
  have loop1 : ∀ (K1 : (Int32 → (Nat → Int32) → (Nat → Int32))), (∀ (a3_1 : Int32) (gq_1 : (Nat → Int32)), (he_1 : (a3_1, gq_1) = d_X13_apportions_L1 g n 0 0 gq0) → pm_G l z D X 0 0 (pm_Q z D (pm_rt none nx (pm_up M (m0 + 5) (.inl (kA 0, 7, .inl (K1 a3_1 gq_1))))) 0 0 X) nx (pm_up M (m0 + 5) (.inl (kA 0, 7, .inl gq_1))) 53 [some (.ref (z + m0)), some (.int x), some (.int y), some (.int a3_1), none, none, none, none, none] []) → ∀ (k1 j1 : Nat), j1 + k1 = n → ∀ (a3_1 : Int32) (gq_1 : (Nat → Int32)), (he_1 : d_X13_apportions_L1 g k1 j1 a3_1 gq_1 = d_X13_apportions_L1 g n 0 0 gq0) → pm_G l z D X 0 0 (pm_Q z D (pm_rt none nx (pm_up M (m0 + 5) (.inl (kA 0, 7, .inl (K1 ((d_X13_apportions_L1 g k1 j1 a3_1 gq_1).1) ((d_X13_apportions_L1 g k1 j1 a3_1 gq_1).2)))))) 0 0 X) nx (pm_up M (m0 + 5) (.inl (kA 0, 7, .inl gq_1))) 5 [some (.ref (z + m0)), some (.int x), some (.int y), some (.int a3_1), some (.int (nI j1)), none, none, none, none] [] := by
    intro K1 hK1 k1
    induction k1 with
    | zero =>
      intro j1 hj1 a3_1 gq_1 he_1
      have hjn1 : j1 = n := by omega
      refine pm_iload B dX13_apportions_5 rfl ?_
      refine pm_aload_n B dX13_apportions_7 rfl ?_
      refine pm_get B dX13_apportions_8 fl_X13_9 ((pm_up_n (by omega)).trans hM) rfl ?_
      refine pm_iconst (v := 0) B dX13_apportions_11 (by decide) ?_
      refine pm_iald_n B dX13_apportions_12 ((pm_up_n (by omega)).trans hg) 0 (by decide) (by decide) ?_
      refine pm_stk (st' := [.int (nI n), .int (nI j1)]) (by rw [show (g 0) = (nI n) from by rw [hn]]) ?_
      refine pm_icmp_ge (tgt := 53) B dX13_apportions_13 (by decide) (fun hq1 => ?_) (fun hq1 => absurd ((nI_leI (by first | omega | decide) (by first | omega | decide)).mpr (by omega)) hq1)
      refine pm_wk (L' := [some (.ref (z + m0)), some (.int x), some (.int y), some (.int a3_1), none, none, none, none, none]) ⟨rfl, ⟨rfl, ⟨rfl, ⟨rfl, trivial⟩⟩⟩⟩ ?_
      have hDq2 : (K1 ((d_X13_apportions_L1 g 0 j1 a3_1 gq_1).1) ((d_X13_apportions_L1 g 0 j1 a3_1 gq_1).2)) = (K1 a3_1 gq_1) := by rw [d_X13_apportions_L1]
      refine pm_pst (post' := pm_rt none nx (pm_up M (m0 + 5) (.inl (kA 0, 7, .inl (K1 a3_1 gq_1))))) (by rw [hDq2]) ?_
      exact hK1 a3_1 gq_1 (by rw [← he_1, d_X13_apportions_L1])
    | succ k1 ih1 =>
      intro j1 hj1 a3_1 gq_1 he_1
      have hjn1 : j1 < n := by omega
      refine pm_iload B dX13_apportions_5 rfl ?_
      refine pm_aload_n B dX13_apportions_7 rfl ?_
      refine pm_get B dX13_apportions_8 fl_X13_9 ((pm_up_n (by omega)).trans hM) rfl ?_
      refine pm_iconst (v := 0) B dX13_apportions_11 (by decide) ?_
      refine pm_iald_n B dX13_apportions_12 ((pm_up_n (by omega)).trans hg) 0 (by decide) (by decide) ?_
      refine pm_stk (st' := [.int (nI n), .int (nI j1)]) (by rw [show (g 0) = (nI n) from by rw [hn]]) ?_
      refine pm_icmp_ge (tgt := 53) B dX13_apportions_13 (by decide) (fun hq3 => absurd hq3 (fun e => absurd ((nI_leI (by first | omega | decide) (by first | omega | decide)).mp e) (by omega))) (fun hq3 => ?_)
      refine pm_aload_n B dX13_apportions_16 rfl ?_
      refine pm_get B dX13_apportions_17 fl_X13_22 ((pm_up_n (by omega)).trans hM) rfl ?_
      refine pm_iload B dX13_apportions_20 rfl ?_
      refine pm_iconst (v := 0) B dX13_apportions_22 (by decide) ?_
      refine pm_iast_n B dX13_apportions_23 pm_up_s j1 (by first | assumption | omega) (by decide) ?_
      refine pm_mem (M' := pm_up M (m0 + 5) (.inl (kA 0, 7, .inl (upd gq_1 j1 0)))) pm_up_up ?_
      refine pm_iload_n B dX13_apportions_24 rfl ?_
      refine pm_aload_n B dX13_apportions_25 rfl ?_
      refine pm_iload B dX13_apportions_26 rfl ?_
      refine pm_cV (As := [.int (nI j1)]) (mc2 := 0) (ms2 := 0) B rfl ((pm_up_n (by omega)).trans hM) rfl (c_X13_isBarred (f := f) ((pm_up_n (by omega)).trans hM) ((pm_up_n (by omega)).trans hg) (i := j1) (by first | assumption | omega)) mt_X13_isBarred sv_X13_114 dX13_apportions_28 rfl rfl rfl rfl rfl ?_
      refine pm_stk (st' := [.int (pm_ib g j1), .int a3_1]) rfl ?_
      refine pm_if_eq (tgt := 38) B dX13_apportions_31 (by decide) (fun hq4 => ?_) (fun hq4 => ?_)
      · refine pm_aload_n B dX13_apportions_38 rfl ?_
        refine pm_iload B dX13_apportions_39 rfl ?_
        refine pm_iconst (v := 0) B dX13_apportions_41 (by decide) ?_
        refine pm_cV (As := [.int (nI j1), .int (nI 0)]) (mc2 := 0) (ms2 := 0) B rfl ((pm_up_n (by omega)).trans hM) rfl (c_X13_of (f := f) ((pm_up_n (by omega)).trans hM) ((pm_up_n (by omega)).trans hg) (i := j1) (w := 0) (by first | assumption | omega) (by first | assumption | omega)) mt_X13_of sv_X13_74 dX13_apportions_42 rfl rfl rfl rfl rfl ?_
        refine pm_stk (st' := [.int (g (7 + 5 * j1 + 0)), .int a3_1]) rfl ?_
        refine pm_iadd B dX13_apportions_45 ?_
        refine pm_istore_n B dX13_apportions_46 rfl rfl ?_
        refine pm_loc (L' := [some (.ref (z + m0)), some (.int x), some (.int y), some (.int (a3_1 + (g (7 + 5 * j1 + 0)))), some (.int (nI j1)), none, none, none, none]) rfl ?_
        refine pm_iinc B dX13_apportions_47 rfl rfl rfl ?_
        refine pm_loc (L' := [some (.ref (z + m0)), some (.int x), some (.int y), some (.int (a3_1 + (g (7 + 5 * j1 + 0)))), some (.int (nI (j1 + 1))), none, none, none, none]) (by rw [show ((nI j1) : Int32) + Int32.ofInt 1 = (nI (j1 + 1)) from nI_1 _]; rfl) ?_
        refine pm_goto (tgt := 5) B dX13_apportions_50 (by decide) ?_
        have hDq5 : (K1 ((d_X13_apportions_L1 g (k1 + 1) j1 a3_1 gq_1).1) ((d_X13_apportions_L1 g (k1 + 1) j1 a3_1 gq_1).2)) = (K1 ((d_X13_apportions_L1 g k1 (j1 + 1) (a3_1 + (g (7 + 5 * j1 + 0))) (upd gq_1 j1 0)).1) ((d_X13_apportions_L1 g k1 (j1 + 1) (a3_1 + (g (7 + 5 * j1 + 0))) (upd gq_1 j1 0)).2)) := by rw [d_X13_apportions_L1, if_pos hq4]
        refine pm_pst (post' := pm_rt none nx (pm_up M (m0 + 5) (.inl (kA 0, 7, .inl (K1 ((d_X13_apportions_L1 g k1 (j1 + 1) (a3_1 + (g (7 + 5 * j1 + 0))) (upd gq_1 j1 0)).1) ((d_X13_apportions_L1 g k1 (j1 + 1) (a3_1 + (g (7 + 5 * j1 + 0))) (upd gq_1 j1 0)).2)))))) (by rw [hDq5]) ?_
        exact ih1 (j1 + 1) (by omega) (a3_1 + (g (7 + 5 * j1 + 0))) (upd gq_1 j1 0) (by rw [← he_1]; exact Eq.symm (by rw [d_X13_apportions_L1, if_pos hq4]))
      · refine pm_iconst (v := 0) B dX13_apportions_34 (by decide) ?_
        refine pm_goto (tgt := 45) B dX13_apportions_35 (by decide) ?_
        refine pm_iadd B dX13_apportions_45 ?_
        refine pm_istore_n B dX13_apportions_46 rfl rfl ?_
        refine pm_loc (L' := [some (.ref (z + m0)), some (.int x), some (.int y), some (.int (a3_1 + 0)), some (.int (nI j1)), none, none, none, none]) rfl ?_
        refine pm_iinc B dX13_apportions_47 rfl rfl rfl ?_
        refine pm_loc (L' := [some (.ref (z + m0)), some (.int x), some (.int y), some (.int (a3_1 + 0)), some (.int (nI (j1 + 1))), none, none, none, none]) (by rw [show ((nI j1) : Int32) + Int32.ofInt 1 = (nI (j1 + 1)) from nI_1 _]; rfl) ?_
        refine pm_goto (tgt := 5) B dX13_apportions_50 (by decide) ?_
        have hDq6 : (K1 ((d_X13_apportions_L1 g (k1 + 1) j1 a3_1 gq_1).1) ((d_X13_apportions_L1 g (k1 + 1) j1 a3_1 gq_1).2)) = (K1 ((d_X13_apportions_L1 g k1 (j1 + 1) (a3_1 + 0) (upd gq_1 j1 0)).1) ((d_X13_apportions_L1 g k1 (j1 + 1) (a3_1 + 0) (upd gq_1 j1 0)).2)) := by rw [d_X13_apportions_L1, if_neg hq4]
        refine pm_pst (post' := pm_rt none nx (pm_up M (m0 + 5) (.inl (kA 0, 7, .inl (K1 ((d_X13_apportions_L1 g k1 (j1 + 1) (a3_1 + 0) (upd gq_1 j1 0)).1) ((d_X13_apportions_L1 g k1 (j1 + 1) (a3_1 + 0) (upd gq_1 j1 0)).2)))))) (by rw [hDq6]) ?_
        exact ih1 (j1 + 1) (by omega) (a3_1 + 0) (upd gq_1 j1 0) (by rw [← he_1]; exact Eq.symm (by rw [d_X13_apportions_L1, if_neg hq4]))
  refine pm_pst (post' := pm_rt none nx (pm_up M (m0 + 5) (.inl (kA 0, 7, .inl (if ((d_X13_apportions_L1 g n 0 0 gq).1) = 0 then ((d_X13_apportions_L1 g n 0 0 gq).2) else ((d_X13_apportions_L3 x y n f g ((d_X13_apportions_L1 g n 0 0 gq).1) (pm_n ((d_X13_apportions_L2 x y g ((d_X13_apportions_L1 g n 0 0 gq).1) n 0 x ((d_X13_apportions_L1 g n 0 0 gq).2)).1)) ((d_X13_apportions_L2 x y g ((d_X13_apportions_L1 g n 0 0 gq).1) n 0 x ((d_X13_apportions_L1 g n 0 0 gq).2)).1) 0 ((d_X13_apportions_L2 x y g ((d_X13_apportions_L1 g n 0 0 gq).1) n 0 x ((d_X13_apportions_L1 g n 0 0 gq).2)).2)).2.2)))))) (by rw [show (d_X13_apportions x y n f g gq) = if ((d_X13_apportions_L1 g n 0 0 gq).1) = 0 then ((d_X13_apportions_L1 g n 0 0 gq).2) else ((d_X13_apportions_L3 x y n f g ((d_X13_apportions_L1 g n 0 0 gq).1) (pm_n ((d_X13_apportions_L2 x y g ((d_X13_apportions_L1 g n 0 0 gq).1) n 0 x ((d_X13_apportions_L1 g n 0 0 gq).2)).1)) ((d_X13_apportions_L2 x y g ((d_X13_apportions_L1 g n 0 0 gq).1) n 0 x ((d_X13_apportions_L1 g n 0 0 gq).2)).1) 0 ((d_X13_apportions_L2 x y g ((d_X13_apportions_L1 g n 0 0 gq).1) n 0 x ((d_X13_apportions_L1 g n 0 0 gq).2)).2)).2.2) from by rw [d_X13_apportions]]) ?_
  refine loop1 (fun (a3_1 : Int32) (gq_1 : (Nat → Int32)) => if a3_1 = 0 then gq_1 else ((d_X13_apportions_L3 x y n f g a3_1 (pm_n ((d_X13_apportions_L2 x y g a3_1 n 0 x gq_1).1)) ((d_X13_apportions_L2 x y g a3_1 n 0 x gq_1).1) 0 ((d_X13_apportions_L2 x y g a3_1 n 0 x gq_1).2)).2.2)) ?_ n 0 (by omega) 0 gq ((by rw [hgq0]))
  intro a3_1 gq_1 he_1
  refine pm_pst (post' := pm_rt none nx (pm_up M (m0 + 5) (.inl (kA 0, 7, .inl (if a3_1 = 0 then gq_1 else ((d_X13_apportions_L3 x y n f g a3_1 (pm_n ((d_X13_apportions_L2 x y g a3_1 n 0 x gq_1).1)) ((d_X13_apportions_L2 x y g a3_1 n 0 x gq_1).1) 0 ((d_X13_apportions_L2 x y g a3_1 n 0 x gq_1).2)).2.2)))))) rfl ?_
  refine pm_iload_n B dX13_apportions_53 rfl ?_
  refine pm_if_ne (tgt := 58) B dX13_apportions_54 (by decide) (fun hq7 => ?_) (fun hq7 => ?_)
  · refine pm_iload_n B dX13_apportions_58 rfl ?_
    refine pm_istore B dX13_apportions_59 rfl rfl ?_
    refine pm_loc (L' := [some (.ref (z + m0)), some (.int x), some (.int y), some (.int a3_1), some (.int x), none, none, none, none]) rfl ?_
    refine pm_iconst (v := 0) B dX13_apportions_61 (by decide) ?_
    refine pm_istore B dX13_apportions_62 rfl rfl ?_
    refine pm_loc (L' := [some (.ref (z + m0)), some (.int x), some (.int y), some (.int a3_1), some (.int x), some (.int 0), none, none, none]) rfl ?_
    refine pm_loc (L' := [some (.ref (z + m0)), some (.int x), some (.int y), some (.int a3_1), some (.int x), some (.int (nI 0)), none, none, none]) rfl ?_
    have loop2 : ∀ (K2 : (Int32 → (Nat → Int32) → (Nat → Int32))), (∀ (a4_2 : Int32) (gq_2 : (Nat → Int32)), (he_2 : (a4_2, gq_2) = d_X13_apportions_L2 x y g a3_1 n 0 x gq_1) → pm_G l z D X 0 0 (pm_Q z D (pm_rt none nx (pm_up M (m0 + 5) (.inl (kA 0, 7, .inl (K2 a4_2 gq_2))))) 0 0 X) nx (pm_up M (m0 + 5) (.inl (kA 0, 7, .inl gq_2))) 128 [some (.ref (z + m0)), some (.int x), some (.int y), some (.int a3_1), some (.int a4_2), none, none, none, none] []) → ∀ (k2 j2 : Nat), j2 + k2 = n → ∀ (a4_2 : Int32) (gq_2 : (Nat → Int32)), (he_2 : d_X13_apportions_L2 x y g a3_1 k2 j2 a4_2 gq_2 = d_X13_apportions_L2 x y g a3_1 n 0 x gq_1) → pm_G l z D X 0 0 (pm_Q z D (pm_rt none nx (pm_up M (m0 + 5) (.inl (kA 0, 7, .inl (K2 ((d_X13_apportions_L2 x y g a3_1 k2 j2 a4_2 gq_2).1) ((d_X13_apportions_L2 x y g a3_1 k2 j2 a4_2 gq_2).2)))))) 0 0 X) nx (pm_up M (m0 + 5) (.inl (kA 0, 7, .inl gq_2))) 64 [some (.ref (z + m0)), some (.int x), some (.int y), some (.int a3_1), some (.int a4_2), some (.int (nI j2)), none, none, none] [] := by
      intro K2 hK2 k2
      induction k2 with
      | zero =>
        intro j2 hj2 a4_2 gq_2 he_2
        have hjn2 : j2 = n := by omega
        refine pm_iload B dX13_apportions_64 rfl ?_
        refine pm_aload_n B dX13_apportions_66 rfl ?_
        refine pm_get B dX13_apportions_67 fl_X13_9 ((pm_up_n (by omega)).trans hM) rfl ?_
        refine pm_iconst (v := 0) B dX13_apportions_70 (by decide) ?_
        refine pm_iald_n B dX13_apportions_71 ((pm_up_n (by omega)).trans hg) 0 (by decide) (by decide) ?_
        refine pm_stk (st' := [.int (nI n), .int (nI j2)]) (by rw [show (g 0) = (nI n) from by rw [hn]]) ?_
        refine pm_icmp_ge (tgt := 128) B dX13_apportions_72 (by decide) (fun hq8 => ?_) (fun hq8 => absurd ((nI_leI (by first | omega | decide) (by first | omega | decide)).mpr (by omega)) hq8)
        refine pm_wk (L' := [some (.ref (z + m0)), some (.int x), some (.int y), some (.int a3_1), some (.int a4_2), none, none, none, none]) ⟨rfl, ⟨rfl, ⟨rfl, ⟨rfl, ⟨rfl, trivial⟩⟩⟩⟩⟩ ?_
        have hDq9 : (K2 ((d_X13_apportions_L2 x y g a3_1 0 j2 a4_2 gq_2).1) ((d_X13_apportions_L2 x y g a3_1 0 j2 a4_2 gq_2).2)) = (K2 a4_2 gq_2) := by rw [d_X13_apportions_L2]
        refine pm_pst (post' := pm_rt none nx (pm_up M (m0 + 5) (.inl (kA 0, 7, .inl (K2 a4_2 gq_2))))) (by rw [hDq9]) ?_
        exact hK2 a4_2 gq_2 (by rw [← he_2, d_X13_apportions_L2])
      | succ k2 ih2 =>
        intro j2 hj2 a4_2 gq_2 he_2
        have hjn2 : j2 < n := by omega
        refine pm_iload B dX13_apportions_64 rfl ?_
        refine pm_aload_n B dX13_apportions_66 rfl ?_
        refine pm_get B dX13_apportions_67 fl_X13_9 ((pm_up_n (by omega)).trans hM) rfl ?_
        refine pm_iconst (v := 0) B dX13_apportions_70 (by decide) ?_
        refine pm_iald_n B dX13_apportions_71 ((pm_up_n (by omega)).trans hg) 0 (by decide) (by decide) ?_
        refine pm_stk (st' := [.int (nI n), .int (nI j2)]) (by rw [show (g 0) = (nI n) from by rw [hn]]) ?_
        refine pm_icmp_ge (tgt := 128) B dX13_apportions_72 (by decide) (fun hq10 => absurd hq10 (fun e => absurd ((nI_leI (by first | omega | decide) (by first | omega | decide)).mp e) (by omega))) (fun hq10 => ?_)
        refine pm_iload_n B dX13_apportions_75 rfl ?_
        refine pm_if_ne (tgt := 128) B dX13_apportions_76 (by decide) (fun hq11 => ?_) (fun hq11 => ?_)
        · refine pm_wk (L' := [some (.ref (z + m0)), some (.int x), some (.int y), some (.int a3_1), some (.int a4_2), none, none, none, none]) ⟨rfl, ⟨rfl, ⟨rfl, ⟨rfl, ⟨rfl, trivial⟩⟩⟩⟩⟩ ?_
          have hDq12 : (K2 ((d_X13_apportions_L2 x y g a3_1 (k2 + 1) j2 a4_2 gq_2).1) ((d_X13_apportions_L2 x y g a3_1 (k2 + 1) j2 a4_2 gq_2).2)) = (K2 a4_2 gq_2) := by rw [d_X13_apportions_L2, if_neg hq11]
          refine pm_pst (post' := pm_rt none nx (pm_up M (m0 + 5) (.inl (kA 0, 7, .inl (K2 a4_2 gq_2))))) (by rw [hDq12]) ?_
          exact hK2 a4_2 gq_2 (by rw [← he_2, d_X13_apportions_L2, if_neg hq11])
        · refine pm_aload_n B dX13_apportions_79 rfl ?_
          refine pm_get B dX13_apportions_80 fl_X13_22 ((pm_up_n (by omega)).trans hM) rfl ?_
          refine pm_iload B dX13_apportions_83 rfl ?_
          refine pm_aload_n B dX13_apportions_85 rfl ?_
          refine pm_iload B dX13_apportions_86 rfl ?_
          refine pm_cV (As := [.int (nI j2)]) (mc2 := 0) (ms2 := 0) B rfl ((pm_up_n (by omega)).trans hM) rfl (c_X13_isBarred (f := f) ((pm_up_n (by omega)).trans hM) ((pm_up_n (by omega)).trans hg) (i := j2) (by first | assumption | omega)) mt_X13_isBarred sv_X13_114 dX13_apportions_88 rfl rfl rfl rfl rfl ?_
          refine pm_stk (st' := [.int (pm_ib g j2), .int (nI j2), .ref (z + (m0 + 5))]) rfl ?_
          refine pm_if_eq (tgt := 98) B dX13_apportions_91 (by decide) (fun hq13 => ?_) (fun hq13 => ?_)
          · refine pm_iload_n B dX13_apportions_98 rfl ?_
            refine pm_aload_n B dX13_apportions_99 rfl ?_
            refine pm_iload B dX13_apportions_100 rfl ?_
            refine pm_iconst (v := 0) B dX13_apportions_102 (by decide) ?_
            refine pm_cV (As := [.int (nI j2), .int (nI 0)]) (mc2 := 0) (ms2 := 0) B rfl ((pm_up_n (by omega)).trans hM) rfl (c_X13_of (f := f) ((pm_up_n (by omega)).trans hM) ((pm_up_n (by omega)).trans hg) (i := j2) (w := 0) (by first | assumption | omega) (by first | assumption | omega)) mt_X13_of sv_X13_74 dX13_apportions_103 rfl rfl rfl rfl rfl ?_
            refine pm_stk (st' := [.int (g (7 + 5 * j2 + 0)), .int x, .int (nI j2), .ref (z + (m0 + 5))]) rfl ?_
            refine pm_imul B dX13_apportions_106 ?_
            refine pm_iload_n B dX13_apportions_107 rfl ?_
            refine pm_idiv B dX13_apportions_108 (by first | decide | assumption) ?_
            refine pm_iast_n B dX13_apportions_109 pm_up_s j2 (by first | assumption | omega) (by decide) ?_
            refine pm_mem (M' := pm_up M (m0 + 5) (.inl (kA 0, 7, .inl (upd gq_2 j2 ((x * (g (7 + 5 * j2 + 0))) / a3_1))))) pm_up_up ?_
            refine pm_iload B dX13_apportions_110 rfl ?_
            refine pm_aload_n B dX13_apportions_112 rfl ?_
            refine pm_get B dX13_apportions_113 fl_X13_22 ((pm_up_n (by omega)).trans hM) rfl ?_
            refine pm_iload B dX13_apportions_116 rfl ?_
            refine pm_iald_n B dX13_apportions_118 pm_up_s j2 (by first | assumption | omega) (by decide) ?_
            refine pm_stk (st' := [.int ((x * (g (7 + 5 * j2 + 0))) / a3_1), .int a4_2]) (by rw [show ((upd gq_2 j2 ((x * (g (7 + 5 * j2 + 0))) / a3_1)) j2) = ((x * (g (7 + 5 * j2 + 0))) / a3_1) from by rw [pk_us]]) ?_
            refine pm_isub B dX13_apportions_119 ?_
            refine pm_istore B dX13_apportions_120 rfl rfl ?_
            refine pm_loc (L' := [some (.ref (z + m0)), some (.int x), some (.int y), some (.int a3_1), some (.int (a4_2 - ((x * (g (7 + 5 * j2 + 0))) / a3_1))), some (.int (nI j2)), none, none, none]) rfl ?_
            refine pm_iinc B dX13_apportions_122 rfl rfl rfl ?_
            refine pm_loc (L' := [some (.ref (z + m0)), some (.int x), some (.int y), some (.int a3_1), some (.int (a4_2 - ((x * (g (7 + 5 * j2 + 0))) / a3_1))), some (.int (nI (j2 + 1))), none, none, none]) (by rw [show ((nI j2) : Int32) + Int32.ofInt 1 = (nI (j2 + 1)) from nI_1 _]; rfl) ?_
            refine pm_goto (tgt := 64) B dX13_apportions_125 (by decide) ?_
            have hDq14 : (K2 ((d_X13_apportions_L2 x y g a3_1 (k2 + 1) j2 a4_2 gq_2).1) ((d_X13_apportions_L2 x y g a3_1 (k2 + 1) j2 a4_2 gq_2).2)) = (K2 ((d_X13_apportions_L2 x y g a3_1 k2 (j2 + 1) (a4_2 - ((x * (g (7 + 5 * j2 + 0))) / a3_1)) (upd gq_2 j2 ((x * (g (7 + 5 * j2 + 0))) / a3_1))).1) ((d_X13_apportions_L2 x y g a3_1 k2 (j2 + 1) (a4_2 - ((x * (g (7 + 5 * j2 + 0))) / a3_1)) (upd gq_2 j2 ((x * (g (7 + 5 * j2 + 0))) / a3_1))).2)) := by rw [d_X13_apportions_L2, if_pos hq11, if_pos hq13]
            refine pm_pst (post' := pm_rt none nx (pm_up M (m0 + 5) (.inl (kA 0, 7, .inl (K2 ((d_X13_apportions_L2 x y g a3_1 k2 (j2 + 1) (a4_2 - ((x * (g (7 + 5 * j2 + 0))) / a3_1)) (upd gq_2 j2 ((x * (g (7 + 5 * j2 + 0))) / a3_1))).1) ((d_X13_apportions_L2 x y g a3_1 k2 (j2 + 1) (a4_2 - ((x * (g (7 + 5 * j2 + 0))) / a3_1)) (upd gq_2 j2 ((x * (g (7 + 5 * j2 + 0))) / a3_1))).2)))))) (by rw [hDq14]) ?_
            exact ih2 (j2 + 1) (by omega) (a4_2 - ((x * (g (7 + 5 * j2 + 0))) / a3_1)) (upd gq_2 j2 ((x * (g (7 + 5 * j2 + 0))) / a3_1)) (by rw [← he_2]; exact Eq.symm (by rw [d_X13_apportions_L2, if_pos hq11, if_pos hq13]))
          · refine pm_iconst (v := 0) B dX13_apportions_94 (by decide) ?_
            refine pm_goto (tgt := 109) B dX13_apportions_95 (by decide) ?_
            refine pm_iast_n B dX13_apportions_109 pm_up_s j2 (by first | assumption | omega) (by decide) ?_
            refine pm_mem (M' := pm_up M (m0 + 5) (.inl (kA 0, 7, .inl (upd gq_2 j2 0)))) pm_up_up ?_
            refine pm_iload B dX13_apportions_110 rfl ?_
            refine pm_aload_n B dX13_apportions_112 rfl ?_
            refine pm_get B dX13_apportions_113 fl_X13_22 ((pm_up_n (by omega)).trans hM) rfl ?_
            refine pm_iload B dX13_apportions_116 rfl ?_
            refine pm_iald_n B dX13_apportions_118 pm_up_s j2 (by first | assumption | omega) (by decide) ?_
            refine pm_stk (st' := [.int 0, .int a4_2]) (by rw [show ((upd gq_2 j2 0) j2) = 0 from by rw [pk_us]]) ?_
            refine pm_isub B dX13_apportions_119 ?_
            refine pm_istore B dX13_apportions_120 rfl rfl ?_
            refine pm_loc (L' := [some (.ref (z + m0)), some (.int x), some (.int y), some (.int a3_1), some (.int (a4_2 - 0)), some (.int (nI j2)), none, none, none]) rfl ?_
            refine pm_iinc B dX13_apportions_122 rfl rfl rfl ?_
            refine pm_loc (L' := [some (.ref (z + m0)), some (.int x), some (.int y), some (.int a3_1), some (.int (a4_2 - 0)), some (.int (nI (j2 + 1))), none, none, none]) (by rw [show ((nI j2) : Int32) + Int32.ofInt 1 = (nI (j2 + 1)) from nI_1 _]; rfl) ?_
            refine pm_goto (tgt := 64) B dX13_apportions_125 (by decide) ?_
            have hDq15 : (K2 ((d_X13_apportions_L2 x y g a3_1 (k2 + 1) j2 a4_2 gq_2).1) ((d_X13_apportions_L2 x y g a3_1 (k2 + 1) j2 a4_2 gq_2).2)) = (K2 ((d_X13_apportions_L2 x y g a3_1 k2 (j2 + 1) (a4_2 - 0) (upd gq_2 j2 0)).1) ((d_X13_apportions_L2 x y g a3_1 k2 (j2 + 1) (a4_2 - 0) (upd gq_2 j2 0)).2)) := by rw [d_X13_apportions_L2, if_pos hq11, if_neg hq13]
            refine pm_pst (post' := pm_rt none nx (pm_up M (m0 + 5) (.inl (kA 0, 7, .inl (K2 ((d_X13_apportions_L2 x y g a3_1 k2 (j2 + 1) (a4_2 - 0) (upd gq_2 j2 0)).1) ((d_X13_apportions_L2 x y g a3_1 k2 (j2 + 1) (a4_2 - 0) (upd gq_2 j2 0)).2)))))) (by rw [hDq15]) ?_
            exact ih2 (j2 + 1) (by omega) (a4_2 - 0) (upd gq_2 j2 0) (by rw [← he_2]; exact Eq.symm (by rw [d_X13_apportions_L2, if_pos hq11, if_neg hq13]))
    refine pm_pst (post' := pm_rt none nx (pm_up M (m0 + 5) (.inl (kA 0, 7, .inl ((d_X13_apportions_L3 x y n f g a3_1 (pm_n ((d_X13_apportions_L2 x y g a3_1 n 0 x gq_1).1)) ((d_X13_apportions_L2 x y g a3_1 n 0 x gq_1).1) 0 ((d_X13_apportions_L2 x y g a3_1 n 0 x gq_1).2)).2.2))))) (by rw [show (if a3_1 = 0 then gq_1 else ((d_X13_apportions_L3 x y n f g a3_1 (pm_n ((d_X13_apportions_L2 x y g a3_1 n 0 x gq_1).1)) ((d_X13_apportions_L2 x y g a3_1 n 0 x gq_1).1) 0 ((d_X13_apportions_L2 x y g a3_1 n 0 x gq_1).2)).2.2)) = ((d_X13_apportions_L3 x y n f g a3_1 (pm_n ((d_X13_apportions_L2 x y g a3_1 n 0 x gq_1).1)) ((d_X13_apportions_L2 x y g a3_1 n 0 x gq_1).1) 0 ((d_X13_apportions_L2 x y g a3_1 n 0 x gq_1).2)).2.2) from by rw [if_neg hq7]]) ?_
    refine loop2 (fun (a4_2 : Int32) (gq_2 : (Nat → Int32)) => ((d_X13_apportions_L3 x y n f g a3_1 (pm_n a4_2) a4_2 0 gq_2).2.2)) ?_ n 0 (by omega) x gq_1 (rfl)
    intro a4_2 gq_2 he_2
    refine pm_pst (post' := pm_rt none nx (pm_up M (m0 + 5) (.inl (kA 0, 7, .inl ((d_X13_apportions_L3 x y n f g a3_1 (pm_n a4_2) a4_2 0 gq_2).2.2))))) rfl ?_
    refine pm_iconst (v := 0) B dX13_apportions_128 (by decide) ?_
    refine pm_istore B dX13_apportions_129 rfl rfl ?_
    refine pm_loc (L' := [some (.ref (z + m0)), some (.int x), some (.int y), some (.int a3_1), some (.int a4_2), some (.int 0), none, none, none]) rfl ?_
    have loop3 : ∀ (K3 : (Int32 → Int32 → (Nat → Int32) → (Nat → Int32))), (∀ (a4_3 : Int32) (a5_3 : Int32) (gq_3 : (Nat → Int32)), pm_G l z D X 0 0 (pm_Q z D (pm_rt none nx (pm_up M (m0 + 5) (.inl (kA 0, 7, .inl (K3 a4_3 a5_3 gq_3))))) 0 0 X) nx (pm_up M (m0 + 5) (.inl (kA 0, 7, .inl gq_3))) 252 [none, none, none, none, none, none, none, none, none] []) → ∀ (k3 : Nat), ∀ (a4_3 : Int32) (a5_3 : Int32) (gq_3 : (Nat → Int32)), (hl_3 : pm_n a4_3 = k3) → (hs_3 : pm_apS x y n f g a3_1 k3 a5_3 gq_3) → pm_G l z D X 0 0 (pm_Q z D (pm_rt none nx (pm_up M (m0 + 5) (.inl (kA 0, 7, .inl (K3 ((d_X13_apportions_L3 x y n f g a3_1 k3 a4_3 a5_3 gq_3).1) ((d_X13_apportions_L3 x y n f g a3_1 k3 a4_3 a5_3 gq_3).2.1) ((d_X13_apportions_L3 x y n f g a3_1 k3 a4_3 a5_3 gq_3).2.2)))))) 0 0 X) nx (pm_up M (m0 + 5) (.inl (kA 0, 7, .inl gq_3))) 131 [some (.ref (z + m0)), some (.int x), some (.int y), some (.int a3_1), some (.int a4_3), some (.int a5_3), none, none, none] [] := by
      intro K3 hK3 k3
      induction k3 with
      | zero =>
        intro a4_3 a5_3 gq_3 hl_3 hs_3
        refine pm_iload B dX13_apportions_131 rfl ?_
        refine pm_if_le (tgt := 252) B dX13_apportions_133 (by decide) (fun hq16 => ?_) (fun hq16 => absurd ((pm_n0 hl_3)) hq16)
        refine pm_wk (L' := [none, none, none, none, none, none, none, none, none]) trivial ?_
        have hDq17 : (K3 ((d_X13_apportions_L3 x y n f g a3_1 0 a4_3 a5_3 gq_3).1) ((d_X13_apportions_L3 x y n f g a3_1 0 a4_3 a5_3 gq_3).2.1) ((d_X13_apportions_L3 x y n f g a3_1 0 a4_3 a5_3 gq_3).2.2)) = (K3 a4_3 a5_3 gq_3) := by rw [d_X13_apportions_L3]
        refine pm_pst (post' := pm_rt none nx (pm_up M (m0 + 5) (.inl (kA 0, 7, .inl (K3 a4_3 a5_3 gq_3))))) (by rw [hDq17]) ?_
        exact hK3 a4_3 a5_3 gq_3
      | succ k3 ih3 =>
        intro a4_3 a5_3 gq_3 hl_3 hs_3
        refine pm_iload B dX13_apportions_131 rfl ?_
        refine pm_if_le (tgt := 252) B dX13_apportions_133 (by decide) (fun hq18 => absurd hq18 ((pm_nP hl_3).1)) (fun hq18 => ?_)
        refine pm_iconst (v := (-1)) B dX13_apportions_136 (by decide) ?_
        refine pm_istore B dX13_apportions_137 rfl rfl ?_
        refine pm_loc (L' := [some (.ref (z + m0)), some (.int x), some (.int y), some (.int a3_1), some (.int a4_3), some (.int a5_3), some (.int (-1)), none, none]) rfl ?_
        refine pm_iconst (v := 0) B dX13_apportions_139 (by decide) ?_
        refine pm_istore B dX13_apportions_140 rfl rfl ?_
        refine pm_loc (L' := [some (.ref (z + m0)), some (.int x), some (.int y), some (.int a3_1), some (.int a4_3), some (.int a5_3), some (.int (-1)), some (.int 0), none]) rfl ?_
        refine pm_loc (L' := [some (.ref (z + m0)), some (.int x), some (.int y), some (.int a3_1), some (.int a4_3), some (.int a5_3), some (.int (-1)), some (.int (nI 0)), none]) rfl ?_
        have loop4 : ∀ (K4 : (Int32 → (Nat → Int32))), (∀ (a6_4 : Int32), (hs_4 : pm_bst n a6_4) → (he_4 : a6_4 = d_X13_apportions_L4 x y f g a3_1 a5_3 gq_3 n 0 (-1)) → pm_G l z D X 0 0 (pm_Q z D (pm_rt none nx (pm_up M (m0 + 5) (.inl (kA 0, 7, .inl (K4 a6_4))))) 0 0 X) nx (pm_up M (m0 + 5) (.inl (kA 0, 7, .inl gq_3))) 218 [some (.ref (z + m0)), some (.int x), some (.int y), some (.int a3_1), some (.int a4_3), some (.int a5_3), some (.int a6_4), none, none] []) → ∀ (k4 j4 : Nat), j4 + k4 = n → ∀ (a6_4 : Int32), (hs_4 : pm_bst n a6_4) → (he_4 : d_X13_apportions_L4 x y f g a3_1 a5_3 gq_3 k4 j4 a6_4 = d_X13_apportions_L4 x y f g a3_1 a5_3 gq_3 n 0 (-1)) → pm_G l z D X 0 0 (pm_Q z D (pm_rt none nx (pm_up M (m0 + 5) (.inl (kA 0, 7, .inl (K4 (d_X13_apportions_L4 x y f g a3_1 a5_3 gq_3 k4 j4 a6_4)))))) 0 0 X) nx (pm_up M (m0 + 5) (.inl (kA 0, 7, .inl gq_3))) 142 [some (.ref (z + m0)), some (.int x), some (.int y), some (.int a3_1), some (.int a4_3), some (.int a5_3), some (.int a6_4), some (.int (nI j4)), none] [] := by
          intro K4 hK4 k4
          induction k4 with
          | zero =>
            intro j4 hj4 a6_4 hs_4 he_4
            have hjn4 : j4 = n := by omega
            refine pm_iload B dX13_apportions_142 rfl ?_
            refine pm_aload_n B dX13_apportions_144 rfl ?_
            refine pm_get B dX13_apportions_145 fl_X13_9 ((pm_up_n (by omega)).trans hM) rfl ?_
            refine pm_iconst (v := 0) B dX13_apportions_148 (by decide) ?_
            refine pm_iald_n B dX13_apportions_149 ((pm_up_n (by omega)).trans hg) 0 (by decide) (by decide) ?_
            refine pm_stk (st' := [.int (nI n), .int (nI j4)]) (by rw [show (g 0) = (nI n) from by rw [hn]]) ?_
            refine pm_icmp_ge (tgt := 218) B dX13_apportions_150 (by decide) (fun hq19 => ?_) (fun hq19 => absurd ((nI_leI (by first | omega | decide) (by first | omega | decide)).mpr (by omega)) hq19)
            refine pm_wk (L' := [some (.ref (z + m0)), some (.int x), some (.int y), some (.int a3_1), some (.int a4_3), some (.int a5_3), some (.int a6_4), none, none]) ⟨rfl, ⟨rfl, ⟨rfl, ⟨rfl, ⟨rfl, ⟨rfl, ⟨rfl, trivial⟩⟩⟩⟩⟩⟩⟩ ?_
            have hDq20 : (K4 (d_X13_apportions_L4 x y f g a3_1 a5_3 gq_3 0 j4 a6_4)) = (K4 a6_4) := by rw [d_X13_apportions_L4]
            refine pm_pst (post' := pm_rt none nx (pm_up M (m0 + 5) (.inl (kA 0, 7, .inl (K4 a6_4))))) (by rw [hDq20]) ?_
            exact hK4 a6_4 (hs_4) (by rw [← he_4, d_X13_apportions_L4])
          | succ k4 ih4 =>
            intro j4 hj4 a6_4 hs_4 he_4
            have hjn4 : j4 < n := by omega
            refine pm_iload B dX13_apportions_142 rfl ?_
            refine pm_aload_n B dX13_apportions_144 rfl ?_
            refine pm_get B dX13_apportions_145 fl_X13_9 ((pm_up_n (by omega)).trans hM) rfl ?_
            refine pm_iconst (v := 0) B dX13_apportions_148 (by decide) ?_
            refine pm_iald_n B dX13_apportions_149 ((pm_up_n (by omega)).trans hg) 0 (by decide) (by decide) ?_
            refine pm_stk (st' := [.int (nI n), .int (nI j4)]) (by rw [show (g 0) = (nI n) from by rw [hn]]) ?_
            refine pm_icmp_ge (tgt := 218) B dX13_apportions_150 (by decide) (fun hq21 => absurd hq21 (fun e => absurd ((nI_leI (by first | omega | decide) (by first | omega | decide)).mp e) (by omega))) (fun hq21 => ?_)
            refine pm_aload_n B dX13_apportions_153 rfl ?_
            refine pm_iload B dX13_apportions_154 rfl ?_
            refine pm_cV (As := [.int (nI j4)]) (mc2 := 0) (ms2 := 0) B rfl ((pm_up_n (by omega)).trans hM) rfl (c_X13_isBarred (f := f) ((pm_up_n (by omega)).trans hM) ((pm_up_n (by omega)).trans hg) (i := j4) (by first | assumption | omega)) mt_X13_isBarred sv_X13_114 dX13_apportions_156 rfl rfl rfl rfl rfl ?_
            refine pm_stk (st' := [.int (pm_ib g j4)]) rfl ?_
            refine pm_if_ne (tgt := 176) B dX13_apportions_159 (by decide) (fun hq22 => ?_) (fun hq22 => ?_)
            · refine pm_iconst (v := 0) B dX13_apportions_176 (by decide) ?_
              refine pm_istore B dX13_apportions_177 rfl rfl ?_
              refine pm_loc (L' := [some (.ref (z + m0)), some (.int x), some (.int y), some (.int a3_1), some (.int a4_3), some (.int a5_3), some (.int a6_4), some (.int (nI j4)), some (.int 0)]) rfl ?_
              refine pm_iload B dX13_apportions_179 rfl ?_
              refine pm_if_eq (tgt := 208) B dX13_apportions_181 (by decide) (fun hq23 => ?_) (fun hq23 => absurd (by decide) hq23)
              refine pm_iload B dX13_apportions_208 rfl ?_
              refine pm_istore B dX13_apportions_210 rfl rfl ?_
              refine pm_loc (L' := [some (.ref (z + m0)), some (.int x), some (.int y), some (.int a3_1), some (.int a4_3), some (.int a5_3), some (.int a6_4), some (.int (nI j4)), some (.int 0)]) rfl ?_
              refine pm_iinc B dX13_apportions_212 rfl rfl rfl ?_
              refine pm_loc (L' := [some (.ref (z + m0)), some (.int x), some (.int y), some (.int a3_1), some (.int a4_3), some (.int a5_3), some (.int a6_4), some (.int (nI (j4 + 1))), some (.int 0)]) (by rw [show ((nI j4) : Int32) + Int32.ofInt 1 = (nI (j4 + 1)) from nI_1 _]; rfl) ?_
              refine pm_goto (tgt := 142) B dX13_apportions_215 (by decide) ?_
              refine pm_wk (L' := [some (.ref (z + m0)), some (.int x), some (.int y), some (.int a3_1), some (.int a4_3), some (.int a5_3), some (.int a6_4), some (.int (nI (j4 + 1))), none]) ⟨rfl, ⟨rfl, ⟨rfl, ⟨rfl, ⟨rfl, ⟨rfl, ⟨rfl, ⟨rfl, trivial⟩⟩⟩⟩⟩⟩⟩⟩ ?_
              have hDq24 : (K4 (d_X13_apportions_L4 x y f g a3_1 a5_3 gq_3 (k4 + 1) j4 a6_4)) = (K4 (d_X13_apportions_L4 x y f g a3_1 a5_3 gq_3 k4 (j4 + 1) a6_4)) := by rw [d_X13_apportions_L4, if_neg hq22]
              refine pm_pst (post' := pm_rt none nx (pm_up M (m0 + 5) (.inl (kA 0, 7, .inl (K4 (d_X13_apportions_L4 x y f g a3_1 a5_3 gq_3 k4 (j4 + 1) a6_4)))))) (by rw [hDq24]) ?_
              exact ih4 (j4 + 1) (by omega) a6_4 ((by first | assumption | exact Or.inr ⟨j4, hjn4, rfl⟩)) (by rw [← he_4]; exact Eq.symm (by rw [d_X13_apportions_L4, if_neg hq22]))
            · refine pm_iload B dX13_apportions_162 rfl ?_
              refine pm_iload B dX13_apportions_164 rfl ?_
              refine pm_ishr B dX13_apportions_166 ?_
              refine pm_iconst (v := 1) B dX13_apportions_167 (by decide) ?_
              refine pm_iand B dX13_apportions_168 ?_
              refine pm_if_ne (tgt := 176) B dX13_apportions_169 (by decide) (fun hq25 => ?_) (fun hq25 => ?_)
              · refine pm_iconst (v := 0) B dX13_apportions_176 (by decide) ?_
                refine pm_istore B dX13_apportions_177 rfl rfl ?_
                refine pm_loc (L' := [some (.ref (z + m0)), some (.int x), some (.int y), some (.int a3_1), some (.int a4_3), some (.int a5_3), some (.int a6_4), some (.int (nI j4)), some (.int 0)]) rfl ?_
                refine pm_iload B dX13_apportions_179 rfl ?_
                refine pm_if_eq (tgt := 208) B dX13_apportions_181 (by decide) (fun hq26 => ?_) (fun hq26 => absurd (by decide) hq26)
                refine pm_iload B dX13_apportions_208 rfl ?_
                refine pm_istore B dX13_apportions_210 rfl rfl ?_
                refine pm_loc (L' := [some (.ref (z + m0)), some (.int x), some (.int y), some (.int a3_1), some (.int a4_3), some (.int a5_3), some (.int a6_4), some (.int (nI j4)), some (.int 0)]) rfl ?_
                refine pm_iinc B dX13_apportions_212 rfl rfl rfl ?_
                refine pm_loc (L' := [some (.ref (z + m0)), some (.int x), some (.int y), some (.int a3_1), some (.int a4_3), some (.int a5_3), some (.int a6_4), some (.int (nI (j4 + 1))), some (.int 0)]) (by rw [show ((nI j4) : Int32) + Int32.ofInt 1 = (nI (j4 + 1)) from nI_1 _]; rfl) ?_
                refine pm_goto (tgt := 142) B dX13_apportions_215 (by decide) ?_
                refine pm_wk (L' := [some (.ref (z + m0)), some (.int x), some (.int y), some (.int a3_1), some (.int a4_3), some (.int a5_3), some (.int a6_4), some (.int (nI (j4 + 1))), none]) ⟨rfl, ⟨rfl, ⟨rfl, ⟨rfl, ⟨rfl, ⟨rfl, ⟨rfl, ⟨rfl, trivial⟩⟩⟩⟩⟩⟩⟩⟩ ?_
                have hDq27 : (K4 (d_X13_apportions_L4 x y f g a3_1 a5_3 gq_3 (k4 + 1) j4 a6_4)) = (K4 (d_X13_apportions_L4 x y f g a3_1 a5_3 gq_3 k4 (j4 + 1) a6_4)) := by rw [d_X13_apportions_L4, if_pos hq22, if_neg hq25]
                refine pm_pst (post' := pm_rt none nx (pm_up M (m0 + 5) (.inl (kA 0, 7, .inl (K4 (d_X13_apportions_L4 x y f g a3_1 a5_3 gq_3 k4 (j4 + 1) a6_4)))))) (by rw [hDq27]) ?_
                exact ih4 (j4 + 1) (by omega) a6_4 ((by first | assumption | exact Or.inr ⟨j4, hjn4, rfl⟩)) (by rw [← he_4]; exact Eq.symm (by rw [d_X13_apportions_L4, if_pos hq22, if_neg hq25]))
              · refine pm_iconst (v := 1) B dX13_apportions_172 (by decide) ?_
                refine pm_goto (tgt := 177) B dX13_apportions_173 (by decide) ?_
                refine pm_istore B dX13_apportions_177 rfl rfl ?_
                refine pm_loc (L' := [some (.ref (z + m0)), some (.int x), some (.int y), some (.int a3_1), some (.int a4_3), some (.int a5_3), some (.int a6_4), some (.int (nI j4)), some (.int 1)]) rfl ?_
                refine pm_iload B dX13_apportions_179 rfl ?_
                refine pm_if_eq (tgt := 208) B dX13_apportions_181 (by decide) (fun hq28 => absurd hq28 (by decide)) (fun hq28 => ?_)
                refine pm_iload B dX13_apportions_184 rfl ?_
                refine pm_if_lt (tgt := 203) B dX13_apportions_186 (by decide) (fun hq29 => ?_) (fun hq29 => ?_)
                · refine pm_iload B dX13_apportions_203 rfl ?_
                  refine pm_goto (tgt := 210) B dX13_apportions_205 (by decide) ?_
                  refine pm_istore B dX13_apportions_210 rfl rfl ?_
                  refine pm_loc (L' := [some (.ref (z + m0)), some (.int x), some (.int y), some (.int a3_1), some (.int a4_3), some (.int a5_3), some (.int (nI j4)), some (.int (nI j4)), some (.int 1)]) rfl ?_
                  refine pm_iinc B dX13_apportions_212 rfl rfl rfl ?_
                  refine pm_loc (L' := [some (.ref (z + m0)), some (.int x), some (.int y), some (.int a3_1), some (.int a4_3), some (.int a5_3), some (.int (nI j4)), some (.int (nI (j4 + 1))), some (.int 1)]) (by rw [show ((nI j4) : Int32) + Int32.ofInt 1 = (nI (j4 + 1)) from nI_1 _]; rfl) ?_
                  refine pm_goto (tgt := 142) B dX13_apportions_215 (by decide) ?_
                  refine pm_wk (L' := [some (.ref (z + m0)), some (.int x), some (.int y), some (.int a3_1), some (.int a4_3), some (.int a5_3), some (.int (nI j4)), some (.int (nI (j4 + 1))), none]) ⟨rfl, ⟨rfl, ⟨rfl, ⟨rfl, ⟨rfl, ⟨rfl, ⟨rfl, ⟨rfl, trivial⟩⟩⟩⟩⟩⟩⟩⟩ ?_
                  have hDq30 : (K4 (d_X13_apportions_L4 x y f g a3_1 a5_3 gq_3 (k4 + 1) j4 a6_4)) = (K4 (d_X13_apportions_L4 x y f g a3_1 a5_3 gq_3 k4 (j4 + 1) (nI j4))) := by rw [d_X13_apportions_L4, if_pos hq22, if_pos hq25, if_pos hq29]
                  refine pm_pst (post' := pm_rt none nx (pm_up M (m0 + 5) (.inl (kA 0, 7, .inl (K4 (d_X13_apportions_L4 x y f g a3_1 a5_3 gq_3 k4 (j4 + 1) (nI j4))))))) (by rw [hDq30]) ?_
                  exact ih4 (j4 + 1) (by omega) (nI j4) ((by first | assumption | exact Or.inr ⟨j4, hjn4, rfl⟩)) (by rw [← he_4]; exact Eq.symm (by rw [d_X13_apportions_L4, if_pos hq22, if_pos hq25, if_pos hq29]))
                · refine pm_aload_n B dX13_apportions_189 rfl ?_
                  refine pm_iload B dX13_apportions_190 rfl ?_
                  refine pm_iload B dX13_apportions_192 rfl ?_
                  obtain ⟨hbe, hbl⟩ := pm_bstN h7 hs_4 (by assumption)
                  refine pm_stk (st' := [.int (nI (pm_n a6_4)), .int (nI j4), .ref (z + m0)]) (congrArg (fun yy : Int32 => ([.int yy, .int (nI j4), .ref (z + m0)] : List Value)) (show a6_4 = (nI (pm_n a6_4)) from hbe)) ?_
                  refine pm_iload_n B dX13_apportions_194 rfl ?_
                  refine pm_iload_n B dX13_apportions_195 rfl ?_
                  refine pm_iload_n B dX13_apportions_196 rfl ?_
                  refine pm_cV (As := [.int (nI j4), .int (nI (pm_n a6_4)), .int x, .int a3_1, .int y]) (mc2 := 0) (ms2 := 0) B rfl ((pm_up_n (by omega)).trans hM) rfl (c_X13_isFirst (i := j4) (w := (pm_n a6_4)) (t := x) (c := a3_1) (r := y) (f := f) (g := g) (gq := gq_3) ((pm_up_n (by omega)).trans hM) ((pm_up_n (by omega)).trans hg) pm_up_s (by omega) (by omega) (by assumption)) mt_X13_isFirst sv_X13_120 dX13_apportions_197 rfl rfl rfl rfl rfl ?_
                  refine pm_stk (st' := [.int (d_X13_isFirst j4 (pm_n a6_4) x a3_1 y f g gq_3)]) rfl ?_
                  refine pm_if_eq (tgt := 208) B dX13_apportions_200 (by decide) (fun hq31 => ?_) (fun hq31 => ?_)
                  · refine pm_iload B dX13_apportions_208 rfl ?_
                    refine pm_istore B dX13_apportions_210 rfl rfl ?_
                    refine pm_loc (L' := [some (.ref (z + m0)), some (.int x), some (.int y), some (.int a3_1), some (.int a4_3), some (.int a5_3), some (.int a6_4), some (.int (nI j4)), some (.int 1)]) rfl ?_
                    refine pm_iinc B dX13_apportions_212 rfl rfl rfl ?_
                    refine pm_loc (L' := [some (.ref (z + m0)), some (.int x), some (.int y), some (.int a3_1), some (.int a4_3), some (.int a5_3), some (.int a6_4), some (.int (nI (j4 + 1))), some (.int 1)]) (by rw [show ((nI j4) : Int32) + Int32.ofInt 1 = (nI (j4 + 1)) from nI_1 _]; rfl) ?_
                    refine pm_goto (tgt := 142) B dX13_apportions_215 (by decide) ?_
                    refine pm_wk (L' := [some (.ref (z + m0)), some (.int x), some (.int y), some (.int a3_1), some (.int a4_3), some (.int a5_3), some (.int a6_4), some (.int (nI (j4 + 1))), none]) ⟨rfl, ⟨rfl, ⟨rfl, ⟨rfl, ⟨rfl, ⟨rfl, ⟨rfl, ⟨rfl, trivial⟩⟩⟩⟩⟩⟩⟩⟩ ?_
                    have hDq32 : (K4 (d_X13_apportions_L4 x y f g a3_1 a5_3 gq_3 (k4 + 1) j4 a6_4)) = (K4 (d_X13_apportions_L4 x y f g a3_1 a5_3 gq_3 k4 (j4 + 1) a6_4)) := by rw [d_X13_apportions_L4, if_pos hq22, if_pos hq25, if_neg hq29, if_pos hq31]
                    refine pm_pst (post' := pm_rt none nx (pm_up M (m0 + 5) (.inl (kA 0, 7, .inl (K4 (d_X13_apportions_L4 x y f g a3_1 a5_3 gq_3 k4 (j4 + 1) a6_4)))))) (by rw [hDq32]) ?_
                    exact ih4 (j4 + 1) (by omega) a6_4 ((by first | assumption | exact Or.inr ⟨j4, hjn4, rfl⟩)) (by rw [← he_4]; exact Eq.symm (by rw [d_X13_apportions_L4, if_pos hq22, if_pos hq25, if_neg hq29, if_pos hq31]))
                  · refine pm_iload B dX13_apportions_203 rfl ?_
                    refine pm_goto (tgt := 210) B dX13_apportions_205 (by decide) ?_
                    refine pm_istore B dX13_apportions_210 rfl rfl ?_
                    refine pm_loc (L' := [some (.ref (z + m0)), some (.int x), some (.int y), some (.int a3_1), some (.int a4_3), some (.int a5_3), some (.int (nI j4)), some (.int (nI j4)), some (.int 1)]) rfl ?_
                    refine pm_iinc B dX13_apportions_212 rfl rfl rfl ?_
                    refine pm_loc (L' := [some (.ref (z + m0)), some (.int x), some (.int y), some (.int a3_1), some (.int a4_3), some (.int a5_3), some (.int (nI j4)), some (.int (nI (j4 + 1))), some (.int 1)]) (by rw [show ((nI j4) : Int32) + Int32.ofInt 1 = (nI (j4 + 1)) from nI_1 _]; rfl) ?_
                    refine pm_goto (tgt := 142) B dX13_apportions_215 (by decide) ?_
                    refine pm_wk (L' := [some (.ref (z + m0)), some (.int x), some (.int y), some (.int a3_1), some (.int a4_3), some (.int a5_3), some (.int (nI j4)), some (.int (nI (j4 + 1))), none]) ⟨rfl, ⟨rfl, ⟨rfl, ⟨rfl, ⟨rfl, ⟨rfl, ⟨rfl, ⟨rfl, trivial⟩⟩⟩⟩⟩⟩⟩⟩ ?_
                    have hDq33 : (K4 (d_X13_apportions_L4 x y f g a3_1 a5_3 gq_3 (k4 + 1) j4 a6_4)) = (K4 (d_X13_apportions_L4 x y f g a3_1 a5_3 gq_3 k4 (j4 + 1) (nI j4))) := by rw [d_X13_apportions_L4, if_pos hq22, if_pos hq25, if_neg hq29, if_neg hq31]
                    refine pm_pst (post' := pm_rt none nx (pm_up M (m0 + 5) (.inl (kA 0, 7, .inl (K4 (d_X13_apportions_L4 x y f g a3_1 a5_3 gq_3 k4 (j4 + 1) (nI j4))))))) (by rw [hDq33]) ?_
                    exact ih4 (j4 + 1) (by omega) (nI j4) ((by first | assumption | exact Or.inr ⟨j4, hjn4, rfl⟩)) (by rw [← he_4]; exact Eq.symm (by rw [d_X13_apportions_L4, if_pos hq22, if_pos hq25, if_neg hq29, if_neg hq31]))
        refine pm_pst (post' := pm_rt none nx (pm_up M (m0 + 5) (.inl (kA 0, 7, .inl (K3 ((if y = 0 then (d_X13_apportions_L3 x y n f g a3_1 k3 (a4_3 + Int32.ofInt (-1)) (a5_3 ||| (1 <<< ((nI (pm_n (d_X13_apportions_L4 x y f g a3_1 a5_3 gq_3 n 0 (-1)))) &&& 31))) (upd gq_3 (pm_n (d_X13_apportions_L4 x y f g a3_1 a5_3 gq_3 n 0 (-1))) ((gq_3 (pm_n (d_X13_apportions_L4 x y f g a3_1 a5_3 gq_3 n 0 (-1)))) + 1))) else (d_X13_apportions_L3 x y n f g a3_1 k3 (a4_3 + Int32.ofInt (-1)) (a5_3 ||| 0) (upd gq_3 (pm_n (d_X13_apportions_L4 x y f g a3_1 a5_3 gq_3 n 0 (-1))) ((gq_3 (pm_n (d_X13_apportions_L4 x y f g a3_1 a5_3 gq_3 n 0 (-1)))) + 1)))).1) ((if y = 0 then (d_X13_apportions_L3 x y n f g a3_1 k3 (a4_3 + Int32.ofInt (-1)) (a5_3 ||| (1 <<< ((nI (pm_n (d_X13_apportions_L4 x y f g a3_1 a5_3 gq_3 n 0 (-1)))) &&& 31))) (upd gq_3 (pm_n (d_X13_apportions_L4 x y f g a3_1 a5_3 gq_3 n 0 (-1))) ((gq_3 (pm_n (d_X13_apportions_L4 x y f g a3_1 a5_3 gq_3 n 0 (-1)))) + 1))) else (d_X13_apportions_L3 x y n f g a3_1 k3 (a4_3 + Int32.ofInt (-1)) (a5_3 ||| 0) (upd gq_3 (pm_n (d_X13_apportions_L4 x y f g a3_1 a5_3 gq_3 n 0 (-1))) ((gq_3 (pm_n (d_X13_apportions_L4 x y f g a3_1 a5_3 gq_3 n 0 (-1)))) + 1)))).2.1) ((if y = 0 then (d_X13_apportions_L3 x y n f g a3_1 k3 (a4_3 + Int32.ofInt (-1)) (a5_3 ||| (1 <<< ((nI (pm_n (d_X13_apportions_L4 x y f g a3_1 a5_3 gq_3 n 0 (-1)))) &&& 31))) (upd gq_3 (pm_n (d_X13_apportions_L4 x y f g a3_1 a5_3 gq_3 n 0 (-1))) ((gq_3 (pm_n (d_X13_apportions_L4 x y f g a3_1 a5_3 gq_3 n 0 (-1)))) + 1))) else (d_X13_apportions_L3 x y n f g a3_1 k3 (a4_3 + Int32.ofInt (-1)) (a5_3 ||| 0) (upd gq_3 (pm_n (d_X13_apportions_L4 x y f g a3_1 a5_3 gq_3 n 0 (-1))) ((gq_3 (pm_n (d_X13_apportions_L4 x y f g a3_1 a5_3 gq_3 n 0 (-1)))) + 1)))).2.2)))))) (by rw [show (K3 ((d_X13_apportions_L3 x y n f g a3_1 (k3 + 1) a4_3 a5_3 gq_3).1) ((d_X13_apportions_L3 x y n f g a3_1 (k3 + 1) a4_3 a5_3 gq_3).2.1) ((d_X13_apportions_L3 x y n f g a3_1 (k3 + 1) a4_3 a5_3 gq_3).2.2)) = (K3 ((if y = 0 then (d_X13_apportions_L3 x y n f g a3_1 k3 (a4_3 + Int32.ofInt (-1)) (a5_3 ||| (1 <<< ((nI (pm_n (d_X13_apportions_L4 x y f g a3_1 a5_3 gq_3 n 0 (-1)))) &&& 31))) (upd gq_3 (pm_n (d_X13_apportions_L4 x y f g a3_1 a5_3 gq_3 n 0 (-1))) ((gq_3 (pm_n (d_X13_apportions_L4 x y f g a3_1 a5_3 gq_3 n 0 (-1)))) + 1))) else (d_X13_apportions_L3 x y n f g a3_1 k3 (a4_3 + Int32.ofInt (-1)) (a5_3 ||| 0) (upd gq_3 (pm_n (d_X13_apportions_L4 x y f g a3_1 a5_3 gq_3 n 0 (-1))) ((gq_3 (pm_n (d_X13_apportions_L4 x y f g a3_1 a5_3 gq_3 n 0 (-1)))) + 1)))).1) ((if y = 0 then (d_X13_apportions_L3 x y n f g a3_1 k3 (a4_3 + Int32.ofInt (-1)) (a5_3 ||| (1 <<< ((nI (pm_n (d_X13_apportions_L4 x y f g a3_1 a5_3 gq_3 n 0 (-1)))) &&& 31))) (upd gq_3 (pm_n (d_X13_apportions_L4 x y f g a3_1 a5_3 gq_3 n 0 (-1))) ((gq_3 (pm_n (d_X13_apportions_L4 x y f g a3_1 a5_3 gq_3 n 0 (-1)))) + 1))) else (d_X13_apportions_L3 x y n f g a3_1 k3 (a4_3 + Int32.ofInt (-1)) (a5_3 ||| 0) (upd gq_3 (pm_n (d_X13_apportions_L4 x y f g a3_1 a5_3 gq_3 n 0 (-1))) ((gq_3 (pm_n (d_X13_apportions_L4 x y f g a3_1 a5_3 gq_3 n 0 (-1)))) + 1)))).2.1) ((if y = 0 then (d_X13_apportions_L3 x y n f g a3_1 k3 (a4_3 + Int32.ofInt (-1)) (a5_3 ||| (1 <<< ((nI (pm_n (d_X13_apportions_L4 x y f g a3_1 a5_3 gq_3 n 0 (-1)))) &&& 31))) (upd gq_3 (pm_n (d_X13_apportions_L4 x y f g a3_1 a5_3 gq_3 n 0 (-1))) ((gq_3 (pm_n (d_X13_apportions_L4 x y f g a3_1 a5_3 gq_3 n 0 (-1)))) + 1))) else (d_X13_apportions_L3 x y n f g a3_1 k3 (a4_3 + Int32.ofInt (-1)) (a5_3 ||| 0) (upd gq_3 (pm_n (d_X13_apportions_L4 x y f g a3_1 a5_3 gq_3 n 0 (-1))) ((gq_3 (pm_n (d_X13_apportions_L4 x y f g a3_1 a5_3 gq_3 n 0 (-1)))) + 1)))).2.2)) from by rw [d_X13_apportions_L3]]) ?_
        refine loop4 (fun (a6_4 : Int32) => (K3 ((if y = 0 then (d_X13_apportions_L3 x y n f g a3_1 k3 (a4_3 + Int32.ofInt (-1)) (a5_3 ||| (1 <<< ((nI (pm_n a6_4)) &&& 31))) (upd gq_3 (pm_n a6_4) ((gq_3 (pm_n a6_4)) + 1))) else (d_X13_apportions_L3 x y n f g a3_1 k3 (a4_3 + Int32.ofInt (-1)) (a5_3 ||| 0) (upd gq_3 (pm_n a6_4) ((gq_3 (pm_n a6_4)) + 1)))).1) ((if y = 0 then (d_X13_apportions_L3 x y n f g a3_1 k3 (a4_3 + Int32.ofInt (-1)) (a5_3 ||| (1 <<< ((nI (pm_n a6_4)) &&& 31))) (upd gq_3 (pm_n a6_4) ((gq_3 (pm_n a6_4)) + 1))) else (d_X13_apportions_L3 x y n f g a3_1 k3 (a4_3 + Int32.ofInt (-1)) (a5_3 ||| 0) (upd gq_3 (pm_n a6_4) ((gq_3 (pm_n a6_4)) + 1)))).2.1) ((if y = 0 then (d_X13_apportions_L3 x y n f g a3_1 k3 (a4_3 + Int32.ofInt (-1)) (a5_3 ||| (1 <<< ((nI (pm_n a6_4)) &&& 31))) (upd gq_3 (pm_n a6_4) ((gq_3 (pm_n a6_4)) + 1))) else (d_X13_apportions_L3 x y n f g a3_1 k3 (a4_3 + Int32.ofInt (-1)) (a5_3 ||| 0) (upd gq_3 (pm_n a6_4) ((gq_3 (pm_n a6_4)) + 1)))).2.2))) ?_ n 0 (by omega) (-1) (Or.inl rfl) (rfl)
        intro a6_4 hs_4 he_4
        refine pm_pst (post' := pm_rt none nx (pm_up M (m0 + 5) (.inl (kA 0, 7, .inl (K3 ((if y = 0 then (d_X13_apportions_L3 x y n f g a3_1 k3 (a4_3 + Int32.ofInt (-1)) (a5_3 ||| (1 <<< ((nI (pm_n a6_4)) &&& 31))) (upd gq_3 (pm_n a6_4) ((gq_3 (pm_n a6_4)) + 1))) else (d_X13_apportions_L3 x y n f g a3_1 k3 (a4_3 + Int32.ofInt (-1)) (a5_3 ||| 0) (upd gq_3 (pm_n a6_4) ((gq_3 (pm_n a6_4)) + 1)))).1) ((if y = 0 then (d_X13_apportions_L3 x y n f g a3_1 k3 (a4_3 + Int32.ofInt (-1)) (a5_3 ||| (1 <<< ((nI (pm_n a6_4)) &&& 31))) (upd gq_3 (pm_n a6_4) ((gq_3 (pm_n a6_4)) + 1))) else (d_X13_apportions_L3 x y n f g a3_1 k3 (a4_3 + Int32.ofInt (-1)) (a5_3 ||| 0) (upd gq_3 (pm_n a6_4) ((gq_3 (pm_n a6_4)) + 1)))).2.1) ((if y = 0 then (d_X13_apportions_L3 x y n f g a3_1 k3 (a4_3 + Int32.ofInt (-1)) (a5_3 ||| (1 <<< ((nI (pm_n a6_4)) &&& 31))) (upd gq_3 (pm_n a6_4) ((gq_3 (pm_n a6_4)) + 1))) else (d_X13_apportions_L3 x y n f g a3_1 k3 (a4_3 + Int32.ofInt (-1)) (a5_3 ||| 0) (upd gq_3 (pm_n a6_4) ((gq_3 (pm_n a6_4)) + 1)))).2.2)))))) rfl ?_
        have hb4 : ¬ a6_4 < 0 := by rw [he_4]; exact hs_3.1
        obtain ⟨hbe, hbl⟩ := pm_bstN h7 hs_4 hb4
        refine pm_loc (L' := [some (.ref (z + m0)), some (.int x), some (.int y), some (.int a3_1), some (.int a4_3), some (.int a5_3), some (.int (nI (pm_n a6_4))), none, none]) (congrArg (fun yy : Int32 => ([some (.ref (z + m0)), some (.int x), some (.int y), some (.int a3_1), some (.int a4_3), some (.int a5_3), some (.int yy), none, none] : List (Option Value))) hbe) ?_
        refine pm_aload_n B dX13_apportions_218 rfl ?_
        refine pm_get B dX13_apportions_219 fl_X13_22 ((pm_up_n (by omega)).trans hM) rfl ?_
        refine pm_iload B dX13_apportions_222 rfl ?_
        refine pm_dup2 B dX13_apportions_224 rfl rfl ?_
        refine pm_iald_n B dX13_apportions_225 pm_up_s (pm_n a6_4) (by first | assumption | omega) (by decide) ?_
        refine pm_iconst (v := 1) B dX13_apportions_226 (by decide) ?_
        refine pm_iadd B dX13_apportions_227 ?_
        refine pm_iast_n B dX13_apportions_228 pm_up_s (pm_n a6_4) (by first | assumption | omega) (by decide) ?_
        refine pm_mem (M' := pm_up M (m0 + 5) (.inl (kA 0, 7, .inl (upd gq_3 (pm_n a6_4) ((gq_3 (pm_n a6_4)) + 1))))) pm_up_up ?_
        refine pm_iload B dX13_apportions_229 rfl ?_
        refine pm_iload_n B dX13_apportions_231 rfl ?_
        refine pm_if_ne (tgt := 242) B dX13_apportions_232 (by decide) (fun hq34 => ?_) (fun hq34 => ?_)
        · refine pm_iconst (v := 0) B dX13_apportions_242 (by decide) ?_
          refine pm_ior B dX13_apportions_243 ?_
          refine pm_istore B dX13_apportions_244 rfl rfl ?_
          refine pm_loc (L' := [some (.ref (z + m0)), some (.int x), some (.int y), some (.int a3_1), some (.int a4_3), some (.int (a5_3 ||| 0)), some (.int (nI (pm_n a6_4))), none, none]) rfl ?_
          refine pm_iinc B dX13_apportions_246 rfl rfl rfl ?_
          refine pm_loc (L' := [some (.ref (z + m0)), some (.int x), some (.int y), some (.int a3_1), some (.int (a4_3 + Int32.ofInt (-1))), some (.int (a5_3 ||| 0)), some (.int (nI (pm_n a6_4))), none, none]) rfl ?_
          refine pm_goto (tgt := 131) B dX13_apportions_249 (by decide) ?_
          refine pm_wk (L' := [some (.ref (z + m0)), some (.int x), some (.int y), some (.int a3_1), some (.int (a4_3 + Int32.ofInt (-1))), some (.int (a5_3 ||| 0)), none, none, none]) ⟨rfl, ⟨rfl, ⟨rfl, ⟨rfl, ⟨rfl, ⟨rfl, trivial⟩⟩⟩⟩⟩⟩ ?_
          have hDq35 : ((K3 ((if y = 0 then (d_X13_apportions_L3 x y n f g a3_1 k3 (a4_3 + Int32.ofInt (-1)) (a5_3 ||| (1 <<< ((nI (pm_n a6_4)) &&& 31))) (upd gq_3 (pm_n a6_4) ((gq_3 (pm_n a6_4)) + 1))) else (d_X13_apportions_L3 x y n f g a3_1 k3 (a4_3 + Int32.ofInt (-1)) (a5_3 ||| 0) (upd gq_3 (pm_n a6_4) ((gq_3 (pm_n a6_4)) + 1)))).1) ((if y = 0 then (d_X13_apportions_L3 x y n f g a3_1 k3 (a4_3 + Int32.ofInt (-1)) (a5_3 ||| (1 <<< ((nI (pm_n a6_4)) &&& 31))) (upd gq_3 (pm_n a6_4) ((gq_3 (pm_n a6_4)) + 1))) else (d_X13_apportions_L3 x y n f g a3_1 k3 (a4_3 + Int32.ofInt (-1)) (a5_3 ||| 0) (upd gq_3 (pm_n a6_4) ((gq_3 (pm_n a6_4)) + 1)))).2.1) ((if y = 0 then (d_X13_apportions_L3 x y n f g a3_1 k3 (a4_3 + Int32.ofInt (-1)) (a5_3 ||| (1 <<< ((nI (pm_n a6_4)) &&& 31))) (upd gq_3 (pm_n a6_4) ((gq_3 (pm_n a6_4)) + 1))) else (d_X13_apportions_L3 x y n f g a3_1 k3 (a4_3 + Int32.ofInt (-1)) (a5_3 ||| 0) (upd gq_3 (pm_n a6_4) ((gq_3 (pm_n a6_4)) + 1)))).2.2))) = (K3 ((d_X13_apportions_L3 x y n f g a3_1 k3 (a4_3 + Int32.ofInt (-1)) (a5_3 ||| 0) (upd gq_3 (pm_n a6_4) ((gq_3 (pm_n a6_4)) + 1))).1) ((d_X13_apportions_L3 x y n f g a3_1 k3 (a4_3 + Int32.ofInt (-1)) (a5_3 ||| 0) (upd gq_3 (pm_n a6_4) ((gq_3 (pm_n a6_4)) + 1))).2.1) ((d_X13_apportions_L3 x y n f g a3_1 k3 (a4_3 + Int32.ofInt (-1)) (a5_3 ||| 0) (upd gq_3 (pm_n a6_4) ((gq_3 (pm_n a6_4)) + 1))).2.2)) := by rw [if_neg hq34]
          refine pm_pst (post' := pm_rt none nx (pm_up M (m0 + 5) (.inl (kA 0, 7, .inl (K3 ((d_X13_apportions_L3 x y n f g a3_1 k3 (a4_3 + Int32.ofInt (-1)) (a5_3 ||| 0) (upd gq_3 (pm_n a6_4) ((gq_3 (pm_n a6_4)) + 1))).1) ((d_X13_apportions_L3 x y n f g a3_1 k3 (a4_3 + Int32.ofInt (-1)) (a5_3 ||| 0) (upd gq_3 (pm_n a6_4) ((gq_3 (pm_n a6_4)) + 1))).2.1) ((d_X13_apportions_L3 x y n f g a3_1 k3 (a4_3 + Int32.ofInt (-1)) (a5_3 ||| 0) (upd gq_3 (pm_n a6_4) ((gq_3 (pm_n a6_4)) + 1))).2.2)))))) (by rw [hDq35]) ?_
          exact ih3 (a4_3 + Int32.ofInt (-1)) (a5_3 ||| 0) (upd gq_3 (pm_n a6_4) ((gq_3 (pm_n a6_4)) + 1)) ((pm_nP hl_3).2) (by have h := hs_3.2; rw [if_neg hq34, ← he_4] at h; exact h)
        · refine pm_iconst (v := 1) B dX13_apportions_235 (by decide) ?_
          refine pm_iload B dX13_apportions_236 rfl ?_
          refine pm_ishl B dX13_apportions_238 ?_
          refine pm_goto (tgt := 243) B dX13_apportions_239 (by decide) ?_
          refine pm_ior B dX13_apportions_243 ?_
          refine pm_istore B dX13_apportions_244 rfl rfl ?_
          refine pm_loc (L' := [some (.ref (z + m0)), some (.int x), some (.int y), some (.int a3_1), some (.int a4_3), some (.int (a5_3 ||| (1 <<< ((nI (pm_n a6_4)) &&& 31)))), some (.int (nI (pm_n a6_4))), none, none]) rfl ?_
          refine pm_iinc B dX13_apportions_246 rfl rfl rfl ?_
          refine pm_loc (L' := [some (.ref (z + m0)), some (.int x), some (.int y), some (.int a3_1), some (.int (a4_3 + Int32.ofInt (-1))), some (.int (a5_3 ||| (1 <<< ((nI (pm_n a6_4)) &&& 31)))), some (.int (nI (pm_n a6_4))), none, none]) rfl ?_
          refine pm_goto (tgt := 131) B dX13_apportions_249 (by decide) ?_
          refine pm_wk (L' := [some (.ref (z + m0)), some (.int x), some (.int y), some (.int a3_1), some (.int (a4_3 + Int32.ofInt (-1))), some (.int (a5_3 ||| (1 <<< ((nI (pm_n a6_4)) &&& 31)))), none, none, none]) ⟨rfl, ⟨rfl, ⟨rfl, ⟨rfl, ⟨rfl, ⟨rfl, trivial⟩⟩⟩⟩⟩⟩ ?_
          have hDq36 : ((K3 ((if y = 0 then (d_X13_apportions_L3 x y n f g a3_1 k3 (a4_3 + Int32.ofInt (-1)) (a5_3 ||| (1 <<< ((nI (pm_n a6_4)) &&& 31))) (upd gq_3 (pm_n a6_4) ((gq_3 (pm_n a6_4)) + 1))) else (d_X13_apportions_L3 x y n f g a3_1 k3 (a4_3 + Int32.ofInt (-1)) (a5_3 ||| 0) (upd gq_3 (pm_n a6_4) ((gq_3 (pm_n a6_4)) + 1)))).1) ((if y = 0 then (d_X13_apportions_L3 x y n f g a3_1 k3 (a4_3 + Int32.ofInt (-1)) (a5_3 ||| (1 <<< ((nI (pm_n a6_4)) &&& 31))) (upd gq_3 (pm_n a6_4) ((gq_3 (pm_n a6_4)) + 1))) else (d_X13_apportions_L3 x y n f g a3_1 k3 (a4_3 + Int32.ofInt (-1)) (a5_3 ||| 0) (upd gq_3 (pm_n a6_4) ((gq_3 (pm_n a6_4)) + 1)))).2.1) ((if y = 0 then (d_X13_apportions_L3 x y n f g a3_1 k3 (a4_3 + Int32.ofInt (-1)) (a5_3 ||| (1 <<< ((nI (pm_n a6_4)) &&& 31))) (upd gq_3 (pm_n a6_4) ((gq_3 (pm_n a6_4)) + 1))) else (d_X13_apportions_L3 x y n f g a3_1 k3 (a4_3 + Int32.ofInt (-1)) (a5_3 ||| 0) (upd gq_3 (pm_n a6_4) ((gq_3 (pm_n a6_4)) + 1)))).2.2))) = (K3 ((d_X13_apportions_L3 x y n f g a3_1 k3 (a4_3 + Int32.ofInt (-1)) (a5_3 ||| (1 <<< ((nI (pm_n a6_4)) &&& 31))) (upd gq_3 (pm_n a6_4) ((gq_3 (pm_n a6_4)) + 1))).1) ((d_X13_apportions_L3 x y n f g a3_1 k3 (a4_3 + Int32.ofInt (-1)) (a5_3 ||| (1 <<< ((nI (pm_n a6_4)) &&& 31))) (upd gq_3 (pm_n a6_4) ((gq_3 (pm_n a6_4)) + 1))).2.1) ((d_X13_apportions_L3 x y n f g a3_1 k3 (a4_3 + Int32.ofInt (-1)) (a5_3 ||| (1 <<< ((nI (pm_n a6_4)) &&& 31))) (upd gq_3 (pm_n a6_4) ((gq_3 (pm_n a6_4)) + 1))).2.2)) := by rw [if_pos hq34]
          refine pm_pst (post' := pm_rt none nx (pm_up M (m0 + 5) (.inl (kA 0, 7, .inl (K3 ((d_X13_apportions_L3 x y n f g a3_1 k3 (a4_3 + Int32.ofInt (-1)) (a5_3 ||| (1 <<< ((nI (pm_n a6_4)) &&& 31))) (upd gq_3 (pm_n a6_4) ((gq_3 (pm_n a6_4)) + 1))).1) ((d_X13_apportions_L3 x y n f g a3_1 k3 (a4_3 + Int32.ofInt (-1)) (a5_3 ||| (1 <<< ((nI (pm_n a6_4)) &&& 31))) (upd gq_3 (pm_n a6_4) ((gq_3 (pm_n a6_4)) + 1))).2.1) ((d_X13_apportions_L3 x y n f g a3_1 k3 (a4_3 + Int32.ofInt (-1)) (a5_3 ||| (1 <<< ((nI (pm_n a6_4)) &&& 31))) (upd gq_3 (pm_n a6_4) ((gq_3 (pm_n a6_4)) + 1))).2.2)))))) (by rw [hDq36]) ?_
          exact ih3 (a4_3 + Int32.ofInt (-1)) (a5_3 ||| (1 <<< ((nI (pm_n a6_4)) &&& 31))) (upd gq_3 (pm_n a6_4) ((gq_3 (pm_n a6_4)) + 1)) ((pm_nP hl_3).2) (by have h := hs_3.2; rw [if_pos hq34, ← he_4] at h; exact h)
    refine pm_pst (post' := pm_rt none nx (pm_up M (m0 + 5) (.inl (kA 0, 7, .inl ((d_X13_apportions_L3 x y n f g a3_1 (pm_n a4_2) a4_2 0 gq_2).2.2))))) (by rw [show (((d_X13_apportions_L3 x y n f g a3_1 (pm_n a4_2) a4_2 0 gq_2).2.2)) = ((d_X13_apportions_L3 x y n f g a3_1 (pm_n a4_2) a4_2 0 gq_2).2.2) from rfl]) ?_
    refine loop3 (fun (a4_3 : Int32) (a5_3 : Int32) (gq_3 : (Nat → Int32)) => gq_3) ?_ (pm_n a4_2) a4_2 0 gq_2 (rfl) (hOK _ _ _ _ (he_1.trans (by rw [hgq0])) (by assumption) he_2)
    intro a4_3 a5_3 gq_3
    refine pm_pst (post' := pm_rt none nx (pm_up M (m0 + 5) (.inl (kA 0, 7, .inl gq_3)))) rfl ?_
    have hDq37 : (gq_3) = gq_3 := rfl
    exact pm_return B dX13_apportions_252 rfl ⟨rfl, rfl, by rw [hDq37]⟩ rfl rfl
  · have hDq38 : (if a3_1 = 0 then gq_1 else ((d_X13_apportions_L3 x y n f g a3_1 (pm_n ((d_X13_apportions_L2 x y g a3_1 n 0 x gq_1).1)) ((d_X13_apportions_L2 x y g a3_1 n 0 x gq_1).1) 0 ((d_X13_apportions_L2 x y g a3_1 n 0 x gq_1).2)).2.2)) = gq_1 := by rw [if_pos hq7]
    exact pm_return B dX13_apportions_57 rfl ⟨rfl, rfl, by rw [hDq38]⟩ rfl rfl
