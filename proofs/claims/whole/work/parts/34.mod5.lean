/-! ThunderCartelModel: sets of members, votes, shares -/
def d_X13_watches_L2 (x : Int32) (f : Nat → Int32) (g : Nat → Int32) (j1 : Nat) : Nat → Nat → Int32 → Int32
  | 0, _, a2_2 => a2_2
  | k2 + 1, j2, a2_2 => if a2_2 = 0 then (d_X13_watches_L2 x f g j1 k2 (j2 + 1) 0) else (if (d_X13_linked j1 j2 f g) = 0 then (d_X13_watches_L2 x f g j1 k2 (j2 + 1) 1) else (if (((x >>> ((nI j1) &&& 31)) &&& 1) + ((x >>> ((nI j2) &&& 31)) &&& 1)) ≤ 0 then (d_X13_watches_L2 x f g j1 k2 (j2 + 1) 0) else (d_X13_watches_L2 x f g j1 k2 (j2 + 1) 1)))
def d_X13_watches_L1 (x : Int32) (f : Nat → Int32) (g : Nat → Int32) : Nat → Nat → Int32 → Int32
  | 0, _, a2_1 => a2_1
  | k1 + 1, j1, a2_1 => (d_X13_watches_L1 x f g k1 (j1 + 1) (d_X13_watches_L2 x f g j1 j1 0 a2_1))
def d_X13_watches (x : Int32) (n : Nat) (f : Nat → Int32) (g : Nat → Int32) : Int32 := (d_X13_watches_L1 x f g n 0 1)
set_option maxRecDepth 100000 in
set_option maxHeartbeats 8000000 in
theorem c_X13_watches {l : Launch} {z : Nat} {D : va_G} {kA : Nat → ClassId} {kE : Nat → Nat} {nx : Nat} {M : pm_M} {x : Int32} {n : Nat}{m0 : Nat} {f : Nat → Int32} {g : Nat → Int32} (hM : M m0 = some (pm_mo z m0 f)) (hg : M (m0 + 1) = some (.inl (kA 0, 91, .inl g))) (hn : g 0 = nI n) (h7 : n ≤ 7) : pm_C l z D kA kE yX13_watches cX13_watches 5 (some .boolean) 1 0 0 [.ref (z + m0), .int x] nx M (pm_rt (some (.int (d_X13_watches x n f g))) nx M) := by
  refine pm_mk (own := RX13) (nm := "watches") mt_X13_watches rfl rfl rfl rfl fun X B => ?_
  refine pm_loc (L' := [some (.ref (z + m0)), some (.int x), none, none, none]) rfl ?_
  refine pm_iconst (v := 1) B dX13_watches_0 (by decide) ?_
  refine pm_istore_n B dX13_watches_1 rfl rfl ?_
  refine pm_loc (L' := [some (.ref (z + m0)), some (.int x), some (.int 1), none, none]) rfl ?_
  refine pm_iconst (v := 0) B dX13_watches_2 (by decide) ?_
  refine pm_istore_n B dX13_watches_3 rfl rfl ?_
  refine pm_loc (L' := [some (.ref (z + m0)), some (.int x), some (.int 1), some (.int 0), none]) rfl ?_
  refine pm_loc (L' := [some (.ref (z + m0)), some (.int x), some (.int 1), some (.int (nI 0)), none]) rfl ?_
  have loop1 : ∀ (K1 : (Int32 → Int32)), (∀ (a2_1 : Int32), pm_G l z D X 0 0 (pm_Q z D (pm_rt (some (.int (K1 a2_1))) nx M) 0 0 X) nx M 70 [none, none, some (.int a2_1), none, none] []) → ∀ (k1 j1 : Nat), j1 + k1 = n → ∀ (a2_1 : Int32), pm_G l z D X 0 0 (pm_Q z D (pm_rt (some (.int (K1 (d_X13_watches_L1 x f g k1 j1 a2_1)))) nx M) 0 0 X) nx M 4 [some (.ref (z + m0)), some (.int x), some (.int a2_1), some (.int (nI j1)), none] [] := by
    intro K1 hK1 k1
    induction k1 with
    | zero =>
      intro j1 hj1 a2_1
      have hjn1 : j1 = n := by omega
      refine pm_iload_n B dX13_watches_4 rfl ?_
      refine pm_aload_n B dX13_watches_5 rfl ?_
      refine pm_get B dX13_watches_6 fl_X13_9 hM rfl ?_
      refine pm_iconst (v := 0) B dX13_watches_9 (by decide) ?_
      refine pm_iald_n B dX13_watches_10 hg 0 (by decide) (by decide) ?_
      refine pm_stk (st' := [.int (nI n), .int (nI j1)]) (by rw [show (g 0) = (nI n) from by rw [hn]]) ?_
      refine pm_icmp_ge (tgt := 70) B dX13_watches_11 (by decide) (fun hq1 => ?_) (fun hq1 => absurd ((nI_leI (by first | omega | decide) (by first | omega | decide)).mpr (by omega)) hq1)
      refine pm_wk (L' := [none, none, some (.int a2_1), none, none]) ⟨rfl, trivial⟩ ?_
      have hDq2 : (K1 (d_X13_watches_L1 x f g 0 j1 a2_1)) = (K1 a2_1) := by rw [d_X13_watches_L1]
      refine pm_pst (post' := pm_rt (some (.int (K1 a2_1))) nx M) (by rw [hDq2]) ?_
      exact hK1 a2_1
    | succ k1 ih1 =>
      intro j1 hj1 a2_1
      have hjn1 : j1 < n := by omega
      refine pm_iload_n B dX13_watches_4 rfl ?_
      refine pm_aload_n B dX13_watches_5 rfl ?_
      refine pm_get B dX13_watches_6 fl_X13_9 hM rfl ?_
      refine pm_iconst (v := 0) B dX13_watches_9 (by decide) ?_
      refine pm_iald_n B dX13_watches_10 hg 0 (by decide) (by decide) ?_
      refine pm_stk (st' := [.int (nI n), .int (nI j1)]) (by rw [show (g 0) = (nI n) from by rw [hn]]) ?_
      refine pm_icmp_ge (tgt := 70) B dX13_watches_11 (by decide) (fun hq3 => absurd hq3 (fun e => absurd ((nI_leI (by first | omega | decide) (by first | omega | decide)).mp e) (by omega))) (fun hq3 => ?_)
      refine pm_iconst (v := 0) B dX13_watches_14 (by decide) ?_
      refine pm_istore B dX13_watches_15 rfl rfl ?_
      refine pm_loc (L' := [some (.ref (z + m0)), some (.int x), some (.int a2_1), some (.int (nI j1)), some (.int 0)]) rfl ?_
      refine pm_loc (L' := [some (.ref (z + m0)), some (.int x), some (.int a2_1), some (.int (nI j1)), some (.int (nI 0))]) rfl ?_
      have loop2 : ∀ (K2 : (Int32 → Int32)), (∀ (a2_2 : Int32), pm_G l z D X 0 0 (pm_Q z D (pm_rt (some (.int (K2 a2_2))) nx M) 0 0 X) nx M 64 [some (.ref (z + m0)), some (.int x), some (.int a2_2), some (.int (nI j1)), none] []) → ∀ (k2 j2 : Nat), j2 + k2 = j1 → ∀ (a2_2 : Int32), pm_G l z D X 0 0 (pm_Q z D (pm_rt (some (.int (K2 (d_X13_watches_L2 x f g j1 k2 j2 a2_2)))) nx M) 0 0 X) nx M 17 [some (.ref (z + m0)), some (.int x), some (.int a2_2), some (.int (nI j1)), some (.int (nI j2))] [] := by
        intro K2 hK2 k2
        induction k2 with
        | zero =>
          intro j2 hj2 a2_2
          have hjn2 : j2 = j1 := by omega
          refine pm_iload B dX13_watches_17 rfl ?_
          refine pm_iload_n B dX13_watches_19 rfl ?_
          refine pm_icmp_ge (tgt := 64) B dX13_watches_20 (by decide) (fun hq4 => ?_) (fun hq4 => absurd ((nI_leI (by first | omega | decide) (by first | omega | decide)).mpr (by omega)) hq4)
          refine pm_wk (L' := [some (.ref (z + m0)), some (.int x), some (.int a2_2), some (.int (nI j1)), none]) ⟨rfl, ⟨rfl, ⟨rfl, ⟨rfl, trivial⟩⟩⟩⟩ ?_
          have hDq5 : (K2 (d_X13_watches_L2 x f g j1 0 j2 a2_2)) = (K2 a2_2) := by rw [d_X13_watches_L2]
          refine pm_pst (post' := pm_rt (some (.int (K2 a2_2))) nx M) (by rw [hDq5]) ?_
          exact hK2 a2_2
        | succ k2 ih2 =>
          intro j2 hj2 a2_2
          have hjn2 : j2 < j1 := by omega
          refine pm_iload B dX13_watches_17 rfl ?_
          refine pm_iload_n B dX13_watches_19 rfl ?_
          refine pm_icmp_ge (tgt := 64) B dX13_watches_20 (by decide) (fun hq6 => absurd hq6 (fun e => absurd ((nI_leI (by first | omega | decide) (by first | omega | decide)).mp e) (by omega))) (fun hq6 => ?_)
          refine pm_iload_n B dX13_watches_23 rfl ?_
          refine pm_if_eq (tgt := 56) B dX13_watches_24 (by decide) (fun hq7 => ?_) (fun hq7 => ?_)
          · refine pm_iconst (v := 0) B dX13_watches_56 (by decide) ?_
            refine pm_istore_n B dX13_watches_57 rfl rfl ?_
            refine pm_loc (L' := [some (.ref (z + m0)), some (.int x), some (.int 0), some (.int (nI j1)), some (.int (nI j2))]) rfl ?_
            refine pm_iinc B dX13_watches_58 rfl rfl rfl ?_
            refine pm_loc (L' := [some (.ref (z + m0)), some (.int x), some (.int 0), some (.int (nI j1)), some (.int (nI (j2 + 1)))]) (by rw [show ((nI j2) : Int32) + Int32.ofInt 1 = (nI (j2 + 1)) from nI_1 _]; rfl) ?_
            refine pm_goto (tgt := 17) B dX13_watches_61 (by decide) ?_
            have hDq8 : (K2 (d_X13_watches_L2 x f g j1 (k2 + 1) j2 a2_2)) = (K2 (d_X13_watches_L2 x f g j1 k2 (j2 + 1) 0)) := by rw [d_X13_watches_L2, if_pos hq7]
            refine pm_pst (post' := pm_rt (some (.int (K2 (d_X13_watches_L2 x f g j1 k2 (j2 + 1) 0)))) nx M) (by rw [hDq8]) ?_
            exact ih2 (j2 + 1) (by omega) 0
          · refine pm_aload_n B dX13_watches_27 rfl ?_
            refine pm_iload_n B dX13_watches_28 rfl ?_
            refine pm_iload B dX13_watches_29 rfl ?_
            refine pm_cV (As := [.int (nI j1), .int (nI j2)]) (mc2 := 0) (ms2 := 0) B rfl hM rfl (c_X13_linked (i := j1) (w := j2) (f := f) (g := g) hM hg (by omega) (by omega)) mt_X13_linked sv_X13_156 dX13_watches_31 rfl rfl rfl rfl rfl ?_
            refine pm_stk (st' := [.int (d_X13_linked j1 j2 f g)]) rfl ?_
            refine pm_if_eq (tgt := 52) B dX13_watches_34 (by decide) (fun hq9 => ?_) (fun hq9 => ?_)
            · refine pm_iconst (v := 1) B dX13_watches_52 (by decide) ?_
              refine pm_goto (tgt := 57) B dX13_watches_53 (by decide) ?_
              refine pm_istore_n B dX13_watches_57 rfl rfl ?_
              refine pm_loc (L' := [some (.ref (z + m0)), some (.int x), some (.int 1), some (.int (nI j1)), some (.int (nI j2))]) rfl ?_
              refine pm_iinc B dX13_watches_58 rfl rfl rfl ?_
              refine pm_loc (L' := [some (.ref (z + m0)), some (.int x), some (.int 1), some (.int (nI j1)), some (.int (nI (j2 + 1)))]) (by rw [show ((nI j2) : Int32) + Int32.ofInt 1 = (nI (j2 + 1)) from nI_1 _]; rfl) ?_
              refine pm_goto (tgt := 17) B dX13_watches_61 (by decide) ?_
              have hDq10 : (K2 (d_X13_watches_L2 x f g j1 (k2 + 1) j2 a2_2)) = (K2 (d_X13_watches_L2 x f g j1 k2 (j2 + 1) 1)) := by rw [d_X13_watches_L2, if_neg hq7, if_pos hq9]
              refine pm_pst (post' := pm_rt (some (.int (K2 (d_X13_watches_L2 x f g j1 k2 (j2 + 1) 1)))) nx M) (by rw [hDq10]) ?_
              exact ih2 (j2 + 1) (by omega) 1
            · refine pm_iload_n B dX13_watches_37 rfl ?_
              refine pm_iload_n B dX13_watches_38 rfl ?_
              refine pm_ishr B dX13_watches_39 ?_
              refine pm_iconst (v := 1) B dX13_watches_40 (by decide) ?_
              refine pm_iand B dX13_watches_41 ?_
              refine pm_iload_n B dX13_watches_42 rfl ?_
              refine pm_iload B dX13_watches_43 rfl ?_
              refine pm_ishr B dX13_watches_45 ?_
              refine pm_iconst (v := 1) B dX13_watches_46 (by decide) ?_
              refine pm_iand B dX13_watches_47 ?_
              refine pm_iadd B dX13_watches_48 ?_
              refine pm_if_le (tgt := 56) B dX13_watches_49 (by decide) (fun hq11 => ?_) (fun hq11 => ?_)
              · refine pm_iconst (v := 0) B dX13_watches_56 (by decide) ?_
                refine pm_istore_n B dX13_watches_57 rfl rfl ?_
                refine pm_loc (L' := [some (.ref (z + m0)), some (.int x), some (.int 0), some (.int (nI j1)), some (.int (nI j2))]) rfl ?_
                refine pm_iinc B dX13_watches_58 rfl rfl rfl ?_
                refine pm_loc (L' := [some (.ref (z + m0)), some (.int x), some (.int 0), some (.int (nI j1)), some (.int (nI (j2 + 1)))]) (by rw [show ((nI j2) : Int32) + Int32.ofInt 1 = (nI (j2 + 1)) from nI_1 _]; rfl) ?_
                refine pm_goto (tgt := 17) B dX13_watches_61 (by decide) ?_
                have hDq12 : (K2 (d_X13_watches_L2 x f g j1 (k2 + 1) j2 a2_2)) = (K2 (d_X13_watches_L2 x f g j1 k2 (j2 + 1) 0)) := by rw [d_X13_watches_L2, if_neg hq7, if_neg hq9, if_pos hq11]
                refine pm_pst (post' := pm_rt (some (.int (K2 (d_X13_watches_L2 x f g j1 k2 (j2 + 1) 0)))) nx M) (by rw [hDq12]) ?_
                exact ih2 (j2 + 1) (by omega) 0
              · refine pm_iconst (v := 1) B dX13_watches_52 (by decide) ?_
                refine pm_goto (tgt := 57) B dX13_watches_53 (by decide) ?_
                refine pm_istore_n B dX13_watches_57 rfl rfl ?_
                refine pm_loc (L' := [some (.ref (z + m0)), some (.int x), some (.int 1), some (.int (nI j1)), some (.int (nI j2))]) rfl ?_
                refine pm_iinc B dX13_watches_58 rfl rfl rfl ?_
                refine pm_loc (L' := [some (.ref (z + m0)), some (.int x), some (.int 1), some (.int (nI j1)), some (.int (nI (j2 + 1)))]) (by rw [show ((nI j2) : Int32) + Int32.ofInt 1 = (nI (j2 + 1)) from nI_1 _]; rfl) ?_
                refine pm_goto (tgt := 17) B dX13_watches_61 (by decide) ?_
                have hDq13 : (K2 (d_X13_watches_L2 x f g j1 (k2 + 1) j2 a2_2)) = (K2 (d_X13_watches_L2 x f g j1 k2 (j2 + 1) 1)) := by rw [d_X13_watches_L2, if_neg hq7, if_neg hq9, if_neg hq11]
                refine pm_pst (post' := pm_rt (some (.int (K2 (d_X13_watches_L2 x f g j1 k2 (j2 + 1) 1)))) nx M) (by rw [hDq13]) ?_
                exact ih2 (j2 + 1) (by omega) 1
      refine pm_pst (post' := pm_rt (some (.int (K1 (d_X13_watches_L1 x f g k1 (j1 + 1) (d_X13_watches_L2 x f g j1 j1 0 a2_1))))) nx M) (by rw [show (K1 (d_X13_watches_L1 x f g (k1 + 1) j1 a2_1)) = (K1 (d_X13_watches_L1 x f g k1 (j1 + 1) (d_X13_watches_L2 x f g j1 j1 0 a2_1))) from by rw [d_X13_watches_L1]]) ?_
      refine loop2 (fun (a2_2 : Int32) => (K1 (d_X13_watches_L1 x f g k1 (j1 + 1) a2_2))) ?_ j1 0 (by omega) a2_1
      intro a2_2
      refine pm_pst (post' := pm_rt (some (.int (K1 (d_X13_watches_L1 x f g k1 (j1 + 1) a2_2)))) nx M) rfl ?_
      refine pm_iinc B dX13_watches_64 rfl rfl rfl ?_
      refine pm_loc (L' := [some (.ref (z + m0)), some (.int x), some (.int a2_2), some (.int (nI (j1 + 1))), none]) (by rw [show ((nI j1) : Int32) + Int32.ofInt 1 = (nI (j1 + 1)) from nI_1 _]; rfl) ?_
      refine pm_goto (tgt := 4) B dX13_watches_67 (by decide) ?_
      have hDq14 : ((K1 (d_X13_watches_L1 x f g k1 (j1 + 1) a2_2))) = (K1 (d_X13_watches_L1 x f g k1 (j1 + 1) a2_2)) := rfl
      refine pm_pst (post' := pm_rt (some (.int (K1 (d_X13_watches_L1 x f g k1 (j1 + 1) a2_2)))) nx M) (by rw [hDq14]) ?_
      exact ih1 (j1 + 1) (by omega) a2_2
  refine pm_pst (post' := pm_rt (some (.int (d_X13_watches_L1 x f g n 0 1))) nx M) (by rw [show (d_X13_watches x n f g) = (d_X13_watches_L1 x f g n 0 1) from by rw [d_X13_watches]]) ?_
  refine loop1 (fun (a2_1 : Int32) => a2_1) ?_ n 0 (by omega) 1
  intro a2_1
  refine pm_pst (post' := pm_rt (some (.int a2_1)) nx M) rfl ?_
  refine pm_iload_n B dX13_watches_70 rfl ?_
  have hDq15 : (a2_1) = a2_1 := rfl
  exact pm_ireturn B dX13_watches_71 rfl (by first | rfl | (apply pm_nz; first | assumption | decide | exact pm_in01 _ _ _ | simp, *)) ⟨(by rw [hDq15]), rfl, rfl⟩ rfl rfl
theorem d_X13_watches01 (x : Int32) (n : Nat) (f g : Nat → Int32) : d_X13_watches x n f g = 0 ∨ d_X13_watches x n f g = 1 := by
  have h2 : ∀ (k j j1 : Nat) (a : Int32), (a = 0 ∨ a = 1) → (d_X13_watches_L2 x j1 g k j a = 0 ∨ d_X13_watches_L2 x j1 g k j a = 1) := by
    intro k
    induction k with
    | zero => intro j j1 a h; exact h
    | succ k ih =>
      intro j j1 a h
      simp only [d_X13_watches_L2]
      (repeat' split) <;> apply ih <;> simp
  have h1 : ∀ (k j : Nat) (a : Int32), (a = 0 ∨ a = 1) → (d_X13_watches_L1 x g k j a = 0 ∨ d_X13_watches_L1 x g k j a = 1) := by
    intro k
    induction k with
    | zero => intro j a h; exact h
    | succ k ih =>
      intro j a h
      simp only [d_X13_watches_L1]
      exact ih _ _ (h2 _ _ _ _ h)
  exact h1 _ _ _ (Or.inr rfl)
