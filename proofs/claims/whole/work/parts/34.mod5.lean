/-! ThunderCartelModel: sets of members, votes -/
theorem pm_01z {x : Int32} (h : ¬ x < 0) (hk : pm_n x < 128) : x = nI (pm_n x) := by
  obtain ⟨j, hj, rfl⟩ := nI_of h
  rw [pm_n_nI hj]
theorem pm_andN {x : Nat} (hx : x < 128) (y : Int32) : ∃ m, m ≤ x ∧ nI x &&& y = nI m := by
  refine ⟨x &&& y.toBitVec.toNat, Nat.and_le_left, ?_⟩
  apply Int32.toBitVec_inj.mp
  apply BitVec.eq_of_toNat_eq
  have h1 : ∀ k : Nat, k < 128 → (nI k).toBitVec.toNat = k := by
    intro k hk
    have : ∀ k : Fin 128, (nI k.1).toBitVec.toNat = k.1 := by decide +kernel
    exact this ⟨k, hk⟩
  have h2 : x &&& y.toBitVec.toNat < 128 := Nat.lt_of_le_of_lt Nat.and_le_left hx
  rw [Int32.toBitVec_and, BitVec.toNat_and, h1 x hx, h1 _ h2]
theorem pm_andL {x : Nat} (hx : x < 128) (y : Int32) : pm_n (nI x &&& y) < 128 ∧ nI x &&& y = nI (pm_n (nI x &&& y)) := by
  obtain ⟨m, hm, he⟩ := pm_andN hx y
  rw [he, pm_n_nI (by omega)]
  exact ⟨by omega, rfl⟩
theorem pm_orB : ∀ x : Fin 128, ∀ j : Fin 7, (nI x.1 ||| 1 <<< (nI j.1 &&& 31)) = nI (x.1 ||| 2 ^ j.1) ∧ x.1 ||| 2 ^ j.1 < 128 := by decide +kernel
def d_X13_watches_L2 (x : Int32) (f : Nat → Int32) (g : Nat → Int32) (j1 : Nat) : Nat → Nat → Int32 → Int32
  | 0, _, a2_2 => a2_2
  | k2 + 1, j2, a2_2 => if a2_2 = 0 then (d_X13_watches_L2 x f g j1 k2 (j2 + 1) 0) else (if (d_X13_linked j1 j2 f g) = 0 then (d_X13_watches_L2 x f g j1 k2 (j2 + 1) 1) else (if (((x >>> ((nI j1) &&& 31)) &&& 1) + ((x >>> ((nI j2) &&& 31)) &&& 1)) ≤ 0 then (d_X13_watches_L2 x f g j1 k2 (j2 + 1) 0) else (d_X13_watches_L2 x f g j1 k2 (j2 + 1) 1)))
def d_X13_watches_L1 (x : Int32) (f : Nat → Int32) (g : Nat → Int32) : Nat → Nat → Int32 → Int32
  | 0, _, a2_1 => a2_1
  | k1 + 1, j1, a2_1 => (d_X13_watches_L1 x f g k1 (j1 + 1) (d_X13_watches_L2 x f g j1 j1 0 a2_1))
def d_X13_watches (x : Int32) (n : Nat) (f : Nat → Int32) (g : Nat → Int32) : Int32 := (d_X13_watches_L1 x f g n 0 1)
set_option maxRecDepth 100000 in
set_option maxHeartbeats 8000000 in
theorem c_X13_watches {l : Launch} {z : Nat} {D : va_G} {kA : Nat → ClassId} {kE : Nat → Nat} {nx : Nat} {M : pm_M} {x : Int32} {n : Nat}{m0 : Nat} {f : Nat → Int32} {g : Nat → Int32} (hM : M m0 = some (pm_mo z m0 f)) (hg : M (m0 + 1) = some (.inl (kA 0, 91, .inl g))) (hn : g 0 = nI n) (h7 : n ≤ 7) : pm_C l z D kA kE yX13_watches cX13_watches 5 (some .boolean) 1 0 0 [.ref (z + m0), .int x] nx M (pm_rt (some (.int (d_X13_watches x n f g))) nx M) := by
  refine pm_mk (own := RX13) (nm := "watches") mt_X13_watches rfl rfl rfl rfl fun X B => ?_
  refine pm_loc (L' := [some (.ref (z + m0)), some (.int x), none, none, none]) rfl ?_
  refine pm_iconst (v := 1) B dX13_watches_0 (by decide) ?_
  refine pm_istore_n B dX13_watches_1 rfl rfl ?_
  refine pm_loc (L' := [some (.ref (z + m0)), some (.int x), some (.int 1), none, none]) rfl ?_
  refine pm_iconst (v := 0) B dX13_watches_2 (by decide) ?_
  refine pm_istore_n B dX13_watches_3 rfl rfl ?_
  refine pm_loc (L' := [some (.ref (z + m0)), some (.int x), some (.int 1), some (.int 0), none]) rfl ?_
  refine pm_loc (L' := [some (.ref (z + m0)), some (.int x), some (.int 1), some (.int (nI 0)), none]) rfl ?_
  have loop1 : ∀ (K1 : (Int32 → Int32)), (∀ (a2_1 : Int32), (hb_1 : a2_1 = 0 ∨ a2_1 = 1) → pm_G l z D X 0 0 (pm_Q z D (pm_rt (some (.int (K1 a2_1))) nx M) 0 0 X) nx M 70 [none, none, some (.int a2_1), none, none] []) → ∀ (k1 j1 : Nat), j1 + k1 = n → ∀ (a2_1 : Int32), (hb_1 : a2_1 = 0 ∨ a2_1 = 1) → pm_G l z D X 0 0 (pm_Q z D (pm_rt (some (.int (K1 (d_X13_watches_L1 x f g k1 j1 a2_1)))) nx M) 0 0 X) nx M 4 [some (.ref (z + m0)), some (.int x), some (.int a2_1), some (.int (nI j1)), none] [] := by
    intro K1 hK1 k1
    induction k1 with
    | zero =>
      intro j1 hj1 a2_1 hb_1
      have hjn1 : j1 = n := by omega
      refine pm_iload_n B dX13_watches_4 rfl ?_
      refine pm_aload_n B dX13_watches_5 rfl ?_
      refine pm_get B dX13_watches_6 fl_X13_9 hM rfl ?_
      refine pm_iconst (v := 0) B dX13_watches_9 (by decide) ?_
      refine pm_iald_n B dX13_watches_10 hg 0 (by decide) (by decide) ?_
      refine pm_stk (st' := [.int (nI n), .int (nI j1)]) (by rw [show (g 0) = (nI n) from by rw [hn]]) ?_
      refine pm_icmp_ge (tgt := 70) B dX13_watches_11 (by decide) (fun hq1 => ?_) (fun hq1 => absurd ((nI_leI (by first | omega | decide) (by first | omega | decide)).mpr (by omega)) hq1)
      refine pm_wk (L' := [none, none, some (.int a2_1), none, none]) ⟨rfl, trivial⟩ ?_
      have hDq2 : (K1 (d_X13_watches_L1 x f g 0 j1 a2_1)) = (K1 a2_1) := by rw [d_X13_watches_L1]
      refine pm_pst (post' := pm_rt (some (.int (K1 a2_1))) nx M) (by rw [hDq2]) ?_
      exact hK1 a2_1 ((by first | exact Or.inl rfl | exact Or.inr rfl | assumption))
    | succ k1 ih1 =>
      intro j1 hj1 a2_1 hb_1
      have hjn1 : j1 < n := by omega
      refine pm_iload_n B dX13_watches_4 rfl ?_
      refine pm_aload_n B dX13_watches_5 rfl ?_
      refine pm_get B dX13_watches_6 fl_X13_9 hM rfl ?_
      refine pm_iconst (v := 0) B dX13_watches_9 (by decide) ?_
      refine pm_iald_n B dX13_watches_10 hg 0 (by decide) (by decide) ?_
      refine pm_stk (st' := [.int (nI n), .int (nI j1)]) (by rw [show (g 0) = (nI n) from by rw [hn]]) ?_
      refine pm_icmp_ge (tgt := 70) B dX13_watches_11 (by decide) (fun hq3 => absurd hq3 (fun e => absurd ((nI_leI (by first | omega | decide) (by first | omega | decide)).mp e) (by omega))) (fun hq3 => ?_)
      refine pm_iconst (v := 0) B dX13_watches_14 (by decide) ?_
      refine pm_istore B dX13_watches_15 rfl rfl ?_
      refine pm_loc (L' := [some (.ref (z + m0)), some (.int x), some (.int a2_1), some (.int (nI j1)), some (.int 0)]) rfl ?_
      refine pm_loc (L' := [some (.ref (z + m0)), some (.int x), some (.int a2_1), some (.int (nI j1)), some (.int (nI 0))]) rfl ?_
      have loop2 : ∀ (K2 : (Int32 → Int32)), (∀ (a2_2 : Int32), (hb_2 : a2_2 = 0 ∨ a2_2 = 1) → pm_G l z D X 0 0 (pm_Q z D (pm_rt (some (.int (K2 a2_2))) nx M) 0 0 X) nx M 64 [some (.ref (z + m0)), some (.int x), some (.int a2_2), some (.int (nI j1)), none] []) → ∀ (k2 j2 : Nat), j2 + k2 = j1 → ∀ (a2_2 : Int32), (hb_2 : a2_2 = 0 ∨ a2_2 = 1) → pm_G l z D X 0 0 (pm_Q z D (pm_rt (some (.int (K2 (d_X13_watches_L2 x f g j1 k2 j2 a2_2)))) nx M) 0 0 X) nx M 17 [some (.ref (z + m0)), some (.int x), some (.int a2_2), some (.int (nI j1)), some (.int (nI j2))] [] := by
        intro K2 hK2 k2
        induction k2 with
        | zero =>
          intro j2 hj2 a2_2 hb_2
          have hjn2 : j2 = j1 := by omega
          refine pm_iload B dX13_watches_17 rfl ?_
          refine pm_iload_n B dX13_watches_19 rfl ?_
          refine pm_icmp_ge (tgt := 64) B dX13_watches_20 (by decide) (fun hq4 => ?_) (fun hq4 => absurd ((nI_leI (by first | omega | decide) (by first | omega | decide)).mpr (by omega)) hq4)
          refine pm_wk (L' := [some (.ref (z + m0)), some (.int x), some (.int a2_2), some (.int (nI j1)), none]) ⟨rfl, ⟨rfl, ⟨rfl, ⟨rfl, trivial⟩⟩⟩⟩ ?_
          have hDq5 : (K2 (d_X13_watches_L2 x f g j1 0 j2 a2_2)) = (K2 a2_2) := by rw [d_X13_watches_L2]
          refine pm_pst (post' := pm_rt (some (.int (K2 a2_2))) nx M) (by rw [hDq5]) ?_
          exact hK2 a2_2 ((by first | exact Or.inl rfl | exact Or.inr rfl | assumption))
        | succ k2 ih2 =>
          intro j2 hj2 a2_2 hb_2
          have hjn2 : j2 < j1 := by omega
          refine pm_iload B dX13_watches_17 rfl ?_
          refine pm_iload_n B dX13_watches_19 rfl ?_
          refine pm_icmp_ge (tgt := 64) B dX13_watches_20 (by decide) (fun hq6 => absurd hq6 (fun e => absurd ((nI_leI (by first | omega | decide) (by first | omega | decide)).mp e) (by omega))) (fun hq6 => ?_)
          refine pm_iload_n B dX13_watches_23 rfl ?_
          refine pm_if_eq (tgt := 56) B dX13_watches_24 (by decide) (fun hq7 => ?_) (fun hq7 => ?_)
          · refine pm_iconst (v := 0) B dX13_watches_56 (by decide) ?_
            refine pm_istore_n B dX13_watches_57 rfl rfl ?_
            refine pm_loc (L' := [some (.ref (z + m0)), some (.int x), some (.int 0), some (.int (nI j1)), some (.int (nI j2))]) rfl ?_
            refine pm_iinc B dX13_watches_58 rfl rfl rfl ?_
            refine pm_loc (L' := [some (.ref (z + m0)), some (.int x), some (.int 0), some (.int (nI j1)), some (.int (nI (j2 + 1)))]) (by rw [show ((nI j2) : Int32) + Int32.ofInt 1 = (nI (j2 + 1)) from nI_1 _]; rfl) ?_
            refine pm_goto (tgt := 17) B dX13_watches_61 (by decide) ?_
            have hDq8 : (K2 (d_X13_watches_L2 x f g j1 (k2 + 1) j2 a2_2)) = (K2 (d_X13_watches_L2 x f g j1 k2 (j2 + 1) 0)) := by rw [d_X13_watches_L2, if_pos hq7]
            refine pm_pst (post' := pm_rt (some (.int (K2 (d_X13_watches_L2 x f g j1 k2 (j2 + 1) 0)))) nx M) (by rw [hDq8]) ?_
            exact ih2 (j2 + 1) (by omega) 0 ((by first | exact Or.inl rfl | exact Or.inr rfl | assumption))
          · refine pm_aload_n B dX13_watches_27 rfl ?_
            refine pm_iload_n B dX13_watches_28 rfl ?_
            refine pm_iload B dX13_watches_29 rfl ?_
            refine pm_cV (As := [.int (nI j1), .int (nI j2)]) (mc2 := 0) (ms2 := 0) B rfl hM rfl (c_X13_linked (i := j1) (w := j2) (f := f) (g := g) hM hg (by omega) (by omega)) mt_X13_linked sv_X13_156 dX13_watches_31 rfl rfl rfl rfl rfl ?_
            refine pm_stk (st' := [.int (d_X13_linked j1 j2 f g)]) rfl ?_
            refine pm_if_eq (tgt := 52) B dX13_watches_34 (by decide) (fun hq9 => ?_) (fun hq9 => ?_)
            · refine pm_iconst (v := 1) B dX13_watches_52 (by decide) ?_
              refine pm_goto (tgt := 57) B dX13_watches_53 (by decide) ?_
              refine pm_istore_n B dX13_watches_57 rfl rfl ?_
              refine pm_loc (L' := [some (.ref (z + m0)), some (.int x), some (.int 1), some (.int (nI j1)), some (.int (nI j2))]) rfl ?_
              refine pm_iinc B dX13_watches_58 rfl rfl rfl ?_
              refine pm_loc (L' := [some (.ref (z + m0)), some (.int x), some (.int 1), some (.int (nI j1)), some (.int (nI (j2 + 1)))]) (by rw [show ((nI j2) : Int32) + Int32.ofInt 1 = (nI (j2 + 1)) from nI_1 _]; rfl) ?_
              refine pm_goto (tgt := 17) B dX13_watches_61 (by decide) ?_
              have hDq10 : (K2 (d_X13_watches_L2 x f g j1 (k2 + 1) j2 a2_2)) = (K2 (d_X13_watches_L2 x f g j1 k2 (j2 + 1) 1)) := by rw [d_X13_watches_L2, if_neg hq7, if_pos hq9]
              refine pm_pst (post' := pm_rt (some (.int (K2 (d_X13_watches_L2 x f g j1 k2 (j2 + 1) 1)))) nx M) (by rw [hDq10]) ?_
              exact ih2 (j2 + 1) (by omega) 1 ((by first | exact Or.inl rfl | exact Or.inr rfl | assumption))
            · refine pm_iload_n B dX13_watches_37 rfl ?_
              refine pm_iload_n B dX13_watches_38 rfl ?_
              refine pm_ishr B dX13_watches_39 ?_
              refine pm_iconst (v := 1) B dX13_watches_40 (by decide) ?_
              refine pm_iand B dX13_watches_41 ?_
              refine pm_iload_n B dX13_watches_42 rfl ?_
              refine pm_iload B dX13_watches_43 rfl ?_
              refine pm_ishr B dX13_watches_45 ?_
              refine pm_iconst (v := 1) B dX13_watches_46 (by decide) ?_
              refine pm_iand B dX13_watches_47 ?_
              refine pm_iadd B dX13_watches_48 ?_
              refine pm_if_le (tgt := 56) B dX13_watches_49 (by decide) (fun hq11 => ?_) (fun hq11 => ?_)
              · refine pm_iconst (v := 0) B dX13_watches_56 (by decide) ?_
                refine pm_istore_n B dX13_watches_57 rfl rfl ?_
                refine pm_loc (L' := [some (.ref (z + m0)), some (.int x), some (.int 0), some (.int (nI j1)), some (.int (nI j2))]) rfl ?_
                refine pm_iinc B dX13_watches_58 rfl rfl rfl ?_
                refine pm_loc (L' := [some (.ref (z + m0)), some (.int x), some (.int 0), some (.int (nI j1)), some (.int (nI (j2 + 1)))]) (by rw [show ((nI j2) : Int32) + Int32.ofInt 1 = (nI (j2 + 1)) from nI_1 _]; rfl) ?_
                refine pm_goto (tgt := 17) B dX13_watches_61 (by decide) ?_
                have hDq12 : (K2 (d_X13_watches_L2 x f g j1 (k2 + 1) j2 a2_2)) = (K2 (d_X13_watches_L2 x f g j1 k2 (j2 + 1) 0)) := by rw [d_X13_watches_L2, if_neg hq7, if_neg hq9, if_pos hq11]
                refine pm_pst (post' := pm_rt (some (.int (K2 (d_X13_watches_L2 x f g j1 k2 (j2 + 1) 0)))) nx M) (by rw [hDq12]) ?_
                exact ih2 (j2 + 1) (by omega) 0 ((by first | exact Or.inl rfl | exact Or.inr rfl | assumption))
              · refine pm_iconst (v := 1) B dX13_watches_52 (by decide) ?_
                refine pm_goto (tgt := 57) B dX13_watches_53 (by decide) ?_
                refine pm_istore_n B dX13_watches_57 rfl rfl ?_
                refine pm_loc (L' := [some (.ref (z + m0)), some (.int x), some (.int 1), some (.int (nI j1)), some (.int (nI j2))]) rfl ?_
                refine pm_iinc B dX13_watches_58 rfl rfl rfl ?_
                refine pm_loc (L' := [some (.ref (z + m0)), some (.int x), some (.int 1), some (.int (nI j1)), some (.int (nI (j2 + 1)))]) (by rw [show ((nI j2) : Int32) + Int32.ofInt 1 = (nI (j2 + 1)) from nI_1 _]; rfl) ?_
                refine pm_goto (tgt := 17) B dX13_watches_61 (by decide) ?_
                have hDq13 : (K2 (d_X13_watches_L2 x f g j1 (k2 + 1) j2 a2_2)) = (K2 (d_X13_watches_L2 x f g j1 k2 (j2 + 1) 1)) := by rw [d_X13_watches_L2, if_neg hq7, if_neg hq9, if_neg hq11]
                refine pm_pst (post' := pm_rt (some (.int (K2 (d_X13_watches_L2 x f g j1 k2 (j2 + 1) 1)))) nx M) (by rw [hDq13]) ?_
                exact ih2 (j2 + 1) (by omega) 1 ((by first | exact Or.inl rfl | exact Or.inr rfl | assumption))
      refine pm_pst (post' := pm_rt (some (.int (K1 (d_X13_watches_L1 x f g k1 (j1 + 1) (d_X13_watches_L2 x f g j1 j1 0 a2_1))))) nx M) (by rw [show (K1 (d_X13_watches_L1 x f g (k1 + 1) j1 a2_1)) = (K1 (d_X13_watches_L1 x f g k1 (j1 + 1) (d_X13_watches_L2 x f g j1 j1 0 a2_1))) from by rw [d_X13_watches_L1]]) ?_
      refine loop2 (fun (a2_2 : Int32) => (K1 (d_X13_watches_L1 x f g k1 (j1 + 1) a2_2))) ?_ j1 0 (by omega) a2_1 ((by first | exact Or.inl rfl | exact Or.inr rfl | assumption))
      intro a2_2 hb_2
      refine pm_pst (post' := pm_rt (some (.int (K1 (d_X13_watches_L1 x f g k1 (j1 + 1) a2_2)))) nx M) rfl ?_
      refine pm_iinc B dX13_watches_64 rfl rfl rfl ?_
      refine pm_loc (L' := [some (.ref (z + m0)), some (.int x), some (.int a2_2), some (.int (nI (j1 + 1))), none]) (by rw [show ((nI j1) : Int32) + Int32.ofInt 1 = (nI (j1 + 1)) from nI_1 _]; rfl) ?_
      refine pm_goto (tgt := 4) B dX13_watches_67 (by decide) ?_
      have hDq14 : ((K1 (d_X13_watches_L1 x f g k1 (j1 + 1) a2_2))) = (K1 (d_X13_watches_L1 x f g k1 (j1 + 1) a2_2)) := rfl
      refine pm_pst (post' := pm_rt (some (.int (K1 (d_X13_watches_L1 x f g k1 (j1 + 1) a2_2)))) nx M) (by rw [hDq14]) ?_
      exact ih1 (j1 + 1) (by omega) a2_2 ((by first | exact Or.inl rfl | exact Or.inr rfl | assumption))
  refine pm_pst (post' := pm_rt (some (.int (d_X13_watches_L1 x f g n 0 1))) nx M) (by rw [show (d_X13_watches x n f g) = (d_X13_watches_L1 x f g n 0 1) from by rw [d_X13_watches]]) ?_
  refine loop1 (fun (a2_1 : Int32) => a2_1) ?_ n 0 (by omega) 1 ((by first | exact Or.inl rfl | exact Or.inr rfl | assumption))
  intro a2_1 hb_1
  refine pm_pst (post' := pm_rt (some (.int a2_1)) nx M) rfl ?_
  refine pm_iload_n B dX13_watches_70 rfl ?_
  have hDq15 : (a2_1) = a2_1 := rfl
  exact pm_ireturn B dX13_watches_71 rfl (by first | rfl | (apply pm_nz; first | assumption | decide | exact pm_in01 _ _ _ | simp)) ⟨(by rw [hDq15]), rfl, rfl⟩ rfl rfl
def d_X13_fewestWatchers_L1 (n : Nat) (f : Nat → Int32) (g : Nat → Int32) : Nat → Nat → Int32 → Int32
  | 0, _, a1_1 => a1_1
  | k1 + 1, j1, a1_1 => if (d_X13_watches (nI j1) n (upd f 6 0) g) = 0 then (d_X13_fewestWatchers_L1 n f g k1 (j1 + 1) a1_1) else (d_X13_fewestWatchers_L1 n f g k1 (j1 + 1) (pm_min a1_1 (d_X13_bits (nI j1))))
def d_X13_fewestWatchers (n : Nat) (f : Nat → Int32) (g : Nat → Int32) : (Int32 × (Nat → Int32)) := ((d_X13_fewestWatchers_L1 n f g (2 ^ n) 0 7), (upd f 6 0))
set_option maxRecDepth 100000 in
set_option maxHeartbeats 8000000 in
theorem c_X13_fewestWatchers {l : Launch} {z : Nat} {D : va_G} {kA : Nat → ClassId} {kE : Nat → Nat} {nx : Nat} {M : pm_M} {n : Nat}{m0 : Nat} {f : Nat → Int32} {g : Nat → Int32} (hM : M m0 = some (pm_mo z m0 f)) (hg : M (m0 + 1) = some (.inl (kA 0, 91, .inl g))) (hn : g 0 = nI n) (h7 : n ≤ 7) : pm_C l z D kA kE yX13_fewestWatchers cX13_fewestWatchers 3 (some .int) 2 0 0 [.ref (z + m0)] nx M (pm_rt (some (.int ((d_X13_fewestWatchers n f g).1))) nx (pm_up M m0 (pm_mo z m0 ((d_X13_fewestWatchers n f g).2)))) := by
  refine pm_mk (own := RX13) (nm := "fewestWatchers") mt_X13_fewestWatchers rfl rfl rfl rfl fun X B => ?_
  refine pm_loc (L' := [some (.ref (z + m0)), none, none]) rfl ?_
  refine pm_mem (M' := pm_up M m0 (pm_mo z m0 f)) (by rw [pm_up_id hM]) ?_
  have h128 := pm_p7 h7
  refine pm_aload_n B dX13_fewestWatchers_0 rfl ?_
  refine pm_iconst (v := 0) B dX13_fewestWatchers_1 (by decide) ?_
  refine pm_put B dX13_fewestWatchers_2 fs_X13_39 pm_up_s rfl rfl rfl ?_
  refine pm_mem (M' := pm_up M m0 (pm_mo z m0 (upd f 6 0))) pm_up_up ?_
  refine pm_bipush (v := 7) B dX13_fewestWatchers_5 (by decide) ?_
  refine pm_istore_n B dX13_fewestWatchers_7 rfl rfl ?_
  refine pm_loc (L' := [some (.ref (z + m0)), some (.int 7), none]) rfl ?_
  refine pm_iconst (v := 0) B dX13_fewestWatchers_8 (by decide) ?_
  refine pm_istore_n B dX13_fewestWatchers_9 rfl rfl ?_
  refine pm_loc (L' := [some (.ref (z + m0)), some (.int 7), some (.int 0)]) rfl ?_
  refine pm_loc (L' := [some (.ref (z + m0)), some (.int 7), some (.int (nI 0))]) rfl ?_
  have loop1 : ∀ (K1 : (Int32 → (Int32 × (Nat → Int32)))), (∀ (a1_1 : Int32), pm_G l z D X 0 0 (pm_Q z D (pm_rt (some (.int ((K1 a1_1).1))) nx (pm_up M m0 (pm_mo z m0 ((K1 a1_1).2)))) 0 0 X) nx (pm_up M m0 (pm_mo z m0 (upd f 6 0))) 49 [none, some (.int a1_1), none] []) → ∀ (k1 j1 : Nat), j1 + k1 = (2 ^ n) → ∀ (a1_1 : Int32), pm_G l z D X 0 0 (pm_Q z D (pm_rt (some (.int ((K1 (d_X13_fewestWatchers_L1 n f g k1 j1 a1_1)).1))) nx (pm_up M m0 (pm_mo z m0 ((K1 (d_X13_fewestWatchers_L1 n f g k1 j1 a1_1)).2)))) 0 0 X) nx (pm_up M m0 (pm_mo z m0 (upd f 6 0))) 10 [some (.ref (z + m0)), some (.int a1_1), some (.int (nI j1))] [] := by
    intro K1 hK1 k1
    induction k1 with
    | zero =>
      intro j1 hj1 a1_1
      have hjn1 : j1 = (2 ^ n) := by omega
      refine pm_iload_n B dX13_fewestWatchers_10 rfl ?_
      refine pm_iconst (v := 1) B dX13_fewestWatchers_11 (by decide) ?_
      refine pm_aload_n B dX13_fewestWatchers_12 rfl ?_
      refine pm_get B dX13_fewestWatchers_13 fl_X13_9 pm_up_s rfl ?_
      refine pm_stk (st' := [.ref (z + (m0 + 1)), .int 1, .int (nI j1)]) rfl ?_
      refine pm_iconst (v := 0) B dX13_fewestWatchers_16 (by decide) ?_
      refine pm_iald_n B dX13_fewestWatchers_17 ((pm_up_n (by omega)).trans hg) 0 (by decide) (by decide) ?_
      refine pm_stk (st' := [.int (nI n), .int 1, .int (nI j1)]) (by rw [show (g 0) = (nI n) from by rw [hn]]) ?_
      refine pm_ishl B dX13_fewestWatchers_18 ?_
      refine pm_stk (st' := [.int (nI (2 ^ n)), .int (nI j1)]) (by rw [show (1 <<< ((nI n) &&& 31)) = (nI (2 ^ n)) from pm_sh1 n h7]) ?_
      refine pm_icmp_ge (tgt := 49) B dX13_fewestWatchers_19 (by decide) (fun hq1 => ?_) (fun hq1 => absurd ((nI_leI (by first | omega | decide) (by first | omega | decide)).mpr (by omega)) hq1)
      refine pm_wk (L' := [none, some (.int a1_1), none]) ⟨rfl, trivial⟩ ?_
      have hDq2 : (K1 (d_X13_fewestWatchers_L1 n f g 0 j1 a1_1)) = (K1 a1_1) := by rw [d_X13_fewestWatchers_L1]
      refine pm_pst (post' := pm_rt (some (.int ((K1 a1_1).1))) nx (pm_up M m0 (pm_mo z m0 ((K1 a1_1).2)))) (by rw [hDq2]) ?_
      exact hK1 a1_1
    | succ k1 ih1 =>
      intro j1 hj1 a1_1
      have hjn1 : j1 < (2 ^ n) := by omega
      refine pm_iload_n B dX13_fewestWatchers_10 rfl ?_
      refine pm_iconst (v := 1) B dX13_fewestWatchers_11 (by decide) ?_
      refine pm_aload_n B dX13_fewestWatchers_12 rfl ?_
      refine pm_get B dX13_fewestWatchers_13 fl_X13_9 pm_up_s rfl ?_
      refine pm_stk (st' := [.ref (z + (m0 + 1)), .int 1, .int (nI j1)]) rfl ?_
      refine pm_iconst (v := 0) B dX13_fewestWatchers_16 (by decide) ?_
      refine pm_iald_n B dX13_fewestWatchers_17 ((pm_up_n (by omega)).trans hg) 0 (by decide) (by decide) ?_
      refine pm_stk (st' := [.int (nI n), .int 1, .int (nI j1)]) (by rw [show (g 0) = (nI n) from by rw [hn]]) ?_
      refine pm_ishl B dX13_fewestWatchers_18 ?_
      refine pm_stk (st' := [.int (nI (2 ^ n)), .int (nI j1)]) (by rw [show (1 <<< ((nI n) &&& 31)) = (nI (2 ^ n)) from pm_sh1 n h7]) ?_
      refine pm_icmp_ge (tgt := 49) B dX13_fewestWatchers_19 (by decide) (fun hq3 => absurd hq3 (fun e => absurd ((nI_leI (by first | omega | decide) (by first | omega | decide)).mp e) (by omega))) (fun hq3 => ?_)
      refine pm_aload_n B dX13_fewestWatchers_22 rfl ?_
      refine pm_iload_n B dX13_fewestWatchers_23 rfl ?_
      refine pm_cV (As := [.int (nI j1)]) (mc2 := 0) (ms2 := 0) B rfl pm_up_s rfl (c_X13_watches (x := (nI j1)) (n := n) (f := (upd f 6 0)) (g := g) pm_up_s ((pm_up_n (by omega)).trans hg) hn (by first | assumption | omega)) mt_X13_watches sv_X13_166 dX13_fewestWatchers_24 rfl rfl rfl rfl rfl ?_
      refine pm_stk (st' := [.int (d_X13_watches (nI j1) n (upd f 6 0) g)]) rfl ?_
      refine pm_if_eq (tgt := 41) B dX13_fewestWatchers_27 (by decide) (fun hq4 => ?_) (fun hq4 => ?_)
      · refine pm_iload_n B dX13_fewestWatchers_41 rfl ?_
        refine pm_istore_n B dX13_fewestWatchers_42 rfl rfl ?_
        refine pm_loc (L' := [some (.ref (z + m0)), some (.int a1_1), some (.int (nI j1))]) rfl ?_
        refine pm_iinc B dX13_fewestWatchers_43 rfl rfl rfl ?_
        refine pm_loc (L' := [some (.ref (z + m0)), some (.int a1_1), some (.int (nI (j1 + 1)))]) (by rw [show ((nI j1) : Int32) + Int32.ofInt 1 = (nI (j1 + 1)) from nI_1 _]; rfl) ?_
        refine pm_goto (tgt := 10) B dX13_fewestWatchers_46 (by decide) ?_
        have hDq5 : (K1 (d_X13_fewestWatchers_L1 n f g (k1 + 1) j1 a1_1)) = (K1 (d_X13_fewestWatchers_L1 n f g k1 (j1 + 1) a1_1)) := by rw [d_X13_fewestWatchers_L1, if_pos hq4]
        refine pm_pst (post' := pm_rt (some (.int ((K1 (d_X13_fewestWatchers_L1 n f g k1 (j1 + 1) a1_1)).1))) nx (pm_up M m0 (pm_mo z m0 ((K1 (d_X13_fewestWatchers_L1 n f g k1 (j1 + 1) a1_1)).2)))) (by rw [hDq5]) ?_
        exact ih1 (j1 + 1) (by omega) a1_1
      · refine pm_iload_n B dX13_fewestWatchers_30 rfl ?_
        refine pm_iload_n B dX13_fewestWatchers_31 rfl ?_
        refine pm_cS (As := [.int (nI j1)]) (mc2 := 0) (ms2 := 0) B (c_X13_bits (x := (nI j1))  (by first | assumption | exact nI_pos (by omega)) (by first | assumption | (rw [pm_n_nI (by omega)]; omega))) mt_X13_bits ss_X13_169 dX13_fewestWatchers_32 rfl rfl rfl rfl rfl ?_
        refine pm_stk (st' := [.int (d_X13_bits (nI j1)), .int a1_1]) rfl ?_
        refine pm_mmin B dX13_fewestWatchers_35 (pm_T_in 1929 (by decide +kernel) (by decide +kernel)) rfl rfl rfl rfl ?_
        refine pm_goto (tgt := 42) B dX13_fewestWatchers_38 (by decide) ?_
        refine pm_istore_n B dX13_fewestWatchers_42 rfl rfl ?_
        refine pm_loc (L' := [some (.ref (z + m0)), some (.int (pm_min a1_1 (d_X13_bits (nI j1)))), some (.int (nI j1))]) rfl ?_
        refine pm_iinc B dX13_fewestWatchers_43 rfl rfl rfl ?_
        refine pm_loc (L' := [some (.ref (z + m0)), some (.int (pm_min a1_1 (d_X13_bits (nI j1)))), some (.int (nI (j1 + 1)))]) (by rw [show ((nI j1) : Int32) + Int32.ofInt 1 = (nI (j1 + 1)) from nI_1 _]; rfl) ?_
        refine pm_goto (tgt := 10) B dX13_fewestWatchers_46 (by decide) ?_
        have hDq6 : (K1 (d_X13_fewestWatchers_L1 n f g (k1 + 1) j1 a1_1)) = (K1 (d_X13_fewestWatchers_L1 n f g k1 (j1 + 1) (pm_min a1_1 (d_X13_bits (nI j1))))) := by rw [d_X13_fewestWatchers_L1, if_neg hq4]
        refine pm_pst (post' := pm_rt (some (.int ((K1 (d_X13_fewestWatchers_L1 n f g k1 (j1 + 1) (pm_min a1_1 (d_X13_bits (nI j1))))).1))) nx (pm_up M m0 (pm_mo z m0 ((K1 (d_X13_fewestWatchers_L1 n f g k1 (j1 + 1) (pm_min a1_1 (d_X13_bits (nI j1))))).2)))) (by rw [hDq6]) ?_
        exact ih1 (j1 + 1) (by omega) (pm_min a1_1 (d_X13_bits (nI j1)))
  refine pm_pst (post' := pm_rt (some (.int (((d_X13_fewestWatchers_L1 n f g (2 ^ n) 0 7), (upd f 6 0)).1))) nx (pm_up M m0 (pm_mo z m0 (((d_X13_fewestWatchers_L1 n f g (2 ^ n) 0 7), (upd f 6 0)).2)))) (by rw [show (d_X13_fewestWatchers n f g) = ((d_X13_fewestWatchers_L1 n f g (2 ^ n) 0 7), (upd f 6 0)) from by rw [d_X13_fewestWatchers]]) ?_
  refine loop1 (fun (a1_1 : Int32) => (a1_1, (upd f 6 0))) ?_ (2 ^ n) 0 (by omega) 7
  intro a1_1
  refine pm_pst (post' := pm_rt (some (.int ((a1_1, (upd f 6 0)).1))) nx (pm_up M m0 (pm_mo z m0 ((a1_1, (upd f 6 0)).2)))) rfl ?_
  refine pm_iload_n B dX13_fewestWatchers_49 rfl ?_
  have hDq7 : ((a1_1, (upd f 6 0))) = (a1_1, (upd f 6 0)) := rfl
  exact pm_ireturn B dX13_fewestWatchers_50 rfl (by first | rfl | (apply pm_nz; first | assumption | decide | exact pm_in01 _ _ _ | simp)) ⟨(by rw [hDq7]), rfl, by rw [hDq7]⟩ rfl rfl
def d_X13_fewestWatchersByBranching (n : Nat) (f : Nat → Int32) (g : Nat → Int32) : (Int32 × (Nat → Int32)) := (((d_X13_fewestWatchers n f g).1), ((d_X13_fewestWatchers n f g).2))
set_option maxRecDepth 100000 in
set_option maxHeartbeats 8000000 in
theorem c_X13_fewestWatchersByBranching {l : Launch} {z : Nat} {D : va_G} {kA : Nat → ClassId} {kE : Nat → Nat} {nx : Nat} {M : pm_M} {n : Nat}{m0 : Nat} {f : Nat → Int32} {g : Nat → Int32} (hM : M m0 = some (pm_mo z m0 f)) (hg : M (m0 + 1) = some (.inl (kA 0, 91, .inl g))) (hn : g 0 = nI n) (h7 : n ≤ 7) : pm_C l z D kA kE yX13_fewestWatchersByBranching cX13_fewestWatchersByBranching 1 (some .int) 3 0 0 [.ref (z + m0)] nx M (pm_rt (some (.int ((d_X13_fewestWatchersByBranching n f g).1))) nx (pm_up M m0 (pm_mo z m0 ((d_X13_fewestWatchersByBranching n f g).2)))) := by
  refine pm_mk (own := RX13) (nm := "fewestWatchersByBranching") mt_X13_fewestWatchersByBranching rfl rfl rfl rfl fun X B => ?_
  refine pm_loc (L' := [some (.ref (z + m0))]) rfl ?_
  refine pm_mem (M' := pm_up M m0 (pm_mo z m0 f)) (by rw [pm_up_id hM]) ?_
  refine pm_aload_n B dX13_fewestWatchersByBranching_0 rfl ?_
  refine pm_cV (As := []) (mc2 := 0) (ms2 := 0) B rfl pm_up_s rfl (c_X13_fewestWatchers (n := n) (f := f) (g := g) pm_up_s ((pm_up_n (by omega)).trans hg) hn (by first | assumption | omega)) mt_X13_fewestWatchers sv_X13_175 dX13_fewestWatchersByBranching_1 rfl rfl rfl rfl rfl ?_
  refine pm_mem (M' := pm_up (pm_up M m0 (pm_mo z m0 f)) m0 (pm_mo z m0 ((d_X13_fewestWatchers n f g).2))) rfl ?_
  refine pm_mem (M' := pm_up M m0 (pm_mo z m0 ((d_X13_fewestWatchers n f g).2))) (by rw [pm_up_up (a := m0)]) ?_
  refine pm_stk (st' := [.int ((d_X13_fewestWatchers n f g).1)]) rfl ?_
  have hDq1 : (d_X13_fewestWatchersByBranching n f g) = (((d_X13_fewestWatchers n f g).1), ((d_X13_fewestWatchers n f g).2)) := by rw [d_X13_fewestWatchersByBranching]
  exact pm_ireturn B dX13_fewestWatchersByBranching_4 rfl (by first | rfl | (apply pm_nz; first | assumption | decide | exact pm_in01 _ _ _ | simp)) ⟨(by rw [hDq1]), rfl, by rw [hDq1]⟩ rfl rfl
def d_X13_active_L1 (g : Nat → Int32) : Nat → Nat → Int32 → Int32
  | 0, _, a1_1 => a1_1
  | k1 + 1, j1, a1_1 => if (pm_ib g j1) = 0 then (d_X13_active_L1 g k1 (j1 + 1) (a1_1 ||| (1 <<< ((nI j1) &&& 31)))) else (d_X13_active_L1 g k1 (j1 + 1) (a1_1 ||| 0))
def d_X13_active (n : Nat) (f : Nat → Int32) (g : Nat → Int32) : Int32 := (d_X13_active_L1 g n 0 0)
set_option maxRecDepth 100000 in
set_option maxHeartbeats 8000000 in
theorem c_X13_active {l : Launch} {z : Nat} {D : va_G} {kA : Nat → ClassId} {kE : Nat → Nat} {nx : Nat} {M : pm_M} {n : Nat}{m0 : Nat} {f : Nat → Int32} {g : Nat → Int32} (hM : M m0 = some (pm_mo z m0 f)) (hg : M (m0 + 1) = some (.inl (kA 0, 91, .inl g))) (hn : g 0 = nI n) (h7 : n ≤ 7) : pm_C l z D kA kE yX13_active cX13_active 3 (some .int) 2 0 0 [.ref (z + m0)] nx M (pm_rt (some (.int (d_X13_active n f g))) nx M) := by
  refine pm_mk (own := RX13) (nm := "active") mt_X13_active rfl rfl rfl rfl fun X B => ?_
  refine pm_loc (L' := [some (.ref (z + m0)), none, none]) rfl ?_
  refine pm_iconst (v := 0) B dX13_active_0 (by decide) ?_
  refine pm_istore_n B dX13_active_1 rfl rfl ?_
  refine pm_loc (L' := [some (.ref (z + m0)), some (.int 0), none]) rfl ?_
  refine pm_iconst (v := 0) B dX13_active_2 (by decide) ?_
  refine pm_istore_n B dX13_active_3 rfl rfl ?_
  refine pm_loc (L' := [some (.ref (z + m0)), some (.int 0), some (.int 0)]) rfl ?_
  refine pm_loc (L' := [some (.ref (z + m0)), some (.int 0), some (.int (nI 0))]) rfl ?_
  have loop1 : ∀ (K1 : (Int32 → Int32)), (∀ (a1_1 : Int32), pm_G l z D X 0 0 (pm_Q z D (pm_rt (some (.int (K1 a1_1))) nx M) 0 0 X) nx M 38 [none, some (.int a1_1), none] []) → ∀ (k1 j1 : Nat), j1 + k1 = n → ∀ (a1_1 : Int32), pm_G l z D X 0 0 (pm_Q z D (pm_rt (some (.int (K1 (d_X13_active_L1 g k1 j1 a1_1)))) nx M) 0 0 X) nx M 4 [some (.ref (z + m0)), some (.int a1_1), some (.int (nI j1))] [] := by
    intro K1 hK1 k1
    induction k1 with
    | zero =>
      intro j1 hj1 a1_1
      have hjn1 : j1 = n := by omega
      refine pm_iload_n B dX13_active_4 rfl ?_
      refine pm_aload_n B dX13_active_5 rfl ?_
      refine pm_get B dX13_active_6 fl_X13_9 hM rfl ?_
      refine pm_iconst (v := 0) B dX13_active_9 (by decide) ?_
      refine pm_iald_n B dX13_active_10 hg 0 (by decide) (by decide) ?_
      refine pm_stk (st' := [.int (nI n), .int (nI j1)]) (by rw [show (g 0) = (nI n) from by rw [hn]]) ?_
      refine pm_icmp_ge (tgt := 38) B dX13_active_11 (by decide) (fun hq1 => ?_) (fun hq1 => absurd ((nI_leI (by first | omega | decide) (by first | omega | decide)).mpr (by omega)) hq1)
      refine pm_wk (L' := [none, some (.int a1_1), none]) ⟨rfl, trivial⟩ ?_
      have hDq2 : (K1 (d_X13_active_L1 g 0 j1 a1_1)) = (K1 a1_1) := by rw [d_X13_active_L1]
      refine pm_pst (post' := pm_rt (some (.int (K1 a1_1))) nx M) (by rw [hDq2]) ?_
      exact hK1 a1_1
    | succ k1 ih1 =>
      intro j1 hj1 a1_1
      have hjn1 : j1 < n := by omega
      refine pm_iload_n B dX13_active_4 rfl ?_
      refine pm_aload_n B dX13_active_5 rfl ?_
      refine pm_get B dX13_active_6 fl_X13_9 hM rfl ?_
      refine pm_iconst (v := 0) B dX13_active_9 (by decide) ?_
      refine pm_iald_n B dX13_active_10 hg 0 (by decide) (by decide) ?_
      refine pm_stk (st' := [.int (nI n), .int (nI j1)]) (by rw [show (g 0) = (nI n) from by rw [hn]]) ?_
      refine pm_icmp_ge (tgt := 38) B dX13_active_11 (by decide) (fun hq3 => absurd hq3 (fun e => absurd ((nI_leI (by first | omega | decide) (by first | omega | decide)).mp e) (by omega))) (fun hq3 => ?_)
      refine pm_iload_n B dX13_active_14 rfl ?_
      refine pm_aload_n B dX13_active_15 rfl ?_
      refine pm_iload_n B dX13_active_16 rfl ?_
      refine pm_cV (As := [.int (nI j1)]) (mc2 := 0) (ms2 := 0) B rfl hM rfl (c_X13_isBarred (f := f) hM hg (i := j1) (by first | assumption | omega)) mt_X13_isBarred sv_X13_114 dX13_active_17 rfl rfl rfl rfl rfl ?_
      refine pm_stk (st' := [.int (pm_ib g j1), .int a1_1]) rfl ?_
      refine pm_if_eq (tgt := 27) B dX13_active_20 (by decide) (fun hq4 => ?_) (fun hq4 => ?_)
      · refine pm_iconst (v := 1) B dX13_active_27 (by decide) ?_
        refine pm_iload_n B dX13_active_28 rfl ?_
        refine pm_ishl B dX13_active_29 ?_
        refine pm_ior B dX13_active_30 ?_
        refine pm_istore_n B dX13_active_31 rfl rfl ?_
        refine pm_loc (L' := [some (.ref (z + m0)), some (.int (a1_1 ||| (1 <<< ((nI j1) &&& 31)))), some (.int (nI j1))]) rfl ?_
        refine pm_iinc B dX13_active_32 rfl rfl rfl ?_
        refine pm_loc (L' := [some (.ref (z + m0)), some (.int (a1_1 ||| (1 <<< ((nI j1) &&& 31)))), some (.int (nI (j1 + 1)))]) (by rw [show ((nI j1) : Int32) + Int32.ofInt 1 = (nI (j1 + 1)) from nI_1 _]; rfl) ?_
        refine pm_goto (tgt := 4) B dX13_active_35 (by decide) ?_
        have hDq5 : (K1 (d_X13_active_L1 g (k1 + 1) j1 a1_1)) = (K1 (d_X13_active_L1 g k1 (j1 + 1) (a1_1 ||| (1 <<< ((nI j1) &&& 31))))) := by rw [d_X13_active_L1, if_pos hq4]
        refine pm_pst (post' := pm_rt (some (.int (K1 (d_X13_active_L1 g k1 (j1 + 1) (a1_1 ||| (1 <<< ((nI j1) &&& 31))))))) nx M) (by rw [hDq5]) ?_
        exact ih1 (j1 + 1) (by omega) (a1_1 ||| (1 <<< ((nI j1) &&& 31)))
      · refine pm_iconst (v := 0) B dX13_active_23 (by decide) ?_
        refine pm_goto (tgt := 30) B dX13_active_24 (by decide) ?_
        refine pm_ior B dX13_active_30 ?_
        refine pm_istore_n B dX13_active_31 rfl rfl ?_
        refine pm_loc (L' := [some (.ref (z + m0)), some (.int (a1_1 ||| 0)), some (.int (nI j1))]) rfl ?_
        refine pm_iinc B dX13_active_32 rfl rfl rfl ?_
        refine pm_loc (L' := [some (.ref (z + m0)), some (.int (a1_1 ||| 0)), some (.int (nI (j1 + 1)))]) (by rw [show ((nI j1) : Int32) + Int32.ofInt 1 = (nI (j1 + 1)) from nI_1 _]; rfl) ?_
        refine pm_goto (tgt := 4) B dX13_active_35 (by decide) ?_
        have hDq6 : (K1 (d_X13_active_L1 g (k1 + 1) j1 a1_1)) = (K1 (d_X13_active_L1 g k1 (j1 + 1) (a1_1 ||| 0))) := by rw [d_X13_active_L1, if_neg hq4]
        refine pm_pst (post' := pm_rt (some (.int (K1 (d_X13_active_L1 g k1 (j1 + 1) (a1_1 ||| 0))))) nx M) (by rw [hDq6]) ?_
        exact ih1 (j1 + 1) (by omega) (a1_1 ||| 0)
  refine pm_pst (post' := pm_rt (some (.int (d_X13_active_L1 g n 0 0))) nx M) (by rw [show (d_X13_active n f g) = (d_X13_active_L1 g n 0 0) from by rw [d_X13_active]]) ?_
  refine loop1 (fun (a1_1 : Int32) => a1_1) ?_ n 0 (by omega) 0
  intro a1_1
  refine pm_pst (post' := pm_rt (some (.int a1_1)) nx M) rfl ?_
  refine pm_iload_n B dX13_active_38 rfl ?_
  have hDq7 : (a1_1) = a1_1 := rfl
  exact pm_ireturn B dX13_active_39 rfl (by first | rfl | (apply pm_nz; first | assumption | decide | exact pm_in01 _ _ _ | simp)) ⟨(by rw [hDq7]), rfl, rfl⟩ rfl rfl
theorem d_X13_active_nI (n : Nat) (f g : Nat → Int32) (h7 : n ≤ 7) : pm_n (d_X13_active n f g) < 128 ∧ d_X13_active n f g = nI (pm_n (d_X13_active n f g)) := by
  have h : ∀ (k j m : Nat), j + k = n → m < 128 → ∃ m', m' < 128 ∧ d_X13_active_L1 g k j (nI m) = nI m' := by
    intro k
    induction k with
    | zero => intro j m hj hm; exact ⟨m, hm, rfl⟩
    | succ k ih =>
      intro j m hj hm
      simp only [d_X13_active_L1]
      split
      · have h1 := pm_orB ⟨m, hm⟩ ⟨j, by omega⟩
        rw [h1.1]
        exact ih _ _ (by omega) h1.2
      · rw [show nI m ||| 0 = nI m from by simp]
        exact ih _ _ (by omega) hm
  obtain ⟨m, hm, he⟩ := h n 0 0 (by omega) (by decide)
  have he' : d_X13_active n f g = nI m := he
  rw [he', pm_n_nI (by omega)]
  exact ⟨hm, rfl⟩
def d_X13_votesOf_L1 (x : Int32) (g : Nat → Int32) : Nat → Nat → Int32 → Int32
  | 0, _, a2_1 => a2_1
  | k1 + 1, j1, a2_1 => if ((x >>> ((nI j1) &&& 31)) &&& 1) = 1 then (d_X13_votesOf_L1 x g k1 (j1 + 1) (a2_1 + (g (7 + 5 * j1 + 1)))) else (d_X13_votesOf_L1 x g k1 (j1 + 1) (a2_1 + 0))
def d_X13_votesOf (x : Int32) (n : Nat) (f : Nat → Int32) (g : Nat → Int32) : Int32 := (d_X13_votesOf_L1 x g n 0 0)
set_option maxRecDepth 100000 in
set_option maxHeartbeats 8000000 in
theorem c_X13_votesOf {l : Launch} {z : Nat} {D : va_G} {kA : Nat → ClassId} {kE : Nat → Nat} {nx : Nat} {M : pm_M} {x : Int32} {n : Nat}{m0 : Nat} {f : Nat → Int32} {g : Nat → Int32} (hM : M m0 = some (pm_mo z m0 f)) (hg : M (m0 + 1) = some (.inl (kA 0, 91, .inl g))) (hn : g 0 = nI n) (h7 : n ≤ 7) : pm_C l z D kA kE yX13_votesOf cX13_votesOf 4 (some .int) 1 0 0 [.ref (z + m0), .int x] nx M (pm_rt (some (.int (d_X13_votesOf x n f g))) nx M) := by
  refine pm_mk (own := RX13) (nm := "votesOf") mt_X13_votesOf rfl rfl rfl rfl fun X B => ?_
  refine pm_loc (L' := [some (.ref (z + m0)), some (.int x), none, none]) rfl ?_
  refine pm_iconst (v := 0) B dX13_votesOf_0 (by decide) ?_
  refine pm_istore_n B dX13_votesOf_1 rfl rfl ?_
  refine pm_loc (L' := [some (.ref (z + m0)), some (.int x), some (.int 0), none]) rfl ?_
  refine pm_iconst (v := 0) B dX13_votesOf_2 (by decide) ?_
  refine pm_istore_n B dX13_votesOf_3 rfl rfl ?_
  refine pm_loc (L' := [some (.ref (z + m0)), some (.int x), some (.int 0), some (.int 0)]) rfl ?_
  refine pm_loc (L' := [some (.ref (z + m0)), some (.int x), some (.int 0), some (.int (nI 0))]) rfl ?_
  have loop1 : ∀ (K1 : (Int32 → Int32)), (∀ (a2_1 : Int32), pm_G l z D X 0 0 (pm_Q z D (pm_rt (some (.int (K1 a2_1))) nx M) 0 0 X) nx M 42 [none, none, some (.int a2_1), none] []) → ∀ (k1 j1 : Nat), j1 + k1 = n → ∀ (a2_1 : Int32), pm_G l z D X 0 0 (pm_Q z D (pm_rt (some (.int (K1 (d_X13_votesOf_L1 x g k1 j1 a2_1)))) nx M) 0 0 X) nx M 4 [some (.ref (z + m0)), some (.int x), some (.int a2_1), some (.int (nI j1))] [] := by
    intro K1 hK1 k1
    induction k1 with
    | zero =>
      intro j1 hj1 a2_1
      have hjn1 : j1 = n := by omega
      refine pm_iload_n B dX13_votesOf_4 rfl ?_
      refine pm_aload_n B dX13_votesOf_5 rfl ?_
      refine pm_get B dX13_votesOf_6 fl_X13_9 hM rfl ?_
      refine pm_iconst (v := 0) B dX13_votesOf_9 (by decide) ?_
      refine pm_iald_n B dX13_votesOf_10 hg 0 (by decide) (by decide) ?_
      refine pm_stk (st' := [.int (nI n), .int (nI j1)]) (by rw [show (g 0) = (nI n) from by rw [hn]]) ?_
      refine pm_icmp_ge (tgt := 42) B dX13_votesOf_11 (by decide) (fun hq1 => ?_) (fun hq1 => absurd ((nI_leI (by first | omega | decide) (by first | omega | decide)).mpr (by omega)) hq1)
      refine pm_wk (L' := [none, none, some (.int a2_1), none]) ⟨rfl, trivial⟩ ?_
      have hDq2 : (K1 (d_X13_votesOf_L1 x g 0 j1 a2_1)) = (K1 a2_1) := by rw [d_X13_votesOf_L1]
      refine pm_pst (post' := pm_rt (some (.int (K1 a2_1))) nx M) (by rw [hDq2]) ?_
      exact hK1 a2_1
    | succ k1 ih1 =>
      intro j1 hj1 a2_1
      have hjn1 : j1 < n := by omega
      refine pm_iload_n B dX13_votesOf_4 rfl ?_
      refine pm_aload_n B dX13_votesOf_5 rfl ?_
      refine pm_get B dX13_votesOf_6 fl_X13_9 hM rfl ?_
      refine pm_iconst (v := 0) B dX13_votesOf_9 (by decide) ?_
      refine pm_iald_n B dX13_votesOf_10 hg 0 (by decide) (by decide) ?_
      refine pm_stk (st' := [.int (nI n), .int (nI j1)]) (by rw [show (g 0) = (nI n) from by rw [hn]]) ?_
      refine pm_icmp_ge (tgt := 42) B dX13_votesOf_11 (by decide) (fun hq3 => absurd hq3 (fun e => absurd ((nI_leI (by first | omega | decide) (by first | omega | decide)).mp e) (by omega))) (fun hq3 => ?_)
      refine pm_iload_n B dX13_votesOf_14 rfl ?_
      refine pm_iload_n B dX13_votesOf_15 rfl ?_
      refine pm_iload_n B dX13_votesOf_16 rfl ?_
      refine pm_ishr B dX13_votesOf_17 ?_
      refine pm_iconst (v := 1) B dX13_votesOf_18 (by decide) ?_
      refine pm_iand B dX13_votesOf_19 ?_
      refine pm_iconst (v := 1) B dX13_votesOf_20 (by decide) ?_
      refine pm_icmp_ne (tgt := 33) B dX13_votesOf_21 (by decide) (fun hq4 => ?_) (fun hq4 => ?_)
      · refine pm_iconst (v := 0) B dX13_votesOf_33 (by decide) ?_
        refine pm_iadd B dX13_votesOf_34 ?_
        refine pm_istore_n B dX13_votesOf_35 rfl rfl ?_
        refine pm_loc (L' := [some (.ref (z + m0)), some (.int x), some (.int (a2_1 + 0)), some (.int (nI j1))]) rfl ?_
        refine pm_iinc B dX13_votesOf_36 rfl rfl rfl ?_
        refine pm_loc (L' := [some (.ref (z + m0)), some (.int x), some (.int (a2_1 + 0)), some (.int (nI (j1 + 1)))]) (by rw [show ((nI j1) : Int32) + Int32.ofInt 1 = (nI (j1 + 1)) from nI_1 _]; rfl) ?_
        refine pm_goto (tgt := 4) B dX13_votesOf_39 (by decide) ?_
        have hDq5 : (K1 (d_X13_votesOf_L1 x g (k1 + 1) j1 a2_1)) = (K1 (d_X13_votesOf_L1 x g k1 (j1 + 1) (a2_1 + 0))) := by rw [d_X13_votesOf_L1, if_neg hq4]
        refine pm_pst (post' := pm_rt (some (.int (K1 (d_X13_votesOf_L1 x g k1 (j1 + 1) (a2_1 + 0))))) nx M) (by rw [hDq5]) ?_
        exact ih1 (j1 + 1) (by omega) (a2_1 + 0)
      · refine pm_aload_n B dX13_votesOf_24 rfl ?_
        refine pm_iload_n B dX13_votesOf_25 rfl ?_
        refine pm_iconst (v := 1) B dX13_votesOf_26 (by decide) ?_
        refine pm_cV (As := [.int (nI j1), .int (nI 1)]) (mc2 := 0) (ms2 := 0) B rfl hM rfl (c_X13_of (f := f) hM hg (i := j1) (w := 1) (by first | assumption | omega) (by first | assumption | omega)) mt_X13_of sv_X13_74 dX13_votesOf_27 rfl rfl rfl rfl rfl ?_
        refine pm_stk (st' := [.int (g (7 + 5 * j1 + 1)), .int a2_1]) rfl ?_
        refine pm_goto (tgt := 34) B dX13_votesOf_30 (by decide) ?_
        refine pm_iadd B dX13_votesOf_34 ?_
        refine pm_istore_n B dX13_votesOf_35 rfl rfl ?_
        refine pm_loc (L' := [some (.ref (z + m0)), some (.int x), some (.int (a2_1 + (g (7 + 5 * j1 + 1)))), some (.int (nI j1))]) rfl ?_
        refine pm_iinc B dX13_votesOf_36 rfl rfl rfl ?_
        refine pm_loc (L' := [some (.ref (z + m0)), some (.int x), some (.int (a2_1 + (g (7 + 5 * j1 + 1)))), some (.int (nI (j1 + 1)))]) (by rw [show ((nI j1) : Int32) + Int32.ofInt 1 = (nI (j1 + 1)) from nI_1 _]; rfl) ?_
        refine pm_goto (tgt := 4) B dX13_votesOf_39 (by decide) ?_
        have hDq6 : (K1 (d_X13_votesOf_L1 x g (k1 + 1) j1 a2_1)) = (K1 (d_X13_votesOf_L1 x g k1 (j1 + 1) (a2_1 + (g (7 + 5 * j1 + 1))))) := by rw [d_X13_votesOf_L1, if_pos hq4]
        refine pm_pst (post' := pm_rt (some (.int (K1 (d_X13_votesOf_L1 x g k1 (j1 + 1) (a2_1 + (g (7 + 5 * j1 + 1))))))) nx M) (by rw [hDq6]) ?_
        exact ih1 (j1 + 1) (by omega) (a2_1 + (g (7 + 5 * j1 + 1)))
  refine pm_pst (post' := pm_rt (some (.int (d_X13_votesOf_L1 x g n 0 0))) nx M) (by rw [show (d_X13_votesOf x n f g) = (d_X13_votesOf_L1 x g n 0 0) from by rw [d_X13_votesOf]]) ?_
  refine loop1 (fun (a2_1 : Int32) => a2_1) ?_ n 0 (by omega) 0
  intro a2_1
  refine pm_pst (post' := pm_rt (some (.int a2_1)) nx M) rfl ?_
  refine pm_iload_n B dX13_votesOf_42 rfl ?_
  have hDq7 : (a2_1) = a2_1 := rfl
  exact pm_ireturn B dX13_votesOf_43 rfl (by first | rfl | (apply pm_nz; first | assumption | decide | exact pm_in01 _ _ _ | simp)) ⟨(by rw [hDq7]), rfl, rfl⟩ rfl rfl
def d_X13_wins (x : Int32) (n : Nat) (f : Nat → Int32) (g : Nat → Int32) : Int32 := if (d_X13_votesOf x n f g) < (g 3) then 0 else 1
set_option maxRecDepth 100000 in
set_option maxHeartbeats 8000000 in
theorem c_X13_wins {l : Launch} {z : Nat} {D : va_G} {kA : Nat → ClassId} {kE : Nat → Nat} {nx : Nat} {M : pm_M} {x : Int32} {n : Nat}{m0 : Nat} {f : Nat → Int32} {g : Nat → Int32} (hM : M m0 = some (pm_mo z m0 f)) (hg : M (m0 + 1) = some (.inl (kA 0, 91, .inl g))) (hn : g 0 = nI n) (h7 : n ≤ 7) : pm_C l z D kA kE yX13_wins cX13_wins 2 (some .boolean) 2 0 0 [.ref (z + m0), .int x] nx M (pm_rt (some (.int (d_X13_wins x n f g))) nx M) := by
  refine pm_mk (own := RX13) (nm := "wins") mt_X13_wins rfl rfl rfl rfl fun X B => ?_
  refine pm_loc (L' := [some (.ref (z + m0)), some (.int x)]) rfl ?_
  refine pm_aload_n B dX13_wins_0 rfl ?_
  refine pm_iload_n B dX13_wins_1 rfl ?_
  refine pm_cV (As := [.int x]) (mc2 := 0) (ms2 := 0) B rfl hM rfl (c_X13_votesOf (x := x) (n := n) (f := f) (g := g) hM hg hn (by first | assumption | omega)) mt_X13_votesOf sv_X13_181 dX13_wins_2 rfl rfl rfl rfl rfl ?_
  refine pm_stk (st' := [.int (d_X13_votesOf x n f g)]) rfl ?_
  refine pm_aload_n B dX13_wins_5 rfl ?_
  refine pm_get B dX13_wins_6 fl_X13_9 hM rfl ?_
  refine pm_iconst (v := 3) B dX13_wins_9 (by decide) ?_
  refine pm_iald_n B dX13_wins_10 hg 3 (by decide) (by decide) ?_
  refine pm_icmp_lt (tgt := 18) B dX13_wins_11 (by decide) (fun hq1 => ?_) (fun hq1 => ?_)
  · refine pm_iconst (v := 0) B dX13_wins_18 (by decide) ?_
    have hDq2 : (d_X13_wins x n f g) = 0 := by rw [d_X13_wins, if_pos hq1]
    exact pm_ireturn B dX13_wins_19 rfl (by first | rfl | (apply pm_nz; first | assumption | decide | exact pm_in01 _ _ _ | simp)) ⟨(by rw [hDq2]), rfl, rfl⟩ rfl rfl
  · refine pm_iconst (v := 1) B dX13_wins_14 (by decide) ?_
    refine pm_goto (tgt := 19) B dX13_wins_15 (by decide) ?_
    have hDq3 : (d_X13_wins x n f g) = 1 := by rw [d_X13_wins, if_neg hq1]
    exact pm_ireturn B dX13_wins_19 rfl (by first | rfl | (apply pm_nz; first | assumption | decide | exact pm_in01 _ _ _ | simp)) ⟨(by rw [hDq3]), rfl, rfl⟩ rfl rfl
def d_X13_winningCoalitions_L1 (n : Nat) (f : Nat → Int32) (g : Nat → Int32) : Nat → Nat → Int32 → Int32
  | 0, _, a2_1 => a2_1
  | k1 + 1, j1, a2_1 => if ((nI j1) &&& ((nI (pm_n (d_X13_active n (upd f 6 0) g))) ^^^ (-1))) = 0 then (if (d_X13_wins (nI j1) n (upd f 6 0) g) = 0 then (d_X13_winningCoalitions_L1 n f g k1 (j1 + 1) (a2_1 + 0)) else (d_X13_winningCoalitions_L1 n f g k1 (j1 + 1) (a2_1 + 1))) else (d_X13_winningCoalitions_L1 n f g k1 (j1 + 1) (a2_1 + 0))
def d_X13_winningCoalitions (n : Nat) (f : Nat → Int32) (g : Nat → Int32) : (Int32 × (Nat → Int32)) := ((d_X13_winningCoalitions_L1 n f g (pm_n (d_X13_active n (upd f 6 0) g) + 1) 0 0), (upd f 6 0))
set_option maxRecDepth 100000 in
set_option maxHeartbeats 8000000 in
theorem c_X13_winningCoalitions {l : Launch} {z : Nat} {D : va_G} {kA : Nat → ClassId} {kE : Nat → Nat} {nx : Nat} {M : pm_M} {n : Nat}{m0 : Nat} {f : Nat → Int32} {g : Nat → Int32} (hM : M m0 = some (pm_mo z m0 f)) (hg : M (m0 + 1) = some (.inl (kA 0, 91, .inl g))) (hn : g 0 = nI n) (h7 : n ≤ 7) : pm_C l z D kA kE yX13_winningCoalitions cX13_winningCoalitions 4 (some .int) 3 0 0 [.ref (z + m0)] nx M (pm_rt (some (.int ((d_X13_winningCoalitions n f g).1))) nx (pm_up M m0 (pm_mo z m0 ((d_X13_winningCoalitions n f g).2)))) := by
  refine pm_mk (own := RX13) (nm := "winningCoalitions") mt_X13_winningCoalitions rfl rfl rfl rfl fun X B => ?_
  refine pm_loc (L' := [some (.ref (z + m0)), none, none, none]) rfl ?_
  refine pm_mem (M' := pm_up M m0 (pm_mo z m0 f)) (by rw [pm_up_id hM]) ?_
  refine pm_aload_n B dX13_winningCoalitions_0 rfl ?_
  refine pm_iconst (v := 0) B dX13_winningCoalitions_1 (by decide) ?_
  refine pm_put B dX13_winningCoalitions_2 fs_X13_39 pm_up_s rfl rfl rfl ?_
  refine pm_mem (M' := pm_up M m0 (pm_mo z m0 (upd f 6 0))) pm_up_up ?_
  refine pm_aload_n B dX13_winningCoalitions_5 rfl ?_
  refine pm_cV (As := []) (mc2 := 0) (ms2 := 0) B rfl pm_up_s rfl (c_X13_active (n := n) (f := (upd f 6 0)) (g := g) pm_up_s ((pm_up_n (by omega)).trans hg) hn (by first | assumption | omega)) mt_X13_active sv_X13_184 dX13_winningCoalitions_6 rfl rfl rfl rfl rfl ?_
  refine pm_stk (st' := [.int (d_X13_active n (upd f 6 0) g)]) rfl ?_
  have hA := (d_X13_active_nI n (upd f 6 0) g h7).1
  refine pm_stk (st' := [.int (nI (pm_n (d_X13_active n (upd f 6 0) g)))]) (congrArg (fun yy : Int32 => ([.int yy] : List Value)) (show (d_X13_active n (upd f 6 0) g) = (nI (pm_n (d_X13_active n (upd f 6 0) g))) from (d_X13_active_nI n (upd f 6 0) g h7).2)) ?_
  refine pm_istore_n B dX13_winningCoalitions_9 rfl rfl ?_
  refine pm_loc (L' := [some (.ref (z + m0)), some (.int (nI (pm_n (d_X13_active n (upd f 6 0) g)))), none, none]) rfl ?_
  refine pm_iconst (v := 0) B dX13_winningCoalitions_10 (by decide) ?_
  refine pm_istore_n B dX13_winningCoalitions_11 rfl rfl ?_
  refine pm_loc (L' := [some (.ref (z + m0)), some (.int (nI (pm_n (d_X13_active n (upd f 6 0) g)))), some (.int 0), none]) rfl ?_
  refine pm_iconst (v := 0) B dX13_winningCoalitions_12 (by decide) ?_
  refine pm_istore_n B dX13_winningCoalitions_13 rfl rfl ?_
  refine pm_loc (L' := [some (.ref (z + m0)), some (.int (nI (pm_n (d_X13_active n (upd f 6 0) g)))), some (.int 0), some (.int 0)]) rfl ?_
  refine pm_loc (L' := [some (.ref (z + m0)), some (.int (nI (pm_n (d_X13_active n (upd f 6 0) g)))), some (.int 0), some (.int (nI 0))]) rfl ?_
  have loop1 : ∀ (K1 : (Int32 → (Int32 × (Nat → Int32)))), (∀ (a2_1 : Int32), pm_G l z D X 0 0 (pm_Q z D (pm_rt (some (.int ((K1 a2_1).1))) nx (pm_up M m0 (pm_mo z m0 ((K1 a2_1).2)))) 0 0 X) nx (pm_up M m0 (pm_mo z m0 (upd f 6 0))) 49 [none, none, some (.int a2_1), none] []) → ∀ (k1 j1 : Nat), j1 + k1 = (pm_n (d_X13_active n (upd f 6 0) g) + 1) → ∀ (a2_1 : Int32), pm_G l z D X 0 0 (pm_Q z D (pm_rt (some (.int ((K1 (d_X13_winningCoalitions_L1 n f g k1 j1 a2_1)).1))) nx (pm_up M m0 (pm_mo z m0 ((K1 (d_X13_winningCoalitions_L1 n f g k1 j1 a2_1)).2)))) 0 0 X) nx (pm_up M m0 (pm_mo z m0 (upd f 6 0))) 14 [some (.ref (z + m0)), some (.int (nI (pm_n (d_X13_active n (upd f 6 0) g)))), some (.int a2_1), some (.int (nI j1))] [] := by
    intro K1 hK1 k1
    induction k1 with
    | zero =>
      intro j1 hj1 a2_1
      have hjn1 : j1 = (pm_n (d_X13_active n (upd f 6 0) g) + 1) := by omega
      refine pm_iload_n B dX13_winningCoalitions_14 rfl ?_
      refine pm_iload_n B dX13_winningCoalitions_15 rfl ?_
      refine pm_icmp_gt (tgt := 49) B dX13_winningCoalitions_16 (by decide) (fun hq1 => ?_) (fun hq1 => absurd ((nI_ltI (by first | omega | decide) (by first | omega | decide)).mpr (by omega)) hq1)
      refine pm_wk (L' := [none, none, some (.int a2_1), none]) ⟨rfl, trivial⟩ ?_
      have hDq2 : (K1 (d_X13_winningCoalitions_L1 n f g 0 j1 a2_1)) = (K1 a2_1) := by rw [d_X13_winningCoalitions_L1]
      refine pm_pst (post' := pm_rt (some (.int ((K1 a2_1).1))) nx (pm_up M m0 (pm_mo z m0 ((K1 a2_1).2)))) (by rw [hDq2]) ?_
      exact hK1 a2_1
    | succ k1 ih1 =>
      intro j1 hj1 a2_1
      have hjn1 : j1 < (pm_n (d_X13_active n (upd f 6 0) g) + 1) := by omega
      refine pm_iload_n B dX13_winningCoalitions_14 rfl ?_
      refine pm_iload_n B dX13_winningCoalitions_15 rfl ?_
      refine pm_icmp_gt (tgt := 49) B dX13_winningCoalitions_16 (by decide) (fun hq3 => absurd hq3 (fun e => absurd ((nI_ltI (by first | omega | decide) (by first | omega | decide)).mp e) (by omega))) (fun hq3 => ?_)
      refine pm_iload_n B dX13_winningCoalitions_19 rfl ?_
      refine pm_iload_n B dX13_winningCoalitions_20 rfl ?_
      refine pm_iload_n B dX13_winningCoalitions_21 rfl ?_
      refine pm_iconst (v := (-1)) B dX13_winningCoalitions_22 (by decide) ?_
      refine pm_ixor B dX13_winningCoalitions_23 ?_
      refine pm_iand B dX13_winningCoalitions_24 ?_
      refine pm_if_ne (tgt := 40) B dX13_winningCoalitions_25 (by decide) (fun hq4 => ?_) (fun hq4 => ?_)
      · refine pm_iconst (v := 0) B dX13_winningCoalitions_40 (by decide) ?_
        refine pm_iadd B dX13_winningCoalitions_41 ?_
        refine pm_istore_n B dX13_winningCoalitions_42 rfl rfl ?_
        refine pm_loc (L' := [some (.ref (z + m0)), some (.int (nI (pm_n (d_X13_active n (upd f 6 0) g)))), some (.int (a2_1 + 0)), some (.int (nI j1))]) rfl ?_
        refine pm_iinc B dX13_winningCoalitions_43 rfl rfl rfl ?_
        refine pm_loc (L' := [some (.ref (z + m0)), some (.int (nI (pm_n (d_X13_active n (upd f 6 0) g)))), some (.int (a2_1 + 0)), some (.int (nI (j1 + 1)))]) (by rw [show ((nI j1) : Int32) + Int32.ofInt 1 = (nI (j1 + 1)) from nI_1 _]; rfl) ?_
        refine pm_goto (tgt := 14) B dX13_winningCoalitions_46 (by decide) ?_
        have hDq5 : (K1 (d_X13_winningCoalitions_L1 n f g (k1 + 1) j1 a2_1)) = (K1 (d_X13_winningCoalitions_L1 n f g k1 (j1 + 1) (a2_1 + 0))) := by rw [d_X13_winningCoalitions_L1, if_neg hq4]
        refine pm_pst (post' := pm_rt (some (.int ((K1 (d_X13_winningCoalitions_L1 n f g k1 (j1 + 1) (a2_1 + 0))).1))) nx (pm_up M m0 (pm_mo z m0 ((K1 (d_X13_winningCoalitions_L1 n f g k1 (j1 + 1) (a2_1 + 0))).2)))) (by rw [hDq5]) ?_
        exact ih1 (j1 + 1) (by omega) (a2_1 + 0)
      · refine pm_aload_n B dX13_winningCoalitions_28 rfl ?_
        refine pm_iload_n B dX13_winningCoalitions_29 rfl ?_
        refine pm_cV (As := [.int (nI j1)]) (mc2 := 0) (ms2 := 0) B rfl pm_up_s rfl (c_X13_wins (x := (nI j1)) (n := n) (f := (upd f 6 0)) (g := g) pm_up_s ((pm_up_n (by omega)).trans hg) hn (by first | assumption | omega)) mt_X13_wins sv_X13_187 dX13_winningCoalitions_30 rfl rfl rfl rfl rfl ?_
        refine pm_stk (st' := [.int (d_X13_wins (nI j1) n (upd f 6 0) g), .int a2_1]) rfl ?_
        refine pm_if_eq (tgt := 40) B dX13_winningCoalitions_33 (by decide) (fun hq6 => ?_) (fun hq6 => ?_)
        · refine pm_iconst (v := 0) B dX13_winningCoalitions_40 (by decide) ?_
          refine pm_iadd B dX13_winningCoalitions_41 ?_
          refine pm_istore_n B dX13_winningCoalitions_42 rfl rfl ?_
          refine pm_loc (L' := [some (.ref (z + m0)), some (.int (nI (pm_n (d_X13_active n (upd f 6 0) g)))), some (.int (a2_1 + 0)), some (.int (nI j1))]) rfl ?_
          refine pm_iinc B dX13_winningCoalitions_43 rfl rfl rfl ?_
          refine pm_loc (L' := [some (.ref (z + m0)), some (.int (nI (pm_n (d_X13_active n (upd f 6 0) g)))), some (.int (a2_1 + 0)), some (.int (nI (j1 + 1)))]) (by rw [show ((nI j1) : Int32) + Int32.ofInt 1 = (nI (j1 + 1)) from nI_1 _]; rfl) ?_
          refine pm_goto (tgt := 14) B dX13_winningCoalitions_46 (by decide) ?_
          have hDq7 : (K1 (d_X13_winningCoalitions_L1 n f g (k1 + 1) j1 a2_1)) = (K1 (d_X13_winningCoalitions_L1 n f g k1 (j1 + 1) (a2_1 + 0))) := by rw [d_X13_winningCoalitions_L1, if_pos hq4, if_pos hq6]
          refine pm_pst (post' := pm_rt (some (.int ((K1 (d_X13_winningCoalitions_L1 n f g k1 (j1 + 1) (a2_1 + 0))).1))) nx (pm_up M m0 (pm_mo z m0 ((K1 (d_X13_winningCoalitions_L1 n f g k1 (j1 + 1) (a2_1 + 0))).2)))) (by rw [hDq7]) ?_
          exact ih1 (j1 + 1) (by omega) (a2_1 + 0)
        · refine pm_iconst (v := 1) B dX13_winningCoalitions_36 (by decide) ?_
          refine pm_goto (tgt := 41) B dX13_winningCoalitions_37 (by decide) ?_
          refine pm_iadd B dX13_winningCoalitions_41 ?_
          refine pm_istore_n B dX13_winningCoalitions_42 rfl rfl ?_
          refine pm_loc (L' := [some (.ref (z + m0)), some (.int (nI (pm_n (d_X13_active n (upd f 6 0) g)))), some (.int (a2_1 + 1)), some (.int (nI j1))]) rfl ?_
          refine pm_iinc B dX13_winningCoalitions_43 rfl rfl rfl ?_
          refine pm_loc (L' := [some (.ref (z + m0)), some (.int (nI (pm_n (d_X13_active n (upd f 6 0) g)))), some (.int (a2_1 + 1)), some (.int (nI (j1 + 1)))]) (by rw [show ((nI j1) : Int32) + Int32.ofInt 1 = (nI (j1 + 1)) from nI_1 _]; rfl) ?_
          refine pm_goto (tgt := 14) B dX13_winningCoalitions_46 (by decide) ?_
          have hDq8 : (K1 (d_X13_winningCoalitions_L1 n f g (k1 + 1) j1 a2_1)) = (K1 (d_X13_winningCoalitions_L1 n f g k1 (j1 + 1) (a2_1 + 1))) := by rw [d_X13_winningCoalitions_L1, if_pos hq4, if_neg hq6]
          refine pm_pst (post' := pm_rt (some (.int ((K1 (d_X13_winningCoalitions_L1 n f g k1 (j1 + 1) (a2_1 + 1))).1))) nx (pm_up M m0 (pm_mo z m0 ((K1 (d_X13_winningCoalitions_L1 n f g k1 (j1 + 1) (a2_1 + 1))).2)))) (by rw [hDq8]) ?_
          exact ih1 (j1 + 1) (by omega) (a2_1 + 1)
  refine pm_pst (post' := pm_rt (some (.int (((d_X13_winningCoalitions_L1 n f g (pm_n (d_X13_active n (upd f 6 0) g) + 1) 0 0), (upd f 6 0)).1))) nx (pm_up M m0 (pm_mo z m0 (((d_X13_winningCoalitions_L1 n f g (pm_n (d_X13_active n (upd f 6 0) g) + 1) 0 0), (upd f 6 0)).2)))) (by rw [show (d_X13_winningCoalitions n f g) = ((d_X13_winningCoalitions_L1 n f g (pm_n (d_X13_active n (upd f 6 0) g) + 1) 0 0), (upd f 6 0)) from by rw [d_X13_winningCoalitions]]) ?_
  refine loop1 (fun (a2_1 : Int32) => (a2_1, (upd f 6 0))) ?_ (pm_n (d_X13_active n (upd f 6 0) g) + 1) 0 (by omega) 0
  intro a2_1
  refine pm_pst (post' := pm_rt (some (.int ((a2_1, (upd f 6 0)).1))) nx (pm_up M m0 (pm_mo z m0 ((a2_1, (upd f 6 0)).2)))) rfl ?_
  refine pm_iload_n B dX13_winningCoalitions_49 rfl ?_
  have hDq9 : ((a2_1, (upd f 6 0))) = (a2_1, (upd f 6 0)) := rfl
  exact pm_ireturn B dX13_winningCoalitions_50 rfl (by first | rfl | (apply pm_nz; first | assumption | decide | exact pm_in01 _ _ _ | simp)) ⟨(by rw [hDq9]), rfl, by rw [hDq9]⟩ rfl rfl
def d_X13_swings_L1 (x : Int32) (n : Nat) (f : Nat → Int32) (g : Nat → Int32) : Nat → Nat → Int32 → Int32
  | 0, _, a3_1 => a3_1
  | k1 + 1, j1, a3_1 => if ((nI j1) &&& ((nI (pm_n ((nI (pm_n (d_X13_active n (upd f 6 0) g))) &&& (((1 : Int32) <<< ((nI (pm_n x)) &&& 31)) ^^^ (-1))))) ^^^ (-1))) = 0 then (if (d_X13_wins (nI j1) n (upd f 6 0) g) = 0 then (if (d_X13_wins ((nI j1) ||| (1 <<< ((nI (pm_n x)) &&& 31))) n (upd f 6 0) g) = 0 then (d_X13_swings_L1 x n f g k1 (j1 + 1) (a3_1 + 0)) else (d_X13_swings_L1 x n f g k1 (j1 + 1) (a3_1 + 1))) else (d_X13_swings_L1 x n f g k1 (j1 + 1) (a3_1 + 0))) else (d_X13_swings_L1 x n f g k1 (j1 + 1) (a3_1 + 0))
def d_X13_swings (x : Int32) (n : Nat) (f : Nat → Int32) (g : Nat → Int32) : (Int32 × (Nat → Int32)) := if (pm_in x 0 (nI n - 1)) = 0 then (0, (upd f 6 1)) else (if (pm_ib g (pm_n x)) = 0 then ((d_X13_swings_L1 x n f g (pm_n ((nI (pm_n (d_X13_active n (upd f 6 0) g))) &&& (((1 : Int32) <<< ((nI (pm_n x)) &&& 31)) ^^^ (-1))) + 1) 0 0), (upd f 6 0)) else (0, (upd f 6 2)))
set_option maxRecDepth 100000 in
set_option maxHeartbeats 8000000 in
theorem c_X13_swings {l : Launch} {z : Nat} {D : va_G} {kA : Nat → ClassId} {kE : Nat → Nat} {nx : Nat} {M : pm_M} {x : Int32} {n : Nat}{m0 : Nat} {f : Nat → Int32} {g : Nat → Int32} (hM : M m0 = some (pm_mo z m0 f)) (hg : M (m0 + 1) = some (.inl (kA 0, 91, .inl g))) (hn : g 0 = nI n) (h7 : n ≤ 7) : pm_C l z D kA kE yX13_swings cX13_swings 5 (some .int) 3 0 0 [.ref (z + m0), .int x] nx M (pm_rt (some (.int ((d_X13_swings x n f g).1))) nx (pm_up M m0 (pm_mo z m0 ((d_X13_swings x n f g).2)))) := by
  refine pm_mk (own := RX13) (nm := "swings") mt_X13_swings rfl rfl rfl rfl fun X B => ?_
  refine pm_loc (L' := [some (.ref (z + m0)), some (.int x), none, none, none]) rfl ?_
  refine pm_mem (M' := pm_up M m0 (pm_mo z m0 f)) (by rw [pm_up_id hM]) ?_
  refine pm_aload_n B dX13_swings_0 rfl ?_
  refine pm_aload_n B dX13_swings_1 rfl ?_
  refine pm_iload_n B dX13_swings_2 rfl ?_
  refine pm_cV (As := [.int x]) (mc2 := 0) (ms2 := 0) B rfl pm_up_s rfl (c_X13_isMember (f := f) pm_up_s ((pm_up_n (by omega)).trans hg)) mt_X13_isMember sv_X13_100 dX13_swings_3 rfl rfl rfl rfl rfl ?_
  refine pm_stk (st' := [.int (pm_in x 0 (g 0 - 1)), .ref (z + m0)]) rfl ?_
  refine pm_stk (st' := [.int (pm_in x 0 (nI n - 1)), .ref (z + m0)]) (by rw [show (pm_in x 0 (g 0 - 1)) = (pm_in x 0 (nI n - 1)) from by rw [hn]]) ?_
  refine pm_if_ne (tgt := 13) B dX13_swings_6 (by decide) (fun hq1 => ?_) (fun hq1 => ?_)
  · obtain ⟨he_x, hl_x⟩ := pm_in_nx h7 hq1
    refine pm_loc (L' := [some (.ref (z + m0)), some (.int (nI (pm_n x))), none, none, none]) (congrArg (fun yy : Int32 => ([some (.ref (z + m0)), some (.int yy), none, none, none] : List (Option Value))) he_x) ?_
    refine pm_aload_n B dX13_swings_13 rfl ?_
    refine pm_iload_n B dX13_swings_14 rfl ?_
    refine pm_cV (As := [.int (nI (pm_n x))]) (mc2 := 0) (ms2 := 0) B rfl pm_up_s rfl (c_X13_isBarred (f := f) pm_up_s ((pm_up_n (by omega)).trans hg) (i := (pm_n x)) (by first | assumption | omega)) mt_X13_isBarred sv_X13_114 dX13_swings_15 rfl rfl rfl rfl rfl ?_
    refine pm_stk (st' := [.int (pm_ib g (pm_n x)), .ref (z + m0)]) rfl ?_
    refine pm_if_eq (tgt := 25) B dX13_swings_18 (by decide) (fun hq2 => ?_) (fun hq2 => ?_)
    · refine pm_iconst (v := 0) B dX13_swings_25 (by decide) ?_
      refine pm_put B dX13_swings_26 fs_X13_39 pm_up_s rfl rfl rfl ?_
      refine pm_mem (M' := pm_up M m0 (pm_mo z m0 (upd f 6 0))) pm_up_up ?_
      refine pm_aload_n B dX13_swings_29 rfl ?_
      refine pm_get B dX13_swings_30 fl_X13_39 pm_up_s rfl ?_
      refine pm_stk (st' := [.int 0]) rfl ?_
      refine pm_if_le (tgt := 38) B dX13_swings_33 (by decide) (fun hq3 => ?_) (fun hq3 => absurd (by decide) hq3)
      refine pm_aload_n B dX13_swings_38 rfl ?_
      refine pm_cV (As := []) (mc2 := 0) (ms2 := 0) B rfl pm_up_s rfl (c_X13_active (n := n) (f := (upd f 6 0)) (g := g) pm_up_s ((pm_up_n (by omega)).trans hg) hn (by first | assumption | omega)) mt_X13_active sv_X13_184 dX13_swings_39 rfl rfl rfl rfl rfl ?_
      refine pm_stk (st' := [.int (d_X13_active n (upd f 6 0) g)]) rfl ?_
      have hB := (d_X13_active_nI n (upd f 6 0) g h7).1
      refine pm_stk (st' := [.int (nI (pm_n (d_X13_active n (upd f 6 0) g)))]) (congrArg (fun yy : Int32 => ([.int yy] : List Value)) (show (d_X13_active n (upd f 6 0) g) = (nI (pm_n (d_X13_active n (upd f 6 0) g))) from (d_X13_active_nI n (upd f 6 0) g h7).2)) ?_
      refine pm_iconst (v := 1) B dX13_swings_42 (by decide) ?_
      refine pm_iload_n B dX13_swings_43 rfl ?_
      refine pm_ishl B dX13_swings_44 ?_
      refine pm_iconst (v := (-1)) B dX13_swings_45 (by decide) ?_
      refine pm_ixor B dX13_swings_46 ?_
      refine pm_iand B dX13_swings_47 ?_
      have hA := (pm_andL (x := (pm_n (d_X13_active n (upd f 6 0) g))) hB ((((1 : Int32) <<< ((nI (pm_n x)) &&& 31)) ^^^ (-1)) : Int32)).1
      refine pm_stk (st' := [.int (nI (pm_n ((nI (pm_n (d_X13_active n (upd f 6 0) g))) &&& (((1 : Int32) <<< ((nI (pm_n x)) &&& 31)) ^^^ (-1)))))]) (congrArg (fun yy : Int32 => ([.int yy] : List Value)) (show ((nI (pm_n (d_X13_active n (upd f 6 0) g))) &&& (((1 : Int32) <<< ((nI (pm_n x)) &&& 31)) ^^^ (-1))) = (nI (pm_n ((nI (pm_n (d_X13_active n (upd f 6 0) g))) &&& (((1 : Int32) <<< ((nI (pm_n x)) &&& 31)) ^^^ (-1))))) from (pm_andL (x := (pm_n (d_X13_active n (upd f 6 0) g))) hB ((((1 : Int32) <<< ((nI (pm_n x)) &&& 31)) ^^^ (-1)) : Int32)).2)) ?_
      refine pm_istore_n B dX13_swings_48 rfl rfl ?_
      refine pm_loc (L' := [some (.ref (z + m0)), some (.int (nI (pm_n x))), some (.int (nI (pm_n ((nI (pm_n (d_X13_active n (upd f 6 0) g))) &&& (((1 : Int32) <<< ((nI (pm_n x)) &&& 31)) ^^^ (-1)))))), none, none]) rfl ?_
      refine pm_iconst (v := 0) B dX13_swings_49 (by decide) ?_
      refine pm_istore_n B dX13_swings_50 rfl rfl ?_
      refine pm_loc (L' := [some (.ref (z + m0)), some (.int (nI (pm_n x))), some (.int (nI (pm_n ((nI (pm_n (d_X13_active n (upd f 6 0) g))) &&& (((1 : Int32) <<< ((nI (pm_n x)) &&& 31)) ^^^ (-1)))))), some (.int 0), none]) rfl ?_
      refine pm_iconst (v := 0) B dX13_swings_51 (by decide) ?_
      refine pm_istore B dX13_swings_52 rfl rfl ?_
      refine pm_loc (L' := [some (.ref (z + m0)), some (.int (nI (pm_n x))), some (.int (nI (pm_n ((nI (pm_n (d_X13_active n (upd f 6 0) g))) &&& (((1 : Int32) <<< ((nI (pm_n x)) &&& 31)) ^^^ (-1)))))), some (.int 0), some (.int 0)]) rfl ?_
      refine pm_loc (L' := [some (.ref (z + m0)), some (.int (nI (pm_n x))), some (.int (nI (pm_n ((nI (pm_n (d_X13_active n (upd f 6 0) g))) &&& (((1 : Int32) <<< ((nI (pm_n x)) &&& 31)) ^^^ (-1)))))), some (.int 0), some (.int (nI 0))]) rfl ?_
      have loop1 : ∀ (K1 : (Int32 → (Int32 × (Nat → Int32)))), (∀ (a3_1 : Int32), pm_G l z D X 0 0 (pm_Q z D (pm_rt (some (.int ((K1 a3_1).1))) nx (pm_up M m0 (pm_mo z m0 ((K1 a3_1).2)))) 0 0 X) nx (pm_up M m0 (pm_mo z m0 (upd f 6 0))) 105 [none, none, none, some (.int a3_1), none] []) → ∀ (k1 j1 : Nat), j1 + k1 = (pm_n ((nI (pm_n (d_X13_active n (upd f 6 0) g))) &&& (((1 : Int32) <<< ((nI (pm_n x)) &&& 31)) ^^^ (-1))) + 1) → ∀ (a3_1 : Int32), pm_G l z D X 0 0 (pm_Q z D (pm_rt (some (.int ((K1 (d_X13_swings_L1 x n f g k1 j1 a3_1)).1))) nx (pm_up M m0 (pm_mo z m0 ((K1 (d_X13_swings_L1 x n f g k1 j1 a3_1)).2)))) 0 0 X) nx (pm_up M m0 (pm_mo z m0 (upd f 6 0))) 54 [some (.ref (z + m0)), some (.int (nI (pm_n x))), some (.int (nI (pm_n ((nI (pm_n (d_X13_active n (upd f 6 0) g))) &&& (((1 : Int32) <<< ((nI (pm_n x)) &&& 31)) ^^^ (-1)))))), some (.int a3_1), some (.int (nI j1))] [] := by
        intro K1 hK1 k1
        induction k1 with
        | zero =>
          intro j1 hj1 a3_1
          have hjn1 : j1 = (pm_n ((nI (pm_n (d_X13_active n (upd f 6 0) g))) &&& (((1 : Int32) <<< ((nI (pm_n x)) &&& 31)) ^^^ (-1))) + 1) := by omega
          refine pm_iload B dX13_swings_54 rfl ?_
          refine pm_iload_n B dX13_swings_56 rfl ?_
          refine pm_icmp_gt (tgt := 105) B dX13_swings_57 (by decide) (fun hq4 => ?_) (fun hq4 => absurd ((nI_ltI (by first | omega | decide) (by first | omega | decide)).mpr (by omega)) hq4)
          refine pm_wk (L' := [none, none, none, some (.int a3_1), none]) ⟨rfl, trivial⟩ ?_
          have hDq5 : (K1 (d_X13_swings_L1 x n f g 0 j1 a3_1)) = (K1 a3_1) := by rw [d_X13_swings_L1]
          refine pm_pst (post' := pm_rt (some (.int ((K1 a3_1).1))) nx (pm_up M m0 (pm_mo z m0 ((K1 a3_1).2)))) (by rw [hDq5]) ?_
          exact hK1 a3_1
        | succ k1 ih1 =>
          intro j1 hj1 a3_1
          have hjn1 : j1 < (pm_n ((nI (pm_n (d_X13_active n (upd f 6 0) g))) &&& (((1 : Int32) <<< ((nI (pm_n x)) &&& 31)) ^^^ (-1))) + 1) := by omega
          refine pm_iload B dX13_swings_54 rfl ?_
          refine pm_iload_n B dX13_swings_56 rfl ?_
          refine pm_icmp_gt (tgt := 105) B dX13_swings_57 (by decide) (fun hq6 => absurd hq6 (fun e => absurd ((nI_ltI (by first | omega | decide) (by first | omega | decide)).mp e) (by omega))) (fun hq6 => ?_)
          refine pm_iload_n B dX13_swings_60 rfl ?_
          refine pm_iload B dX13_swings_61 rfl ?_
          refine pm_iload_n B dX13_swings_63 rfl ?_
          refine pm_iconst (v := (-1)) B dX13_swings_64 (by decide) ?_
          refine pm_ixor B dX13_swings_65 ?_
          refine pm_iand B dX13_swings_66 ?_
          refine pm_if_ne (tgt := 96) B dX13_swings_67 (by decide) (fun hq7 => ?_) (fun hq7 => ?_)
          · refine pm_iconst (v := 0) B dX13_swings_96 (by decide) ?_
            refine pm_iadd B dX13_swings_97 ?_
            refine pm_istore_n B dX13_swings_98 rfl rfl ?_
            refine pm_loc (L' := [some (.ref (z + m0)), some (.int (nI (pm_n x))), some (.int (nI (pm_n ((nI (pm_n (d_X13_active n (upd f 6 0) g))) &&& (((1 : Int32) <<< ((nI (pm_n x)) &&& 31)) ^^^ (-1)))))), some (.int (a3_1 + 0)), some (.int (nI j1))]) rfl ?_
            refine pm_iinc B dX13_swings_99 rfl rfl rfl ?_
            refine pm_loc (L' := [some (.ref (z + m0)), some (.int (nI (pm_n x))), some (.int (nI (pm_n ((nI (pm_n (d_X13_active n (upd f 6 0) g))) &&& (((1 : Int32) <<< ((nI (pm_n x)) &&& 31)) ^^^ (-1)))))), some (.int (a3_1 + 0)), some (.int (nI (j1 + 1)))]) (by rw [show ((nI j1) : Int32) + Int32.ofInt 1 = (nI (j1 + 1)) from nI_1 _]; rfl) ?_
            refine pm_goto (tgt := 54) B dX13_swings_102 (by decide) ?_
            have hDq8 : (K1 (d_X13_swings_L1 x n f g (k1 + 1) j1 a3_1)) = (K1 (d_X13_swings_L1 x n f g k1 (j1 + 1) (a3_1 + 0))) := by rw [d_X13_swings_L1, if_neg hq7]
            refine pm_pst (post' := pm_rt (some (.int ((K1 (d_X13_swings_L1 x n f g k1 (j1 + 1) (a3_1 + 0))).1))) nx (pm_up M m0 (pm_mo z m0 ((K1 (d_X13_swings_L1 x n f g k1 (j1 + 1) (a3_1 + 0))).2)))) (by rw [hDq8]) ?_
            exact ih1 (j1 + 1) (by omega) (a3_1 + 0)
          · refine pm_aload_n B dX13_swings_70 rfl ?_
            refine pm_iload B dX13_swings_71 rfl ?_
            refine pm_cV (As := [.int (nI j1)]) (mc2 := 0) (ms2 := 0) B rfl pm_up_s rfl (c_X13_wins (x := (nI j1)) (n := n) (f := (upd f 6 0)) (g := g) pm_up_s ((pm_up_n (by omega)).trans hg) hn (by first | assumption | omega)) mt_X13_wins sv_X13_187 dX13_swings_73 rfl rfl rfl rfl rfl ?_
            refine pm_stk (st' := [.int (d_X13_wins (nI j1) n (upd f 6 0) g), .int a3_1]) rfl ?_
            refine pm_if_ne (tgt := 96) B dX13_swings_76 (by decide) (fun hq9 => ?_) (fun hq9 => ?_)
            · refine pm_iconst (v := 0) B dX13_swings_96 (by decide) ?_
              refine pm_iadd B dX13_swings_97 ?_
              refine pm_istore_n B dX13_swings_98 rfl rfl ?_
              refine pm_loc (L' := [some (.ref (z + m0)), some (.int (nI (pm_n x))), some (.int (nI (pm_n ((nI (pm_n (d_X13_active n (upd f 6 0) g))) &&& (((1 : Int32) <<< ((nI (pm_n x)) &&& 31)) ^^^ (-1)))))), some (.int (a3_1 + 0)), some (.int (nI j1))]) rfl ?_
              refine pm_iinc B dX13_swings_99 rfl rfl rfl ?_
              refine pm_loc (L' := [some (.ref (z + m0)), some (.int (nI (pm_n x))), some (.int (nI (pm_n ((nI (pm_n (d_X13_active n (upd f 6 0) g))) &&& (((1 : Int32) <<< ((nI (pm_n x)) &&& 31)) ^^^ (-1)))))), some (.int (a3_1 + 0)), some (.int (nI (j1 + 1)))]) (by rw [show ((nI j1) : Int32) + Int32.ofInt 1 = (nI (j1 + 1)) from nI_1 _]; rfl) ?_
              refine pm_goto (tgt := 54) B dX13_swings_102 (by decide) ?_
              have hDq10 : (K1 (d_X13_swings_L1 x n f g (k1 + 1) j1 a3_1)) = (K1 (d_X13_swings_L1 x n f g k1 (j1 + 1) (a3_1 + 0))) := by rw [d_X13_swings_L1, if_pos hq7, if_neg hq9]
              refine pm_pst (post' := pm_rt (some (.int ((K1 (d_X13_swings_L1 x n f g k1 (j1 + 1) (a3_1 + 0))).1))) nx (pm_up M m0 (pm_mo z m0 ((K1 (d_X13_swings_L1 x n f g k1 (j1 + 1) (a3_1 + 0))).2)))) (by rw [hDq10]) ?_
              exact ih1 (j1 + 1) (by omega) (a3_1 + 0)
            · refine pm_aload_n B dX13_swings_79 rfl ?_
              refine pm_iload B dX13_swings_80 rfl ?_
              refine pm_iconst (v := 1) B dX13_swings_82 (by decide) ?_
              refine pm_iload_n B dX13_swings_83 rfl ?_
              refine pm_ishl B dX13_swings_84 ?_
              refine pm_ior B dX13_swings_85 ?_
              refine pm_cV (As := [.int ((nI j1) ||| (1 <<< ((nI (pm_n x)) &&& 31)))]) (mc2 := 0) (ms2 := 0) B rfl pm_up_s rfl (c_X13_wins (x := ((nI j1) ||| (1 <<< ((nI (pm_n x)) &&& 31)))) (n := n) (f := (upd f 6 0)) (g := g) pm_up_s ((pm_up_n (by omega)).trans hg) hn (by first | assumption | omega)) mt_X13_wins sv_X13_187 dX13_swings_86 rfl rfl rfl rfl rfl ?_
              refine pm_stk (st' := [.int (d_X13_wins ((nI j1) ||| (1 <<< ((nI (pm_n x)) &&& 31))) n (upd f 6 0) g), .int a3_1]) rfl ?_
              refine pm_if_eq (tgt := 96) B dX13_swings_89 (by decide) (fun hq11 => ?_) (fun hq11 => ?_)
              · refine pm_iconst (v := 0) B dX13_swings_96 (by decide) ?_
                refine pm_iadd B dX13_swings_97 ?_
                refine pm_istore_n B dX13_swings_98 rfl rfl ?_
                refine pm_loc (L' := [some (.ref (z + m0)), some (.int (nI (pm_n x))), some (.int (nI (pm_n ((nI (pm_n (d_X13_active n (upd f 6 0) g))) &&& (((1 : Int32) <<< ((nI (pm_n x)) &&& 31)) ^^^ (-1)))))), some (.int (a3_1 + 0)), some (.int (nI j1))]) rfl ?_
                refine pm_iinc B dX13_swings_99 rfl rfl rfl ?_
                refine pm_loc (L' := [some (.ref (z + m0)), some (.int (nI (pm_n x))), some (.int (nI (pm_n ((nI (pm_n (d_X13_active n (upd f 6 0) g))) &&& (((1 : Int32) <<< ((nI (pm_n x)) &&& 31)) ^^^ (-1)))))), some (.int (a3_1 + 0)), some (.int (nI (j1 + 1)))]) (by rw [show ((nI j1) : Int32) + Int32.ofInt 1 = (nI (j1 + 1)) from nI_1 _]; rfl) ?_
                refine pm_goto (tgt := 54) B dX13_swings_102 (by decide) ?_
                have hDq12 : (K1 (d_X13_swings_L1 x n f g (k1 + 1) j1 a3_1)) = (K1 (d_X13_swings_L1 x n f g k1 (j1 + 1) (a3_1 + 0))) := by rw [d_X13_swings_L1, if_pos hq7, if_pos hq9, if_pos hq11]
                refine pm_pst (post' := pm_rt (some (.int ((K1 (d_X13_swings_L1 x n f g k1 (j1 + 1) (a3_1 + 0))).1))) nx (pm_up M m0 (pm_mo z m0 ((K1 (d_X13_swings_L1 x n f g k1 (j1 + 1) (a3_1 + 0))).2)))) (by rw [hDq12]) ?_
                exact ih1 (j1 + 1) (by omega) (a3_1 + 0)
              · refine pm_iconst (v := 1) B dX13_swings_92 (by decide) ?_
                refine pm_goto (tgt := 97) B dX13_swings_93 (by decide) ?_
                refine pm_iadd B dX13_swings_97 ?_
                refine pm_istore_n B dX13_swings_98 rfl rfl ?_
                refine pm_loc (L' := [some (.ref (z + m0)), some (.int (nI (pm_n x))), some (.int (nI (pm_n ((nI (pm_n (d_X13_active n (upd f 6 0) g))) &&& (((1 : Int32) <<< ((nI (pm_n x)) &&& 31)) ^^^ (-1)))))), some (.int (a3_1 + 1)), some (.int (nI j1))]) rfl ?_
                refine pm_iinc B dX13_swings_99 rfl rfl rfl ?_
                refine pm_loc (L' := [some (.ref (z + m0)), some (.int (nI (pm_n x))), some (.int (nI (pm_n ((nI (pm_n (d_X13_active n (upd f 6 0) g))) &&& (((1 : Int32) <<< ((nI (pm_n x)) &&& 31)) ^^^ (-1)))))), some (.int (a3_1 + 1)), some (.int (nI (j1 + 1)))]) (by rw [show ((nI j1) : Int32) + Int32.ofInt 1 = (nI (j1 + 1)) from nI_1 _]; rfl) ?_
                refine pm_goto (tgt := 54) B dX13_swings_102 (by decide) ?_
                have hDq13 : (K1 (d_X13_swings_L1 x n f g (k1 + 1) j1 a3_1)) = (K1 (d_X13_swings_L1 x n f g k1 (j1 + 1) (a3_1 + 1))) := by rw [d_X13_swings_L1, if_pos hq7, if_pos hq9, if_neg hq11]
                refine pm_pst (post' := pm_rt (some (.int ((K1 (d_X13_swings_L1 x n f g k1 (j1 + 1) (a3_1 + 1))).1))) nx (pm_up M m0 (pm_mo z m0 ((K1 (d_X13_swings_L1 x n f g k1 (j1 + 1) (a3_1 + 1))).2)))) (by rw [hDq13]) ?_
                exact ih1 (j1 + 1) (by omega) (a3_1 + 1)
      refine pm_pst (post' := pm_rt (some (.int (((d_X13_swings_L1 x n f g (pm_n ((nI (pm_n (d_X13_active n (upd f 6 0) g))) &&& (((1 : Int32) <<< ((nI (pm_n x)) &&& 31)) ^^^ (-1))) + 1) 0 0), (upd f 6 0)).1))) nx (pm_up M m0 (pm_mo z m0 (((d_X13_swings_L1 x n f g (pm_n ((nI (pm_n (d_X13_active n (upd f 6 0) g))) &&& (((1 : Int32) <<< ((nI (pm_n x)) &&& 31)) ^^^ (-1))) + 1) 0 0), (upd f 6 0)).2)))) (by rw [show (d_X13_swings x n f g) = ((d_X13_swings_L1 x n f g (pm_n ((nI (pm_n (d_X13_active n (upd f 6 0) g))) &&& (((1 : Int32) <<< ((nI (pm_n x)) &&& 31)) ^^^ (-1))) + 1) 0 0), (upd f 6 0)) from by rw [d_X13_swings, if_neg hq1, if_pos hq2]]) ?_
      refine loop1 (fun (a3_1 : Int32) => (a3_1, (upd f 6 0))) ?_ (pm_n ((nI (pm_n (d_X13_active n (upd f 6 0) g))) &&& (((1 : Int32) <<< ((nI (pm_n x)) &&& 31)) ^^^ (-1))) + 1) 0 (by omega) 0
      intro a3_1
      refine pm_pst (post' := pm_rt (some (.int ((a3_1, (upd f 6 0)).1))) nx (pm_up M m0 (pm_mo z m0 ((a3_1, (upd f 6 0)).2)))) rfl ?_
      refine pm_iload_n B dX13_swings_105 rfl ?_
      have hDq14 : ((a3_1, (upd f 6 0))) = (a3_1, (upd f 6 0)) := rfl
      exact pm_ireturn B dX13_swings_106 rfl (by first | rfl | (apply pm_nz; first | assumption | decide | exact pm_in01 _ _ _ | simp)) ⟨(by rw [hDq14]), rfl, by rw [hDq14]⟩ rfl rfl
    · refine pm_iconst (v := 2) B dX13_swings_21 (by decide) ?_
      refine pm_goto (tgt := 26) B dX13_swings_22 (by decide) ?_
      refine pm_put B dX13_swings_26 fs_X13_39 pm_up_s rfl rfl rfl ?_
      refine pm_mem (M' := pm_up M m0 (pm_mo z m0 (upd f 6 2))) pm_up_up ?_
      refine pm_aload_n B dX13_swings_29 rfl ?_
      refine pm_get B dX13_swings_30 fl_X13_39 pm_up_s rfl ?_
      refine pm_stk (st' := [.int 2]) rfl ?_
      refine pm_if_le (tgt := 38) B dX13_swings_33 (by decide) (fun hq15 => absurd hq15 (by decide)) (fun hq15 => ?_)
      refine pm_iconst (v := 0) B dX13_swings_36 (by decide) ?_
      have hDq16 : (d_X13_swings x n f g) = (0, (upd f 6 2)) := by rw [d_X13_swings, if_neg hq1, if_neg hq2]
      exact pm_ireturn B dX13_swings_37 rfl (by first | rfl | (apply pm_nz; first | assumption | decide | exact pm_in01 _ _ _ | simp)) ⟨(by rw [hDq16]), rfl, by rw [hDq16]⟩ rfl rfl
  · refine pm_iconst (v := 1) B dX13_swings_9 (by decide) ?_
    refine pm_goto (tgt := 26) B dX13_swings_10 (by decide) ?_
    refine pm_put B dX13_swings_26 fs_X13_39 pm_up_s rfl rfl rfl ?_
    refine pm_mem (M' := pm_up M m0 (pm_mo z m0 (upd f 6 1))) pm_up_up ?_
    refine pm_aload_n B dX13_swings_29 rfl ?_
    refine pm_get B dX13_swings_30 fl_X13_39 pm_up_s rfl ?_
    refine pm_stk (st' := [.int 1]) rfl ?_
    refine pm_if_le (tgt := 38) B dX13_swings_33 (by decide) (fun hq17 => absurd hq17 (by decide)) (fun hq17 => ?_)
    refine pm_iconst (v := 0) B dX13_swings_36 (by decide) ?_
    have hDq18 : (d_X13_swings x n f g) = (0, (upd f 6 1)) := by rw [d_X13_swings, if_pos hq1]
    exact pm_ireturn B dX13_swings_37 rfl (by first | rfl | (apply pm_nz; first | assumption | decide | exact pm_in01 _ _ _ | simp)) ⟨(by rw [hDq18]), rfl, by rw [hDq18]⟩ rfl rfl
def d_X13_swingsByCounts (x : Int32) (n : Nat) (f : Nat → Int32) (g : Nat → Int32) : (Int32 × (Nat → Int32)) := (((d_X13_swings x n f g).1), ((d_X13_swings x n f g).2))
set_option maxRecDepth 100000 in
set_option maxHeartbeats 8000000 in
theorem c_X13_swingsByCounts {l : Launch} {z : Nat} {D : va_G} {kA : Nat → ClassId} {kE : Nat → Nat} {nx : Nat} {M : pm_M} {x : Int32} {n : Nat}{m0 : Nat} {f : Nat → Int32} {g : Nat → Int32} (hM : M m0 = some (pm_mo z m0 f)) (hg : M (m0 + 1) = some (.inl (kA 0, 91, .inl g))) (hn : g 0 = nI n) (h7 : n ≤ 7) : pm_C l z D kA kE yX13_swingsByCounts cX13_swingsByCounts 2 (some .int) 4 0 0 [.ref (z + m0), .int x] nx M (pm_rt (some (.int ((d_X13_swingsByCounts x n f g).1))) nx (pm_up M m0 (pm_mo z m0 ((d_X13_swingsByCounts x n f g).2)))) := by
  refine pm_mk (own := RX13) (nm := "swingsByCounts") mt_X13_swingsByCounts rfl rfl rfl rfl fun X B => ?_
  refine pm_loc (L' := [some (.ref (z + m0)), some (.int x)]) rfl ?_
  refine pm_mem (M' := pm_up M m0 (pm_mo z m0 f)) (by rw [pm_up_id hM]) ?_
  refine pm_aload_n B dX13_swingsByCounts_0 rfl ?_
  refine pm_iload_n B dX13_swingsByCounts_1 rfl ?_
  refine pm_cV (As := [.int x]) (mc2 := 0) (ms2 := 0) B rfl pm_up_s rfl (c_X13_swings (x := x) (n := n) (f := f) (g := g) pm_up_s ((pm_up_n (by omega)).trans hg) hn (by first | assumption | omega)) mt_X13_swings sv_X13_190 dX13_swingsByCounts_2 rfl rfl rfl rfl rfl ?_
  refine pm_mem (M' := pm_up (pm_up M m0 (pm_mo z m0 f)) m0 (pm_mo z m0 ((d_X13_swings x n f g).2))) rfl ?_
  refine pm_mem (M' := pm_up M m0 (pm_mo z m0 ((d_X13_swings x n f g).2))) (by rw [pm_up_up (a := m0)]) ?_
  refine pm_stk (st' := [.int ((d_X13_swings x n f g).1)]) rfl ?_
  have hDq1 : (d_X13_swingsByCounts x n f g) = (((d_X13_swings x n f g).1), ((d_X13_swings x n f g).2)) := by rw [d_X13_swingsByCounts]
  exact pm_ireturn B dX13_swingsByCounts_5 rfl (by first | rfl | (apply pm_nz; first | assumption | decide | exact pm_in01 _ _ _ | simp)) ⟨(by rw [hDq1]), rfl, by rw [hDq1]⟩ rfl rfl
def d_X13_leastDifference_L1 (n : Nat) (f : Nat → Int32) (g : Nat → Int32) : Nat → Nat → Int32 → Int32
  | 0, _, a3_1 => a3_1
  | k1 + 1, j1, a3_1 => if ((nI j1) &&& ((nI (pm_n (d_X13_active n (upd f 6 0) g))) ^^^ (-1))) = 0 then (d_X13_leastDifference_L1 n f g k1 (j1 + 1) (pm_min a3_1 (pm_abs ((2 * (d_X13_votesOf (nI j1) n (upd f 6 0) g)) - (d_X13_votesOf (nI (pm_n (d_X13_active n (upd f 6 0) g))) n (upd f 6 0) g))))) else (d_X13_leastDifference_L1 n f g k1 (j1 + 1) a3_1)
def d_X13_leastDifference (n : Nat) (f : Nat → Int32) (g : Nat → Int32) : (Int32 × (Nat → Int32)) := ((d_X13_leastDifference_L1 n f g (pm_n (d_X13_active n (upd f 6 0) g) + 1) 0 (d_X13_votesOf (nI (pm_n (d_X13_active n (upd f 6 0) g))) n (upd f 6 0) g)), (upd f 6 0))
set_option maxRecDepth 100000 in
set_option maxHeartbeats 8000000 in
theorem c_X13_leastDifference {l : Launch} {z : Nat} {D : va_G} {kA : Nat → ClassId} {kE : Nat → Nat} {nx : Nat} {M : pm_M} {n : Nat}{m0 : Nat} {f : Nat → Int32} {g : Nat → Int32} (hM : M m0 = some (pm_mo z m0 f)) (hg : M (m0 + 1) = some (.inl (kA 0, 91, .inl g))) (hn : g 0 = nI n) (h7 : n ≤ 7) : pm_C l z D kA kE yX13_leastDifference cX13_leastDifference 6 (some .int) 3 0 0 [.ref (z + m0)] nx M (pm_rt (some (.int ((d_X13_leastDifference n f g).1))) nx (pm_up M m0 (pm_mo z m0 ((d_X13_leastDifference n f g).2)))) := by
  refine pm_mk (own := RX13) (nm := "leastDifference") mt_X13_leastDifference rfl rfl rfl rfl fun X B => ?_
  refine pm_loc (L' := [some (.ref (z + m0)), none, none, none, none, none]) rfl ?_
  refine pm_mem (M' := pm_up M m0 (pm_mo z m0 f)) (by rw [pm_up_id hM]) ?_
  refine pm_aload_n B dX13_leastDifference_0 rfl ?_
  refine pm_iconst (v := 0) B dX13_leastDifference_1 (by decide) ?_
  refine pm_put B dX13_leastDifference_2 fs_X13_39 pm_up_s rfl rfl rfl ?_
  refine pm_mem (M' := pm_up M m0 (pm_mo z m0 (upd f 6 0))) pm_up_up ?_
  refine pm_aload_n B dX13_leastDifference_5 rfl ?_
  refine pm_cV (As := []) (mc2 := 0) (ms2 := 0) B rfl pm_up_s rfl (c_X13_active (n := n) (f := (upd f 6 0)) (g := g) pm_up_s ((pm_up_n (by omega)).trans hg) hn (by first | assumption | omega)) mt_X13_active sv_X13_184 dX13_leastDifference_6 rfl rfl rfl rfl rfl ?_
  refine pm_stk (st' := [.int (d_X13_active n (upd f 6 0) g)]) rfl ?_
  have hA := (d_X13_active_nI n (upd f 6 0) g h7).1
  refine pm_stk (st' := [.int (nI (pm_n (d_X13_active n (upd f 6 0) g)))]) (congrArg (fun yy : Int32 => ([.int yy] : List Value)) (show (d_X13_active n (upd f 6 0) g) = (nI (pm_n (d_X13_active n (upd f 6 0) g))) from (d_X13_active_nI n (upd f 6 0) g h7).2)) ?_
  refine pm_istore_n B dX13_leastDifference_9 rfl rfl ?_
  refine pm_loc (L' := [some (.ref (z + m0)), some (.int (nI (pm_n (d_X13_active n (upd f 6 0) g)))), none, none, none, none]) rfl ?_
  refine pm_aload_n B dX13_leastDifference_10 rfl ?_
  refine pm_iload_n B dX13_leastDifference_11 rfl ?_
  refine pm_cV (As := [.int (nI (pm_n (d_X13_active n (upd f 6 0) g)))]) (mc2 := 0) (ms2 := 0) B rfl pm_up_s rfl (c_X13_votesOf (x := (nI (pm_n (d_X13_active n (upd f 6 0) g)))) (n := n) (f := (upd f 6 0)) (g := g) pm_up_s ((pm_up_n (by omega)).trans hg) hn (by first | assumption | omega)) mt_X13_votesOf sv_X13_181 dX13_leastDifference_12 rfl rfl rfl rfl rfl ?_
  refine pm_stk (st' := [.int (d_X13_votesOf (nI (pm_n (d_X13_active n (upd f 6 0) g))) n (upd f 6 0) g)]) rfl ?_
  refine pm_istore_n B dX13_leastDifference_15 rfl rfl ?_
  refine pm_loc (L' := [some (.ref (z + m0)), some (.int (nI (pm_n (d_X13_active n (upd f 6 0) g)))), some (.int (d_X13_votesOf (nI (pm_n (d_X13_active n (upd f 6 0) g))) n (upd f 6 0) g)), none, none, none]) rfl ?_
  refine pm_iload_n B dX13_leastDifference_16 rfl ?_
  refine pm_istore_n B dX13_leastDifference_17 rfl rfl ?_
  refine pm_loc (L' := [some (.ref (z + m0)), some (.int (nI (pm_n (d_X13_active n (upd f 6 0) g)))), some (.int (d_X13_votesOf (nI (pm_n (d_X13_active n (upd f 6 0) g))) n (upd f 6 0) g)), some (.int (d_X13_votesOf (nI (pm_n (d_X13_active n (upd f 6 0) g))) n (upd f 6 0) g)), none, none]) rfl ?_
  refine pm_iconst (v := 0) B dX13_leastDifference_18 (by decide) ?_
  refine pm_istore B dX13_leastDifference_19 rfl rfl ?_
  refine pm_loc (L' := [some (.ref (z + m0)), some (.int (nI (pm_n (d_X13_active n (upd f 6 0) g)))), some (.int (d_X13_votesOf (nI (pm_n (d_X13_active n (upd f 6 0) g))) n (upd f 6 0) g)), some (.int (d_X13_votesOf (nI (pm_n (d_X13_active n (upd f 6 0) g))) n (upd f 6 0) g)), some (.int 0), none]) rfl ?_
  refine pm_loc (L' := [some (.ref (z + m0)), some (.int (nI (pm_n (d_X13_active n (upd f 6 0) g)))), some (.int (d_X13_votesOf (nI (pm_n (d_X13_active n (upd f 6 0) g))) n (upd f 6 0) g)), some (.int (d_X13_votesOf (nI (pm_n (d_X13_active n (upd f 6 0) g))) n (upd f 6 0) g)), some (.int (nI 0)), none]) rfl ?_
  have loop1 : ∀ (K1 : (Int32 → (Int32 × (Nat → Int32)))), (∀ (a3_1 : Int32), pm_G l z D X 0 0 (pm_Q z D (pm_rt (some (.int ((K1 a3_1).1))) nx (pm_up M m0 (pm_mo z m0 ((K1 a3_1).2)))) 0 0 X) nx (pm_up M m0 (pm_mo z m0 (upd f 6 0))) 68 [none, none, none, some (.int a3_1), none, none] []) → ∀ (k1 j1 : Nat), j1 + k1 = (pm_n (d_X13_active n (upd f 6 0) g) + 1) → ∀ (a3_1 : Int32), pm_G l z D X 0 0 (pm_Q z D (pm_rt (some (.int ((K1 (d_X13_leastDifference_L1 n f g k1 j1 a3_1)).1))) nx (pm_up M m0 (pm_mo z m0 ((K1 (d_X13_leastDifference_L1 n f g k1 j1 a3_1)).2)))) 0 0 X) nx (pm_up M m0 (pm_mo z m0 (upd f 6 0))) 21 [some (.ref (z + m0)), some (.int (nI (pm_n (d_X13_active n (upd f 6 0) g)))), some (.int (d_X13_votesOf (nI (pm_n (d_X13_active n (upd f 6 0) g))) n (upd f 6 0) g)), some (.int a3_1), some (.int (nI j1)), none] [] := by
    intro K1 hK1 k1
    induction k1 with
    | zero =>
      intro j1 hj1 a3_1
      have hjn1 : j1 = (pm_n (d_X13_active n (upd f 6 0) g) + 1) := by omega
      refine pm_iload B dX13_leastDifference_21 rfl ?_
      refine pm_iload_n B dX13_leastDifference_23 rfl ?_
      refine pm_icmp_gt (tgt := 68) B dX13_leastDifference_24 (by decide) (fun hq1 => ?_) (fun hq1 => absurd ((nI_ltI (by first | omega | decide) (by first | omega | decide)).mpr (by omega)) hq1)
      refine pm_wk (L' := [none, none, none, some (.int a3_1), none, none]) ⟨rfl, trivial⟩ ?_
      have hDq2 : (K1 (d_X13_leastDifference_L1 n f g 0 j1 a3_1)) = (K1 a3_1) := by rw [d_X13_leastDifference_L1]
      refine pm_pst (post' := pm_rt (some (.int ((K1 a3_1).1))) nx (pm_up M m0 (pm_mo z m0 ((K1 a3_1).2)))) (by rw [hDq2]) ?_
      exact hK1 a3_1
    | succ k1 ih1 =>
      intro j1 hj1 a3_1
      have hjn1 : j1 < (pm_n (d_X13_active n (upd f 6 0) g) + 1) := by omega
      refine pm_iload B dX13_leastDifference_21 rfl ?_
      refine pm_iload_n B dX13_leastDifference_23 rfl ?_
      refine pm_icmp_gt (tgt := 68) B dX13_leastDifference_24 (by decide) (fun hq3 => absurd hq3 (fun e => absurd ((nI_ltI (by first | omega | decide) (by first | omega | decide)).mp e) (by omega))) (fun hq3 => ?_)
      refine pm_iconst (v := 2) B dX13_leastDifference_27 (by decide) ?_
      refine pm_aload_n B dX13_leastDifference_28 rfl ?_
      refine pm_iload B dX13_leastDifference_29 rfl ?_
      refine pm_cV (As := [.int (nI j1)]) (mc2 := 0) (ms2 := 0) B rfl pm_up_s rfl (c_X13_votesOf (x := (nI j1)) (n := n) (f := (upd f 6 0)) (g := g) pm_up_s ((pm_up_n (by omega)).trans hg) hn (by first | assumption | omega)) mt_X13_votesOf sv_X13_181 dX13_leastDifference_31 rfl rfl rfl rfl rfl ?_
      refine pm_stk (st' := [.int (d_X13_votesOf (nI j1) n (upd f 6 0) g), .int 2]) rfl ?_
      refine pm_imul B dX13_leastDifference_34 ?_
      refine pm_iload_n B dX13_leastDifference_35 rfl ?_
      refine pm_isub B dX13_leastDifference_36 ?_
      refine pm_istore B dX13_leastDifference_37 rfl rfl ?_
      refine pm_loc (L' := [some (.ref (z + m0)), some (.int (nI (pm_n (d_X13_active n (upd f 6 0) g)))), some (.int (d_X13_votesOf (nI (pm_n (d_X13_active n (upd f 6 0) g))) n (upd f 6 0) g)), some (.int a3_1), some (.int (nI j1)), some (.int ((2 * (d_X13_votesOf (nI j1) n (upd f 6 0) g)) - (d_X13_votesOf (nI (pm_n (d_X13_active n (upd f 6 0) g))) n (upd f 6 0) g)))]) rfl ?_
      refine pm_iload B dX13_leastDifference_39 rfl ?_
      refine pm_iload_n B dX13_leastDifference_41 rfl ?_
      refine pm_iconst (v := (-1)) B dX13_leastDifference_42 (by decide) ?_
      refine pm_ixor B dX13_leastDifference_43 ?_
      refine pm_iand B dX13_leastDifference_44 ?_
      refine pm_if_ne (tgt := 60) B dX13_leastDifference_45 (by decide) (fun hq4 => ?_) (fun hq4 => ?_)
      · refine pm_iload_n B dX13_leastDifference_60 rfl ?_
        refine pm_istore_n B dX13_leastDifference_61 rfl rfl ?_
        refine pm_loc (L' := [some (.ref (z + m0)), some (.int (nI (pm_n (d_X13_active n (upd f 6 0) g)))), some (.int (d_X13_votesOf (nI (pm_n (d_X13_active n (upd f 6 0) g))) n (upd f 6 0) g)), some (.int a3_1), some (.int (nI j1)), some (.int ((2 * (d_X13_votesOf (nI j1) n (upd f 6 0) g)) - (d_X13_votesOf (nI (pm_n (d_X13_active n (upd f 6 0) g))) n (upd f 6 0) g)))]) rfl ?_
        refine pm_iinc B dX13_leastDifference_62 rfl rfl rfl ?_
        refine pm_loc (L' := [some (.ref (z + m0)), some (.int (nI (pm_n (d_X13_active n (upd f 6 0) g)))), some (.int (d_X13_votesOf (nI (pm_n (d_X13_active n (upd f 6 0) g))) n (upd f 6 0) g)), some (.int a3_1), some (.int (nI (j1 + 1))), some (.int ((2 * (d_X13_votesOf (nI j1) n (upd f 6 0) g)) - (d_X13_votesOf (nI (pm_n (d_X13_active n (upd f 6 0) g))) n (upd f 6 0) g)))]) (by rw [show ((nI j1) : Int32) + Int32.ofInt 1 = (nI (j1 + 1)) from nI_1 _]; rfl) ?_
        refine pm_goto (tgt := 21) B dX13_leastDifference_65 (by decide) ?_
        refine pm_wk (L' := [some (.ref (z + m0)), some (.int (nI (pm_n (d_X13_active n (upd f 6 0) g)))), some (.int (d_X13_votesOf (nI (pm_n (d_X13_active n (upd f 6 0) g))) n (upd f 6 0) g)), some (.int a3_1), some (.int (nI (j1 + 1))), none]) ⟨rfl, ⟨rfl, ⟨rfl, ⟨rfl, ⟨rfl, trivial⟩⟩⟩⟩⟩ ?_
        have hDq5 : (K1 (d_X13_leastDifference_L1 n f g (k1 + 1) j1 a3_1)) = (K1 (d_X13_leastDifference_L1 n f g k1 (j1 + 1) a3_1)) := by rw [d_X13_leastDifference_L1, if_neg hq4]
        refine pm_pst (post' := pm_rt (some (.int ((K1 (d_X13_leastDifference_L1 n f g k1 (j1 + 1) a3_1)).1))) nx (pm_up M m0 (pm_mo z m0 ((K1 (d_X13_leastDifference_L1 n f g k1 (j1 + 1) a3_1)).2)))) (by rw [hDq5]) ?_
        exact ih1 (j1 + 1) (by omega) a3_1
      · refine pm_iload_n B dX13_leastDifference_48 rfl ?_
        refine pm_iload B dX13_leastDifference_49 rfl ?_
        refine pm_mabs B dX13_leastDifference_51 (pm_T_in 1972 (by decide +kernel) (by decide +kernel)) rfl rfl rfl rfl ?_
        refine pm_mmin B dX13_leastDifference_54 (pm_T_in 1929 (by decide +kernel) (by decide +kernel)) rfl rfl rfl rfl ?_
        refine pm_goto (tgt := 61) B dX13_leastDifference_57 (by decide) ?_
        refine pm_istore_n B dX13_leastDifference_61 rfl rfl ?_
        refine pm_loc (L' := [some (.ref (z + m0)), some (.int (nI (pm_n (d_X13_active n (upd f 6 0) g)))), some (.int (d_X13_votesOf (nI (pm_n (d_X13_active n (upd f 6 0) g))) n (upd f 6 0) g)), some (.int (pm_min a3_1 (pm_abs ((2 * (d_X13_votesOf (nI j1) n (upd f 6 0) g)) - (d_X13_votesOf (nI (pm_n (d_X13_active n (upd f 6 0) g))) n (upd f 6 0) g))))), some (.int (nI j1)), some (.int ((2 * (d_X13_votesOf (nI j1) n (upd f 6 0) g)) - (d_X13_votesOf (nI (pm_n (d_X13_active n (upd f 6 0) g))) n (upd f 6 0) g)))]) rfl ?_
        refine pm_iinc B dX13_leastDifference_62 rfl rfl rfl ?_
        refine pm_loc (L' := [some (.ref (z + m0)), some (.int (nI (pm_n (d_X13_active n (upd f 6 0) g)))), some (.int (d_X13_votesOf (nI (pm_n (d_X13_active n (upd f 6 0) g))) n (upd f 6 0) g)), some (.int (pm_min a3_1 (pm_abs ((2 * (d_X13_votesOf (nI j1) n (upd f 6 0) g)) - (d_X13_votesOf (nI (pm_n (d_X13_active n (upd f 6 0) g))) n (upd f 6 0) g))))), some (.int (nI (j1 + 1))), some (.int ((2 * (d_X13_votesOf (nI j1) n (upd f 6 0) g)) - (d_X13_votesOf (nI (pm_n (d_X13_active n (upd f 6 0) g))) n (upd f 6 0) g)))]) (by rw [show ((nI j1) : Int32) + Int32.ofInt 1 = (nI (j1 + 1)) from nI_1 _]; rfl) ?_
        refine pm_goto (tgt := 21) B dX13_leastDifference_65 (by decide) ?_
        refine pm_wk (L' := [some (.ref (z + m0)), some (.int (nI (pm_n (d_X13_active n (upd f 6 0) g)))), some (.int (d_X13_votesOf (nI (pm_n (d_X13_active n (upd f 6 0) g))) n (upd f 6 0) g)), some (.int (pm_min a3_1 (pm_abs ((2 * (d_X13_votesOf (nI j1) n (upd f 6 0) g)) - (d_X13_votesOf (nI (pm_n (d_X13_active n (upd f 6 0) g))) n (upd f 6 0) g))))), some (.int (nI (j1 + 1))), none]) ⟨rfl, ⟨rfl, ⟨rfl, ⟨rfl, ⟨rfl, trivial⟩⟩⟩⟩⟩ ?_
        have hDq6 : (K1 (d_X13_leastDifference_L1 n f g (k1 + 1) j1 a3_1)) = (K1 (d_X13_leastDifference_L1 n f g k1 (j1 + 1) (pm_min a3_1 (pm_abs ((2 * (d_X13_votesOf (nI j1) n (upd f 6 0) g)) - (d_X13_votesOf (nI (pm_n (d_X13_active n (upd f 6 0) g))) n (upd f 6 0) g)))))) := by rw [d_X13_leastDifference_L1, if_pos hq4]
        refine pm_pst (post' := pm_rt (some (.int ((K1 (d_X13_leastDifference_L1 n f g k1 (j1 + 1) (pm_min a3_1 (pm_abs ((2 * (d_X13_votesOf (nI j1) n (upd f 6 0) g)) - (d_X13_votesOf (nI (pm_n (d_X13_active n (upd f 6 0) g))) n (upd f 6 0) g)))))).1))) nx (pm_up M m0 (pm_mo z m0 ((K1 (d_X13_leastDifference_L1 n f g k1 (j1 + 1) (pm_min a3_1 (pm_abs ((2 * (d_X13_votesOf (nI j1) n (upd f 6 0) g)) - (d_X13_votesOf (nI (pm_n (d_X13_active n (upd f 6 0) g))) n (upd f 6 0) g)))))).2)))) (by rw [hDq6]) ?_
        exact ih1 (j1 + 1) (by omega) (pm_min a3_1 (pm_abs ((2 * (d_X13_votesOf (nI j1) n (upd f 6 0) g)) - (d_X13_votesOf (nI (pm_n (d_X13_active n (upd f 6 0) g))) n (upd f 6 0) g))))
  refine pm_pst (post' := pm_rt (some (.int (((d_X13_leastDifference_L1 n f g (pm_n (d_X13_active n (upd f 6 0) g) + 1) 0 (d_X13_votesOf (nI (pm_n (d_X13_active n (upd f 6 0) g))) n (upd f 6 0) g)), (upd f 6 0)).1))) nx (pm_up M m0 (pm_mo z m0 (((d_X13_leastDifference_L1 n f g (pm_n (d_X13_active n (upd f 6 0) g) + 1) 0 (d_X13_votesOf (nI (pm_n (d_X13_active n (upd f 6 0) g))) n (upd f 6 0) g)), (upd f 6 0)).2)))) (by rw [show (d_X13_leastDifference n f g) = ((d_X13_leastDifference_L1 n f g (pm_n (d_X13_active n (upd f 6 0) g) + 1) 0 (d_X13_votesOf (nI (pm_n (d_X13_active n (upd f 6 0) g))) n (upd f 6 0) g)), (upd f 6 0)) from by rw [d_X13_leastDifference]]) ?_
  refine loop1 (fun (a3_1 : Int32) => (a3_1, (upd f 6 0))) ?_ (pm_n (d_X13_active n (upd f 6 0) g) + 1) 0 (by omega) (d_X13_votesOf (nI (pm_n (d_X13_active n (upd f 6 0) g))) n (upd f 6 0) g)
  intro a3_1
  refine pm_pst (post' := pm_rt (some (.int ((a3_1, (upd f 6 0)).1))) nx (pm_up M m0 (pm_mo z m0 ((a3_1, (upd f 6 0)).2)))) rfl ?_
  refine pm_iload_n B dX13_leastDifference_68 rfl ?_
  have hDq7 : ((a3_1, (upd f 6 0))) = (a3_1, (upd f 6 0)) := rfl
  exact pm_ireturn B dX13_leastDifference_69 rfl (by first | rfl | (apply pm_nz; first | assumption | decide | exact pm_in01 _ _ _ | simp)) ⟨(by rw [hDq7]), rfl, by rw [hDq7]⟩ rfl rfl
def d_X13_leastDifferenceBySums (n : Nat) (f : Nat → Int32) (g : Nat → Int32) : (Int32 × (Nat → Int32)) := (((d_X13_leastDifference n f g).1), ((d_X13_leastDifference n f g).2))
set_option maxRecDepth 100000 in
set_option maxHeartbeats 8000000 in
theorem c_X13_leastDifferenceBySums {l : Launch} {z : Nat} {D : va_G} {kA : Nat → ClassId} {kE : Nat → Nat} {nx : Nat} {M : pm_M} {n : Nat}{m0 : Nat} {f : Nat → Int32} {g : Nat → Int32} (hM : M m0 = some (pm_mo z m0 f)) (hg : M (m0 + 1) = some (.inl (kA 0, 91, .inl g))) (hn : g 0 = nI n) (h7 : n ≤ 7) : pm_C l z D kA kE yX13_leastDifferenceBySums cX13_leastDifferenceBySums 1 (some .int) 4 0 0 [.ref (z + m0)] nx M (pm_rt (some (.int ((d_X13_leastDifferenceBySums n f g).1))) nx (pm_up M m0 (pm_mo z m0 ((d_X13_leastDifferenceBySums n f g).2)))) := by
  refine pm_mk (own := RX13) (nm := "leastDifferenceBySums") mt_X13_leastDifferenceBySums rfl rfl rfl rfl fun X B => ?_
  refine pm_loc (L' := [some (.ref (z + m0))]) rfl ?_
  refine pm_mem (M' := pm_up M m0 (pm_mo z m0 f)) (by rw [pm_up_id hM]) ?_
  refine pm_aload_n B dX13_leastDifferenceBySums_0 rfl ?_
  refine pm_cV (As := []) (mc2 := 0) (ms2 := 0) B rfl pm_up_s rfl (c_X13_leastDifference (n := n) (f := f) (g := g) pm_up_s ((pm_up_n (by omega)).trans hg) hn (by first | assumption | omega)) mt_X13_leastDifference sv_X13_196 dX13_leastDifferenceBySums_1 rfl rfl rfl rfl rfl ?_
  refine pm_mem (M' := pm_up (pm_up M m0 (pm_mo z m0 f)) m0 (pm_mo z m0 ((d_X13_leastDifference n f g).2))) rfl ?_
  refine pm_mem (M' := pm_up M m0 (pm_mo z m0 ((d_X13_leastDifference n f g).2))) (by rw [pm_up_up (a := m0)]) ?_
  refine pm_stk (st' := [.int ((d_X13_leastDifference n f g).1)]) rfl ?_
  have hDq1 : (d_X13_leastDifferenceBySums n f g) = (((d_X13_leastDifference n f g).1), ((d_X13_leastDifference n f g).2)) := by rw [d_X13_leastDifferenceBySums]
  exact pm_ireturn B dX13_leastDifferenceBySums_4 rfl (by first | rfl | (apply pm_nz; first | assumption | decide | exact pm_in01 _ _ _ | simp)) ⟨(by rw [hDq1]), rfl, by rw [hDq1]⟩ rfl rfl
