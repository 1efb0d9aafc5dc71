/-! ThunderCartelModel: a line's signs; commands of a text; the object is made -/
theorem pm_in_nq {x : Int32} {n : Nat} (hn : n ≤ 30) (h : ¬ pm_in x 0 (nI n - 1) = 0) : x = nI (pm_n x) ∧ pm_n x < n := by
  unfold pm_in at h
  split at h
  · exact absurd rfl h
  · split at h
    · exact absurd rfl h
    · rename_i h1 h2
      obtain ⟨j, hj, rfl⟩ := nI_of h1
      rw [pm_n_nI hj]
      refine ⟨rfl, ?_⟩
      cases n with
      | zero => exact absurd (show nI 0 - 1 < nI j by
          rw [Int32.lt_iff_toInt_lt, nI_toInt hj]
          have : (nI 0 - 1 : Int32).toInt = -1 := by decide
          omega) h2
      | succ n =>
        rw [nI_pred] at h2
        have h3 := (nI_leI (a := j) (b := n) hj (by omega)).mp (Int32.not_lt.mp h2)
        omega
def d_X13_lineCharacter (x : Int32) (q : Nat) (f : Nat → Int32) (gl : Nat → Int32) : (Int32 × (Nat → Int32)) := if (pm_in x 0 ((nI q) - 1)) = 0 then (32, (upd f 6 (pm_th (pm_in x 0 ((nI q) - 1))))) else ((gl (pm_n x)), (upd f 6 (pm_th (pm_in x 0 ((nI q) - 1)))))
set_option maxRecDepth 100000 in
set_option maxHeartbeats 8000000 in
theorem c_X13_lineCharacter {l : Launch} {z : Nat} {D : va_G} {kA : Nat → ClassId} {kE : Nat → Nat} {nx : Nat} {M : pm_M} {x : Int32} {q : Nat}{m0 : Nat} {f : Nat → Int32} {gl : Nat → Int32} (hM : M m0 = some (pm_mo z m0 f)) (hgl : M (m0 + 8) = some (.inl (kA 3, 30, .inl gl))) (hq : f 22 = nI q) (h30 : q ≤ 30) (hlc : ∀ i, i < q → ∃ c, c < 65536 ∧ gl i = nI c) : pm_C l z D kA kE yX13_lineCharacter cX13_lineCharacter 2 (some .char) 1 0 0 [.ref (z + m0), .int x] nx M (pm_rt (some (.int ((d_X13_lineCharacter x q f gl).1))) nx (pm_up M m0 (pm_mo z m0 ((d_X13_lineCharacter x q f gl).2)))) := by
  refine pm_mk (own := RX13) (nm := "lineCharacter") mt_X13_lineCharacter rfl rfl rfl rfl fun X B => ?_
  refine pm_loc (L' := [some (.ref (z + m0)), some (.int x)]) rfl ?_
  refine pm_mem (M' := pm_up M m0 (pm_mo z m0 f)) (by rw [pm_up_id hM]) ?_
  refine pm_aload_n B dX13_lineCharacter_0 rfl ?_
  refine pm_iload_n B dX13_lineCharacter_1 rfl ?_
  refine pm_iconst (v := 0) B dX13_lineCharacter_2 (by decide) ?_
  refine pm_aload_n B dX13_lineCharacter_3 rfl ?_
  refine pm_get B dX13_lineCharacter_4 fl_X13_282 pm_up_s rfl ?_
  refine pm_stk (st' := [.int (nI q), .int 0, .int x, .ref (z + m0)]) (by rw [show (f 22) = (nI q) from by rw [hq]]) ?_
  refine pm_iconst (v := 1) B dX13_lineCharacter_7 (by decide) ?_
  refine pm_isub B dX13_lineCharacter_8 ?_
  refine pm_cS (As := [.int x, .int 0, .int ((nI q) - 1)]) (mc2 := 0) (ms2 := 0) B c_X13_in mt_X13_in ss_X13_70 dX13_lineCharacter_9 rfl rfl rfl rfl rfl ?_
  refine pm_stk (st' := [.int (pm_in x 0 ((nI q) - 1)), .ref (z + m0)]) rfl ?_
  refine pm_cV (As := [.int (pm_in x 0 ((nI q) - 1))]) (mc2 := 0) (ms2 := 0) B rfl pm_up_s rfl (c_X13_isThere (f := f) (b := (pm_in x 0 ((nI q) - 1))) pm_up_s (by first | assumption | exact pm_in01 _ _ _ | decide | simp)) mt_X13_isThere sv_X13_107 dX13_lineCharacter_12 rfl rfl rfl rfl rfl ?_
  refine pm_mem (M' := pm_up M m0 (pm_mo z m0 (upd f 6 (pm_th (pm_in x 0 ((nI q) - 1)))))) pm_up_up ?_
  refine pm_stk (st' := [.int (pm_in x 0 ((nI q) - 1))]) rfl ?_
  refine pm_if_eq (tgt := 27) B dX13_lineCharacter_15 (by decide) (fun hq1 => ?_) (fun hq1 => ?_)
  · refine pm_bipush (v := 32) B dX13_lineCharacter_27 (by decide) ?_
    have hDq2 : (d_X13_lineCharacter x q f gl) = (32, (upd f 6 (pm_th (pm_in x 0 ((nI q) - 1))))) := by rw [d_X13_lineCharacter, if_pos hq1]
    exact pm_ireturn B dX13_lineCharacter_29 rfl rfl ⟨(by rw [hDq2]), rfl, by rw [hDq2]⟩ rfl rfl
  · obtain ⟨he_x, hl_x⟩ := pm_in_nq h30 hq1
    refine pm_loc (L' := [some (.ref (z + m0)), some (.int (nI (pm_n x)))]) (congrArg (fun yy : Int32 => ([some (.ref (z + m0)), some (.int yy)] : List (Option Value))) he_x) ?_
    refine pm_aload_n B dX13_lineCharacter_18 rfl ?_
    refine pm_get B dX13_lineCharacter_19 fl_X13_36 pm_up_s rfl ?_
    refine pm_stk (st' := [.ref (z + (m0 + 8))]) rfl ?_
    refine pm_iload_n B dX13_lineCharacter_22 rfl ?_
    refine pm_cald_n B dX13_lineCharacter_23 ((pm_up_n (by omega)).trans hgl) (pm_n x) (by first | assumption | omega) (by decide) ?_
    refine pm_goto (tgt := 29) B dX13_lineCharacter_24 (by decide) ?_
    have hDq3 : (d_X13_lineCharacter x q f gl) = ((gl (pm_n x)), (upd f 6 (pm_th (pm_in x 0 ((nI q) - 1))))) := by rw [d_X13_lineCharacter, if_neg hq1]
    exact pm_ireturn B dX13_lineCharacter_29 rfl (by obtain ⟨c, hc, he⟩ := hlc _ hl_x; rw [he]; exact (pk_charN hc).1) ⟨(by rw [hDq3]), rfl, by rw [hDq3]⟩ rfl rfl
