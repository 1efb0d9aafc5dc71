def d_X13_does (j : Nat) (n : Nat) (f : Nat → Int32) (g : Nat → Int32) (gq : Nat → Int32) (gc : Nat → Int32) : ((Nat → Int32) × (Nat → Int32) × (Nat → Int32)) := if (gc (3 * j)) = 97 then (((d_X13_doAssign (gc ((3 * j) + 1)) n f g gq).2.1), ((d_X13_doAssign (gc ((3 * j) + 1)) n f g gq).2.2.1), ((d_X13_doAssign (gc ((3 * j) + 1)) n f g gq).2.2.2)) else (if (gc (3 * j)) = 99 then (f, ((d_X13_doClose n f g).2), gq) else (if (gc (3 * j)) = 100 then (((d_X13_doSetSeed (gc ((3 * j) + 1)) f g).2.1), ((d_X13_doSetSeed (gc ((3 * j) + 1)) f g).2.2), gq) else (if (gc (3 * j)) = 108 then (((d_X13_doLink (gc ((3 * j) + 1)) (gc ((3 * j) + 2)) 1 n f g).2.1), ((d_X13_doLink (gc ((3 * j) + 1)) (gc ((3 * j) + 2)) 1 n f g).2.2), gq) else (if (gc (3 * j)) = 109 then (((d_X13_doSetThreshold (gc ((3 * j) + 1)) f g).2.1), ((d_X13_doSetThreshold (gc ((3 * j) + 1)) f g).2.2), gq) else (if (gc (3 * j)) = 112 then (((d_X13_doPardon (gc ((3 * j) + 1)) n f g).2.1), ((d_X13_doPardon (gc ((3 * j) + 1)) n f g).2.2), gq) else (if (gc (3 * j)) = 114 then (((d_X13_doSetRule (gc ((3 * j) + 1)) f g).2.1), ((d_X13_doSetRule (gc ((3 * j) + 1)) f g).2.2), gq) else (if (gc (3 * j)) = 115 then (((d_X13_doSell (gc ((3 * j) + 1)) (gc ((3 * j) + 2)) n f g).2.1), ((d_X13_doSell (gc ((3 * j) + 1)) (gc ((3 * j) + 2)) n f g).2.2), gq) else (if (gc (3 * j)) = 116 then (((d_X13_doLink (gc ((3 * j) + 1)) (gc ((3 * j) + 2)) 0 n f g).2.1), ((d_X13_doLink (gc ((3 * j) + 1)) (gc ((3 * j) + 2)) 0 n f g).2.2), gq) else (if (gc (3 * j)) = 117 then (((d_X13_doAudit (gc ((3 * j) + 1)) n f g).2.1), ((d_X13_doAudit (gc ((3 * j) + 1)) n f g).2.2), gq) else (((d_X13_doAddMember (gc ((3 * j) + 1)) (gc ((3 * j) + 2)) n f g).2.1), ((d_X13_doAddMember (gc ((3 * j) + 1)) (gc ((3 * j) + 2)) n f g).2.2), gq))))))))))
set_option maxRecDepth 100000 in
set_option maxHeartbeats 8000000 in
theorem c_X13_does {l : Launch} {z : Nat} {D : va_G} {kA : Nat → ClassId} {kE : Nat → Nat} {nx : Nat} {M : pm_M} {j : Nat} {n : Nat}{m0 : Nat} {f : Nat → Int32} {g : Nat → Int32} {gq : Nat → Int32} {gc : Nat → Int32} (hM : M m0 = some (pm_mo z m0 f)) (hg : M (m0 + 1) = some (.inl (kA 0, 91, .inl g))) (hgq : M (m0 + 5) = some (.inl (kA 0, 7, .inl gq))) (hgc : M (m0 + 7) = some (.inl (kA 0, 180, .inl gc))) (hn : g 0 = nI n) (h7 : n ≤ 7) (hj : j < 60) (hOK : ∀ x, ¬ pm_in x 0 300 = 0 → ∀ f gq, pm_apOK x (g 1) n f g gq) (hgd : g 2 = nI (pm_n (g 2))) (hgl : pm_n (g 2) < 1024) : pm_C l z D kA kE yX13_does cX13_does 5 none 5 0 0 [.ref (z + m0), .int (nI j)] nx M (pm_rt none nx (pm_up (pm_up (pm_up M m0 (pm_mo z m0 ((d_X13_does j n f g gq gc).1))) (m0 + 1) (.inl (kA 0, 91, .inl ((d_X13_does j n f g gq gc).2.1)))) (m0 + 5) (.inl (kA 0, 7, .inl ((d_X13_does j n f g gq gc).2.2))))) := by
  refine pm_mk (own := RX13) (nm := "does") mt_X13_does rfl rfl rfl rfl fun X B => ?_
  refine pm_loc (L' := [some (.ref (z + m0)), some (.int (nI j)), none, none, none]) rfl ?_
  refine pm_mem (M' := pm_up (pm_up (pm_up M m0 (pm_mo z m0 f)) (m0 + 1) (.inl (kA 0, 91, .inl g))) (m0 + 5) (.inl (kA 0, 7, .inl gq))) (by rw [pm_up_id hM, pm_up_id hg, pm_up_id hgq]) ?_
  refine pm_aload_n B dX13_does_0 rfl ?_
  refine pm_get B dX13_does_1 fl_X13_33 ((pm_up_n (by omega)).trans ((pm_up_n (by omega)).trans pm_up_s)) rfl ?_
  refine pm_iconst (v := 3) B dX13_does_4 (by decide) ?_
  refine pm_iload_n B dX13_does_5 rfl ?_
  refine pm_imul B dX13_does_6 ?_
  refine pm_iconst (v := 1) B dX13_does_7 (by decide) ?_
  refine pm_iadd B dX13_does_8 ?_
  refine pm_stk (st' := [.int (nI ((3 * j) + 1)), .ref (z + (m0 + 7))]) (by rw [show ((3 * (nI j)) + 1) = (nI ((3 * j) + 1)) from (by rw [show (3 * (nI j)) = nI (3 * j) from (by rw [show 3 = nI 3 from rfl, show (nI j) = nI j from rfl, pk_mul]), show 1 = nI 1 from rfl, nI_add])]) ?_
  refine pm_iald_n B dX13_does_9 ((pm_up_n (by omega)).trans ((pm_up_n (by omega)).trans ((pm_up_n (by omega)).trans hgc))) ((3 * j) + 1) (by first | assumption | omega) (by decide) ?_
  refine pm_istore_n B dX13_does_10 rfl rfl ?_
  refine pm_loc (L' := [some (.ref (z + m0)), some (.int (nI j)), some (.int (gc ((3 * j) + 1))), none, none]) rfl ?_
  refine pm_aload_n B dX13_does_11 rfl ?_
  refine pm_get B dX13_does_12 fl_X13_33 ((pm_up_n (by omega)).trans ((pm_up_n (by omega)).trans pm_up_s)) rfl ?_
  refine pm_iconst (v := 3) B dX13_does_15 (by decide) ?_
  refine pm_iload_n B dX13_does_16 rfl ?_
  refine pm_imul B dX13_does_17 ?_
  refine pm_iconst (v := 2) B dX13_does_18 (by decide) ?_
  refine pm_iadd B dX13_does_19 ?_
  refine pm_stk (st' := [.int (nI ((3 * j) + 2)), .ref (z + (m0 + 7))]) (by rw [show ((3 * (nI j)) + 2) = (nI ((3 * j) + 2)) from (by rw [show (3 * (nI j)) = nI (3 * j) from (by rw [show 3 = nI 3 from rfl, show (nI j) = nI j from rfl, pk_mul]), show 2 = nI 2 from rfl, nI_add])]) ?_
  refine pm_iald_n B dX13_does_20 ((pm_up_n (by omega)).trans ((pm_up_n (by omega)).trans ((pm_up_n (by omega)).trans hgc))) ((3 * j) + 2) (by first | assumption | omega) (by decide) ?_
  refine pm_istore_n B dX13_does_21 rfl rfl ?_
  refine pm_loc (L' := [some (.ref (z + m0)), some (.int (nI j)), some (.int (gc ((3 * j) + 1))), some (.int (gc ((3 * j) + 2))), none]) rfl ?_
  refine pm_aload_n B dX13_does_22 rfl ?_
  refine pm_get B dX13_does_23 fl_X13_33 ((pm_up_n (by omega)).trans ((pm_up_n (by omega)).trans pm_up_s)) rfl ?_
  refine pm_iconst (v := 3) B dX13_does_26 (by decide) ?_
  refine pm_iload_n B dX13_does_27 rfl ?_
  refine pm_imul B dX13_does_28 ?_
  refine pm_stk (st' := [.int (nI (3 * j)), .ref (z + (m0 + 7))]) (by rw [show (3 * (nI j)) = (nI (3 * j)) from (by rw [show 3 = nI 3 from rfl, show (nI j) = nI j from rfl, pk_mul])]) ?_
  refine pm_iald_n B dX13_does_29 ((pm_up_n (by omega)).trans ((pm_up_n (by omega)).trans ((pm_up_n (by omega)).trans hgc))) (3 * j) (by first | assumption | omega) (by decide) ?_
  by_cases hq1 : (gc (3 * j)) = 97
  · refine pm_stk (st' := [.int 97]) (by rw [show (gc (3 * j)) = 97 from hq1]) ?_
    refine pm_tableIn (off := 98) (tgt := 128) B dX13_does_30 (by decide) (by decide) (by decide) (by decide) ?_
    refine pm_aload_n B dX13_does_128 rfl ?_
    refine pm_iload_n B dX13_does_129 rfl ?_
    refine pm_cV (As := [.int (gc ((3 * j) + 1))]) (mc2 := 0) (ms2 := 0) B rfl ((pm_up_n (by omega)).trans ((pm_up_n (by omega)).trans pm_up_s)) rfl (c_X13_doAssign (x := (gc ((3 * j) + 1))) (n := n) (f := f) (g := g) (gq := gq) ((pm_up_n (by omega)).trans ((pm_up_n (by omega)).trans pm_up_s)) ((pm_up_n (by omega)).trans pm_up_s) pm_up_s hn (by first | assumption | omega) (hOK _)) mt_X13_doAssign sv_X13_131 dX13_does_130 rfl rfl rfl rfl rfl ?_
    refine pm_mem (M' := pm_up (pm_up (pm_up (pm_up (pm_up (pm_up M m0 (pm_mo z m0 f)) (m0 + 1) (.inl (kA 0, 91, .inl g))) (m0 + 5) (.inl (kA 0, 7, .inl gq))) m0 (pm_mo z m0 ((d_X13_doAssign (gc ((3 * j) + 1)) n f g gq).2.1))) (m0 + 1) (.inl (kA 0, 91, .inl ((d_X13_doAssign (gc ((3 * j) + 1)) n f g gq).2.2.1)))) (m0 + 5) (.inl (kA 0, 7, .inl ((d_X13_doAssign (gc ((3 * j) + 1)) n f g gq).2.2.2)))) rfl ?_
    refine pm_mem (M' := pm_up (pm_up (pm_up (pm_up (pm_up M m0 (pm_mo z m0 ((d_X13_doAssign (gc ((3 * j) + 1)) n f g gq).2.1))) (m0 + 1) (.inl (kA 0, 91, .inl g))) (m0 + 5) (.inl (kA 0, 7, .inl gq))) (m0 + 1) (.inl (kA 0, 91, .inl ((d_X13_doAssign (gc ((3 * j) + 1)) n f g gq).2.2.1)))) (m0 + 5) (.inl (kA 0, 7, .inl ((d_X13_doAssign (gc ((3 * j) + 1)) n f g gq).2.2.2)))) (by rw [pm_up_sw (a := m0 + 5) (b := m0) (by omega), pm_up_sw (a := m0 + 1) (b := m0) (by omega), pm_up_up (a := m0)]) ?_
    refine pm_mem (M' := pm_up (pm_up (pm_up (pm_up M m0 (pm_mo z m0 ((d_X13_doAssign (gc ((3 * j) + 1)) n f g gq).2.1))) (m0 + 1) (.inl (kA 0, 91, .inl ((d_X13_doAssign (gc ((3 * j) + 1)) n f g gq).2.2.1)))) (m0 + 5) (.inl (kA 0, 7, .inl gq))) (m0 + 5) (.inl (kA 0, 7, .inl ((d_X13_doAssign (gc ((3 * j) + 1)) n f g gq).2.2.2)))) (by rw [pm_up_sw (a := m0 + 5) (b := m0 + 1) (by omega), pm_up_up (a := m0 + 1)]) ?_
    refine pm_mem (M' := pm_up (pm_up (pm_up M m0 (pm_mo z m0 ((d_X13_doAssign (gc ((3 * j) + 1)) n f g gq).2.1))) (m0 + 1) (.inl (kA 0, 91, .inl ((d_X13_doAssign (gc ((3 * j) + 1)) n f g gq).2.2.1)))) (m0 + 5) (.inl (kA 0, 7, .inl ((d_X13_doAssign (gc ((3 * j) + 1)) n f g gq).2.2.2)))) (by rw [pm_up_up (a := m0 + 5)]) ?_
    refine pm_stk (st' := [.int ((d_X13_doAssign (gc ((3 * j) + 1)) n f g gq).1)]) rfl ?_
    refine pm_istore B dX13_does_133 rfl rfl ?_
    refine pm_loc (L' := [some (.ref (z + m0)), some (.int (nI j)), some (.int (gc ((3 * j) + 1))), some (.int (gc ((3 * j) + 2))), some (.int ((d_X13_doAssign (gc ((3 * j) + 1)) n f g gq).1))]) rfl ?_
    refine pm_goto (tgt := 240) B dX13_does_135 (by decide) ?_
    have hDq2 : (d_X13_does j n f g gq gc) = (((d_X13_doAssign (gc ((3 * j) + 1)) n f g gq).2.1), ((d_X13_doAssign (gc ((3 * j) + 1)) n f g gq).2.2.1), ((d_X13_doAssign (gc ((3 * j) + 1)) n f g gq).2.2.2)) := by rw [d_X13_does, if_pos hq1]
    exact pm_return B dX13_does_240 rfl ⟨rfl, rfl, by rw [hDq2]⟩ rfl rfl
  · skip
    by_cases hq3 : (gc (3 * j)) = 99
    · refine pm_stk (st' := [.int 99]) (by rw [show (gc (3 * j)) = 99 from hq3]) ?_
      refine pm_tableIn (off := 139) (tgt := 169) B dX13_does_30 (by decide) (by decide) (by decide) (by decide) ?_
      refine pm_aload_n B dX13_does_169 rfl ?_
      refine pm_cV (As := []) (mc2 := 0) (ms2 := 0) B rfl ((pm_up_n (by omega)).trans ((pm_up_n (by omega)).trans pm_up_s)) rfl (c_X13_doClose (n := n) (f := f) (g := g) ((pm_up_n (by omega)).trans ((pm_up_n (by omega)).trans pm_up_s)) ((pm_up_n (by omega)).trans pm_up_s) hn (by first | assumption | omega)) mt_X13_doClose sv_X13_137 dX13_does_170 rfl rfl rfl rfl rfl ?_
      refine pm_mem (M' := pm_up (pm_up (pm_up (pm_up M m0 (pm_mo z m0 f)) (m0 + 1) (.inl (kA 0, 91, .inl g))) (m0 + 5) (.inl (kA 0, 7, .inl gq))) (m0 + 1) (.inl (kA 0, 91, .inl ((d_X13_doClose n f g).2)))) rfl ?_
      refine pm_mem (M' := pm_up (pm_up (pm_up M m0 (pm_mo z m0 f)) (m0 + 1) (.inl (kA 0, 91, .inl ((d_X13_doClose n f g).2)))) (m0 + 5) (.inl (kA 0, 7, .inl gq))) (by rw [pm_up_sw (a := m0 + 5) (b := m0 + 1) (by omega), pm_up_up (a := m0 + 1)]) ?_
      refine pm_stk (st' := [.int ((d_X13_doClose n f g).1)]) rfl ?_
      refine pm_istore B dX13_does_173 rfl rfl ?_
      refine pm_loc (L' := [some (.ref (z + m0)), some (.int (nI j)), some (.int (gc ((3 * j) + 1))), some (.int (gc ((3 * j) + 2))), some (.int ((d_X13_doClose n f g).1))]) rfl ?_
      refine pm_goto (tgt := 240) B dX13_does_175 (by decide) ?_
      have hDq4 : (d_X13_does j n f g gq gc) = (f, ((d_X13_doClose n f g).2), gq) := by rw [d_X13_does, if_neg hq1, if_pos hq3]
      exact pm_return B dX13_does_240 rfl ⟨rfl, rfl, by rw [hDq4]⟩ rfl rfl
    · skip
      by_cases hq5 : (gc (3 * j)) = 100
      · refine pm_stk (st' := [.int 100]) (by rw [show (gc (3 * j)) = 100 from hq5]) ?_
        refine pm_tableIn (off := 129) (tgt := 159) B dX13_does_30 (by decide) (by decide) (by decide) (by decide) ?_
        refine pm_aload_n B dX13_does_159 rfl ?_
        refine pm_iload_n B dX13_does_160 rfl ?_
        refine pm_cV (As := [.int (gc ((3 * j) + 1))]) (mc2 := 0) (ms2 := 0) B rfl ((pm_up_n (by omega)).trans ((pm_up_n (by omega)).trans pm_up_s)) rfl (c_X13_doSetSeed (x := (gc ((3 * j) + 1))) (f := f) (g := g) ((pm_up_n (by omega)).trans ((pm_up_n (by omega)).trans pm_up_s)) ((pm_up_n (by omega)).trans pm_up_s) ) mt_X13_doSetSeed sv_X13_150 dX13_does_161 rfl rfl rfl rfl rfl ?_
        refine pm_mem (M' := pm_up (pm_up (pm_up (pm_up (pm_up M m0 (pm_mo z m0 f)) (m0 + 1) (.inl (kA 0, 91, .inl g))) (m0 + 5) (.inl (kA 0, 7, .inl gq))) m0 (pm_mo z m0 ((d_X13_doSetSeed (gc ((3 * j) + 1)) f g).2.1))) (m0 + 1) (.inl (kA 0, 91, .inl ((d_X13_doSetSeed (gc ((3 * j) + 1)) f g).2.2)))) rfl ?_
        refine pm_mem (M' := pm_up (pm_up (pm_up (pm_up M m0 (pm_mo z m0 ((d_X13_doSetSeed (gc ((3 * j) + 1)) f g).2.1))) (m0 + 1) (.inl (kA 0, 91, .inl g))) (m0 + 5) (.inl (kA 0, 7, .inl gq))) (m0 + 1) (.inl (kA 0, 91, .inl ((d_X13_doSetSeed (gc ((3 * j) + 1)) f g).2.2)))) (by rw [pm_up_sw (a := m0 + 5) (b := m0) (by omega), pm_up_sw (a := m0 + 1) (b := m0) (by omega), pm_up_up (a := m0)]) ?_
        refine pm_mem (M' := pm_up (pm_up (pm_up M m0 (pm_mo z m0 ((d_X13_doSetSeed (gc ((3 * j) + 1)) f g).2.1))) (m0 + 1) (.inl (kA 0, 91, .inl ((d_X13_doSetSeed (gc ((3 * j) + 1)) f g).2.2)))) (m0 + 5) (.inl (kA 0, 7, .inl gq))) (by rw [pm_up_sw (a := m0 + 5) (b := m0 + 1) (by omega), pm_up_up (a := m0 + 1)]) ?_
        refine pm_stk (st' := [.int ((d_X13_doSetSeed (gc ((3 * j) + 1)) f g).1)]) rfl ?_
        refine pm_istore B dX13_does_164 rfl rfl ?_
        refine pm_loc (L' := [some (.ref (z + m0)), some (.int (nI j)), some (.int (gc ((3 * j) + 1))), some (.int (gc ((3 * j) + 2))), some (.int ((d_X13_doSetSeed (gc ((3 * j) + 1)) f g).1))]) rfl ?_
        refine pm_goto (tgt := 240) B dX13_does_166 (by decide) ?_
        have hDq6 : (d_X13_does j n f g gq gc) = (((d_X13_doSetSeed (gc ((3 * j) + 1)) f g).2.1), ((d_X13_doSetSeed (gc ((3 * j) + 1)) f g).2.2), gq) := by rw [d_X13_does, if_neg hq1, if_neg hq3, if_pos hq5]
        exact pm_return B dX13_does_240 rfl ⟨rfl, rfl, by rw [hDq6]⟩ rfl rfl
      · skip
        by_cases hq7 : (gc (3 * j)) = 108
        · refine pm_stk (st' := [.int 108]) (by rw [show (gc (3 * j)) = 108 from hq7]) ?_
          refine pm_tableIn (off := 160) (tgt := 190) B dX13_does_30 (by decide) (by decide) (by decide) (by decide) ?_
          refine pm_aload_n B dX13_does_190 rfl ?_
          refine pm_iload_n B dX13_does_191 rfl ?_
          refine pm_iload_n B dX13_does_192 rfl ?_
          refine pm_iconst (v := 1) B dX13_does_193 (by decide) ?_
          refine pm_cV (As := [.int (gc ((3 * j) + 1)), .int (gc ((3 * j) + 2)), .int 1]) (mc2 := 0) (ms2 := 0) B rfl ((pm_up_n (by omega)).trans ((pm_up_n (by omega)).trans pm_up_s)) rfl (c_X13_doLink (x := (gc ((3 * j) + 1))) (y := (gc ((3 * j) + 2))) (v := 1) (n := n) (f := f) (g := g) ((pm_up_n (by omega)).trans ((pm_up_n (by omega)).trans pm_up_s)) ((pm_up_n (by omega)).trans pm_up_s) hn (by first | assumption | omega)) mt_X13_doLink sv_X13_163 dX13_does_194 rfl rfl rfl rfl rfl ?_
          refine pm_mem (M' := pm_up (pm_up (pm_up (pm_up (pm_up M m0 (pm_mo z m0 f)) (m0 + 1) (.inl (kA 0, 91, .inl g))) (m0 + 5) (.inl (kA 0, 7, .inl gq))) m0 (pm_mo z m0 ((d_X13_doLink (gc ((3 * j) + 1)) (gc ((3 * j) + 2)) 1 n f g).2.1))) (m0 + 1) (.inl (kA 0, 91, .inl ((d_X13_doLink (gc ((3 * j) + 1)) (gc ((3 * j) + 2)) 1 n f g).2.2)))) rfl ?_
          refine pm_mem (M' := pm_up (pm_up (pm_up (pm_up M m0 (pm_mo z m0 ((d_X13_doLink (gc ((3 * j) + 1)) (gc ((3 * j) + 2)) 1 n f g).2.1))) (m0 + 1) (.inl (kA 0, 91, .inl g))) (m0 + 5) (.inl (kA 0, 7, .inl gq))) (m0 + 1) (.inl (kA 0, 91, .inl ((d_X13_doLink (gc ((3 * j) + 1)) (gc ((3 * j) + 2)) 1 n f g).2.2)))) (by rw [pm_up_sw (a := m0 + 5) (b := m0) (by omega), pm_up_sw (a := m0 + 1) (b := m0) (by omega), pm_up_up (a := m0)]) ?_
          refine pm_mem (M' := pm_up (pm_up (pm_up M m0 (pm_mo z m0 ((d_X13_doLink (gc ((3 * j) + 1)) (gc ((3 * j) + 2)) 1 n f g).2.1))) (m0 + 1) (.inl (kA 0, 91, .inl ((d_X13_doLink (gc ((3 * j) + 1)) (gc ((3 * j) + 2)) 1 n f g).2.2)))) (m0 + 5) (.inl (kA 0, 7, .inl gq))) (by rw [pm_up_sw (a := m0 + 5) (b := m0 + 1) (by omega), pm_up_up (a := m0 + 1)]) ?_
          refine pm_stk (st' := [.int ((d_X13_doLink (gc ((3 * j) + 1)) (gc ((3 * j) + 2)) 1 n f g).1)]) rfl ?_
          refine pm_istore B dX13_does_197 rfl rfl ?_
          refine pm_loc (L' := [some (.ref (z + m0)), some (.int (nI j)), some (.int (gc ((3 * j) + 1))), some (.int (gc ((3 * j) + 2))), some (.int ((d_X13_doLink (gc ((3 * j) + 1)) (gc ((3 * j) + 2)) 1 n f g).1))]) rfl ?_
          refine pm_goto (tgt := 240) B dX13_does_199 (by decide) ?_
          have hDq8 : (d_X13_does j n f g gq gc) = (((d_X13_doLink (gc ((3 * j) + 1)) (gc ((3 * j) + 2)) 1 n f g).2.1), ((d_X13_doLink (gc ((3 * j) + 1)) (gc ((3 * j) + 2)) 1 n f g).2.2), gq) := by rw [d_X13_does, if_neg hq1, if_neg hq3, if_neg hq5, if_pos hq7]
          exact pm_return B dX13_does_240 rfl ⟨rfl, rfl, by rw [hDq8]⟩ rfl rfl
        · skip
          by_cases hq9 : (gc (3 * j)) = 109
          · refine pm_stk (st' := [.int 109]) (by rw [show (gc (3 * j)) = 109 from hq9]) ?_
            refine pm_tableIn (off := 172) (tgt := 202) B dX13_does_30 (by decide) (by decide) (by decide) (by decide) ?_
            refine pm_aload_n B dX13_does_202 rfl ?_
            refine pm_iload_n B dX13_does_203 rfl ?_
            refine pm_cV (As := [.int (gc ((3 * j) + 1))]) (mc2 := 0) (ms2 := 0) B rfl ((pm_up_n (by omega)).trans ((pm_up_n (by omega)).trans pm_up_s)) rfl (c_X13_doSetThreshold (x := (gc ((3 * j) + 1))) (f := f) (g := g) ((pm_up_n (by omega)).trans ((pm_up_n (by omega)).trans pm_up_s)) ((pm_up_n (by omega)).trans pm_up_s) ) mt_X13_doSetThreshold sv_X13_178 dX13_does_204 rfl rfl rfl rfl rfl ?_
            refine pm_mem (M' := pm_up (pm_up (pm_up (pm_up (pm_up M m0 (pm_mo z m0 f)) (m0 + 1) (.inl (kA 0, 91, .inl g))) (m0 + 5) (.inl (kA 0, 7, .inl gq))) m0 (pm_mo z m0 ((d_X13_doSetThreshold (gc ((3 * j) + 1)) f g).2.1))) (m0 + 1) (.inl (kA 0, 91, .inl ((d_X13_doSetThreshold (gc ((3 * j) + 1)) f g).2.2)))) rfl ?_
            refine pm_mem (M' := pm_up (pm_up (pm_up (pm_up M m0 (pm_mo z m0 ((d_X13_doSetThreshold (gc ((3 * j) + 1)) f g).2.1))) (m0 + 1) (.inl (kA 0, 91, .inl g))) (m0 + 5) (.inl (kA 0, 7, .inl gq))) (m0 + 1) (.inl (kA 0, 91, .inl ((d_X13_doSetThreshold (gc ((3 * j) + 1)) f g).2.2)))) (by rw [pm_up_sw (a := m0 + 5) (b := m0) (by omega), pm_up_sw (a := m0 + 1) (b := m0) (by omega), pm_up_up (a := m0)]) ?_
            refine pm_mem (M' := pm_up (pm_up (pm_up M m0 (pm_mo z m0 ((d_X13_doSetThreshold (gc ((3 * j) + 1)) f g).2.1))) (m0 + 1) (.inl (kA 0, 91, .inl ((d_X13_doSetThreshold (gc ((3 * j) + 1)) f g).2.2)))) (m0 + 5) (.inl (kA 0, 7, .inl gq))) (by rw [pm_up_sw (a := m0 + 5) (b := m0 + 1) (by omega), pm_up_up (a := m0 + 1)]) ?_
            refine pm_stk (st' := [.int ((d_X13_doSetThreshold (gc ((3 * j) + 1)) f g).1)]) rfl ?_
            refine pm_istore B dX13_does_207 rfl rfl ?_
            refine pm_loc (L' := [some (.ref (z + m0)), some (.int (nI j)), some (.int (gc ((3 * j) + 1))), some (.int (gc ((3 * j) + 2))), some (.int ((d_X13_doSetThreshold (gc ((3 * j) + 1)) f g).1))]) rfl ?_
            refine pm_goto (tgt := 240) B dX13_does_209 (by decide) ?_
            have hDq10 : (d_X13_does j n f g gq gc) = (((d_X13_doSetThreshold (gc ((3 * j) + 1)) f g).2.1), ((d_X13_doSetThreshold (gc ((3 * j) + 1)) f g).2.2), gq) := by rw [d_X13_does, if_neg hq1, if_neg hq3, if_neg hq5, if_neg hq7, if_pos hq9]
            exact pm_return B dX13_does_240 rfl ⟨rfl, rfl, by rw [hDq10]⟩ rfl rfl
          · skip
            by_cases hq11 : (gc (3 * j)) = 112
            · refine pm_stk (st' := [.int 112]) (by rw [show (gc (3 * j)) = 112 from hq11]) ?_
              refine pm_tableIn (off := 192) (tgt := 222) B dX13_does_30 (by decide) (by decide) (by decide) (by decide) ?_
              refine pm_aload_n B dX13_does_222 rfl ?_
              refine pm_iload_n B dX13_does_223 rfl ?_
              refine pm_cV (As := [.int (gc ((3 * j) + 1))]) (mc2 := 0) (ms2 := 0) B rfl ((pm_up_n (by omega)).trans ((pm_up_n (by omega)).trans pm_up_s)) rfl (c_X13_doPardon (x := (gc ((3 * j) + 1))) (n := n) (f := f) (g := g) ((pm_up_n (by omega)).trans ((pm_up_n (by omega)).trans pm_up_s)) ((pm_up_n (by omega)).trans pm_up_s) hn (by first | assumption | omega)) mt_X13_doPardon sv_X13_104 dX13_does_224 rfl rfl rfl rfl rfl ?_
              refine pm_mem (M' := pm_up (pm_up (pm_up (pm_up (pm_up M m0 (pm_mo z m0 f)) (m0 + 1) (.inl (kA 0, 91, .inl g))) (m0 + 5) (.inl (kA 0, 7, .inl gq))) m0 (pm_mo z m0 ((d_X13_doPardon (gc ((3 * j) + 1)) n f g).2.1))) (m0 + 1) (.inl (kA 0, 91, .inl ((d_X13_doPardon (gc ((3 * j) + 1)) n f g).2.2)))) rfl ?_
              refine pm_mem (M' := pm_up (pm_up (pm_up (pm_up M m0 (pm_mo z m0 ((d_X13_doPardon (gc ((3 * j) + 1)) n f g).2.1))) (m0 + 1) (.inl (kA 0, 91, .inl g))) (m0 + 5) (.inl (kA 0, 7, .inl gq))) (m0 + 1) (.inl (kA 0, 91, .inl ((d_X13_doPardon (gc ((3 * j) + 1)) n f g).2.2)))) (by rw [pm_up_sw (a := m0 + 5) (b := m0) (by omega), pm_up_sw (a := m0 + 1) (b := m0) (by omega), pm_up_up (a := m0)]) ?_
              refine pm_mem (M' := pm_up (pm_up (pm_up M m0 (pm_mo z m0 ((d_X13_doPardon (gc ((3 * j) + 1)) n f g).2.1))) (m0 + 1) (.inl (kA 0, 91, .inl ((d_X13_doPardon (gc ((3 * j) + 1)) n f g).2.2)))) (m0 + 5) (.inl (kA 0, 7, .inl gq))) (by rw [pm_up_sw (a := m0 + 5) (b := m0 + 1) (by omega), pm_up_up (a := m0 + 1)]) ?_
              refine pm_stk (st' := [.int ((d_X13_doPardon (gc ((3 * j) + 1)) n f g).1)]) rfl ?_
              refine pm_istore B dX13_does_227 rfl rfl ?_
              refine pm_loc (L' := [some (.ref (z + m0)), some (.int (nI j)), some (.int (gc ((3 * j) + 1))), some (.int (gc ((3 * j) + 2))), some (.int ((d_X13_doPardon (gc ((3 * j) + 1)) n f g).1))]) rfl ?_
              refine pm_goto (tgt := 240) B dX13_does_229 (by decide) ?_
              have hDq12 : (d_X13_does j n f g gq gc) = (((d_X13_doPardon (gc ((3 * j) + 1)) n f g).2.1), ((d_X13_doPardon (gc ((3 * j) + 1)) n f g).2.2), gq) := by rw [d_X13_does, if_neg hq1, if_neg hq3, if_neg hq5, if_neg hq7, if_neg hq9, if_pos hq11]
              exact pm_return B dX13_does_240 rfl ⟨rfl, rfl, by rw [hDq12]⟩ rfl rfl
            · skip
              by_cases hq13 : (gc (3 * j)) = 114
              · refine pm_stk (st' := [.int 114]) (by rw [show (gc (3 * j)) = 114 from hq13]) ?_
                refine pm_tableIn (off := 182) (tgt := 212) B dX13_does_30 (by decide) (by decide) (by decide) (by decide) ?_
                refine pm_aload_n B dX13_does_212 rfl ?_
                refine pm_iload_n B dX13_does_213 rfl ?_
                refine pm_cV (As := [.int (gc ((3 * j) + 1))]) (mc2 := 0) (ms2 := 0) B rfl ((pm_up_n (by omega)).trans ((pm_up_n (by omega)).trans pm_up_s)) rfl (c_X13_doSetRule (x := (gc ((3 * j) + 1))) (f := f) (g := g) ((pm_up_n (by omega)).trans ((pm_up_n (by omega)).trans pm_up_s)) ((pm_up_n (by omega)).trans pm_up_s) ) mt_X13_doSetRule sv_X13_124 dX13_does_214 rfl rfl rfl rfl rfl ?_
                refine pm_mem (M' := pm_up (pm_up (pm_up (pm_up (pm_up M m0 (pm_mo z m0 f)) (m0 + 1) (.inl (kA 0, 91, .inl g))) (m0 + 5) (.inl (kA 0, 7, .inl gq))) m0 (pm_mo z m0 ((d_X13_doSetRule (gc ((3 * j) + 1)) f g).2.1))) (m0 + 1) (.inl (kA 0, 91, .inl ((d_X13_doSetRule (gc ((3 * j) + 1)) f g).2.2)))) rfl ?_
                refine pm_mem (M' := pm_up (pm_up (pm_up (pm_up M m0 (pm_mo z m0 ((d_X13_doSetRule (gc ((3 * j) + 1)) f g).2.1))) (m0 + 1) (.inl (kA 0, 91, .inl g))) (m0 + 5) (.inl (kA 0, 7, .inl gq))) (m0 + 1) (.inl (kA 0, 91, .inl ((d_X13_doSetRule (gc ((3 * j) + 1)) f g).2.2)))) (by rw [pm_up_sw (a := m0 + 5) (b := m0) (by omega), pm_up_sw (a := m0 + 1) (b := m0) (by omega), pm_up_up (a := m0)]) ?_
                refine pm_mem (M' := pm_up (pm_up (pm_up M m0 (pm_mo z m0 ((d_X13_doSetRule (gc ((3 * j) + 1)) f g).2.1))) (m0 + 1) (.inl (kA 0, 91, .inl ((d_X13_doSetRule (gc ((3 * j) + 1)) f g).2.2)))) (m0 + 5) (.inl (kA 0, 7, .inl gq))) (by rw [pm_up_sw (a := m0 + 5) (b := m0 + 1) (by omega), pm_up_up (a := m0 + 1)]) ?_
                refine pm_stk (st' := [.int ((d_X13_doSetRule (gc ((3 * j) + 1)) f g).1)]) rfl ?_
                refine pm_istore B dX13_does_217 rfl rfl ?_
                refine pm_loc (L' := [some (.ref (z + m0)), some (.int (nI j)), some (.int (gc ((3 * j) + 1))), some (.int (gc ((3 * j) + 2))), some (.int ((d_X13_doSetRule (gc ((3 * j) + 1)) f g).1))]) rfl ?_
                refine pm_goto (tgt := 240) B dX13_does_219 (by decide) ?_
                have hDq14 : (d_X13_does j n f g gq gc) = (((d_X13_doSetRule (gc ((3 * j) + 1)) f g).2.1), ((d_X13_doSetRule (gc ((3 * j) + 1)) f g).2.2), gq) := by rw [d_X13_does, if_neg hq1, if_neg hq3, if_neg hq5, if_neg hq7, if_neg hq9, if_neg hq11, if_pos hq13]
                exact pm_return B dX13_does_240 rfl ⟨rfl, rfl, by rw [hDq14]⟩ rfl rfl
              · skip
                by_cases hq15 : (gc (3 * j)) = 115
                · refine pm_stk (st' := [.int 115]) (by rw [show (gc (3 * j)) = 115 from hq15]) ?_
                  refine pm_tableIn (off := 118) (tgt := 148) B dX13_does_30 (by decide) (by decide) (by decide) (by decide) ?_
                  refine pm_aload_n B dX13_does_148 rfl ?_
                  refine pm_iload_n B dX13_does_149 rfl ?_
                  refine pm_iload_n B dX13_does_150 rfl ?_
                  refine pm_cV (As := [.int (gc ((3 * j) + 1)), .int (gc ((3 * j) + 2))]) (mc2 := 0) (ms2 := 0) B rfl ((pm_up_n (by omega)).trans ((pm_up_n (by omega)).trans pm_up_s)) rfl (c_X13_doSell (x := (gc ((3 * j) + 1))) (y := (gc ((3 * j) + 2))) (n := n) (f := f) (g := g) ((pm_up_n (by omega)).trans ((pm_up_n (by omega)).trans pm_up_s)) ((pm_up_n (by omega)).trans pm_up_s) hn (by first | assumption | omega)) mt_X13_doSell sv_X13_134 dX13_does_151 rfl rfl rfl rfl rfl ?_
                  refine pm_mem (M' := pm_up (pm_up (pm_up (pm_up (pm_up M m0 (pm_mo z m0 f)) (m0 + 1) (.inl (kA 0, 91, .inl g))) (m0 + 5) (.inl (kA 0, 7, .inl gq))) m0 (pm_mo z m0 ((d_X13_doSell (gc ((3 * j) + 1)) (gc ((3 * j) + 2)) n f g).2.1))) (m0 + 1) (.inl (kA 0, 91, .inl ((d_X13_doSell (gc ((3 * j) + 1)) (gc ((3 * j) + 2)) n f g).2.2)))) rfl ?_
                  refine pm_mem (M' := pm_up (pm_up (pm_up (pm_up M m0 (pm_mo z m0 ((d_X13_doSell (gc ((3 * j) + 1)) (gc ((3 * j) + 2)) n f g).2.1))) (m0 + 1) (.inl (kA 0, 91, .inl g))) (m0 + 5) (.inl (kA 0, 7, .inl gq))) (m0 + 1) (.inl (kA 0, 91, .inl ((d_X13_doSell (gc ((3 * j) + 1)) (gc ((3 * j) + 2)) n f g).2.2)))) (by rw [pm_up_sw (a := m0 + 5) (b := m0) (by omega), pm_up_sw (a := m0 + 1) (b := m0) (by omega), pm_up_up (a := m0)]) ?_
                  refine pm_mem (M' := pm_up (pm_up (pm_up M m0 (pm_mo z m0 ((d_X13_doSell (gc ((3 * j) + 1)) (gc ((3 * j) + 2)) n f g).2.1))) (m0 + 1) (.inl (kA 0, 91, .inl ((d_X13_doSell (gc ((3 * j) + 1)) (gc ((3 * j) + 2)) n f g).2.2)))) (m0 + 5) (.inl (kA 0, 7, .inl gq))) (by rw [pm_up_sw (a := m0 + 5) (b := m0 + 1) (by omega), pm_up_up (a := m0 + 1)]) ?_
                  refine pm_stk (st' := [.int ((d_X13_doSell (gc ((3 * j) + 1)) (gc ((3 * j) + 2)) n f g).1)]) rfl ?_
                  refine pm_istore B dX13_does_154 rfl rfl ?_
                  refine pm_loc (L' := [some (.ref (z + m0)), some (.int (nI j)), some (.int (gc ((3 * j) + 1))), some (.int (gc ((3 * j) + 2))), some (.int ((d_X13_doSell (gc ((3 * j) + 1)) (gc ((3 * j) + 2)) n f g).1))]) rfl ?_
                  refine pm_goto (tgt := 240) B dX13_does_156 (by decide) ?_
                  have hDq16 : (d_X13_does j n f g gq gc) = (((d_X13_doSell (gc ((3 * j) + 1)) (gc ((3 * j) + 2)) n f g).2.1), ((d_X13_doSell (gc ((3 * j) + 1)) (gc ((3 * j) + 2)) n f g).2.2), gq) := by rw [d_X13_does, if_neg hq1, if_neg hq3, if_neg hq5, if_neg hq7, if_neg hq9, if_neg hq11, if_neg hq13, if_pos hq15]
                  exact pm_return B dX13_does_240 rfl ⟨rfl, rfl, by rw [hDq16]⟩ rfl rfl
                · skip
                  by_cases hq17 : (gc (3 * j)) = 116
                  · refine pm_stk (st' := [.int 116]) (by rw [show (gc (3 * j)) = 116 from hq17]) ?_
                    refine pm_tableIn (off := 148) (tgt := 178) B dX13_does_30 (by decide) (by decide) (by decide) (by decide) ?_
                    refine pm_aload_n B dX13_does_178 rfl ?_
                    refine pm_iload_n B dX13_does_179 rfl ?_
                    refine pm_iload_n B dX13_does_180 rfl ?_
                    refine pm_iconst (v := 0) B dX13_does_181 (by decide) ?_
                    refine pm_cV (As := [.int (gc ((3 * j) + 1)), .int (gc ((3 * j) + 2)), .int 0]) (mc2 := 0) (ms2 := 0) B rfl ((pm_up_n (by omega)).trans ((pm_up_n (by omega)).trans pm_up_s)) rfl (c_X13_doLink (x := (gc ((3 * j) + 1))) (y := (gc ((3 * j) + 2))) (v := 0) (n := n) (f := f) (g := g) ((pm_up_n (by omega)).trans ((pm_up_n (by omega)).trans pm_up_s)) ((pm_up_n (by omega)).trans pm_up_s) hn (by first | assumption | omega)) mt_X13_doLink sv_X13_163 dX13_does_182 rfl rfl rfl rfl rfl ?_
                    refine pm_mem (M' := pm_up (pm_up (pm_up (pm_up (pm_up M m0 (pm_mo z m0 f)) (m0 + 1) (.inl (kA 0, 91, .inl g))) (m0 + 5) (.inl (kA 0, 7, .inl gq))) m0 (pm_mo z m0 ((d_X13_doLink (gc ((3 * j) + 1)) (gc ((3 * j) + 2)) 0 n f g).2.1))) (m0 + 1) (.inl (kA 0, 91, .inl ((d_X13_doLink (gc ((3 * j) + 1)) (gc ((3 * j) + 2)) 0 n f g).2.2)))) rfl ?_
                    refine pm_mem (M' := pm_up (pm_up (pm_up (pm_up M m0 (pm_mo z m0 ((d_X13_doLink (gc ((3 * j) + 1)) (gc ((3 * j) + 2)) 0 n f g).2.1))) (m0 + 1) (.inl (kA 0, 91, .inl g))) (m0 + 5) (.inl (kA 0, 7, .inl gq))) (m0 + 1) (.inl (kA 0, 91, .inl ((d_X13_doLink (gc ((3 * j) + 1)) (gc ((3 * j) + 2)) 0 n f g).2.2)))) (by rw [pm_up_sw (a := m0 + 5) (b := m0) (by omega), pm_up_sw (a := m0 + 1) (b := m0) (by omega), pm_up_up (a := m0)]) ?_
                    refine pm_mem (M' := pm_up (pm_up (pm_up M m0 (pm_mo z m0 ((d_X13_doLink (gc ((3 * j) + 1)) (gc ((3 * j) + 2)) 0 n f g).2.1))) (m0 + 1) (.inl (kA 0, 91, .inl ((d_X13_doLink (gc ((3 * j) + 1)) (gc ((3 * j) + 2)) 0 n f g).2.2)))) (m0 + 5) (.inl (kA 0, 7, .inl gq))) (by rw [pm_up_sw (a := m0 + 5) (b := m0 + 1) (by omega), pm_up_up (a := m0 + 1)]) ?_
                    refine pm_stk (st' := [.int ((d_X13_doLink (gc ((3 * j) + 1)) (gc ((3 * j) + 2)) 0 n f g).1)]) rfl ?_
                    refine pm_istore B dX13_does_185 rfl rfl ?_
                    refine pm_loc (L' := [some (.ref (z + m0)), some (.int (nI j)), some (.int (gc ((3 * j) + 1))), some (.int (gc ((3 * j) + 2))), some (.int ((d_X13_doLink (gc ((3 * j) + 1)) (gc ((3 * j) + 2)) 0 n f g).1))]) rfl ?_
                    refine pm_goto (tgt := 240) B dX13_does_187 (by decide) ?_
                    have hDq18 : (d_X13_does j n f g gq gc) = (((d_X13_doLink (gc ((3 * j) + 1)) (gc ((3 * j) + 2)) 0 n f g).2.1), ((d_X13_doLink (gc ((3 * j) + 1)) (gc ((3 * j) + 2)) 0 n f g).2.2), gq) := by rw [d_X13_does, if_neg hq1, if_neg hq3, if_neg hq5, if_neg hq7, if_neg hq9, if_neg hq11, if_neg hq13, if_neg hq15, if_pos hq17]
                    exact pm_return B dX13_does_240 rfl ⟨rfl, rfl, by rw [hDq18]⟩ rfl rfl
                  · skip
                    by_cases hq19 : (gc (3 * j)) = 117
                    · refine pm_stk (st' := [.int 117]) (by rw [show (gc (3 * j)) = 117 from hq19]) ?_
                      refine pm_tableIn (off := 108) (tgt := 138) B dX13_does_30 (by decide) (by decide) (by decide) (by decide) ?_
                      refine pm_aload_n B dX13_does_138 rfl ?_
                      refine pm_iload_n B dX13_does_139 rfl ?_
                      refine pm_cV (As := [.int (gc ((3 * j) + 1))]) (mc2 := 0) (ms2 := 0) B rfl ((pm_up_n (by omega)).trans ((pm_up_n (by omega)).trans pm_up_s)) rfl (c_X13_doAudit (x := (gc ((3 * j) + 1))) (n := n) (f := f) (g := g) ((pm_up_n (by omega)).trans ((pm_up_n (by omega)).trans pm_up_s)) ((pm_up_n (by omega)).trans pm_up_s) hn (by first | assumption | omega) (by assumption) (by assumption)) mt_X13_doAudit sv_X13_147 dX13_does_140 rfl rfl rfl rfl rfl ?_
                      refine pm_mem (M' := pm_up (pm_up (pm_up (pm_up (pm_up M m0 (pm_mo z m0 f)) (m0 + 1) (.inl (kA 0, 91, .inl g))) (m0 + 5) (.inl (kA 0, 7, .inl gq))) m0 (pm_mo z m0 ((d_X13_doAudit (gc ((3 * j) + 1)) n f g).2.1))) (m0 + 1) (.inl (kA 0, 91, .inl ((d_X13_doAudit (gc ((3 * j) + 1)) n f g).2.2)))) rfl ?_
                      refine pm_mem (M' := pm_up (pm_up (pm_up (pm_up M m0 (pm_mo z m0 ((d_X13_doAudit (gc ((3 * j) + 1)) n f g).2.1))) (m0 + 1) (.inl (kA 0, 91, .inl g))) (m0 + 5) (.inl (kA 0, 7, .inl gq))) (m0 + 1) (.inl (kA 0, 91, .inl ((d_X13_doAudit (gc ((3 * j) + 1)) n f g).2.2)))) (by rw [pm_up_sw (a := m0 + 5) (b := m0) (by omega), pm_up_sw (a := m0 + 1) (b := m0) (by omega), pm_up_up (a := m0)]) ?_
                      refine pm_mem (M' := pm_up (pm_up (pm_up M m0 (pm_mo z m0 ((d_X13_doAudit (gc ((3 * j) + 1)) n f g).2.1))) (m0 + 1) (.inl (kA 0, 91, .inl ((d_X13_doAudit (gc ((3 * j) + 1)) n f g).2.2)))) (m0 + 5) (.inl (kA 0, 7, .inl gq))) (by rw [pm_up_sw (a := m0 + 5) (b := m0 + 1) (by omega), pm_up_up (a := m0 + 1)]) ?_
                      refine pm_stk (st' := [.int ((d_X13_doAudit (gc ((3 * j) + 1)) n f g).1)]) rfl ?_
                      refine pm_istore B dX13_does_143 rfl rfl ?_
                      refine pm_loc (L' := [some (.ref (z + m0)), some (.int (nI j)), some (.int (gc ((3 * j) + 1))), some (.int (gc ((3 * j) + 2))), some (.int ((d_X13_doAudit (gc ((3 * j) + 1)) n f g).1))]) rfl ?_
                      refine pm_goto (tgt := 240) B dX13_does_145 (by decide) ?_
                      have hDq20 : (d_X13_does j n f g gq gc) = (((d_X13_doAudit (gc ((3 * j) + 1)) n f g).2.1), ((d_X13_doAudit (gc ((3 * j) + 1)) n f g).2.2), gq) := by rw [d_X13_does, if_neg hq1, if_neg hq3, if_neg hq5, if_neg hq7, if_neg hq9, if_neg hq11, if_neg hq13, if_neg hq15, if_neg hq17, if_pos hq19]
                      exact pm_return B dX13_does_240 rfl ⟨rfl, rfl, by rw [hDq20]⟩ rfl rfl
                    · skip
                      refine pm_tableD (tgt := 232) B dX13_does_30 (by decide) [97, 99, 100, 108, 109, 112, 114, 115, 116, 117] (by decide) (by decide +kernel) (List.forall_mem_cons.mpr ⟨pm_neI (by decide) hq1, (List.forall_mem_cons.mpr ⟨pm_neI (by decide) hq3, (List.forall_mem_cons.mpr ⟨pm_neI (by decide) hq5, (List.forall_mem_cons.mpr ⟨pm_neI (by decide) hq7, (List.forall_mem_cons.mpr ⟨pm_neI (by decide) hq9, (List.forall_mem_cons.mpr ⟨pm_neI (by decide) hq11, (List.forall_mem_cons.mpr ⟨pm_neI (by decide) hq13, (List.forall_mem_cons.mpr ⟨pm_neI (by decide) hq15, (List.forall_mem_cons.mpr ⟨pm_neI (by decide) hq17, (List.forall_mem_cons.mpr ⟨pm_neI (by decide) hq19, (fun c hc => absurd hc List.not_mem_nil)⟩)⟩)⟩)⟩)⟩)⟩)⟩)⟩)⟩)⟩) ?_
                      refine pm_aload_n B dX13_does_232 rfl ?_
                      refine pm_iload_n B dX13_does_233 rfl ?_
                      refine pm_iload_n B dX13_does_234 rfl ?_
                      refine pm_cV (As := [.int (gc ((3 * j) + 1)), .int (gc ((3 * j) + 2))]) (mc2 := 0) (ms2 := 0) B rfl ((pm_up_n (by omega)).trans ((pm_up_n (by omega)).trans pm_up_s)) rfl (c_X13_doAddMember (x := (gc ((3 * j) + 1))) (y := (gc ((3 * j) + 2))) (n := n) (f := f) (g := g) ((pm_up_n (by omega)).trans ((pm_up_n (by omega)).trans pm_up_s)) ((pm_up_n (by omega)).trans pm_up_s) hn (by first | assumption | omega)) mt_X13_doAddMember sv_X13_94 dX13_does_235 rfl rfl rfl rfl rfl ?_
                      refine pm_mem (M' := pm_up (pm_up (pm_up (pm_up (pm_up M m0 (pm_mo z m0 f)) (m0 + 1) (.inl (kA 0, 91, .inl g))) (m0 + 5) (.inl (kA 0, 7, .inl gq))) m0 (pm_mo z m0 ((d_X13_doAddMember (gc ((3 * j) + 1)) (gc ((3 * j) + 2)) n f g).2.1))) (m0 + 1) (.inl (kA 0, 91, .inl ((d_X13_doAddMember (gc ((3 * j) + 1)) (gc ((3 * j) + 2)) n f g).2.2)))) rfl ?_
                      refine pm_mem (M' := pm_up (pm_up (pm_up (pm_up M m0 (pm_mo z m0 ((d_X13_doAddMember (gc ((3 * j) + 1)) (gc ((3 * j) + 2)) n f g).2.1))) (m0 + 1) (.inl (kA 0, 91, .inl g))) (m0 + 5) (.inl (kA 0, 7, .inl gq))) (m0 + 1) (.inl (kA 0, 91, .inl ((d_X13_doAddMember (gc ((3 * j) + 1)) (gc ((3 * j) + 2)) n f g).2.2)))) (by rw [pm_up_sw (a := m0 + 5) (b := m0) (by omega), pm_up_sw (a := m0 + 1) (b := m0) (by omega), pm_up_up (a := m0)]) ?_
                      refine pm_mem (M' := pm_up (pm_up (pm_up M m0 (pm_mo z m0 ((d_X13_doAddMember (gc ((3 * j) + 1)) (gc ((3 * j) + 2)) n f g).2.1))) (m0 + 1) (.inl (kA 0, 91, .inl ((d_X13_doAddMember (gc ((3 * j) + 1)) (gc ((3 * j) + 2)) n f g).2.2)))) (m0 + 5) (.inl (kA 0, 7, .inl gq))) (by rw [pm_up_sw (a := m0 + 5) (b := m0 + 1) (by omega), pm_up_up (a := m0 + 1)]) ?_
                      refine pm_stk (st' := [.int ((d_X13_doAddMember (gc ((3 * j) + 1)) (gc ((3 * j) + 2)) n f g).1)]) rfl ?_
                      refine pm_istore B dX13_does_238 rfl rfl ?_
                      refine pm_loc (L' := [some (.ref (z + m0)), some (.int (nI j)), some (.int (gc ((3 * j) + 1))), some (.int (gc ((3 * j) + 2))), some (.int ((d_X13_doAddMember (gc ((3 * j) + 1)) (gc ((3 * j) + 2)) n f g).1))]) rfl ?_
                      have hDq21 : (d_X13_does j n f g gq gc) = (((d_X13_doAddMember (gc ((3 * j) + 1)) (gc ((3 * j) + 2)) n f g).2.1), ((d_X13_doAddMember (gc ((3 * j) + 1)) (gc ((3 * j) + 2)) n f g).2.2), gq) := by rw [d_X13_does, if_neg hq1, if_neg hq3, if_neg hq5, if_neg hq7, if_neg hq9, if_neg hq11, if_neg hq13, if_neg hq15, if_neg hq17, if_neg hq19]
                      exact pm_return B dX13_does_240 rfl ⟨rfl, rfl, by rw [hDq21]⟩ rfl rfl
/-! a text's commands, done by both -/
theorem pp_dE {c j n : Nat} {f g gq gc : Nat → Int32} (hc : c < 11) (hk : gc (3 * j) = nI (pp_ch c)) : d_X13_does j n f g gq gc = (pm_mc c (gc (3 * j + 1)) (gc (3 * j + 2)) n f g gq).2 := by
  unfold d_X13_does
  rw [hk]
  rcases (show c = 0 ∨ c = 1 ∨ c = 2 ∨ c = 3 ∨ c = 4 ∨ c = 5 ∨ c = 6 ∨ c = 7 ∨ c = 8 ∨ c = 9 ∨ c = 10 by omega) with rfl | rfl | rfl | rfl | rfl | rfl | rfl | rfl | rfl | rfl | rfl
  · rw [if_neg (show ¬ nI (pp_ch 0) = 97 by decide), if_neg (show ¬ nI (pp_ch 0) = 99 by decide), if_neg (show ¬ nI (pp_ch 0) = 100 by decide), if_neg (show ¬ nI (pp_ch 0) = 108 by decide), if_neg (show ¬ nI (pp_ch 0) = 109 by decide), if_neg (show ¬ nI (pp_ch 0) = 112 by decide), if_neg (show ¬ nI (pp_ch 0) = 114 by decide), if_neg (show ¬ nI (pp_ch 0) = 115 by decide), if_neg (show ¬ nI (pp_ch 0) = 116 by decide), if_neg (show ¬ nI (pp_ch 0) = 117 by decide)]
    rfl
  · rw [if_pos (show nI (pp_ch 1) = 97 by decide)]
    rfl
  · rw [if_neg (show ¬ nI (pp_ch 2) = 97 by decide), if_neg (show ¬ nI (pp_ch 2) = 99 by decide), if_neg (show ¬ nI (pp_ch 2) = 100 by decide), if_neg (show ¬ nI (pp_ch 2) = 108 by decide), if_neg (show ¬ nI (pp_ch 2) = 109 by decide), if_neg (show ¬ nI (pp_ch 2) = 112 by decide), if_pos (show nI (pp_ch 2) = 114 by decide)]
    rfl
  · rw [if_neg (show ¬ nI (pp_ch 3) = 97 by decide), if_neg (show ¬ nI (pp_ch 3) = 99 by decide), if_neg (show ¬ nI (pp_ch 3) = 100 by decide), if_neg (show ¬ nI (pp_ch 3) = 108 by decide), if_neg (show ¬ nI (pp_ch 3) = 109 by decide), if_neg (show ¬ nI (pp_ch 3) = 112 by decide), if_neg (show ¬ nI (pp_ch 3) = 114 by decide), if_pos (show nI (pp_ch 3) = 115 by decide)]
    rfl
  · rw [if_neg (show ¬ nI (pp_ch 4) = 97 by decide), if_neg (show ¬ nI (pp_ch 4) = 99 by decide), if_neg (show ¬ nI (pp_ch 4) = 100 by decide), if_neg (show ¬ nI (pp_ch 4) = 108 by decide), if_neg (show ¬ nI (pp_ch 4) = 109 by decide), if_neg (show ¬ nI (pp_ch 4) = 112 by decide), if_neg (show ¬ nI (pp_ch 4) = 114 by decide), if_neg (show ¬ nI (pp_ch 4) = 115 by decide), if_neg (show ¬ nI (pp_ch 4) = 116 by decide), if_pos (show nI (pp_ch 4) = 117 by decide)]
    rfl
  · rw [if_neg (show ¬ nI (pp_ch 5) = 97 by decide), if_pos (show nI (pp_ch 5) = 99 by decide)]
    rfl
  · rw [if_neg (show ¬ nI (pp_ch 6) = 97 by decide), if_neg (show ¬ nI (pp_ch 6) = 99 by decide), if_neg (show ¬ nI (pp_ch 6) = 100 by decide), if_pos (show nI (pp_ch 6) = 108 by decide)]
    rfl
  · rw [if_neg (show ¬ nI (pp_ch 7) = 97 by decide), if_neg (show ¬ nI (pp_ch 7) = 99 by decide), if_neg (show ¬ nI (pp_ch 7) = 100 by decide), if_neg (show ¬ nI (pp_ch 7) = 108 by decide), if_neg (show ¬ nI (pp_ch 7) = 109 by decide), if_neg (show ¬ nI (pp_ch 7) = 112 by decide), if_neg (show ¬ nI (pp_ch 7) = 114 by decide), if_neg (show ¬ nI (pp_ch 7) = 115 by decide), if_pos (show nI (pp_ch 7) = 116 by decide)]
    rfl
  · rw [if_neg (show ¬ nI (pp_ch 8) = 97 by decide), if_neg (show ¬ nI (pp_ch 8) = 99 by decide), if_neg (show ¬ nI (pp_ch 8) = 100 by decide), if_neg (show ¬ nI (pp_ch 8) = 108 by decide), if_neg (show ¬ nI (pp_ch 8) = 109 by decide), if_pos (show nI (pp_ch 8) = 112 by decide)]
    rfl
  · rw [if_neg (show ¬ nI (pp_ch 9) = 97 by decide), if_neg (show ¬ nI (pp_ch 9) = 99 by decide), if_neg (show ¬ nI (pp_ch 9) = 100 by decide), if_neg (show ¬ nI (pp_ch 9) = 108 by decide), if_pos (show nI (pp_ch 9) = 109 by decide)]
    rfl
  · rw [if_neg (show ¬ nI (pp_ch 10) = 97 by decide), if_neg (show ¬ nI (pp_ch 10) = 99 by decide), if_pos (show nI (pp_ch 10) = 100 by decide)]
    rfl
def pp_rn (gc : Nat → Int32) : Nat → Nat → (Nat → Int32) → (Nat → Int32) → (Nat → Int32) → Nat × Nat × (Nat → Int32) × (Nat → Int32) × (Nat → Int32)
  | 0, j, f, g, gq => (0, j, f, g, gq)
  | k + 1, j, f, g, gq => if (d_X13_does j (pm_n (g 0)) f g gq gc).1 6 ≤ 0 then pp_rn gc k (j + 1) (d_X13_does j (pm_n (g 0)) f g gq gc).1 (d_X13_does j (pm_n (g 0)) f g gq gc).2.1 (d_X13_does j (pm_n (g 0)) f g gq gc).2.2 else (1, j, (d_X13_does j (pm_n (g 0)) f g gq gc).1, (d_X13_does j (pm_n (g 0)) f g gq gc).2.1, (d_X13_does j (pm_n (g 0)) f g gq gc).2.2)
theorem pp_rx0 {n : Nat} {x y a b : Int32} {r q rm dr : Nat → Int32} (h1 : x = a) (h2 : y = b) : d_X7_ref 0 x y n r = d_X7_ref 0 a b n r ∧ d_X7_do 0 x y n r q rm dr = d_X7_do 0 a b n r q rm dr := by
  subst h1
  subst h2
  exact ⟨rfl, rfl⟩
theorem pp_rx1 {n : Nat} {x y a b : Int32} {r q rm dr : Nat → Int32} (h1 : x = a) : d_X7_ref 1 x y n r = d_X7_ref 1 a b n r ∧ d_X7_do 1 x y n r q rm dr = d_X7_do 1 a b n r q rm dr := by
  subst h1
  refine ⟨?_, ?_⟩
  · simp only [d_X7_ref, d_X7_refusal1]
  · simp only [d_X7_do, d_X7_do1]
theorem pp_rx2 {n : Nat} {x y a b : Int32} {r q rm dr : Nat → Int32} (h1 : x = a) : d_X7_ref 2 x y n r = d_X7_ref 2 a b n r ∧ d_X7_do 2 x y n r q rm dr = d_X7_do 2 a b n r q rm dr := by
  subst h1
  refine ⟨?_, ?_⟩
  · simp only [d_X7_ref, d_X7_refusal2]
  · simp only [d_X7_do, d_X7_do2]
theorem pp_rx3 {n : Nat} {x y a b : Int32} {r q rm dr : Nat → Int32} (h1 : x = a) (h2 : y = b) : d_X7_ref 3 x y n r = d_X7_ref 3 a b n r ∧ d_X7_do 3 x y n r q rm dr = d_X7_do 3 a b n r q rm dr := by
  subst h1
  subst h2
  exact ⟨rfl, rfl⟩
theorem pp_rx4 {n : Nat} {x y a b : Int32} {r q rm dr : Nat → Int32} (h1 : x = a) : d_X7_ref 4 x y n r = d_X7_ref 4 a b n r ∧ d_X7_do 4 x y n r q rm dr = d_X7_do 4 a b n r q rm dr := by
  subst h1
  refine ⟨?_, ?_⟩
  · simp only [d_X7_ref, d_X7_refusal4]
  · simp only [d_X7_do, d_X7_do4]
theorem pp_rx5 {n : Nat} {x y a b : Int32} {r q rm dr : Nat → Int32} : d_X7_ref 5 x y n r = d_X7_ref 5 a b n r ∧ d_X7_do 5 x y n r q rm dr = d_X7_do 5 a b n r q rm dr := by
  refine ⟨?_, ?_⟩
  · simp only [d_X7_ref, d_X7_refusal5]
  · simp only [d_X7_do, d_X7_do5]
theorem pp_rx6 {n : Nat} {x y a b : Int32} {r q rm dr : Nat → Int32} (h1 : x = a) (h2 : y = b) : d_X7_ref 6 x y n r = d_X7_ref 6 a b n r ∧ d_X7_do 6 x y n r q rm dr = d_X7_do 6 a b n r q rm dr := by
  subst h1
  subst h2
  exact ⟨rfl, rfl⟩
theorem pp_rx7 {n : Nat} {x y a b : Int32} {r q rm dr : Nat → Int32} (h1 : x = a) (h2 : y = b) : d_X7_ref 7 x y n r = d_X7_ref 7 a b n r ∧ d_X7_do 7 x y n r q rm dr = d_X7_do 7 a b n r q rm dr := by
  subst h1
  subst h2
  exact ⟨rfl, rfl⟩
theorem pp_rx8 {n : Nat} {x y a b : Int32} {r q rm dr : Nat → Int32} (h1 : x = a) : d_X7_ref 8 x y n r = d_X7_ref 8 a b n r ∧ d_X7_do 8 x y n r q rm dr = d_X7_do 8 a b n r q rm dr := by
  subst h1
  refine ⟨?_, ?_⟩
  · simp only [d_X7_ref, d_X7_refusal8]
  · simp only [d_X7_do, d_X7_do8]
theorem pp_rx9 {n : Nat} {x y a b : Int32} {r q rm dr : Nat → Int32} (h1 : x = a) : d_X7_ref 9 x y n r = d_X7_ref 9 a b n r ∧ d_X7_do 9 x y n r q rm dr = d_X7_do 9 a b n r q rm dr := by
  subst h1
  refine ⟨?_, ?_⟩
  · simp only [d_X7_ref, d_X7_refusal9]
  · simp only [d_X7_do, d_X7_do9]
theorem pp_rx10 {n : Nat} {x y a b : Int32} {r q rm dr : Nat → Int32} (h1 : x = a) : d_X7_ref 10 x y n r = d_X7_ref 10 a b n r ∧ d_X7_do 10 x y n r q rm dr = d_X7_do 10 a b n r q rm dr := by
  subst h1
  refine ⟨?_, ?_⟩
  · simp only [d_X7_ref, d_X7_refusal10]
  · simp only [d_X7_do, d_X7_do10]
theorem pp_rx {c n : Nat} {x y a b : Int32} {r q rm dr : Nat → Int32} (hc : c < 11) (h1 : ¬ pp_k1 c = 0 → x = a) (h2 : ¬ pp_k2 c = 0 → y = b) : d_X7_ref c x y n r = d_X7_ref c a b n r ∧ d_X7_do c x y n r q rm dr = d_X7_do c a b n r q rm dr := by
  rcases (show c = 0 ∨ c = 1 ∨ c = 2 ∨ c = 3 ∨ c = 4 ∨ c = 5 ∨ c = 6 ∨ c = 7 ∨ c = 8 ∨ c = 9 ∨ c = 10 by omega) with rfl | rfl | rfl | rfl | rfl | rfl | rfl | rfl | rfl | rfl | rfl
  · exact pp_rx0 (h1 (by decide)) (h2 (by decide))
  · exact pp_rx1 (h1 (by decide))
  · exact pp_rx2 (h1 (by decide))
  · exact pp_rx3 (h1 (by decide)) (h2 (by decide))
  · exact pp_rx4 (h1 (by decide))
  · exact pp_rx5
  · exact pp_rx6 (h1 (by decide)) (h2 (by decide))
  · exact pp_rx7 (h1 (by decide)) (h2 (by decide))
  · exact pp_rx8 (h1 (by decide))
  · exact pp_rx9 (h1 (by decide))
  · exact pp_rx10 (h1 (by decide))
/-- one command, done by both -/
theorem pp_st {B j n : Nat} {fs sd cc gc r q rm dr f g gq : Nat → Int32} (hcq : pp_cq fs sd cc gc j) (hRS : pm_RS n r g) (hI : pm_I B n r) :
    ((d_X7_ref (pm_n (cc j)) (fs j) (sd j) (pm_n (r 0)) r).1 = 0 ∧ (∀ x, x ≠ 13 → (d_X13_does j (pm_n (g 0)) f g gq gc).1 x = f x) ∧ ∃ n', pm_RS n' (d_X7_do (pm_n (cc j)) (fs j) (sd j) (pm_n (r 0)) r q rm dr).2.1 (d_X13_does j (pm_n (g 0)) f g gq gc).2.1 ∧ pm_I (B + 693) n' (d_X7_do (pm_n (cc j)) (fs j) (sd j) (pm_n (r 0)) r q rm dr).2.1) ∨
    (¬ (d_X7_ref (pm_n (cc j)) (fs j) (sd j) (pm_n (r 0)) r).1 = 0 ∧ (∀ x, x ≠ 6 → x ≠ 7 → x ≠ 8 → (d_X13_does j (pm_n (g 0)) f g gq gc).1 x = f x) ∧ ¬ (d_X13_does j (pm_n (g 0)) f g gq gc).1 6 ≤ 0 ∧
      ((((d_X7_ref (pm_n (cc j)) (fs j) (sd j) (pm_n (r 0)) r).1 = -1 ∨ (d_X7_ref (pm_n (cc j)) (fs j) (sd j) (pm_n (r 0)) r).1 = -2) ∧ (d_X13_does j (pm_n (g 0)) f g gq gc).1 7 = f 7) ∨ (0 < (d_X7_ref (pm_n (cc j)) (fs j) (sd j) (pm_n (r 0)) r).1 ∧ (d_X13_does j (pm_n (g 0)) f g gq gc).1 7 = (d_X7_ref (pm_n (cc j)) (fs j) (sd j) (pm_n (r 0)) r).1))) := by
  obtain ⟨c, hc, a1, a2, a3, a4⟩ := hcq
  have h7 := hI.1.2.1
  have er : pm_n (r 0) = n := by rw [hI.1.1]; exact pm_n_nI (by omega)
  have eg : pm_n (g 0) = n := by rw [hRS.1.1, hI.1.1]; exact pm_n_nI (by omega)
  have ec : pm_n (cc j) = c := by rw [a1]; exact pm_n_nI (by omega)
  obtain ⟨x1, x2⟩ := pp_rx (n := n) (r := r) (q := q) (rm := rm) (dr := dr) hc a3 a4
  rw [er, eg, ec, x1, x2, pp_dE hc a2]
  have hE := pm_eqc (B := B) (n := n) (x := gc (3 * j + 1)) (y := gc (3 * j + 2)) (q := q) (rm := rm) (dr := dr) (f := f) (gq := gq) hc hRS hI
  rcases hE with ⟨e0, _, e2, e3⟩ | ⟨e0, e1⟩ | ⟨e0, e1⟩
  · exact Or.inl ⟨e0, e2, e3⟩
  · refine Or.inr ⟨fun e => by rw [e] at e0; rcases e0 with e0 | e0 <;> exact absurd e0 (by decide), ?_, ?_, Or.inl ⟨e0, ?_⟩⟩
    · rw [e1]; exact fun x h6 _ _ => pk_un h6
    · rw [e1]
      dsimp only
      rw [pk_us]; exact pm_pl_ne.2
    · rw [e1]
      exact (pk_un (by decide) : upd f 6 (pm_pl c (d_X7_ref c (gc (3 * j + 1)) (gc (3 * j + 2)) n r).1) 7 = f 7)
  · refine Or.inr ⟨fun e => by rw [e] at e0; exact absurd e0 (by decide), ?_, ?_, Or.inr ⟨e0, ?_⟩⟩
    · rw [e1]; exact fun x h6 h7 h8 => (pk_un h6).trans ((pk_un h8).trans (pk_un h7))
    · rw [e1]
      dsimp only
      rw [pk_us]; exact pm_pl_ne.2
    · rw [e1]
      dsimp only
      simp (disch := omega) only [pk_us, pk_un]
theorem pp_rnE {m : Nat} {fs sd cc gc : Nat → Int32} (hcq : ∀ i, i < m → pp_cq fs sd cc gc i) : ∀ (k j B n : Nat) (r q rm dr f g gq : Nat → Int32), j + k = m → pm_RS n r g → pm_I B n r → f 6 = 0 → f 7 = 0 →
    ((pp_rn gc k j f g gq).1 = 0 ∧ (pp_rn gc k j f g gq).2.1 = m ∧ (d_X9_run_L1 fs sd cc (fun r_1 q_1 rm_1 dr_1 => ((0, 0), 0, r_1, q_1, rm_1, dr_1)) k j r q rm dr).1.1 = 0 ∧ (∀ x, x ≠ 13 → (pp_rn gc k j f g gq).2.2.1 x = f x) ∧ ∃ n', pm_RS n' (d_X9_run_L1 fs sd cc (fun r_1 q_1 rm_1 dr_1 => ((0, 0), 0, r_1, q_1, rm_1, dr_1)) k j r q rm dr).2.2.1 (pp_rn gc k j f g gq).2.2.2.1 ∧ pm_I (B + 693 * k) n' (d_X9_run_L1 fs sd cc (fun r_1 q_1 rm_1 dr_1 => ((0, 0), 0, r_1, q_1, rm_1, dr_1)) k j r q rm dr).2.2.1) ∨
    ((pp_rn gc k j f g gq).1 = 1 ∧ (pp_rn gc k j f g gq).2.1 < m ∧ ¬ (d_X9_run_L1 fs sd cc (fun r_1 q_1 rm_1 dr_1 => ((0, 0), 0, r_1, q_1, rm_1, dr_1)) k j r q rm dr).1.1 = 0 ∧ (d_X9_run_L1 fs sd cc (fun r_1 q_1 rm_1 dr_1 => ((0, 0), 0, r_1, q_1, rm_1, dr_1)) k j r q rm dr).2.1 = nI (pp_rn gc k j f g gq).2.1 ∧ (∀ x, x ≠ 6 → x ≠ 7 → x ≠ 8 → x ≠ 13 → (pp_rn gc k j f g gq).2.2.1 x = f x) ∧
      (if (pp_rn gc k j f g gq).2.2.1 7 ≤ 0 then (9 : Int32) else (pp_rn gc k j f g gq).2.2.1 7) = (if (d_X9_run_L1 fs sd cc (fun r_1 q_1 rm_1 dr_1 => ((0, 0), 0, r_1, q_1, rm_1, dr_1)) k j r q rm dr).1.1 ≤ 0 then 9 else (d_X9_run_L1 fs sd cc (fun r_1 q_1 rm_1 dr_1 => ((0, 0), 0, r_1, q_1, rm_1, dr_1)) k j r q rm dr).1.1)) := by
  intro k
  induction k with
  | zero =>
    intro j B n r q rm dr f g gq hj hRS hI h6 h7
    exact Or.inl ⟨rfl, hj, rfl, fun _ _ => rfl, n, hRS, hI⟩
  | succ k ih =>
    intro j B n r q rm dr f g gq hj hRS hI h6 h7
    rw [pp_rn, d_X9_run_L1]
    rcases pp_st (f := f) (gq := gq) (q := q) (rm := rm) (dr := dr) (hcq j (by omega)) hRS hI with ⟨s0, s1, n', s2, s3⟩ | ⟨s0, s1, s2, s3⟩
    · rw [if_pos (by rw [s1 6 (by decide), h6]; decide), if_pos s0]
      rcases ih (j + 1) (B + 693) n' _ (d_X7_do (pm_n (cc j)) (fs j) (sd j) (pm_n (r 0)) r q rm dr).2.2.1 (d_X7_do (pm_n (cc j)) (fs j) (sd j) (pm_n (r 0)) r q rm dr).2.2.2.1 (d_X7_do (pm_n (cc j)) (fs j) (sd j) (pm_n (r 0)) r q rm dr).2.2.2.2 (d_X13_does j (pm_n (g 0)) f g gq gc).1 _ (d_X13_does j (pm_n (g 0)) f g gq gc).2.2 (by omega) s2 s3 ((s1 6 (by decide)).trans h6) ((s1 7 (by decide)).trans h7) with ⟨i1, i2, i3, i4, n2, i5, i6⟩ | ⟨i1, i2, i3, i4, i5, i6⟩
      · refine Or.inl ⟨i1, i2, i3, fun x hx => (i4 x hx).trans (s1 x hx), n2, i5, ?_⟩
        rw [show B + 693 * (k + 1) = B + 693 + 693 * k by omega]
        exact i6
      · exact Or.inr ⟨i1, i2, i3, i4, fun x a b c d => (i5 x a b c d).trans (s1 x d), i6⟩
    · rw [if_neg s2, if_neg s0]
      refine Or.inr ⟨rfl, (by show j < m; omega), s0, rfl, fun x a b c d => s1 x a b c, ?_⟩
      rcases s3 with ⟨e, e7⟩ | ⟨e, e7⟩
      · show (if (d_X13_does j (pm_n (g 0)) f g gq gc).1 7 ≤ 0 then (9 : Int32) else (d_X13_does j (pm_n (g 0)) f g gq gc).1 7) = (if (d_X7_ref (pm_n (cc j)) (fs j) (sd j) (pm_n (r 0)) r).1 ≤ 0 then 9 else (d_X7_ref (pm_n (cc j)) (fs j) (sd j) (pm_n (r 0)) r).1)
        rw [e7, h7, if_pos (by decide), if_pos (by rcases e with e | e <;> rw [e] <;> decide)]
      · show (if (d_X13_does j (pm_n (g 0)) f g gq gc).1 7 ≤ 0 then (9 : Int32) else (d_X13_does j (pm_n (g 0)) f g gq gc).1 7) = (if (d_X7_ref (pm_n (cc j)) (fs j) (sd j) (pm_n (r 0)) r).1 ≤ 0 then 9 else (d_X7_ref (pm_n (cc j)) (fs j) (sd j) (pm_n (r 0)) r).1)
        rw [e7]
