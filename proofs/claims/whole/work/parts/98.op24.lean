/-! the reference's execute, walked -/
def pm_frm (M M' : pm_M) : Prop := ∀ a, a < 140 ∨ 148 < a → M' a = M a
theorem pm_frm_u {M : pm_M} {k : Nat} {v : va_E} (h : 140 ≤ k ∧ k ≤ 148) : pm_frm M (pm_up M k v) := fun a ha => pm_up_n (by omega)
theorem pm_frm_t {M M1 M2 : pm_M} (h1 : pm_frm M M1) (h2 : pm_frm M1 M2) : pm_frm M M2 := fun a ha => (h2 a ha).trans (h1 a ha)
/-- the memory that is the same but for the reference's cells -/
def pp_cm (z : Nat) (kA : Nat → ClassId) (M : pm_M) (h : pm_Ms) : pm_M := fun a => if a = 140 then some (pm_mo z 140 h.1) else if a = 141 then some (.inl (kA 0, 91, .inl (h.2 1))) else if a = 142 then some (.inl (kA 0, 91, .inl (h.2 2))) else if a = 143 then some (.inl (kA 0, 91, .inl (h.2 3))) else if a = 144 then some (.inl (kA 0, 728, .inl (h.2 4))) else if a = 145 then some (.inl (kA 0, 7, .inl (h.2 5))) else if a = 146 then some (.inl (kA 3, 60, .inl (h.2 6))) else if a = 147 then some (.inl (kA 0, 180, .inl (h.2 7))) else if a = 148 then some (.inl (kA 3, 30, .inl (h.2 8))) else M a
theorem pm_cnE {z : Nat} {kA : Nat → ClassId} {M M' : pm_M} {h : pm_Ms} (hT : pm_TM z kA M' h) (hF : pm_frm M M') : M' = pp_cm z kA M h := by
  obtain ⟨h0, h1, h2, h3, h4, h5, h6, h7, h8⟩ := hT
  funext a
  unfold pp_cm
  by_cases e0 : a = 140
  · rw [if_pos e0, e0]; exact h0
  rw [if_neg e0]
  by_cases e1 : a = 141
  · rw [if_pos e1, e1]; exact h1
  rw [if_neg e1]
  by_cases e2 : a = 142
  · rw [if_pos e2, e2]; exact h2
  rw [if_neg e2]
  by_cases e3 : a = 143
  · rw [if_pos e3, e3]; exact h3
  rw [if_neg e3]
  by_cases e4 : a = 144
  · rw [if_pos e4, e4]; exact h4
  rw [if_neg e4]
  by_cases e5 : a = 145
  · rw [if_pos e5, e5]; exact h5
  rw [if_neg e5]
  by_cases e6 : a = 146
  · rw [if_pos e6, e6]; exact h6
  rw [if_neg e6]
  by_cases e7 : a = 147
  · rw [if_pos e7, e7]; exact h7
  rw [if_neg e7]
  by_cases e8 : a = 148
  · rw [if_pos e8, e8]; exact h8
  rw [if_neg e8]
  exact hF a (by omega)
theorem pm_cnT {z : Nat} {kA : Nat → ClassId} {M : pm_M} {h : pm_Ms} : pm_TM z kA (pp_cm z kA M h) h := ⟨rfl, rfl, rfl, rfl, rfl, rfl, rfl, rfl, rfl⟩
theorem pm_cnF {z : Nat} {kA : Nat → ClassId} {M : pm_M} {h : pm_Ms} : pm_frm M (pp_cm z kA M h) := by
  intro a ha
  unfold pp_cm
  rw [if_neg (by omega), if_neg (by omega), if_neg (by omega), if_neg (by omega), if_neg (by omega), if_neg (by omega), if_neg (by omega), if_neg (by omega), if_neg (by omega)]
def pp_hr (h : pm_Ms) (e : (Nat → Int32) × (Nat → Int32)) : pm_Ms := pm_hk (pm_hf h e.1) 7 e.2
def pp_h3 (h : pm_Ms) (f g gq : Nat → Int32) : pm_Ms := pm_hk (pm_hk (pm_hf h f) 1 g) 5 gq
/-- what is the reference's alone: some class's row stands beside it -/
def pm_gI (g : Nat → Int32) : Prop := ∃ B n r, pm_RS n r g ∧ pm_I B n r
theorem pm_gI_n {g : Nat → Int32} (h : pm_gI g) : g 0 = nI (pm_n (g 0)) ∧ pm_n (g 0) ≤ 7 ∧ (g 2 = nI (pm_n (g 2)) ∧ pm_n (g 2) < 1024) ∧ ∀ x, ¬ pm_in x 0 300 = 0 → ∀ f gq, pm_apOK x (g 1) (pm_n (g 0)) f g gq := by
  obtain ⟨B, n, r, hRS, hI⟩ := h
  have h7 := hI.1.2.1
  have e0 : g 0 = nI n := hRS.1.1.trans hI.1.1
  have en : pm_n (g 0) = n := by rw [e0]; exact pm_n_nI (by omega)
  rw [en]
  refine ⟨e0, h7, by rw [hRS.1.2.2.1]; exact hI.1.2.2.2.1, fun x hz f gq => ?_⟩
  obtain ⟨T, hTe, _, hT3⟩ := pm_inR (lo := 0) (hi := 300) (by decide) (by decide) hz
  rw [hTe]
  exact (pm_apEq (q := fun _ => 0) (rm := fun _ => 0) hI.2.1 hRS.2.1 h7 hT3 (by rw [hRS.1.2.1]; exact hI.1.2.2.1)).2
theorem pm_gI_s {c j : Nat} {f g gq gc : Nat → Int32} (hc : c < 11) (hk : gc (3 * j) = nI (pp_ch c)) (h : pm_gI g) : ((d_X13_does j (pm_n (g 0)) f g gq gc).1 5 = f 5 ∧ (d_X13_does j (pm_n (g 0)) f g gq gc).1 20 = f 20) ∧ (f 6 = 0 → f 7 = 0 → (d_X13_does j (pm_n (g 0)) f g gq gc).1 6 ≤ 0 → pm_gI (d_X13_does j (pm_n (g 0)) f g gq gc).2.1 ∧ (d_X13_does j (pm_n (g 0)) f g gq gc).1 6 = 0 ∧ (d_X13_does j (pm_n (g 0)) f g gq gc).1 7 = 0) := by
  obtain ⟨B, n, r, hRS, hI⟩ := h
  have h7 := hI.1.2.1
  have en : pm_n (g 0) = n := by rw [hRS.1.1, hI.1.1]; exact pm_n_nI (by omega)
  have er : pm_n (r 0) = n := by rw [hI.1.1]; exact pm_n_nI (by omega)
  have hcq : pp_cq (fun i => gc (3 * i + 1)) (fun i => gc (3 * i + 2)) (fun _ => nI c) gc j := ⟨c, hc, rfl, hk, fun _ => rfl, fun _ => rfl⟩
  rcases pp_st (f := f) (gq := gq) (q := fun _ => 0) (rm := fun _ => 0) (dr := fun _ => 0) hcq hRS hI with ⟨_, s1, n', s2, s3⟩ | ⟨_, s1, s2, _⟩
  · exact ⟨⟨s1 5 (by decide), s1 20 (by decide)⟩, fun h6 h7 _ => ⟨⟨_, n', _, s2, s3⟩, (s1 6 (by decide)).trans h6, (s1 7 (by decide)).trans h7⟩⟩
  · exact ⟨⟨s1 5 (by decide) (by decide) (by decide), s1 20 (by decide) (by decide) (by decide)⟩, fun _ _ h => absurd h s2⟩
section PEX
variable {l : Launch} {z : Nat} {D : va_G} {kA : Nat → ClassId} {kE : Nat → Nat} {X : pm_X} {Q : State → Prop} {nx : Nat} {M : pm_M} {h : pm_Ms} {t : Nat}
theorem pp_TM_ff {v0 v : Nat → Int32} (hT : pm_TM z kA M (pm_hf h v0)) : pm_TM z kA (pm_up M 140 (pm_mo z 140 v)) (pm_hf h v) := by
  have h1 := pm_TM_f (v := v) hT
  exact h1
theorem pp_x0 (B : pm_B l z D kA kE RX13 cX13_execute 3 (some .int) "execute" [] 7 0 0 X) (hT : pm_TM z kA M h) (ht : t ≤ 60) (h15 : h.1 15 = nI t)
    (k : ∀ M', pm_TM z kA M' (pp_hr h (d_X13_readsCommand 0 t (upd (upd (upd h.1 16 0) 17 0) 20 0) (h.2 6) (h.2 7))) → pm_frm M M' → pm_G l z D X 0 0 Q nx M' 19 [some (.ref (z + 140)), none, none] []) : pm_G l z D X 0 0 Q nx M 0 [some (.ref (z + 140)), none, none] [] := by
  have htx : pm_tx t (upd (upd (upd h.1 16 0) 17 0) 20 0) := by
    unfold pm_tx
    simp (disch := omega) only [pk_us, pk_un]
    exact ⟨by decide, by rw [show pm_n 0 = 0 from rfl]; omega, h15, Or.inl trivial⟩
  refine pm_aload_n B dX13_execute_0 rfl ?_
  refine pm_iconst (v := 0) B dX13_execute_1 (by decide) ?_
  refine pm_put B dX13_execute_2 fs_X13_208 hT.1 rfl rfl rfl ?_
  refine pm_mem (M' := pm_up M 140 (pm_mo z 140 (upd h.1 16 0))) rfl ?_
  refine pm_aload_n B dX13_execute_5 rfl ?_
  refine pm_iconst (v := 0) B dX13_execute_6 (by decide) ?_
  refine pm_put B dX13_execute_7 fs_X13_215 pm_up_s rfl rfl rfl ?_
  refine pm_mem (M' := pm_up M 140 (pm_mo z 140 (upd (upd h.1 16 0) 17 0))) pm_up_up ?_
  refine pm_aload_n B dX13_execute_10 rfl ?_
  refine pm_iconst (v := 0) B dX13_execute_11 (by decide) ?_
  refine pm_put B dX13_execute_12 fs_X13_230 pm_up_s rfl rfl rfl ?_
  refine pm_mem (M' := pm_up M 140 (pm_mo z 140 (upd (upd (upd h.1 16 0) 17 0) 20 0))) pm_up_up ?_
  have hT3 := pm_TM_f (v := upd (upd (upd h.1 16 0) 17 0) 20 0) hT
  refine pm_aload_n B dX13_execute_15 rfl ?_
  refine pm_cV (As := []) (mc2 := 0) (ms2 := 0) B rfl hT3.1 rfl (c_X13_readsCommand (cm := 0) (t := t) (gt := h.2 6) (gc := h.2 7) hT3.1 hT3.2.2.2.2.2.2.1 hT3.2.2.2.2.2.2.2.1 htx ht (show upd (upd (upd h.1 16 0) 17 0) 20 0 20 = nI 0 from pk_us) (by decide)) mt_X13_readsCommand sv_X13_275 dX13_execute_16 rfl rfl rfl rfl rfl ?_
  refine pm_stk (st' := []) rfl ?_
  exact k _ (pm_TM_7 (pp_TM_ff hT3)) (pm_frm_t (pm_frm_u (by decide)) (pm_frm_t (pm_frm_u (by decide)) (pm_frm_u (by decide))))
theorem pp_hr2 {e e2 : (Nat → Int32) × (Nat → Int32)} : pp_hr (pp_hr h e) e2 = pp_hr h e2 := by
  refine Prod.ext rfl ?_
  funext j
  show (if j = 7 then e2.2 else if j = 7 then e.2 else h.2 j) = if j = 7 then e2.2 else h.2 j
  by_cases hj : j = 7
  · rw [if_pos hj, if_pos hj]
  · rw [if_neg hj, if_neg hj, if_neg hj]
theorem pp_hr0 : pp_hr h (h.1, h.2 7) = h := by
  refine Prod.ext rfl ?_
  funext j
  show (if j = 7 then h.2 7 else h.2 j) = h.2 j
  by_cases hj : j = 7
  · rw [if_pos hj, hj]
  · rw [if_neg hj]
theorem pp_xL (B : pm_B l z D kA kE RX13 cX13_execute 3 (some .int) "execute" [] 7 0 0 X) (ht : t ≤ 60) : ∀ (k : Nat) (M : pm_M) (h : pm_Ms), pm_TM z kA M h → pm_tx t h.1 → h.1 20 = nI (pm_n (h.1 20)) → pm_n (h.1 20) + k < 60 → ¬ pp_go t (h.2 6) (pp_rl t (h.2 6) k h.1 (h.2 7)).1 →
    (∀ M', pm_TM z kA M' (pp_hr h (pp_rl t (h.2 6) k h.1 (h.2 7))) → pm_frm M M' → pm_G l z D X 0 0 Q nx M' 53 [some (.ref (z + 140)), none, none] []) → pm_G l z D X 0 0 Q nx M 19 [some (.ref (z + 140)), none, none] [] := by
  intro k
  induction k with
  | zero =>
    intro M h hT htx h20 hk hgo next
    have hn := next M (by
      show pm_TM z kA M (pp_hr h (h.1, h.2 7))
      rw [pp_hr0]; exact hT) (fun _ _ => rfl)
    refine pm_aload_n B dX13_execute_19 rfl ?_
    refine pm_get B dX13_execute_20 fl_X13_215 hT.1 rfl ?_
    refine pm_if_ne (tgt := 53) B dX13_execute_23 (by decide) (fun _ => hn) (fun h17 => ?_)
    refine pm_aload_n B dX13_execute_26 rfl ?_
    refine pm_iconst (v := 0) B dX13_execute_27 (by decide) ?_
    refine pm_cV (As := [.int (nI 0)]) (mc2 := 0) (ms2 := 0) B rfl hT.1 rfl (c_X13_behind (w := 0) (t := t) (gt := h.2 6) hT.1 hT.2.2.2.2.2.2.1 htx ht (by decide)) mt_X13_behind sv_X13_219 dX13_execute_28 rfl rfl rfl rfl rfl ?_
    refine pm_stk (st' := [.int (d_X13_behind 0 t h.1 (h.2 6))]) rfl ?_
    refine pm_bipush (v := 59) B dX13_execute_31 (by decide) ?_
    refine pm_icmp_ne (tgt := 53) B dX13_execute_33 (by decide) (fun _ => hn) (fun h59 => ?_)
    exact absurd ⟨h17, h59⟩ hgo
  | succ k ih =>
    intro M h hT htx h20 hk hgo next
    by_cases hg : pp_go t (h.2 6) h.1
    · obtain ⟨g17, g59⟩ := hg
      have hlt := d_X13_behind_lt htx ht (by decide) (c := 59) (by decide) g59
      have e : pp_rl t (h.2 6) (k + 1) h.1 (h.2 7) = pp_rl t (h.2 6) k (d_X13_readsCommand (pm_n (h.1 20)) t (upd h.1 16 (nI (pm_n (h.1 16) + 1))) (h.2 6) (h.2 7)).1 (d_X13_readsCommand (pm_n (h.1 20)) t (upd h.1 16 (nI (pm_n (h.1 16) + 1))) (h.2 6) (h.2 7)).2 := by
        rw [pp_rl, if_pos g17, if_pos g59]
      rw [e] at hgo next
      refine pm_aload_n B dX13_execute_19 rfl ?_
      refine pm_get B dX13_execute_20 fl_X13_215 hT.1 rfl ?_
      refine pm_if_ne (tgt := 53) B dX13_execute_23 (by decide) (fun h17 => absurd g17 h17) (fun h17 => ?_)
      refine pm_aload_n B dX13_execute_26 rfl ?_
      refine pm_iconst (v := 0) B dX13_execute_27 (by decide) ?_
      refine pm_cV (As := [.int (nI 0)]) (mc2 := 0) (ms2 := 0) B rfl hT.1 rfl (c_X13_behind (w := 0) (t := t) (gt := h.2 6) hT.1 hT.2.2.2.2.2.2.1 htx ht (by decide)) mt_X13_behind sv_X13_219 dX13_execute_28 rfl rfl rfl rfl rfl ?_
      refine pm_stk (st' := [.int (d_X13_behind 0 t h.1 (h.2 6))]) rfl ?_
      refine pm_bipush (v := 59) B dX13_execute_31 (by decide) ?_
      refine pm_icmp_ne (tgt := 53) B dX13_execute_33 (by decide) (fun h59 => absurd g59 h59) (fun h59 => ?_)
      refine pm_aload_n B dX13_execute_36 rfl ?_
      refine pm_dup B dX13_execute_37 rfl ?_
      refine pm_get B dX13_execute_38 fl_X13_208 hT.1 rfl ?_
      refine pm_iconst (v := 1) B dX13_execute_41 (by decide) ?_
      refine pm_iadd B dX13_execute_42 ?_
      refine pm_stk (st' := [.int (nI (pm_n (h.1 16) + 1)), .ref (z + 140)]) (by rw [show h.1 16 + 1 = nI (pm_n (h.1 16) + 1) from (congrArg (fun y : Int32 => y + 1) htx.1).trans (nI_1 _)]) ?_
      refine pm_put B dX13_execute_43 fs_X13_208 hT.1 rfl rfl rfl ?_
      refine pm_mem (M' := pm_up M 140 (pm_mo z 140 (upd h.1 16 (nI (pm_n (h.1 16) + 1))))) rfl ?_
      have hT3 := pm_TM_f (v := upd h.1 16 (nI (pm_n (h.1 16) + 1))) hT
      have htx3 : pm_tx t (upd h.1 16 (nI (pm_n (h.1 16) + 1))) := pm_tx_16 htx ht (by omega)
      have h203 : upd h.1 16 (nI (pm_n (h.1 16) + 1)) 20 = nI (pm_n (h.1 20)) := (pk_un (by decide)).trans h20
      refine pm_aload_n B dX13_execute_46 rfl ?_
      refine pm_cV (As := []) (mc2 := 0) (ms2 := 0) B rfl hT3.1 rfl (c_X13_readsCommand (cm := pm_n (h.1 20)) (t := t) (gt := h.2 6) (gc := h.2 7) hT3.1 hT3.2.2.2.2.2.2.1 hT3.2.2.2.2.2.2.2.1 htx3 ht h203 (by omega)) mt_X13_readsCommand sv_X13_275 dX13_execute_47 rfl rfl rfl rfl rfl ?_
      refine pm_stk (st' := []) rfl ?_
      refine pm_goto (tgt := 19) B dX13_execute_50 (by decide) ?_
      have hT4 := pm_TM_7 (v := (d_X13_readsCommand (pm_n (h.1 20)) t (upd h.1 16 (nI (pm_n (h.1 16) + 1))) (h.2 6) (h.2 7)).2) (pm_TM_f (v := (d_X13_readsCommand (pm_n (h.1 20)) t (upd h.1 16 (nI (pm_n (h.1 16) + 1))) (h.2 6) (h.2 7)).1) hT3)
      obtain ⟨tx4, t20⟩ := pp_tx (gt := h.2 6) (gc := h.2 7) (cm := pm_n (h.1 20)) ht htx3 ((pk_un (by decide)).trans g17)
      have n20 : pm_n ((d_X13_readsCommand (pm_n (h.1 20)) t (upd h.1 16 (nI (pm_n (h.1 16) + 1))) (h.2 6) (h.2 7)).1 20) = pm_n (h.1 20) + 1 := by rw [t20]; exact pm_n_nI (by omega)
      have hF : pm_frm M (pm_up (pm_up (pm_up M 140 (pm_mo z 140 (upd h.1 16 (nI (pm_n (h.1 16) + 1))))) 140 (pm_mo z 140 (d_X13_readsCommand (pm_n (h.1 20)) t (upd h.1 16 (nI (pm_n (h.1 16) + 1))) (h.2 6) (h.2 7)).1)) (140 + 7) (.inl (kA 0, 180, .inl (d_X13_readsCommand (pm_n (h.1 20)) t (upd h.1 16 (nI (pm_n (h.1 16) + 1))) (h.2 6) (h.2 7)).2))) := pm_frm_t (pm_frm_u (by decide)) (pm_frm_t (pm_frm_u (by decide)) (pm_frm_u (by decide)))
      refine ih _ (pp_hr h (d_X13_readsCommand (pm_n (h.1 20)) t (upd h.1 16 (nI (pm_n (h.1 16) + 1))) (h.2 6) (h.2 7))) hT4 tx4 ?_ ?_ hgo (fun M' hM' hF' => next M' ?_ (pm_frm_t hF hF'))
      · show (d_X13_readsCommand _ _ _ _ _).1 20 = nI (pm_n ((d_X13_readsCommand _ _ _ _ _).1 20))
        rw [n20, t20]
      · show pm_n ((d_X13_readsCommand _ _ _ _ _).1 20) + k < 60
        rw [n20]; omega
      · rw [pp_hr2] at hM'
        exact hM'
    · have hn := next M (by
        rw [pp_rlN hg, pp_hr0]; exact hT) (fun _ _ => rfl)
      refine pm_aload_n B dX13_execute_19 rfl ?_
      refine pm_get B dX13_execute_20 fl_X13_215 hT.1 rfl ?_
      refine pm_if_ne (tgt := 53) B dX13_execute_23 (by decide) (fun _ => hn) (fun h17 => ?_)
      refine pm_aload_n B dX13_execute_26 rfl ?_
      refine pm_iconst (v := 0) B dX13_execute_27 (by decide) ?_
      refine pm_cV (As := [.int (nI 0)]) (mc2 := 0) (ms2 := 0) B rfl hT.1 rfl (c_X13_behind (w := 0) (t := t) (gt := h.2 6) hT.1 hT.2.2.2.2.2.2.1 htx ht (by decide)) mt_X13_behind sv_X13_219 dX13_execute_28 rfl rfl rfl rfl rfl ?_
      refine pm_stk (st' := [.int (d_X13_behind 0 t h.1 (h.2 6))]) rfl ?_
      refine pm_bipush (v := 59) B dX13_execute_31 (by decide) ?_
      refine pm_icmp_ne (tgt := 53) B dX13_execute_33 (by decide) (fun _ => hn) (fun h59 => ?_)
      exact absurd ⟨h17, h59⟩ hg
/-- behind the reading: wrong -/
theorem pp_xW (B : pm_B l z D kA kE RX13 cX13_execute 3 (some .int) "execute" [] 7 0 0 X) {M0 : pm_M} {h2 : pm_Ms} (hQ : Q = pm_Q z D (pm_rt (some (.int 0)) nx (pp_cm z kA M0 h2)) 0 0 X) (hF : pm_frm M0 M) (hT : pm_TM z kA M h) (e2 : h2 = pm_hf h (upd (upd (upd (upd h.1 17 1) 18 (h.1 16)) 15 0) 6 1)) : pm_G l z D X 0 0 Q nx M 72 [some (.ref (z + 140)), none, none] [.ref (z + 140)] := by
  subst hQ
  refine pm_iconst (v := 1) B dX13_execute_72 (by decide) ?_
  refine pm_goto (tgt := 77) B dX13_execute_73 (by decide) ?_
  refine pm_put B dX13_execute_77 fs_X13_215 hT.1 rfl rfl rfl ?_
  refine pm_mem (M' := pm_up M 140 (pm_mo z 140 (upd h.1 17 1))) rfl ?_
  refine pm_aload_n B dX13_execute_80 rfl ?_
  refine pm_aload_n B dX13_execute_81 rfl ?_
  refine pm_get B dX13_execute_82 fl_X13_215 pm_up_s rfl ?_
  refine pm_if_eq (tgt := 95) B dX13_execute_85 (by decide) (fun e => absurd ((pk_us : upd h.1 17 1 17 = 1).symm.trans e) (by decide)) (fun _ => ?_)
  refine pm_aload_n B dX13_execute_88 rfl ?_
  refine pm_get B dX13_execute_89 fl_X13_208 pm_up_s rfl ?_
  refine pm_goto (tgt := 99) B dX13_execute_92 (by decide) ?_
  refine pm_put B dX13_execute_99 fs_X13_29 pm_up_s rfl rfl rfl ?_
  refine pm_mem (M' := pm_up M 140 (pm_mo z 140 (upd (upd h.1 17 1) 18 (h.1 16)))) pm_up_up ?_
  refine pm_aload_n B dX13_execute_102 rfl ?_
  refine pm_iconst (v := 0) B dX13_execute_103 (by decide) ?_
  refine pm_put B dX13_execute_104 fs_X13_205 pm_up_s rfl rfl rfl ?_
  refine pm_mem (M' := pm_up M 140 (pm_mo z 140 (upd (upd (upd h.1 17 1) 18 (h.1 16)) 15 0))) pm_up_up ?_
  refine pm_aload_n B dX13_execute_107 rfl ?_
  refine pm_get B dX13_execute_108 fl_X13_215 pm_up_s rfl ?_
  refine pm_if_eq (tgt := 120) B dX13_execute_111 (by decide) (fun e => absurd ((show upd (upd (upd h.1 17 1) 18 (h.1 16)) 15 0 17 = 1 by simp (disch := omega) only [pk_us, pk_un]).symm.trans e) (by decide)) (fun _ => ?_)
  refine pm_aload_n B dX13_execute_114 rfl ?_
  refine pm_iconst (v := 1) B dX13_execute_115 (by decide) ?_
  refine pm_cV (As := [.int 1]) (mc2 := 0) (ms2 := 0) B rfl pm_up_s rfl (c_X13_fails pm_up_s) mt_X13_fails sv_X13_66 dX13_execute_116 rfl rfl rfl rfl rfl ?_
  refine pm_stk (st' := [.int 0]) rfl ?_
  refine pm_mem (M' := pm_up M 140 (pm_mo z 140 (upd (upd (upd (upd h.1 17 1) 18 (h.1 16)) 15 0) 6 1))) pm_up_up ?_
  exact pm_ireturn B dX13_execute_119 rfl rfl ⟨rfl, rfl, pm_cnE (e2 ▸ pm_TM_f hT) (pm_frm_t hF (pm_frm_u (by decide)))⟩ rfl rfl
theorem pp_xW1 (B : pm_B l z D kA kE RX13 cX13_execute 3 (some .int) "execute" [] 7 0 0 X) {M0 : pm_M} {h2 : pm_Ms} (hQ : Q = pm_Q z D (pm_rt (some (.int 0)) nx (pp_cm z kA M0 h2)) 0 0 X) (hF : pm_frm M0 M) (hT : pm_TM z kA M h) (e2 : h2 = pm_hf h (upd (upd (upd (upd h.1 17 1) 18 (h.1 16)) 15 0) 6 1)) (h15 : h.1 15 = nI t) (ht : t ≤ 60) (hw : h.1 17 = 1 ∨ (h.1 17 = 0 ∧ ∃ p, h.1 16 = nI p ∧ p < t)) : pm_G l z D X 0 0 Q nx M 53 [some (.ref (z + 140)), none, none] [] := by
  have hw2 := pp_xW (Q := Q) (nx := nx) B hQ hF hT e2
  refine pm_aload_n B dX13_execute_53 rfl ?_
  refine pm_aload_n B dX13_execute_54 rfl ?_
  refine pm_get B dX13_execute_55 fl_X13_215 hT.1 rfl ?_
  refine pm_if_ne (tgt := 72) B dX13_execute_58 (by decide) (fun _ => hw2) (fun h17 => ?_)
  rcases hw with hw | ⟨_, p, h16, hp⟩
  · rw [hw] at h17; exact absurd h17 (by decide)
  refine pm_aload_n B dX13_execute_61 rfl ?_
  refine pm_get B dX13_execute_62 fl_X13_208 hT.1 rfl ?_
  refine pm_aload_n B dX13_execute_65 rfl ?_
  refine pm_get B dX13_execute_66 fl_X13_205 hT.1 rfl ?_
  exact pm_icmp_ge (tgt := 76) B dX13_execute_69 (by decide) (fun e => absurd e (by rw [h15, h16, nI_leI (by omega) (by omega)]; omega)) (fun _ => hw2)
/-- behind the reading: well -/
theorem pp_xO (B : pm_B l z D kA kE RX13 cX13_execute 3 (some .int) "execute" [] 7 0 0 X) (hT : pm_TM z kA M h) (h15 : h.1 15 = nI t) (h16 : h.1 16 = nI t) (h17 : h.1 17 = 0)
    (k : ∀ M', pm_TM z kA M' (pm_hk (pm_hf h (upd (upd (upd (upd (upd h.1 17 0) 18 (h.1 18)) 15 0) 6 0) 7 0)) 2 (va_cpy (h.2 1) (h.2 2) 0 0 91)) → pm_frm M M' → pm_G l z D X 0 0 Q nx M' 126 [some (.ref (z + 140)), some (.int (nI 0)), none] []) : pm_G l z D X 0 0 Q nx M 53 [some (.ref (z + 140)), none, none] [] := by
  refine pm_aload_n B dX13_execute_53 rfl ?_
  refine pm_aload_n B dX13_execute_54 rfl ?_
  refine pm_get B dX13_execute_55 fl_X13_215 hT.1 rfl ?_
  refine pm_if_ne (tgt := 72) B dX13_execute_58 (by decide) (fun e => absurd h17 e) (fun _ => ?_)
  refine pm_aload_n B dX13_execute_61 rfl ?_
  refine pm_get B dX13_execute_62 fl_X13_208 hT.1 rfl ?_
  refine pm_aload_n B dX13_execute_65 rfl ?_
  refine pm_get B dX13_execute_66 fl_X13_205 hT.1 rfl ?_
  refine pm_icmp_ge (tgt := 76) B dX13_execute_69 (by decide) (fun _ => ?_) (fun e => absurd (by rw [h15, h16]; exact Int32.le_refl _) e)
  refine pm_iconst (v := 0) B dX13_execute_76 (by decide) ?_
  refine pm_put B dX13_execute_77 fs_X13_215 hT.1 rfl rfl rfl ?_
  refine pm_mem (M' := pm_up M 140 (pm_mo z 140 (upd h.1 17 0))) rfl ?_
  refine pm_aload_n B dX13_execute_80 rfl ?_
  refine pm_aload_n B dX13_execute_81 rfl ?_
  refine pm_get B dX13_execute_82 fl_X13_215 pm_up_s rfl ?_
  refine pm_if_eq (tgt := 95) B dX13_execute_85 (by decide) (fun _ => ?_) (fun e => absurd pk_us e)
  refine pm_aload_n B dX13_execute_95 rfl ?_
  refine pm_get B dX13_execute_96 fl_X13_29 pm_up_s rfl ?_
  refine pm_put B dX13_execute_99 fs_X13_29 pm_up_s rfl rfl rfl ?_
  refine pm_mem (M' := pm_up M 140 (pm_mo z 140 (upd (upd h.1 17 0) 18 (h.1 18)))) pm_up_up ?_
  refine pm_aload_n B dX13_execute_102 rfl ?_
  refine pm_iconst (v := 0) B dX13_execute_103 (by decide) ?_
  refine pm_put B dX13_execute_104 fs_X13_205 pm_up_s rfl rfl rfl ?_
  refine pm_mem (M' := pm_up M 140 (pm_mo z 140 (upd (upd (upd h.1 17 0) 18 (h.1 18)) 15 0))) pm_up_up ?_
  refine pm_aload_n B dX13_execute_107 rfl ?_
  refine pm_get B dX13_execute_108 fl_X13_215 pm_up_s rfl ?_
  refine pm_if_eq (tgt := 120) B dX13_execute_111 (by decide) (fun _ => ?_) (fun e => absurd (show upd (upd (upd h.1 17 0) 18 (h.1 18)) 15 0 17 = 0 by simp (disch := omega) only [pk_us, pk_un]) e)
  have hT3 := pm_TM_f (v := upd (upd (upd h.1 17 0) 18 (h.1 18)) 15 0) hT
  refine pm_aload_n B dX13_execute_120 rfl ?_
  refine pm_cV (As := []) (mc2 := 0) (ms2 := 0) B rfl hT3.1 rfl (c_X13_keep (g := h.2 1) (gb := h.2 2) hT3.1 hT3.2.1 hT3.2.2.1) mt_X13_keep sv_X13_91 dX13_execute_121 rfl rfl rfl rfl rfl ?_
  refine pm_stk (st' := []) rfl ?_
  refine pm_iconst (v := 0) B dX13_execute_124 (by decide) ?_
  refine pm_istore_n B dX13_execute_125 rfl rfl ?_
  refine pm_loc (L' := [some (.ref (z + 140)), some (.int (nI 0)), none]) rfl ?_
  exact k _ (pm_TM_2 (pp_TM_ff hT3)) (pm_frm_t (pm_frm_u (by decide)) (pm_frm_t (pm_frm_u (by decide)) (pm_frm_u (by decide))))
theorem pp_h32 {f g gq f2 g2 gq2 : Nat → Int32} : pp_h3 (pp_h3 h f g gq) f2 g2 gq2 = pp_h3 h f2 g2 gq2 := by
  refine Prod.ext rfl ?_
  funext j
  show (if j = 5 then gq2 else if j = 1 then g2 else if j = 5 then gq else if j = 1 then g else h.2 j) = if j = 5 then gq2 else if j = 1 then g2 else h.2 j
  by_cases h5 : j = 5
  · rw [if_pos h5, if_pos h5]
  · rw [if_neg h5, if_neg h5, if_neg h5]
    by_cases h1 : j = 1
    · rw [if_pos h1, if_pos h1]
    · rw [if_neg h1, if_neg h1, if_neg h1]
theorem pp_h30 : pp_h3 h h.1 (h.2 1) (h.2 5) = h := by
  refine Prod.ext rfl ?_
  funext j
  show (if j = 5 then h.2 5 else if j = 1 then h.2 1 else h.2 j) = h.2 j
  by_cases h5 : j = 5
  · rw [if_pos h5, h5]
  · rw [if_neg h5]
    by_cases h1 : j = 1
    · rw [if_pos h1, h1]
    · rw [if_neg h1]
/-- the commands, one after another -/
theorem pp_xR (B : pm_B l z D kA kE RX13 cX13_execute 3 (some .int) "execute" [] 7 0 0 X) {m : Nat} (hm : m ≤ 11) : ∀ (k j : Nat) (M : pm_M) (h : pm_Ms), j + k = m → pm_TM z kA M h → h.1 20 = nI m → pm_gI (h.2 1) → h.1 6 = 0 → h.1 7 = 0 → (∀ i, i < m → ∃ c, c < 11 ∧ h.2 7 (3 * i) = nI (pp_ch c)) →
    (∀ M', (pp_rn (h.2 7) k j h.1 (h.2 1) (h.2 5)).1 = 0 → pm_TM z kA M' (pp_h3 h (pp_rn (h.2 7) k j h.1 (h.2 1) (h.2 5)).2.2.1 (pp_rn (h.2 7) k j h.1 (h.2 1) (h.2 5)).2.2.2.1 (pp_rn (h.2 7) k j h.1 (h.2 1) (h.2 5)).2.2.2.2) → pm_frm M M' → (pp_rn (h.2 7) k j h.1 (h.2 1) (h.2 5)).2.2.1 5 = h.1 5 → (pp_rn (h.2 7) k j h.1 (h.2 1) (h.2 5)).2.2.1 20 = nI m → pm_G l z D X 0 0 Q nx M' 183 [some (.ref (z + 140)), none, none] []) →
    (∀ M', (pp_rn (h.2 7) k j h.1 (h.2 1) (h.2 5)).1 = 1 → pm_TM z kA M' (pp_h3 h (pp_rn (h.2 7) k j h.1 (h.2 1) (h.2 5)).2.2.1 (pp_rn (h.2 7) k j h.1 (h.2 1) (h.2 5)).2.2.2.1 (pp_rn (h.2 7) k j h.1 (h.2 1) (h.2 5)).2.2.2.2) → pm_frm M M' → (pp_rn (h.2 7) k j h.1 (h.2 1) (h.2 5)).2.2.1 5 = h.1 5 → pm_G l z D X 0 0 Q nx M' 146 [some (.ref (z + 140)), some (.int (nI (pp_rn (h.2 7) k j h.1 (h.2 1) (h.2 5)).2.1)), none] []) →
    pm_G l z D X 0 0 Q nx M 126 [some (.ref (z + 140)), some (.int (nI j)), none] [] := by
  intro k
  induction k with
  | zero =>
    intro j M h hj hT h20 hgI h6 h7 hcq n0 n1
    refine pm_iload_n B dX13_execute_126 rfl ?_
    refine pm_aload_n B dX13_execute_127 rfl ?_
    refine pm_get B dX13_execute_128 fl_X13_230 hT.1 rfl ?_
    refine pm_icmp_ge (tgt := 183) B dX13_execute_131 (by decide) (fun _ => ?_) (fun e => absurd (by rw [h20, nI_leI (by omega) (by omega)]; omega) e)
    refine pm_wk (L' := [some (.ref (z + 140)), none, none]) ⟨rfl, trivial⟩ ?_
    exact n0 M rfl (by
      show pm_TM z kA M (pp_h3 h h.1 (h.2 1) (h.2 5))
      rw [pp_h30]; exact hT) (fun _ _ => rfl) rfl h20
  | succ k ih =>
    intro j M h hj hT h20 hgI h6 h7 hcq n0 n1
    obtain ⟨g0, g7, ⟨gd, gl⟩, gOK⟩ := pm_gI_n hgI
    obtain ⟨c, hc, hk⟩ := hcq j (by omega)
    obtain ⟨⟨s5, s20⟩, s3⟩ := pm_gI_s (j := j) (f := h.1) (gq := h.2 5) (gc := h.2 7) hc hk hgI
    refine pm_iload_n B dX13_execute_126 rfl ?_
    refine pm_aload_n B dX13_execute_127 rfl ?_
    refine pm_get B dX13_execute_128 fl_X13_230 hT.1 rfl ?_
    refine pm_icmp_ge (tgt := 183) B dX13_execute_131 (by decide) (fun e => absurd e (by rw [h20, nI_leI (by omega) (by omega)]; omega)) (fun _ => ?_)
    refine pm_aload_n B dX13_execute_134 rfl ?_
    refine pm_iload_n B dX13_execute_135 rfl ?_
    refine pm_cV (As := [.int (nI j)]) (mc2 := 0) (ms2 := 0) B rfl hT.1 rfl (c_X13_does (j := j) (n := pm_n (h.2 1 0)) (g := h.2 1) (gq := h.2 5) (gc := h.2 7) hT.1 hT.2.1 hT.2.2.2.2.2.1 hT.2.2.2.2.2.2.2.1 g0 g7 (by omega) gOK gd gl) mt_X13_does sv_X13_278 dX13_execute_136 rfl rfl rfl rfl rfl ?_
    refine pm_stk (st' := []) rfl ?_
    have hT2 := pm_TM_5 (v := (d_X13_does j (pm_n (h.2 1 0)) h.1 (h.2 1) (h.2 5) (h.2 7)).2.2) (pm_TM_1 (v := (d_X13_does j (pm_n (h.2 1 0)) h.1 (h.2 1) (h.2 5) (h.2 7)).2.1) (pm_TM_f (v := (d_X13_does j (pm_n (h.2 1 0)) h.1 (h.2 1) (h.2 5) (h.2 7)).1) hT))
    have hF : pm_frm M (pm_up (pm_up (pm_up M 140 (pm_mo z 140 (d_X13_does j (pm_n (h.2 1 0)) h.1 (h.2 1) (h.2 5) (h.2 7)).1)) (140 + 1) (.inl (kA 0, 91, .inl (d_X13_does j (pm_n (h.2 1 0)) h.1 (h.2 1) (h.2 5) (h.2 7)).2.1))) (140 + 5) (.inl (kA 0, 7, .inl (d_X13_does j (pm_n (h.2 1 0)) h.1 (h.2 1) (h.2 5) (h.2 7)).2.2))) := pm_frm_t (pm_frm_u (by decide)) (pm_frm_t (pm_frm_u (by decide)) (pm_frm_u (by decide)))
    refine pm_aload_n B dX13_execute_139 rfl ?_
    refine pm_get B dX13_execute_140 fl_X13_39 hT2.1 rfl ?_
    refine pm_if_le (tgt := 177) B dX13_execute_143 (by decide) (fun h0 => ?_) (fun h0 => ?_)
    · obtain ⟨q1, q2, q3⟩ := s3 h6 h7 h0
      have e : pp_rn (h.2 7) (k + 1) j h.1 (h.2 1) (h.2 5) = pp_rn (h.2 7) k (j + 1) (d_X13_does j (pm_n (h.2 1 0)) h.1 (h.2 1) (h.2 5) (h.2 7)).1 (d_X13_does j (pm_n (h.2 1 0)) h.1 (h.2 1) (h.2 5) (h.2 7)).2.1 (d_X13_does j (pm_n (h.2 1 0)) h.1 (h.2 1) (h.2 5) (h.2 7)).2.2 := by
        rw [pp_rn]
        exact if_pos h0
      rw [e] at n0 n1
      refine pm_iinc B dX13_execute_177 rfl rfl rfl ?_
      refine pm_loc (L' := [some (.ref (z + 140)), some (.int (nI (j + 1))), none]) (by rw [show (nI j : Int32) + Int32.ofInt 1 = nI (j + 1) from nI_1 j]; rfl) ?_
      refine pm_goto (tgt := 126) B dX13_execute_180 (by decide) ?_
      refine ih (j + 1) _ (pp_h3 h (d_X13_does j (pm_n (h.2 1 0)) h.1 (h.2 1) (h.2 5) (h.2 7)).1 (d_X13_does j (pm_n (h.2 1 0)) h.1 (h.2 1) (h.2 5) (h.2 7)).2.1 (d_X13_does j (pm_n (h.2 1 0)) h.1 (h.2 1) (h.2 5) (h.2 7)).2.2) (by omega) hT2 (s20.trans h20) q1 q2 q3 hcq (fun M' a b c d e2 => n0 M' a ?_ (pm_frm_t hF c) (d.trans s5) e2) (fun M' a b c d => n1 M' a ?_ (pm_frm_t hF c) (d.trans s5))
      · rw [pp_h32] at b
        exact b
      · rw [pp_h32] at b
        exact b
    · have e : pp_rn (h.2 7) (k + 1) j h.1 (h.2 1) (h.2 5) = (1, j, (d_X13_does j (pm_n (h.2 1 0)) h.1 (h.2 1) (h.2 5) (h.2 7)).1, (d_X13_does j (pm_n (h.2 1 0)) h.1 (h.2 1) (h.2 5) (h.2 7)).2.1, (d_X13_does j (pm_n (h.2 1 0)) h.1 (h.2 1) (h.2 5) (h.2 7)).2.2) := by
        rw [pp_rn]
        exact if_neg h0
      rw [e] at n1
      exact n1 _ rfl hT2 hF s5
/-- all is done -/
theorem pp_xD (B : pm_B l z D kA kE RX13 cX13_execute 3 (some .int) "execute" [] 7 0 0 X) {M0 : pm_M} {h2 : pm_Ms} {mv : Int32} {k : Nat} (hQ : Q = pm_Q z D (pm_rt (some (.int mv)) nx (pp_cm z kA M0 h2)) 0 0 X) (hF : pm_frm M0 M) (hT : pm_TM z kA M h) (h5 : h.1 5 = nI k) (h8 : k ≤ 8) (em : mv = (d_X13_ends (h.1 20) 0 k h.1 (h.2 1) (h.2 2) (h.2 4)).1) (e2 : h2 = pm_hk (pm_hk (pm_hf h (d_X13_ends (h.1 20) 0 k h.1 (h.2 1) (h.2 2) (h.2 4)).2.1) 1 (d_X13_ends (h.1 20) 0 k h.1 (h.2 1) (h.2 2) (h.2 4)).2.2.1) 4 (d_X13_ends (h.1 20) 0 k h.1 (h.2 1) (h.2 2) (h.2 4)).2.2.2) : pm_G l z D X 0 0 Q nx M 183 [some (.ref (z + 140)), none, none] [] := by
  subst hQ
  refine pm_aload_n B dX13_execute_183 rfl ?_
  refine pm_aload_n B dX13_execute_184 rfl ?_
  refine pm_get B dX13_execute_185 fl_X13_230 hT.1 rfl ?_
  refine pm_iconst (v := 0) B dX13_execute_188 (by decide) ?_
  refine pm_cV (As := [.int (h.1 20), .int 0]) (mc2 := 0) (ms2 := 0) B rfl hT.1 rfl (c_X13_ends (k := k) (g := h.2 1) (gb := h.2 2) (gp := h.2 4) hT.1 hT.2.1 hT.2.2.1 hT.2.2.2.2.1 h5 h8) mt_X13_ends sv_X13_97 dX13_execute_189 rfl rfl rfl rfl rfl ?_
  refine pm_stk (st' := [.int (d_X13_ends (h.1 20) 0 k h.1 (h.2 1) (h.2 2) (h.2 4)).1]) rfl ?_
  exact pm_ireturn B dX13_execute_192 rfl rfl ⟨by rw [em], rfl, pm_cnE (e2 ▸ pm_TM_4 (pm_TM_1 (pm_TM_f hT))) (pm_frm_t hF (pm_frm_t (pm_frm_u (by decide)) (pm_frm_t (pm_frm_u (by decide)) (pm_frm_u (by decide)))))⟩ rfl rfl
/-- a command has failed -/
theorem pp_xF (B : pm_B l z D kA kE RX13 cX13_execute 3 (some .int) "execute" [] 7 0 0 X) {M0 : pm_M} {h2 : pm_Ms} {mv cs : Int32} {k i : Nat} {fd : Nat → Int32} (hQ : Q = pm_Q z D (pm_rt (some (.int mv)) nx (pp_cm z kA M0 h2)) 0 0 X) (hF : pm_frm M0 M) (hT : pm_TM z kA M h) (h5 : h.1 5 = nI k) (h8 : k ≤ 8) (ec : cs = if h.1 7 ≤ 0 then 9 else h.1 7) (ed : fd = upd (upd (upd h.1 7 8) 8 (nI i)) 6 2) (em : mv = (d_X13_ends 0 cs k fd (h.2 1) (h.2 2) (h.2 4)).1) (e2 : h2 = pm_hk (pm_hk (pm_hf h (d_X13_ends 0 cs k fd (h.2 1) (h.2 2) (h.2 4)).2.1) 1 (d_X13_ends 0 cs k fd (h.2 1) (h.2 2) (h.2 4)).2.2.1) 4 (d_X13_ends 0 cs k fd (h.2 1) (h.2 2) (h.2 4)).2.2.2) : pm_G l z D X 0 0 Q nx M 146 [some (.ref (z + 140)), some (.int (nI i)), none] [] := by
  have key : pm_G l z D X 0 0 Q nx M 162 [some (.ref (z + 140)), some (.int (nI i)), none] [.int cs] := by
    subst hQ
    refine pm_istore_n B dX13_execute_162 rfl rfl ?_
    refine pm_loc (L' := [some (.ref (z + 140)), some (.int (nI i)), some (.int cs)]) rfl ?_
    refine pm_aload_n B dX13_execute_163 rfl ?_
    refine pm_aload_n B dX13_execute_164 rfl ?_
    refine pm_iconst (v := 2) B dX13_execute_165 (by decide) ?_
    refine pm_bipush (v := 8) B dX13_execute_166 (by decide) ?_
    refine pm_iload_n B dX13_execute_168 rfl ?_
    refine pm_cV (As := [.int 2, .int 8, .int (nI i)]) (mc2 := 0) (ms2 := 0) B rfl hT.1 rfl (c_X13_denies hT.1) mt_X13_denies sv_X13_83 dX13_execute_169 rfl rfl rfl rfl rfl ?_
    refine pm_stk (st' := [.int 0, .ref (z + 140)]) rfl ?_
    refine pm_mem (M' := pm_up M 140 (pm_mo z 140 fd)) (by rw [ed]) ?_
    have hT2 := pm_TM_f (v := fd) hT
    refine pm_iload_n B dX13_execute_172 rfl ?_
    refine pm_cV (As := [.int 0, .int cs]) (mc2 := 0) (ms2 := 0) B rfl hT2.1 rfl (c_X13_ends (k := k) (g := h.2 1) (gb := h.2 2) (gp := h.2 4) hT2.1 hT2.2.1 hT2.2.2.1 hT2.2.2.2.2.1 (by show fd 5 = nI k; rw [ed]; simp (disch := omega) only [pk_un]; exact h5) h8) mt_X13_ends sv_X13_97 dX13_execute_173 rfl rfl rfl rfl rfl ?_
    refine pm_stk (st' := [.int (d_X13_ends 0 cs k fd (h.2 1) (h.2 2) (h.2 4)).1]) rfl ?_
    exact pm_ireturn B dX13_execute_176 rfl rfl ⟨by rw [em], rfl, pm_cnE (e2 ▸ pm_TM_4 (pm_TM_1 (pp_TM_ff hT2))) (pm_frm_t hF (pm_frm_t (pm_frm_u (by decide)) (pm_frm_t (pm_frm_u (by decide)) (pm_frm_t (pm_frm_u (by decide)) (pm_frm_u (by decide))))))⟩ rfl rfl
  refine pm_aload_n B dX13_execute_146 rfl ?_
  refine pm_get B dX13_execute_147 fl_X13_42 hT.1 rfl ?_
  refine pm_if_le (tgt := 160) B dX13_execute_150 (by decide) (fun h0 => ?_) (fun h0 => ?_)
  · refine pm_bipush (v := 9) B dX13_execute_160 (by decide) ?_
    rw [if_pos h0] at ec
    rw [ec] at key
    exact key
  · refine pm_aload_n B dX13_execute_153 rfl ?_
    refine pm_get B dX13_execute_154 fl_X13_42 hT.1 rfl ?_
    refine pm_goto (tgt := 162) B dX13_execute_157 (by decide) ?_
    rw [if_neg h0] at ec
    rw [ec] at key
    exact key
end PEX
