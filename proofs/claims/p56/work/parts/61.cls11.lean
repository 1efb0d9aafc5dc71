/-! the class: a text's run -/
/-- how many members, which seed -/
def pm_nS (r : Nat → Int32) : Prop := r 0 = nI (pm_n (r 0)) ∧ pm_n (r 0) ≤ 7 ∧ r 2 = nI (pm_n (r 2)) ∧ pm_n (r 2) < 1024
theorem pm_nS_of {r r' : Nat → Int32} (h : pm_nS r) (h0 : r' 0 = r 0) (h2 : r' 2 = r 2) : pm_nS r' := by
  unfold pm_nS; rw [h0, h2]; exact h
theorem d_X7_assign_fr (x : Int32) (n : Nat) (r q rm : Nat → Int32) {p : Nat} (hp : p < 7) : ∀ (k j : Nat) (a : Int32) (f : Nat → Int32), (d_X7_assignTotal_L1 x n r q rm k j a f).2 p = f p := by
  intro k
  induction k with
  | zero => intro j a f; rfl
  | succ k ih =>
    intro j a f
    simp only [d_X7_assignTotal_L1]
    split <;> rw [ih, pk_un (by omega)]
theorem d_X7_close_fr {p : Nat} (hp : p < 7) (h5 : p ≠ 5) : ∀ (k j : Nat) (a : Int32) (f : Nat → Int32), (d_X7_closeMonth_L1 k j a f).2 p = f p := by
  intro k
  induction k with
  | zero => intro j a f; rfl
  | succ k ih =>
    intro j a f
    simp only [d_X7_closeMonth_L1]
    split
    · rw [ih, pk_un (by omega), pk_un (by omega), pk_un (by omega), pk_un h5]
    · rw [ih, pk_un (by omega), pk_un h5]
theorem d_X7_audit_fr (w n : Nat) (r dr : Nat → Int32) {p : Nat} (hp : p < 7) : ∀ (k j : Nat) (a : Int32) (f : Nat → Int32), (d_X7_auditMembers_L1 w n r dr k j a f).2 p = f p := by
  intro k
  induction k with
  | zero => intro j a f; rfl
  | succ k ih =>
    intro j a f
    simp only [d_X7_auditMembers_L1]
    (repeat' split) <;> first | rw [ih, pk_un (by omega), pk_un (by omega)] | rw [ih]
theorem d_X7_draw_seed {w n : Nat} {r dr : Nat → Int32} (h : pm_n (r 2) < 1024) : (d_X7_drawMembers w n r dr).1 = nI (pm_n (d_X7_drawMembers w n r dr).1) ∧ pm_n (d_X7_drawMembers w n r dr).1 < 1024 := by
  have hL : ∀ (k j s : Nat) (c : Int32) (dr : Nat → Int32), s < 1024 → ∃ s', s' < 1024 ∧ (d_X7_drawMembers_L1 n k j (nI s) c dr).1 = nI s' := by
    intro k
    induction k with
    | zero => intro j s c dr hs; exact ⟨s, hs, rfl⟩
    | succ k ih =>
      intro j s c dr hs
      simp only [d_X7_drawMembers_L1]
      split
      · exact ⟨s, hs, rfl⟩
      · exact ih _ _ _ _ (Nat.mod_lt _ (by decide))
  unfold d_X7_drawMembers
  split
  · exact ⟨by rw [pm_n_nI (by omega)], by rw [pm_n_nI (by omega)]; exact h⟩
  · obtain ⟨s', hs, he⟩ := hL w 0 (pm_n (r 2)) 0 dr h
    show (d_X7_drawMembers_L1 n w 0 (nI (pm_n (r 2))) 0 dr).1 = nI (pm_n (d_X7_drawMembers_L1 n w 0 (nI (pm_n (r 2))) 0 dr).1) ∧ pm_n (d_X7_drawMembers_L1 n w 0 (nI (pm_n (r 2))) 0 dr).1 < 1024
    rw [he, pm_n_nI (by omega)]
    exact ⟨rfl, hs⟩
theorem d_X7_do_nS {c n : Nat} {x y : Int32} {r q rm dr : Nat → Int32} (hc : c < 11) (h : pm_nS r) (hn : n = pm_n (r 0)) (h0 : (d_X7_ref c x y n r).1 = 0) : pm_nS (d_X7_do c x y n r q rm dr).2.1 := by
  have h7 : n ≤ 7 := hn ▸ h.2.1
  have hr0 : r 0 = nI n := hn ▸ h.1
  match c, hc with
  | 0, _ =>
    have h6 := d_ref0_n h7 (pm_q0 h0)
    show pm_nS (upd (pm_r6 r n x y 0 0 0 0) 0 ((pm_r6 r n x y 0 0 0 0) 0 + 1))
    have e0 : (pm_r6 r n x y 0 0 0 0) 0 = r 0 := by
      unfold pm_r6; rw [pk_un (by omega), pk_un (by omega), pk_un (by omega), pk_un (by omega), pk_un (by omega), pk_un (by omega)]
    have e2 : (pm_r6 r n x y 0 0 0 0) 2 = r 2 := by
      unfold pm_r6; rw [pk_un (by omega), pk_un (by omega), pk_un (by omega), pk_un (by omega), pk_un (by omega), pk_un (by omega)]
    unfold pm_nS
    rw [pk_us, pk_un (by decide), e0, e2, hr0, nI_1, pm_n_nI (by omega)]
    exact ⟨rfl, by omega, h.2.2⟩
  | 1, _ => exact pm_nS_of (r' := (d_X7_assignTotal_L1 x n r q rm n 0 0 r).2) h (d_X7_assign_fr _ _ _ _ _ (by decide) _ _ _ _) (d_X7_assign_fr _ _ _ _ _ (by decide) _ _ _ _)
  | 2, _ => exact pm_nS_of (r' := upd r 1 x) h (pk_un (by decide)) (pk_un (by decide))
  | 3, _ => exact pm_nS_of (r' := upd r (7 + 6 * pm_n x + 3) (r (7 + 6 * pm_n x + 3) + y)) h (pk_un (by omega)) (pk_un (by omega))
  | 4, _ =>
    show pm_nS (d_X7_auditMembers_L1 (pm_n x) n r dr (pm_n x) 0 0 (upd r 2 ((d_X7_drawMembers (pm_n x) n r dr).1))).2
    unfold pm_nS
    rw [d_X7_audit_fr _ _ _ _ (by decide), d_X7_audit_fr _ _ _ _ (by decide), pk_un (by decide), pk_us]
    exact ⟨h.1, h.2.1, d_X7_draw_seed h.2.2.2⟩
  | 5, _ => exact pm_nS_of (r' := upd (upd (d_X7_closeMonth_L1 n 0 0 r).2 6 _) 4 _) h ((pk_un (by decide)).trans ((pk_un (by decide)).trans (d_X7_close_fr (by decide) (by decide) _ _ _ _))) ((pk_un (by decide)).trans ((pk_un (by decide)).trans (d_X7_close_fr (by decide) (by decide) _ _ _ _)))
  | 6, _ => exact pm_nS_of (r' := upd (upd r (49 + pm_n x) _) (49 + pm_n y) _) h ((pk_un (by omega)).trans (pk_un (by omega))) ((pk_un (by omega)).trans (pk_un (by omega)))
  | 7, _ => exact pm_nS_of (r' := upd (upd r (49 + pm_n x) _) (49 + pm_n y) _) h ((pk_un (by omega)).trans (pk_un (by omega))) ((pk_un (by omega)).trans (pk_un (by omega)))
  | 8, _ => exact pm_nS_of (r' := upd (upd r (7 + 6 * pm_n x + 4) 0) (7 + 6 * pm_n x + 5) 0) h ((pk_un (by omega)).trans (pk_un (by omega))) ((pk_un (by omega)).trans (pk_un (by omega)))
  | 9, _ => exact pm_nS_of (r' := upd r 3 x) h (pk_un (by decide)) (pk_un (by decide))
  | 10, _ =>
    obtain ⟨hx, hl⟩ := d_refR_in (m := 1023) (by decide) (pm_q0 h0)
    show pm_nS (upd r 2 x)
    unfold pm_nS
    rw [pk_us, pk_un (by decide)]
    exact ⟨h.1, h.2.1, hx, by omega⟩
  | c + 11, hc => exact absurd hc (by omega)
/-- the denial of a text: null, or a Refusal with its cause -/
abbrev pm_o8 (z : Nat) (i : Int32) (a : Nat) : va_E := .inr (6, [.int 8, .int i, .ref (z + a)])
abbrev pm_oq (q : Int32 × Int32) : va_E := .inr (6, [.int q.1, .int q.2, .null])
def pm_rn (z : Nat) (kA : Nat → ClassId) (nx : Nat) (M : pm_M) (r : Nat → Int32) (q : Int32 × Int32) (i : Int32) : pm_Po :=
  if q.1 = 0 then pm_rt (some .null) nx (pm_sw z kA 2 M r)
  else if q.1 ≤ 0 then pm_rt (some (.ref (z + (nx + 2)))) (nx + 3) (pm_sw z kA 2 (pm_up (pm_up (pm_up M nx (pm_oq q)) (nx + 1) (pm_oq (9, 0))) (nx + 2) (pm_o8 z i (nx + 1))) r)
  else pm_rt (some (.ref (z + (nx + 1)))) (nx + 2) (pm_sw z kA 2 (pm_up (pm_up M nx (pm_oq q)) (nx + 1) (pm_o8 z i nx)) r)
set_option maxRecDepth 100000 in
set_option maxHeartbeats 4000000 in
theorem c_X8_ofCommandp {l : Launch} {z : Nat} {D : va_G} {kA : Nat → ClassId} {kE : Nat → Nat} {nx : Nat} {M : pm_M} {a : Nat} {p dt i : Int32} (hM : M a = some (.inr (6, [.int p, .int dt, .null]))) (han : a < nx) (hp : ¬ p ≤ 0) : pm_C l z D kA kE yX8_ofCommand cX8_ofCommand 3 (some (.object "ThunderCartel$Refusal")) 2 2 6 [.int i, .ref (z + a)] nx M (pm_rt (some (.ref (z + nx))) (nx + 1) (pm_up M nx (pm_o8 z i a))) := by
  refine pm_mk (own := RX8) (nm := "ofCommand") mt_X8_ofCommand rfl rfl rfl rfl fun X B => ?_
  refine pm_loc (L' := [some (.int i), some (.ref (z + a)), none]) rfl ?_
  refine pm_aload_n B dX8_ofCommand_0 rfl ?_
  refine pm_get B dX8_ofCommand_1 fl_X8_7 hM rfl ?_
  refine pm_if_le (tgt := 11) B dX8_ofCommand_4 (by decide) (fun hq1 => absurd hq1 (hp)) (fun hq1 => ?_)
  refine pm_aload_n B dX8_ofCommand_7 rfl ?_
  refine pm_goto (tgt := 22) B dX8_ofCommand_8 (by decide) ?_
  refine pm_astore_n B dX8_ofCommand_22 rfl rfl ?_
  refine pm_loc (L' := [some (.int i), some (.ref (z + a)), some (.ref (z + a))]) rfl ?_
  refine pm_new (n0 := 3) B dX8_ofCommand_23 nw_X8_8 rfl (by decide) (by decide) ?_
  refine pm_stk (st' := [.ref (z + nx)]) rfl ?_
  refine pm_dup B dX8_ofCommand_26 rfl ?_
  refine pm_bipush (v := 8) B dX8_ofCommand_27 (by decide) ?_
  refine pm_iload_n B dX8_ofCommand_29 rfl ?_
  refine pm_aload_n B dX8_ofCommand_30 rfl ?_
  refine pm_cI (As := [.int 8, .int i, .ref (z + a)]) (mc2 := 0) (ms2 := 0) B rfl (c_X8_initr (t := a) pm_up_s) mt_X8_init si_X8_20 dX8_ofCommand_31 rfl rfl rfl rfl rfl ?_
  refine pm_mem (M' := pm_up M nx (.inr (6, [.int 8, .int i, .ref (z + a)]))) (by rw [pm_up_up] <;> rfl) ?_
  refine pm_stk (st' := [.ref (z + nx)]) rfl ?_
  exact pm_areturn B dX8_ofCommand_34 rfl (Or.inl ⟨_, rfl⟩) (by first | exact Or.inl rfl | exact Or.inr ⟨_, rfl⟩) ⟨rfl, rfl, rfl⟩ rfl rfl
set_option maxRecDepth 100000 in
set_option maxHeartbeats 4000000 in
theorem c_X8_ofCommandn {l : Launch} {z : Nat} {D : va_G} {kA : Nat → ClassId} {kE : Nat → Nat} {nx : Nat} {M : pm_M} {a : Nat} {p dt i : Int32} (hM : M a = some (.inr (6, [.int p, .int dt, .null]))) (han : a < nx) (hp : p ≤ 0) : pm_C l z D kA kE yX8_ofCommand cX8_ofCommand 3 (some (.object "ThunderCartel$Refusal")) 2 2 6 [.int i, .ref (z + a)] nx M (pm_rt (some (.ref (z + (nx + 1)))) (nx + 2) (pm_up (pm_up M nx (pm_oq (9, 0))) (nx + 1) (pm_o8 z i nx))) := by
  refine pm_mk (own := RX8) (nm := "ofCommand") mt_X8_ofCommand rfl rfl rfl rfl fun X B => ?_
  refine pm_loc (L' := [some (.int i), some (.ref (z + a)), none]) rfl ?_
  refine pm_aload_n B dX8_ofCommand_0 rfl ?_
  refine pm_get B dX8_ofCommand_1 fl_X8_7 hM rfl ?_
  refine pm_if_le (tgt := 11) B dX8_ofCommand_4 (by decide) (fun hq1 => ?_) (fun hq1 => absurd (hp) hq1)
  refine pm_new (n0 := 3) B dX8_ofCommand_11 nw_X8_8 rfl (by decide) (by decide) ?_
  refine pm_stk (st' := [.ref (z + nx)]) rfl ?_
  refine pm_dup B dX8_ofCommand_14 rfl ?_
  refine pm_bipush (v := 9) B dX8_ofCommand_15 (by decide) ?_
  refine pm_iconst (v := 0) B dX8_ofCommand_17 (by decide) ?_
  refine pm_null B dX8_ofCommand_18 ?_
  refine pm_cI (As := [.int 9, .int 0, .null]) (mc2 := 0) (ms2 := 0) B rfl (c_X8_init (t := 0) pm_up_s) mt_X8_init si_X8_20 dX8_ofCommand_19 rfl rfl rfl rfl rfl ?_
  refine pm_mem (M' := pm_up M nx (.inr (6, [.int 9, .int 0, .null]))) (by rw [pm_up_up] <;> rfl) ?_
  refine pm_stk (st' := [.ref (z + nx)]) rfl ?_
  refine pm_astore_n B dX8_ofCommand_22 rfl rfl ?_
  refine pm_loc (L' := [some (.int i), some (.ref (z + a)), some (.ref (z + nx))]) rfl ?_
  refine pm_new (n0 := 3) B dX8_ofCommand_23 nw_X8_8 rfl (by decide) (by decide) ?_
  refine pm_stk (st' := [.ref (z + (nx + 1))]) rfl ?_
  refine pm_dup B dX8_ofCommand_26 rfl ?_
  refine pm_bipush (v := 8) B dX8_ofCommand_27 (by decide) ?_
  refine pm_iload_n B dX8_ofCommand_29 rfl ?_
  refine pm_aload_n B dX8_ofCommand_30 rfl ?_
  refine pm_cI (As := [.int 8, .int i, .ref (z + nx)]) (mc2 := 0) (ms2 := 0) B rfl (c_X8_initr (t := nx) pm_up_s) mt_X8_init si_X8_20 dX8_ofCommand_31 rfl rfl rfl rfl rfl ?_
  refine pm_mem (M' := pm_up (pm_up M nx (.inr (6, [.int 9, .int 0, .null]))) (nx + 1) (.inr (6, [.int 8, .int i, .ref (z + nx)]))) (by rw [pm_up_up] <;> rfl) ?_
  refine pm_stk (st' := [.ref (z + (nx + 1))]) rfl ?_
  exact pm_areturn B dX8_ofCommand_34 rfl (Or.inl ⟨_, rfl⟩) (by first | exact Or.inl rfl | exact Or.inr ⟨_, rfl⟩) ⟨rfl, rfl, rfl⟩ rfl rfl
