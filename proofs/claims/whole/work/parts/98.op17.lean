/-! a member's line: closed -/
def pm_lq (f0 : Nat → Int32) (a : (Nat → Int32) × Nat) (b : (Nat → Int32) × (Nat → Int32)) : Prop := b.1 22 = nI a.2 ∧ (∀ j, j ≠ 22 → b.1 j = f0 j) ∧ ∀ i, i < a.2 → ∃ q, q < 128 ∧ a.1 i = nI q ∧ b.2 i = nI q
section PLQ
variable {f0 : Nat → Int32} {a : (Nat → Int32) × Nat} {b : (Nat → Int32) × (Nat → Int32)} {w q : Nat}
theorem pm_lqC (h : pm_lq f0 a b) (hw : w < 128) (hq : q = a.2) : pm_lq f0 (pm_aC a w) (d_X13_says w q b.1 b.2) := by
  subst hq
  obtain ⟨h1, h2, h3⟩ := h
  refine ⟨rfl, fun j hj => (pk_un hj).trans (h2 j hj), fun i hi => ?_⟩
  show ∃ q, q < 128 ∧ upd a.1 a.2 (nI w) i = nI q ∧ upd b.2 a.2 (vp_nar .char (nI w)) i = nI q
  by_cases e : i = a.2
  · rw [e, pk_us, pk_us]
    exact ⟨w, hw, rfl, pm_vc (by omega)⟩
  · have hi2 : i < a.2 + 1 := hi
    rw [pk_un e, pk_un e]
    exact h3 i (by omega)
theorem pm_le9 {w : Nat} (h : w < 1000) : nI w ≤ 9 ↔ w ≤ 9 := by
  rw [show (9 : Int32) = nI 9 from rfl, nI_leI (by omega) (by decide)]
theorem pm_aI1 (h : w < 10) : pm_aI a w = pm_aC a (48 + w % 10) := by
  show (pm_dq a.1 a.2 w, a.2 + pm_wd w) = (upd a.1 a.2 (nI (48 + w % 10)), a.2 + 1)
  rw [show pm_dq a.1 a.2 w = pm_d1 a.1 a.2 w from if_pos h, show pm_wd w = 1 from if_pos h]
  rfl
theorem pm_aI2 (h1 : ¬ w < 10) (h2 : w < 100) : pm_aI a w = pm_aC (pm_aI a (w / 10)) (48 + w % 10) := by
  show (pm_dq a.1 a.2 w, a.2 + pm_wd w) = (upd (pm_dq a.1 a.2 (w / 10)) (a.2 + pm_wd (w / 10)) (nI (48 + w % 10)), a.2 + pm_wd (w / 10) + 1)
  have h3 : w / 10 < 10 := by omega
  rw [show pm_dq a.1 a.2 w = pm_d2 a.1 a.2 w from (if_neg h1).trans (if_pos h2), show pm_wd w = 2 from (if_neg h1).trans (if_pos h2), show pm_dq a.1 a.2 (w / 10) = pm_d1 a.1 a.2 (w / 10) from if_pos h3, show pm_wd (w / 10) = 1 from if_pos h3]
  unfold pm_d2 pm_d1
  rw [Nat.mod_eq_of_lt h3]
  refine Prod.ext ?_ rfl
  funext j
  show upd (upd a.1 (a.2 + 1) (nI (48 + w % 10))) a.2 (nI (48 + w / 10)) j = upd (upd a.1 a.2 (nI (48 + w / 10))) (a.2 + 1) (nI (48 + w % 10)) j
  by_cases e1 : j = a.2
  · rw [e1]; simp (disch := omega) only [pk_us, pk_un]
  · by_cases e2 : j = a.2 + 1
    · rw [e2]; simp (disch := omega) only [pk_us, pk_un]
    · simp (disch := omega) only [pk_us, pk_un]
theorem pm_aI3 (h1 : ¬ w < 100) (h2 : w < 1000) : pm_aI a w = pm_aC (pm_aI a (w / 10)) (48 + w % 10) := by
  show (pm_dq a.1 a.2 w, a.2 + pm_wd w) = (upd (pm_dq a.1 a.2 (w / 10)) (a.2 + pm_wd (w / 10)) (nI (48 + w % 10)), a.2 + pm_wd (w / 10) + 1)
  have h0 : ¬ w < 10 := by omega
  have h3 : w / 10 < 100 := by omega
  have h4 : ¬ w / 10 < 10 := by omega
  rw [show pm_dq a.1 a.2 w = pm_d3 a.1 a.2 w from (if_neg h0).trans (if_neg h1), show pm_wd w = 3 from (if_neg h0).trans (if_neg h1), show pm_dq a.1 a.2 (w / 10) = pm_d2 a.1 a.2 (w / 10) from (if_neg h4).trans (if_pos h3), show pm_wd (w / 10) = 2 from (if_neg h4).trans (if_pos h3)]
  unfold pm_d3 pm_d2
  rw [show w % 100 % 10 = w % 10 by omega, show w % 100 / 10 = w / 10 % 10 by omega, show w / 100 % 10 = w / 10 / 10 by omega]
  refine Prod.ext ?_ rfl
  funext j
  show upd (upd (upd a.1 (a.2 + 2) (nI (48 + w % 10))) (a.2 + 1) (nI (48 + w / 10 % 10))) a.2 (nI (48 + w / 10 / 10)) j = upd (upd (upd a.1 (a.2 + 1) (nI (48 + w / 10 % 10))) a.2 (nI (48 + w / 10 / 10))) (a.2 + 2) (nI (48 + w % 10)) j
  by_cases e1 : j = a.2
  · rw [e1]; simp (disch := omega) only [pk_us, pk_un]
  · by_cases e2 : j = a.2 + 1
    · rw [e2]; simp (disch := omega) only [pk_us, pk_un]
    · by_cases e3 : j = a.2 + 2
      · rw [e3]; simp (disch := omega) only [pk_us, pk_un]
      · simp (disch := omega) only [pk_us, pk_un]
theorem pm_ndw (w : Nat) : pm_nd w = pm_wd w := by
  unfold pm_nd pm_wd
  (repeat' split) <;> omega
theorem pm_lq1 (h : pm_lq f0 a b) (hw : w < 10) (hq : q = a.2) : pm_lq f0 (pm_aI a w) (d_X13_saysN1 w q b.1 b.2) := by
  rw [pm_aI1 hw]
  exact pm_lqC h (by omega) hq
theorem pm_lq2 (h : pm_lq f0 a b) (hw : w < 100) (hq : q = a.2) : pm_lq f0 (pm_aI a w) (d_X13_saysN2 w q b.1 b.2) := by
  unfold d_X13_saysN2
  by_cases h1 : w < 10
  · rw [if_pos ((pm_le9 (by omega)).mpr (by omega)), pm_aI1 h1]
    exact pm_lqC h (by omega) hq
  · rw [if_neg (fun e => by have := (pm_le9 (by omega)).mp e; omega), pm_aI2 h1 hw]
    exact pm_lqC (pm_lq1 h (by omega) hq) (by omega) (by rw [hq, pm_ndw])
theorem pm_lq3 (h : pm_lq f0 a b) (hw : w < 1000) (hq : q = a.2) : pm_lq f0 (pm_aI a w) (d_X13_saysN3 w q b.1 b.2) := by
  unfold d_X13_saysN3
  by_cases h1 : w < 10
  · rw [if_pos ((pm_le9 (by omega)).mpr (by omega)), pm_aI1 h1]
    exact pm_lqC h (by omega) hq
  · rw [if_neg (fun e => by have := (pm_le9 (by omega)).mp e; omega)]
    have key : pm_aI a w = pm_aC (pm_aI a (w / 10)) (48 + w % 10) := by
      by_cases h2 : w < 100
      · exact pm_aI2 h1 h2
      · exact pm_aI3 h2 hw
    rw [key]
    exact pm_lqC (pm_lq2 h (by omega) hq) (by omega) (by rw [hq, pm_ndw])
theorem pm_rep_s {c : Nat} : ∀ k, pm_rep a c (k + 1) = pm_rep (pm_aC a c) c k := by
  intro k
  induction k with
  | zero => rfl
  | succ k ih =>
    show pm_aC (pm_rep a c (k + 1)) c = pm_aC (pm_rep (pm_aC a c) c k) c
    rw [ih]
theorem pm_rep2 {c : Nat} : ∀ k, (pm_rep a c k).2 = a.2 + k := by
  intro k
  induction k with
  | zero => rfl
  | succ k ih =>
    show (pm_rep a c k).2 + 1 = _
    rw [ih, Nat.add_assoc]
theorem pm_lqL {x : Int32} {g : Nat → Int32} {c : Nat} (hc : c < 128) (hib : (pm_ib g (pm_n x) = 0 ∧ c = 33) ∨ (¬ pm_ib g (pm_n x) = 0 ∧ c = 120)) : ∀ (k j : Nat) (a : (Nat → Int32) × Nat) (b : (Nat → Int32) × (Nat → Int32)), pm_lq f0 a b → a.2 + k < 2 ^ 31 → pm_lq f0 (pm_rep a c k) (d_X13_writeMember_L1 x g k j b.1 b.2) := by
  intro k
  induction k with
  | zero => intro j a b h _; exact h
  | succ k ih =>
    intro j a b h hk
    rw [pm_rep_s]
    simp only [d_X13_writeMember_L1]
    have hs := pm_lqC (w := c) (q := pm_n (b.1 22)) h hc (by rw [h.1, pm_n_nI (by omega)])
    have h2 := ih (j + 1) (pm_aC a c) _ hs (by show a.2 + 1 + k < _; omega)
    rcases hib with ⟨h0, rfl⟩ | ⟨h0, rfl⟩
    · rw [if_pos h0]
      exact h2
    · rw [if_neg h0]
      exact h2
end PLQ
theorem pm_wmE {x : Int32} {n i s qt cp vt k : Nat} {f g gl F : Nat → Int32} (hin : ¬ pm_in x 0 (nI n - 1) = 0) (ei : pm_n x = i) (es : pm_n (g (7 + 5 * i + 3)) = s) (eq : pm_n (g (7 + 5 * i + 2)) = qt) (ec : pm_n (g (7 + 5 * i + 0)) = cp) (ev : pm_n (g (7 + 5 * i + 1)) = vt) (ek : pm_n (pm_abs (g (7 + 5 * i + 4))) = k) (eF : upd (upd f 6 (pm_th (pm_in x 0 (nI n - 1)))) 22 0 = F) :
    ∃ t1 t2 t3 t4 t5 t6 t7 t8 t9 T : (Nat → Int32) × (Nat → Int32), t1 = d_X13_saysN1 i (0) F gl ∧ t2 = d_X13_says 58 ((0) + pm_nd i) t1.1 t1.2 ∧ t3 = d_X13_saysN2 s (((0) + pm_nd i) + 1) t2.1 t2.2 ∧ t4 = d_X13_says 47 ((((0) + pm_nd i) + 1) + pm_nd s) t3.1 t3.2 ∧ t5 = d_X13_saysN3 qt (((((0) + pm_nd i) + 1) + pm_nd s) + 1) t4.1 t4.2 ∧ t6 = d_X13_says 47 ((((((0) + pm_nd i) + 1) + pm_nd s) + 1) + pm_nd qt) t5.1 t5.2 ∧ t7 = d_X13_saysN2 cp (((((((0) + pm_nd i) + 1) + pm_nd s) + 1) + pm_nd qt) + 1) t6.1 t6.2 ∧ t8 = d_X13_says 118 ((((((((0) + pm_nd i) + 1) + pm_nd s) + 1) + pm_nd qt) + 1) + pm_nd cp) t7.1 t7.2 ∧ t9 = d_X13_saysN2 vt (((((((((0) + pm_nd i) + 1) + pm_nd s) + 1) + pm_nd qt) + 1) + pm_nd cp) + 1) t8.1 t8.2 ∧ T = d_X13_writeMember_L1 x g k 0 t9.1 t9.2 ∧ d_X13_writeMember x n f g gl = (nI (pm_n (T.1 22)), T.1, T.2) := by
  subst ei
  subst es eq ec ev ek eF
  unfold d_X13_writeMember
  rw [if_neg hin]
  exact ⟨_, _, _, _, _, _, _, _, _, _, rfl, rfl, rfl, rfl, rfl, rfl, rfl, rfl, rfl, rfl, rfl⟩
theorem pm_a_wmT {n : Nat} {x : Int32} {r g f gl bs : Nat → Int32} (hRS : pm_RS n r g) (hw : ∀ i, i < n → pm_rw r i) (h7 : n ≤ 7) (hm : ¬ d_X10_hasMember x n r = 0) : ∃ T : (Nat → Int32) × (Nat → Int32), d_X13_writeMember x n f g gl = (nI (pm_n (T.1 22)), T.1, T.2) ∧ pm_lq (upd (upd f 6 0) 22 0) (pm_lnr bs r (pm_n x)) T ∧ (pm_lnr bs r (pm_n x)).2 ≤ 16 := by
  have hin : ¬ pm_in x 0 (nI n - 1) = 0 := by rw [pm_hm (r := r) h7]; exact hm
  obtain ⟨i, hi, rfl⟩ := pm_hmx h7 hm
  have ei : pm_n (nI i) = i := pm_n_nI (by omega)
  obtain ⟨r0, r1, r2, r3, r4⟩ := hRS.2.1 i hi
  obtain ⟨⟨a0, a1, a2⟩, ⟨b0, b1, b2⟩, ⟨c0, c1⟩, ⟨d0, d1⟩, e0⟩ := hw i hi
  obtain ⟨s, es⟩ : ∃ s, s = pm_n (r (7 + 6 * i + 3)) := ⟨_, rfl⟩
  obtain ⟨qt, eqt⟩ : ∃ s, s = pm_n (r (7 + 6 * i + 2)) := ⟨_, rfl⟩
  obtain ⟨cp, ecp⟩ : ∃ s, s = pm_n (r (7 + 6 * i + 0)) := ⟨_, rfl⟩
  obtain ⟨vt, evt⟩ : ∃ s, s = pm_n (r (7 + 6 * i + 1)) := ⟨_, rfl⟩
  obtain ⟨F, eF⟩ : ∃ F, F = upd (upd f 6 0) 22 0 := ⟨_, rfl⟩
  obtain ⟨t1, t2, t3, t4, t5, t6, t7, t8, t9, T, e1, e2, e3, e4, e5, e6, e7, e8, e9, eT, eW⟩ := pm_wmE (f := f) (g := g) (gl := gl) (s := s) (qt := qt) (cp := cp) (vt := vt) (F := F) hin ei (by rw [r3, es]) (by rw [r2, eqt]) (by rw [r0, ecp]) (by rw [r1, evt]) rfl (by rw [eF, show pm_th (pm_in (nI i) 0 (nI n - 1)) = 0 from if_neg hin])
  refine ⟨T, eW, ?_⟩
  unfold pm_lnr pm_mln
  rw [ei, ← es, ← eqt, ← ecp, ← evt, ← eF]
  have l0 : pm_lq F (bs, 0) (F, gl) := ⟨by rw [eF]; show upd (upd f 6 0) 22 0 22 = 0; exact pk_us, fun _ _ => rfl, fun i hi => absurd hi (Nat.not_lt_zero _)⟩
  have l1 : pm_lq F (pm_aI (bs, 0) i) t1 := by rw [e1]; exact pm_lq1 l0 (by omega) rfl
  have l2 : pm_lq F (pm_aC (pm_aI (bs, 0) i) 58) t2 := by rw [e2]; exact pm_lqC l1 (by decide) (by show (0) + pm_nd i = (0) + pm_wd i; simp only [pm_ndw])
  have l3 : pm_lq F (pm_aI (pm_aC (pm_aI (bs, 0) i) 58) s) t3 := by rw [e3]; exact pm_lq2 l2 (by omega) (by show ((0) + pm_nd i) + 1 = ((0) + pm_wd i) + 1; simp only [pm_ndw])
  have l4 : pm_lq F (pm_aC (pm_aI (pm_aC (pm_aI (bs, 0) i) 58) s) 47) t4 := by rw [e4]; exact pm_lqC l3 (by decide) (by show (((0) + pm_nd i) + 1) + pm_nd s = (((0) + pm_wd i) + 1) + pm_wd s; simp only [pm_ndw])
  have l5 : pm_lq F (pm_aI (pm_aC (pm_aI (pm_aC (pm_aI (bs, 0) i) 58) s) 47) qt) t5 := by rw [e5]; exact pm_lq3 l4 (by omega) (by show ((((0) + pm_nd i) + 1) + pm_nd s) + 1 = ((((0) + pm_wd i) + 1) + pm_wd s) + 1; simp only [pm_ndw])
  have l6 : pm_lq F (pm_aC (pm_aI (pm_aC (pm_aI (pm_aC (pm_aI (bs, 0) i) 58) s) 47) qt) 47) t6 := by rw [e6]; exact pm_lqC l5 (by decide) (by show (((((0) + pm_nd i) + 1) + pm_nd s) + 1) + pm_nd qt = (((((0) + pm_wd i) + 1) + pm_wd s) + 1) + pm_wd qt; simp only [pm_ndw])
  have l7 : pm_lq F (pm_aI (pm_aC (pm_aI (pm_aC (pm_aI (pm_aC (pm_aI (bs, 0) i) 58) s) 47) qt) 47) cp) t7 := by rw [e7]; exact pm_lq2 l6 (by omega) (by show ((((((0) + pm_nd i) + 1) + pm_nd s) + 1) + pm_nd qt) + 1 = ((((((0) + pm_wd i) + 1) + pm_wd s) + 1) + pm_wd qt) + 1; simp only [pm_ndw])
  have l8 : pm_lq F (pm_aC (pm_aI (pm_aC (pm_aI (pm_aC (pm_aI (pm_aC (pm_aI (bs, 0) i) 58) s) 47) qt) 47) cp) 118) t8 := by rw [e8]; exact pm_lqC l7 (by decide) (by show (((((((0) + pm_nd i) + 1) + pm_nd s) + 1) + pm_nd qt) + 1) + pm_nd cp = (((((((0) + pm_wd i) + 1) + pm_wd s) + 1) + pm_wd qt) + 1) + pm_wd cp; simp only [pm_ndw])
  have l9 : pm_lq F (pm_aI (pm_aC (pm_aI (pm_aC (pm_aI (pm_aC (pm_aI (pm_aC (pm_aI (bs, 0) i) 58) s) 47) qt) 47) cp) 118) vt) t9 := by rw [e9]; exact pm_lq2 l8 (by omega) (by show ((((((((0) + pm_nd i) + 1) + pm_nd s) + 1) + pm_nd qt) + 1) + pm_nd cp) + 1 = ((((((((0) + pm_wd i) + 1) + pm_wd s) + 1) + pm_wd qt) + 1) + pm_wd cp) + 1; simp only [pm_ndw])
  have wb : pm_wd i = 1 := pm_wd1 (by omega)
  have wb2 := pm_wd2 (q := s) (by omega)
  have wb3 := pm_wd3 qt
  have wb4 := pm_wd2 (q := cp) (by omega)
  have wb5 := pm_wd2 (q := vt) (by omega)
  have hA : (pm_aI (pm_aC (pm_aI (pm_aC (pm_aI (pm_aC (pm_aI (pm_aC (pm_aI (bs, 0) i) 58) s) 47) qt) 47) cp) 118) vt).2 ≤ 14 := by
    show 0 + pm_wd i + 1 + pm_wd s + 1 + pm_wd qt + 1 + pm_wd cp + 1 + pm_wd vt ≤ 14
    omega
  have i1 : pm_n (1 : Int32) = 1 := by decide
  have i2 : pm_n (2 : Int32) = 2 := by decide
  have i0 : pm_n (0 : Int32) = 0 := by decide
  have hib : ∀ y : Int32, g (7 + 5 * i + 4) = y → pm_ib g (pm_n (nI i)) = if y < 0 then 1 else 0 := fun y hy => by rw [ei]; show (if g (7 + 5 * i + 4) < 0 then (1 : Int32) else 0) = _; rw [hy]
  have fin : ∀ (w b k c : Nat), pm_n (r (7 + 6 * i + 4)) = w → pm_n (r (7 + 6 * i + 5)) = b → pm_n (pm_abs (g (7 + 5 * i + 4))) = k → c < 128 → ((pm_ib g (pm_n (nI i)) = 0 ∧ c = 33) ∨ (¬ pm_ib g (pm_n (nI i)) = 0 ∧ c = 120)) → w + b = k → k ≤ 2 → (∀ t, pm_rep (pm_rep t 33 w) 120 b = pm_rep t c k) → pm_lq F (pm_rep (pm_rep (pm_aI (pm_aC (pm_aI (pm_aC (pm_aI (pm_aC (pm_aI (pm_aC (pm_aI (bs, 0) i) 58) s) 47) qt) 47) cp) 118) vt) 33 (pm_n (r (7 + 6 * i + 4)))) 120 (pm_n (r (7 + 6 * i + 5)))) T ∧ (pm_rep (pm_rep (pm_aI (pm_aC (pm_aI (pm_aC (pm_aI (pm_aC (pm_aI (pm_aC (pm_aI (bs, 0) i) 58) s) 47) qt) 47) cp) 118) vt) 33 (pm_n (r (7 + 6 * i + 4)))) 120 (pm_n (r (7 + 6 * i + 5)))).2 ≤ 16 := by
    intro w b k c h1 h2 h3 h4 h5 h6 h8 h9
    rw [h1, h2, h9, pm_rep2]
    refine ⟨?_, by omega⟩
    rw [eT, h3]
    exact pm_lqL h4 h5 k 0 _ _ l9 (by omega)
  rcases e0 with ⟨p, q⟩ | ⟨p, q⟩ | ⟨p, q⟩ | ⟨p, q⟩ | ⟨p, q⟩
  · have e4 : g (7 + 5 * i + 4) = 0 := by rw [r4, p, q]; rfl
    exact fin 0 0 0 33 (by rw [p]; exact i0) (by rw [q]; exact i0) (by rw [e4]; decide) (by decide) (Or.inl ⟨by rw [hib _ e4]; decide, rfl⟩) rfl (by decide) (fun _ => rfl)
  · have e4 : g (7 + 5 * i + 4) = 1 := by rw [r4, p, q]; rfl
    exact fin 1 0 1 33 (by rw [p]; exact i1) (by rw [q]; exact i0) (by rw [e4]; decide) (by decide) (Or.inl ⟨by rw [hib _ e4]; decide, rfl⟩) rfl (by decide) (fun _ => rfl)
  · have e4 : g (7 + 5 * i + 4) = 2 := by rw [r4, p, q]; rfl
    exact fin 2 0 2 33 (by rw [p]; exact i2) (by rw [q]; exact i0) (by rw [e4]; decide) (by decide) (Or.inl ⟨by rw [hib _ e4]; decide, rfl⟩) rfl (by decide) (fun _ => rfl)
  · have e4 : g (7 + 5 * i + 4) = -1 := by rw [r4, p, q]; rfl
    exact fin 0 1 1 120 (by rw [p]; exact i0) (by rw [q]; exact i1) (by rw [e4]; decide) (by decide) (Or.inr ⟨by rw [hib _ e4]; decide, rfl⟩) rfl (by decide) (fun _ => rfl)
  · have e4 : g (7 + 5 * i + 4) = -2 := by rw [r4, p, q]; rfl
    exact fin 0 2 2 120 (by rw [p]; exact i0) (by rw [q]; exact i2) (by rw [e4]; decide) (by decide) (Or.inr ⟨by rw [hib _ e4]; decide, rfl⟩) rfl (by decide) (fun _ => rfl)
theorem pm_mw_of {n : Nat} {r g : Nat → Int32} (hRS : pm_RS n r g) (hw : ∀ i, i < n → pm_rw r i) : ∀ i, i < n → pm_mw g i := by
  intro i hi
  obtain ⟨r0, r1, r2, r3, r4⟩ := hRS.2.1 i hi
  obtain ⟨a0, b0, c0, d0, e0⟩ := hw i hi
  unfold pm_mw
  rw [r0, r1, r2, r3, r4]
  refine ⟨a0, b0, c0, d0, ?_⟩
  rcases e0 with ⟨p, q⟩ | ⟨p, q⟩ | ⟨p, q⟩ | ⟨p, q⟩ | ⟨p, q⟩ <;> rw [p, q] <;> decide
theorem pm_s_ln {Bd : Nat} {g : pm_Cs} {h : pm_Ms} {L : Int32 × Int32 × Int32} {bs fT glT : Nat → Int32} {c : Nat} {ml : Int32} (hRel : pm_Rel Bd g h L) (hc : c ≤ 16) (h22 : fT 22 = nI c) (hb : ∀ i, i < c → ∃ q, q < 128 ∧ bs i = nI q ∧ glT i = nI q) (fr : ∀ j, j ≠ 6 → j ≠ 22 → fT j = h.1 j) : pm_Rel (Bd + 693 * 11) (pm_kln g bs c ml) (pm_hk (pm_hf h fT) 8 glT) L := by
  obtain ⟨⟨n, x1, x2⟩, ⟨ho, hk8, h5, hp⟩, hsn, htx, hfa, hln, hl9, hl10, hl11, hl1, hl2⟩ := id hRel
  refine ⟨⟨n, x1, pm_I_le (by omega) x2⟩, ⟨ho, hk8, (fr 5 (by decide) (by decide)).trans h5, fun p hp2 => ?_⟩, ?_, ?_, ?_, ⟨hc, h22, hb⟩, (fr 9 (by decide) (by decide)).trans hl9, (fr 10 (by decide) (by decide)).trans hl10, (fr 11 (by decide) (by decide)).trans hl11, hl1, hl2⟩
  · obtain ⟨m', y1, y2⟩ := hp p hp2
    exact ⟨m', y1, pm_I_le (by omega) y2⟩
  · show (g.1 12 9 = 0 ∧ fT 3 = 0) ∨ (¬ g.1 12 9 = 0 ∧ ¬ fT 3 = 0 ∧ ∃ n, pm_RS n (g.1 2) (h.2 3) ∧ pm_I (Bd + 693 * 11) n (g.1 2))
    rw [fr 3 (by decide) (by decide)]
    rcases hsn with hsn | ⟨c1, c2, m', c3, c4⟩
    · exact Or.inl hsn
    · exact Or.inr ⟨c1, c2, m', c3, pm_I_le (by omega) c4⟩
  · show ∃ t, t ≤ 60 ∧ g.1 13 4 = nI t ∧ fT 15 = nI t ∧ ∀ i, i < t → h.2 6 i = g.1 8 i
    rw [fr 15 (by decide) (by decide)]; exact htx
  · show (g.1 12 10 = 0 ∧ fT 18 = -1) ∨ (¬ g.1 12 10 = 0 ∧ fT 18 = g.1 12 11 ∧ ¬ g.1 12 11 < 0)
    rw [fr 18 (by decide) (by decide)]; exact hfa
theorem pm_a_wm {n : Nat} {x : Int32} {r g f gl bs : Nat → Int32} (hRS : pm_RS n r g) (hw : ∀ i, i < n → pm_rw r i) (h7 : n ≤ 7) : pm_AS (if d_X10_hasMember x n r = 0 then 1 else 0) (nI (pm_lnr bs r (pm_n x)).2) ((d_X13_writeMember x n f g gl).2.1 6) (d_X13_writeMember x n f g gl).1 [(1, 1)] := by
  by_cases hm : d_X10_hasMember x n r = 0
  · have hin : pm_in x 0 (nI n - 1) = 0 := by rw [pm_hm (r := r) h7]; exact hm
    rw [if_pos hm]
    refine Or.inr ⟨(1, 1), List.mem_cons_self, rfl, ?_⟩
    unfold d_X13_writeMember
    rw [if_pos hin, hin]
    dsimp only
    rw [pk_us] <;> rfl
  · obtain ⟨T, e1, e2, e3⟩ := pm_a_wmT (f := f) (gl := gl) (bs := bs) hRS hw h7 hm
    rw [if_neg hm, e1]
    refine Or.inl ⟨rfl, ?_, ?_⟩
    · show T.1 6 = 0
      rw [e2.2.1 6 (by decide), pk_un (by decide), pk_us]
    · show _ = nI (pm_n (T.1 22))
      rw [e2.1, pm_n_nI (by omega)]
theorem pm_s_wm {Bd n : Nat} {g : pm_Cs} {h : pm_Ms} {L : Int32 × Int32 × Int32} {x ml : Int32} (hRel : pm_Rel Bd g h L) (hRS : pm_RS n (g.1 0) (h.2 1)) (hw : ∀ i, i < n → pm_rw (g.1 0) i) (h7 : n ≤ 7) : pm_Rel (Bd + 693 * 11) (if d_X10_hasMember x n (g.1 0) = 0 then g else pm_kln g (pm_lnr (g.1 14) (g.1 0) (pm_n x)).1 (pm_lnr (g.1 14) (g.1 0) (pm_n x)).2 ml) (pm_hk (pm_hf h (d_X13_writeMember x n h.1 (h.2 1) (h.2 8)).2.1) 8 (d_X13_writeMember x n h.1 (h.2 1) (h.2 8)).2.2) L := by
  by_cases hm : d_X10_hasMember x n (g.1 0) = 0
  · have hin : pm_in x 0 (nI n - 1) = 0 := by rw [pm_hm (r := g.1 0) h7]; exact hm
    have e : d_X13_writeMember x n h.1 (h.2 1) (h.2 8) = (0, upd h.1 6 (pm_th (pm_in x 0 (nI n - 1))), h.2 8) := by
      unfold d_X13_writeMember
      rw [if_pos hin]
    rw [if_pos hm, e]
    exact pm_Rel_le (by omega) (pm_Rel_cg hRel (fun _ _ => rfl) rfl rfl (fun j hj => pk_un (by omega)) (fun j hj => by rcases hj with rfl | rfl | rfl | rfl | rfl <;> rfl))
  · obtain ⟨T, e1, e2, e3⟩ := pm_a_wmT (f := h.1) (gl := h.2 8) (bs := g.1 14) hRS hw h7 hm
    rw [if_neg hm, e1]
    exact pm_s_ln hRel e3 e2.1 e2.2.2 (fun j a b => (e2.2.1 j b).trans ((pk_un b).trans (pk_un a)))
set_option maxHeartbeats 1000000 in
theorem pm_op_44 {l : Launch} {z : Nat} {D : va_G} {kA : Nat → ClassId} {kE : Nat → Nat} {nm : String} {tb : List ExceptionTableEntry} {mc ms : Nat} {X : pm_X} {cu su : Nat} {Q : State → Prop} {nx : Nat} {M : pm_M} {b N i Bd : Nat} {xs : Nat → Int32} (B : pm_B l z D kA kE RL code 9 ret nm tb 2048 mc ms X) (hXs : va_X b N xs X.2.2.2.1 X.2.2.2.1.heap) (hbz : b < z) (hiN : i + 4 ≤ N) (hN : N ≤ 2048) (hcu : cu + 25 ≤ mc) (hsu : su + 78 ≤ ms) (hJ : pm_J z kA kE nx M Bd)
    (next : ∀ nx' M', nx ≤ nx' → pm_J z kA kE nx' M' (Bd + 693 * 11) → pm_G l z D X (cu + 25) (su + 78) Q nx' M' 2623 [some (.ref b), some (.ref (z + 0)), some (.ref (z + 140)), some (.ref (z + 149)), some (.ref (z + 150)), some (.int (nI i)), none, none, none] []) : pm_G l z D X cu su Q nx M 2265 [some (.ref b), some (.ref (z + 0)), some (.ref (z + 140)), some (.ref (z + 149)), some (.ref (z + 150)), some (.int (nI i)), none, none, none] [] := by
  obtain ⟨hnx, g, h, L, fo, fd, hT, hTM, hL, h149, h150, hRel⟩ := hJ
  obtain ⟨⟨n, hRS, hI⟩, ⟨ho, hk8, hf5, -⟩, -⟩ := id hRel
  have hn := hI.1.1
  have h7 := hI.1.2.1
  have hgn : h.2 1 0 = nI n := hRS.1.1.trans hn
  have hsd := hI.1.2.2.2.1
  have hgd : h.2 1 2 = nI (pm_n (h.2 1 2)) := by rw [hRS.1.2.2.1]; exact hsd.1
  have hgl : pm_n (h.2 1 2) < 1024 := by rw [hRS.1.2.2.1]; exact hsd.2
  obtain ⟨-, -, hRs, hRt, hRf, hRl, hR9, hR10, hR11, hR1, hR2⟩ := id hRel
  have hC := pm_nas (hl := [("java/lang/IndexOutOfBoundsException", 1)]) (hn := [(1, 1)]) (f_X12_writeMember (l := l) (D := D) (nx := nx) (x := (xs (i + 1))) hT hn h7 hI.2.1 hRl.1) (by split <;> exact hL) (pm_a_wm (f := h.1) (gl := h.2 8) hRS hI.2.1 h7) (by decide +kernel)
  refine pm_lw_44 (Bd := Bd) (L := L) (fo := fo) (fd := fd) (N := N) (xs := xs) (dW := 21) (mcW := 1) (msW := 6) (dX := 5) (h2 := (pm_hk (pm_hf h ((d_X13_writeMember (xs (i + 1)) n h.1 (h.2 1) (h.2 8)).2.1)) 8 ((d_X13_writeMember (xs (i + 1)) n h.1 (h.2 1) (h.2 8)).2.2))) (mv := (d_X13_writeMember (xs (i + 1)) n h.1 (h.2 1) (h.2 8)).1) rfl (by decide) (by decide) rfl B hXs hbz hiN hN hcu hsu hnx hT h150
    (pm_CwPost (c_L_writeMember (w := 149) (N := 1) (f := fo) (by decide) (by decide) hT.1 hC (fun v n' M1 hp => ⟨pm_clV hp, (hp.1 149 (by decide) (by omega)).trans h149⟩) (fun E n' M1 hp => by
      obtain ⟨e, he, rfl⟩ := pm_clE hp
      simp only [List.mem_cons, List.not_mem_nil, or_false] at he
      rw [he])) (fun o n' M' hp => pm_wrN hTM h149 hnx (by decide +kernel) (by decide +kernel) hp))
    (fun n' M' hT' => ⟨_, c_X13_writeMember hT'.1 hT'.2.1 hT'.2.2.2.2.2.2.2.2 hgn h7 (pm_mw_of hRS hI.2.1), (pm_TM_8 (pm_TM_f hT')), fun a ha => by rw [pm_up_n (by omega), pm_up_n (by omega)]⟩) (fun kc v g2 L2 hR => ?_) next
  obtain ⟨rfl, rfl, e6, hv⟩ := hR
  exact ⟨e6.symm, hv, pm_s_wm hRel hRS hI.2.1 h7⟩
