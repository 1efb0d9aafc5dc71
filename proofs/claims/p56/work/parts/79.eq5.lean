/-! the class's State and the reference's row -/
def pm_bt (x : Int32) (j : Nat) : Int32 := nI (pm_n x / 2 ^ j % 2)
def pm_RSs (r g : Nat → Int32) : Prop := g 0 = r 0 ∧ g 1 = r 1 ∧ g 2 = r 2 ∧ g 3 = r 3 ∧ g 4 = r 4 ∧ g 5 = r 5 + r 6 ∧ g 6 = r 6
def pm_RSm (r g : Nat → Int32) (i : Nat) : Prop := g (7 + 5 * i + 0) = r (7 + 6 * i + 0) ∧ g (7 + 5 * i + 1) = r (7 + 6 * i + 1) ∧ g (7 + 5 * i + 2) = r (7 + 6 * i + 2) ∧ g (7 + 5 * i + 3) = r (7 + 6 * i + 3) ∧ g (7 + 5 * i + 4) = r (7 + 6 * i + 4) - r (7 + 6 * i + 5)
def pm_RSl (r g : Nat → Int32) : Prop := ∀ i j, i < 7 → j < 7 → g (42 + 7 * i + j) = pm_bt (r (49 + i)) j
def pm_RS (n : Nat) (r g : Nat → Int32) : Prop := pm_RSs r g ∧ (∀ i, i < n → pm_RSm r g i) ∧ pm_RSl r g
def pm_ls (r : Nat → Int32) : Nat := (pm_pc (pm_n (r (49 + 0))) 7 + pm_pc (pm_n (r (49 + 1))) 7 + pm_pc (pm_n (r (49 + 2))) 7 + pm_pc (pm_n (r (49 + 3))) 7 + pm_pc (pm_n (r (49 + 4))) 7 + pm_pc (pm_n (r (49 + 5))) 7 + pm_pc (pm_n (r (49 + 6))) 7) / 2
def pm_Is (B n : Nat) (r : Nat → Int32) : Prop := r 0 = nI n ∧ n ≤ 7 ∧ (r 1 = 0 ∨ r 1 = 1) ∧ (r 2 = nI (pm_n (r 2)) ∧ pm_n (r 2) < 1024) ∧ (∃ t, r 3 = nI t ∧ 1 ≤ t ∧ t ≤ 99) ∧ (∃ a b, r 5 = nI a ∧ r 6 = nI b ∧ a + b ≤ B)
def pm_Il (n : Nat) (r : Nat → Int32) : Prop := (∀ i, i < 7 → r (49 + i) = nI (pm_n (r (49 + i))) ∧ pm_n (r (49 + i)) < 128) ∧ (∀ i j, i < 7 → j < 7 → pm_n (r (49 + i)) / 2 ^ j % 2 = pm_n (r (49 + j)) / 2 ^ i % 2) ∧ (∀ i, i < 7 → pm_n (r (49 + i)) / 2 ^ i % 2 = 0) ∧ (∀ i j, i < 7 → j < 7 → pm_n (r (49 + i)) / 2 ^ j % 2 = 1 → i < n ∧ j < n) ∧ pm_ls r ≤ 12
def pm_I (B n : Nat) (r : Nat → Int32) : Prop := pm_Is B n r ∧ (∀ i, i < n → pm_rw r i) ∧ pm_Il n r
section PRS
variable {r r' g g' : Nat → Int32} {n i B : Nat}
theorem pm_rw_of (h : ∀ w, w < 6 → r' (7 + 6 * i + w) = r (7 + 6 * i + w)) (hr : pm_rw r i) : pm_rw r' i := by
  unfold pm_rw at hr ⊢
  rw [h 0 (by decide), h 1 (by decide), h 2 (by decide), h 3 (by decide), h 4 (by decide), h 5 (by decide)]
  exact hr
theorem pm_RSm_of (h : ∀ w, w < 6 → r' (7 + 6 * i + w) = r (7 + 6 * i + w)) (hg : ∀ w, w < 5 → g' (7 + 5 * i + w) = g (7 + 5 * i + w)) (hr : pm_RSm r g i) : pm_RSm r' g' i := by
  unfold pm_RSm at hr ⊢
  rw [h 0 (by decide), h 1 (by decide), h 2 (by decide), h 3 (by decide), h 4 (by decide), h 5 (by decide), hg 0 (by decide), hg 1 (by decide), hg 2 (by decide), hg 3 (by decide), hg 4 (by decide)]
  exact hr
theorem pm_RSl_of (h : ∀ i, i < 7 → r' (49 + i) = r (49 + i)) (hg : ∀ k, 42 ≤ k → g' k = g k) (hr : pm_RSl r g) : pm_RSl r' g' := by
  intro i j hi hj
  rw [h i hi, hg _ (by omega)]
  exact hr i j hi hj
theorem pm_Il_of (h : ∀ i, i < 7 → r' (49 + i) = r (49 + i)) (hr : pm_Il n r) : pm_Il n r' := by
  obtain ⟨h1, h2, h3, h4, h5⟩ := hr
  refine ⟨fun i hi => ?_, fun i j hi hj => ?_, fun i hi => ?_, fun i j hi hj => ?_, ?_⟩
  · rw [h i hi]; exact h1 i hi
  · rw [h i hi, h j hj]; exact h2 i j hi hj
  · rw [h i hi]; exact h3 i hi
  · rw [h i hi]; exact h4 i j hi hj
  · unfold pm_ls
    rw [h 0 (by decide), h 1 (by decide), h 2 (by decide), h 3 (by decide), h 4 (by decide), h 5 (by decide), h 6 (by decide)]
    exact h5
theorem pm_Il_le {m : Nat} (hm : n ≤ m) (hr : pm_Il n r) : pm_Il m r := by
  obtain ⟨h1, h2, h3, h4, h5⟩ := hr
  exact ⟨h1, h2, h3, fun i j hi hj hb => ⟨by have := (h4 i j hi hj hb).1; omega, by have := (h4 i j hi hj hb).2; omega⟩, h5⟩
theorem pm_Is_le {C : Nat} (hB : B ≤ C) (h : pm_Is B n r) : pm_Is C n r := by
  obtain ⟨h0, h1, h2, h3, h4, a, b, h5, h6, h7⟩ := h
  exact ⟨h0, h1, h2, h3, h4, a, b, h5, h6, by omega⟩
theorem pm_I_le {C : Nat} (hB : B ≤ C) (h : pm_I B n r) : pm_I C n r := ⟨pm_Is_le hB h.1, h.2⟩
end PRS
theorem pm_inR {x : Int32} {lo hi : Nat} (hl : lo < 2 ^ 31) (hh : hi < 2 ^ 31) (h : ¬ pm_in x (nI lo) (nI hi) = 0) : ∃ k, x = nI k ∧ lo ≤ k ∧ k ≤ hi := by
  unfold pm_in at h
  split at h
  · exact absurd rfl h
  · rename_i h1
    split at h
    · exact absurd rfl h
    · rename_i h2
      have h3 : ¬ x < 0 := fun h4 => h1 (Int32.lt_of_lt_of_le h4 (nI_pos' hl))
      obtain ⟨k, hk, rfl⟩ := nI_of h3
      refine ⟨k, rfl, ?_, ?_⟩
      · exact Nat.le_of_not_lt fun h5 => h1 ((nI_ltI hk hl).mpr h5)
      · exact Nat.le_of_not_lt fun h5 => h2 ((nI_ltI hh hk).mpr h5)
theorem pm_hm {x : Int32} {n : Nat} {r : Nat → Int32} (h7 : n ≤ 7) : pm_in x 0 (nI n - 1) = d_X10_hasMember x n r := by
  unfold pm_in d_X10_hasMember
  by_cases h0 : x < 0
  · rw [if_pos h0, if_pos h0]
  · rw [if_neg h0, if_neg h0]
    obtain ⟨j, hj, rfl⟩ := nI_of h0
    cases n with
    | zero =>
      rw [if_pos (show nI 0 - 1 < nI j by
        rw [Int32.lt_iff_toInt_lt, nI_toInt hj, show (nI 0 - 1 : Int32).toInt = -1 by decide]
        omega), if_pos (nI_le (Nat.zero_le _) hj)]
    | succ n =>
      rw [nI_pred]
      by_cases hc : n < j
      · rw [if_pos (nI_lt hc hj), if_pos (nI_le hc hj)]
      · rw [if_neg (nI_nlt (by omega) (by omega)), if_neg (nI_ge (by omega) (by omega))]
theorem pm_hmx {x : Int32} {n : Nat} {r : Nat → Int32} (h7 : n ≤ 7) (hm : ¬ d_X10_hasMember x n r = 0) : ∃ i, i < n ∧ x = nI i := pm_in_ex h7 (by rw [pm_hm (r := r) h7]; exact hm)
theorem pq_sub {a b : Nat} (h : b ≤ a) : nI a - nI b = nI (a - b) := by
  have h1 : a = (a - b) + b := by omega
  rw [h1, ← nI_add, Int32.add_sub_cancel, ← h1]
theorem pq_over {s q : Nat} (hs : s < 1000) (hq : q < 1000) : pm_max 0 (nI s - nI q) = nI (s - q) := by
  unfold pm_max
  by_cases h : q ≤ s
  · rw [pq_sub h]
    by_cases h2 : s - q = 0
    · rw [h2]; rfl
    · rw [if_pos (show (0 : Int32) < nI (s - q) from nI_lt (a := 0) (by omega) (by omega))]
  · have e : nI s - nI q = - nI (q - s) := by rw [← pq_sub (show s ≤ q by omega), Int32.neg_sub]
    have h3 : ∀ d, d < 1000 → ¬ (0 : Int32) < - nI d := by decide +kernel
    have h3 := h3 (q - s) (by omega)
    rw [e, if_neg h3, show s - q = 0 by omega]
    rfl
/-- a command on the reference's side -/
def pm_mc (c : Nat) (x y : Int32) (n : Nat) (f g gq : Nat → Int32) : Int32 × (Nat → Int32) × (Nat → Int32) × (Nat → Int32) := match c with
  | 0 => ((d_X13_doAddMember x y n f g).1, (d_X13_doAddMember x y n f g).2.1, (d_X13_doAddMember x y n f g).2.2, gq)
  | 1 => d_X13_doAssign x n f g gq
  | 2 => ((d_X13_doSetRule x f g).1, (d_X13_doSetRule x f g).2.1, (d_X13_doSetRule x f g).2.2, gq)
  | 3 => ((d_X13_doSell x y n f g).1, (d_X13_doSell x y n f g).2.1, (d_X13_doSell x y n f g).2.2, gq)
  | 4 => ((d_X13_doAudit x n f g).1, (d_X13_doAudit x n f g).2.1, (d_X13_doAudit x n f g).2.2, gq)
  | 5 => ((d_X13_doClose n f g).1, f, (d_X13_doClose n f g).2, gq)
  | 6 => ((d_X13_doLink x y 1 n f g).1, (d_X13_doLink x y 1 n f g).2.1, (d_X13_doLink x y 1 n f g).2.2, gq)
  | 7 => ((d_X13_doLink x y 0 n f g).1, (d_X13_doLink x y 0 n f g).2.1, (d_X13_doLink x y 0 n f g).2.2, gq)
  | 8 => ((d_X13_doPardon x n f g).1, (d_X13_doPardon x n f g).2.1, (d_X13_doPardon x n f g).2.2, gq)
  | 9 => ((d_X13_doSetThreshold x f g).1, (d_X13_doSetThreshold x f g).2.1, (d_X13_doSetThreshold x f g).2.2, gq)
  | _ => ((d_X13_doSetSeed x f g).1, (d_X13_doSetSeed x f g).2.1, (d_X13_doSetSeed x f g).2.2, gq)
/-- the place of the exception in the method's list -/
def pm_pl (c : Nat) (q : Int32) : Int32 := if q = -1 then 1 else if q = -2 then (if c = 3 ∨ c = 6 ∨ c = 7 then 2 else 1) else (if c = 3 ∨ c = 6 ∨ c = 7 then 3 else 2)
/-- class and reference answer alike -/
def pm_EQ (B n c : Nat) (x y : Int32) (r q rm dr f g gq : Nat → Int32) : Prop :=
  ((d_X7_ref c x y n r).1 = 0 ∧ (pm_mc c x y n f g gq).1 = (d_X7_do c x y n r q rm dr).1 ∧ (∀ j, j ≠ 13 → (pm_mc c x y n f g gq).2.1 j = f j) ∧ ∃ n', pm_RS n' (d_X7_do c x y n r q rm dr).2.1 (pm_mc c x y n f g gq).2.2.1 ∧ pm_I (B + 693) n' (d_X7_do c x y n r q rm dr).2.1) ∨
  (((d_X7_ref c x y n r).1 = -1 ∨ (d_X7_ref c x y n r).1 = -2) ∧ pm_mc c x y n f g gq = (0, upd f 6 (pm_pl c (d_X7_ref c x y n r).1), g, gq)) ∨
  (0 < (d_X7_ref c x y n r).1 ∧ pm_mc c x y n f g gq = (0, upd (upd (upd f 7 (d_X7_ref c x y n r).1) 8 (d_X7_ref c x y n r).2) 6 (pm_pl c (d_X7_ref c x y n r).1), g, gq))
theorem pm_EQ_t {B n c : Nat} {x y : Int32} {r q rm dr f g gq : Nat → Int32} {e2 : Int32 × Int32} (e : d_X7_ref c x y n r = e2) (h1 : e2.1 = -1 ∨ e2.1 = -2) (h2 : pm_mc c x y n f g gq = (0, upd f 6 (pm_pl c e2.1), g, gq)) : pm_EQ B n c x y r q rm dr f g gq := Or.inr (Or.inl (by rw [e]; exact ⟨h1, h2⟩))
theorem pm_EQ_d {B n c : Nat} {x y : Int32} {r q rm dr f g gq : Nat → Int32} {e2 : Int32 × Int32} (e : d_X7_ref c x y n r = e2) (h1 : 0 < e2.1) (h2 : pm_mc c x y n f g gq = (0, upd (upd (upd f 7 e2.1) 8 e2.2) 6 (pm_pl c e2.1), g, gq)) : pm_EQ B n c x y r q rm dr f g gq := Or.inr (Or.inr (by rw [e]; exact ⟨h1, h2⟩))
theorem pm_EQ_k {B n c n' : Nat} {x y v : Int32} {r q rm dr f g gq r' f' g' : Nat → Int32} (e : (d_X7_ref c x y n r).1 = 0) (e1 : (d_X7_do c x y n r q rm dr).1 = v) (e2 : (d_X7_do c x y n r q rm dr).2.1 = r') (m1 : (pm_mc c x y n f g gq).1 = v) (m2 : (pm_mc c x y n f g gq).2.1 = f') (m3 : (pm_mc c x y n f g gq).2.2.1 = g') (hf : ∀ j, j ≠ 13 → f' j = f j) (hR : pm_RS n' r' g') (hI : pm_I (B + 693) n' r') : pm_EQ B n c x y r q rm dr f g gq := Or.inl ⟨e, m1.trans e1.symm, fun j hj => by rw [m2]; exact hf j hj, n', by rw [e2, m3]; exact hR, by rw [e2]; exact hI⟩
/-- doSetRule -/
theorem pm_eqc2 {B n : Nat} {x y : Int32} {r q rm dr f g gq : Nat → Int32} (hR : pm_RS n r g) (hI : pm_I B n r) : pm_EQ B n 2 x y r q rm dr f g gq := by
  obtain ⟨⟨i0, i7, i1, ⟨i2, i2l⟩, ⟨it, i3, i3a, i3b⟩, ia, ib, i5, i6, iB⟩, iw, il⟩ := id hI
  obtain ⟨⟨s0, s1, s2, s3, s4, s5, s6⟩, sm, sl⟩ := id hR
  by_cases h1 : pm_in x 0 1 = 0
  · exact pm_EQ_t (e2 := (-2, 0)) (by simp only [d_X7_ref, d_X7_refusal2, d_X7_refusalOfValue, if_pos h1] <;> rfl) (Or.inr rfl) (by simp only [pm_mc, d_X13_doSetRule, if_pos h1] <;> rfl)
  obtain ⟨xk, hx, hxl, hxh⟩ := pm_inR (lo := 0) (hi := 1) (by decide) (by decide) h1
  by_cases h2 : x = r 1
  · exact pm_EQ_d (e2 := (7, r 1)) (by simp only [d_X7_ref, d_X7_refusal2, d_X7_refusalOfValue, if_neg h1, if_pos h2] <;> rfl) (show (0 : Int32) < 7 by decide) (by simp only [pm_mc, d_X13_doSetRule, if_neg h1, s1, if_pos h2] <;> rw [h2] <;> rfl)
  have e : d_X7_ref 2 x y n r = (0, 0) := by simp only [d_X7_ref, d_X7_refusal2, d_X7_refusalOfValue, if_neg h1, if_neg h2] <;> rfl
  have m : pm_mc 2 x y n f g gq = (1 - x, f, upd g 1 x, gq) := by simp only [pm_mc, d_X13_doSetRule, if_neg h1, s1, if_neg h2] <;> rfl
  refine pm_EQ_k (n' := n) (r' := upd r 1 x) (by rw [e]) (show r 1 = 1 - x by rcases i1 with p | p <;> rcases (show xk = 0 ∨ xk = 1 by omega) with rfl | rfl <;> first | (exact absurd (hx.trans p.symm) h2) | (rw [p, hx]; rfl)) rfl (by rw [m]) (by rw [m]) (by rw [m]) (fun j _ => rfl) ⟨?_, fun i hi => pm_RSm_of (fun w hw => pk_un (by omega)) (fun w hw => pk_un (by omega)) (sm i hi), pm_RSl_of (fun i hi => pk_un (by omega)) (fun k hk => pk_un (by omega)) sl⟩ ⟨?_, fun i hi => pm_rw_of (fun w hw => pk_un (by omega)) (iw i hi), pm_Il_of (fun i hi => pk_un (by omega)) il⟩
  · refine ⟨?_, ?_, ?_, ?_, ?_, ?_, ?_⟩ <;> simp (disch := omega) only [pk_us, pk_un] <;> assumption
  · refine ⟨by simp (disch := omega) only [pk_us, pk_un]; exact i0, i7, ?_, ⟨by simp (disch := omega) only [pk_us, pk_un]; exact i2, by simp (disch := omega) only [pk_us, pk_un]; exact i2l⟩, ⟨it, by simp (disch := omega) only [pk_us, pk_un]; exact i3, i3a, i3b⟩, ia, ib, by simp (disch := omega) only [pk_us, pk_un]; exact i5, by simp (disch := omega) only [pk_us, pk_un]; exact i6, by omega⟩
    simp (disch := omega) only [pk_us, pk_un]
    rcases (show xk = 0 ∨ xk = 1 by omega) with rfl | rfl
    · exact Or.inl hx
    · exact Or.inr hx
/-- doSetThreshold -/
theorem pm_eqc9 {B n : Nat} {x y : Int32} {r q rm dr f g gq : Nat → Int32} (hR : pm_RS n r g) (hI : pm_I B n r) : pm_EQ B n 9 x y r q rm dr f g gq := by
  obtain ⟨⟨i0, i7, i1, ⟨i2, i2l⟩, ⟨it, i3, i3a, i3b⟩, ia, ib, i5, i6, iB⟩, iw, il⟩ := id hI
  obtain ⟨⟨s0, s1, s2, s3, s4, s5, s6⟩, sm, sl⟩ := id hR
  by_cases h1 : pm_in x 1 99 = 0
  · exact pm_EQ_t (e2 := (-2, 0)) (by simp only [d_X7_ref, d_X7_refusal9, d_X7_refusalOfValue, if_pos h1] <;> rfl) (Or.inr rfl) (by simp only [pm_mc, d_X13_doSetThreshold, if_pos h1] <;> rfl)
  obtain ⟨xk, hx, hxl, hxh⟩ := pm_inR (lo := 1) (hi := 99) (by decide) (by decide) h1
  by_cases h2 : x = r 3
  · exact pm_EQ_d (e2 := (7, r 3)) (by simp only [d_X7_ref, d_X7_refusal9, d_X7_refusalOfValue, if_neg h1, if_pos h2] <;> rfl) (show (0 : Int32) < 7 by decide) (by simp only [pm_mc, d_X13_doSetThreshold, if_neg h1, s3, if_pos h2] <;> rw [h2] <;> rfl)
  have e : d_X7_ref 9 x y n r = (0, 0) := by simp only [d_X7_ref, d_X7_refusal9, d_X7_refusalOfValue, if_neg h1, if_neg h2] <;> rfl
  have m : pm_mc 9 x y n f g gq = (r 3, f, upd g 3 x, gq) := by simp only [pm_mc, d_X13_doSetThreshold, if_neg h1, s3, if_neg h2] <;> rfl
  refine pm_EQ_k (n' := n) (r' := upd r 3 x) (by rw [e]) rfl rfl (by rw [m]; rfl) (by rw [m]) (by rw [m]) (fun j _ => rfl) ⟨?_, fun i hi => pm_RSm_of (fun w hw => pk_un (by omega)) (fun w hw => pk_un (by omega)) (sm i hi), pm_RSl_of (fun i hi => pk_un (by omega)) (fun k hk => pk_un (by omega)) sl⟩ ⟨?_, fun i hi => pm_rw_of (fun w hw => pk_un (by omega)) (iw i hi), pm_Il_of (fun i hi => pk_un (by omega)) il⟩
  · refine ⟨?_, ?_, ?_, ?_, ?_, ?_, ?_⟩ <;> simp (disch := omega) only [pk_us, pk_un] <;> assumption
  · refine ⟨by simp (disch := omega) only [pk_us, pk_un]; exact i0, i7, by simp (disch := omega) only [pk_us, pk_un]; exact i1, ⟨by simp (disch := omega) only [pk_us, pk_un]; exact i2, by simp (disch := omega) only [pk_us, pk_un]; exact i2l⟩, ⟨xk, by simp (disch := omega) only [pk_us, pk_un]; exact hx, hxl, hxh⟩, ia, ib, by simp (disch := omega) only [pk_us, pk_un]; exact i5, by simp (disch := omega) only [pk_us, pk_un]; exact i6, by omega⟩
/-- doSetSeed -/
theorem pm_eqc10 {B n : Nat} {x y : Int32} {r q rm dr f g gq : Nat → Int32} (hR : pm_RS n r g) (hI : pm_I B n r) : pm_EQ B n 10 x y r q rm dr f g gq := by
  obtain ⟨⟨i0, i7, i1, ⟨i2, i2l⟩, ⟨it, i3, i3a, i3b⟩, ia, ib, i5, i6, iB⟩, iw, il⟩ := id hI
  obtain ⟨⟨s0, s1, s2, s3, s4, s5, s6⟩, sm, sl⟩ := id hR
  by_cases h1 : pm_in x 0 1023 = 0
  · exact pm_EQ_t (e2 := (-2, 0)) (by simp only [d_X7_ref, d_X7_refusal10, d_X7_refusalOfRange, if_pos h1] <;> rfl) (Or.inr rfl) (by simp only [pm_mc, d_X13_doSetSeed, if_pos h1] <;> rfl)
  obtain ⟨xk, hx, hxl, hxh⟩ := pm_inR (lo := 0) (hi := 1023) (by decide) (by decide) h1
  have e : d_X7_ref 10 x y n r = (0, 0) := by simp only [d_X7_ref, d_X7_refusal10, d_X7_refusalOfRange, if_neg h1] <;> rfl
  have m : pm_mc 10 x y n f g gq = (g 2, f, upd g 2 x, gq) := by simp only [pm_mc, d_X13_doSetSeed, if_neg h1] <;> rfl
  refine pm_EQ_k (n' := n) (r' := upd r 2 x) (by rw [e]) s2.symm rfl (by rw [m]) (by rw [m]) (by rw [m]) (fun j _ => rfl) ⟨?_, fun i hi => pm_RSm_of (fun w hw => pk_un (by omega)) (fun w hw => pk_un (by omega)) (sm i hi), pm_RSl_of (fun i hi => pk_un (by omega)) (fun k hk => pk_un (by omega)) sl⟩ ⟨?_, fun i hi => pm_rw_of (fun w hw => pk_un (by omega)) (iw i hi), pm_Il_of (fun i hi => pk_un (by omega)) il⟩
  · refine ⟨?_, ?_, ?_, ?_, ?_, ?_, ?_⟩ <;> simp (disch := omega) only [pk_us, pk_un] <;> assumption
  · refine ⟨by simp (disch := omega) only [pk_us, pk_un]; exact i0, i7, by simp (disch := omega) only [pk_us, pk_un]; exact i1, ⟨?_, ?_⟩, ⟨it, by simp (disch := omega) only [pk_us, pk_un]; exact i3, i3a, i3b⟩, ia, ib, by simp (disch := omega) only [pk_us, pk_un]; exact i5, by simp (disch := omega) only [pk_us, pk_un]; exact i6, by omega⟩
    · simp (disch := omega) only [pk_us, pk_un]
      rw [hx, pm_n_nI (by omega)]
    · simp (disch := omega) only [pk_us, pk_un]
      rw [hx, pm_n_nI (by omega)]
      omega
/-- joining -/
theorem pm_eqc0 {B n : Nat} {x y : Int32} {r q rm dr f g gq : Nat → Int32} (hR : pm_RS n r g) (hI : pm_I B n r) : pm_EQ B n 0 x y r q rm dr f g gq := by
  obtain ⟨⟨i0, i7, i1, ⟨i2, i2l⟩, ⟨it, i3, i3a, i3b⟩, ia, ib, i5, i6, iB⟩, iw, il⟩ := id hI
  obtain ⟨⟨s0, s1, s2, s3, s4, s5, s6⟩, sm, sl⟩ := id hR
  by_cases h1 : pm_in x 1 99 = 0
  · exact pm_EQ_t (e2 := (-2, 0)) (by simp only [d_X7_ref, d_X7_refusal0, d_X7_refusalOfJoin, if_pos h1] <;> rfl) (Or.inr rfl) (by simp only [pm_mc, d_X13_doAddMember, if_pos h1] <;> rfl)
  by_cases h2 : pm_in y 1 20 = 0
  · exact pm_EQ_t (e2 := (-2, 0)) (by simp only [d_X7_ref, d_X7_refusal0, d_X7_refusalOfJoin, if_neg h1, if_pos h2] <;> rfl) (Or.inr rfl) (by simp only [pm_mc, d_X13_doAddMember, if_neg h1, if_pos h2] <;> rfl)
  by_cases h3 : n = 7
  · subst h3
    exact pm_EQ_d (e2 := (1, 7)) (by simp only [d_X7_ref, d_X7_refusal0, d_X7_refusalOfJoin, if_neg h1, if_neg h2] <;> rfl) (by decide) (by simp only [pm_mc, d_X13_doAddMember, if_neg h1, if_neg h2] <;> rfl)
  have h4 : ¬ (7 : Int32) ≤ nI n := nI_ge (b := 7) (a := n) (by omega) (by omega)
  have h5 : ¬ nI n = 7 := fun e => h3 ((nI_eq (b := 7) (by omega) (by omega)).mp e)
  have e : d_X7_ref 0 x y n r = (0, 0) := by simp only [d_X7_ref, d_X7_refusal0, d_X7_refusalOfJoin, if_neg h1, if_neg h2, if_neg h4] <;> rfl
  have m : pm_mc 0 x y n f g gq = (nI n, f, (upd (upd (upd (upd (upd (upd g (7 + 5 * n + 0) x) (7 + 5 * n + 1) y) (7 + 5 * n + 2) 0) (7 + 5 * n + 3) 0) (7 + 5 * n + 4) 0) 0 ((nI n) + 1)), gq) := by simp only [pm_mc, d_X13_doAddMember, if_neg h1, if_neg h2, if_neg h5] <;> rfl
  obtain ⟨xk, hx, hxl, hxh⟩ := pm_inR (lo := 1) (hi := 99) (by decide) (by decide) h1
  obtain ⟨yk, hy, hyl, hyh⟩ := pm_inR (lo := 1) (hi := 20) (by decide) (by decide) h2
  refine pm_EQ_k (n' := n + 1) (v := nI n) (r' := upd (pm_r6 r n x y 0 0 0 0) 0 (pm_r6 r n x y 0 0 0 0 0 + 1)) (by rw [e]) rfl rfl (by rw [m]) (by rw [m]) (by rw [m]) (fun j _ => rfl) ⟨?_, fun i hi => ?_, ?_⟩ ⟨?_, fun i hi => ?_, ?_⟩
  · refine ⟨?_, ?_, ?_, ?_, ?_, ?_, ?_⟩ <;> simp (disch := omega) only [pk_us, pk_un, pm_r6] <;> first | assumption | rw [i0]
  · by_cases hin : i < n
    · refine pm_RSm_of (fun w hw => ?_) (fun w hw => ?_) (sm i hin) <;> simp (disch := omega) only [pk_us, pk_un, pm_r6]
    · obtain rfl : i = n := by omega
      refine ⟨?_, ?_, ?_, ?_, ?_⟩ <;> simp (disch := omega) only [pk_us, pk_un, pm_r6] <;> rfl
  · refine pm_RSl_of (fun i hi => ?_) (fun k hk => ?_) sl <;> simp (disch := omega) only [pk_us, pk_un, pm_r6]
  · refine ⟨?_, by omega, ?_, ⟨?_, ?_⟩, ⟨it, ?_, i3a, i3b⟩, ia, ib, ?_, ?_, by omega⟩ <;> simp (disch := omega) only [pk_us, pk_un, pm_r6] <;> first | assumption | rw [i0, nI_1]
  · by_cases hin : i < n
    · refine pm_rw_of (fun w hw => ?_) (iw i hin) <;> simp (disch := omega) only [pk_us, pk_un, pm_r6]
    · obtain rfl : i = n := by omega
      unfold pm_rw
      simp (disch := omega) only [pk_us, pk_un, pm_r6]
      rw [hx, hy, pm_n_nI (by omega), pm_n_nI (by omega)]
      exact ⟨⟨rfl, hxl, hxh⟩, ⟨rfl, hyl, hyh⟩, ⟨by decide, by decide⟩, ⟨by decide, by rw [show pm_n 0 = 0 from by decide]; omega⟩, Or.inl ⟨trivial, trivial⟩⟩
  · refine pm_Il_le (Nat.le_succ n) (pm_Il_of (fun i hi => ?_) il) <;> simp (disch := omega) only [pk_us, pk_un, pm_r6]
theorem pm_std {r g : Nat → Int32} {i : Nat} (hw : pm_rw r i) (hs : pm_RSm r g i) : (r (7 + 6 * i + 4) = 0 ∧ r (7 + 6 * i + 5) = 0 ∧ g (7 + 5 * i + 4) = 0) ∨ (r (7 + 6 * i + 4) = 1 ∧ r (7 + 6 * i + 5) = 0 ∧ g (7 + 5 * i + 4) = 1) ∨ (r (7 + 6 * i + 4) = 2 ∧ r (7 + 6 * i + 5) = 0 ∧ g (7 + 5 * i + 4) = 2) ∨ (r (7 + 6 * i + 4) = 0 ∧ r (7 + 6 * i + 5) = 1 ∧ g (7 + 5 * i + 4) = -1) ∨ (r (7 + 6 * i + 4) = 0 ∧ r (7 + 6 * i + 5) = 2 ∧ g (7 + 5 * i + 4) = -2) := by
  have e := hs.2.2.2.2
  rcases hw.2.2.2.2 with ⟨a, b⟩ | ⟨a, b⟩ | ⟨a, b⟩ | ⟨a, b⟩ | ⟨a, b⟩ <;> rw [a, b] at e
  · exact Or.inl ⟨a, b, e⟩
  · exact Or.inr (Or.inl ⟨a, b, e⟩)
  · exact Or.inr (Or.inr (Or.inl ⟨a, b, e⟩))
  · exact Or.inr (Or.inr (Or.inr (Or.inl ⟨a, b, e⟩)))
  · exact Or.inr (Or.inr (Or.inr (Or.inr ⟨a, b, e⟩)))
theorem pm_loy {r g : Nat → Int32} {i : Nat} (hw : pm_rw r i) (hs : pm_RSm r g i) : (r (7 + 6 * i + 5) = 0 ∧ r (7 + 6 * i + 4) = 0) ↔ g (7 + 5 * i + 4) = 0 := by
  rcases pm_std hw hs with ⟨a, b, c⟩ | ⟨a, b, c⟩ | ⟨a, b, c⟩ | ⟨a, b, c⟩ | ⟨a, b, c⟩ <;> rw [a, b, c] <;> decide
theorem pm_bar {r g : Nat → Int32} {i : Nat} (hw : pm_rw r i) (hs : pm_RSm r g i) : r (7 + 6 * i + 5) = 0 ↔ pm_ib g i = 0 := by
  unfold pm_ib
  rcases pm_std hw hs with ⟨a, b, c⟩ | ⟨a, b, c⟩ | ⟨a, b, c⟩ | ⟨a, b, c⟩ | ⟨a, b, c⟩ <;> rw [b, c] <;> decide
theorem pm_loyL {x : Int32} {r g : Nat → Int32} : ∀ (k j : Nat) (a : Int32), (∀ i, j ≤ i → i < j + k → ((r (7 + 6 * i + 5) = 0 ∧ r (7 + 6 * i + 4) = 0) ↔ (upd g (7 + 5 * (pm_n x) + 4) 0) (7 + 5 * i + 4) = 0)) → d_X13_doPardon_L1 x g k j a = d_X10_loyalCount_L1 r k j a := by
  intro k
  induction k with
  | zero => intro j a _; rfl
  | succ k ih =>
    intro j a h
    have hj := h j (Nat.le_refl _) (by omega)
    simp only [d_X13_doPardon_L1, d_X10_loyalCount_L1]
    rw [ih (j + 1) _ (fun i h1 h2 => h i (by omega) (by omega)), ih (j + 1) _ (fun i h1 h2 => h i (by omega) (by omega))]
    by_cases hc : (upd g (7 + 5 * (pm_n x) + 4) 0) (7 + 5 * j + 4) = 0
    · rw [if_pos hc, if_pos (hj.mpr hc)]
    · rw [if_neg hc, if_neg (fun e => hc (hj.mp e))]
/-- pardon -/
theorem pm_eqc8 {B n : Nat} {x y : Int32} {r q rm dr f g gq : Nat → Int32} (hR : pm_RS n r g) (hI : pm_I B n r) : pm_EQ B n 8 x y r q rm dr f g gq := by
  obtain ⟨⟨i0, i7, i1, ⟨i2, i2l⟩, ⟨it, i3, i3a, i3b⟩, ia, ib, i5, i6, iB⟩, iw, il⟩ := id hI
  obtain ⟨⟨s0, s1, s2, s3, s4, s5, s6⟩, sm, sl⟩ := id hR
  by_cases h1 : d_X10_hasMember x n r = 0
  · exact pm_EQ_t (e2 := (-1, 0)) (by simp only [d_X7_ref, d_X7_refusal8, d_X7_refusalOfPardon, if_pos h1] <;> rfl) (Or.inl rfl) (by simp only [pm_mc, d_X13_doPardon, pm_hm (r := r) i7, if_pos h1] <;> rfl)
  obtain ⟨i, hi, rfl⟩ := pm_hmx i7 h1
  have hlo := pm_loy (iw i hi) (sm i hi)
  have ei : pm_n (nI i) = i := pm_n_nI (by omega)
  by_cases h2 : r (7 + 6 * i + 5) = 0 ∧ r (7 + 6 * i + 4) = 0
  · exact pm_EQ_d (e2 := (5, nI i)) (by simp only [d_X7_ref, d_X7_refusal8, d_X7_refusalOfPardon, if_neg h1, ei, if_pos h2] <;> rfl) (show (0 : Int32) < 5 by decide) (by simp only [pm_mc, d_X13_doPardon, pm_hm (r := r) i7, if_neg h1, ei, if_pos (hlo.mp h2)] <;> rfl)
  have e : d_X7_ref 8 (nI i) y n r = (0, 0) := by simp only [d_X7_ref, d_X7_refusal8, d_X7_refusalOfPardon, if_neg h1, ei, if_neg h2] <;> rfl
  have m : pm_mc 8 (nI i) y n f g gq = (d_X13_doPardon_L1 (nI i) g n 0 0, f, upd g (7 + 5 * i + 4) 0, gq) := by simp only [pm_mc, d_X13_doPardon, pm_hm (r := r) i7, if_neg h1, ei, if_neg (fun e => h2 (hlo.mpr e))] <;> rfl
  have hw : ∀ k, k < n → pm_rw (upd (upd r (7 + 6 * i + 4) 0) (7 + 6 * i + 5) 0) k := by
    intro k hk
    by_cases hki : k = i
    · subst hki
      obtain ⟨a, b, c, d, _⟩ := iw k hk
      unfold pm_rw
      simp (disch := omega) only [pk_us, pk_un]
      exact ⟨a, b, c, d, Or.inl ⟨trivial, trivial⟩⟩
    · exact pm_rw_of (fun w hw => by simp (disch := omega) only [pk_un]) (iw k hk)
  have hs : ∀ k, k < n → pm_RSm (upd (upd r (7 + 6 * i + 4) 0) (7 + 6 * i + 5) 0) (upd g (7 + 5 * i + 4) 0) k := by
    intro k hk
    by_cases hki : k = i
    · subst hki
      obtain ⟨a, b, c, d, _⟩ := sm k hk
      unfold pm_RSm
      simp (disch := omega) only [pk_us, pk_un]
      exact ⟨a, b, c, d, rfl⟩
    · exact pm_RSm_of (fun w hw => by simp (disch := omega) only [pk_un]) (fun w hw => by simp (disch := omega) only [pk_un]) (sm k hk)
  refine pm_EQ_k (n' := n) (r' := upd (upd r (7 + 6 * i + 4) 0) (7 + 6 * i + 5) 0) (v := d_X10_loyalCount n (upd (upd r (7 + 6 * i + 4) 0) (7 + 6 * i + 5) 0)) (by rw [e]) (by simp only [d_X7_do, d_X7_do8, d_X7_forgive, ei]) (by simp only [d_X7_do, d_X7_do8, d_X7_forgive, ei]) (by rw [m]; exact pm_loyL n 0 0 (fun k _ hk => by rw [ei]; exact pm_loy (hw k (by omega)) (hs k (by omega)))) (by rw [m]) (by rw [m]) (fun j _ => rfl) ⟨?_, hs, ?_⟩ ⟨?_, hw, ?_⟩
  · refine ⟨?_, ?_, ?_, ?_, ?_, ?_, ?_⟩ <;> simp (disch := omega) only [pk_us, pk_un] <;> assumption
  · exact pm_RSl_of (fun k hk => by simp (disch := omega) only [pk_us, pk_un]) (fun k hk => by simp (disch := omega) only [pk_us, pk_un]) sl
  · refine ⟨?_, i7, ?_, ⟨?_, ?_⟩, ⟨it, ?_, i3a, i3b⟩, ia, ib, ?_, ?_, by omega⟩ <;> simp (disch := omega) only [pk_us, pk_un] <;> assumption
  · exact pm_Il_of (fun k hk => by simp (disch := omega) only [pk_us, pk_un]) il
/-- sale -/
theorem pm_eqc3 {B n : Nat} {x y : Int32} {r q rm dr f g gq : Nat → Int32} (hR : pm_RS n r g) (hI : pm_I B n r) : pm_EQ B n 3 x y r q rm dr f g gq := by
  obtain ⟨⟨i0, i7, i1, ⟨i2, i2l⟩, ⟨it, i3, i3a, i3b⟩, ia, ib, i5, i6, iB⟩, iw, il⟩ := id hI
  obtain ⟨⟨s0, s1, s2, s3, s4, s5, s6⟩, sm, sl⟩ := id hR
  by_cases h1 : d_X10_hasMember x n r = 0
  · exact pm_EQ_t (e2 := (-1, 0)) (by simp only [d_X7_ref, d_X7_refusal3, d_X7_refusalOfSale, if_pos h1] <;> rfl) (Or.inl rfl) (by simp only [pm_mc, d_X13_doSell, pm_hm (r := r) i7, if_pos h1] <;> rfl)
  by_cases h2 : pm_in y 1 99 = 0
  · exact pm_EQ_t (e2 := (-2, 0)) (by simp only [d_X7_ref, d_X7_refusal3, d_X7_refusalOfSale, if_neg h1, if_pos h2] <;> rfl) (Or.inr rfl) (by simp only [pm_mc, d_X13_doSell, pm_hm (r := r) i7, if_neg h1, if_pos h2] <;> rfl)
  obtain ⟨i, hi, rfl⟩ := pm_hmx i7 h1
  obtain ⟨yk, rfl, hyl, hyh⟩ := pm_inR (lo := 1) (hi := 99) (by decide) (by decide) h2
  have ei : pm_n (nI i) = i := pm_n_nI (by omega)
  have hb := pm_bar (iw i hi) (sm i hi)
  obtain ⟨c0, c1, c2, c3, c4⟩ := sm i hi
  by_cases h3 : r (7 + 6 * i + 5) = 0
  · obtain ⟨⟨w0, w0a, w0b⟩, w1, w2, ⟨w3, w3a⟩, w4⟩ := id (iw i hi)
    have er : r (7 + 6 * i + 0) - r (7 + 6 * i + 3) = nI (pm_n (r (7 + 6 * i + 0)) - pm_n (r (7 + 6 * i + 3))) := by rw [w0, w3, pm_n_nI (by omega), pm_n_nI (by omega), pq_sub w3a]
    have eg : g (7 + 5 * i + 0) - g (7 + 5 * i + 3) = nI (pm_n (r (7 + 6 * i + 0)) - pm_n (r (7 + 6 * i + 3))) := by rw [c0, c3, er]
    by_cases h4 : pm_n (r (7 + 6 * i + 0)) - pm_n (r (7 + 6 * i + 3)) < yk
    · have h5 : nI (pm_n (r (7 + 6 * i + 0)) - pm_n (r (7 + 6 * i + 3))) < nI yk := nI_lt h4 (by omega)
      have h6 : ¬ nI yk ≤ nI (pm_n (r (7 + 6 * i + 0)) - pm_n (r (7 + 6 * i + 3))) := nI_ge h4 (by omega)
      exact pm_EQ_d (e2 := (3, nI (pm_n (r (7 + 6 * i + 0)) - pm_n (r (7 + 6 * i + 3))))) (by simp only [d_X7_ref, d_X7_refusal3, d_X7_refusalOfSale, if_neg h1, if_neg h2, ei, if_pos h3, er, if_pos h5] <;> rfl) (show (0 : Int32) < 3 by decide) (by simp only [pm_mc, d_X13_doSell, pm_hm (r := r) i7, if_neg h1, if_neg h2, ei, if_pos (hb.mp h3), eg, if_neg h6] <;> rfl)
    have h5 : ¬ nI (pm_n (r (7 + 6 * i + 0)) - pm_n (r (7 + 6 * i + 3))) < nI yk := nI_nlt (by omega) (by omega)
    have h6 : nI yk ≤ nI (pm_n (r (7 + 6 * i + 0)) - pm_n (r (7 + 6 * i + 3))) := nI_le (by omega) (by omega)
    have e : d_X7_ref 3 (nI i) (nI yk) n r = (0, 0) := by simp only [d_X7_ref, d_X7_refusal3, d_X7_refusalOfSale, if_neg h1, if_neg h2, ei, if_pos h3, er, if_neg h5] <;> rfl
    have m : pm_mc 3 (nI i) (nI yk) n f g gq = (r (7 + 6 * i + 3) + nI yk, f, upd g (7 + 5 * i + 3) (r (7 + 6 * i + 3) + nI yk), gq) := by simp only [pm_mc, d_X13_doSell, pm_hm (r := r) i7, if_neg h1, if_neg h2, ei, if_pos (hb.mp h3), eg, if_pos h6] <;> rw [c3]
    have hw : ∀ k, k < n → pm_rw (upd r (7 + 6 * i + 3) (r (7 + 6 * i + 3) + nI yk)) k := by
      intro k hk
      by_cases hki : k = i
      · subst hki
        unfold pm_rw
        simp (disch := omega) only [pk_us, pk_un]
        refine ⟨⟨w0, w0a, w0b⟩, w1, w2, ?_, w4⟩
        rw [w3, nI_add, pm_n_nI (by omega)]
        exact ⟨rfl, by omega⟩
      · exact pm_rw_of (fun w hw => by simp (disch := omega) only [pk_un]) (iw k hk)
    have hs : ∀ k, k < n → pm_RSm (upd r (7 + 6 * i + 3) (r (7 + 6 * i + 3) + nI yk)) (upd g (7 + 5 * i + 3) (r (7 + 6 * i + 3) + nI yk)) k := by
      intro k hk
      by_cases hki : k = i
      · subst hki
        unfold pm_RSm
        simp (disch := omega) only [pk_us, pk_un]
        exact ⟨c0, c1, c2, trivial, c4⟩
      · exact pm_RSm_of (fun w hw => by simp (disch := omega) only [pk_un]) (fun w hw => by simp (disch := omega) only [pk_un]) (sm k hk)
    refine pm_EQ_k (n' := n) (r' := upd r (7 + 6 * i + 3) (r (7 + 6 * i + 3) + nI yk)) (v := r (7 + 6 * i + 3) + nI yk) (by rw [e]) (by simp only [d_X7_do, d_X7_do3, d_X7_sellUnits, ei]) (by simp only [d_X7_do, d_X7_do3, d_X7_sellUnits, ei]) (by rw [m]) (by rw [m]) (by rw [m]) (fun j _ => rfl) ⟨?_, hs, ?_⟩ ⟨?_, hw, ?_⟩
    · refine ⟨?_, ?_, ?_, ?_, ?_, ?_, ?_⟩ <;> simp (disch := omega) only [pk_us, pk_un] <;> assumption
    · exact pm_RSl_of (fun k hk => by simp (disch := omega) only [pk_us, pk_un]) (fun k hk => by simp (disch := omega) only [pk_us, pk_un]) sl
    · refine ⟨?_, i7, ?_, ⟨?_, ?_⟩, ⟨it, ?_, i3a, i3b⟩, ia, ib, ?_, ?_, by omega⟩ <;> simp (disch := omega) only [pk_us, pk_un] <;> assumption
    · exact pm_Il_of (fun k hk => by simp (disch := omega) only [pk_us, pk_un]) il
  · have en : -(g (7 + 5 * i + 4)) = r (7 + 6 * i + 5) := by
      rcases pm_std (iw i hi) (sm i hi) with ⟨a, b, c⟩ | ⟨a, b, c⟩ | ⟨a, b, c⟩ | ⟨a, b, c⟩ | ⟨a, b, c⟩ <;> rw [b, c] <;> first | decide | exact absurd b h3
    exact pm_EQ_d (e2 := (2, r (7 + 6 * i + 5))) (by simp only [d_X7_ref, d_X7_refusal3, d_X7_refusalOfSale, if_neg h1, if_neg h2, ei, if_neg h3] <;> rfl) (show (0 : Int32) < 2 by decide) (by simp only [pm_mc, d_X13_doSell, pm_hm (r := r) i7, if_neg h1, if_neg h2, ei, if_neg (fun e => h3 (hb.mpr e)), en] <;> rfl)
