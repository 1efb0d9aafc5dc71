theorem pw_cprE {r r2 : Nat → Int32} (h : pw_c r) (h2 : pw_c r2) : pm_cpr r r2 = r := by
  funext k
  show (if k < 56 then r k else r2 k) = r k
  by_cases hk : k < 56
  · rw [if_pos hk]
  · rw [if_neg hk, h k (by omega), h2 k (by omega)]
theorem pw_rle {B C : Nat} {r : Nat → Int32} (hB : B ≤ C) (h : pw_r B r) : pw_r C r := ⟨h.1, pm_I_le hB h.2⟩
theorem pw_rn {B n : Nat} {r : Nat → Int32} (h : pw_r B r) (h0 : r 0 = nI n) (hn : n ≤ 7) : pm_I B n r := by
  have e : pm_n (r 0) = n := by rw [h0]; exact pm_n_nI (by omega)
  rw [← e]; exact h.2
theorem pw_grB {B C : Nat} {r : Nat → Int32} {hs : List (Nat → Int32)} {u : Nat × List Nat} {g : pm_Cs} (hB : B ≤ C) (h : pw_g (B, r, hs, u) g) : pw_g (C, r, hs, u) g := by
  obtain ⟨h1, h2, h3, h4, ⟨h5, h6⟩, h7⟩ := h
  exact ⟨h1, h2, h3, h4, ⟨pw_rle hB h5, fun x hx => pw_rle hB (h6 x hx)⟩, h7⟩
theorem pw_WB {z : Nat} {kA : Nat → ClassId} {kE : Nat → Nat} {B C : Nat} {r : Nat → Int32} {hs : List (Nat → Int32)} {u : Nat × List Nat} {ar : List (Nat × va_E)} {nx : Nat} {M : pm_M} (hB : B ≤ C) (h : pw_W z kA kE (B, r, hs, u) ar nx M) : pw_W z kA kE (C, r, hs, u) ar nx M := by
  obtain ⟨h1, h2, h3, g, hT, hg⟩ := h
  exact ⟨h1, h2, h3, g, hT, pw_grB hB hg⟩
theorem pw_Wr {z : Nat} {kA : Nat → ClassId} {kE : Nat → Nat} {B : Nat} {r : Nat → Int32} {hs : List (Nat → Int32)} {u : Nat × List Nat} {ar : List (Nat × va_E)} {nx : Nat} {M : pm_M} (h : pw_W z kA kE (B, r, hs, u) ar nx M) : pw_r B r := by
  obtain ⟨-, -, -, g, -, hg⟩ := h
  exact hg.2.2.2.2.1.1
theorem pw_gk {B : Nat} {r r' q rm dr : Nat → Int32} {hs : List (Nat → Int32)} {u : Nat × List Nat} {g : pm_Cs} (hg : pw_g (B, r, hs, u) g) (hr' : pw_r (B + 693) r') : pw_g (B + 693, r', (r :: hs).take 8, u) (pm_kdo (pm_kep g (g.1 0)) r' q rm dr) := by
  obtain ⟨h1, h2, h3, ⟨h4, h5, h6, h7⟩, ⟨h8, h9⟩, h10, h11⟩ := hg
  have hc : pm_cpr (g.1 0) (g.2.1 ((g.2.2.1 0 + g.2.2.1 1) % 8)) = r := by rw [h1]; exact pw_cprE h8.1 (h3 _)
  have hL : ((r :: hs).take 8).length = if g.2.2.1 1 < 8 then g.2.2.1 1 + 1 else g.2.2.1 1 := by
    rw [List.length_take, List.length_cons, h5]
    dsimp only at h6 ⊢
    split <;> omega
  refine ⟨rfl, h2, fun i => ?_, ⟨?_, hL.symm, by rw [List.length_take]; omega, fun p hp => ?_⟩, ⟨hr', fun h hh => ?_⟩, h10, h11⟩
  · show pw_c (if i = (g.2.2.1 0 + g.2.2.1 1) % 8 then pm_cpr (g.1 0) (g.2.1 ((g.2.2.1 0 + g.2.2.1 1) % 8)) else g.2.1 i)
    split
    · rw [hc]; exact h8.1
    · exact h3 i
  · show (if g.2.2.1 1 < 8 then g.2.2.1 0 else (g.2.2.1 0 + 1) % 8) < 8
    split
    · exact h4
    · exact Nat.mod_lt _ (by decide)
  · have hr := pw_hk (f := g.2.1) (o := g.2.2.1 0) (hs := hs) (r := r) h4 h6 h7 p hp
    rw [← hr]
    show (if ((if g.2.2.1 1 < 8 then g.2.2.1 0 else (g.2.2.1 0 + 1) % 8) + p) % 8 = (g.2.2.1 0 + g.2.2.1 1) % 8 then pm_cpr (g.1 0) (g.2.1 ((g.2.2.1 0 + g.2.2.1 1) % 8)) else g.2.1 (((if g.2.2.1 1 < 8 then g.2.2.1 0 else (g.2.2.1 0 + 1) % 8) + p) % 8)) = _
    rw [hc, h5]
  · have h12 := List.mem_of_mem_take hh
    rcases List.mem_cons.mp h12 with rfl | h12
    · exact pw_rle (by omega) h8
    · exact pw_rle (by omega) (h9 h h12)
def pw_xc (d : Int32) : String := if d = -1 then "java/lang/IndexOutOfBoundsException" else if d = -2 then "java/lang/IllegalArgumentException" else "java/lang/UnsupportedOperationException"
theorem pw_xc1 {d : Int32} (h : pw_xc d = "java/lang/IndexOutOfBoundsException") : d = -1 := by
  unfold pw_xc at h
  by_cases h1 : d = -1
  · exact h1
  · rw [if_neg h1] at h
    by_cases h2 : d = -2
    · rw [if_pos h2] at h; exact absurd h (by decide)
    · rw [if_neg h2] at h; exact absurd h (by decide)
theorem pw_xc2 {d : Int32} (h : pw_xc d = "java/lang/IllegalArgumentException") : d = -2 := by
  unfold pw_xc at h
  by_cases h1 : d = -1
  · rw [if_pos h1] at h; exact absurd h (by decide)
  · rw [if_neg h1] at h
    by_cases h2 : d = -2
    · exact h2
    · rw [if_neg h2] at h; exact absurd h (by decide)
/-- a change: done, or refused with the world as it was -/
def pw_cF (z : Nat) (kA : Nat → ClassId) (kE : Nat → Nat) (B n : Nat) (r : Nat → Int32) (hs : List (Nat → Int32)) (u : Nat × List Nat) (ar : List (Nat × va_E)) (c : Nat) (x y : Int32) : pm_Po := fun o n' M' =>
  ((d_X7_ref c x y n r).1 = 0 ∧ ∃ v r', o = .inl (some (.int v)) ∧ pw_ok c n v r r' ∧ pw_W z kA kE (B + 693, r', (r :: hs).take 8, u) ar n' M') ∨ (¬ (d_X7_ref c x y n r).1 = 0 ∧ o = .inr (pw_xc (d_X7_ref c x y n r).1) ∧ pw_W z kA kE (B, r, hs, u) ar n' M')
/-- the same behind the law's handler -/
def pw_cg (z : Nat) (kA : Nat → ClassId) (kE : Nat → Nat) (B n : Nat) (r : Nat → Int32) (hs : List (Nat → Int32)) (u : Nat × List Nat) (ar : List (Nat × va_E)) (c : Nat) (x y : Int32) (h : List (String × Int32)) (v : Int32) (n' : Nat) (M' : pm_M) : Prop :=
  ((d_X7_ref c x y n r).1 = 0 ∧ ∃ r', pw_ok c n v r r' ∧ pw_W z kA kE (B + 693, r', (r :: hs).take 8, u) ar n' M') ∨ (¬ (d_X7_ref c x y n r).1 = 0 ∧ (∃ e ∈ h, e.1 = pw_xc (d_X7_ref c x y n r).1 ∧ v = e.2) ∧ pw_W z kA kE (B, r, hs, u) ar n' M')
theorem pw_cFv {z : Nat} {kA : Nat → ClassId} {kE : Nat → Nat} {B n : Nat} {r : Nat → Int32} {hs : List (Nat → Int32)} {u : Nat × List Nat} {ar : List (Nat × va_E)} {c : Nat} {x y : Int32} (w : Option Value) (n' : Nat) (M' : pm_M) (h : pw_cF z kA kE B n r hs u ar c x y (.inl w) n' M') : ∃ k : Int32, w = some (.int k) := by
  rcases h with ⟨-, v, r', h, -⟩ | ⟨-, h, -⟩
  · exact ⟨v, Sum.inl.inj h⟩
  · cases h
theorem a_X12_change {l : Launch} {z : Nat} {D : va_G} {kA : Nat → ClassId} {kE : Nat → Nat} {B n : Nat} {r : Nat → Int32} {hs : List (Nat → Int32)} {u : Nat × List Nat} {ar : List (Nat × va_E)} (hI : pm_I B n r) {c : Nat} {x y : Int32} (hc : c < 11) : ∀ nx M, (pw_W z kA kE (B, r, hs, u) ar) nx M → pm_C l z D kA kE yX12_change cX12_change 5 (some .int) 20 3 12 [.ref (z + 0), .ref (kE c), .int x, .int y] nx M (pw_cF z kA kE B n r hs u ar c x y) := by
  intro nx M hW
  have h7 : n ≤ 7 := hI.1.2.1
  obtain ⟨g, hT, hg⟩ := id hW.2.2.2
  have e : g.1 0 = r := hg.1
  obtain ⟨-, -, -, ⟨ho, hk, hk8, -⟩, ⟨hr, -⟩, -⟩ := id hg
  have h2 := hI.1.2.2.2.1
  dsimp only at hk hk8
  refine pm_Cpost (c_X12_changeT (n := n) hc hT (by rw [e]; exact hI.1.1) h7 hW.1 (by rw [e]; exact h2.1) (by rw [e]; exact h2.2) ho (by omega)) fun o n' M' hp => ?_
  obtain ⟨h1, h3, hp⟩ := hp
  rw [e] at hp
  rcases hp with ⟨h0, h5, h6, h8⟩ | ⟨h0, h5, h8⟩ | ⟨h0, h5, h8⟩ | ⟨h0, h01, h02, h5, -, -, h8⟩
  · obtain ⟨k1, k2, k3⟩ := pw_dok (q := g.1 3) (rm := g.1 4) (dr := g.1 5) hc hI h0
    refine Or.inl ⟨h0, _, _, h5, k1, pw_to hW h3 h1 h8 ?_⟩
    have hg2 := pw_gk (q := (d_X7_do c x y n r (g.1 3) (g.1 4) (g.1 5)).2.2.1) (rm := (d_X7_do c x y n r (g.1 3) (g.1 4) (g.1 5)).2.2.2.1) (dr := (d_X7_do c x y n r (g.1 3) (g.1 4) (g.1 5)).2.2.2.2) hg (r' := (d_X7_do c x y n r (g.1 3) (g.1 4) (g.1 5)).2.1) ⟨fun k hk => (k3 k hk).trans (hr.1 k hk), k2⟩
    rw [e] at hg2
    exact hg2
  · exact Or.inr ⟨by rw [h0]; decide, by rw [h5, h0]; rfl, pw_to hW h3 h1 h8 hg⟩
  · exact Or.inr ⟨by rw [h0]; decide, by rw [h5, h0]; rfl, pw_to hW h3 h1 h8 hg⟩
  · exact Or.inr ⟨h0, by rw [h5]; unfold pw_xc; rw [if_neg h01, if_neg h02], pw_to hW h3 h1 h8 hg⟩
theorem pw_cgW {z : Nat} {kA : Nat → ClassId} {kE : Nat → Nat} {B n : Nat} {r : Nat → Int32} {hs : List (Nat → Int32)} {u : Nat × List Nat} {ar : List (Nat × va_E)} {c : Nat} {x y : Int32} {h : List (String × Int32)} {o : pm_O} {n' : Nat} {M' : pm_M} (hp : pw_wr (pw_cF z kA kE B n r hs u ar c x y) h o n' M') : ∃ v, o = .inl (some (.int v)) ∧ pw_cg z kA kE B n r hs u ar c x y h v n' M' := by
  obtain ⟨v, rfl, hp | ⟨e, he, hp, rfl⟩⟩ := hp
  · rcases hp with ⟨h0, v2, r', h1, h2, h3⟩ | ⟨h0, h1, h3⟩
    · cases h1; exact ⟨_, rfl, Or.inl ⟨h0, r', h2, h3⟩⟩
    · cases h1
  · rcases hp with ⟨h0, v2, r', h1, h2, h3⟩ | ⟨h0, h1, h3⟩
    · cases h1
    · exact ⟨_, rfl, Or.inr ⟨h0, ⟨e, he, Sum.inr.inj h1, rfl⟩, h3⟩⟩
theorem a_X12_addMember {l : Launch} {z : Nat} {D : va_G} {kA : Nat → ClassId} {kE : Nat → Nat} {B n : Nat} {r : Nat → Int32} {hs : List (Nat → Int32)} {u : Nat × List Nat} {ar : List (Nat × va_E)} (hI : pm_I B n r) {x y : Int32} : ∀ nx M, (pw_W z kA kE (B, r, hs, u) ar) nx M → pm_C l z D kA kE yX12_addMember cX12_addMember 3 (some .int) 21 3 12 [.ref (z + 0), .int x, .int y] nx M (pw_cF z kA kE B n r hs u ar 0 x y) := fun nx M hW => c_X12_addMember pw_cFv hW.2.2.2.choose_spec.1.1 (a_X12_change hI (by decide) nx M hW)
theorem pw_xr_addMember {n : Nat} {r : Nat → Int32} {x y : Int32} (h0 : ¬ (d_X7_ref 0 x y n r).1 = 0) : pw_xc (d_X7_ref 0 x y n r).1 = "java/lang/IllegalArgumentException" ∨ pw_xc (d_X7_ref 0 x y n r).1 = "java/lang/UnsupportedOperationException" := by
  revert h0
  simp only [d_X7_ref, d_X7_refusal0, d_X7_refusalOfJoin]
  (repeat' split) <;> intro h0 <;> first | exact absurd rfl h0 | (simp_all; done) | exact (Or.inl rfl) | exact (Or.inr rfl)
theorem b_L_addMember {l : Launch} {z : Nat} {D : va_G} {kA : Nat → ClassId} {kE : Nat → Nat} {B n : Nat} {r : Nat → Int32} {hs : List (Nat → Int32)} {u : Nat × List Nat} {ar : List (Nat × va_E)} (hI : pm_I B n r) {x y : Int32} : ∀ nx M, (pw_W z kA kE (B, r, hs, u) ar) nx M → pm_Cw l z D kA kE yL_addMember cL_addMember 4 (some .int) [(0, 6, 7, 14), (0, 6, 10, 16)] 22 3 12 [.ref (z + 0), .int x, .int y] nx M (fun o n' M' => ∃ v, o = .inl (some (.int v)) ∧ pw_cg z kA kE B n r hs u ar 0 x y [("java/lang/IllegalArgumentException", (-1)), ("java/lang/UnsupportedOperationException", (-2))] v n' M') := by
  intro nx M hW
  refine pm_Cwpost (c_L_addMember hW.2.2.2.choose_spec.1.1 (a_X12_addMember hI nx M hW) pw_cFv fun E n' M1 h => ?_) fun o n' M' hp => pw_cgW hp
  rcases h with ⟨-, v, r', h, -⟩ | ⟨h0, h, -⟩
  · cases h
  · rw [Sum.inr.inj h]
    exact pw_xr_addMember h0
theorem a_X12_assign {l : Launch} {z : Nat} {D : va_G} {kA : Nat → ClassId} {kE : Nat → Nat} {B n : Nat} {r : Nat → Int32} {hs : List (Nat → Int32)} {u : Nat × List Nat} {ar : List (Nat × va_E)} (hI : pm_I B n r) {x : Int32} : ∀ nx M, (pw_W z kA kE (B, r, hs, u) ar) nx M → pm_C l z D kA kE yX12_assign cX12_assign 2 (some .int) 21 3 12 [.ref (z + 0), .int x] nx M (pw_cF z kA kE B n r hs u ar 1 x 0) := fun nx M hW => c_X12_assign pw_cFv hW.2.2.2.choose_spec.1.1 (a_X12_change hI (by decide) nx M hW)
theorem pw_xr_assign {n : Nat} {r : Nat → Int32} {x : Int32} (h0 : ¬ (d_X7_ref 1 x 0 n r).1 = 0) : pw_xc (d_X7_ref 1 x 0 n r).1 = "java/lang/IllegalArgumentException" := by
  revert h0
  simp only [d_X7_ref, d_X7_refusal1, d_X7_refusalOfRange]
  (repeat' split) <;> intro h0 <;> first | exact absurd rfl h0 | (simp_all; done) | exact rfl
theorem b_L_assign {l : Launch} {z : Nat} {D : va_G} {kA : Nat → ClassId} {kE : Nat → Nat} {B n : Nat} {r : Nat → Int32} {hs : List (Nat → Int32)} {u : Nat × List Nat} {ar : List (Nat × va_E)} (hI : pm_I B n r) {x : Int32} : ∀ nx M, (pw_W z kA kE (B, r, hs, u) ar) nx M → pm_Cw l z D kA kE yL_assign cL_assign 3 (some .int) [(0, 5, 6, 14)] 22 3 12 [.ref (z + 0), .int x] nx M (fun o n' M' => ∃ v, o = .inl (some (.int v)) ∧ pw_cg z kA kE B n r hs u ar 1 x 0 [("java/lang/IllegalArgumentException", (-1))] v n' M') := by
  intro nx M hW
  refine pm_Cwpost (c_L_assign hW.2.2.2.choose_spec.1.1 (a_X12_assign hI nx M hW) pw_cFv fun E n' M1 h => ?_) fun o n' M' hp => pw_cgW hp
  rcases h with ⟨-, v, r', h, -⟩ | ⟨h0, h, -⟩
  · cases h
  · rw [Sum.inr.inj h]
    exact pw_xr_assign h0
theorem a_X12_setRule {l : Launch} {z : Nat} {D : va_G} {kA : Nat → ClassId} {kE : Nat → Nat} {B n : Nat} {r : Nat → Int32} {hs : List (Nat → Int32)} {u : Nat × List Nat} {ar : List (Nat × va_E)} (hI : pm_I B n r) {x : Int32} : ∀ nx M, (pw_W z kA kE (B, r, hs, u) ar) nx M → pm_C l z D kA kE yX12_setRule cX12_setRule 2 (some .int) 21 3 12 [.ref (z + 0), .int x] nx M (pw_cF z kA kE B n r hs u ar 2 x 0) := fun nx M hW => c_X12_setRule pw_cFv hW.2.2.2.choose_spec.1.1 (a_X12_change hI (by decide) nx M hW)
theorem pw_xr_setRule {n : Nat} {r : Nat → Int32} {x : Int32} (h0 : ¬ (d_X7_ref 2 x 0 n r).1 = 0) : pw_xc (d_X7_ref 2 x 0 n r).1 = "java/lang/IllegalArgumentException" ∨ pw_xc (d_X7_ref 2 x 0 n r).1 = "java/lang/UnsupportedOperationException" := by
  revert h0
  simp only [d_X7_ref, d_X7_refusal2, d_X7_refusalOfValue]
  (repeat' split) <;> intro h0 <;> first | exact absurd rfl h0 | (simp_all; done) | exact (Or.inl rfl) | exact (Or.inr rfl)
theorem b_L_setRule {l : Launch} {z : Nat} {D : va_G} {kA : Nat → ClassId} {kE : Nat → Nat} {B n : Nat} {r : Nat → Int32} {hs : List (Nat → Int32)} {u : Nat × List Nat} {ar : List (Nat × va_E)} (hI : pm_I B n r) {x : Int32} : ∀ nx M, (pw_W z kA kE (B, r, hs, u) ar) nx M → pm_Cw l z D kA kE yL_setRule cL_setRule 3 (some .int) [(0, 5, 6, 14), (0, 5, 9, 16)] 22 3 12 [.ref (z + 0), .int x] nx M (fun o n' M' => ∃ v, o = .inl (some (.int v)) ∧ pw_cg z kA kE B n r hs u ar 2 x 0 [("java/lang/IllegalArgumentException", (-1)), ("java/lang/UnsupportedOperationException", (-2))] v n' M') := by
  intro nx M hW
  refine pm_Cwpost (c_L_setRule hW.2.2.2.choose_spec.1.1 (a_X12_setRule hI nx M hW) pw_cFv fun E n' M1 h => ?_) fun o n' M' hp => pw_cgW hp
  rcases h with ⟨-, v, r', h, -⟩ | ⟨h0, h, -⟩
  · cases h
  · rw [Sum.inr.inj h]
    exact pw_xr_setRule h0
theorem a_X12_sell {l : Launch} {z : Nat} {D : va_G} {kA : Nat → ClassId} {kE : Nat → Nat} {B n : Nat} {r : Nat → Int32} {hs : List (Nat → Int32)} {u : Nat × List Nat} {ar : List (Nat × va_E)} (hI : pm_I B n r) {x y : Int32} : ∀ nx M, (pw_W z kA kE (B, r, hs, u) ar) nx M → pm_C l z D kA kE yX12_sell cX12_sell 3 (some .int) 21 3 12 [.ref (z + 0), .int x, .int y] nx M (pw_cF z kA kE B n r hs u ar 3 x y) := fun nx M hW => c_X12_sell pw_cFv hW.2.2.2.choose_spec.1.1 (a_X12_change hI (by decide) nx M hW)
theorem pw_xr_sell {n : Nat} {r : Nat → Int32} {x y : Int32} (h0 : ¬ (d_X7_ref 3 x y n r).1 = 0) : pw_xc (d_X7_ref 3 x y n r).1 = "java/lang/IndexOutOfBoundsException" ∨ pw_xc (d_X7_ref 3 x y n r).1 = "java/lang/IllegalArgumentException" ∨ pw_xc (d_X7_ref 3 x y n r).1 = "java/lang/UnsupportedOperationException" := by
  revert h0
  simp only [d_X7_ref, d_X7_refusal3, d_X7_refusalOfSale]
  (repeat' split) <;> intro h0 <;> first | exact absurd rfl h0 | (simp_all; done) | exact (Or.inl rfl) | exact (Or.inr (Or.inl rfl)) | exact (Or.inr (Or.inr rfl)) | (refine Or.inr (Or.inr ?_); unfold pw_xc; (repeat' rw [if_neg (by assumption)]))
theorem b_L_sell {l : Launch} {z : Nat} {D : va_G} {kA : Nat → ClassId} {kE : Nat → Nat} {B n : Nat} {r : Nat → Int32} {hs : List (Nat → Int32)} {u : Nat × List Nat} {ar : List (Nat × va_E)} (hI : pm_I B n r) {x y : Int32} : ∀ nx M, (pw_W z kA kE (B, r, hs, u) ar) nx M → pm_Cw l z D kA kE yL_sell cL_sell 4 (some .int) [(0, 6, 7, 22), (0, 6, 10, 14), (0, 6, 14, 16)] 22 3 12 [.ref (z + 0), .int x, .int y] nx M (fun o n' M' => ∃ v, o = .inl (some (.int v)) ∧ pw_cg z kA kE B n r hs u ar 3 x y [("java/lang/IndexOutOfBoundsException", (-1)), ("java/lang/IllegalArgumentException", (-2)), ("java/lang/UnsupportedOperationException", (-3))] v n' M') := by
  intro nx M hW
  refine pm_Cwpost (c_L_sell hW.2.2.2.choose_spec.1.1 (a_X12_sell hI nx M hW) pw_cFv fun E n' M1 h => ?_) fun o n' M' hp => pw_cgW hp
  rcases h with ⟨-, v, r', h, -⟩ | ⟨h0, h, -⟩
  · cases h
  · rw [Sum.inr.inj h]
    exact pw_xr_sell h0
theorem a_X12_audit {l : Launch} {z : Nat} {D : va_G} {kA : Nat → ClassId} {kE : Nat → Nat} {B n : Nat} {r : Nat → Int32} {hs : List (Nat → Int32)} {u : Nat × List Nat} {ar : List (Nat × va_E)} (hI : pm_I B n r) {x : Int32} : ∀ nx M, (pw_W z kA kE (B, r, hs, u) ar) nx M → pm_C l z D kA kE yX12_audit cX12_audit 2 (some .int) 21 3 12 [.ref (z + 0), .int x] nx M (pw_cF z kA kE B n r hs u ar 4 x 0) := fun nx M hW => c_X12_audit pw_cFv hW.2.2.2.choose_spec.1.1 (a_X12_change hI (by decide) nx M hW)
theorem pw_xr_audit {n : Nat} {r : Nat → Int32} {x : Int32} (h0 : ¬ (d_X7_ref 4 x 0 n r).1 = 0) : pw_xc (d_X7_ref 4 x 0 n r).1 = "java/lang/IllegalArgumentException" ∨ pw_xc (d_X7_ref 4 x 0 n r).1 = "java/lang/UnsupportedOperationException" := by
  revert h0
  simp only [d_X7_ref, d_X7_refusal4, d_X7_refusalOfAudit]
  (repeat' split) <;> intro h0 <;> first | exact absurd rfl h0 | (simp_all; done) | exact (Or.inl rfl) | exact (Or.inr rfl)
theorem b_L_audit {l : Launch} {z : Nat} {D : va_G} {kA : Nat → ClassId} {kE : Nat → Nat} {B n : Nat} {r : Nat → Int32} {hs : List (Nat → Int32)} {u : Nat × List Nat} {ar : List (Nat × va_E)} (hI : pm_I B n r) {x : Int32} : ∀ nx M, (pw_W z kA kE (B, r, hs, u) ar) nx M → pm_Cw l z D kA kE yL_audit cL_audit 3 (some .int) [(0, 5, 6, 14), (0, 5, 9, 16)] 22 3 12 [.ref (z + 0), .int x] nx M (fun o n' M' => ∃ v, o = .inl (some (.int v)) ∧ pw_cg z kA kE B n r hs u ar 4 x 0 [("java/lang/IllegalArgumentException", (-1)), ("java/lang/UnsupportedOperationException", (-2))] v n' M') := by
  intro nx M hW
  refine pm_Cwpost (c_L_audit hW.2.2.2.choose_spec.1.1 (a_X12_audit hI nx M hW) pw_cFv fun E n' M1 h => ?_) fun o n' M' hp => pw_cgW hp
  rcases h with ⟨-, v, r', h, -⟩ | ⟨h0, h, -⟩
  · cases h
  · rw [Sum.inr.inj h]
    exact pw_xr_audit h0
theorem a_X12_close {l : Launch} {z : Nat} {D : va_G} {kA : Nat → ClassId} {kE : Nat → Nat} {B n : Nat} {r : Nat → Int32} {hs : List (Nat → Int32)} {u : Nat × List Nat} {ar : List (Nat × va_E)} (hI : pm_I B n r)  : ∀ nx M, (pw_W z kA kE (B, r, hs, u) ar) nx M → pm_C l z D kA kE yX12_close cX12_close 1 (some .int) 21 3 12 [.ref (z + 0)] nx M (pw_cF z kA kE B n r hs u ar 5 0 0) := fun nx M hW => c_X12_close pw_cFv hW.2.2.2.choose_spec.1.1 (a_X12_change hI (by decide) nx M hW)
theorem a_X12_link {l : Launch} {z : Nat} {D : va_G} {kA : Nat → ClassId} {kE : Nat → Nat} {B n : Nat} {r : Nat → Int32} {hs : List (Nat → Int32)} {u : Nat × List Nat} {ar : List (Nat × va_E)} (hI : pm_I B n r) {x y : Int32} : ∀ nx M, (pw_W z kA kE (B, r, hs, u) ar) nx M → pm_C l z D kA kE yX12_link cX12_link 3 (some .int) 21 3 12 [.ref (z + 0), .int x, .int y] nx M (pw_cF z kA kE B n r hs u ar 6 x y) := fun nx M hW => c_X12_link pw_cFv hW.2.2.2.choose_spec.1.1 (a_X12_change hI (by decide) nx M hW)
theorem pw_xr_link {n : Nat} {r : Nat → Int32} {x y : Int32} (h0 : ¬ (d_X7_ref 6 x y n r).1 = 0) : pw_xc (d_X7_ref 6 x y n r).1 = "java/lang/IndexOutOfBoundsException" ∨ pw_xc (d_X7_ref 6 x y n r).1 = "java/lang/IllegalArgumentException" ∨ pw_xc (d_X7_ref 6 x y n r).1 = "java/lang/UnsupportedOperationException" := by
  revert h0
  simp only [d_X7_ref, d_X7_refusal6, d_X7_refusalOfLink, d_X7_refusalOfPair]
  (repeat' split) <;> intro h0 <;> first | exact absurd rfl h0 | (simp_all; done) | exact (Or.inl rfl) | exact (Or.inr (Or.inl rfl)) | exact (Or.inr (Or.inr rfl)) | (refine Or.inr (Or.inr ?_); unfold pw_xc; (repeat' rw [if_neg (by assumption)]))
theorem b_L_link {l : Launch} {z : Nat} {D : va_G} {kA : Nat → ClassId} {kE : Nat → Nat} {B n : Nat} {r : Nat → Int32} {hs : List (Nat → Int32)} {u : Nat × List Nat} {ar : List (Nat × va_E)} (hI : pm_I B n r) {x y : Int32} : ∀ nx M, (pw_W z kA kE (B, r, hs, u) ar) nx M → pm_Cw l z D kA kE yL_link cL_link 4 (some .int) [(0, 6, 7, 22), (0, 6, 10, 14), (0, 6, 14, 16)] 22 3 12 [.ref (z + 0), .int x, .int y] nx M (fun o n' M' => ∃ v, o = .inl (some (.int v)) ∧ pw_cg z kA kE B n r hs u ar 6 x y [("java/lang/IndexOutOfBoundsException", (-1)), ("java/lang/IllegalArgumentException", (-2)), ("java/lang/UnsupportedOperationException", (-3))] v n' M') := by
  intro nx M hW
  refine pm_Cwpost (c_L_link hW.2.2.2.choose_spec.1.1 (a_X12_link hI nx M hW) pw_cFv fun E n' M1 h => ?_) fun o n' M' hp => pw_cgW hp
  rcases h with ⟨-, v, r', h, -⟩ | ⟨h0, h, -⟩
  · cases h
  · rw [Sum.inr.inj h]
    exact pw_xr_link h0
theorem a_X12_unlink {l : Launch} {z : Nat} {D : va_G} {kA : Nat → ClassId} {kE : Nat → Nat} {B n : Nat} {r : Nat → Int32} {hs : List (Nat → Int32)} {u : Nat × List Nat} {ar : List (Nat × va_E)} (hI : pm_I B n r) {x y : Int32} : ∀ nx M, (pw_W z kA kE (B, r, hs, u) ar) nx M → pm_C l z D kA kE yX12_unlink cX12_unlink 3 (some .int) 21 3 12 [.ref (z + 0), .int x, .int y] nx M (pw_cF z kA kE B n r hs u ar 7 x y) := fun nx M hW => c_X12_unlink pw_cFv hW.2.2.2.choose_spec.1.1 (a_X12_change hI (by decide) nx M hW)
theorem pw_xr_unlink {n : Nat} {r : Nat → Int32} {x y : Int32} (h0 : ¬ (d_X7_ref 7 x y n r).1 = 0) : pw_xc (d_X7_ref 7 x y n r).1 = "java/lang/IndexOutOfBoundsException" ∨ pw_xc (d_X7_ref 7 x y n r).1 = "java/lang/IllegalArgumentException" ∨ pw_xc (d_X7_ref 7 x y n r).1 = "java/lang/UnsupportedOperationException" := by
  revert h0
  simp only [d_X7_ref, d_X7_refusal7, d_X7_refusalOfCut, d_X7_refusalOfPair]
  (repeat' split) <;> intro h0 <;> first | exact absurd rfl h0 | (simp_all; done) | exact (Or.inl rfl) | exact (Or.inr (Or.inl rfl)) | exact (Or.inr (Or.inr rfl)) | (refine Or.inr (Or.inr ?_); unfold pw_xc; (repeat' rw [if_neg (by assumption)]))
theorem b_L_unlink {l : Launch} {z : Nat} {D : va_G} {kA : Nat → ClassId} {kE : Nat → Nat} {B n : Nat} {r : Nat → Int32} {hs : List (Nat → Int32)} {u : Nat × List Nat} {ar : List (Nat × va_E)} (hI : pm_I B n r) {x y : Int32} : ∀ nx M, (pw_W z kA kE (B, r, hs, u) ar) nx M → pm_Cw l z D kA kE yL_unlink cL_unlink 4 (some .int) [(0, 6, 7, 22), (0, 6, 10, 14), (0, 6, 14, 16)] 22 3 12 [.ref (z + 0), .int x, .int y] nx M (fun o n' M' => ∃ v, o = .inl (some (.int v)) ∧ pw_cg z kA kE B n r hs u ar 7 x y [("java/lang/IndexOutOfBoundsException", (-1)), ("java/lang/IllegalArgumentException", (-2)), ("java/lang/UnsupportedOperationException", (-3))] v n' M') := by
  intro nx M hW
  refine pm_Cwpost (c_L_unlink hW.2.2.2.choose_spec.1.1 (a_X12_unlink hI nx M hW) pw_cFv fun E n' M1 h => ?_) fun o n' M' hp => pw_cgW hp
  rcases h with ⟨-, v, r', h, -⟩ | ⟨h0, h, -⟩
  · cases h
  · rw [Sum.inr.inj h]
    exact pw_xr_unlink h0
theorem a_X12_pardon {l : Launch} {z : Nat} {D : va_G} {kA : Nat → ClassId} {kE : Nat → Nat} {B n : Nat} {r : Nat → Int32} {hs : List (Nat → Int32)} {u : Nat × List Nat} {ar : List (Nat × va_E)} (hI : pm_I B n r) {x : Int32} : ∀ nx M, (pw_W z kA kE (B, r, hs, u) ar) nx M → pm_C l z D kA kE yX12_pardon cX12_pardon 2 (some .int) 21 3 12 [.ref (z + 0), .int x] nx M (pw_cF z kA kE B n r hs u ar 8 x 0) := fun nx M hW => c_X12_pardon pw_cFv hW.2.2.2.choose_spec.1.1 (a_X12_change hI (by decide) nx M hW)
theorem pw_xr_pardon {n : Nat} {r : Nat → Int32} {x : Int32} (h0 : ¬ (d_X7_ref 8 x 0 n r).1 = 0) : pw_xc (d_X7_ref 8 x 0 n r).1 = "java/lang/IndexOutOfBoundsException" ∨ pw_xc (d_X7_ref 8 x 0 n r).1 = "java/lang/UnsupportedOperationException" := by
  revert h0
  simp only [d_X7_ref, d_X7_refusal8, d_X7_refusalOfPardon]
  (repeat' split) <;> intro h0 <;> first | exact absurd rfl h0 | (simp_all; done) | exact (Or.inl rfl) | exact (Or.inr rfl)
theorem b_L_pardon {l : Launch} {z : Nat} {D : va_G} {kA : Nat → ClassId} {kE : Nat → Nat} {B n : Nat} {r : Nat → Int32} {hs : List (Nat → Int32)} {u : Nat × List Nat} {ar : List (Nat × va_E)} (hI : pm_I B n r) {x : Int32} : ∀ nx M, (pw_W z kA kE (B, r, hs, u) ar) nx M → pm_Cw l z D kA kE yL_pardon cL_pardon 3 (some .int) [(0, 5, 6, 22), (0, 5, 9, 16)] 22 3 12 [.ref (z + 0), .int x] nx M (fun o n' M' => ∃ v, o = .inl (some (.int v)) ∧ pw_cg z kA kE B n r hs u ar 8 x 0 [("java/lang/IndexOutOfBoundsException", (-1)), ("java/lang/UnsupportedOperationException", (-2))] v n' M') := by
  intro nx M hW
  refine pm_Cwpost (c_L_pardon hW.2.2.2.choose_spec.1.1 (a_X12_pardon hI nx M hW) pw_cFv fun E n' M1 h => ?_) fun o n' M' hp => pw_cgW hp
  rcases h with ⟨-, v, r', h, -⟩ | ⟨h0, h, -⟩
  · cases h
  · rw [Sum.inr.inj h]
    exact pw_xr_pardon h0
theorem a_X12_setThreshold {l : Launch} {z : Nat} {D : va_G} {kA : Nat → ClassId} {kE : Nat → Nat} {B n : Nat} {r : Nat → Int32} {hs : List (Nat → Int32)} {u : Nat × List Nat} {ar : List (Nat × va_E)} (hI : pm_I B n r) {x : Int32} : ∀ nx M, (pw_W z kA kE (B, r, hs, u) ar) nx M → pm_C l z D kA kE yX12_setThreshold cX12_setThreshold 2 (some .int) 21 3 12 [.ref (z + 0), .int x] nx M (pw_cF z kA kE B n r hs u ar 9 x 0) := fun nx M hW => c_X12_setThreshold pw_cFv hW.2.2.2.choose_spec.1.1 (a_X12_change hI (by decide) nx M hW)
theorem pw_xr_setThreshold {n : Nat} {r : Nat → Int32} {x : Int32} (h0 : ¬ (d_X7_ref 9 x 0 n r).1 = 0) : pw_xc (d_X7_ref 9 x 0 n r).1 = "java/lang/IllegalArgumentException" ∨ pw_xc (d_X7_ref 9 x 0 n r).1 = "java/lang/UnsupportedOperationException" := by
  revert h0
  simp only [d_X7_ref, d_X7_refusal9, d_X7_refusalOfValue]
  (repeat' split) <;> intro h0 <;> first | exact absurd rfl h0 | (simp_all; done) | exact (Or.inl rfl) | exact (Or.inr rfl)
theorem b_L_setThreshold {l : Launch} {z : Nat} {D : va_G} {kA : Nat → ClassId} {kE : Nat → Nat} {B n : Nat} {r : Nat → Int32} {hs : List (Nat → Int32)} {u : Nat × List Nat} {ar : List (Nat × va_E)} (hI : pm_I B n r) {x : Int32} : ∀ nx M, (pw_W z kA kE (B, r, hs, u) ar) nx M → pm_Cw l z D kA kE yL_setThreshold cL_setThreshold 3 (some .int) [(0, 5, 6, 14), (0, 5, 9, 16)] 22 3 12 [.ref (z + 0), .int x] nx M (fun o n' M' => ∃ v, o = .inl (some (.int v)) ∧ pw_cg z kA kE B n r hs u ar 9 x 0 [("java/lang/IllegalArgumentException", (-1)), ("java/lang/UnsupportedOperationException", (-2))] v n' M') := by
  intro nx M hW
  refine pm_Cwpost (c_L_setThreshold hW.2.2.2.choose_spec.1.1 (a_X12_setThreshold hI nx M hW) pw_cFv fun E n' M1 h => ?_) fun o n' M' hp => pw_cgW hp
  rcases h with ⟨-, v, r', h, -⟩ | ⟨h0, h, -⟩
  · cases h
  · rw [Sum.inr.inj h]
    exact pw_xr_setThreshold h0
theorem a_X12_setSeed {l : Launch} {z : Nat} {D : va_G} {kA : Nat → ClassId} {kE : Nat → Nat} {B n : Nat} {r : Nat → Int32} {hs : List (Nat → Int32)} {u : Nat × List Nat} {ar : List (Nat × va_E)} (hI : pm_I B n r) {x : Int32} : ∀ nx M, (pw_W z kA kE (B, r, hs, u) ar) nx M → pm_C l z D kA kE yX12_setSeed cX12_setSeed 2 (some .int) 21 3 12 [.ref (z + 0), .int x] nx M (pw_cF z kA kE B n r hs u ar 10 x 0) := fun nx M hW => c_X12_setSeed pw_cFv hW.2.2.2.choose_spec.1.1 (a_X12_change hI (by decide) nx M hW)
theorem pw_xr_setSeed {n : Nat} {r : Nat → Int32} {x : Int32} (h0 : ¬ (d_X7_ref 10 x 0 n r).1 = 0) : pw_xc (d_X7_ref 10 x 0 n r).1 = "java/lang/IllegalArgumentException" := by
  revert h0
  simp only [d_X7_ref, d_X7_refusal10, d_X7_refusalOfRange]
  (repeat' split) <;> intro h0 <;> first | exact absurd rfl h0 | (simp_all; done) | exact rfl
theorem b_L_setSeed {l : Launch} {z : Nat} {D : va_G} {kA : Nat → ClassId} {kE : Nat → Nat} {B n : Nat} {r : Nat → Int32} {hs : List (Nat → Int32)} {u : Nat × List Nat} {ar : List (Nat × va_E)} (hI : pm_I B n r) {x : Int32} : ∀ nx M, (pw_W z kA kE (B, r, hs, u) ar) nx M → pm_Cw l z D kA kE yL_setSeed cL_setSeed 3 (some .int) [(0, 5, 6, 14)] 22 3 12 [.ref (z + 0), .int x] nx M (fun o n' M' => ∃ v, o = .inl (some (.int v)) ∧ pw_cg z kA kE B n r hs u ar 10 x 0 [("java/lang/IllegalArgumentException", (-1))] v n' M') := by
  intro nx M hW
  refine pm_Cwpost (c_L_setSeed hW.2.2.2.choose_spec.1.1 (a_X12_setSeed hI nx M hW) pw_cFv fun E n' M1 h => ?_) fun o n' M' hp => pw_cgW hp
  rcases h with ⟨-, v, r', h, -⟩ | ⟨h0, h, -⟩
  · cases h
  · rw [Sum.inr.inj h]
    exact pw_xr_setSeed h0
theorem pw_gu {B : Nat} {r hd : Nat → Int32} {hs : List (Nat → Int32)} {u : Nat × List Nat} {g : pm_Cs} (hg : pw_g (B, r, hd :: hs, u) g) : pw_g (B, hd, hs, u) (pm_kset (pm_kho g (g.2.2.1 0) (g.2.2.1 1 - 1)) 0 (pm_cpr (g.2.1 ((g.2.2.1 0 + (g.2.2.1 1 - 1)) % 8)) (g.1 0))) := by
  obtain ⟨h1, h2, h3, ⟨h4, h5, h6, h7⟩, ⟨h8, h9⟩, h10, h11⟩ := hg
  dsimp only [List.length_cons] at h5 h6 h7
  have e0 : g.2.1 ((g.2.2.1 0 + (g.2.2.1 1 - 1)) % 8) = hd := by
    rw [h5, h7 _ (by omega), show hs.length + 1 - 1 - (hs.length + 1 - 1) = 0 by omega]; rfl
  have hd8 := h9 hd List.mem_cons_self
  have hc : pm_cpr (g.2.1 ((g.2.2.1 0 + (g.2.2.1 1 - 1)) % 8)) (g.1 0) = hd := by
    rw [e0, h1]; exact pw_cprE hd8.1 h8.1
  rw [hc]
  refine ⟨rfl, h2, h3, ⟨h4, ?_, by dsimp only; omega, fun p hp => ?_⟩, ⟨hd8, fun h hh => h9 h (List.mem_cons_of_mem _ hh)⟩, h10, h11⟩
  · show g.2.2.1 1 - 1 = hs.length
    omega
  · dsimp only at hp
    show g.2.1 ((g.2.2.1 0 + p) % 8) = hs.getD (hs.length - 1 - p) (fun _ => 0)
    rw [h7 p (by omega), show hs.length + 1 - 1 - p = (hs.length - 1 - p) + 1 by omega, List.getD_cons_succ]
theorem b_L_undo {l : Launch} {z : Nat} {D : va_G} {kA : Nat → ClassId} {kE : Nat → Nat} {B n : Nat} {r : Nat → Int32} {hs : List (Nat → Int32)} {u : Nat × List Nat} {ar : List (Nat × va_E)} {hd : Nat → Int32} : ∀ nx M, (pw_W z kA kE (B, r, hd :: hs, u) ar) nx M → pm_Cw l z D kA kE yL_undo cL_undo 2 (some .int) [(0, 4, 5, 105)] 21 3 12 [.ref (z + 0)] nx M (pw_P (some (.int (nI hs.length))) (pw_W z kA kE (B, hd, hs, u) ar)) := by
  intro nx M hW
  obtain ⟨g, hT, hg⟩ := id hW.2.2.2
  obtain ⟨-, -, -, ⟨ho, hk, hk8, -⟩, -⟩ := id hg
  dsimp only [List.length_cons] at hk hk8
  have hC : pm_C l z D kA kE yX12_undo cX12_undo 1 (some .int) 20 3 12 [.ref (z + 0)] nx M (pw_P (some (.int (nI hs.length))) (pw_W z kA kE (B, hd, hs, u) ar)) := by
    refine pm_Cpost (c_X12_undoT hT ho (by omega)) fun o n' M' hp => ?_
    obtain ⟨h1, h2, ⟨h3, -⟩ | ⟨-, h3, h4, h5⟩⟩ := hp
    · omega
    · rw [hk, Nat.add_sub_cancel] at h4
      exact ⟨h4, pw_to hW h2 (fun a ha _ => h1 a ha) h5 (pw_gu hg)⟩
  refine pm_Cwpost (c_L_undo hT.1 hC (fun v n' M1 h => ⟨_, Sum.inl.inj h.1⟩) fun E n' M1 h => by cases h.1) fun o n' M' hp => ?_
  obtain ⟨v, rfl, hp | ⟨e, he, hp, rfl⟩⟩ := hp
  · exact hp
  · cases hp.1
