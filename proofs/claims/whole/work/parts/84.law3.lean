/-! the reference as a whole; class and reference side by side; what the law's own instructions need -/
abbrev pm_Ms : Type := (Nat → Int32) × (Nat → Nat → Int32)
def pm_TM (z : Nat) (kA : Nat → ClassId) (M : pm_M) (h : pm_Ms) : Prop := M 140 = some (pm_mo z 140 h.1) ∧ M (140 + 1) = some (.inl (kA 0, 91, .inl (h.2 1))) ∧ M (140 + 2) = some (.inl (kA 0, 91, .inl (h.2 2))) ∧ M (140 + 3) = some (.inl (kA 0, 91, .inl (h.2 3))) ∧ M (140 + 4) = some (.inl (kA 0, 728, .inl (h.2 4))) ∧ M (140 + 5) = some (.inl (kA 0, 7, .inl (h.2 5))) ∧ M (140 + 6) = some (.inl (kA 3, 60, .inl (h.2 6))) ∧ M (140 + 7) = some (.inl (kA 0, 180, .inl (h.2 7))) ∧ M (140 + 8) = some (.inl (kA 3, 30, .inl (h.2 8)))
def pm_hf (h : pm_Ms) (f : Nat → Int32) : pm_Ms := (f, h.2)
def pm_hk (h : pm_Ms) (k : Nat) (v : Nat → Int32) : pm_Ms := (h.1, fun j => if j = k then v else h.2 j)
section PTM
variable {z : Nat} {kA : Nat → ClassId} {M M2 : pm_M} {h : pm_Ms} {v : Nat → Int32}
theorem pm_TM_keep (hT : pm_TM z kA M h) (e : ∀ x, 140 ≤ x → x ≤ 148 → M2 x = M x) : pm_TM z kA M2 h := by
  obtain ⟨h0, h1, h2, h3, h4, h5, h6, h7, h8⟩ := hT
  exact ⟨(e _ (by decide) (by decide)).trans h0, (e _ (by decide) (by decide)).trans h1, (e _ (by decide) (by decide)).trans h2, (e _ (by decide) (by decide)).trans h3, (e _ (by decide) (by decide)).trans h4, (e _ (by decide) (by decide)).trans h5, (e _ (by decide) (by decide)).trans h6, (e _ (by decide) (by decide)).trans h7, (e _ (by decide) (by decide)).trans h8⟩
theorem pm_TM_f (hT : pm_TM z kA M h) : pm_TM z kA (pm_up M 140 (pm_mo z 140 v)) (pm_hf h v) := by
  obtain ⟨h0, h1, h2, h3, h4, h5, h6, h7, h8⟩ := hT
  exact ⟨pm_up_s, (pm_up_n (by decide)).trans h1, (pm_up_n (by decide)).trans h2, (pm_up_n (by decide)).trans h3, (pm_up_n (by decide)).trans h4, (pm_up_n (by decide)).trans h5, (pm_up_n (by decide)).trans h6, (pm_up_n (by decide)).trans h7, (pm_up_n (by decide)).trans h8⟩
theorem pm_TM_1 (hT : pm_TM z kA M h) : pm_TM z kA (pm_up M (140 + 1) (.inl (kA 0, 91, .inl v))) (pm_hk h 1 v) := by
  obtain ⟨h0, h1, h2, h3, h4, h5, h6, h7, h8⟩ := hT
  exact ⟨(pm_up_n (by decide)).trans h0, pm_up_s, (pm_up_n (by decide)).trans h2, (pm_up_n (by decide)).trans h3, (pm_up_n (by decide)).trans h4, (pm_up_n (by decide)).trans h5, (pm_up_n (by decide)).trans h6, (pm_up_n (by decide)).trans h7, (pm_up_n (by decide)).trans h8⟩
theorem pm_TM_2 (hT : pm_TM z kA M h) : pm_TM z kA (pm_up M (140 + 2) (.inl (kA 0, 91, .inl v))) (pm_hk h 2 v) := by
  obtain ⟨h0, h1, h2, h3, h4, h5, h6, h7, h8⟩ := hT
  exact ⟨(pm_up_n (by decide)).trans h0, (pm_up_n (by decide)).trans h1, pm_up_s, (pm_up_n (by decide)).trans h3, (pm_up_n (by decide)).trans h4, (pm_up_n (by decide)).trans h5, (pm_up_n (by decide)).trans h6, (pm_up_n (by decide)).trans h7, (pm_up_n (by decide)).trans h8⟩
theorem pm_TM_3 (hT : pm_TM z kA M h) : pm_TM z kA (pm_up M (140 + 3) (.inl (kA 0, 91, .inl v))) (pm_hk h 3 v) := by
  obtain ⟨h0, h1, h2, h3, h4, h5, h6, h7, h8⟩ := hT
  exact ⟨(pm_up_n (by decide)).trans h0, (pm_up_n (by decide)).trans h1, (pm_up_n (by decide)).trans h2, pm_up_s, (pm_up_n (by decide)).trans h4, (pm_up_n (by decide)).trans h5, (pm_up_n (by decide)).trans h6, (pm_up_n (by decide)).trans h7, (pm_up_n (by decide)).trans h8⟩
theorem pm_TM_4 (hT : pm_TM z kA M h) : pm_TM z kA (pm_up M (140 + 4) (.inl (kA 0, 728, .inl v))) (pm_hk h 4 v) := by
  obtain ⟨h0, h1, h2, h3, h4, h5, h6, h7, h8⟩ := hT
  exact ⟨(pm_up_n (by decide)).trans h0, (pm_up_n (by decide)).trans h1, (pm_up_n (by decide)).trans h2, (pm_up_n (by decide)).trans h3, pm_up_s, (pm_up_n (by decide)).trans h5, (pm_up_n (by decide)).trans h6, (pm_up_n (by decide)).trans h7, (pm_up_n (by decide)).trans h8⟩
theorem pm_TM_5 (hT : pm_TM z kA M h) : pm_TM z kA (pm_up M (140 + 5) (.inl (kA 0, 7, .inl v))) (pm_hk h 5 v) := by
  obtain ⟨h0, h1, h2, h3, h4, h5, h6, h7, h8⟩ := hT
  exact ⟨(pm_up_n (by decide)).trans h0, (pm_up_n (by decide)).trans h1, (pm_up_n (by decide)).trans h2, (pm_up_n (by decide)).trans h3, (pm_up_n (by decide)).trans h4, pm_up_s, (pm_up_n (by decide)).trans h6, (pm_up_n (by decide)).trans h7, (pm_up_n (by decide)).trans h8⟩
theorem pm_TM_6 (hT : pm_TM z kA M h) : pm_TM z kA (pm_up M (140 + 6) (.inl (kA 3, 60, .inl v))) (pm_hk h 6 v) := by
  obtain ⟨h0, h1, h2, h3, h4, h5, h6, h7, h8⟩ := hT
  exact ⟨(pm_up_n (by decide)).trans h0, (pm_up_n (by decide)).trans h1, (pm_up_n (by decide)).trans h2, (pm_up_n (by decide)).trans h3, (pm_up_n (by decide)).trans h4, (pm_up_n (by decide)).trans h5, pm_up_s, (pm_up_n (by decide)).trans h7, (pm_up_n (by decide)).trans h8⟩
theorem pm_TM_7 (hT : pm_TM z kA M h) : pm_TM z kA (pm_up M (140 + 7) (.inl (kA 0, 180, .inl v))) (pm_hk h 7 v) := by
  obtain ⟨h0, h1, h2, h3, h4, h5, h6, h7, h8⟩ := hT
  exact ⟨(pm_up_n (by decide)).trans h0, (pm_up_n (by decide)).trans h1, (pm_up_n (by decide)).trans h2, (pm_up_n (by decide)).trans h3, (pm_up_n (by decide)).trans h4, (pm_up_n (by decide)).trans h5, (pm_up_n (by decide)).trans h6, pm_up_s, (pm_up_n (by decide)).trans h8⟩
theorem pm_TM_8 (hT : pm_TM z kA M h) : pm_TM z kA (pm_up M (140 + 8) (.inl (kA 3, 30, .inl v))) (pm_hk h 8 v) := by
  obtain ⟨h0, h1, h2, h3, h4, h5, h6, h7, h8⟩ := hT
  exact ⟨(pm_up_n (by decide)).trans h0, (pm_up_n (by decide)).trans h1, (pm_up_n (by decide)).trans h2, (pm_up_n (by decide)).trans h3, (pm_up_n (by decide)).trans h4, (pm_up_n (by decide)).trans h5, (pm_up_n (by decide)).trans h6, (pm_up_n (by decide)).trans h7, pm_up_s⟩
end PTM
/-- class and reference, side by side -/
def pm_Rel (B : Nat) (g : pm_Cs) (h : pm_Ms) (L : Int32 × Int32 × Int32) : Prop :=
  (∃ n, pm_RS n (g.1 0) (h.2 1) ∧ pm_I B n (g.1 0)) ∧
  (g.2.2.1 0 < 8 ∧ g.2.2.1 1 ≤ 8 ∧ h.1 5 = nI (g.2.2.1 1) ∧ ∀ p, p < g.2.2.1 1 → ∃ n, pm_RS n (g.2.1 ((g.2.2.1 0 + p) % 8)) (fun j => h.2 4 (91 * p + j)) ∧ pm_I B n (g.2.1 ((g.2.2.1 0 + p) % 8))) ∧
  ((g.1 12 9 = 0 ∧ h.1 3 = 0) ∨ (¬ g.1 12 9 = 0 ∧ ¬ h.1 3 = 0 ∧ ∃ n, pm_RS n (g.1 2) (h.2 3) ∧ pm_I B n (g.1 2))) ∧
  (∃ t, t ≤ 60 ∧ g.1 13 4 = nI t ∧ h.1 15 = nI t ∧ ∀ i, i < t → h.2 6 i = g.1 8 i) ∧
  ((g.1 12 10 = 0 ∧ h.1 18 = -1) ∨ (¬ g.1 12 10 = 0 ∧ h.1 18 = g.1 12 11 ∧ ¬ g.1 12 11 < 0)) ∧
  (g.2.2.1 2 ≤ 16 ∧ h.1 22 = nI (g.2.2.1 2) ∧ ∀ i, i < g.2.2.1 2 → ∃ q, q < 128 ∧ g.1 14 i = nI q ∧ h.2 8 i = nI q) ∧
  (h.1 9 = L.1 ∧ h.1 10 = L.2.1 ∧ h.1 11 = L.2.2 ∧ ¬ L.1 < 0 ∧ ¬ L.2.2 < 0)
/-- a call of the face, said the same way for each -/
def pm_cl2 (z : Nat) (kA : Nat → ClassId) (kE : Nat → Nat) (nx : Nat) (M : pm_M) (hl : List (String × Int32)) (R : Int32 → Int32 → pm_Cs → Int32 × Int32 × Int32 → Prop) : pm_Po := fun o n' M' => (∀ a, 140 ≤ a → a < nx → M' a = M a) ∧ nx ≤ n' ∧ ∃ g' L', pm_TC z kA kE M' g' ∧ pm_LD z n' M' g'.2.2.2.2.2 L' ∧ ((∃ v, o = .inl (some (.int v)) ∧ R 0 v g' L') ∨ ∃ e ∈ hl, o = .inr e.1 ∧ R e.2 0 g' L')
theorem pm_clE {z : Nat} {kA : Nat → ClassId} {kE : Nat → Nat} {nx n' : Nat} {M M' : pm_M} {hl : List (String × Int32)} {R : Int32 → Int32 → pm_Cs → Int32 × Int32 × Int32 → Prop} {E : String} (h : pm_cl2 z kA kE nx M hl R (.inr E) n' M') : ∃ e ∈ hl, E = e.1 := by
  obtain ⟨_, _, _, _, _, _, ⟨v, h, _⟩ | ⟨e, he, h, _⟩⟩ := h
  · cases h
  · exact ⟨e, he, Sum.inr.inj h⟩
theorem pm_clV {z : Nat} {kA : Nat → ClassId} {kE : Nat → Nat} {nx n' : Nat} {M M' : pm_M} {hl : List (String × Int32)} {R : Int32 → Int32 → pm_Cs → Int32 × Int32 × Int32 → Prop} {v : Option Value} (h : pm_cl2 z kA kE nx M hl R (.inl v) n' M') : ∃ k : Int32, v = some (.int k) := by
  obtain ⟨_, _, _, _, _, _, ⟨v, h, _⟩ | ⟨e, he, h, _⟩⟩ := h
  · exact ⟨v, Sum.inl.inj h⟩
  · cases h
/-- a call of the law's asker -/
def pm_oA (z : Nat) (kA : Nat → ClassId) (kE : Nat → Nat) (nx : Nat) (M : pm_M) (h : pm_Ms) (V : (Nat → Int64) → Int32 → Prop) (R : Int32 → Int32 → pm_Cs → Int32 × Int32 × Int32 → Prop) : pm_Po := fun o n' M' => ∃ kc v g' L' fo', o = .inl (some (.int kc)) ∧ nx ≤ n' ∧ pm_TC z kA kE M' g' ∧ pm_LD z n' M' g'.2.2.2.2.2 L' ∧ pm_TM z kA M' h ∧ M' 149 = some (.inl (kA 1, 1, .inr (.inl fo'))) ∧ M' 150 = M 150 ∧ (kc = 0 → V fo' v) ∧ R kc v g' L'
theorem pm_wrN {z : Nat} {kA : Nat → ClassId} {kE : Nat → Nat} {nx n' : Nat} {M M' : pm_M} {h : pm_Ms} {hl : List (String × Int32)} {R : Int32 → Int32 → pm_Cs → Int32 × Int32 × Int32 → Prop} {fo : Nat → Int64} {o : pm_O} (hTM : pm_TM z kA M h) (h149 : M 149 = some (.inl (kA 1, 1, .inr (.inl fo)))) (hnx : 151 ≤ nx) (hd : ∀ e ∈ hl, ∀ e' ∈ hl, e.1 = e'.1 → e.2 = e'.2) (hz : ∀ e ∈ hl, ¬ e.2 = 0) (hp : pm_wr kA 149 1 fo (pm_cl2 z kA kE nx M hl R) hl o n' M') : pm_oA z kA kE nx M h (fun fo' v => fo' 0 = v.toInt64) R o n' M' := by
  rcases hp with ⟨v, M1, ⟨hF, hn, g', L', hT, hL, h3⟩, rfl, rfl⟩ | ⟨e, he, ⟨hF, hn, g', L', hT, hL, h3⟩, rfl⟩
  · rcases h3 with ⟨v2, hv, hR⟩ | ⟨e, _, hv, _⟩
    · cases hv
      exact ⟨0, v, g', L', _, rfl, hn, pm_TC_keep hT (fun x hx => pm_up_n (by omega)), pm_LD_keep hL (Nat.le_refl _) (fun a ha _ => pm_up_n (by omega)), pm_TM_keep hTM (fun x h1 h2 => (pm_up_n (by omega)).trans (hF x h1 (by omega))), pm_up_s, (pm_up_n (by decide)).trans (hF _ (by decide) (by omega)), fun _ => pk_uLs, hR⟩
    · cases hv
  · rcases h3 with ⟨v2, hv, hR⟩ | ⟨e2, he2, hv, hR⟩
    · cases hv
    · have e1 := hd e he e2 he2 (Sum.inr.inj hv)
      exact ⟨e.2, 0, g', L', fo, rfl, hn, hT, hL, pm_TM_keep hTM (fun x h1 h2 => hF x h1 (by omega)), (hF _ (by decide) (by omega)).trans h149, hF _ (by decide) (by omega), fun e0 => absurd e0 (hz e he), e1 ▸ hR⟩
/-- the reference's answer to a call -/
def pm_xm (l : Launch) (z : Nat) (D : va_G) (kA : Nat → ClassId) (kE : Nat → Nat) (y : MethodName) (cc : ByteArray) (nL : Nat) (ret : Option FieldType) (d : Nat) (As : List Value) (h h' : pm_Ms) (mv : Value) : Prop := ∀ n' M', pm_TM z kA M' h → ∃ M1, pm_C l z D kA kE y cc nL ret d 0 0 (.ref (z + 140) :: As) n' M' (pm_rt (some mv) n' M1) ∧ pm_TM z kA M1 h' ∧ ∀ a, a < 140 ∨ 148 < a → M1 a = M' a
section PLA
variable {l : Launch} {z : Nat} {D : va_G} {kA : Nat → ClassId} {kE : Nat → Nat} {own : String} {cc : ByteArray} {nL : Nat} {ret : Option FieldType} {nm : String} {tb : List ExceptionTableEntry} {d mc ms : Nat} {X : pm_X} {cu su : Nat} {Q : State → Prop} {nx : Nat} {M : pm_M} {pc : Nat} {L : List (Option Value)} {st : List Value}
theorem pm_sld (B : pm_B l z D kA kE own cc nL ret nm tb d mc ms X) {b N : Nat} {xs : Nat → Int32} (hX : va_X b N xs X.2.2.2.1 X.2.2.2.1.heap) (hbz : b < z) (i : Nat) (hi : i < N) (hN : N < 2147483648) (hd : decode cc pc = .ok (.iaload, 1))
    (k : pm_G l z D X cu su Q nx M (pc + 1) L (.int (xs i) :: st)) : pm_G l z D X cu su Q nx M pc L (.int (nI i) :: .ref b :: st) := by
  obtain ⟨hx, hb, hml, hown, hts, hr, hlk, hK, hnm, htb, ⟨hrf, hrl, hrc, hrs⟩, hz, hcs⟩ := id B
  obtain ⟨p, e, R, s, m, args, below, meth, c⟩ := X
  intro H locs ls hR hS hl
  exact va_sld hx hb hX (Nat.lt_of_lt_of_le hbz hz) (Nat.not_le.mpr hbz) hS (pm_inj hi hN) hd (by rw [pm_cln hi hN]; exact k H locs ls hR hS hl)
theorem pm_slen (B : pm_B l z D kA kE own cc nL ret nm tb d mc ms X) {b N : Nat} {xs : Nat → Int32} (hX : va_X b N xs X.2.2.2.1 X.2.2.2.1.heap) (hbz : b < z) (hd : decode cc pc = .ok (.arraylength, 1))
    (k : pm_G l z D X cu su Q nx M (pc + 1) L (.int (nI N) :: st)) : pm_G l z D X cu su Q nx M pc L (.ref b :: st) := by
  obtain ⟨hx, hb, hml, hown, hts, hr, hlk, hK, hnm, htb, ⟨hrf, hrl, hrc, hrs⟩, hz, hcs⟩ := id B
  obtain ⟨p, e, R, s, m, args, below, meth, c⟩ := X
  intro H locs ls hR hS hl
  exact va_slen hx hb hX (Nat.lt_of_lt_of_le hbz hz) (Nat.not_le.mpr hbz) hS hd (k H locs ls hR hS hl)
theorem pm_lcmp (B : pm_B l z D kA kE own cc nL ret nm tb d mc ms X) {x y : Int64} (hd : decode cc pc = .ok (.lcmp, 1)) 
    (k : pm_G l z D X cu su Q nx M (pc + 1) L (.int (lg_cmp x y) :: st)) : pm_G l z D X cu su Q nx M pc L (.long y :: .long x :: st) := by
  obtain ⟨hx, hb, hml, hown, hts, hr, hlk, hK, hnm, htb, hrm, hz, hcs⟩ := B
  obtain ⟨p, e, R, s, m, args, below, meth, c⟩ := X
  intro H locs ls hR hS hl
  exact W.lcmp hx hb hd (k H locs ls hR hS hl)
theorem pm_lcmp0 {x y : Int64} (h : x = y) : lg_cmp x y = 0 := by
  subst h
  unfold lg_cmp
  rw [if_neg (by rw [gt_iff_lt, Int64.lt_iff_toInt_lt]; omega), if_pos rfl]
theorem pm_dstore (B : pm_B l z D kA kE own cc nL ret nm tb d mc ms X) {i : Nat} {x : UInt64} (hd : decode cc pc = .ok (.dstore i, 2)) (hi : Nat.ble (i + 2) nL = true) (hc : pm_c1 L = true) (hn : L[i + 1]? = some none)
    (k : pm_G l z D X cu su Q nx M (pc + 2) (L.set i (some (.double x))) st) : pm_G l z D X cu su Q nx M pc L (.double x :: st) := by
  obtain ⟨hx, hb, hml, hown, hts, hr, hlk, hK, hnm, htb, hrm, hz, hcs⟩ := B
  obtain ⟨p, e, R, s, m, args, below, meth, c⟩ := X
  intro H locs ls hR hS hl
  refine lv_dstore hx hb hd hl (by have h9 := Nat.le_of_ble_eq_true hi; simp only at hml ⊢; omega) rfl (fun ls' hl' => ?_)
  refine k H locs ls' hR hS (pm_lv_sub hl' fun j w hj => ?_)
  by_cases hji : i = j
  · subst hji
    by_cases hl : i < L.length
    · rw [List.getElem?_set_self hl] at hj
      cases hj
      exact List.mem_cons_self
    · rw [List.getElem?_eq_none (by rw [List.length_set]; omega)] at hj
      cases hj
  · rw [List.getElem?_set_ne hji] at hj
    have hj2 : j ≠ i + 1 := fun e => by rw [e, hn] at hj; cases hj
    refine List.mem_cons_of_mem _ (List.mem_filter.mpr ⟨(pm_lv_mem L 0 j w).mpr ⟨j, by omega, hj⟩, ?_⟩)
    have h1 := List.all_eq_true.mp hc _ (List.mem_of_getElem? hj)
    simp only [beq_iff_eq] at h1
    simp [h1, Ne.symm hji, hj2]
end PLA
