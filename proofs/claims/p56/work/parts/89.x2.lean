/-! texts as lists of numbers -/
def pw_dg (q : Nat) : List Nat := if q < 10 then [48 + q % 10] else if q < 100 then [48 + q / 10, 48 + q % 10] else [48 + (q / 100) % 10, 48 + (q % 100) / 10, 48 + (q % 100) % 10]
def pw_Rp (p : (Nat → Int32) × Nat) (T : List Nat) : Prop := p.2 = T.length ∧ (∀ i, i < T.length → p.1 i = nI (T.getD i 0)) ∧ ∀ q ∈ T, q < 128
theorem pw_Rp_c {f : Nat → Int32} {c x : Nat} {T : List Nat} (h : pw_Rp (f, c) T) (hx : x < 128) : pw_Rp (upd f c (nI x), c + 1) (T ++ [x]) := by
  obtain ⟨h1, h2, h3⟩ := h
  dsimp only at h1 h2
  refine ⟨by rw [List.length_append, ← h1]; rfl, fun i hi => ?_, fun q hq => ?_⟩
  · rw [List.length_append] at hi
    show upd f c (nI x) i = _
    by_cases hic : i = c
    · subst hic
      rw [pk_us, List.getD_eq_getElem?_getD, List.getElem?_append_right (by omega), h1, Nat.sub_self]
      rfl
    · have hl : i < T.length := by
        have : i < T.length + 1 := hi
        omega
      rw [pk_un hic, h2 i hl, List.getD_eq_getElem?_getD, List.getD_eq_getElem?_getD, List.getElem?_append_left hl]
  · rcases List.mem_append.mp hq with h | h
    · exact h3 q h
    · rw [List.mem_singleton.mp h]; exact hx
theorem pw_Rp_e {f f2 : Nat → Int32} {c : Nat} {T : List Nat} (h : pw_Rp (f, c) T) (e : ∀ i, i < c → f2 i = f i) : pw_Rp (f2, c) T :=
  ⟨h.1, fun i hi => (e i (by have := h.1; dsimp only at this; omega)).trans (h.2.1 i hi), h.2.2⟩
theorem pw_Rp_d {f : Nat → Int32} {c q : Nat} {T : List Nat} (h : pw_Rp (f, c) T) (hq : q < 1000) : (q < 10 → pw_Rp (pm_d1 f c q, c + 1) (T ++ pw_dg q)) ∧ (10 ≤ q → q < 100 → pw_Rp (pm_d2 f c q, c + 2) (T ++ pw_dg q)) ∧ (100 ≤ q → pw_Rp (pm_d3 f c q, c + 3) (T ++ pw_dg q)) := by
  refine ⟨fun h1 => ?_, fun h1 h2 => ?_, fun h1 => ?_⟩
  · unfold pw_dg pm_d1
    rw [if_pos h1]
    exact pw_Rp_c h (by omega)
  · unfold pw_dg pm_d2
    rw [if_neg (by omega), if_pos h2]
    have a := pw_Rp_c (pw_Rp_c h (x := 48 + q / 10) (by omega)) (x := 48 + q % 10) (by omega)
    rw [List.append_assoc] at a
    refine pw_Rp_e a fun i hi => ?_
    by_cases h3 : i = c
    · subst h3; rw [pk_us, pk_un (by omega), pk_us]
    · rw [pk_un h3]
      by_cases h4 : i = c + 1
      · subst h4; rw [pk_us, pk_us]
      · rw [pk_un h4, pk_un h4, pk_un h3]
  · unfold pw_dg pm_d3
    rw [if_neg (by omega), if_neg (by omega)]
    have a := pw_Rp_c (pw_Rp_c (pw_Rp_c h (x := 48 + (q / 100) % 10) (by omega)) (x := 48 + (q % 100) / 10) (by omega)) (x := 48 + (q % 100) % 10) (by omega)
    rw [List.append_assoc, List.append_assoc] at a
    refine pw_Rp_e a fun i hi => ?_
    by_cases h3 : i = c
    · subst h3; rw [pk_us, pk_un (by omega), pk_un (by omega), pk_us]
    · rw [pk_un h3]
      by_cases h4 : i = c + 1
      · subst h4; rw [pk_us, pk_un (by omega), pk_us]
      · rw [pk_un h4]
        by_cases h5 : i = c + 1 + 1
        · subst h5; rw [pk_us, pk_us]
        · rw [pk_un (show i ≠ c + 2 from h5), pk_un h5, pk_un h4, pk_un h3]
theorem pw_Rp_aI {t : (Nat → Int32) × Nat} {q : Nat} {T : List Nat} (h : pw_Rp t T) (hq : q < 1000) : pw_Rp (pm_aI t q) (T ++ pw_dg q) := by
  obtain ⟨f, c⟩ := t
  obtain ⟨h1, h2, h3⟩ := pw_Rp_d h hq
  by_cases a : q < 10
  · have e1 : pm_wd q = 1 := if_pos a
    have e2 : pm_dq f c q = pm_d1 f c q := if_pos a
    show pw_Rp (pm_dq f c q, c + pm_wd q) _
    rw [e1, e2]
    exact h1 a
  · by_cases b : q < 100
    · have e1 : pm_wd q = 2 := (if_neg a).trans (if_pos b)
      have e2 : pm_dq f c q = pm_d2 f c q := (if_neg a).trans (if_pos b)
      show pw_Rp (pm_dq f c q, c + pm_wd q) _
      rw [e1, e2]
      exact h2 (by omega) b
    · have e1 : pm_wd q = 3 := (if_neg a).trans (if_neg b)
      have e2 : pm_dq f c q = pm_d3 f c q := (if_neg a).trans (if_neg b)
      show pw_Rp (pm_dq f c q, c + pm_wd q) _
      rw [e1, e2]
      exact h3 (by omega)
theorem pw_Rp_aC {t : (Nat → Int32) × Nat} {x : Nat} {T : List Nat} (h : pw_Rp t T) (hx : x < 128) : pw_Rp (pm_aC t x) (T ++ [x]) := by
  obtain ⟨f, c⟩ := t
  exact pw_Rp_c h hx
theorem pw_Rp_rep {t : (Nat → Int32) × Nat} {x : Nat} {T : List Nat} (h : pw_Rp t T) (hx : x < 128) : ∀ k, pw_Rp (pm_rep t x k) (T ++ List.replicate k x) := by
  intro k
  induction k with
  | zero => rw [List.replicate_zero, List.append_nil]; exact h
  | succ k ih =>
    rw [List.replicate_succ', ← List.append_assoc]
    exact pw_Rp_aC ih hx
/-- a member's line as a list -/
def pw_lh (r : Nat → Int32) (i : Nat) : List Nat := ((((((((pw_dg i ++ [58]) ++ pw_dg (pm_n (r (7 + 6 * i + 3)))) ++ [47]) ++ pw_dg (pm_n (r (7 + 6 * i + 2)))) ++ [47]) ++ pw_dg (pm_n (r (7 + 6 * i + 0)))) ++ [118]) ++ pw_dg (pm_n (r (7 + 6 * i + 1))))
def pw_ln (r : Nat → Int32) (i : Nat) : List Nat := (pw_lh r i ++ List.replicate (pm_n (r (7 + 6 * i + 4))) 33) ++ List.replicate (pm_n (r (7 + 6 * i + 5))) 120
theorem pw_dgl {q : Nat} : (q < 10 → (pw_dg q).length = 1) ∧ (q < 100 → (pw_dg q).length ≤ 2) ∧ (pw_dg q).length ≤ 3 := by
  unfold pw_dg
  by_cases a : q < 10
  · rw [if_pos a]; exact ⟨fun _ => rfl, fun _ => (show 1 ≤ 2 by decide), (show 1 ≤ 3 by decide)⟩
  · rw [if_neg a]
    by_cases b : q < 100
    · rw [if_pos b]; exact ⟨fun h => absurd h a, fun _ => (show 2 ≤ 2 by decide), (show 2 ≤ 3 by decide)⟩
    · rw [if_neg b]; exact ⟨fun h => absurd h a, fun h => absurd h b, (show 3 ≤ 3 by decide)⟩
theorem pw_lnN {B n i : Nat} {r : Nat → Int32} (hI : pm_I B n r) (hi : i < n) (f : Nat → Int32) : pw_Rp (pm_lnr f r i) (pw_ln r i) ∧ (pw_lh r i).length ≤ 14 ∧ (pw_ln r i).length = (pw_lh r i).length + (pm_n (r (7 + 6 * i + 4)) + pm_n (r (7 + 6 * i + 5))) ∧ pm_n (r (7 + 6 * i + 4)) + pm_n (r (7 + 6 * i + 5)) ≤ 2 := by
  have h7 := hI.1.2.1
  obtain ⟨⟨w0, w0a, w0b⟩, ⟨w1, w1a, w1b⟩, ⟨w2, w2a⟩, ⟨w3, w3a⟩, w4⟩ := hI.2.1 i hi
  have hwb : pm_n (r (7 + 6 * i + 4)) + pm_n (r (7 + 6 * i + 5)) ≤ 2 := by
    have n0 : pm_n (0 : Int32) = 0 := rfl
    have n1 : pm_n (1 : Int32) = 1 := rfl
    have n2 : pm_n (2 : Int32) = 2 := rfl
    rcases w4 with ⟨a, b⟩ | ⟨a, b⟩ | ⟨a, b⟩ | ⟨a, b⟩ | ⟨a, b⟩ <;> rw [a, b] <;> omega
  have h0 : pw_Rp (f, 0) [] := ⟨rfl, fun i hi => absurd hi (Nat.not_lt_zero _), fun q hq => absurd hq List.not_mem_nil⟩
  refine ⟨?_, ?_, ?_, hwb⟩
  · have a1 := pw_Rp_aI h0 (q := i) (by omega)
    rw [List.nil_append] at a1
    exact pw_Rp_rep (pw_Rp_rep (pw_Rp_aI (pw_Rp_aC (pw_Rp_aI (pw_Rp_aC (pw_Rp_aI (pw_Rp_aC (pw_Rp_aI (pw_Rp_aC a1 (x := 58) (by decide)) (by omega)) (x := 47) (by decide)) (by omega)) (x := 47) (by decide)) (by omega)) (x := 118) (by decide)) (by omega)) (x := 33) (by decide) _) (x := 120) (by decide) _
  · unfold pw_lh
    simp only [List.length_append, List.length_cons, List.length_nil]
    have a := (pw_dgl (q := i)).1 (by omega)
    have b := (pw_dgl (q := pm_n (r (7 + 6 * i + 3)))).2.1 (by omega)
    have c := (pw_dgl (q := pm_n (r (7 + 6 * i + 2)))).2.2
    have d := (pw_dgl (q := pm_n (r (7 + 6 * i + 0)))).2.1 (by omega)
    have e := (pw_dgl (q := pm_n (r (7 + 6 * i + 1)))).2.1 (by omega)
    omega
  · unfold pw_ln
    simp only [List.length_append, List.length_replicate]
    omega
