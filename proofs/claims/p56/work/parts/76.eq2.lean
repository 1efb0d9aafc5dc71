/-! the class as a whole: its cells by what they hold -/
abbrev pm_Cs : Type := (Nat → Nat → Int32) × (Nat → Nat → Int32) × (Nat → Nat) × Int32 × Int32 × Value
def pm_TC (z : Nat) (kA : Nat → ClassId) (kE : Nat → Nat) (M : pm_M) (g : pm_Cs) : Prop :=
  M 0 = some (pm_to z (g.1 12) (g.2.2.2.2.2)) ∧ M 1 = some (.inr (5, [.ref (z + 2), .ref (z + 13), .ref (z + 16)])) ∧ pm_SA z kA 2 M (g.1 0) ∧ M 13 = some (.inr (0, [.ref (z + 14), .ref (z + 15)])) ∧ M 14 = some (.inl (kA 0, 7, .inl (g.1 3))) ∧ M 15 = some (.inl (kA 0, 7, .inl (g.1 4))) ∧ M 16 = some (.inl (kA 0, 7, .inl (g.1 5))) ∧
  pm_SA z kA 17 M (g.1 1) ∧ pm_SA z kA 28 M (g.1 2) ∧ M 39 = some (pm_ho z (g.2.2.1 0) (g.2.2.1 1)) ∧ pm_HA z kA M (g.2.1) ∧ M 129 = some (.inr (9, [.ref (z + 130)])) ∧ M 130 = some (.inl (kA 0, 141, .inl (g.1 6))) ∧ M 131 = some (.inr (1, [.ref (z + 132), .int (g.2.2.2.1)])) ∧ M 132 = some (.inl (kA 0, 7, .inl (g.1 7))) ∧
  M 133 = some (pm_scr z (g.1 13)) ∧ M 134 = some (.inl (kA 3, 60, .inl (g.1 8))) ∧ M 135 = some (pm_co kA kE (g.1 11)) ∧ M 136 = some (.inl (kA 0, 11, .inl (g.1 9))) ∧ M 137 = some (.inl (kA 0, 11, .inl (g.1 10))) ∧ M 138 = some (.inr (12, [.ref (z + 139), .int 0, .int (g.2.2.2.2.1), .int (nI (g.2.2.1 2))])) ∧ M 139 = some (.inl (kA 4, 16, .inl (g.1 14)))
def pm_C0 : pm_Cs := (fun j => if j < 3 then pm_r0 else if j = 11 then (fun _ => 11) else (fun _ => 0), fun _ => pm_r0, fun _ => 0, 0, 0, .null)
theorem pm_TC_0 {z : Nat} {kA : Nat → ClassId} {kE : Nat → Nat} {M : pm_M} (h : pm_T0 z kA kE M) : pm_TC z kA kE M pm_C0 := h
/-- what is made behind the class leaves it -/
theorem pm_TC_keep {z : Nat} {kA : Nat → ClassId} {kE : Nat → Nat} {M M2 : pm_M} {g : pm_Cs} (h : pm_TC z kA kE M g) (hk : ∀ x, x < 140 → M2 x = M x) : pm_TC z kA kE M2 g := by
  obtain ⟨h0, h1, h2, h13, h14, h15, h16, h17, h28, h39, hH, h129, h130, h131, h132, h133, h134, h135, h136, h137, h138, h139⟩ := h
  have e := fun (x : Nat) (hx : x < 140) => hk x hx
  refine ⟨(e _ (by decide)).trans h0, (e _ (by decide)).trans h1, pm_SA_eq h2 (fun x a b => e x (by omega)), (e _ (by decide)).trans h13, (e _ (by decide)).trans h14, (e _ (by decide)).trans h15, (e _ (by decide)).trans h16, pm_SA_eq h17 (fun x a b => e x (by omega)), pm_SA_eq h28 (fun x a b => e x (by omega)), (e _ (by decide)).trans h39, pm_HA_n (fun x a b => e x (by omega)) hH, (e _ (by decide)).trans h129, (e _ (by decide)).trans h130, (e _ (by decide)).trans h131, (e _ (by decide)).trans h132, (e _ (by decide)).trans h133, (e _ (by decide)).trans h134, (e _ (by decide)).trans h135, (e _ (by decide)).trans h136, (e _ (by decide)).trans h137, (e _ (by decide)).trans h138, (e _ (by decide)).trans h139⟩
/-- the History when it has kept a State -/
def pm_kep (g : pm_Cs) (r : Nat → Int32) : pm_Cs := (g.1, fun i => if i = ((g.2.2.1 0) + (g.2.2.1 1)) % 8 then pm_cpr r ((g.2.1) (((g.2.2.1 0) + (g.2.2.1 1)) % 8)) else (g.2.1) i, fun j => if j = 0 then (if (g.2.2.1 1) < 8 then (g.2.2.1 0) else ((g.2.2.1 0) + 1) % 8) else if j = 1 then (if (g.2.2.1 1) < 8 then (g.2.2.1 1) + 1 else (g.2.2.1 1)) else g.2.2.1 j, g.2.2.2)
theorem pm_TC_M1 {z : Nat} {kA : Nat → ClassId} {kE : Nat → Nat} {M : pm_M} {g : pm_Cs} {r : Nat → Int32} (h : pm_TC z kA kE M g) : pm_TC z kA kE (pm_M1 z kA M r (g.2.1) (g.2.2.1 0) (g.2.2.1 1)) (pm_kep g r) := by
  obtain ⟨h0, h1, h2, h13, h14, h15, h16, h17, h28, h39, hH, h129, h130, h131, h132, h133, h134, h135, h136, h137, h138, h139⟩ := h
  have e := fun (x : Nat) (hx : x < 39 ∨ 129 ≤ x) => pm_M1_n (z := z) (kA := kA) (M := M) (r := r) (rh := (g.2.1)) (o := (g.2.2.1 0)) (k := (g.2.2.1 1)) hx
  refine ⟨(e _ (by decide)).trans h0, (e _ (by decide)).trans h1, pm_M1_S (by decide) h2, (e _ (by decide)).trans h13, (e _ (by decide)).trans h14, (e _ (by decide)).trans h15, (e _ (by decide)).trans h16, pm_M1_S (by decide) h17, pm_M1_S (by decide) h28, ?_, ⟨(pm_up_n (by decide)).trans ((pm_sw_n (by omega)).trans hH.1), fun i hi => ?_⟩, (e _ (by decide)).trans h129, (e _ (by decide)).trans h130, (e _ (by decide)).trans h131, (e _ (by decide)).trans h132, (e _ (by decide)).trans h133, (e _ (by decide)).trans h134, (e _ (by decide)).trans h135, (e _ (by decide)).trans h136, (e _ (by decide)).trans h137, (e _ (by decide)).trans h138, (e _ (by decide)).trans h139⟩
  · refine pm_up_s.trans ?_
    show some (pm_hx z (g.2.2.1 0) (g.2.2.1 1)) = some (pm_ho z (if (g.2.2.1 1) < 8 then (g.2.2.1 0) else ((g.2.2.1 0) + 1) % 8) (if (g.2.2.1 1) < 8 then (g.2.2.1 1) + 1 else (g.2.2.1 1)))
    unfold pm_hx
    split <;> rfl
  · show pm_SA z kA (41 + 11 * i) _ (if i = ((g.2.2.1 0) + (g.2.2.1 1)) % 8 then pm_cpr r ((g.2.1) (((g.2.2.1 0) + (g.2.2.1 1)) % 8)) else (g.2.1) i)
    refine pm_SA_up (by omega) ?_
    by_cases hij : i = ((g.2.2.1 0) + (g.2.2.1 1)) % 8
    · rw [if_pos hij, hij]
      exact pm_swS
    · rw [if_neg hij]
      exact pm_SA_sw (by omega) (hH.2 i hi)
/-- the Office's work: the State, quotas, remainders, drawn -/
def pm_kdo (g : pm_Cs) (r q rm dr : Nat → Int32) : pm_Cs := (fun j => if j = 0 then r else if j = 3 then q else if j = 4 then rm else if j = 5 then dr else g.1 j, g.2)
theorem pm_TC_do {z : Nat} {kA : Nat → ClassId} {kE : Nat → Nat} {M : pm_M} {g : pm_Cs} {r q rm dr : Nat → Int32} (h : pm_TC z kA kE M g) : pm_TC z kA kE (pm_sw z kA 2 (pm_up (pm_up (pm_up M 14 (.inl (kA 0, 7, .inl q))) 15 (.inl (kA 0, 7, .inl rm))) 16 (.inl (kA 0, 7, .inl dr))) r) (pm_kdo g r q rm dr) := by
  obtain ⟨h0, h1, h2, h13, h14, h15, h16, h17, h28, h39, hH, h129, h130, h131, h132, h133, h134, h135, h136, h137, h138, h139⟩ := h
  have e : ∀ x : Nat, (x < 2 ∨ x = 13 ∨ 17 ≤ x) → (pm_sw z kA 2 (pm_up (pm_up (pm_up M 14 (.inl (kA 0, 7, .inl q))) 15 (.inl (kA 0, 7, .inl rm))) 16 (.inl (kA 0, 7, .inl dr))) r) x = M x := fun x hx => (pm_sw_n (by omega)).trans ((pm_up_n (by omega)).trans ((pm_up_n (by omega)).trans (pm_up_n (by omega))))
  exact ⟨(e _ (by decide)).trans h0, (e _ (by decide)).trans h1, pm_swS, (e _ (by decide)).trans h13, (pm_sw_n (by decide)).trans ((pm_up_n (by decide)).trans ((pm_up_n (by decide)).trans pm_up_s)), (pm_sw_n (by decide)).trans ((pm_up_n (by decide)).trans pm_up_s), (pm_sw_n (by decide)).trans pm_up_s, pm_SA_eq h17 (fun x a b => e x (by omega)), pm_SA_eq h28 (fun x a b => e x (by omega)), (e _ (by decide)).trans h39, pm_HA_n (fun x a b => e x (by omega)) hH, (e _ (by decide)).trans h129, (e _ (by decide)).trans h130, (e _ (by decide)).trans h131, (e _ (by decide)).trans h132, (e _ (by decide)).trans h133, (e _ (by decide)).trans h134, (e _ (by decide)).trans h135, (e _ (by decide)).trans h136, (e _ (by decide)).trans h137, (e _ (by decide)).trans h138, (e _ (by decide)).trans h139⟩
/-- the face's own cell -/
def pm_kto (g : pm_Cs) (to : Nat → Int32) (ldv : Value) : pm_Cs := (fun j => if j = 12 then to else g.1 j, g.2.1, g.2.2.1, g.2.2.2.1, g.2.2.2.2.1, ldv)
theorem pm_TC_to {z : Nat} {kA : Nat → ClassId} {kE : Nat → Nat} {M : pm_M} {g : pm_Cs} {to : Nat → Int32} {ldv : Value} (h : pm_TC z kA kE M g) : pm_TC z kA kE (pm_up M 0 (pm_to z to ldv)) (pm_kto g to ldv) := by
  obtain ⟨h0, h1, h2, h13, h14, h15, h16, h17, h28, h39, hH, h129, h130, h131, h132, h133, h134, h135, h136, h137, h138, h139⟩ := h
  have e : ∀ x : Nat, 0 < x → (pm_up M 0 (pm_to z to ldv)) x = M x := fun x hx => pm_up_n (by omega)
  exact ⟨pm_up_s, (e _ (by decide)).trans h1, pm_SA_up (by decide) h2, (e _ (by decide)).trans h13, (e _ (by decide)).trans h14, (e _ (by decide)).trans h15, (e _ (by decide)).trans h16, pm_SA_up (by decide) h17, pm_SA_up (by decide) h28, (e _ (by decide)).trans h39, pm_HA_n (fun x a b => e x (by omega)) hH, (e _ (by decide)).trans h129, (e _ (by decide)).trans h130, (e _ (by decide)).trans h131, (e _ (by decide)).trans h132, (e _ (by decide)).trans h133, (e _ (by decide)).trans h134, (e _ (by decide)).trans h135, (e _ (by decide)).trans h136, (e _ (by decide)).trans h137, (e _ (by decide)).trans h138, (e _ (by decide)).trans h139⟩
/-- a change of the class, by its refusal -/
def pm_cT (z : Nat) (kA : Nat → ClassId) (kE : Nat → Nat) (nx : Nat) (M : pm_M) (g : pm_Cs) (Dq : Int32 × Int32) (O : Int32 × (Nat → Int32) × (Nat → Int32) × (Nat → Int32) × (Nat → Int32)) : pm_Po := fun o n' M' => (∀ a, 140 ≤ a → a < nx → M' a = M a) ∧ nx ≤ n' ∧
  ((Dq.1 = 0 ∧ o = .inl (some (.int O.1)) ∧ n' = nx ∧ pm_TC z kA kE M' (pm_kdo (pm_kep g (g.1 0)) O.2.1 O.2.2.1 O.2.2.2.1 O.2.2.2.2)) ∨ (Dq.1 = -1 ∧ o = .inr "java/lang/IndexOutOfBoundsException" ∧ pm_TC z kA kE M' g) ∨ (Dq.1 = -2 ∧ o = .inr "java/lang/IllegalArgumentException" ∧ pm_TC z kA kE M' g) ∨
   (¬ Dq.1 = 0 ∧ ¬ Dq.1 = -1 ∧ ¬ Dq.1 = -2 ∧ o = .inr "java/lang/UnsupportedOperationException" ∧ nx < n' ∧ M' nx = some (.inr (6, [.int Dq.1, .int Dq.2, .null])) ∧ pm_TC z kA kE M' (pm_kto g (g.1 12) (.ref (z + nx)))))
theorem c_X12_changeT {l : Launch} {z : Nat} {D : va_G} {kA : Nat → ClassId} {kE : Nat → Nat} {nx : Nat} {M : pm_M} {c n : Nat} {x y : Int32} {g : pm_Cs} (hc : c < 11) (h : pm_TC z kA kE M g) (hn : g.1 0 0 = nI n) (h7 : n ≤ 7) (hnx : 140 ≤ nx) (hsd : g.1 0 2 = nI (pm_n (g.1 0 2))) (hsl : pm_n (g.1 0 2) < 1024) (ho : g.2.2.1 0 < 8) (hk : g.2.2.1 1 ≤ 8) :
    pm_C l z D kA kE yX12_change cX12_change 5 (some .int) 20 3 12 [.ref (z + 0), .ref (kE c), .int x, .int y] nx M (pm_cT z kA kE nx M g (d_X7_ref c x y n (g.1 0)) (d_X7_do c x y n (g.1 0) (g.1 3) (g.1 4) (g.1 5))) := by
  obtain ⟨h0, h1, h2, h13, h14, h15, h16, h17, h28, h39, hH, -⟩ := id h
  refine pm_Cpost (c_X12_change hc h2 h0 h1 hn h7 hnx h13 h14 h15 h16 hsd hsl hH h39 ho hk) fun o n' M' hp => ?_
  unfold pm_chg at hp
  split at hp
  · next e0 =>
    obtain ⟨rfl, rfl, rfl⟩ := hp
    exact ⟨fun a ha hb => (pm_sw_n (by omega)).trans ((pm_up_n (by omega)).trans ((pm_up_n (by omega)).trans ((pm_up_n (by omega)).trans (pm_M1_n (by omega))))), Nat.le_refl _, Or.inl ⟨e0, rfl, rfl, pm_TC_do (pm_TC_M1 h)⟩⟩
  · next e0 =>
    split at hp
    · next e1 =>
      obtain ⟨rfl, hn', hp⟩ := hp
      rcases hp with ⟨hp, -⟩ | ⟨-, rfl⟩
      · cases hp
      · exact ⟨fun a ha hb => pm_up_n (by omega), by omega, Or.inr (Or.inl ⟨e1, rfl, pm_TC_keep h (fun a ha => pm_up_n (by omega))⟩)⟩
    · next e1 =>
      split at hp
      · next e2 =>
        obtain ⟨rfl, hn', hp⟩ := hp
        rcases hp with ⟨hp, -⟩ | ⟨-, rfl⟩
        · cases hp
        · exact ⟨fun a ha hb => pm_up_n (by omega), by omega, Or.inr (Or.inr (Or.inl ⟨e2, rfl, pm_TC_keep h (fun a ha => pm_up_n (by omega))⟩))⟩
      · next e2 =>
        obtain ⟨rfl, hn', hp⟩ := hp
        rcases hp with ⟨hp, -⟩ | ⟨-, rfl⟩
        · cases hp
        · exact ⟨fun a ha hb => (pm_up_n (by omega)).trans (pm_up_n (by omega)), by omega, Or.inr (Or.inr (Or.inr ⟨e0, e1, e2, rfl, by omega, (pm_up_n (by omega)).trans pm_up_s, pm_TC_to (pm_TC_keep h (fun a ha => pm_up_n (by omega)))⟩))⟩
def pm_kset (g : pm_Cs) (j : Nat) (r : Nat → Int32) : pm_Cs := (fun i => if i = j then r else g.1 i, g.2)
def pm_kho (g : pm_Cs) (o k : Nat) : pm_Cs := (g.1, g.2.1, fun j => if j = 0 then o else if j = 1 then k else g.2.2.1 j, g.2.2.2)
theorem pm_TC_sw2 {z : Nat} {kA : Nat → ClassId} {kE : Nat → Nat} {M : pm_M} {g : pm_Cs} {r : Nat → Int32} (h : pm_TC z kA kE M g) : pm_TC z kA kE (pm_sw z kA 2 M r) (pm_kset g 0 r) := by
  obtain ⟨h0, h1, h2, h13, h14, h15, h16, h17, h28, h39, hH, h129, h130, h131, h132, h133, h134, h135, h136, h137, h138, h139⟩ := h
  have e : ∀ x : Nat, (x < 2 ∨ 13 ≤ x) → (pm_sw z kA 2 M r) x = M x := fun x hx => pm_sw_n (by omega)
  exact ⟨(e _ (by decide)).trans h0, (e _ (by decide)).trans h1, pm_swS, (e _ (by decide)).trans h13, (e _ (by decide)).trans h14, (e _ (by decide)).trans h15, (e _ (by decide)).trans h16, pm_SA_eq h17 (fun x a b => e x (by omega)), pm_SA_eq h28 (fun x a b => e x (by omega)), (e _ (by decide)).trans h39, pm_HA_n (fun x a b => e x (by omega)) hH, (e _ (by decide)).trans h129, (e _ (by decide)).trans h130, (e _ (by decide)).trans h131, (e _ (by decide)).trans h132, (e _ (by decide)).trans h133, (e _ (by decide)).trans h134, (e _ (by decide)).trans h135, (e _ (by decide)).trans h136, (e _ (by decide)).trans h137, (e _ (by decide)).trans h138, (e _ (by decide)).trans h139⟩
theorem pm_TC_sw17 {z : Nat} {kA : Nat → ClassId} {kE : Nat → Nat} {M : pm_M} {g : pm_Cs} {r : Nat → Int32} (h : pm_TC z kA kE M g) : pm_TC z kA kE (pm_sw z kA 17 M r) (pm_kset g 1 r) := by
  obtain ⟨h0, h1, h2, h13, h14, h15, h16, h17, h28, h39, hH, h129, h130, h131, h132, h133, h134, h135, h136, h137, h138, h139⟩ := h
  have e : ∀ x : Nat, (x < 17 ∨ 28 ≤ x) → (pm_sw z kA 17 M r) x = M x := fun x hx => pm_sw_n (by omega)
  exact ⟨(e _ (by decide)).trans h0, (e _ (by decide)).trans h1, pm_SA_eq h2 (fun x a b => e x (by omega)), (e _ (by decide)).trans h13, (e _ (by decide)).trans h14, (e _ (by decide)).trans h15, (e _ (by decide)).trans h16, pm_swS, pm_SA_eq h28 (fun x a b => e x (by omega)), (e _ (by decide)).trans h39, pm_HA_n (fun x a b => e x (by omega)) hH, (e _ (by decide)).trans h129, (e _ (by decide)).trans h130, (e _ (by decide)).trans h131, (e _ (by decide)).trans h132, (e _ (by decide)).trans h133, (e _ (by decide)).trans h134, (e _ (by decide)).trans h135, (e _ (by decide)).trans h136, (e _ (by decide)).trans h137, (e _ (by decide)).trans h138, (e _ (by decide)).trans h139⟩
theorem pm_TC_sw28 {z : Nat} {kA : Nat → ClassId} {kE : Nat → Nat} {M : pm_M} {g : pm_Cs} {r : Nat → Int32} (h : pm_TC z kA kE M g) : pm_TC z kA kE (pm_sw z kA 28 M r) (pm_kset g 2 r) := by
  obtain ⟨h0, h1, h2, h13, h14, h15, h16, h17, h28, h39, hH, h129, h130, h131, h132, h133, h134, h135, h136, h137, h138, h139⟩ := h
  have e : ∀ x : Nat, (x < 28 ∨ 39 ≤ x) → (pm_sw z kA 28 M r) x = M x := fun x hx => pm_sw_n (by omega)
  exact ⟨(e _ (by decide)).trans h0, (e _ (by decide)).trans h1, pm_SA_eq h2 (fun x a b => e x (by omega)), (e _ (by decide)).trans h13, (e _ (by decide)).trans h14, (e _ (by decide)).trans h15, (e _ (by decide)).trans h16, pm_SA_eq h17 (fun x a b => e x (by omega)), pm_swS, (e _ (by decide)).trans h39, pm_HA_n (fun x a b => e x (by omega)) hH, (e _ (by decide)).trans h129, (e _ (by decide)).trans h130, (e _ (by decide)).trans h131, (e _ (by decide)).trans h132, (e _ (by decide)).trans h133, (e _ (by decide)).trans h134, (e _ (by decide)).trans h135, (e _ (by decide)).trans h136, (e _ (by decide)).trans h137, (e _ (by decide)).trans h138, (e _ (by decide)).trans h139⟩
theorem pm_TC_ho {z : Nat} {kA : Nat → ClassId} {kE : Nat → Nat} {M : pm_M} {g : pm_Cs} {o k : Nat} (h : pm_TC z kA kE M g) : pm_TC z kA kE (pm_up M 39 (pm_ho z o k)) (pm_kho g o k) := by
  obtain ⟨h0, h1, h2, h13, h14, h15, h16, h17, h28, h39, hH, h129, h130, h131, h132, h133, h134, h135, h136, h137, h138, h139⟩ := h
  have e : ∀ x : Nat, ¬ x = 39 → (pm_up M 39 (pm_ho z o k)) x = M x := fun x hx => pm_up_n hx
  exact ⟨(e _ (by decide)).trans h0, (e _ (by decide)).trans h1, pm_SA_eq h2 (fun x a b => e x (by omega)), (e _ (by decide)).trans h13, (e _ (by decide)).trans h14, (e _ (by decide)).trans h15, (e _ (by decide)).trans h16, pm_SA_eq h17 (fun x a b => e x (by omega)), pm_SA_eq h28 (fun x a b => e x (by omega)), pm_up_s, pm_HA_n (fun x a b => e x (by omega)) hH, (e _ (by decide)).trans h129, (e _ (by decide)).trans h130, (e _ (by decide)).trans h131, (e _ (by decide)).trans h132, (e _ (by decide)).trans h133, (e _ (by decide)).trans h134, (e _ (by decide)).trans h135, (e _ (by decide)).trans h136, (e _ (by decide)).trans h137, (e _ (by decide)).trans h138, (e _ (by decide)).trans h139⟩
theorem c_X12_undoT {l : Launch} {z : Nat} {D : va_G} {kA : Nat → ClassId} {kE : Nat → Nat} {nx : Nat} {M : pm_M} {g : pm_Cs} (h : pm_TC z kA kE M g) (ho : g.2.2.1 0 < 8) (hk : g.2.2.1 1 ≤ 8) : pm_C l z D kA kE yX12_undo cX12_undo 1 (some .int) 20 3 12 [.ref (z + 0)] nx M (fun o n' M' => (∀ a, 140 ≤ a → M' a = M a) ∧ nx ≤ n' ∧ ((g.2.2.1 1 = 0 ∧ o = .inr "java/lang/IllegalStateException" ∧ pm_TC z kA kE M' g) ∨ (0 < g.2.2.1 1 ∧ n' = nx ∧ o = .inl (some (.int (nI (g.2.2.1 1 - 1)))) ∧ pm_TC z kA kE M' (pm_kset (pm_kho g (g.2.2.1 0) (g.2.2.1 1 - 1)) 0 (pm_cpr (g.2.1 ((g.2.2.1 0 + (g.2.2.1 1 - 1)) % 8)) (g.1 0)))))) := by
  obtain ⟨h0, h1, h2, h13, h14, h15, h16, h17, h28, h39, hH, -⟩ := id h
  by_cases e : g.2.2.1 1 = 0
  · refine pm_Cpost (c_X12_undo_0 h0 h39 e) fun o n' M' hp => ?_
    obtain ⟨rfl, hn, hp⟩ := hp
    rcases hp with ⟨hp, -⟩ | ⟨-, rfl⟩
    · cases hp
    · exact ⟨fun _ _ => rfl, hn, Or.inl ⟨e, rfl, h⟩⟩
  · refine pm_Cpost (c_X12_undo_1 h2 h0 hH h39 ho hk (by omega)) fun o n' M' hp => ?_
    obtain ⟨rfl, rfl, rfl⟩ := hp
    exact ⟨fun a ha => (pm_sw_n (by omega)).trans (pm_up_n (by omega)), Nat.le_refl _, Or.inr ⟨by omega, rfl, rfl, pm_TC_sw2 (pm_TC_ho h)⟩⟩
/-- the line -/
def pm_kln (g : pm_Cs) (bs : Nat → Int32) (c : Nat) (ml : Int32) : pm_Cs := (fun j => if j = 14 then bs else g.1 j, g.2.1, fun j => if j = 2 then c else g.2.2.1 j, g.2.2.2.1, ml, g.2.2.2.2.2)
theorem pm_TC_ln {z : Nat} {kA : Nat → ClassId} {kE : Nat → Nat} {M : pm_M} {g : pm_Cs} {bs : Nat → Int32} {c : Nat} {ml : Int32} (h : pm_TC z kA kE M g) : pm_TC z kA kE (pm_up (pm_up M 138 (.inr (12, [.ref (z + 139), .int 0, .int ml, .int (nI c)]))) 139 (.inl (kA 4, 16, .inl bs))) (pm_kln g bs c ml) := by
  obtain ⟨h0, h1, h2, h13, h14, h15, h16, h17, h28, h39, hH, h129, h130, h131, h132, h133, h134, h135, h136, h137, h138, h139⟩ := h
  have e : ∀ x : Nat, x < 138 → (pm_up (pm_up M 138 (.inr (12, [.ref (z + 139), .int 0, .int ml, .int (nI c)]))) 139 (.inl (kA 4, 16, .inl bs))) x = M x := fun x hx => (pm_up_n (by omega)).trans (pm_up_n (by omega))
  exact ⟨(e _ (by decide)).trans h0, (e _ (by decide)).trans h1, pm_SA_eq h2 (fun x a b => e x (by omega)), (e _ (by decide)).trans h13, (e _ (by decide)).trans h14, (e _ (by decide)).trans h15, (e _ (by decide)).trans h16, pm_SA_eq h17 (fun x a b => e x (by omega)), pm_SA_eq h28 (fun x a b => e x (by omega)), (e _ (by decide)).trans h39, pm_HA_n (fun x a b => e x (by omega)) hH, (e _ (by decide)).trans h129, (e _ (by decide)).trans h130, (e _ (by decide)).trans h131, (e _ (by decide)).trans h132, (e _ (by decide)).trans h133, (e _ (by decide)).trans h134, (e _ (by decide)).trans h135, (e _ (by decide)).trans h136, (e _ (by decide)).trans h137, (pm_up_n (by decide)).trans pm_up_s, pm_up_s⟩
