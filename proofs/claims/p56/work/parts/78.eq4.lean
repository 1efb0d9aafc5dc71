/-! the askers over the class as a whole -/
def pm_fa (z : Nat) (kA : Nat → ClassId) (kE : Nat → Nat) (nx : Nat) (M : pm_M) (k : Nat) (v : Option Value) (g' : pm_Cs) : pm_Po := fun o n' M' => (∀ a, 140 ≤ a → a < nx → M' a = M a) ∧ nx ≤ n' ∧ pm_TC z kA kE M' g' ∧ ((k = 0 ∧ o = .inl v) ∨ (0 < k ∧ o = .inr (pm_xn.getD k "")))
theorem pm_fpU {z : Nat} {kA : Nat → ClassId} {kE : Nat → Nat} {nx k n' : Nat} {M M2 M' : pm_M} {g2 : pm_Cs} {v : Option Value} {o : pm_O} (h2 : pm_TC z kA kE M2 g2) (e : ∀ a, 140 ≤ a → a < nx → M2 a = M a) (hp : pm_fp k v nx M2 o n' M') : pm_fa z kA kE nx M k v g2 o n' M' := by
  obtain ⟨rfl, hn, hp⟩ := hp
  refine ⟨e, hn, h2, ?_⟩
  rcases hp with ⟨h0, ho, -⟩ | ⟨h0, ho⟩
  · exact Or.inl ⟨h0, ho⟩
  · exact Or.inr ⟨h0, ho⟩
theorem pm_rtU {z : Nat} {kA : Nat → ClassId} {kE : Nat → Nat} {nx n' : Nat} {M M2 M' : pm_M} {g2 : pm_Cs} {v : Option Value} {o : pm_O} (h2 : pm_TC z kA kE M2 g2) (e : ∀ a, 140 ≤ a → a < nx → M2 a = M a) (hp : pm_rt v nx M2 o n' M') : pm_fa z kA kE nx M 0 v g2 o n' M' := by
  obtain ⟨rfl, rfl, rfl⟩ := hp
  exact ⟨e, Nat.le_refl _, h2, Or.inl ⟨rfl, rfl⟩⟩
def pm_k130 (g : pm_Cs) (wy : Nat → Int32) : pm_Cs := (fun j => if j = 6 then wy else g.1 j, g.2)
theorem pm_TC_wy {z : Nat} {kA : Nat → ClassId} {kE : Nat → Nat} {M : pm_M} {g : pm_Cs} {wy : Nat → Int32} (h : pm_TC z kA kE M g) : pm_TC z kA kE (pm_up M 130 (.inl (kA 0, 141, .inl wy))) (pm_k130 g wy) := by
  obtain ⟨h0, h1, h2, h13, h14, h15, h16, h17, h28, h39, hH, h129, h130, h131, h132, h133, h134, h135, h136, h137, h138, h139⟩ := h
  have e : ∀ x : Nat, ¬ x = 130 → (pm_up M 130 (.inl (kA 0, 141, .inl wy))) x = M x := fun x hx => pm_up_n hx
  exact ⟨(e _ (by decide)).trans h0, (e _ (by decide)).trans h1, pm_SA_eq h2 (fun x a b => e x (by omega)), (e _ (by decide)).trans h13, (e _ (by decide)).trans h14, (e _ (by decide)).trans h15, (e _ (by decide)).trans h16, pm_SA_eq h17 (fun x a b => e x (by omega)), pm_SA_eq h28 (fun x a b => e x (by omega)), (e _ (by decide)).trans h39, pm_HA_n (fun x a b => e x (by omega)) hH, (e _ (by decide)).trans h129, pm_up_s, (e _ (by decide)).trans h131, (e _ (by decide)).trans h132, (e _ (by decide)).trans h133, (e _ (by decide)).trans h134, (e _ (by decide)).trans h135, (e _ (by decide)).trans h136, (e _ (by decide)).trans h137, (e _ (by decide)).trans h138, (e _ (by decide)).trans h139⟩
def pm_kcu (g : pm_Cs) (un : Nat → Int32) (cu : Int32) : pm_Cs := (fun j => if j = 7 then un else g.1 j, g.2.1, g.2.2.1, cu, g.2.2.2.2)
theorem pm_TC_cu {z : Nat} {kA : Nat → ClassId} {kE : Nat → Nat} {M : pm_M} {g : pm_Cs} {un : Nat → Int32} {cu : Int32} (h : pm_TC z kA kE M g) : pm_TC z kA kE (pm_up (pm_up M 132 (.inl (kA 0, 7, .inl un))) 131 (.inr (1, [.ref (z + 132), .int cu]))) (pm_kcu g un cu) := by
  obtain ⟨h0, h1, h2, h13, h14, h15, h16, h17, h28, h39, hH, h129, h130, h131, h132, h133, h134, h135, h136, h137, h138, h139⟩ := h
  have e : ∀ x : Nat, ¬ (x = 131 ∨ x = 132) → (pm_up (pm_up M 132 (.inl (kA 0, 7, .inl un))) 131 (.inr (1, [.ref (z + 132), .int cu]))) x = M x := fun x hx => (pm_up_n (by omega)).trans (pm_up_n (by omega))
  exact ⟨(e _ (by decide)).trans h0, (e _ (by decide)).trans h1, pm_SA_eq h2 (fun x a b => e x (by omega)), (e _ (by decide)).trans h13, (e _ (by decide)).trans h14, (e _ (by decide)).trans h15, (e _ (by decide)).trans h16, pm_SA_eq h17 (fun x a b => e x (by omega)), pm_SA_eq h28 (fun x a b => e x (by omega)), (e _ (by decide)).trans h39, pm_HA_n (fun x a b => e x (by omega)) hH, (e _ (by decide)).trans h129, (e _ (by decide)).trans h130, pm_up_s, (pm_up_n (by decide)).trans pm_up_s, (e _ (by decide)).trans h133, (e _ (by decide)).trans h134, (e _ (by decide)).trans h135, (e _ (by decide)).trans h136, (e _ (by decide)).trans h137, (e _ (by decide)).trans h138, (e _ (by decide)).trans h139⟩
def pm_kqm (g : pm_Cs) (q rm : Nat → Int32) : pm_Cs := (fun j => if j = 3 then q else if j = 4 then rm else g.1 j, g.2)
theorem pm_TC_qm {z : Nat} {kA : Nat → ClassId} {kE : Nat → Nat} {M : pm_M} {g : pm_Cs} {q rm : Nat → Int32} (h : pm_TC z kA kE M g) : pm_TC z kA kE (pm_up (pm_up M 14 (.inl (kA 0, 7, .inl q))) 15 (.inl (kA 0, 7, .inl rm))) (pm_kqm g q rm) := by
  obtain ⟨h0, h1, h2, h13, h14, h15, h16, h17, h28, h39, hH, h129, h130, h131, h132, h133, h134, h135, h136, h137, h138, h139⟩ := h
  have e : ∀ x : Nat, ¬ (x = 14 ∨ x = 15) → (pm_up (pm_up M 14 (.inl (kA 0, 7, .inl q))) 15 (.inl (kA 0, 7, .inl rm))) x = M x := fun x hx => (pm_up_n (by omega)).trans (pm_up_n (by omega))
  exact ⟨(e _ (by decide)).trans h0, (e _ (by decide)).trans h1, pm_SA_eq h2 (fun x a b => e x (by omega)), (e _ (by decide)).trans h13, (pm_up_n (by decide)).trans pm_up_s, pm_up_s, (e _ (by decide)).trans h16, pm_SA_eq h17 (fun x a b => e x (by omega)), pm_SA_eq h28 (fun x a b => e x (by omega)), (e _ (by decide)).trans h39, pm_HA_n (fun x a b => e x (by omega)) hH, (e _ (by decide)).trans h129, (e _ (by decide)).trans h130, (e _ (by decide)).trans h131, (e _ (by decide)).trans h132, (e _ (by decide)).trans h133, (e _ (by decide)).trans h134, (e _ (by decide)).trans h135, (e _ (by decide)).trans h136, (e _ (by decide)).trans h137, (e _ (by decide)).trans h138, (e _ (by decide)).trans h139⟩
def pm_kdr (g : pm_Cs) (dr : Nat → Int32) : pm_Cs := (fun j => if j = 5 then dr else g.1 j, g.2)
theorem pm_TC_dr {z : Nat} {kA : Nat → ClassId} {kE : Nat → Nat} {M : pm_M} {g : pm_Cs} {dr : Nat → Int32} (h : pm_TC z kA kE M g) : pm_TC z kA kE (pm_up M 16 (.inl (kA 0, 7, .inl dr))) (pm_kdr g dr) := by
  obtain ⟨h0, h1, h2, h13, h14, h15, h16, h17, h28, h39, hH, h129, h130, h131, h132, h133, h134, h135, h136, h137, h138, h139⟩ := h
  have e : ∀ x : Nat, ¬ x = 16 → (pm_up M 16 (.inl (kA 0, 7, .inl dr))) x = M x := fun x hx => pm_up_n hx
  exact ⟨(e _ (by decide)).trans h0, (e _ (by decide)).trans h1, pm_SA_eq h2 (fun x a b => e x (by omega)), (e _ (by decide)).trans h13, (e _ (by decide)).trans h14, (e _ (by decide)).trans h15, pm_up_s, pm_SA_eq h17 (fun x a b => e x (by omega)), pm_SA_eq h28 (fun x a b => e x (by omega)), (e _ (by decide)).trans h39, pm_HA_n (fun x a b => e x (by omega)) hH, (e _ (by decide)).trans h129, (e _ (by decide)).trans h130, (e _ (by decide)).trans h131, (e _ (by decide)).trans h132, (e _ (by decide)).trans h133, (e _ (by decide)).trans h134, (e _ (by decide)).trans h135, (e _ (by decide)).trans h136, (e _ (by decide)).trans h137, (e _ (by decide)).trans h138, (e _ (by decide)).trans h139⟩
def pm_kfe (g : pm_Cs) (tx sc : Nat → Int32) : pm_Cs := (fun j => if j = 8 then tx else if j = 13 then sc else g.1 j, g.2)
theorem pm_TC_fe {z : Nat} {kA : Nat → ClassId} {kE : Nat → Nat} {M : pm_M} {g : pm_Cs} {tx sc : Nat → Int32} (h : pm_TC z kA kE M g) : pm_TC z kA kE (pm_up (pm_up M 134 (.inl (kA 3, 60, .inl tx))) 133 (pm_scr z sc)) (pm_kfe g tx sc) := by
  obtain ⟨h0, h1, h2, h13, h14, h15, h16, h17, h28, h39, hH, h129, h130, h131, h132, h133, h134, h135, h136, h137, h138, h139⟩ := h
  have e : ∀ x : Nat, ¬ (x = 133 ∨ x = 134) → (pm_up (pm_up M 134 (.inl (kA 3, 60, .inl tx))) 133 (pm_scr z sc)) x = M x := fun x hx => (pm_up_n (by omega)).trans (pm_up_n (by omega))
  exact ⟨(e _ (by decide)).trans h0, (e _ (by decide)).trans h1, pm_SA_eq h2 (fun x a b => e x (by omega)), (e _ (by decide)).trans h13, (e _ (by decide)).trans h14, (e _ (by decide)).trans h15, (e _ (by decide)).trans h16, pm_SA_eq h17 (fun x a b => e x (by omega)), pm_SA_eq h28 (fun x a b => e x (by omega)), (e _ (by decide)).trans h39, pm_HA_n (fun x a b => e x (by omega)) hH, (e _ (by decide)).trans h129, (e _ (by decide)).trans h130, (e _ (by decide)).trans h131, (e _ (by decide)).trans h132, pm_up_s, (pm_up_n (by decide)).trans pm_up_s, (e _ (by decide)).trans h135, (e _ (by decide)).trans h136, (e _ (by decide)).trans h137, (e _ (by decide)).trans h138, (e _ (by decide)).trans h139⟩
theorem f_X12_capacity {l : Launch} {z : Nat} {D : va_G} {kA : Nat → ClassId} {kE : Nat → Nat} {nx : Nat} {M : pm_M} {g : pm_Cs} {x : Int32} {n : Nat} (h : pm_TC z kA kE M g) (hn : g.1 0 0 = nI n) (h7 : n ≤ 7)  : pm_C l z D kA kE yX12_capacity cX12_capacity 2 (some .int) 20 2 12 [.ref (z + 0), .int x] nx M (pm_fa z kA kE nx M (d_X12_capacity x n (g.1 0) (g.1 12)).1 (some (.int (d_X12_capacity x n (g.1 0) (g.1 12)).2)) g) := by
  obtain ⟨h0, h1, h2, h13, h14, h15, h16, h17, h28, h39, hH, h129, h130, h131, h132, h133, h134, h135, h136, h137, h138, h139⟩ := id h
  exact pm_Cpost (c_X12_capacity (to := g.1 12) h2 h0 hn h7) fun o n' M' hp => pm_fpU h (fun _ _ _ => rfl) hp
theorem f_X12_votes {l : Launch} {z : Nat} {D : va_G} {kA : Nat → ClassId} {kE : Nat → Nat} {nx : Nat} {M : pm_M} {g : pm_Cs} {x : Int32} {n : Nat} (h : pm_TC z kA kE M g) (hn : g.1 0 0 = nI n) (h7 : n ≤ 7)  : pm_C l z D kA kE yX12_votes cX12_votes 2 (some .int) 20 2 12 [.ref (z + 0), .int x] nx M (pm_fa z kA kE nx M (d_X12_votes x n (g.1 0) (g.1 12)).1 (some (.int (d_X12_votes x n (g.1 0) (g.1 12)).2)) g) := by
  obtain ⟨h0, h1, h2, h13, h14, h15, h16, h17, h28, h39, hH, h129, h130, h131, h132, h133, h134, h135, h136, h137, h138, h139⟩ := id h
  exact pm_Cpost (c_X12_votes (to := g.1 12) h2 h0 hn h7) fun o n' M' hp => pm_fpU h (fun _ _ _ => rfl) hp
theorem f_X12_warnings {l : Launch} {z : Nat} {D : va_G} {kA : Nat → ClassId} {kE : Nat → Nat} {nx : Nat} {M : pm_M} {g : pm_Cs} {x : Int32} {n : Nat} (h : pm_TC z kA kE M g) (hn : g.1 0 0 = nI n) (h7 : n ≤ 7)  : pm_C l z D kA kE yX12_warnings cX12_warnings 3 (some .int) 20 2 12 [.ref (z + 0), .int x] nx M (pm_fa z kA kE nx M (d_X12_warnings x n (g.1 0) (g.1 12)).1 (some (.int (d_X12_warnings x n (g.1 0) (g.1 12)).2)) g) := by
  obtain ⟨h0, h1, h2, h13, h14, h15, h16, h17, h28, h39, hH, h129, h130, h131, h132, h133, h134, h135, h136, h137, h138, h139⟩ := id h
  exact pm_Cpost (c_X12_warnings (to := g.1 12) h2 h0 hn h7) fun o n' M' hp => pm_fpU h (fun _ _ _ => rfl) hp
theorem f_X12_barredMonths {l : Launch} {z : Nat} {D : va_G} {kA : Nat → ClassId} {kE : Nat → Nat} {nx : Nat} {M : pm_M} {g : pm_Cs} {x : Int32} {n : Nat} (h : pm_TC z kA kE M g) (hn : g.1 0 0 = nI n) (h7 : n ≤ 7)  : pm_C l z D kA kE yX12_barredMonths cX12_barredMonths 3 (some .int) 20 2 12 [.ref (z + 0), .int x] nx M (pm_fa z kA kE nx M (d_X12_barredMonths x n (g.1 0) (g.1 12)).1 (some (.int (d_X12_barredMonths x n (g.1 0) (g.1 12)).2)) g) := by
  obtain ⟨h0, h1, h2, h13, h14, h15, h16, h17, h28, h39, hH, h129, h130, h131, h132, h133, h134, h135, h136, h137, h138, h139⟩ := id h
  exact pm_Cpost (c_X12_barredMonths (to := g.1 12) h2 h0 hn h7) fun o n' M' hp => pm_fpU h (fun _ _ _ => rfl) hp
theorem f_X12_quota {l : Launch} {z : Nat} {D : va_G} {kA : Nat → ClassId} {kE : Nat → Nat} {nx : Nat} {M : pm_M} {g : pm_Cs} {x : Int32} {n : Nat} (h : pm_TC z kA kE M g) (hn : g.1 0 0 = nI n) (h7 : n ≤ 7)  : pm_C l z D kA kE yX12_quota cX12_quota 2 (some .int) 20 2 12 [.ref (z + 0), .int x] nx M (pm_fa z kA kE nx M (d_X12_quota x n (g.1 0) (g.1 12)).1 (some (.int (d_X12_quota x n (g.1 0) (g.1 12)).2)) g) := by
  obtain ⟨h0, h1, h2, h13, h14, h15, h16, h17, h28, h39, hH, h129, h130, h131, h132, h133, h134, h135, h136, h137, h138, h139⟩ := id h
  exact pm_Cpost (c_X12_quota (to := g.1 12) h2 h0 hn h7) fun o n' M' hp => pm_fpU h (fun _ _ _ => rfl) hp
theorem f_X12_sales {l : Launch} {z : Nat} {D : va_G} {kA : Nat → ClassId} {kE : Nat → Nat} {nx : Nat} {M : pm_M} {g : pm_Cs} {x : Int32} {n : Nat} (h : pm_TC z kA kE M g) (hn : g.1 0 0 = nI n) (h7 : n ≤ 7)  : pm_C l z D kA kE yX12_sales cX12_sales 2 (some .int) 20 2 12 [.ref (z + 0), .int x] nx M (pm_fa z kA kE nx M (d_X12_sales x n (g.1 0) (g.1 12)).1 (some (.int (d_X12_sales x n (g.1 0) (g.1 12)).2)) g) := by
  obtain ⟨h0, h1, h2, h13, h14, h15, h16, h17, h28, h39, hH, h129, h130, h131, h132, h133, h134, h135, h136, h137, h138, h139⟩ := id h
  exact pm_Cpost (c_X12_sales (to := g.1 12) h2 h0 hn h7) fun o n' M' hp => pm_fpU h (fun _ _ _ => rfl) hp
theorem f_X12_excess {l : Launch} {z : Nat} {D : va_G} {kA : Nat → ClassId} {kE : Nat → Nat} {nx : Nat} {M : pm_M} {g : pm_Cs} {x : Int32} {n : Nat} (h : pm_TC z kA kE M g) (hn : g.1 0 0 = nI n) (h7 : n ≤ 7)  : pm_C l z D kA kE yX12_excess cX12_excess 2 (some .int) 20 2 12 [.ref (z + 0), .int x] nx M (pm_fa z kA kE nx M (d_X12_excess x n (g.1 0) (g.1 12)).1 (some (.int (d_X12_excess x n (g.1 0) (g.1 12)).2)) g) := by
  obtain ⟨h0, h1, h2, h13, h14, h15, h16, h17, h28, h39, hH, h129, h130, h131, h132, h133, h134, h135, h136, h137, h138, h139⟩ := id h
  exact pm_Cpost (c_X12_excess (to := g.1 12) h2 h0 hn h7) fun o n' M' hp => pm_fpU h (fun _ _ _ => rfl) hp
theorem f_X12_memberByExcess {l : Launch} {z : Nat} {D : va_G} {kA : Nat → ClassId} {kE : Nat → Nat} {nx : Nat} {M : pm_M} {g : pm_Cs} {x : Int32} {n : Nat} (h : pm_TC z kA kE M g) (hn : g.1 0 0 = nI n) (h7 : n ≤ 7)  : pm_C l z D kA kE yX12_memberByExcess cX12_memberByExcess 3 (some .int) 20 2 12 [.ref (z + 0), .int x] nx M (pm_fa z kA kE nx M (d_X12_memberByExcess x n (g.1 0) (g.1 12)).1 (some (.int (d_X12_memberByExcess x n (g.1 0) (g.1 12)).2)) g) := by
  obtain ⟨h0, h1, h2, h13, h14, h15, h16, h17, h28, h39, hH, h129, h130, h131, h132, h133, h134, h135, h136, h137, h138, h139⟩ := id h
  exact pm_Cpost (c_X12_memberByExcess (to := g.1 12) h2 h0 hn h7) fun o n' M' hp => pm_fpU h (fun _ _ _ => rfl) hp
theorem f_X12_standing {l : Launch} {z : Nat} {D : va_G} {kA : Nat → ClassId} {kE : Nat → Nat} {nx : Nat} {M : pm_M} {g : pm_Cs} {x : Int32} {n : Nat} (h : pm_TC z kA kE M g) (hn : g.1 0 0 = nI n) (h7 : n ≤ 7)  : pm_C l z D kA kE yX12_standing cX12_standing 3 (some .char) 20 2 12 [.ref (z + 0), .int x] nx M (pm_fa z kA kE nx M (d_X12_standing x n (g.1 0) (g.1 12)).1 (some (.int (d_X12_standing x n (g.1 0) (g.1 12)).2)) g) := by
  obtain ⟨h0, h1, h2, h13, h14, h15, h16, h17, h28, h39, hH, h129, h130, h131, h132, h133, h134, h135, h136, h137, h138, h139⟩ := id h
  exact pm_Cpost (c_X12_standing (to := g.1 12) h2 h0 hn h7) fun o n' M' hp => pm_fpU h (fun _ _ _ => rfl) hp
theorem f_X12_swings {l : Launch} {z : Nat} {D : va_G} {kA : Nat → ClassId} {kE : Nat → Nat} {nx : Nat} {M : pm_M} {g : pm_Cs} {x : Int32} {n : Nat} (h : pm_TC z kA kE M g) (hn : g.1 0 0 = nI n) (h7 : n ≤ 7)  : pm_C l z D kA kE yX12_swings cX12_swings 2 (some .int) 20 2 12 [.ref (z + 0), .int x] nx M (pm_fa z kA kE nx M (d_X12_swings x n (g.1 0) (g.1 12)).1 (some (.int (d_X12_swings x n (g.1 0) (g.1 12)).2)) g) := by
  obtain ⟨h0, h1, h2, h13, h14, h15, h16, h17, h28, h39, hH, h129, h130, h131, h132, h133, h134, h135, h136, h137, h138, h139⟩ := id h
  exact pm_Cpost (c_X12_swings (to := g.1 12) h2 h0 h129 hn h7) fun o n' M' hp => pm_fpU h (fun _ _ _ => rfl) hp
theorem f_X12_areLinked {l : Launch} {z : Nat} {D : va_G} {kA : Nat → ClassId} {kE : Nat → Nat} {nx : Nat} {M : pm_M} {g : pm_Cs} {x y : Int32} {n : Nat} (h : pm_TC z kA kE M g) (hn : g.1 0 0 = nI n) (h7 : n ≤ 7)  : pm_C l z D kA kE yX12_areLinked cX12_areLinked 3 (some .boolean) 20 2 12 [.ref (z + 0), .int x, .int y] nx M (pm_fa z kA kE nx M (d_X12_areLinked x y n (g.1 0) (g.1 12)).1 (some (.int (d_X12_areLinked x y n (g.1 0) (g.1 12)).2)) g) := by
  obtain ⟨h0, h1, h2, h13, h14, h15, h16, h17, h28, h39, hH, h129, h130, h131, h132, h133, h134, h135, h136, h137, h138, h139⟩ := id h
  exact pm_Cpost (c_X12_areLinked (to := g.1 12) h2 h0 hn h7) fun o n' M' hp => pm_fpU h (fun _ _ _ => rfl) hp
theorem f_X12_memberCount {l : Launch} {z : Nat} {D : va_G} {kA : Nat → ClassId} {kE : Nat → Nat} {nx : Nat} {M : pm_M} {g : pm_Cs} {n : Nat} (h : pm_TC z kA kE M g) (hn : g.1 0 0 = nI n) (h7 : n ≤ 7)  : pm_C l z D kA kE yX12_memberCount cX12_memberCount 1 (some .int) 20 2 12 [.ref (z + 0)] nx M (pm_fa z kA kE nx M (d_X12_memberCount n (g.1 0) (g.1 12)).1 (some (.int (d_X12_memberCount n (g.1 0) (g.1 12)).2)) g) := by
  obtain ⟨h0, h1, h2, h13, h14, h15, h16, h17, h28, h39, hH, h129, h130, h131, h132, h133, h134, h135, h136, h137, h138, h139⟩ := id h
  exact pm_Cpost (c_X12_memberCount (to := g.1 12) h2 h0 hn h7) fun o n' M' hp => pm_fpU h (fun _ _ _ => rfl) hp
theorem f_X12_month {l : Launch} {z : Nat} {D : va_G} {kA : Nat → ClassId} {kE : Nat → Nat} {nx : Nat} {M : pm_M} {g : pm_Cs} {n : Nat} (h : pm_TC z kA kE M g) (hn : g.1 0 0 = nI n) (h7 : n ≤ 7)  : pm_C l z D kA kE yX12_month cX12_month 1 (some .int) 20 2 12 [.ref (z + 0)] nx M (pm_fa z kA kE nx M (d_X12_month n (g.1 0) (g.1 12)).1 (some (.int (d_X12_month n (g.1 0) (g.1 12)).2)) g) := by
  obtain ⟨h0, h1, h2, h13, h14, h15, h16, h17, h28, h39, hH, h129, h130, h131, h132, h133, h134, h135, h136, h137, h138, h139⟩ := id h
  exact pm_Cpost (c_X12_month (to := g.1 12) h2 h0 hn h7) fun o n' M' hp => pm_fpU h (fun _ _ _ => rfl) hp
theorem f_X12_soldTotal {l : Launch} {z : Nat} {D : va_G} {kA : Nat → ClassId} {kE : Nat → Nat} {nx : Nat} {M : pm_M} {g : pm_Cs} {n : Nat} (h : pm_TC z kA kE M g) (hn : g.1 0 0 = nI n) (h7 : n ≤ 7)  : pm_C l z D kA kE yX12_soldTotal cX12_soldTotal 1 (some .int) 20 2 12 [.ref (z + 0)] nx M (pm_fa z kA kE nx M (d_X12_soldTotal n (g.1 0) (g.1 12)).1 (some (.int (d_X12_soldTotal n (g.1 0) (g.1 12)).2)) g) := by
  obtain ⟨h0, h1, h2, h13, h14, h15, h16, h17, h28, h39, hH, h129, h130, h131, h132, h133, h134, h135, h136, h137, h138, h139⟩ := id h
  exact pm_Cpost (c_X12_soldTotal (to := g.1 12) h2 h0 hn h7) fun o n' M' hp => pm_fpU h (fun _ _ _ => rfl) hp
theorem f_X12_withinTotal {l : Launch} {z : Nat} {D : va_G} {kA : Nat → ClassId} {kE : Nat → Nat} {nx : Nat} {M : pm_M} {g : pm_Cs} {n : Nat} (h : pm_TC z kA kE M g) (hn : g.1 0 0 = nI n) (h7 : n ≤ 7)  : pm_C l z D kA kE yX12_withinTotal cX12_withinTotal 1 (some .int) 20 2 12 [.ref (z + 0)] nx M (pm_fa z kA kE nx M (d_X12_withinTotal n (g.1 0) (g.1 12)).1 (some (.int (d_X12_withinTotal n (g.1 0) (g.1 12)).2)) g) := by
  obtain ⟨h0, h1, h2, h13, h14, h15, h16, h17, h28, h39, hH, h129, h130, h131, h132, h133, h134, h135, h136, h137, h138, h139⟩ := id h
  exact pm_Cpost (c_X12_withinTotal (to := g.1 12) h2 h0 hn h7) fun o n' M' hp => pm_fpU h (fun _ _ _ => rfl) hp
theorem f_X12_finedTotal {l : Launch} {z : Nat} {D : va_G} {kA : Nat → ClassId} {kE : Nat → Nat} {nx : Nat} {M : pm_M} {g : pm_Cs} {n : Nat} (h : pm_TC z kA kE M g) (hn : g.1 0 0 = nI n) (h7 : n ≤ 7)  : pm_C l z D kA kE yX12_finedTotal cX12_finedTotal 1 (some .int) 20 2 12 [.ref (z + 0)] nx M (pm_fa z kA kE nx M (d_X12_finedTotal n (g.1 0) (g.1 12)).1 (some (.int (d_X12_finedTotal n (g.1 0) (g.1 12)).2)) g) := by
  obtain ⟨h0, h1, h2, h13, h14, h15, h16, h17, h28, h39, hH, h129, h130, h131, h132, h133, h134, h135, h136, h137, h138, h139⟩ := id h
  exact pm_Cpost (c_X12_finedTotal (to := g.1 12) h2 h0 hn h7) fun o n' M' hp => pm_fpU h (fun _ _ _ => rfl) hp
theorem f_X12_fines {l : Launch} {z : Nat} {D : va_G} {kA : Nat → ClassId} {kE : Nat → Nat} {nx : Nat} {M : pm_M} {g : pm_Cs} {n : Nat} (h : pm_TC z kA kE M g) (hn : g.1 0 0 = nI n) (h7 : n ≤ 7)  : pm_C l z D kA kE yX12_fines cX12_fines 1 (some .int) 20 2 12 [.ref (z + 0)] nx M (pm_fa z kA kE nx M (d_X12_fines n (g.1 0) (g.1 12)).1 (some (.int (d_X12_fines n (g.1 0) (g.1 12)).2)) g) := by
  obtain ⟨h0, h1, h2, h13, h14, h15, h16, h17, h28, h39, hH, h129, h130, h131, h132, h133, h134, h135, h136, h137, h138, h139⟩ := id h
  exact pm_Cpost (c_X12_fines (to := g.1 12) h2 h0 hn h7) fun o n' M' hp => pm_fpU h (fun _ _ _ => rfl) hp
theorem f_X12_linkCount {l : Launch} {z : Nat} {D : va_G} {kA : Nat → ClassId} {kE : Nat → Nat} {nx : Nat} {M : pm_M} {g : pm_Cs} {n : Nat} (h : pm_TC z kA kE M g) (hn : g.1 0 0 = nI n) (h7 : n ≤ 7)  : pm_C l z D kA kE yX12_linkCount cX12_linkCount 1 (some .int) 20 2 12 [.ref (z + 0)] nx M (pm_fa z kA kE nx M (d_X12_linkCount n (g.1 0) (g.1 12)).1 (some (.int (d_X12_linkCount n (g.1 0) (g.1 12)).2)) g) := by
  obtain ⟨h0, h1, h2, h13, h14, h15, h16, h17, h28, h39, hH, h129, h130, h131, h132, h133, h134, h135, h136, h137, h138, h139⟩ := id h
  exact pm_Cpost (c_X12_linkCount (to := g.1 12) h2 h0 hn h7) fun o n' M' hp => pm_fpU h (fun _ _ _ => rfl) hp
theorem f_X12_fewestWatchers {l : Launch} {z : Nat} {D : va_G} {kA : Nat → ClassId} {kE : Nat → Nat} {nx : Nat} {M : pm_M} {g : pm_Cs} {n : Nat} (h : pm_TC z kA kE M g) (hn : g.1 0 0 = nI n) (h7 : n ≤ 7)  : pm_C l z D kA kE yX12_fewestWatchers cX12_fewestWatchers 1 (some .int) 20 2 12 [.ref (z + 0)] nx M (pm_fa z kA kE nx M (d_X12_fewestWatchers n (g.1 0) (g.1 12)).1 (some (.int (d_X12_fewestWatchers n (g.1 0) (g.1 12)).2)) g) := by
  obtain ⟨h0, h1, h2, h13, h14, h15, h16, h17, h28, h39, hH, h129, h130, h131, h132, h133, h134, h135, h136, h137, h138, h139⟩ := id h
  exact pm_Cpost (c_X12_fewestWatchers (to := g.1 12) h2 h0 hn h7) fun o n' M' hp => pm_fpU h (fun _ _ _ => rfl) hp
theorem f_X12_fewestWatchersByBranching {l : Launch} {z : Nat} {D : va_G} {kA : Nat → ClassId} {kE : Nat → Nat} {nx : Nat} {M : pm_M} {g : pm_Cs} {n : Nat} (h : pm_TC z kA kE M g) (hn : g.1 0 0 = nI n) (h7 : n ≤ 7)  : pm_C l z D kA kE yX12_fewestWatchersByBranching cX12_fewestWatchersByBranching 1 (some .int) 20 2 12 [.ref (z + 0)] nx M (pm_fa z kA kE nx M (d_X12_fewestWatchersByBranching n (g.1 0) (g.1 12)).1 (some (.int (d_X12_fewestWatchersByBranching n (g.1 0) (g.1 12)).2)) g) := by
  obtain ⟨h0, h1, h2, h13, h14, h15, h16, h17, h28, h39, hH, h129, h130, h131, h132, h133, h134, h135, h136, h137, h138, h139⟩ := id h
  exact pm_Cpost (c_X12_fewestWatchersByBranching (to := g.1 12) h2 h0 hn h7) fun o n' M' hp => pm_fpU h (fun _ _ _ => rfl) hp
theorem f_X12_winningCoalitions {l : Launch} {z : Nat} {D : va_G} {kA : Nat → ClassId} {kE : Nat → Nat} {nx : Nat} {M : pm_M} {g : pm_Cs} {n : Nat} (h : pm_TC z kA kE M g) (hn : g.1 0 0 = nI n) (h7 : n ≤ 7)  : pm_C l z D kA kE yX12_winningCoalitions cX12_winningCoalitions 1 (some .int) 20 2 12 [.ref (z + 0)] nx M (pm_fa z kA kE nx M (d_X12_winningCoalitions n (g.1 0) (g.1 12)).1 (some (.int (d_X12_winningCoalitions n (g.1 0) (g.1 12)).2)) g) := by
  obtain ⟨h0, h1, h2, h13, h14, h15, h16, h17, h28, h39, hH, h129, h130, h131, h132, h133, h134, h135, h136, h137, h138, h139⟩ := id h
  exact pm_Cpost (c_X12_winningCoalitions (to := g.1 12) h2 h0 h129 hn h7) fun o n' M' hp => pm_fpU h (fun _ _ _ => rfl) hp
theorem f_X12_leastDifference {l : Launch} {z : Nat} {D : va_G} {kA : Nat → ClassId} {kE : Nat → Nat} {nx : Nat} {M : pm_M} {g : pm_Cs} {n : Nat} (h : pm_TC z kA kE M g) (hn : g.1 0 0 = nI n) (h7 : n ≤ 7)  : pm_C l z D kA kE yX12_leastDifference cX12_leastDifference 1 (some .int) 20 2 12 [.ref (z + 0)] nx M (pm_fa z kA kE nx M (d_X12_leastDifference n (g.1 0) (g.1 12)).1 (some (.int (d_X12_leastDifference n (g.1 0) (g.1 12)).2)) g) := by
  obtain ⟨h0, h1, h2, h13, h14, h15, h16, h17, h28, h39, hH, h129, h130, h131, h132, h133, h134, h135, h136, h137, h138, h139⟩ := id h
  exact pm_Cpost (c_X12_leastDifference (to := g.1 12) h2 h0 h129 hn h7) fun o n' M' hp => pm_fpU h (fun _ _ _ => rfl) hp
theorem f_X12_meanSales {l : Launch} {z : Nat} {D : va_G} {kA : Nat → ClassId} {kE : Nat → Nat} {nx : Nat} {M : pm_M} {g : pm_Cs} {n : Nat} (h : pm_TC z kA kE M g) (hn : g.1 0 0 = nI n) (h7 : n ≤ 7) (hnan : ∀ a b : Int32, ¬ b = 0 → vf_n64 (FP.ddiv (FP.i2d a) (FP.i2d b))) : pm_C l z D kA kE yX12_meanSales cX12_meanSales 3 (some .double) 20 2 12 [.ref (z + 0)] nx M (pm_fa z kA kE nx M (d_X12_meanSales n (g.1 0) (g.1 12)).1 (some (.double (d_X12_meanSales n (g.1 0) (g.1 12)).2)) g) := by
  obtain ⟨h0, h1, h2, h13, h14, h15, h16, h17, h28, h39, hH, h129, h130, h131, h132, h133, h134, h135, h136, h137, h138, h139⟩ := id h
  exact pm_Cpost (c_X12_meanSales (to := g.1 12) h2 h0 hn h7 hnan) fun o n' M' hp => pm_fpU h (fun _ _ _ => rfl) hp
theorem f_X12_finedShare {l : Launch} {z : Nat} {D : va_G} {kA : Nat → ClassId} {kE : Nat → Nat} {nx : Nat} {M : pm_M} {g : pm_Cs} (h : pm_TC z kA kE M g)  (hnan : ∀ a b : Int32, ¬ b = 0 → vf_n32 (FP.fdiv (FP.i2f a) (FP.i2f b))) : pm_C l z D kA kE yX12_finedShare cX12_finedShare 2 (some .float) 20 2 12 [.ref (z + 0)] nx M (pm_fa z kA kE nx M (d_X12_finedShare (g.1 0) (g.1 12)).1 (some (.float (d_X12_finedShare (g.1 0) (g.1 12)).2)) g) := by
  obtain ⟨h0, h1, h2, h13, h14, h15, h16, h17, h28, h39, hH, h129, h130, h131, h132, h133, h134, h135, h136, h137, h138, h139⟩ := id h
  exact pm_Cpost (c_X12_finedShare (to := g.1 12) h2 h0 hnan) fun o n' M' hp => pm_fpU h (fun _ _ _ => rfl) hp
theorem f_X12_swingsByCounts {l : Launch} {z : Nat} {D : va_G} {kA : Nat → ClassId} {kE : Nat → Nat} {nx : Nat} {M : pm_M} {g : pm_Cs} {x : Int32} {n : Nat} (h : pm_TC z kA kE M g) (hn : g.1 0 0 = nI n) (h7 : n ≤ 7) (hrw : ∀ i, i < n → pm_rw (g.1 0) i) : pm_C l z D kA kE yX12_swingsByCounts cX12_swingsByCounts 2 (some .int) 20 2 12 [.ref (z + 0), .int x] nx M (pm_fa z kA kE nx M (d_X12_swingsByCounts x n (g.1 0) (g.1 6) (g.1 12)).1 (some (.int (d_X12_swingsByCounts x n (g.1 0) (g.1 6) (g.1 12)).2.1)) (pm_k130 g (d_X12_swingsByCounts x n (g.1 0) (g.1 6) (g.1 12)).2.2)) := by
  obtain ⟨h0, h1, h2, h13, h14, h15, h16, h17, h28, h39, hH, h129, h130, h131, h132, h133, h134, h135, h136, h137, h138, h139⟩ := id h
  exact pm_Cpost (c_X12_swingsByCounts (to := g.1 12) h2 h130 h0 h129 hn h7 hrw) fun o n' M' hp => pm_fpU (pm_TC_wy h) (fun a ha hb => pm_up_n (by omega)) hp
theorem f_X12_leastDifferenceBySums {l : Launch} {z : Nat} {D : va_G} {kA : Nat → ClassId} {kE : Nat → Nat} {nx : Nat} {M : pm_M} {g : pm_Cs} {n : Nat} (h : pm_TC z kA kE M g) (hn : g.1 0 0 = nI n) (h7 : n ≤ 7) (hrw : ∀ i, i < n → pm_rw (g.1 0) i) : pm_C l z D kA kE yX12_leastDifferenceBySums cX12_leastDifferenceBySums 1 (some .int) 20 2 12 [.ref (z + 0)] nx M (pm_fa z kA kE nx M (d_X12_leastDifferenceBySums n (g.1 0) (g.1 6) (g.1 12)).1 (some (.int (d_X12_leastDifferenceBySums n (g.1 0) (g.1 6) (g.1 12)).2.1)) (pm_k130 g (d_X12_leastDifferenceBySums n (g.1 0) (g.1 6) (g.1 12)).2.2)) := by
  obtain ⟨h0, h1, h2, h13, h14, h15, h16, h17, h28, h39, hH, h129, h130, h131, h132, h133, h134, h135, h136, h137, h138, h139⟩ := id h
  exact pm_Cpost (c_X12_leastDifferenceBySums (to := g.1 12) h2 h130 h0 h129 hn h7 hrw) fun o n' M' hp => pm_fpU (pm_TC_wy h) (fun a ha hb => pm_up_n (by omega)) hp
theorem f_X12_share {l : Launch} {z : Nat} {D : va_G} {kA : Nat → ClassId} {kE : Nat → Nat} {nx : Nat} {M : pm_M} {g : pm_Cs} {x : Int32} {n : Nat} (h : pm_TC z kA kE M g) (hn : g.1 0 0 = nI n) (h7 : n ≤ 7)  : pm_C l z D kA kE yX12_share cX12_share 2 (some .int) 20 2 12 [.ref (z + 0), .int x] nx M (pm_fa z kA kE nx M (d_X12_share x n (g.1 0) (g.1 7) (fun _ => g.2.2.2.1) (g.1 12)).1 (some (.int (d_X12_share x n (g.1 0) (g.1 7) (fun _ => g.2.2.2.1) (g.1 12)).2.1)) (pm_kcu g (d_X12_share x n (g.1 0) (g.1 7) (fun _ => g.2.2.2.1) (g.1 12)).2.2.1 ((d_X12_share x n (g.1 0) (g.1 7) (fun _ => g.2.2.2.1) (g.1 12)).2.2.2 1))) := by
  obtain ⟨h0, h1, h2, h13, h14, h15, h16, h17, h28, h39, hH, h129, h130, h131, h132, h133, h134, h135, h136, h137, h138, h139⟩ := id h
  exact pm_Cpost (c_X12_share (to := g.1 12) (cu := fun _ => g.2.2.2.1) h2 h132 h131 h0 hn h7) fun o n' M' hp => pm_fpU (pm_TC_cu h) (fun a ha hb => (pm_up_n (by omega)).trans (pm_up_n (by omega))) hp
theorem f_X12_shareBySteps {l : Launch} {z : Nat} {D : va_G} {kA : Nat → ClassId} {kE : Nat → Nat} {nx : Nat} {M : pm_M} {g : pm_Cs} {x : Int32} {n : Nat} (h : pm_TC z kA kE M g) (hn : g.1 0 0 = nI n) (h7 : n ≤ 7)  : pm_C l z D kA kE yX12_shareBySteps cX12_shareBySteps 2 (some .int) 20 2 12 [.ref (z + 0), .int x] nx M (pm_fa z kA kE nx M (d_X12_shareBySteps x n (g.1 0) (g.1 7) (fun _ => g.2.2.2.1) (g.1 12)).1 (some (.int (d_X12_shareBySteps x n (g.1 0) (g.1 7) (fun _ => g.2.2.2.1) (g.1 12)).2.1)) (pm_kcu g (d_X12_shareBySteps x n (g.1 0) (g.1 7) (fun _ => g.2.2.2.1) (g.1 12)).2.2.1 ((d_X12_shareBySteps x n (g.1 0) (g.1 7) (fun _ => g.2.2.2.1) (g.1 12)).2.2.2 1))) := by
  obtain ⟨h0, h1, h2, h13, h14, h15, h16, h17, h28, h39, hH, h129, h130, h131, h132, h133, h134, h135, h136, h137, h138, h139⟩ := id h
  exact pm_Cpost (c_X12_shareBySteps (to := g.1 12) (cu := fun _ => g.2.2.2.1) h2 h132 h131 h0 hn h7) fun o n' M' hp => pm_fpU (pm_TC_cu h) (fun a ha hb => (pm_up_n (by omega)).trans (pm_up_n (by omega))) hp
theorem f_X12_quotaBy {l : Launch} {z : Nat} {D : va_G} {kA : Nat → ClassId} {kE : Nat → Nat} {nx : Nat} {M : pm_M} {g : pm_Cs} {x y w : Int32} {n : Nat} (h : pm_TC z kA kE M g) (hn : g.1 0 0 = nI n) (h7 : n ≤ 7)  : pm_C l z D kA kE yX12_quotaBy cX12_quotaBy 4 (some .int) 20 2 12 [.ref (z + 0), .int x, .int y, .int w] nx M (pm_fa z kA kE nx M (d_X12_quotaBy x y w n (g.1 0) (g.1 3) (g.1 4) (g.1 12)).1 (some (.int (d_X12_quotaBy x y w n (g.1 0) (g.1 3) (g.1 4) (g.1 12)).2.1)) (pm_kqm g (d_X12_quotaBy x y w n (g.1 0) (g.1 3) (g.1 4) (g.1 12)).2.2.1 (d_X12_quotaBy x y w n (g.1 0) (g.1 3) (g.1 4) (g.1 12)).2.2.2)) := by
  obtain ⟨h0, h1, h2, h13, h14, h15, h16, h17, h28, h39, hH, h129, h130, h131, h132, h133, h134, h135, h136, h137, h138, h139⟩ := id h
  exact pm_Cpost (c_X12_quotaBy (to := g.1 12) h2 h14 h15 h0 h1 h13 hn h7) fun o n' M' hp => pm_fpU (pm_TC_qm h) (fun a ha hb => (pm_up_n (by omega)).trans (pm_up_n (by omega))) hp
theorem f_X12_drawnMember {l : Launch} {z : Nat} {D : va_G} {kA : Nat → ClassId} {kE : Nat → Nat} {nx : Nat} {M : pm_M} {g : pm_Cs} {x : Int32} {n : Nat} (h : pm_TC z kA kE M g) (hn : g.1 0 0 = nI n) (h7 : n ≤ 7) (hsd : g.1 0 2 = nI (pm_n (g.1 0 2))) (hsl : pm_n (g.1 0 2) < 1024) : pm_C l z D kA kE yX12_drawnMember cX12_drawnMember 2 (some .int) 20 2 12 [.ref (z + 0), .int x] nx M (pm_fa z kA kE nx M (d_X12_drawnMember x n (g.1 0) (g.1 5) (g.1 12)).1 (some (.int (d_X12_drawnMember x n (g.1 0) (g.1 5) (g.1 12)).2.1)) (pm_kdr g (d_X12_drawnMember x n (g.1 0) (g.1 5) (g.1 12)).2.2)) := by
  obtain ⟨h0, h1, h2, h13, h14, h15, h16, h17, h28, h39, hH, h129, h130, h131, h132, h133, h134, h135, h136, h137, h138, h139⟩ := id h
  exact pm_Cpost (c_X12_drawnMember (to := g.1 12) h2 h16 h0 h1 hn h7 hsd hsl) fun o n' M' hp => pm_fpU (pm_TC_dr h) (fun a ha hb => pm_up_n (by omega)) hp
theorem f_X12_feed {l : Launch} {z : Nat} {D : va_G} {kA : Nat → ClassId} {kE : Nat → Nat} {nx : Nat} {M : pm_M} {g : pm_Cs} {x : Int32} {t : Nat} (h : pm_TC z kA kE M g)  (hl4 : g.1 13 4 = nI t) (ht : t ≤ 60) : pm_C l z D kA kE yX12_feed cX12_feed 2 (some .int) 20 2 12 [.ref (z + 0), .int x] nx M (pm_fa z kA kE nx M (d_X12_feed x t (g.1 8) (g.1 12) (g.1 13)).1 (some (.int (d_X12_feed x t (g.1 8) (g.1 12) (g.1 13)).2.1)) (pm_kfe g (d_X12_feed x t (g.1 8) (g.1 12) (g.1 13)).2.2.1 (d_X12_feed x t (g.1 8) (g.1 12) (g.1 13)).2.2.2)) := by
  obtain ⟨h0, h1, h2, h13, h14, h15, h16, h17, h28, h39, hH, h129, h130, h131, h132, h133, h134, h135, h136, h137, h138, h139⟩ := id h
  exact pm_Cpost (c_X12_feed (to := g.1 12) h134 h0 h133 hl4 ht) fun o n' M' hp => pm_fpU (pm_TC_fe h) (fun a ha hb => (pm_up_n (by omega)).trans (pm_up_n (by omega))) hp
def pm_lnr (f r : Nat → Int32) (i : Nat) : (Nat → Int32) × Nat := pm_mln f i (pm_n (r (7 + 6 * i + 3))) (pm_n (r (7 + 6 * i + 2))) (pm_n (r (7 + 6 * i + 0))) (pm_n (r (7 + 6 * i + 1))) (pm_n (r (7 + 6 * i + 4))) (pm_n (r (7 + 6 * i + 5)))
theorem f_X12_writeMember {l : Launch} {z : Nat} {D : va_G} {kA : Nat → ClassId} {kE : Nat → Nat} {nx : Nat} {M : pm_M} {g : pm_Cs} {x : Int32} {n : Nat} (h : pm_TC z kA kE M g) (hn : g.1 0 0 = nI n) (h7 : n ≤ 7) (hrw : ∀ i, i < n → pm_rw (g.1 0) i) (hc : g.2.2.1 2 ≤ 16) : pm_C l z D kA kE yX12_writeMember cX12_writeMember 4 (some .int) 20 1 6 [.ref (z + 0), .int x] nx M (pm_fa z kA kE nx M (if d_X10_hasMember x n (g.1 0) = 0 then 1 else 0) (some (.int (nI (pm_lnr (g.1 14) (g.1 0) (pm_n x)).2))) (if d_X10_hasMember x n (g.1 0) = 0 then g else pm_kln g (pm_lnr (g.1 14) (g.1 0) (pm_n x)).1 (pm_lnr (g.1 14) (g.1 0) (pm_n x)).2 (if g.2.2.1 2 = 0 then g.2.2.2.2.1 else 1))) := by
  obtain ⟨h0, h1, h2, h13, h14, h15, h16, h17, h28, h39, hH, h129, h130, h131, h132, h133, h134, h135, h136, h137, h138, h139⟩ := id h
  by_cases hm : d_X10_hasMember x n (g.1 0) = 0
  · rw [if_pos hm, if_pos hm]
    refine pm_Cpost (c_X12_writeMember_no h2 h0 hn h7 hm) fun o n' M' hp => ?_
    obtain ⟨rfl, hn', hp⟩ := hp
    rcases hp with ⟨hp, -⟩ | ⟨-, ho⟩
    · cases hp
    · exact ⟨fun _ _ _ => rfl, hn', h, Or.inr ⟨by decide, ho⟩⟩
  rw [if_neg hm, if_neg hm]
  have hx : ∃ i, i < n ∧ x = nI i := by
    unfold d_X10_hasMember at hm
    split at hm
    · exact absurd rfl hm
    · rename_i h0
      obtain ⟨j, hj, rfl⟩ := nI_of h0
      split at hm
      · exact absurd rfl hm
      · rename_i h3
        rw [nI_leI (by omega) hj] at h3
        exact ⟨j, by omega, rfl⟩
  obtain ⟨i, hi, rfl⟩ := hx
  rw [pm_n_nI (by omega)]
  obtain ⟨⟨a0, a1, a2⟩, ⟨b0, b1, b2⟩, ⟨c0, c1⟩, ⟨d0, d1⟩, e0⟩ := hrw i hi
  refine pm_Cpost (c_X12_writeMember_i (ml1 := if g.2.2.1 2 = 0 then g.2.2.2.2.1 else 1) (w := pm_n (g.1 0 (7 + 6 * i + 4))) (b := pm_n (g.1 0 (7 + 6 * i + 5))) h2 h0 hn h7 h138 h139 hc (by
      by_cases hz : g.2.2.1 2 = 0
      · exact Or.inl ⟨hz, if_pos hz⟩
      · exact Or.inr ⟨by omega, if_neg hz⟩) hm hi (by omega) (by omega) (by omega) (by omega) a0 b0 c0 d0 (by
      rcases e0 with ⟨p, q⟩ | ⟨p, q⟩ | ⟨p, q⟩ | ⟨p, q⟩ | ⟨p, q⟩ <;> rw [p, q] <;> decide)) fun o n' M' hp => ?_
  exact pm_rtU (pm_TC_ln h) (fun a ha hb => (pm_up_n (by omega)).trans (pm_up_n (by omega))) hp
theorem f_X12_lineCharacter {l : Launch} {z : Nat} {D : va_G} {kA : Nat → ClassId} {kE : Nat → Nat} {nx : Nat} {M : pm_M} {g : pm_Cs} {x : Int32} (h : pm_TC z kA kE M g) (hc : g.2.2.1 2 ≤ 16) (hb : ∀ i, i < g.2.2.1 2 → ∃ q, q < 128 ∧ g.1 14 i = nI q) : pm_C l z D kA kE yX12_lineCharacter cX12_lineCharacter 2 (some .char) 20 1 6 [.ref (z + 0), .int x] nx M (pm_fa z kA kE nx M (if x < 0 then 1 else if x < nI (g.2.2.1 2) then 0 else 1) (some (.int (g.1 14 (pm_n x)))) g) := by
  obtain ⟨h0, h1, h2, h13, h14, h15, h16, h17, h28, h39, hH, h129, h130, h131, h132, h133, h134, h135, h136, h137, h138, h139⟩ := id h
  by_cases h1x : x < 0
  · rw [if_pos h1x]
    refine pm_Cpost (c_X12_lineCharacter_a h0 h1x) fun o n' M' hp => ?_
    obtain ⟨rfl, hn', hp⟩ := hp
    rcases hp with ⟨hp, -⟩ | ⟨-, ho⟩
    · cases hp
    · exact ⟨fun _ _ _ => rfl, hn', h, Or.inr ⟨by decide, ho⟩⟩
  rw [if_neg h1x]
  by_cases h2x : x < nI (g.2.2.1 2)
  · rw [if_pos h2x]
    obtain ⟨j, hj, rfl⟩ := nI_of h1x
    rw [nI_ltI hj (by omega)] at h2x
    obtain ⟨q, hq, eq⟩ := hb j h2x
    rw [pm_n_nI hj, eq]
    exact pm_Cpost (c_X12_lineCharacter_i h0 h138 h139 h2x hc eq hq) fun o n' M' hp => pm_rtU h (fun _ _ _ => rfl) hp
  · rw [if_neg h2x]
    refine pm_Cpost (c_X12_lineCharacter_b h0 h138 h1x h2x) fun o n' M' hp => ?_
    obtain ⟨rfl, hn', hp⟩ := hp
    rcases hp with ⟨hp, -⟩ | ⟨-, ho⟩
    · cases hp
    · exact ⟨fun _ _ _ => rfl, hn', h, Or.inr ⟨by decide, ho⟩⟩
