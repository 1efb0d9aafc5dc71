/-! pure rows: functions of bodies, facts on numbers -/
def pm_th (b : Int32) : Int32 := if b = 0 then 1 else 0
abbrev pm_ib (g : Nat → Int32) (i : Nat) : Int32 := if g (7 + 5 * i + 4) < 0 then 1 else 0
abbrev pm_mv (g : Nat → Int32) (i : Nat) : Int32 := pm_max 0 (g (7 + 5 * i + 3) - g (7 + 5 * i + 2))
/-- an index that is in: it is a number -/
theorem pm_in_ex {x : Int32} {n : Nat} (hn : n ≤ 7) (h : ¬ pm_in x 0 (nI n - 1) = 0) : ∃ i, i < n ∧ x = nI i := by
  unfold pm_in at h
  split at h
  · exact absurd rfl h
  · split at h
    · exact absurd rfl h
    · rename_i h1 h2
      obtain ⟨j, hj, rfl⟩ := nI_of h1
      refine ⟨j, ?_, rfl⟩
      cases n with
      | zero => exact absurd (show nI 0 - 1 < nI j by
          rw [Int32.lt_iff_toInt_lt, nI_toInt hj]
          have : (nI 0 - 1 : Int32).toInt = -1 := by decide
          omega) h2
      | succ n =>
        rw [nI_pred] at h2
        have h3 := (nI_leI (a := j) (b := n) hj (by omega)).mp (Int32.not_lt.mp h2)
        omega
theorem pm_out_ex {x : Int32} {n : Nat} (hn : n ≤ 7) (h : pm_in x 0 (nI n - 1) = 0) : x < 0 ∨ nI n ≤ x := by
  unfold pm_in at h
  split at h
  · exact Or.inl (by assumption)
  · split at h
    · rename_i h1 h2
      obtain ⟨j, hj, rfl⟩ := nI_of h1
      refine Or.inr ((nI_leI (by omega) hj).mpr ?_)
      cases n with
      | zero => omega
      | succ n =>
        rw [nI_pred] at h2
        have h3 := (nI_ltI (a := n) (b := j) (by omega) hj).mp h2
        omega
    · exact absurd h (by decide)
theorem pm_in_nx {x : Int32} {n : Nat} (hn : n ≤ 7) (h : ¬ pm_in x 0 (nI n - 1) = 0) : x = nI (pm_n x) ∧ pm_n x < n := by
  obtain ⟨i, hi, rfl⟩ := pm_in_ex hn h
  rw [pm_n_nI (by omega)]
  exact ⟨rfl, hi⟩
def d_X13_keep (f : Nat → Int32) (g : Nat → Int32) (gb : Nat → Int32) : ((Nat → Int32) × (Nat → Int32)) := ((upd (upd f 6 0) 7 0), (va_cpy g gb 0 0 91))
theorem d_X13_keep_k_f5  (f : Nat → Int32) (g : Nat → Int32) (gb : Nat → Int32) : ((d_X13_keep f g gb).1) 5 = f 5 := by
  unfold d_X13_keep
  (repeat' split) <;> rfl
def d_X13_ends (x : Int32) (y : Int32) (k : Nat) (f : Nat → Int32) (g : Nat → Int32) (gb : Nat → Int32) (gp : Nat → Int32) : (Int32 × (Nat → Int32) × (Nat → Int32) × (Nat → Int32)) := if (f 7) ≤ 0 then (if (f 6) ≤ 0 then (if (nI k) = 8 then (x, (upd (upd f 5 (nI (k - 1))) 5 ((nI (k - 1)) + 1)), g, (va_cpy gb (va_cpy gp gp 91 0 637) 0 (91 * (k - 1)) 91)) else (x, (upd f 5 ((nI k) + 1)), g, (va_cpy gb gp 0 (91 * k) 91))) else (0, f, (va_cpy gb g 0 0 91), gp)) else (if (f 6) ≤ 0 then (if (nI k) = 8 then (x, (upd (upd (upd (upd (upd f 9 (f 7)) 10 (f 8)) 11 y) 5 (nI (k - 1))) 5 ((nI (k - 1)) + 1)), g, (va_cpy gb (va_cpy gp gp 91 0 637) 0 (91 * (k - 1)) 91)) else (x, (upd (upd (upd (upd f 9 (f 7)) 10 (f 8)) 11 y) 5 ((nI k) + 1)), g, (va_cpy gb gp 0 (91 * k) 91))) else (0, (upd (upd (upd f 9 (f 7)) 10 (f 8)) 11 y), (va_cpy gb g 0 0 91), gp))
def d_X13_doAddMember (x : Int32) (y : Int32) (n : Nat) (f : Nat → Int32) (g : Nat → Int32) : (Int32 × (Nat → Int32) × (Nat → Int32)) := if (pm_in x 1 99) = 0 then (0, (upd f 6 1), g) else (if (pm_in y 1 20) = 0 then (0, (upd f 6 1), g) else (if (nI n) = 7 then (0, (upd (upd (upd f 7 1) 8 7) 6 2), g) else ((nI n), f, (upd (upd (upd (upd (upd (upd g (7 + 5 * n + 0) x) (7 + 5 * n + 1) y) (7 + 5 * n + 2) 0) (7 + 5 * n + 3) 0) (7 + 5 * n + 4) 0) 0 ((nI n) + 1)))))
theorem d_X13_doAddMember_k_f5 (x : Int32) (y : Int32) (n : Nat) (f : Nat → Int32) (g : Nat → Int32) : ((d_X13_doAddMember x y n f g).2.1) 5 = f 5 := by
  unfold d_X13_doAddMember
  (repeat' split) <;> rfl
def d_X13_addMember (x : Int32) (y : Int32) (n : Nat) (k : Nat) (f : Nat → Int32) (g : Nat → Int32) (gb : Nat → Int32) (gp : Nat → Int32) : (Int32 × (Nat → Int32) × (Nat → Int32) × (Nat → Int32) × (Nat → Int32)) := (((d_X13_ends ((d_X13_doAddMember x y n ((d_X13_keep f g gb).1) g).1) 0 k ((d_X13_doAddMember x y n ((d_X13_keep f g gb).1) g).2.1) ((d_X13_doAddMember x y n ((d_X13_keep f g gb).1) g).2.2) ((d_X13_keep f g gb).2) gp).1), ((d_X13_ends ((d_X13_doAddMember x y n ((d_X13_keep f g gb).1) g).1) 0 k ((d_X13_doAddMember x y n ((d_X13_keep f g gb).1) g).2.1) ((d_X13_doAddMember x y n ((d_X13_keep f g gb).1) g).2.2) ((d_X13_keep f g gb).2) gp).2.1), ((d_X13_ends ((d_X13_doAddMember x y n ((d_X13_keep f g gb).1) g).1) 0 k ((d_X13_doAddMember x y n ((d_X13_keep f g gb).1) g).2.1) ((d_X13_doAddMember x y n ((d_X13_keep f g gb).1) g).2.2) ((d_X13_keep f g gb).2) gp).2.2.1), ((d_X13_keep f g gb).2), ((d_X13_ends ((d_X13_doAddMember x y n ((d_X13_keep f g gb).1) g).1) 0 k ((d_X13_doAddMember x y n ((d_X13_keep f g gb).1) g).2.1) ((d_X13_doAddMember x y n ((d_X13_keep f g gb).1) g).2.2) ((d_X13_keep f g gb).2) gp).2.2.2))
def d_X13_doSetRule (x : Int32) (f : Nat → Int32) (g : Nat → Int32) : (Int32 × (Nat → Int32) × (Nat → Int32)) := if (pm_in x 0 1) = 0 then (0, (upd f 6 1), g) else (if x = (g 1) then (0, (upd (upd (upd f 7 7) 8 x) 6 2), g) else ((1 - x), f, (upd g 1 x)))
theorem d_X13_doSetRule_k_f5 (x : Int32) (f : Nat → Int32) (g : Nat → Int32) : ((d_X13_doSetRule x f g).2.1) 5 = f 5 := by
  unfold d_X13_doSetRule
  (repeat' split) <;> rfl
def d_X13_setRule (x : Int32) (k : Nat) (f : Nat → Int32) (g : Nat → Int32) (gb : Nat → Int32) (gp : Nat → Int32) : (Int32 × (Nat → Int32) × (Nat → Int32) × (Nat → Int32) × (Nat → Int32)) := (((d_X13_ends ((d_X13_doSetRule x ((d_X13_keep f g gb).1) g).1) 0 k ((d_X13_doSetRule x ((d_X13_keep f g gb).1) g).2.1) ((d_X13_doSetRule x ((d_X13_keep f g gb).1) g).2.2) ((d_X13_keep f g gb).2) gp).1), ((d_X13_ends ((d_X13_doSetRule x ((d_X13_keep f g gb).1) g).1) 0 k ((d_X13_doSetRule x ((d_X13_keep f g gb).1) g).2.1) ((d_X13_doSetRule x ((d_X13_keep f g gb).1) g).2.2) ((d_X13_keep f g gb).2) gp).2.1), ((d_X13_ends ((d_X13_doSetRule x ((d_X13_keep f g gb).1) g).1) 0 k ((d_X13_doSetRule x ((d_X13_keep f g gb).1) g).2.1) ((d_X13_doSetRule x ((d_X13_keep f g gb).1) g).2.2) ((d_X13_keep f g gb).2) gp).2.2.1), ((d_X13_keep f g gb).2), ((d_X13_ends ((d_X13_doSetRule x ((d_X13_keep f g gb).1) g).1) 0 k ((d_X13_doSetRule x ((d_X13_keep f g gb).1) g).2.1) ((d_X13_doSetRule x ((d_X13_keep f g gb).1) g).2.2) ((d_X13_keep f g gb).2) gp).2.2.2))
def d_X13_doSetSeed (x : Int32) (f : Nat → Int32) (g : Nat → Int32) : (Int32 × (Nat → Int32) × (Nat → Int32)) := if (pm_in x 0 1023) = 0 then (0, (upd f 6 1), g) else ((g 2), f, (upd g 2 x))
theorem d_X13_doSetSeed_k_f5 (x : Int32) (f : Nat → Int32) (g : Nat → Int32) : ((d_X13_doSetSeed x f g).2.1) 5 = f 5 := by
  unfold d_X13_doSetSeed
  (repeat' split) <;> rfl
def d_X13_setSeed (x : Int32) (k : Nat) (f : Nat → Int32) (g : Nat → Int32) (gb : Nat → Int32) (gp : Nat → Int32) : (Int32 × (Nat → Int32) × (Nat → Int32) × (Nat → Int32) × (Nat → Int32)) := (((d_X13_ends ((d_X13_doSetSeed x ((d_X13_keep f g gb).1) g).1) 0 k ((d_X13_doSetSeed x ((d_X13_keep f g gb).1) g).2.1) ((d_X13_doSetSeed x ((d_X13_keep f g gb).1) g).2.2) ((d_X13_keep f g gb).2) gp).1), ((d_X13_ends ((d_X13_doSetSeed x ((d_X13_keep f g gb).1) g).1) 0 k ((d_X13_doSetSeed x ((d_X13_keep f g gb).1) g).2.1) ((d_X13_doSetSeed x ((d_X13_keep f g gb).1) g).2.2) ((d_X13_keep f g gb).2) gp).2.1), ((d_X13_ends ((d_X13_doSetSeed x ((d_X13_keep f g gb).1) g).1) 0 k ((d_X13_doSetSeed x ((d_X13_keep f g gb).1) g).2.1) ((d_X13_doSetSeed x ((d_X13_keep f g gb).1) g).2.2) ((d_X13_keep f g gb).2) gp).2.2.1), ((d_X13_keep f g gb).2), ((d_X13_ends ((d_X13_doSetSeed x ((d_X13_keep f g gb).1) g).1) 0 k ((d_X13_doSetSeed x ((d_X13_keep f g gb).1) g).2.1) ((d_X13_doSetSeed x ((d_X13_keep f g gb).1) g).2.2) ((d_X13_keep f g gb).2) gp).2.2.2))
def d_X13_doSetThreshold (x : Int32) (f : Nat → Int32) (g : Nat → Int32) : (Int32 × (Nat → Int32) × (Nat → Int32)) := if (pm_in x 1 99) = 0 then (0, (upd f 6 1), g) else (if x = (g 3) then (0, (upd (upd (upd f 7 7) 8 x) 6 2), g) else ((g 3), f, (upd g 3 x)))
theorem d_X13_doSetThreshold_k_f5 (x : Int32) (f : Nat → Int32) (g : Nat → Int32) : ((d_X13_doSetThreshold x f g).2.1) 5 = f 5 := by
  unfold d_X13_doSetThreshold
  (repeat' split) <;> rfl
def d_X13_setThreshold (x : Int32) (k : Nat) (f : Nat → Int32) (g : Nat → Int32) (gb : Nat → Int32) (gp : Nat → Int32) : (Int32 × (Nat → Int32) × (Nat → Int32) × (Nat → Int32) × (Nat → Int32)) := (((d_X13_ends ((d_X13_doSetThreshold x ((d_X13_keep f g gb).1) g).1) 0 k ((d_X13_doSetThreshold x ((d_X13_keep f g gb).1) g).2.1) ((d_X13_doSetThreshold x ((d_X13_keep f g gb).1) g).2.2) ((d_X13_keep f g gb).2) gp).1), ((d_X13_ends ((d_X13_doSetThreshold x ((d_X13_keep f g gb).1) g).1) 0 k ((d_X13_doSetThreshold x ((d_X13_keep f g gb).1) g).2.1) ((d_X13_doSetThreshold x ((d_X13_keep f g gb).1) g).2.2) ((d_X13_keep f g gb).2) gp).2.1), ((d_X13_ends ((d_X13_doSetThreshold x ((d_X13_keep f g gb).1) g).1) 0 k ((d_X13_doSetThreshold x ((d_X13_keep f g gb).1) g).2.1) ((d_X13_doSetThreshold x ((d_X13_keep f g gb).1) g).2.2) ((d_X13_keep f g gb).2) gp).2.2.1), ((d_X13_keep f g gb).2), ((d_X13_ends ((d_X13_doSetThreshold x ((d_X13_keep f g gb).1) g).1) 0 k ((d_X13_doSetThreshold x ((d_X13_keep f g gb).1) g).2.1) ((d_X13_doSetThreshold x ((d_X13_keep f g gb).1) g).2.2) ((d_X13_keep f g gb).2) gp).2.2.2))
def d_X13_doSell (x : Int32) (y : Int32) (n : Nat) (f : Nat → Int32) (g : Nat → Int32) : (Int32 × (Nat → Int32) × (Nat → Int32)) := if (pm_in x 0 (nI n - 1)) = 0 then (0, (upd f 6 1), g) else (if (pm_in y 1 99) = 0 then (0, (upd f 6 2), g) else (if (pm_ib g (pm_n x)) = 0 then (if y ≤ ((g (7 + 5 * (pm_n x) + 0)) - (g (7 + 5 * (pm_n x) + 3))) then (((g (7 + 5 * (pm_n x) + 3)) + y), f, (upd g (7 + 5 * (pm_n x) + 3) ((g (7 + 5 * (pm_n x) + 3)) + y))) else (0, (upd (upd (upd f 7 3) 8 ((g (7 + 5 * (pm_n x) + 0)) - (g (7 + 5 * (pm_n x) + 3)))) 6 3), g)) else (0, (upd (upd (upd f 7 2) 8 (-(g (7 + 5 * (pm_n x) + 4)))) 6 3), g)))
theorem d_X13_doSell_k_f5 (x : Int32) (y : Int32) (n : Nat) (f : Nat → Int32) (g : Nat → Int32) : ((d_X13_doSell x y n f g).2.1) 5 = f 5 := by
  unfold d_X13_doSell
  (repeat' split) <;> rfl
def d_X13_sell (x : Int32) (y : Int32) (n : Nat) (k : Nat) (f : Nat → Int32) (g : Nat → Int32) (gb : Nat → Int32) (gp : Nat → Int32) : (Int32 × (Nat → Int32) × (Nat → Int32) × (Nat → Int32) × (Nat → Int32)) := (((d_X13_ends ((d_X13_doSell x y n ((d_X13_keep f g gb).1) g).1) 0 k ((d_X13_doSell x y n ((d_X13_keep f g gb).1) g).2.1) ((d_X13_doSell x y n ((d_X13_keep f g gb).1) g).2.2) ((d_X13_keep f g gb).2) gp).1), ((d_X13_ends ((d_X13_doSell x y n ((d_X13_keep f g gb).1) g).1) 0 k ((d_X13_doSell x y n ((d_X13_keep f g gb).1) g).2.1) ((d_X13_doSell x y n ((d_X13_keep f g gb).1) g).2.2) ((d_X13_keep f g gb).2) gp).2.1), ((d_X13_ends ((d_X13_doSell x y n ((d_X13_keep f g gb).1) g).1) 0 k ((d_X13_doSell x y n ((d_X13_keep f g gb).1) g).2.1) ((d_X13_doSell x y n ((d_X13_keep f g gb).1) g).2.2) ((d_X13_keep f g gb).2) gp).2.2.1), ((d_X13_keep f g gb).2), ((d_X13_ends ((d_X13_doSell x y n ((d_X13_keep f g gb).1) g).1) 0 k ((d_X13_doSell x y n ((d_X13_keep f g gb).1) g).2.1) ((d_X13_doSell x y n ((d_X13_keep f g gb).1) g).2.2) ((d_X13_keep f g gb).2) gp).2.2.2))
def d_X13_doPardon_L1 (x : Int32) (g : Nat → Int32) : Nat → Nat → Int32 → Int32
  | 0, _, a2_1 => a2_1
  | k1 + 1, j1, a2_1 => if ((upd g (7 + 5 * (pm_n x) + 4) 0) (7 + 5 * j1 + 4)) = 0 then (d_X13_doPardon_L1 x g k1 (j1 + 1) (a2_1 + 1)) else (d_X13_doPardon_L1 x g k1 (j1 + 1) (a2_1 + 0))
def d_X13_doPardon (x : Int32) (n : Nat) (f : Nat → Int32) (g : Nat → Int32) : (Int32 × (Nat → Int32) × (Nat → Int32)) := if (pm_in x 0 (nI n - 1)) = 0 then (0, (upd f 6 1), g) else (if (g (7 + 5 * (pm_n x) + 4)) = 0 then (0, (upd (upd (upd f 7 5) 8 (nI (pm_n x))) 6 2), g) else ((d_X13_doPardon_L1 x g n 0 0), f, (upd g (7 + 5 * (pm_n x) + 4) 0)))
theorem d_X13_doPardon_k_f5 (x : Int32) (n : Nat) (f : Nat → Int32) (g : Nat → Int32) : ((d_X13_doPardon x n f g).2.1) 5 = f 5 := by
  unfold d_X13_doPardon
  (repeat' split) <;> rfl
def d_X13_pardon (x : Int32) (n : Nat) (k : Nat) (f : Nat → Int32) (g : Nat → Int32) (gb : Nat → Int32) (gp : Nat → Int32) : (Int32 × (Nat → Int32) × (Nat → Int32) × (Nat → Int32) × (Nat → Int32)) := (((d_X13_ends ((d_X13_doPardon x n ((d_X13_keep f g gb).1) g).1) 0 k ((d_X13_doPardon x n ((d_X13_keep f g gb).1) g).2.1) ((d_X13_doPardon x n ((d_X13_keep f g gb).1) g).2.2) ((d_X13_keep f g gb).2) gp).1), ((d_X13_ends ((d_X13_doPardon x n ((d_X13_keep f g gb).1) g).1) 0 k ((d_X13_doPardon x n ((d_X13_keep f g gb).1) g).2.1) ((d_X13_doPardon x n ((d_X13_keep f g gb).1) g).2.2) ((d_X13_keep f g gb).2) gp).2.1), ((d_X13_ends ((d_X13_doPardon x n ((d_X13_keep f g gb).1) g).1) 0 k ((d_X13_doPardon x n ((d_X13_keep f g gb).1) g).2.1) ((d_X13_doPardon x n ((d_X13_keep f g gb).1) g).2.2) ((d_X13_keep f g gb).2) gp).2.2.1), ((d_X13_keep f g gb).2), ((d_X13_ends ((d_X13_doPardon x n ((d_X13_keep f g gb).1) g).1) 0 k ((d_X13_doPardon x n ((d_X13_keep f g gb).1) g).2.1) ((d_X13_doPardon x n ((d_X13_keep f g gb).1) g).2.2) ((d_X13_keep f g gb).2) gp).2.2.2))
def d_X13_doClose_L1  : Nat → Nat → Int32 → (Nat → Int32) → (Int32 × (Nat → Int32))
  | 0, _, a1_1, g_1 => (a1_1, g_1)
  | k1 + 1, j1, a1_1, g_1 => if 0 < (pm_mv g_1 j1) then (d_X13_doClose_L1 k1 (j1 + 1) (a1_1 + (3 * (pm_mv g_1 j1))) (upd (upd (upd (upd g_1 5 ((g_1 5) + (g_1 (7 + 5 * j1 + 3)))) 6 ((g_1 6) + (pm_mv g_1 j1))) (7 + 5 * j1 + 4) (g_1 (7 + 5 * j1 + 4))) (7 + 5 * j1 + 3) 0)) else (if (g_1 (7 + 5 * j1 + 4)) = 0 then (d_X13_doClose_L1 k1 (j1 + 1) (a1_1 + (3 * (pm_mv g_1 j1))) (upd (upd (upd (upd g_1 5 ((g_1 5) + (g_1 (7 + 5 * j1 + 3)))) 6 ((g_1 6) + (pm_mv g_1 j1))) (7 + 5 * j1 + 4) (g_1 (7 + 5 * j1 + 4))) (7 + 5 * j1 + 3) 0)) else (if (g_1 (7 + 5 * j1 + 4)) ≤ 0 then (d_X13_doClose_L1 k1 (j1 + 1) (a1_1 + (3 * (pm_mv g_1 j1))) (upd (upd (upd (upd g_1 5 ((g_1 5) + (g_1 (7 + 5 * j1 + 3)))) 6 ((g_1 6) + (pm_mv g_1 j1))) (7 + 5 * j1 + 4) ((g_1 (7 + 5 * j1 + 4)) + 1)) (7 + 5 * j1 + 3) 0)) else (d_X13_doClose_L1 k1 (j1 + 1) (a1_1 + (3 * (pm_mv g_1 j1))) (upd (upd (upd (upd g_1 5 ((g_1 5) + (g_1 (7 + 5 * j1 + 3)))) 6 ((g_1 6) + (pm_mv g_1 j1))) (7 + 5 * j1 + 4) ((g_1 (7 + 5 * j1 + 4)) - 1)) (7 + 5 * j1 + 3) 0))))
def d_X13_doClose (n : Nat) (f : Nat → Int32) (g : Nat → Int32) : (Int32 × (Nat → Int32)) := (((d_X13_doClose_L1 n 0 0 g).1), (upd ((d_X13_doClose_L1 n 0 0 g).2) 4 ((((d_X13_doClose_L1 n 0 0 g).2) 4) + 1)))
def d_X13_close (n : Nat) (k : Nat) (f : Nat → Int32) (g : Nat → Int32) (gb : Nat → Int32) (gp : Nat → Int32) : (Int32 × (Nat → Int32) × (Nat → Int32) × (Nat → Int32) × (Nat → Int32)) := (((d_X13_ends ((d_X13_doClose n ((d_X13_keep f g gb).1) g).1) 0 k ((d_X13_keep f g gb).1) ((d_X13_doClose n ((d_X13_keep f g gb).1) g).2) ((d_X13_keep f g gb).2) gp).1), ((d_X13_ends ((d_X13_doClose n ((d_X13_keep f g gb).1) g).1) 0 k ((d_X13_keep f g gb).1) ((d_X13_doClose n ((d_X13_keep f g gb).1) g).2) ((d_X13_keep f g gb).2) gp).2.1), ((d_X13_ends ((d_X13_doClose n ((d_X13_keep f g gb).1) g).1) 0 k ((d_X13_keep f g gb).1) ((d_X13_doClose n ((d_X13_keep f g gb).1) g).2) ((d_X13_keep f g gb).2) gp).2.2.1), ((d_X13_keep f g gb).2), ((d_X13_ends ((d_X13_doClose n ((d_X13_keep f g gb).1) g).1) 0 k ((d_X13_keep f g gb).1) ((d_X13_doClose n ((d_X13_keep f g gb).1) g).2) ((d_X13_keep f g gb).2) gp).2.2.2))
theorem pm_kpred {k : Nat} (h : ¬ k = 0) : nI k - 1 = nI (k - 1) := by
  obtain ⟨m, rfl⟩ : ∃ m, k = m + 1 := ⟨k - 1, by omega⟩
  rw [nI_pred]; rfl
def d_X13_tells (x : Int32) (w : Nat) (n : Nat) (f : Nat → Int32) (g : Nat → Int32) : (Int32 × (Nat → Int32)) := if (pm_in x 0 (nI n - 1)) = 0 then (0, (upd f 6 (pm_th (pm_in x 0 (nI n - 1))))) else ((g (7 + 5 * (pm_n x) + w)), (upd f 6 (pm_th (pm_in x 0 (nI n - 1)))))
def d_X13_capacity (x : Int32) (n : Nat) (f : Nat → Int32) (g : Nat → Int32) : (Int32 × (Nat → Int32)) := (((d_X13_tells x 0 n f g).1), ((d_X13_tells x 0 n f g).2))
def d_X13_votes (x : Int32) (n : Nat) (f : Nat → Int32) (g : Nat → Int32) : (Int32 × (Nat → Int32)) := (((d_X13_tells x 1 n f g).1), ((d_X13_tells x 1 n f g).2))
def d_X13_quota (x : Int32) (n : Nat) (f : Nat → Int32) (g : Nat → Int32) : (Int32 × (Nat → Int32)) := (((d_X13_tells x 2 n f g).1), ((d_X13_tells x 2 n f g).2))
def d_X13_sales (x : Int32) (n : Nat) (f : Nat → Int32) (g : Nat → Int32) : (Int32 × (Nat → Int32)) := (((d_X13_tells x 3 n f g).1), ((d_X13_tells x 3 n f g).2))
def d_X13_standing (x : Int32) (n : Nat) (f : Nat → Int32) (g : Nat → Int32) : (Int32 × (Nat → Int32)) := if (((d_X13_tells x 4 n f g).2) 6) ≤ 0 then (if ((d_X13_tells x 4 n f g).1) = 0 then (108, ((d_X13_tells x 4 n f g).2)) else (if ((d_X13_tells x 4 n f g).1) ≤ 0 then (98, ((d_X13_tells x 4 n f g).2)) else (119, ((d_X13_tells x 4 n f g).2)))) else (32, ((d_X13_tells x 4 n f g).2))
def d_X13_warnings (x : Int32) (n : Nat) (f : Nat → Int32) (g : Nat → Int32) : (Int32 × (Nat → Int32)) := if (pm_in x 0 (nI n - 1)) = 0 then (0, (upd f 6 1)) else (if 0 < (g (7 + 5 * (pm_n x) + 4)) then ((g (7 + 5 * (pm_n x) + 4)), (upd f 6 0)) else (0, (upd f 6 2)))
def d_X13_barredMonths (x : Int32) (n : Nat) (f : Nat → Int32) (g : Nat → Int32) : (Int32 × (Nat → Int32)) := if (pm_in x 0 (nI n - 1)) = 0 then (0, (upd f 6 1)) else (if (pm_ib g (pm_n x)) = 0 then (0, (upd f 6 2)) else ((-(g (7 + 5 * (pm_n x) + 4))), (upd f 6 0)))
def d_X13_excess (x : Int32) (n : Nat) (f : Nat → Int32) (g : Nat → Int32) : (Int32 × (Nat → Int32)) := if (pm_in x 0 (nI n - 1)) = 0 then (0, (upd f 6 (pm_th (pm_in x 0 (nI n - 1))))) else ((pm_mv g (pm_n x)), (upd f 6 (pm_th (pm_in x 0 (nI n - 1)))))
def d_X13_memberCount (f : Nat → Int32) (g : Nat → Int32) : (Int32 × (Nat → Int32)) := ((g 0), (upd f 6 0))
def d_X13_asks (w : Nat) (f : Nat → Int32) (g : Nat → Int32) : (Int32 × (Nat → Int32)) := ((g w), (upd f 6 0))
def d_X13_month (f : Nat → Int32) (g : Nat → Int32) : (Int32 × (Nat → Int32)) := (((d_X13_asks 4 f g).1), ((d_X13_asks 4 f g).2))
def d_X13_soldTotal (f : Nat → Int32) (g : Nat → Int32) : (Int32 × (Nat → Int32)) := (((d_X13_asks 5 f g).1), ((d_X13_asks 5 f g).2))
def d_X13_withinTotal (f : Nat → Int32) (g : Nat → Int32) : (Int32 × (Nat → Int32)) := ((((d_X13_asks 5 f g).1) - (g 6)), ((d_X13_asks 5 f g).2))
def d_X13_finedTotal (f : Nat → Int32) (g : Nat → Int32) : (Int32 × (Nat → Int32)) := (((d_X13_asks 6 f g).1), ((d_X13_asks 6 f g).2))
def d_X13_fines (f : Nat → Int32) (g : Nat → Int32) : (Int32 × (Nat → Int32)) := ((3 * ((d_X13_asks 6 f g).1)), ((d_X13_asks 6 f g).2))
def d_X13_faultPosition (f : Nat → Int32) : (Int32 × (Nat → Int32)) := if (f 18) < 0 then (0, (upd f 6 (pm_th 0))) else ((f 18), (upd f 6 (pm_th 1)))
def d_X13_denial (f : Nat → Int32) : (Int32 × (Nat → Int32)) := if (f 9) ≤ 0 then (0, (upd f 6 (pm_th 0))) else ((f 9), (upd f 6 (pm_th 1)))
def d_X13_denialDetail (f : Nat → Int32) : (Int32 × (Nat → Int32)) := if (f 9) ≤ 0 then (0, (upd f 6 (pm_th 0))) else ((f 10), (upd f 6 (pm_th 1)))
def d_X13_denialCause (f : Nat → Int32) : (Int32 × (Nat → Int32)) := if (f 9) ≤ 0 then (0, (upd f 6 (pm_th 0))) else (if (f 11) ≤ 0 then (0, (upd f 6 (pm_th 0))) else ((f 11), (upd f 6 (pm_th 1))))
def d_X13_undoCount (f : Nat → Int32) : (Int32 × (Nat → Int32)) := ((f 5), (upd f 6 0))
def d_X13_saveSnapshot (f : Nat → Int32) (g : Nat → Int32) (gs : Nat → Int32) : (Int32 × (Nat → Int32) × (Nat → Int32)) := ((g 0), (upd (upd f 6 0) 3 1), (va_cpy g gs 0 0 91))
def d_X13_restoreSnapshot (f : Nat → Int32) (g : Nat → Int32) (gs : Nat → Int32) : (Int32 × (Nat → Int32) × (Nat → Int32)) := if (f 3) = 0 then (0, (upd f 6 1), g) else (((va_cpy gs g 0 0 91) 0), (upd (upd f 6 0) 5 0), (va_cpy gs g 0 0 91))
def d_X13_undo (k : Nat) (f : Nat → Int32) (g : Nat → Int32) (gp : Nat → Int32) : (Int32 × (Nat → Int32) × (Nat → Int32)) := if (nI k) = 0 then (0, (upd f 6 1), g) else ((nI (k - 1)), (upd (upd f 6 0) 5 (nI (k - 1))), (va_cpy gp g (91 * (k - 1)) 0 91))
theorem pm_shr1 {x : Int32} {k : Nat} (h : ¬ x < 0) (hk : pm_n x < 2 ^ (k + 1)) : ¬ (x >>> ((1 : Int32) &&& 31)) < 0 ∧ pm_n (x >>> ((1 : Int32) &&& 31)) < 2 ^ k := by
  obtain ⟨j, hj, rfl⟩ := nI_of h
  rw [pm_n_nI hj] at hk
  have h1 : nI j >>> ((1 : Int32) &&& 31) = nI (j / 2 ^ 1) := pk_shrN hj _ 1 (by decide)
  rw [h1]
  have h2 : j / 2 ^ 1 < 2 ^ k := by
    rw [Nat.pow_succ] at hk
    omega
  exact ⟨nI_pos (by omega), by rw [pm_n_nI (by omega)]; exact h2⟩
theorem pm_le0 {x : Int32} (h : ¬ x < 0) (hk : pm_n x < 2 ^ 0) : x ≤ 0 := by
  obtain ⟨j, hj, rfl⟩ := nI_of h
  rw [pm_n_nI hj] at hk
  have : j = 0 := by omega
  subst this
  exact Int32.le_refl _
def d_X13_memberByExcess_L2 (g : Nat → Int32) (j1 : Nat) : Nat → Nat → Int32 → Int32
  | 0, _, a5_2 => a5_2
  | k2 + 1, j2, a5_2 => if 0 < ((pm_mv g j2) - (pm_mv g j1)) then (d_X13_memberByExcess_L2 g j1 k2 (j2 + 1) (a5_2 + 1)) else (if ((pm_mv g j2) - (pm_mv g j1)) = 0 then (if 0 < ((g (7 + 5 * j2 + 3)) - (g (7 + 5 * j1 + 3))) then (d_X13_memberByExcess_L2 g j1 k2 (j2 + 1) (a5_2 + 1)) else (if ((g (7 + 5 * j2 + 3)) - (g (7 + 5 * j1 + 3))) = 0 then (if (nI j1) ≤ (nI j2) then (d_X13_memberByExcess_L2 g j1 k2 (j2 + 1) (a5_2 + 0)) else (d_X13_memberByExcess_L2 g j1 k2 (j2 + 1) (a5_2 + 1))) else (d_X13_memberByExcess_L2 g j1 k2 (j2 + 1) (a5_2 + 0)))) else (d_X13_memberByExcess_L2 g j1 k2 (j2 + 1) (a5_2 + 0)))
def d_X13_memberByExcess_L1 (x : Int32) (n : Nat) (g : Nat → Int32) : Nat → Nat → Int32 → Int32
  | 0, _, a2_1 => a2_1
  | k1 + 1, j1, a2_1 => if (pm_in x 0 (nI n - 1)) = 0 then a2_1 else (if (d_X13_memberByExcess_L2 g j1 n 0 0) = x then (d_X13_memberByExcess_L1 x n g k1 (j1 + 1) (nI j1)) else (d_X13_memberByExcess_L1 x n g k1 (j1 + 1) a2_1))
def d_X13_memberByExcess (x : Int32) (n : Nat) (f : Nat → Int32) (g : Nat → Int32) : (Int32 × (Nat → Int32)) := ((d_X13_memberByExcess_L1 x n g n 0 0), (upd f 6 (pm_th (pm_in x 0 (nI n - 1)))))
def d_X13_linked (i : Nat) (w : Nat) (f : Nat → Int32) (g : Nat → Int32) : Int32 := if (g ((42 + (7 * i)) + w)) = 1 then 1 else 0
def d_X13_links_L1 (g : Nat → Int32) : Nat → Nat → Int32 → Int32
  | 0, _, a1_1 => a1_1
  | k1 + 1, j1, a1_1 => (d_X13_links_L1 g k1 (j1 + 1) (a1_1 + (g (42 + j1))))
def d_X13_links (f : Nat → Int32) (g : Nat → Int32) : Int32 := ((d_X13_links_L1 g 49 0 0) / 2)
def d_X13_setsLink (i : Nat) (w : Nat) (v : Int32) (f : Nat → Int32) (g : Nat → Int32) : (Int32 × (Nat → Int32)) := ((d_X13_links f (upd (upd g ((42 + (7 * i)) + w) v) ((42 + (7 * w)) + i) v)), (upd (upd g ((42 + (7 * i)) + w) v) ((42 + (7 * w)) + i) v))
def d_X13_doLink (x : Int32) (y : Int32) (v : Int32) (n : Nat) (f : Nat → Int32) (g : Nat → Int32) : (Int32 × (Nat → Int32) × (Nat → Int32)) := if (pm_in x 0 (nI n - 1)) = 0 then (0, (upd f 6 1), g) else (if (pm_in y 0 (nI n - 1)) = 0 then (0, (upd f 6 1), g) else (if (nI (pm_n x)) = (nI (pm_n y)) then (0, (upd f 6 2), g) else (if v = 1 then (if (d_X13_linked (pm_n x) (pm_n y) f g) = 1 then (0, (upd (upd (upd f 7 4) 8 (d_X13_links f g)) 6 3), g) else (if v = 1 then (if (d_X13_links f g) = 12 then (0, (upd (upd (upd f 7 1) 8 12) 6 3), g) else (((d_X13_setsLink (pm_n x) (pm_n y) v f g).1), f, ((d_X13_setsLink (pm_n x) (pm_n y) v f g).2))) else (((d_X13_setsLink (pm_n x) (pm_n y) v f g).1), f, ((d_X13_setsLink (pm_n x) (pm_n y) v f g).2)))) else (if (d_X13_linked (pm_n x) (pm_n y) f g) = 0 then (0, (upd (upd (upd f 7 4) 8 (d_X13_links f g)) 6 3), g) else (if v = 1 then (if (d_X13_links f g) = 12 then (0, (upd (upd (upd f 7 1) 8 12) 6 3), g) else (((d_X13_setsLink (pm_n x) (pm_n y) v f g).1), f, ((d_X13_setsLink (pm_n x) (pm_n y) v f g).2))) else (((d_X13_setsLink (pm_n x) (pm_n y) v f g).1), f, ((d_X13_setsLink (pm_n x) (pm_n y) v f g).2)))))))
theorem d_X13_doLink_k_f5 (x : Int32) (y : Int32) (v : Int32) (n : Nat) (f : Nat → Int32) (g : Nat → Int32) : ((d_X13_doLink x y v n f g).2.1) 5 = f 5 := by
  unfold d_X13_doLink
  (repeat' split) <;> rfl
def d_X13_link (x : Int32) (y : Int32) (n : Nat) (k : Nat) (f : Nat → Int32) (g : Nat → Int32) (gb : Nat → Int32) (gp : Nat → Int32) : (Int32 × (Nat → Int32) × (Nat → Int32) × (Nat → Int32) × (Nat → Int32)) := (((d_X13_ends ((d_X13_doLink x y 1 n ((d_X13_keep f g gb).1) g).1) 0 k ((d_X13_doLink x y 1 n ((d_X13_keep f g gb).1) g).2.1) ((d_X13_doLink x y 1 n ((d_X13_keep f g gb).1) g).2.2) ((d_X13_keep f g gb).2) gp).1), ((d_X13_ends ((d_X13_doLink x y 1 n ((d_X13_keep f g gb).1) g).1) 0 k ((d_X13_doLink x y 1 n ((d_X13_keep f g gb).1) g).2.1) ((d_X13_doLink x y 1 n ((d_X13_keep f g gb).1) g).2.2) ((d_X13_keep f g gb).2) gp).2.1), ((d_X13_ends ((d_X13_doLink x y 1 n ((d_X13_keep f g gb).1) g).1) 0 k ((d_X13_doLink x y 1 n ((d_X13_keep f g gb).1) g).2.1) ((d_X13_doLink x y 1 n ((d_X13_keep f g gb).1) g).2.2) ((d_X13_keep f g gb).2) gp).2.2.1), ((d_X13_keep f g gb).2), ((d_X13_ends ((d_X13_doLink x y 1 n ((d_X13_keep f g gb).1) g).1) 0 k ((d_X13_doLink x y 1 n ((d_X13_keep f g gb).1) g).2.1) ((d_X13_doLink x y 1 n ((d_X13_keep f g gb).1) g).2.2) ((d_X13_keep f g gb).2) gp).2.2.2))
def d_X13_unlink (x : Int32) (y : Int32) (n : Nat) (k : Nat) (f : Nat → Int32) (g : Nat → Int32) (gb : Nat → Int32) (gp : Nat → Int32) : (Int32 × (Nat → Int32) × (Nat → Int32) × (Nat → Int32) × (Nat → Int32)) := (((d_X13_ends ((d_X13_doLink x y 0 n ((d_X13_keep f g gb).1) g).1) 0 k ((d_X13_doLink x y 0 n ((d_X13_keep f g gb).1) g).2.1) ((d_X13_doLink x y 0 n ((d_X13_keep f g gb).1) g).2.2) ((d_X13_keep f g gb).2) gp).1), ((d_X13_ends ((d_X13_doLink x y 0 n ((d_X13_keep f g gb).1) g).1) 0 k ((d_X13_doLink x y 0 n ((d_X13_keep f g gb).1) g).2.1) ((d_X13_doLink x y 0 n ((d_X13_keep f g gb).1) g).2.2) ((d_X13_keep f g gb).2) gp).2.1), ((d_X13_ends ((d_X13_doLink x y 0 n ((d_X13_keep f g gb).1) g).1) 0 k ((d_X13_doLink x y 0 n ((d_X13_keep f g gb).1) g).2.1) ((d_X13_doLink x y 0 n ((d_X13_keep f g gb).1) g).2.2) ((d_X13_keep f g gb).2) gp).2.2.1), ((d_X13_keep f g gb).2), ((d_X13_ends ((d_X13_doLink x y 0 n ((d_X13_keep f g gb).1) g).1) 0 k ((d_X13_doLink x y 0 n ((d_X13_keep f g gb).1) g).2.1) ((d_X13_doLink x y 0 n ((d_X13_keep f g gb).1) g).2.2) ((d_X13_keep f g gb).2) gp).2.2.2))
def d_X13_linkCount (f : Nat → Int32) (g : Nat → Int32) : (Int32 × (Nat → Int32)) := ((d_X13_links (upd f 6 0) g), (upd f 6 0))
def d_X13_areLinked (x : Int32) (y : Int32) (n : Nat) (f : Nat → Int32) (g : Nat → Int32) : (Int32 × (Nat → Int32)) := if (pm_in x 0 (nI n - 1)) = 0 then (0, (upd f 6 (pm_th 0))) else (if (pm_in y 0 (nI n - 1)) = 0 then (0, (upd f 6 (pm_th 0))) else (if (d_X13_linked (pm_n x) (pm_n y) (upd f 6 (pm_th 1)) g) = 0 then (0, (upd f 6 (pm_th 1))) else (1, (upd f 6 (pm_th 1)))))
def d_X13_bits_L1  : Nat → Int32 → Int32 → (Int32 × Int32)
  | 0, a1_1, a2_1 => (a1_1, a2_1)
  | k1 + 1, a1_1, a2_1 => if a2_1 ≤ 0 then (a1_1, a2_1) else (d_X13_bits_L1 k1 (a1_1 + (a2_1 &&& 1)) (a2_1 >>> (1 &&& 31)))
def d_X13_bits (x : Int32) : Int32 := ((d_X13_bits_L1 7 0 x).1)
theorem pm_01z {x : Int32} (h : ¬ x < 0) (hk : pm_n x < 128) : x = nI (pm_n x) := by
  obtain ⟨j, hj, rfl⟩ := nI_of h
  rw [pm_n_nI hj]
theorem pm_andN {x : Nat} (hx : x < 128) (y : Int32) : ∃ m, m ≤ x ∧ nI x &&& y = nI m := by
  refine ⟨x &&& y.toBitVec.toNat, Nat.and_le_left, ?_⟩
  apply Int32.toBitVec_inj.mp
  apply BitVec.eq_of_toNat_eq
  have h1 : ∀ k : Nat, k < 128 → (nI k).toBitVec.toNat = k := by
    intro k hk
    have : ∀ k : Fin 128, (nI k.1).toBitVec.toNat = k.1 := by decide +kernel
    exact this ⟨k, hk⟩
  have h2 : x &&& y.toBitVec.toNat < 128 := Nat.lt_of_le_of_lt Nat.and_le_left hx
  rw [Int32.toBitVec_and, BitVec.toNat_and, h1 x hx, h1 _ h2]
theorem pm_andL {x : Nat} (hx : x < 128) (y : Int32) : pm_n (nI x &&& y) < 128 ∧ nI x &&& y = nI (pm_n (nI x &&& y)) := by
  obtain ⟨m, hm, he⟩ := pm_andN hx y
  rw [he, pm_n_nI (by omega)]
  exact ⟨by omega, rfl⟩
theorem pm_orB : ∀ x : Fin 128, ∀ j : Fin 7, (nI x.1 ||| 1 <<< (nI j.1 &&& 31)) = nI (x.1 ||| 2 ^ j.1) ∧ x.1 ||| 2 ^ j.1 < 128 := by decide +kernel
def d_X13_watches_L2 (x : Int32) (f : Nat → Int32) (g : Nat → Int32) (j1 : Nat) : Nat → Nat → Int32 → Int32
  | 0, _, a2_2 => a2_2
  | k2 + 1, j2, a2_2 => if a2_2 = 0 then (d_X13_watches_L2 x f g j1 k2 (j2 + 1) 0) else (if (d_X13_linked j1 j2 f g) = 0 then (d_X13_watches_L2 x f g j1 k2 (j2 + 1) 1) else (if (((x >>> ((nI j1) &&& 31)) &&& 1) + ((x >>> ((nI j2) &&& 31)) &&& 1)) ≤ 0 then (d_X13_watches_L2 x f g j1 k2 (j2 + 1) 0) else (d_X13_watches_L2 x f g j1 k2 (j2 + 1) 1)))
def d_X13_watches_L1 (x : Int32) (f : Nat → Int32) (g : Nat → Int32) : Nat → Nat → Int32 → Int32
  | 0, _, a2_1 => a2_1
  | k1 + 1, j1, a2_1 => (d_X13_watches_L1 x f g k1 (j1 + 1) (d_X13_watches_L2 x f g j1 j1 0 a2_1))
def d_X13_watches (x : Int32) (n : Nat) (f : Nat → Int32) (g : Nat → Int32) : Int32 := (d_X13_watches_L1 x f g n 0 1)
def d_X13_fewestWatchers_L1 (n : Nat) (f : Nat → Int32) (g : Nat → Int32) : Nat → Nat → Int32 → Int32
  | 0, _, a1_1 => a1_1
  | k1 + 1, j1, a1_1 => if (d_X13_watches (nI j1) n (upd f 6 0) g) = 0 then (d_X13_fewestWatchers_L1 n f g k1 (j1 + 1) a1_1) else (d_X13_fewestWatchers_L1 n f g k1 (j1 + 1) (pm_min a1_1 (d_X13_bits (nI j1))))
def d_X13_fewestWatchers (n : Nat) (f : Nat → Int32) (g : Nat → Int32) : (Int32 × (Nat → Int32)) := ((d_X13_fewestWatchers_L1 n f g (2 ^ n) 0 7), (upd f 6 0))
def d_X13_fewestWatchersByBranching (n : Nat) (f : Nat → Int32) (g : Nat → Int32) : (Int32 × (Nat → Int32)) := (((d_X13_fewestWatchers n f g).1), ((d_X13_fewestWatchers n f g).2))
def d_X13_active_L1 (g : Nat → Int32) : Nat → Nat → Int32 → Int32
  | 0, _, a1_1 => a1_1
  | k1 + 1, j1, a1_1 => if (pm_ib g j1) = 0 then (d_X13_active_L1 g k1 (j1 + 1) (a1_1 ||| (1 <<< ((nI j1) &&& 31)))) else (d_X13_active_L1 g k1 (j1 + 1) (a1_1 ||| 0))
def d_X13_active (n : Nat) (f : Nat → Int32) (g : Nat → Int32) : Int32 := (d_X13_active_L1 g n 0 0)
theorem d_X13_active_nI (n : Nat) (f g : Nat → Int32) (h7 : n ≤ 7) : pm_n (d_X13_active n f g) < 128 ∧ d_X13_active n f g = nI (pm_n (d_X13_active n f g)) := by
  have h : ∀ (k j m : Nat), j + k = n → m < 128 → ∃ m', m' < 128 ∧ d_X13_active_L1 g k j (nI m) = nI m' := by
    intro k
    induction k with
    | zero => intro j m hj hm; exact ⟨m, hm, rfl⟩
    | succ k ih =>
      intro j m hj hm
      simp only [d_X13_active_L1]
      split
      · have h1 := pm_orB ⟨m, hm⟩ ⟨j, by omega⟩
        rw [h1.1]
        exact ih _ _ (by omega) h1.2
      · rw [show nI m ||| 0 = nI m from by simp]
        exact ih _ _ (by omega) hm
  obtain ⟨m, hm, he⟩ := h n 0 0 (by omega) (by decide)
  have he' : d_X13_active n f g = nI m := he
  rw [he', pm_n_nI (by omega)]
  exact ⟨hm, rfl⟩
def d_X13_votesOf_L1 (x : Int32) (g : Nat → Int32) : Nat → Nat → Int32 → Int32
  | 0, _, a2_1 => a2_1
  | k1 + 1, j1, a2_1 => if ((x >>> ((nI j1) &&& 31)) &&& 1) = 1 then (d_X13_votesOf_L1 x g k1 (j1 + 1) (a2_1 + (g (7 + 5 * j1 + 1)))) else (d_X13_votesOf_L1 x g k1 (j1 + 1) (a2_1 + 0))
def d_X13_votesOf (x : Int32) (n : Nat) (f : Nat → Int32) (g : Nat → Int32) : Int32 := (d_X13_votesOf_L1 x g n 0 0)
def d_X13_wins (x : Int32) (n : Nat) (f : Nat → Int32) (g : Nat → Int32) : Int32 := if (d_X13_votesOf x n f g) < (g 3) then 0 else 1
def d_X13_winningCoalitions_L1 (n : Nat) (f : Nat → Int32) (g : Nat → Int32) : Nat → Nat → Int32 → Int32
  | 0, _, a2_1 => a2_1
  | k1 + 1, j1, a2_1 => if ((nI j1) &&& ((nI (pm_n (d_X13_active n (upd f 6 0) g))) ^^^ (-1))) = 0 then (if (d_X13_wins (nI j1) n (upd f 6 0) g) = 0 then (d_X13_winningCoalitions_L1 n f g k1 (j1 + 1) (a2_1 + 0)) else (d_X13_winningCoalitions_L1 n f g k1 (j1 + 1) (a2_1 + 1))) else (d_X13_winningCoalitions_L1 n f g k1 (j1 + 1) (a2_1 + 0))
def d_X13_winningCoalitions (n : Nat) (f : Nat → Int32) (g : Nat → Int32) : (Int32 × (Nat → Int32)) := ((d_X13_winningCoalitions_L1 n f g (pm_n (d_X13_active n (upd f 6 0) g) + 1) 0 0), (upd f 6 0))
def d_X13_swings_L1 (x : Int32) (n : Nat) (f : Nat → Int32) (g : Nat → Int32) : Nat → Nat → Int32 → Int32
  | 0, _, a3_1 => a3_1
  | k1 + 1, j1, a3_1 => if ((nI j1) &&& ((nI (pm_n ((nI (pm_n (d_X13_active n (upd f 6 0) g))) &&& (((1 : Int32) <<< ((nI (pm_n x)) &&& 31)) ^^^ (-1))))) ^^^ (-1))) = 0 then (if (d_X13_wins (nI j1) n (upd f 6 0) g) = 0 then (if (d_X13_wins ((nI j1) ||| (1 <<< ((nI (pm_n x)) &&& 31))) n (upd f 6 0) g) = 0 then (d_X13_swings_L1 x n f g k1 (j1 + 1) (a3_1 + 0)) else (d_X13_swings_L1 x n f g k1 (j1 + 1) (a3_1 + 1))) else (d_X13_swings_L1 x n f g k1 (j1 + 1) (a3_1 + 0))) else (d_X13_swings_L1 x n f g k1 (j1 + 1) (a3_1 + 0))
def d_X13_swings (x : Int32) (n : Nat) (f : Nat → Int32) (g : Nat → Int32) : (Int32 × (Nat → Int32)) := if (pm_in x 0 (nI n - 1)) = 0 then (0, (upd f 6 1)) else (if (pm_ib g (pm_n x)) = 0 then ((d_X13_swings_L1 x n f g (pm_n ((nI (pm_n (d_X13_active n (upd f 6 0) g))) &&& (((1 : Int32) <<< ((nI (pm_n x)) &&& 31)) ^^^ (-1))) + 1) 0 0), (upd f 6 0)) else (0, (upd f 6 2)))
def d_X13_swingsByCounts (x : Int32) (n : Nat) (f : Nat → Int32) (g : Nat → Int32) : (Int32 × (Nat → Int32)) := (((d_X13_swings x n f g).1), ((d_X13_swings x n f g).2))
def d_X13_leastDifference_L1 (n : Nat) (f : Nat → Int32) (g : Nat → Int32) : Nat → Nat → Int32 → Int32
  | 0, _, a3_1 => a3_1
  | k1 + 1, j1, a3_1 => if ((nI j1) &&& ((nI (pm_n (d_X13_active n (upd f 6 0) g))) ^^^ (-1))) = 0 then (d_X13_leastDifference_L1 n f g k1 (j1 + 1) (pm_min a3_1 (pm_abs ((2 * (d_X13_votesOf (nI j1) n (upd f 6 0) g)) - (d_X13_votesOf (nI (pm_n (d_X13_active n (upd f 6 0) g))) n (upd f 6 0) g))))) else (d_X13_leastDifference_L1 n f g k1 (j1 + 1) a3_1)
def d_X13_leastDifference (n : Nat) (f : Nat → Int32) (g : Nat → Int32) : (Int32 × (Nat → Int32)) := ((d_X13_leastDifference_L1 n f g (pm_n (d_X13_active n (upd f 6 0) g) + 1) 0 (d_X13_votesOf (nI (pm_n (d_X13_active n (upd f 6 0) g))) n (upd f 6 0) g)), (upd f 6 0))
def d_X13_leastDifferenceBySums (n : Nat) (f : Nat → Int32) (g : Nat → Int32) : (Int32 × (Nat → Int32)) := (((d_X13_leastDifference n f g).1), ((d_X13_leastDifference n f g).2))
theorem pm_max0 (x : Int32) : ¬ pm_max 0 x < 0 := by
  unfold pm_max
  split
  · rename_i h; exact fun e => absurd (Int32.lt_trans h e) Int32.lt_irrefl
  · exact Int32.lt_irrefl
theorem pm_mvN (g : Nat → Int32) (i : Nat) : pm_mv g i = nI (pm_n (pm_mv g i)) ∧ pm_n (pm_mv g i) < 2 ^ 31 := by
  obtain ⟨j, hj, he⟩ := nI_of (pm_max0 (g (7 + 5 * i + 3) - g (7 + 5 * i + 2)))
  have he' : pm_mv g i = nI j := he
  rw [he', pm_n_nI hj]
  exact ⟨rfl, hj⟩
/-- those counted so far; the one at m is among them -/
def pm_ct (m j : Nat) (a : Int32) : Prop := ∃ c, a = nI c ∧ c ≤ j ∧ (m < j → 0 < c)
theorem pm_ct0 (m : Nat) : pm_ct m 0 0 := ⟨0, rfl, by omega, by omega⟩
theorem pm_ct1 {m j : Nat} {a : Int32} (h : pm_ct m j a) : pm_ct m (j + 1) (a + 1) := by
  obtain ⟨c, rfl, hc, hm⟩ := h
  exact ⟨c + 1, nI_1 c, by omega, by omega⟩
theorem pm_ct2 {m j : Nat} {a : Int32} (h : pm_ct m j a) (hj : ¬ j = m) : pm_ct m (j + 1) (a + 0) := by
  obtain ⟨c, rfl, hc, hm⟩ := h
  refine ⟨c, by simp, by omega, fun h => hm (by omega)⟩
theorem pm_ctn {m j n : Nat} {a : Int32} (h : pm_ct m j a) (hj : j = n) (hn : n ≤ 7) (hm : m < n) : ¬ a = 0 := by
  obtain ⟨c, rfl, hc, h0⟩ := h
  intro e
  have h2 := h0 (by omega)
  have := (nI_eq (a := c) (b := 0) (by omega) (by decide)).mp e
  omega
theorem pm_ltne {g : Nat → Int32} {u m j : Nat} (h : ¬ pm_mv g m < nI u) (h2 : pm_mv g j < nI u) : ¬ j = m := by
  rintro rfl; exact h h2
def d_X13_share_L1  : Nat → Nat → Int32 → Int32
  | 0, _, a2_1 => a2_1
  | k1 + 1, j1, a2_1 => (d_X13_share_L1 k1 (j1 + 1) (a2_1 * (nI j1)))
def d_X13_share_L3 (g : Nat → Int32) (j2 : Nat) : Nat → Nat → Int32 → Int32
  | 0, _, a5_3 => a5_3
  | k3 + 1, j3, a5_3 => if (pm_mv g j3) < (nI j2) then (d_X13_share_L3 g j2 k3 (j3 + 1) (a5_3 + 0)) else (d_X13_share_L3 g j2 k3 (j3 + 1) (a5_3 + 1))
def d_X13_share_L2 (n : Nat) (g : Nat → Int32) (a2_1 : Int32) : Nat → Nat → Int32 → Int32
  | 0, _, a3_2 => a3_2
  | k2 + 1, j2, a3_2 => (d_X13_share_L2 n g a2_1 k2 (j2 + 1) (a3_2 + (a2_1 / (d_X13_share_L3 g j2 n 0 0))))
def d_X13_share (x : Int32) (n : Nat) (f : Nat → Int32) (g : Nat → Int32) : (Int32 × (Nat → Int32)) := if (pm_in x 0 (nI n - 1)) = 0 then (0, (upd f 6 (pm_th (pm_in x 0 (nI n - 1))))) else ((d_X13_share_L2 n g (d_X13_share_L1 ((2 + (n - 1)) - 2) 2 1) ((1 + pm_n (pm_mv g (pm_n x))) - 1) 1 0), (upd f 6 (pm_th (pm_in x 0 (nI n - 1)))))
def d_X13_shareBySteps (x : Int32) (n : Nat) (f : Nat → Int32) (g : Nat → Int32) : (Int32 × (Nat → Int32)) := (((d_X13_share x n f g).1), ((d_X13_share x n f g).2))
theorem pm_le_ne {x : Int32} (h : ¬ x ≤ 0) : ¬ x = 0 := by
  rintro rfl; exact h (Int32.le_refl _)
def d_X13_meanSales_L1 (g : Nat → Int32) : Nat → Nat → Int32 → Int32
  | 0, _, a1_1 => a1_1
  | k1 + 1, j1, a1_1 => (d_X13_meanSales_L1 g k1 (j1 + 1) (a1_1 + (g (7 + 5 * j1 + 3))))
def d_X13_meanSales (n : Nat) (f : Nat → Int32) (g : Nat → Int32) : (UInt64 × (Nat → Int32)) := if (nI n) ≤ 0 then (FP.dconst0, (upd f 6 (pm_th 0))) else ((FP.ddiv (FP.i2d (d_X13_meanSales_L1 g n 0 0)) (FP.i2d (nI n))), (upd f 6 (pm_th 1)))
def d_X13_finedShare (f : Nat → Int32) (g : Nat → Int32) : (UInt32 × (Nat → Int32)) := if (g 5) ≤ 0 then (FP.fconst0, (upd f 6 (pm_th 0))) else ((FP.fdiv (FP.i2f (g 6)) (FP.i2f (g 5))), (upd f 6 (pm_th 1)))
theorem pm_n0 {x : Int32} (h : pm_n x = 0) : x ≤ 0 := by
  by_cases h0 : x < 0
  · exact Int32.le_of_lt h0
  · obtain ⟨j, hj, rfl⟩ := nI_of h0
    rw [pm_n_nI hj] at h
    subst h
    exact Int32.le_refl _
theorem pm_nP {x : Int32} {k : Nat} (h : pm_n x = k + 1) : ¬ x ≤ 0 ∧ pm_n (x + Int32.ofInt (-1)) = k := by
  have h0 : ¬ x < 0 := by
    intro h0
    have : pm_n x = 0 := by
      unfold pm_n Int32.toNatClampNeg
      have h1 : x.toInt < 0 := by simpa using Int32.lt_iff_toInt_lt.mp h0
      omega
    omega
  obtain ⟨j, hj, rfl⟩ := nI_of h0
  rw [pm_n_nI hj] at h
  subst h
  constructor
  · intro h1
    have := (nI_leI (a := k + 1) (b := 0) (by omega) (by decide)).mp h1
    omega
  · have : nI (k + 1) + Int32.ofInt (-1) = nI k := pk_m1 k
    rw [this, pm_n_nI (by omega)]
def pm_bst (n : Nat) (x : Int32) : Prop := x = -1 ∨ ∃ b, b < n ∧ x = nI b
theorem pm_bstN {n : Nat} {x : Int32} (h7 : n ≤ 7) (h : pm_bst n x) (h0 : ¬ x < 0) : x = nI (pm_n x) ∧ pm_n x < n := by
  rcases h with rfl | ⟨b, hb, rfl⟩
  · exact absurd (by decide) h0
  · rw [pm_n_nI (by omega)]; exact ⟨rfl, hb⟩
def d_X13_isFirst (i : Nat) (w : Nat) (t : Int32) (c : Int32) (r : Int32) (f : Nat → Int32) (g : Nat → Int32) (gq : Nat → Int32) : Int32 := if r = 0 then (if ((t * (g (7 + 5 * i + 0))) - (t * (g (7 + 5 * i + 0))) / c * c) ≤ ((t * (g (7 + 5 * w + 0))) - (t * (g (7 + 5 * w + 0))) / c * c) then 0 else 1) else (if ((g (7 + 5 * i + 0)) * ((gq w) + 1)) ≤ ((g (7 + 5 * w + 0)) * ((gq i) + 1)) then 0 else 1)
def d_X13_apportions_L1 (g : Nat → Int32) : Nat → Nat → Int32 → (Nat → Int32) → (Int32 × (Nat → Int32))
  | 0, _, a3_1, gq_1 => (a3_1, gq_1)
  | k1 + 1, j1, a3_1, gq_1 => if (pm_ib g j1) = 0 then (d_X13_apportions_L1 g k1 (j1 + 1) (a3_1 + (g (7 + 5 * j1 + 0))) (upd gq_1 j1 0)) else (d_X13_apportions_L1 g k1 (j1 + 1) (a3_1 + 0) (upd gq_1 j1 0))
def d_X13_apportions_L2 (x : Int32) (y : Int32) (g : Nat → Int32) (a3_1 : Int32) : Nat → Nat → Int32 → (Nat → Int32) → (Int32 × (Nat → Int32))
  | 0, _, a4_2, gq_2 => (a4_2, gq_2)
  | k2 + 1, j2, a4_2, gq_2 => if y = 0 then (if (pm_ib g j2) = 0 then (d_X13_apportions_L2 x y g a3_1 k2 (j2 + 1) (a4_2 - ((x * (g (7 + 5 * j2 + 0))) / a3_1)) (upd gq_2 j2 ((x * (g (7 + 5 * j2 + 0))) / a3_1))) else (d_X13_apportions_L2 x y g a3_1 k2 (j2 + 1) (a4_2 - 0) (upd gq_2 j2 0))) else (a4_2, gq_2)
def d_X13_apportions_L4 (x : Int32) (y : Int32) (f : Nat → Int32) (g : Nat → Int32) (a3_1 : Int32) (a5_3 : Int32) (gq_3 : Nat → Int32) : Nat → Nat → Int32 → Int32
  | 0, _, a6_4 => a6_4
  | k4 + 1, j4, a6_4 => if (pm_ib g j4) = 0 then (if ((a5_3 >>> ((nI j4) &&& 31)) &&& 1) = 0 then (if a6_4 < 0 then (d_X13_apportions_L4 x y f g a3_1 a5_3 gq_3 k4 (j4 + 1) (nI j4)) else (if (d_X13_isFirst j4 (pm_n a6_4) x a3_1 y f g gq_3) = 0 then (d_X13_apportions_L4 x y f g a3_1 a5_3 gq_3 k4 (j4 + 1) a6_4) else (d_X13_apportions_L4 x y f g a3_1 a5_3 gq_3 k4 (j4 + 1) (nI j4)))) else (d_X13_apportions_L4 x y f g a3_1 a5_3 gq_3 k4 (j4 + 1) a6_4)) else (d_X13_apportions_L4 x y f g a3_1 a5_3 gq_3 k4 (j4 + 1) a6_4)
def d_X13_apportions_L3 (x : Int32) (y : Int32) (n : Nat) (f : Nat → Int32) (g : Nat → Int32) (a3_1 : Int32) : Nat → Int32 → Int32 → (Nat → Int32) → (Int32 × Int32 × (Nat → Int32))
  | 0, a4_3, a5_3, gq_3 => (a4_3, a5_3, gq_3)
  | k3 + 1, a4_3, a5_3, gq_3 => if y = 0 then (d_X13_apportions_L3 x y n f g a3_1 k3 (a4_3 + Int32.ofInt (-1)) (a5_3 ||| (1 <<< ((nI (pm_n (d_X13_apportions_L4 x y f g a3_1 a5_3 gq_3 n 0 (-1)))) &&& 31))) (upd gq_3 (pm_n (d_X13_apportions_L4 x y f g a3_1 a5_3 gq_3 n 0 (-1))) ((gq_3 (pm_n (d_X13_apportions_L4 x y f g a3_1 a5_3 gq_3 n 0 (-1)))) + 1))) else (d_X13_apportions_L3 x y n f g a3_1 k3 (a4_3 + Int32.ofInt (-1)) (a5_3 ||| 0) (upd gq_3 (pm_n (d_X13_apportions_L4 x y f g a3_1 a5_3 gq_3 n 0 (-1))) ((gq_3 (pm_n (d_X13_apportions_L4 x y f g a3_1 a5_3 gq_3 n 0 (-1)))) + 1)))
/-- each unit finds a member -/
def pm_apS (x y : Int32) (n : Nat) (f g : Nat → Int32) (a3_1 : Int32) : Nat → Int32 → (Nat → Int32) → Prop
  | 0, _, _ => True
  | k + 1, a5_3, gq_3 => let b := (d_X13_apportions_L4 x y f g a3_1 a5_3 gq_3 n 0 (-1)); ¬ b < 0 ∧ pm_apS x y n f g a3_1 k (if y = 0 then a5_3 ||| ((1 : Int32) <<< ((nI (pm_n b)) &&& 31)) else a5_3 ||| 0) (upd gq_3 (pm_n b) (gq_3 (pm_n b) + 1))
def pm_apOK (x y : Int32) (n : Nat) (f g gq : Nat → Int32) : Prop := ∀ a q a2 q2, (a, q) = d_X13_apportions_L1 g n 0 0 gq → ¬ a = 0 → (a2, q2) = d_X13_apportions_L2 x y g a n 0 x q → pm_apS x y n f g a (pm_n a2) 0 q2
def d_X13_apportions (x : Int32) (y : Int32) (n : Nat) (f : Nat → Int32) (g : Nat → Int32) (gq : Nat → Int32) : (Nat → Int32) := if ((d_X13_apportions_L1 g n 0 0 gq).1) = 0 then ((d_X13_apportions_L1 g n 0 0 gq).2) else ((d_X13_apportions_L3 x y n f g ((d_X13_apportions_L1 g n 0 0 gq).1) (pm_n ((d_X13_apportions_L2 x y g ((d_X13_apportions_L1 g n 0 0 gq).1) n 0 x ((d_X13_apportions_L1 g n 0 0 gq).2)).1)) ((d_X13_apportions_L2 x y g ((d_X13_apportions_L1 g n 0 0 gq).1) n 0 x ((d_X13_apportions_L1 g n 0 0 gq).2)).1) 0 ((d_X13_apportions_L2 x y g ((d_X13_apportions_L1 g n 0 0 gq).1) n 0 x ((d_X13_apportions_L1 g n 0 0 gq).2)).2)).2.2)
def d_X13_doAssign_L1 (x : Int32) (n : Nat) (f : Nat → Int32) (g : Nat → Int32) (gq : Nat → Int32) : Nat → Nat → Int32 → (Nat → Int32) → (Int32 × (Nat → Int32))
  | 0, _, a2_1, g_1 => (a2_1, g_1)
  | k1 + 1, j1, a2_1, g_1 => if (g_1 (7 + 5 * j1 + 2)) = ((d_X13_apportions x (g 1) n f g gq) j1) then (d_X13_doAssign_L1 x n f g gq k1 (j1 + 1) (a2_1 + 0) (upd g_1 (7 + 5 * j1 + 2) ((d_X13_apportions x (g 1) n f g gq) j1))) else (d_X13_doAssign_L1 x n f g gq k1 (j1 + 1) (a2_1 + 1) (upd g_1 (7 + 5 * j1 + 2) ((d_X13_apportions x (g 1) n f g gq) j1)))
def d_X13_doAssign (x : Int32) (n : Nat) (f : Nat → Int32) (g : Nat → Int32) (gq : Nat → Int32) : (Int32 × (Nat → Int32) × (Nat → Int32) × (Nat → Int32)) := if (pm_in x 0 300) = 0 then (0, (upd f 6 1), g, gq) else (((d_X13_doAssign_L1 x n f g gq n 0 0 g).1), f, ((d_X13_doAssign_L1 x n f g gq n 0 0 g).2), (d_X13_apportions x (g 1) n f g gq))
theorem d_X13_doAssign_k_f5 (x : Int32) (n : Nat) (f : Nat → Int32) (g : Nat → Int32) (gq : Nat → Int32) : ((d_X13_doAssign x n f g gq).2.1) 5 = f 5 := by
  unfold d_X13_doAssign
  (repeat' split) <;> rfl
def d_X13_quotaBy (x : Int32) (y : Int32) (w : Int32) (n : Nat) (f : Nat → Int32) (g : Nat → Int32) (gq : Nat → Int32) : (Int32 × (Nat → Int32) × (Nat → Int32)) := if (pm_in x 0 (nI n - 1)) = 0 then (0, (upd f 6 1), gq) else (if (pm_in y 0 300) = 0 then (0, (upd f 6 2), gq) else (if (pm_in w 0 1) = 0 then (0, (upd f 6 2), gq) else (((d_X13_apportions y w n (upd f 6 0) g gq) (pm_n x)), (upd f 6 0), (d_X13_apportions y w n (upd f 6 0) g gq))))
/-- how many of the first n bits are set -/
def pm_pc (D : Nat) : Nat → Nat
  | 0 => 0
  | n + 1 => pm_pc D n + D / 2 ^ n % 2
/-- on from m to one whose bit is not set, in k steps at most -/
def pm_drS (n D : Nat) : Nat → Nat → Prop
  | 0, m => ¬ D / 2 ^ m % 2 = 1
  | k + 1, m => D / 2 ^ m % 2 = 1 → pm_drS n D k ((m + 1) % n)
def pm_drB (n D : Nat) : Nat → Nat → Bool
  | 0, m => ! (D / 2 ^ m % 2 == 1)
  | k + 1, m => ! (D / 2 ^ m % 2 == 1) || pm_drB n D k ((m + 1) % n)
theorem pm_drS_of (n D : Nat) : ∀ (k m : Nat), pm_drB n D k m = true → pm_drS n D k m
  | 0, m, h => by simpa [pm_drB, pm_drS] using h
  | k + 1, m, h => by
    intro hb
    simp only [pm_drB, Bool.or_eq_true, Bool.not_eq_true'] at h
    rcases h with h | h
    · simp [hb] at h
    · exact pm_drS_of n D k _ h
theorem pm_drBn : ∀ (n : Fin 8) (D : Fin 128) (m : Fin 7), pm_pc D.1 n.1 < n.1 → m.1 < n.1 → pm_drB n.1 D.1 n.1 m.1 = true := by decide +kernel
theorem pm_drSn {n D m : Nat} (h7 : n ≤ 7) (hD : D < 128) (h : pm_pc D n < n) (hm : m < n) : pm_drS n D n m :=
  pm_drS_of _ _ _ _ (pm_drBn ⟨n, by omega⟩ ⟨D, hD⟩ ⟨m, by omega⟩ h hm)
theorem pm_tbF : ∀ (D : Fin 128) (m : Fin 7), (nI D.1 >>> (nI m.1 &&& 31)) &&& 1 = nI (D.1 / 2 ^ m.1 % 2) := by decide +kernel
theorem pm_tb {D m : Nat} (hD : D < 128) (hm : m < 7) : (nI D >>> (nI m &&& 31)) &&& 1 = nI (D / 2 ^ m % 2) := pm_tbF ⟨D, hD⟩ ⟨m, hm⟩
theorem pm_tb1 {b : Nat} : (nI (b % 2) = 1 ↔ b % 2 = 1) := nI_eq (b := 1) (by omega) (by decide)
theorem pm_pcO : ∀ (n : Fin 8) (D : Fin 128) (m : Fin 7), pm_pc (D.1 ||| 2 ^ m.1) n.1 ≤ pm_pc D.1 n.1 + 1 := by decide +kernel
theorem pm_pc0 : ∀ n : Fin 8, pm_pc 0 n.1 = 0 := by decide +kernel
def d_X13_draws_L1 (dr : Nat) (n : Nat) : Nat → Int32 → Int32
  | 0, a2_1 => a2_1
  | k1 + 1, a2_1 => if (nI (dr / 2 ^ (pm_n a2_1) % 2)) = 1 then (d_X13_draws_L1 dr n k1 (nI ((pm_n a2_1 + 1) % n))) else a2_1
def d_X13_draws (dr : Nat) (n : Nat) (f : Nat → Int32) (g : Nat → Int32) : (Int32 × (Nat → Int32)) := ((d_X13_draws_L1 dr n n (nI ((pm_n (f 13) * 109 + 89) % 1024 % n))), (upd f 13 (nI (((pm_n (f 13)) * 109 + 89) % 1024))))
theorem d_X13_draws_in (dr n : Nat) (f g : Nat → Int32) (h7 : n ≤ 7) (h0 : 0 < n) : (d_X13_draws dr n f g).1 = nI (pm_n (d_X13_draws dr n f g).1) ∧ pm_n (d_X13_draws dr n f g).1 < n := by
  have h : ∀ (k m : Nat), m < n → ∃ m', m' < n ∧ d_X13_draws_L1 dr n k (nI m) = nI m' := by
    intro k
    induction k with
    | zero => intro m hm; exact ⟨m, hm, rfl⟩
    | succ k ih =>
      intro m hm
      simp only [d_X13_draws_L1]
      split
      · exact ih _ (Nat.mod_lt _ h0)
      · exact ⟨m, hm, rfl⟩
  obtain ⟨m, hm, he⟩ := h n ((pm_n (f 13) * 109 + 89) % 1024 % n) (Nat.mod_lt _ h0)
  have he' : (d_X13_draws dr n f g).1 = nI m := he
  rw [he', pm_n_nI (by omega)]
  exact ⟨rfl, hm⟩
theorem d_X13_draws_sd (dr n : Nat) (f g : Nat → Int32) : (d_X13_draws dr n f g).2 13 = nI (pm_n ((d_X13_draws dr n f g).2 13)) ∧ pm_n ((d_X13_draws dr n f g).2 13) < 1024 := by
  have h : (d_X13_draws dr n f g).2 13 = nI ((pm_n (f 13) * 109 + 89) % 1024) := rfl
  rw [h, pm_n_nI (by omega)]
  exact ⟨rfl, by omega⟩
theorem pm_orN {D m : Nat} (hD : D < 128) (hm : m < 7) : (nI D ||| 1 <<< (nI m &&& 31)) = nI (D ||| 2 ^ m) ∧ D ||| 2 ^ m < 128 := pm_orB ⟨D, hD⟩ ⟨m, hm⟩
theorem pm_pcN {D m n j : Nat} (h7 : n ≤ 7) (hD : D < 128) (hm : m < 7) (h : pm_pc D n ≤ j) : pm_pc (D ||| 2 ^ m) n ≤ j + 1 :=
  Nat.le_trans (pm_pcO ⟨n, by omega⟩ ⟨D, hD⟩ ⟨m, hm⟩) (Nat.add_le_add_right h 1)
theorem pm_in17 {x : Int32} (h : ¬ pm_in x 1 7 = 0) : x = nI (pm_n x) ∧ 1 ≤ pm_n x ∧ pm_n x ≤ 7 := by
  unfold pm_in at h
  split at h
  · exact absurd rfl h
  · rename_i h1
    split at h
    · exact absurd rfl h
    · rename_i h2
      have h0 : ¬ x < 0 := fun e => h1 (Int32.lt_trans e (by decide))
      obtain ⟨j, hj, rfl⟩ := nI_of h0
      rw [pm_n_nI hj]
      rw [show (1 : Int32) = nI 1 from rfl, nI_ltI hj (by decide)] at h1
      rw [show (7 : Int32) = nI 7 from rfl, nI_ltI (by decide) hj] at h2
      exact ⟨rfl, by omega, by omega⟩
def d_X13_doAudit_L1 (n : Nat) : Nat → Nat → Int32 → Int32 → (Nat → Int32) → (Nat → Int32) → (Int32 × Int32 × (Nat → Int32) × (Nat → Int32))
  | 0, _, a2_1, a3_1, f_1, g_1 => (a2_1, a3_1, f_1, g_1)
  | k1 + 1, j1, a2_1, a3_1, f_1, g_1 => if (pm_mv g_1 (pm_n ((d_X13_draws (pm_n a2_1) n f_1 g_1).1))) ≤ 0 then (d_X13_doAudit_L1 n k1 (j1 + 1) (nI (pm_n a2_1 ||| 2 ^ (pm_n ((d_X13_draws (pm_n a2_1) n f_1 g_1).1)))) a3_1 ((d_X13_draws (pm_n a2_1) n f_1 g_1).2) g_1) else (if (pm_ib g_1 (pm_n ((d_X13_draws (pm_n a2_1) n f_1 g_1).1))) = 0 then (if (g_1 (7 + 5 * (pm_n ((d_X13_draws (pm_n a2_1) n f_1 g_1).1)) + 4)) = 2 then (d_X13_doAudit_L1 n k1 (j1 + 1) (nI (pm_n a2_1 ||| 2 ^ (pm_n ((d_X13_draws (pm_n a2_1) n f_1 g_1).1)))) (a3_1 + Int32.ofInt 1) ((d_X13_draws (pm_n a2_1) n f_1 g_1).2) (upd g_1 (7 + 5 * (pm_n ((d_X13_draws (pm_n a2_1) n f_1 g_1).1)) + 4) (-2))) else (d_X13_doAudit_L1 n k1 (j1 + 1) (nI (pm_n a2_1 ||| 2 ^ (pm_n ((d_X13_draws (pm_n a2_1) n f_1 g_1).1)))) (a3_1 + Int32.ofInt 1) ((d_X13_draws (pm_n a2_1) n f_1 g_1).2) (upd g_1 (7 + 5 * (pm_n ((d_X13_draws (pm_n a2_1) n f_1 g_1).1)) + 4) ((g_1 (7 + 5 * (pm_n ((d_X13_draws (pm_n a2_1) n f_1 g_1).1)) + 4)) + 1)))) else (d_X13_doAudit_L1 n k1 (j1 + 1) (nI (pm_n a2_1 ||| 2 ^ (pm_n ((d_X13_draws (pm_n a2_1) n f_1 g_1).1)))) a3_1 ((d_X13_draws (pm_n a2_1) n f_1 g_1).2) g_1))
def d_X13_doAudit (x : Int32) (n : Nat) (f : Nat → Int32) (g : Nat → Int32) : (Int32 × (Nat → Int32) × (Nat → Int32)) := if (pm_in x 1 7) = 0 then (0, (upd f 6 1), g) else (if x ≤ (nI n) then (((d_X13_doAudit_L1 n (pm_n x) 0 0 0 (upd f 13 (g 2)) g).2.1), ((d_X13_doAudit_L1 n (pm_n x) 0 0 0 (upd f 13 (g 2)) g).2.2.1), (upd ((d_X13_doAudit_L1 n (pm_n x) 0 0 0 (upd f 13 (g 2)) g).2.2.2) 2 (((d_X13_doAudit_L1 n (pm_n x) 0 0 0 (upd f 13 (g 2)) g).2.2.1) 13))) else (0, (upd (upd (upd f 7 6) 8 (nI n)) 6 2), g))
theorem d_X13_doAudit_L1_f5 (n : Nat) : ∀ (k j : Nat) (a b : Int32) (f g : Nat → Int32), (d_X13_doAudit_L1 n k j a b f g).2.2.1 5 = f 5 := by
  intro k
  induction k with
  | zero => intro j a b f g; rfl
  | succ k ih =>
    intro j a b f g
    simp only [d_X13_doAudit_L1]
    (repeat' split) <;> (rw [ih]; rfl)
theorem d_X13_doAudit_k_f5 (x : Int32) (n : Nat) (f g : Nat → Int32) : (d_X13_doAudit x n f g).2.1 5 = f 5 := by
  unfold d_X13_doAudit
  (repeat' split)
  · rfl
  · simp only [d_X13_doAudit_L1_f5]; rfl
  · rfl
def d_X13_audit (x : Int32) (n : Nat) (k : Nat) (f : Nat → Int32) (g : Nat → Int32) (gb : Nat → Int32) (gp : Nat → Int32) : (Int32 × (Nat → Int32) × (Nat → Int32) × (Nat → Int32) × (Nat → Int32)) := (((d_X13_ends ((d_X13_doAudit x n ((d_X13_keep f g gb).1) g).1) 0 k ((d_X13_doAudit x n ((d_X13_keep f g gb).1) g).2.1) ((d_X13_doAudit x n ((d_X13_keep f g gb).1) g).2.2) ((d_X13_keep f g gb).2) gp).1), ((d_X13_ends ((d_X13_doAudit x n ((d_X13_keep f g gb).1) g).1) 0 k ((d_X13_doAudit x n ((d_X13_keep f g gb).1) g).2.1) ((d_X13_doAudit x n ((d_X13_keep f g gb).1) g).2.2) ((d_X13_keep f g gb).2) gp).2.1), ((d_X13_ends ((d_X13_doAudit x n ((d_X13_keep f g gb).1) g).1) 0 k ((d_X13_doAudit x n ((d_X13_keep f g gb).1) g).2.1) ((d_X13_doAudit x n ((d_X13_keep f g gb).1) g).2.2) ((d_X13_keep f g gb).2) gp).2.2.1), ((d_X13_keep f g gb).2), ((d_X13_ends ((d_X13_doAudit x n ((d_X13_keep f g gb).1) g).1) 0 k ((d_X13_doAudit x n ((d_X13_keep f g gb).1) g).2.1) ((d_X13_doAudit x n ((d_X13_keep f g gb).1) g).2.2) ((d_X13_keep f g gb).2) gp).2.2.2))
def d_X13_drawnMember_L1 (n : Nat) (g : Nat → Int32) : Nat → Nat → Int32 → Int32 → (Nat → Int32) → (Int32 × Int32 × (Nat → Int32))
  | 0, _, a2_1, a3_1, f_1 => (a2_1, a3_1, f_1)
  | k1 + 1, j1, a2_1, a3_1, f_1 => (d_X13_drawnMember_L1 n g k1 (j1 + 1) (nI (pm_n a2_1 ||| 2 ^ (pm_n ((d_X13_draws (pm_n a2_1) n f_1 g).1)))) (nI (pm_n ((d_X13_draws (pm_n a2_1) n f_1 g).1))) ((d_X13_draws (pm_n a2_1) n f_1 g).2))
def d_X13_drawnMember (x : Int32) (n : Nat) (f : Nat → Int32) (g : Nat → Int32) : (Int32 × (Nat → Int32)) := if (pm_in x 0 (nI n - 1)) = 0 then (if x < 0 then (0, (upd (upd f 13 (g 2)) 6 (pm_th (pm_in x 0 (nI n - 1))))) else (0, (upd (upd f 13 (g 2)) 6 (pm_th (pm_in x 0 (nI n - 1)))))) else (((d_X13_drawnMember_L1 n g (pm_n x + 1) 0 0 0 (upd (upd f 13 (g 2)) 6 (pm_th (pm_in x 0 (nI n - 1))))).2.1), ((d_X13_drawnMember_L1 n g (pm_n x + 1) 0 0 0 (upd (upd f 13 (g 2)) 6 (pm_th (pm_in x 0 (nI n - 1))))).2.2))
/-- the text's fields: its length t, the place, whether it is wrong -/
def pm_tx (t : Nat) (f : Nat → Int32) : Prop := f 16 = nI (pm_n (f 16)) ∧ pm_n (f 16) ≤ t ∧ f 15 = nI t ∧ (f 17 = 0 ∨ f 17 = 1)
theorem pm_tx_o {t k : Nat} {f : Nat → Int32} {v : Int32} (hk : k ≠ 15 ∧ k ≠ 16 ∧ k ≠ 17) (h : pm_tx t f) : pm_tx t (upd f k v) := by
  unfold pm_tx
  rw [pk_un (Ne.symm hk.1), pk_un (Ne.symm hk.2.1), pk_un (Ne.symm hk.2.2)]
  exact h
theorem pm_tx_17 {t : Nat} {f : Nat → Int32} {v : Int32} (h : pm_tx t f) (hv : v = 0 ∨ v = 1) : pm_tx t (upd f 17 v) := by
  unfold pm_tx
  rw [pk_un (by decide), pk_un (by decide), pk_us]
  exact ⟨h.1, h.2.1, h.2.2.1, hv⟩
theorem pm_tx_16 {t b : Nat} {f : Nat → Int32} (h : pm_tx t f) (ht : t ≤ 60) (hb : b ≤ t) : pm_tx t (upd f 16 (nI b)) := by
  unfold pm_tx
  rw [pk_us, pm_n_nI (by omega), pk_un (by decide), pk_un (by decide)]
  exact ⟨rfl, hb, h.2.2.1, h.2.2.2⟩
theorem pm_fz {x : Int32} (h : x = 0 ∨ x = 1) : fits .boolean (.int x) = true := by
  rcases h with rfl | rfl <;> rfl
/-- the signs of a text -/
abbrev pm_sb (bs : List Nat) : Prop := bs.all (fun b => decide (b < 128)) = true ∧ bs.length < 60
theorem pm_sb_at {bs : List Nat} (h : pm_sb bs) (i : Nat) : bs.getD i 0 < 256 := by
  rw [List.getD_eq_getElem?_getD]
  cases hi : bs[i]? with
  | none => simp
  | some b =>
    have := List.all_eq_true.mp h.1 b (List.mem_of_getElem? hi)
    simp at this ⊢
    omega
def d_X13_feed (x : Int32) (t : Nat) (f : Nat → Int32) (gt : Nat → Int32) : (Int32 × (Nat → Int32) × (Nat → Int32)) := if (nI t) = 60 then (0, (upd f 6 1), gt) else ((nI (t + 1)), (upd (upd f 6 0) 15 (nI (t + 1))), (upd gt t (vp_nar .char x)))
def d_X13_behind (w : Nat) (t : Nat) (f : Nat → Int32) (gt : Nat → Int32) : Int32 := if (nI t) ≤ ((nI (pm_n (f 16))) + (nI w)) then (-1) else (gt ((pm_n (f 16)) + w))
theorem d_X13_behind_lt {w t : Nat} {f gt : Nat → Int32} {c : Nat} (htx : pm_tx t f) (ht : t ≤ 60) (hw : w ≤ 2) (hc : c < 2 ^ 31) (h : d_X13_behind w t f gt = nI c) : pm_n (f 16) + w < t := by
  have htl := htx.2.1
  unfold d_X13_behind at h
  split at h
  · exact absurd h (fun e => absurd (show nI c < 0 from e ▸ by decide) (nI_pos hc))
  · rename_i h2
    rw [nI_add, nI_leI (by omega) (by omega)] at h2
    omega
def d_X13_isDigit (t : Nat) (f : Nat → Int32) (gt : Nat → Int32) : Int32 := if (f 17) = 0 then (if (pm_in (d_X13_behind 0 t f gt) 48 57) = 0 then 0 else 1) else 0
theorem d_X13_isDigit_lt {t : Nat} {f gt : Nat → Int32} (htx : pm_tx t f) (ht : t ≤ 60) (h : ¬ d_X13_isDigit t f gt = 0) : pm_n (f 16) < t := by
  have htl := htx.2.1
  apply Decidable.byContradiction
  intro hn
  apply h
  unfold d_X13_isDigit
  have hb : d_X13_behind 0 t f gt = -1 := by
    unfold d_X13_behind
    rw [if_pos (by rw [nI_add, nI_leI (by omega) (by omega)]; omega)]
  split
  · rw [hb, if_pos (by decide)]
  · rfl
def d_X13_readsNumber_L1 (t : Nat) (gt : Nat → Int32) : Nat → Nat → Int32 → (Nat → Int32) → (Int32 × (Nat → Int32))
  | 0, _, a2_1, f_1 => (a2_1, f_1)
  | k1 + 1, j1, a2_1, f_1 => if (d_X13_isDigit t f_1 gt) = 0 then (a2_1, f_1) else (d_X13_readsNumber_L1 t gt k1 (j1 + 1) (((10 * a2_1) + (gt (pm_n (f_1 16)))) - 48) (upd f_1 16 (nI ((pm_n (f_1 16)) + 1))))
def d_X13_readsNumber (w : Nat) (t : Nat) (f : Nat → Int32) (gt : Nat → Int32) : (Int32 × (Nat → Int32)) := (((d_X13_readsNumber_L1 t gt w 0 0 (upd f 17 ((if (f 17) = 0 then (if (d_X13_isDigit t f gt) = 0 then 1 else 0) else 1) : Int32))).1), ((d_X13_readsNumber_L1 t gt w 0 0 (upd f 17 ((if (f 17) = 0 then (if (d_X13_isDigit t f gt) = 0 then 1 else 0) else 1) : Int32))).2))
def d_X13_skip_L1 (bs : List Nat) (t : Nat) (gt : Nat → Int32) : Nat → Nat → (Nat → Int32) → (Nat → Int32)
  | 0, _, f_1 => f_1
  | k1 + 1, j1, f_1 => if (f_1 17) = 0 then (if (d_X13_behind 0 t f_1 gt) = (nI ((bs).getD j1 0)) then (d_X13_skip_L1 bs t gt k1 (j1 + 1) (upd (upd f_1 17 0) 16 (nI ((pm_n (f_1 16)) + 1)))) else (d_X13_skip_L1 bs t gt k1 (j1 + 1) (upd (upd f_1 17 1) 16 (nI ((pm_n (f_1 16)) + 0))))) else f_1
def d_X13_skip (bs : List Nat) (t : Nat) (f : Nat → Int32) (gt : Nat → Int32) : (Nat → Int32) := (d_X13_skip_L1 bs t gt bs.length 0 f)
theorem d_X13_readsNumber_tx (w t : Nat) (f gt : Nat → Int32) (ht : t ≤ 60) (htx : pm_tx t f) : pm_tx t (d_X13_readsNumber w t f gt).2 := by
  have h : ∀ (k j : Nat) (a : Int32) (f : Nat → Int32), pm_tx t f → pm_tx t (d_X13_readsNumber_L1 t gt k j a f).2 := by
    intro k
    induction k with
    | zero => intro j a f h; exact h
    | succ k ih =>
      intro j a f h
      simp only [d_X13_readsNumber_L1]
      split
      · exact h
      · rename_i h2
        have h3 := d_X13_isDigit_lt h ht h2
        exact ih _ _ _ (pm_tx_16 h ht (by omega))
  unfold d_X13_readsNumber
  exact h _ _ _ _ (pm_tx_17 htx (by (repeat' split) <;> first | exact Or.inl rfl | exact Or.inr rfl))
theorem d_X13_skip_tx (bs : List Nat) (t : Nat) (f gt : Nat → Int32) (ht : t ≤ 60) (htx : pm_tx t f) (hsb : pm_sb bs) : pm_tx t (d_X13_skip bs t f gt) := by
  have h : ∀ (k j : Nat) (f : Nat → Int32), pm_tx t f → pm_tx t (d_X13_skip_L1 bs t gt k j f) := by
    intro k
    induction k with
    | zero => intro j f h; exact h
    | succ k ih =>
      intro j f h
      simp only [d_X13_skip_L1]
      have h9 := h.2.1
      (repeat' split)
      · rename_i h2 h3
        have h4 := d_X13_behind_lt h ht (by decide) (by have := pm_sb_at hsb j; omega) h3
        exact ih _ _ (pm_tx_16 (pm_tx_17 h (Or.inl rfl)) ht (by omega))
      · exact ih _ _ (pm_tx_16 (pm_tx_17 h (Or.inr rfl)) ht (by omega))
      · exact h
  exact h _ _ _ htx
theorem d_X13_readsNumber_fr (w t : Nat) (f gt : Nat → Int32) {q : Nat} (h6 : q ≠ 16) (h7 : q ≠ 17) : (d_X13_readsNumber w t f gt).2 q = f q := by
  have h : ∀ (k j : Nat) (a : Int32) (f : Nat → Int32), (d_X13_readsNumber_L1 t gt k j a f).2 q = f q := by
    intro k
    induction k with
    | zero => intro j a f; rfl
    | succ k ih =>
      intro j a f
      simp only [d_X13_readsNumber_L1]
      split
      · rfl
      · rw [ih, pk_un h6]
  unfold d_X13_readsNumber
  rw [h, pk_un h7]
theorem d_X13_skip_fr (bs : List Nat) (t : Nat) (f gt : Nat → Int32) {q : Nat} (h6 : q ≠ 16) (h7 : q ≠ 17) : d_X13_skip bs t f gt q = f q := by
  have h : ∀ (k j : Nat) (f : Nat → Int32), d_X13_skip_L1 bs t gt k j f q = f q := by
    intro k
    induction k with
    | zero => intro j f; rfl
    | succ k ih =>
      intro j f
      simp only [d_X13_skip_L1]
      (repeat' split)
      · rw [ih, pk_un h6, pk_un h7]
      · rw [ih, pk_un h6, pk_un h7]
      · rfl
  exact h _ _ _
def d_X13_reads (x : Int32) (w1 : Nat) (w2 : Nat) (bs1 : List Nat) (bs2 : List Nat) (cm : Nat) (t : Nat) (f : Nat → Int32) (gt : Nat → Int32) (gc : Nat → Int32) : ((Nat → Int32) × (Nat → Int32)) := if (nI w1) ≤ 0 then (if (nI w2) ≤ 0 then ((d_X13_skip bs2 t (d_X13_skip bs1 t (upd f 20 (nI (cm + 1))) gt) gt), (upd (upd (upd gc (3 * cm) x) ((3 * cm) + 1) 0) ((3 * cm) + 2) 0)) else (((d_X13_readsNumber w2 t (d_X13_skip bs2 t (d_X13_skip bs1 t (upd f 20 (nI (cm + 1))) gt) gt) gt).2), (upd (upd (upd gc (3 * cm) x) ((3 * cm) + 1) 0) ((3 * cm) + 2) ((d_X13_readsNumber w2 t (d_X13_skip bs2 t (d_X13_skip bs1 t (upd f 20 (nI (cm + 1))) gt) gt) gt).1)))) else (if (nI w2) ≤ 0 then ((d_X13_skip bs2 t ((d_X13_readsNumber w1 t (d_X13_skip bs1 t (upd f 20 (nI (cm + 1))) gt) gt).2) gt), (upd (upd (upd gc (3 * cm) x) ((3 * cm) + 1) ((d_X13_readsNumber w1 t (d_X13_skip bs1 t (upd f 20 (nI (cm + 1))) gt) gt).1)) ((3 * cm) + 2) 0)) else (((d_X13_readsNumber w2 t (d_X13_skip bs2 t ((d_X13_readsNumber w1 t (d_X13_skip bs1 t (upd f 20 (nI (cm + 1))) gt) gt).2) gt) gt).2), (upd (upd (upd gc (3 * cm) x) ((3 * cm) + 1) ((d_X13_readsNumber w1 t (d_X13_skip bs1 t (upd f 20 (nI (cm + 1))) gt) gt).1)) ((3 * cm) + 2) ((d_X13_readsNumber w2 t (d_X13_skip bs2 t ((d_X13_readsNumber w1 t (d_X13_skip bs1 t (upd f 20 (nI (cm + 1))) gt) gt).2) gt) gt).1))))
theorem d_X13_reads_tx (x : Int32) (w1 w2 : Nat) (bs1 bs2 : List Nat) (cm t : Nat) (f gt gc : Nat → Int32) (ht : t ≤ 60) (htx : pm_tx t f) (hs1 : pm_sb bs1) (hs2 : pm_sb bs2) : pm_tx t (d_X13_reads x w1 w2 bs1 bs2 cm t f gt gc).1 := by
  have h0 := d_X13_skip_tx bs1 t _ gt ht (pm_tx_o (k := 20) (v := nI (cm + 1)) (by decide) htx) hs1
  unfold d_X13_reads
  (repeat' split)
  · exact d_X13_skip_tx _ _ _ _ ht h0 hs2
  · exact d_X13_readsNumber_tx _ _ _ _ ht (d_X13_skip_tx _ _ _ _ ht h0 hs2)
  · exact d_X13_skip_tx _ _ _ _ ht (d_X13_readsNumber_tx _ _ _ _ ht h0) hs2
  · exact d_X13_readsNumber_tx _ _ _ _ ht (d_X13_skip_tx _ _ _ _ ht (d_X13_readsNumber_tx _ _ _ _ ht h0) hs2)
theorem d_X13_reads_fr (x : Int32) (w1 w2 : Nat) (bs1 bs2 : List Nat) (cm t : Nat) (f gt gc : Nat → Int32) {q : Nat} (h6 : q ≠ 16) (h7 : q ≠ 17) : (d_X13_reads x w1 w2 bs1 bs2 cm t f gt gc).1 q = upd f 20 (nI (cm + 1)) q := by
  unfold d_X13_reads
  (repeat' split) <;> simp only [d_X13_skip_fr _ _ _ _ h6 h7, d_X13_readsNumber_fr _ _ _ _ h6 h7]
def d_X13_kind (t : Nat) (f : Nat → Int32) (gt : Nat → Int32) : Int32 := if (d_X13_behind 0 t f gt) = 97 then (if (d_X13_behind 1 t f gt) = 117 then 117 else 97) else (if (d_X13_behind 0 t f gt) = 99 then (if (d_X13_behind 1 t f gt) = 117 then 116 else 99) else (if (d_X13_behind 0 t f gt) = 108 then (if (d_X13_behind 1 t f gt) = 105 then (if (d_X13_behind 2 t f gt) = 109 then 109 else 108) else 108) else (if (d_X13_behind 0 t f gt) = 112 then 112 else (if (d_X13_behind 0 t f gt) = 114 then 114 else (if (d_X13_behind 0 t f gt) = 115 then (if (d_X13_behind 1 t f gt) = 101 then (if (d_X13_behind 2 t f gt) = 101 then 100 else 115) else 115) else 106)))))
def d_X13_readsCommand (cm : Nat) (t : Nat) (f : Nat → Int32) (gt : Nat → Int32) (gc : Nat → Int32) : ((Nat → Int32) × (Nat → Int32)) := if (f 17) = 0 then (if (d_X13_kind t f gt) = 97 then (((d_X13_reads (d_X13_kind t f gt) 4 0 ([97, 115, 115, 105, 103, 110, 32]) ([]) cm t f gt gc).1), ((d_X13_reads (d_X13_kind t f gt) 4 0 ([97, 115, 115, 105, 103, 110, 32]) ([]) cm t f gt gc).2)) else (if (d_X13_kind t f gt) = 99 then (((d_X13_reads (d_X13_kind t f gt) 0 0 ([99, 108, 111, 115, 101]) ([]) cm t f gt gc).1), ((d_X13_reads (d_X13_kind t f gt) 0 0 ([99, 108, 111, 115, 101]) ([]) cm t f gt gc).2)) else (if (d_X13_kind t f gt) = 100 then (((d_X13_reads (d_X13_kind t f gt) 4 0 ([115, 101, 101, 100, 32]) ([]) cm t f gt gc).1), ((d_X13_reads (d_X13_kind t f gt) 4 0 ([115, 101, 101, 100, 32]) ([]) cm t f gt gc).2)) else (if (d_X13_kind t f gt) = 108 then (((d_X13_reads (d_X13_kind t f gt) 1 1 ([108, 105, 110, 107, 32]) ([45]) cm t f gt gc).1), ((d_X13_reads (d_X13_kind t f gt) 1 1 ([108, 105, 110, 107, 32]) ([45]) cm t f gt gc).2)) else (if (d_X13_kind t f gt) = 109 then (((d_X13_reads (d_X13_kind t f gt) 2 0 ([108, 105, 109, 105, 116, 32]) ([]) cm t f gt gc).1), ((d_X13_reads (d_X13_kind t f gt) 2 0 ([108, 105, 109, 105, 116, 32]) ([]) cm t f gt gc).2)) else (if (d_X13_kind t f gt) = 112 then (((d_X13_reads (d_X13_kind t f gt) 1 0 ([112, 97, 114, 100, 111, 110, 32]) ([]) cm t f gt gc).1), ((d_X13_reads (d_X13_kind t f gt) 1 0 ([112, 97, 114, 100, 111, 110, 32]) ([]) cm t f gt gc).2)) else (if (d_X13_kind t f gt) = 114 then (((d_X13_reads (d_X13_kind t f gt) 1 0 ([114, 117, 108, 101, 32]) ([]) cm t f gt gc).1), ((d_X13_reads (d_X13_kind t f gt) 1 0 ([114, 117, 108, 101, 32]) ([]) cm t f gt gc).2)) else (if (d_X13_kind t f gt) = 115 then (((d_X13_reads (d_X13_kind t f gt) 1 2 ([115, 101, 108, 108, 32]) ([32]) cm t f gt gc).1), ((d_X13_reads (d_X13_kind t f gt) 1 2 ([115, 101, 108, 108, 32]) ([32]) cm t f gt gc).2)) else (if (d_X13_kind t f gt) = 116 then (((d_X13_reads (d_X13_kind t f gt) 1 1 ([99, 117, 116, 32]) ([45]) cm t f gt gc).1), ((d_X13_reads (d_X13_kind t f gt) 1 1 ([99, 117, 116, 32]) ([45]) cm t f gt gc).2)) else (if (d_X13_kind t f gt) = 117 then (((d_X13_reads (d_X13_kind t f gt) 1 0 ([97, 117, 100, 105, 116, 32]) ([]) cm t f gt gc).1), ((d_X13_reads (d_X13_kind t f gt) 1 0 ([97, 117, 100, 105, 116, 32]) ([]) cm t f gt gc).2)) else (((d_X13_reads (d_X13_kind t f gt) 2 2 ([106, 111, 105, 110, 32]) ([32]) cm t f gt gc).1), ((d_X13_reads (d_X13_kind t f gt) 2 2 ([106, 111, 105, 110, 32]) ([32]) cm t f gt gc).2)))))))))))) else (f, gc)
theorem pm_ch {w : Nat} (h : w < 65536) : ((nI w).toUInt32 % 65536).toInt32 = nI w := by
  rw [pk_char, pk_tn (by omega), Nat.mod_eq_of_lt h]
theorem pm_vc {w : Nat} (h : w < 65536) : vp_nar .char (nI w) = nI w := by
  rw [← pm_ch h]; exact pk_vc _
def d_X13_says (w : Nat) (q : Nat) (f : Nat → Int32) (gl : Nat → Int32) : ((Nat → Int32) × (Nat → Int32)) := ((upd f 22 (nI (q + 1))), (upd gl q (vp_nar .char (nI w))))
theorem d_X13_says_22 (w q : Nat) (f gl : Nat → Int32) : (d_X13_says w q f gl).1 22 = nI (q + 1) := rfl
/-- how many digits -/
def pm_nd (w : Nat) : Nat := if w ≤ 9 then 1 else if w ≤ 99 then 2 else 3
theorem pm_nd1 {w : Nat} (h : w < 10) : pm_nd w = 1 := if_pos (by omega)
theorem pm_nd2 {w : Nat} (h : w < 100) : pm_nd w ≤ 2 := by unfold pm_nd; (repeat' split) <;> omega
theorem pm_nd3 (w : Nat) : pm_nd w ≤ 3 := by unfold pm_nd; (repeat' split) <;> omega
theorem pm_ndS {w : Nat} (h : 9 < w) (h2 : w < 1000) : pm_nd w = pm_nd (w / 10) + 1 := by unfold pm_nd; (repeat' split) <;> omega
def d_X13_saysN1 (w : Nat) (q : Nat) (f : Nat → Int32) (gl : Nat → Int32) : ((Nat → Int32) × (Nat → Int32)) := (((d_X13_says (48 + w % 10) q f gl).1), ((d_X13_says (48 + w % 10) q f gl).2))
theorem d_X13_saysN1_22 (w q : Nat) (f gl : Nat → Int32) (hw : w < 10) : (d_X13_saysN1 w q f gl).1 22 = nI (q + pm_nd w) := by
  unfold d_X13_saysN1
  rw [pm_nd1 hw]
  rfl
def d_X13_saysN2 (w : Nat) (q : Nat) (f : Nat → Int32) (gl : Nat → Int32) : ((Nat → Int32) × (Nat → Int32)) := if (nI w) ≤ 9 then (((d_X13_says (48 + w % 10) q f gl).1), ((d_X13_says (48 + w % 10) q f gl).2)) else (((d_X13_says (48 + w % 10) (q + pm_nd (w / 10)) ((d_X13_saysN1 (w / 10) q f gl).1) ((d_X13_saysN1 (w / 10) q f gl).2)).1), ((d_X13_says (48 + w % 10) (q + pm_nd (w / 10)) ((d_X13_saysN1 (w / 10) q f gl).1) ((d_X13_saysN1 (w / 10) q f gl).2)).2))
theorem d_X13_saysN2_22 (w q : Nat) (f gl : Nat → Int32) (hw : w < 100) : (d_X13_saysN2 w q f gl).1 22 = nI (q + pm_nd w) := by
  unfold d_X13_saysN2
  rw [show (9 : Int32) = nI 9 from rfl]
  split
  · rename_i h; rw [nI_leI (by omega) (by decide)] at h; rw [d_X13_says_22, pm_nd1 (by omega)]
  · rename_i h; rw [nI_leI (by omega) (by decide)] at h; rw [d_X13_says_22, pm_ndS (w := w) (by omega) (by omega), Nat.add_assoc]
def d_X13_saysN3 (w : Nat) (q : Nat) (f : Nat → Int32) (gl : Nat → Int32) : ((Nat → Int32) × (Nat → Int32)) := if (nI w) ≤ 9 then (((d_X13_says (48 + w % 10) q f gl).1), ((d_X13_says (48 + w % 10) q f gl).2)) else (((d_X13_says (48 + w % 10) (q + pm_nd (w / 10)) ((d_X13_saysN2 (w / 10) q f gl).1) ((d_X13_saysN2 (w / 10) q f gl).2)).1), ((d_X13_says (48 + w % 10) (q + pm_nd (w / 10)) ((d_X13_saysN2 (w / 10) q f gl).1) ((d_X13_saysN2 (w / 10) q f gl).2)).2))
theorem d_X13_saysN3_22 (w q : Nat) (f gl : Nat → Int32) (hw : w < 1000) : (d_X13_saysN3 w q f gl).1 22 = nI (q + pm_nd w) := by
  unfold d_X13_saysN3
  rw [show (9 : Int32) = nI 9 from rfl]
  split
  · rename_i h; rw [nI_leI (by omega) (by decide)] at h; rw [d_X13_says_22, pm_nd1 (by omega)]
  · rename_i h; rw [nI_leI (by omega) (by decide)] at h; rw [d_X13_says_22, pm_ndS (w := w) (by omega) (by omega), Nat.add_assoc]
/-- a member's numbers are in their ranges -/
def pm_mw (g : Nat → Int32) (i : Nat) : Prop :=
  (g (7 + 5 * i + 0) = nI (pm_n (g (7 + 5 * i + 0))) ∧ 1 ≤ pm_n (g (7 + 5 * i + 0)) ∧ pm_n (g (7 + 5 * i + 0)) ≤ 99) ∧
  (g (7 + 5 * i + 1) = nI (pm_n (g (7 + 5 * i + 1))) ∧ 1 ≤ pm_n (g (7 + 5 * i + 1)) ∧ pm_n (g (7 + 5 * i + 1)) ≤ 20) ∧
  (g (7 + 5 * i + 2) = nI (pm_n (g (7 + 5 * i + 2))) ∧ pm_n (g (7 + 5 * i + 2)) ≤ 300) ∧
  (g (7 + 5 * i + 3) = nI (pm_n (g (7 + 5 * i + 3))) ∧ pm_n (g (7 + 5 * i + 3)) ≤ pm_n (g (7 + 5 * i + 0))) ∧
  (g (7 + 5 * i + 4) = 0 ∨ g (7 + 5 * i + 4) = 1 ∨ g (7 + 5 * i + 4) = 2 ∨ g (7 + 5 * i + 4) = -1 ∨ g (7 + 5 * i + 4) = -2)
theorem pm_mwA {g : Nat → Int32} {i : Nat} (h : pm_mw g i) : pm_abs (g (7 + 5 * i + 4)) = nI (pm_n (pm_abs (g (7 + 5 * i + 4)))) ∧ pm_n (pm_abs (g (7 + 5 * i + 4))) ≤ 2 := by
  rcases h.2.2.2.2 with h | h | h | h | h <;> rw [h] <;> decide
def d_X13_writeMember_L1 (x : Int32) (g : Nat → Int32) : Nat → Nat → (Nat → Int32) → (Nat → Int32) → ((Nat → Int32) × (Nat → Int32))
  | 0, _, f_1, gl_1 => (f_1, gl_1)
  | k1 + 1, j1, f_1, gl_1 => if (pm_ib g (pm_n x)) = 0 then (d_X13_writeMember_L1 x g k1 (j1 + 1) ((d_X13_says 33 (pm_n (f_1 22)) f_1 gl_1).1) ((d_X13_says 33 (pm_n (f_1 22)) f_1 gl_1).2)) else (d_X13_writeMember_L1 x g k1 (j1 + 1) ((d_X13_says 120 (pm_n (f_1 22)) f_1 gl_1).1) ((d_X13_says 120 (pm_n (f_1 22)) f_1 gl_1).2))
theorem pm_in_nq {x : Int32} {n : Nat} (hn : n ≤ 30) (h : ¬ pm_in x 0 (nI n - 1) = 0) : x = nI (pm_n x) ∧ pm_n x < n := by
  unfold pm_in at h
  split at h
  · exact absurd rfl h
  · split at h
    · exact absurd rfl h
    · rename_i h1 h2
      obtain ⟨j, hj, rfl⟩ := nI_of h1
      rw [pm_n_nI hj]
      refine ⟨rfl, ?_⟩
      cases n with
      | zero => exact absurd (show nI 0 - 1 < nI j by
          rw [Int32.lt_iff_toInt_lt, nI_toInt hj]
          have : (nI 0 - 1 : Int32).toInt = -1 := by decide
          omega) h2
      | succ n =>
        rw [nI_pred] at h2
        have h3 := (nI_leI (a := j) (b := n) hj (by omega)).mp (Int32.not_lt.mp h2)
        omega
def d_X13_lineCharacter (x : Int32) (q : Nat) (f : Nat → Int32) (gl : Nat → Int32) : (Int32 × (Nat → Int32)) := if (pm_in x 0 ((nI q) - 1)) = 0 then (32, (upd f 6 (pm_th (pm_in x 0 ((nI q) - 1))))) else ((gl (pm_n x)), (upd f 6 (pm_th (pm_in x 0 ((nI q) - 1)))))
