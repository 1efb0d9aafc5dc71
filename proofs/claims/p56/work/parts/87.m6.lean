def w_L_members_1 (n : Nat) (r : (Nat → Int32)) (x0 : Int32) (x1 : Int32) : Nat → (Int32 × Int32)
  | 0 => (x0, x1)
  | j1 + 1 => (((w_L_members_1 n r x0 x1 j1).1 + (r (7 + 6 * j1 + 3))), ((w_L_members_1 n r x0 x1 j1).2 ||| (1 <<< ((pw_dr n r j1) &&& 31))))
theorem pw_fit {B n j1 : Nat} {r : Nat → Int32} (hI : pm_I B n r) (hj : j1 < n) : ((if ((if (pw_st r j1) = 119 then 1 else 0) : Int32) = ((if (pw_wa r j1) ≤ 0 then 0 else 1) : Int32) then (if ((if (pw_st r j1) = 98 then 1 else 0) : Int32) = ((if (pw_ba r j1) ≤ 0 then 0 else 1) : Int32) then (if 2 < (pw_wa r j1) then 0 else (if 2 < (pw_ba r j1) then 0 else (if (pw_st r j1) = 119 then (if (pw_st r j1) = 98 then 1 else (if (pw_ba r j1) = (-13) then 1 else 0)) else (if (pw_wa r j1) = (-13) then (if (pw_st r j1) = 98 then 1 else (if (pw_ba r j1) = (-13) then (if (pw_st r j1) = 108 then 1 else 0) else 0)) else 0)))) else 0) else 0) : Int32) = 1 := by
  have h := (hI.2.1 j1 hj).2.2.2.2
  rcases h with ⟨h4, h5⟩ | ⟨h4, h5⟩ | ⟨h4, h5⟩ | ⟨h4, h5⟩ | ⟨h4, h5⟩ <;> (unfold pw_st pw_wa pw_ba; rw [h4, h5]; decide)
theorem pw_mb2 {B n j1 : Nat} {r : Nat → Int32} (hI : pm_I B n r) (hj : j1 < n) : ¬ (r (7 + 6 * j1 + 0)) < (r (7 + 6 * j1 + 3)) := by
  obtain ⟨⟨a1, a2, a3⟩, -, -, ⟨d1, d2⟩, -⟩ := hI.2.1 j1 hj
  rw [a1, d1]
  exact fun h => by
    have := (nI_ltI (by omega) (by omega)).mp h
    omega
theorem pw_mb3 {B n j1 : Nat} {r : Nat → Int32} (hI : pm_I B n r) (hj : j1 < n) : ¬ (r (7 + 6 * j1 + 2)) < 0 := by
  obtain ⟨-, -, ⟨c1, c2⟩, -, -⟩ := hI.2.1 j1 hj
  rw [c1]
  exact nI_pos (by omega)
theorem pw_ord {B n j1 : Nat} {r : Nat → Int32} (hI : pm_I B n r) (hj : j1 < n) (h1 : 0 < j1) : pm_ax (pm_rv r) (pm_rz r) (pw_bx n r (j1 - 1)) (pw_bx n r j1) := by
  have h7 := hI.1.2.1
  obtain ⟨-, a2, a3⟩ := pw_bxE (to := fun _ => 0) hI.2.1 h7 (show j1 - 1 < n by omega)
  obtain ⟨-, b2, b3⟩ := pw_bxE (to := fun _ => 0) hI.2.1 h7 hj
  by_cases hx : pm_ax (pm_rv r) (pm_rz r) (pw_bx n r (j1 - 1)) (pw_bx n r j1)
  · exact hx
  · exfalso
    have hne : pw_bx n r (j1 - 1) ≠ pw_bx n r j1 := fun e => by rw [e] at a3; omega
    have hy : pm_ax (pm_rv r) (pm_rz r) (pw_bx n r j1) (pw_bx n r (j1 - 1)) := by
      unfold pm_ax at hx ⊢
      omega
    have := pm_rkI (v := pm_rv r) (s := pm_rz r) b2 a2 hy
    omega
theorem pw_mb4 {B n j1 : Nat} {r : Nat → Int32} (hI : pm_I B n r) (hj : j1 < n) (h1 : 0 < j1) : ¬ ((if ((pw_xs r (pw_bx n r (j1 - 1))) - (pw_xs r (pw_bx n r j1))) = 0 then ((r (7 + 6 * (pw_bx n r (j1 - 1)) + 3)) - (r (7 + 6 * (pw_bx n r j1) + 3))) else ((pw_xs r (pw_bx n r (j1 - 1))) - (pw_xs r (pw_bx n r j1)))) : Int32) < 0 := by
  have h7 := hI.1.2.1
  have ho := pw_ord hI hj h1
  obtain ⟨-, a2, -⟩ := pw_bxE (to := fun _ => 0) hI.2.1 h7 (show j1 - 1 < n by omega)
  obtain ⟨-, b2, -⟩ := pw_bxE (to := fun _ => 0) hI.2.1 h7 hj
  obtain ⟨p1, p2, p3, p4⟩ := pw_rvE hI a2
  obtain ⟨q1, q2, q3, q4⟩ := pw_rvE hI b2
  rw [p1, q1, p3, q3]
  have hd : ∀ a b : Nat, a ≤ 99 → b ≤ 99 → b ≤ a → ¬ (nI a - nI b : Int32) < 0 := fun a b ha hb hab => by rw [pq_sub hab]; exact nI_pos (by omega)
  have he : ∀ a b : Nat, a ≤ 99 → b ≤ 99 → ((nI a - nI b : Int32) = 0 ↔ a = b) := fun a b ha hb => (pm_sgn ha hb).2
  unfold pm_ax at ho
  by_cases e : (nI (pm_rv r (pw_bx n r (j1 - 1))) - nI (pm_rv r (pw_bx n r j1)) : Int32) = 0
  · rw [if_pos e]
    have e' := (he _ _ p2 q2).mp e
    exact hd _ _ p4 q4 (by omega)
  · rw [if_neg e]
    have e' := fun h => e ((he _ _ p2 q2).mpr h)
    exact hd _ _ p2 q2 (by omega)
theorem pw_mb5 {B n j1 : Nat} {r : Nat → Int32} (hI : pm_I B n r) (hj : j1 < n) (h1 : 0 < j1) (h : ((if ((pw_xs r (pw_bx n r (j1 - 1))) - (pw_xs r (pw_bx n r j1))) = 0 then ((r (7 + 6 * (pw_bx n r (j1 - 1)) + 3)) - (r (7 + 6 * (pw_bx n r j1) + 3))) else ((pw_xs r (pw_bx n r (j1 - 1))) - (pw_xs r (pw_bx n r j1)))) : Int32) = 0) : nI (pw_bx n r (j1 - 1)) ≤ nI (pw_bx n r j1) := by
  have h7 := hI.1.2.1
  have ho := pw_ord hI hj h1
  obtain ⟨-, a2, -⟩ := pw_bxE (to := fun _ => 0) hI.2.1 h7 (show j1 - 1 < n by omega)
  obtain ⟨-, b2, -⟩ := pw_bxE (to := fun _ => 0) hI.2.1 h7 hj
  obtain ⟨p1, p2, p3, p4⟩ := pw_rvE hI a2
  obtain ⟨q1, q2, q3, q4⟩ := pw_rvE hI b2
  rw [p1, q1, p3, q3] at h
  have he : ∀ a b : Nat, a ≤ 99 → b ≤ 99 → ((nI a - nI b : Int32) = 0 ↔ a = b) := fun a b ha hb => (pm_sgn ha hb).2
  refine (nI_leI (by omega) (by omega)).mpr ?_
  unfold pm_ax at ho
  by_cases e : (nI (pm_rv r (pw_bx n r (j1 - 1))) - nI (pm_rv r (pw_bx n r j1)) : Int32) = 0
  · rw [if_pos e] at h
    have e1 := (he _ _ p2 q2).mp e
    have e2 := (he _ _ p4 q4).mp h
    omega
  · rw [if_neg e] at h
    exact absurd h e
theorem pw_msL {r : Nat → Int32} : ∀ (k j n : Nat) (x1 : Int32), d_X12_meanSales_L1 r k j (w_L_members_1 n r 0 x1 j).1 = (w_L_members_1 n r 0 x1 (j + k)).1 := by
  intro k
  induction k with
  | zero => intro j n x1; rfl
  | succ k ih =>
    intro j n x1
    show d_X12_meanSales_L1 r k (j + 1) _ = _
    rw [show j + (k + 1) = (j + 1) + k by omega]
    exact ih (j + 1) n x1
theorem pw_cz {a : UInt64} {x : FP.Core.Datum} (h : fp_ok FP.Core.b64 x) (e : a = UInt64.ofNat (FP.Core.encode FP.Core.b64 x)) : Op.cmpValue (FP.dcmp a a) .l = 0 := by
  rw [e]
  show Op.cmpValue (FP.Core.order _ _) .l = 0
  rw [fp_ord (fp_nn64 h)]
  rfl
theorem pw_mb6 {B n : Nat} {r : Nat → Int32} (hI : pm_I B n r) (h0 : 0 < n) : (Op.cmpValue (FP.dcmp (FP.ddiv (FP.i2d (d_X12_meanSales_L1 r n 0 0)) (FP.i2d (nI n))) (FP.ddiv (FP.i2d ((w_L_members_1 n r 0 0 n).1)) (FP.i2d (nI n)))) .l) = 0 := by
  have e : d_X12_meanSales_L1 r n 0 0 = (w_L_members_1 n r 0 0 n).1 := by
    have h := pw_msL (r := r) n 0 n 0
    rw [Nat.zero_add] at h
    exact h
  rw [e]
  obtain ⟨x, hx, ex⟩ := fp_div64 (w_L_members_1 n r 0 0 n).1 (nI n) (nI_ne0 h0 (by have := hI.1.2.1; omega))
  exact pw_cz hx ex
theorem pw_mb7 {B n : Nat} {r : Nat → Int32} (hI : pm_I B n r) (h : ¬ r 5 + r 6 = 0) : (Op.cmpValue (FP.fcmp (FP.fdiv (FP.i2f (r 6)) (FP.i2f (r 5 + r 6))) (FP.fdiv (FP.i2f (r 6)) (FP.i2f (r 5 + r 6)))) .l) = 0 := by
  obtain ⟨x, hx, ex⟩ := fp_div32 (r 6) (r 5 + r 6) h
  rw [ex]
  show Op.cmpValue (FP.Core.order _ _) .l = 0
  rw [fp_ord (fp_nn32 hx)]
  rfl
theorem pw_dwS {n D : Nat} (h7 : n ≤ 7) (hn : 0 < n) : ∀ (k m : Nat), m < n → pm_drS n D k m → ∃ t, t < n ∧ d_X13_draws_L1 D n k (nI m) = nI t ∧ D / 2 ^ t % 2 = 0 := by
  intro k
  induction k with
  | zero =>
    intro m hm h
    have h : ¬ D / 2 ^ m % 2 = 1 := h
    exact ⟨m, hm, rfl, by omega⟩
  | succ k ih =>
    intro m hm h
    show ∃ t, t < n ∧ (if (nI (D / 2 ^ (pm_n (nI m)) % 2)) = 1 then (d_X13_draws_L1 D n k (nI ((pm_n (nI m) + 1) % n))) else nI m) = nI t ∧ D / 2 ^ t % 2 = 0
    rw [pm_n_nI (by omega)]
    by_cases hb : D / 2 ^ m % 2 = 1
    · rw [hb, if_pos (show nI 1 = (1 : Int32) from rfl)]
      exact ih _ (Nat.mod_lt _ hn) (h hb)
    · have hb0 : D / 2 ^ m % 2 = 0 := by omega
      rw [hb0, if_neg (by decide)]
      exact ⟨m, hm, rfl, hb0⟩
theorem pw_mb8 {B n : Nat} {r : Nat → Int32} (hI : pm_I B n r) (h0 : 0 < n) : (w_L_members_1 n r 0 0 n).2 = ((nI (2 ^ n)) - 1) := by
  have h7 := hI.1.2.1
  have hs := hI.1.2.2.2.1.2
  have ho : ∀ D, D < 128 → ∀ m, m < 7 → nI D ||| ((1 : Int32) <<< (nI m &&& 31)) = nI (D ||| 2 ^ m) := by decide +kernel
  have hpc : ∀ D, D < 128 → ∀ m, m < 7 → D / 2 ^ m % 2 = 0 → ∀ n, n < 8 → m < n → pm_pc (D ||| 2 ^ m) n = pm_pc D n + 1 := by decide +kernel
  have hlt : ∀ n, n < 8 → ∀ D, D < 128 → D < 2 ^ n → ∀ m, m < n → D ||| 2 ^ m < 2 ^ n := fun n _ D _ hD m hm => Nat.or_lt_two_pow hD (Nat.pow_lt_pow_right (by decide) hm)
  have hfull : ∀ n, n < 8 → ∀ D, D < 128 → D < 2 ^ n → pm_pc D n = n → D = 2 ^ n - 1 := by decide +kernel
  have p0 : ∀ n, n < 8 → pm_pc 0 n = 0 := by decide +kernel
  have h128 := pm_p7 h7
  have key : ∀ j, j ≤ n → (w_L_members_1 n r 0 0 j).2 = nI (pm_ds n (pm_n (r 2)) j).2 ∧ pm_pc (pm_ds n (pm_n (r 2)) j).2 n = j ∧ (pm_ds n (pm_n (r 2)) j).2 < 2 ^ n := by
    intro j
    induction j with
    | zero => intro _; exact ⟨rfl, p0 n (by omega), Nat.two_pow_pos n⟩
    | succ j ih =>
      intro hj
      obtain ⟨e1, e2, e3⟩ := ih (by omega)
      have hm0 : ((pm_ds n (pm_n (r 2)) j).1 * 109 + 89) % 1024 % n < n := Nat.mod_lt _ h0
      obtain ⟨t, t1, t2, t3⟩ := pw_dwS (D := (pm_ds n (pm_n (r 2)) j).2) h7 h0 n _ hm0 (pm_drSn (D := (pm_ds n (pm_n (r 2)) j).2) h7 (by omega) (by omega) hm0)
      have et : pm_dm n (pm_ds n (pm_n (r 2)) j).1 (pm_ds n (pm_n (r 2)) j).2 = t := by
        unfold pm_dm
        rw [t2]
        exact pm_n_nI (by omega)
      have ed : pw_dr n r j = nI t := by unfold pw_dr; rw [et]
      have es : (pm_ds n (pm_n (r 2)) (j + 1)).2 = (pm_ds n (pm_n (r 2)) j).2 ||| 2 ^ t := by rw [← et]; rfl
      rw [es]
      refine ⟨?_, ?_, hlt n (by omega) _ (by omega) e3 t t1⟩
      · show (w_L_members_1 n r 0 0 j).2 ||| ((1 : Int32) <<< ((pw_dr n r j) &&& 31)) = _
        rw [e1, ed, ho _ (by omega) t (by omega)]
      · rw [hpc _ (by omega) t (by omega) t3 n (by omega) t1, e2]
  obtain ⟨e1, e2, e3⟩ := key n (Nat.le_refl n)
  have hp := Nat.two_pow_pos n
  rw [e1, hfull n (by omega) _ (by omega) e3 e2]
  exact (pq_sub (a := 2 ^ n) (b := 1) hp).symm
/-! the law: members -/
theorem dL_members_0 : decode cL_members 0 = .ok (.aload_n 0, 1) := by decide +kernel
theorem dL_members_1 : decode cL_members 1 = .ok (.invokevirtual 177, 3) := by decide +kernel
theorem dL_members_4 : decode cL_members 4 = .ok (.istore_n 1, 1) := by decide +kernel
theorem dL_members_5 : decode cL_members 5 = .ok (.iconst 0, 1) := by decide +kernel
theorem dL_members_6 : decode cL_members 6 = .ok (.istore_n 2, 1) := by decide +kernel
theorem dL_members_7 : decode cL_members 7 = .ok (.iconst 0, 1) := by decide +kernel
theorem dL_members_8 : decode cL_members 8 = .ok (.istore_n 3, 1) := by decide +kernel
theorem dL_members_9 : decode cL_members 9 = .ok (.iconst 0, 1) := by decide +kernel
theorem dL_members_10 : decode cL_members 10 = .ok (.istore 4, 2) := by decide +kernel
theorem dL_members_12 : decode cL_members 12 = .ok (.iload 4, 2) := by decide +kernel
theorem dL_members_14 : decode cL_members 14 = .ok (.iload_n 1, 1) := by decide +kernel
theorem dL_members_15 : decode cL_members 15 = .ok (.if_icmp .ge 330, 3) := by decide +kernel
theorem dL_members_18 : decode cL_members 18 = .ok (.aload_n 0, 1) := by decide +kernel
theorem dL_members_19 : decode cL_members 19 = .ok (.iload 4, 2) := by decide +kernel
theorem dL_members_21 : decode cL_members 21 = .ok (.invokestatic 210, 3) := by decide +kernel
theorem dL_members_24 : decode cL_members 24 = .ok (.istore 5, 2) := by decide +kernel
theorem dL_members_26 : decode cL_members 26 = .ok (.aload_n 0, 1) := by decide +kernel
theorem dL_members_27 : decode cL_members 27 = .ok (.iload 4, 2) := by decide +kernel
theorem dL_members_29 : decode cL_members 29 = .ok (.invokestatic 212, 3) := by decide +kernel
theorem dL_members_32 : decode cL_members 32 = .ok (.istore 6, 2) := by decide +kernel
theorem dL_members_34 : decode cL_members 34 = .ok (.aload_n 0, 1) := by decide +kernel
theorem dL_members_35 : decode cL_members 35 = .ok (.iload 4, 2) := by decide +kernel
theorem dL_members_37 : decode cL_members 37 = .ok (.invokestatic 214, 3) := by decide +kernel
theorem dL_members_40 : decode cL_members 40 = .ok (.istore 7, 2) := by decide +kernel
theorem dL_members_42 : decode cL_members 42 = .ok (.iload 5, 2) := by decide +kernel
theorem dL_members_44 : decode cL_members 44 = .ok (.bipush 119, 2) := by decide +kernel
theorem dL_members_46 : decode cL_members 46 = .ok (.if_icmp .ne 7, 3) := by decide +kernel
theorem dL_members_49 : decode cL_members 49 = .ok (.iconst 1, 1) := by decide +kernel
theorem dL_members_50 : decode cL_members 50 = .ok (.goto 4, 3) := by decide +kernel
theorem dL_members_53 : decode cL_members 53 = .ok (.iconst 0, 1) := by decide +kernel
theorem dL_members_54 : decode cL_members 54 = .ok (.iload 6, 2) := by decide +kernel
theorem dL_members_56 : decode cL_members 56 = .ok (.ifCond .le 7, 3) := by decide +kernel
theorem dL_members_59 : decode cL_members 59 = .ok (.iconst 1, 1) := by decide +kernel
theorem dL_members_60 : decode cL_members 60 = .ok (.goto 4, 3) := by decide +kernel
theorem dL_members_63 : decode cL_members 63 = .ok (.iconst 0, 1) := by decide +kernel
theorem dL_members_64 : decode cL_members 64 = .ok (.if_icmp .ne 93, 3) := by decide +kernel
theorem dL_members_67 : decode cL_members 67 = .ok (.iload 5, 2) := by decide +kernel
theorem dL_members_69 : decode cL_members 69 = .ok (.bipush 98, 2) := by decide +kernel
theorem dL_members_71 : decode cL_members 71 = .ok (.if_icmp .ne 7, 3) := by decide +kernel
theorem dL_members_74 : decode cL_members 74 = .ok (.iconst 1, 1) := by decide +kernel
theorem dL_members_75 : decode cL_members 75 = .ok (.goto 4, 3) := by decide +kernel
theorem dL_members_78 : decode cL_members 78 = .ok (.iconst 0, 1) := by decide +kernel
theorem dL_members_79 : decode cL_members 79 = .ok (.iload 7, 2) := by decide +kernel
theorem dL_members_81 : decode cL_members 81 = .ok (.ifCond .le 7, 3) := by decide +kernel
theorem dL_members_84 : decode cL_members 84 = .ok (.iconst 1, 1) := by decide +kernel
theorem dL_members_85 : decode cL_members 85 = .ok (.goto 4, 3) := by decide +kernel
theorem dL_members_88 : decode cL_members 88 = .ok (.iconst 0, 1) := by decide +kernel
theorem dL_members_89 : decode cL_members 89 = .ok (.if_icmp .ne 68, 3) := by decide +kernel
theorem dL_members_92 : decode cL_members 92 = .ok (.iload 6, 2) := by decide +kernel
theorem dL_members_94 : decode cL_members 94 = .ok (.iconst 2, 1) := by decide +kernel
theorem dL_members_95 : decode cL_members 95 = .ok (.if_icmp .gt 62, 3) := by decide +kernel
theorem dL_members_98 : decode cL_members 98 = .ok (.iload 7, 2) := by decide +kernel
theorem dL_members_100 : decode cL_members 100 = .ok (.iconst 2, 1) := by decide +kernel
theorem dL_members_101 : decode cL_members 101 = .ok (.if_icmp .gt 56, 3) := by decide +kernel
theorem dL_members_104 : decode cL_members 104 = .ok (.iload 5, 2) := by decide +kernel
theorem dL_members_106 : decode cL_members 106 = .ok (.bipush 119, 2) := by decide +kernel
theorem dL_members_108 : decode cL_members 108 = .ok (.if_icmp .eq 10, 3) := by decide +kernel
theorem dL_members_111 : decode cL_members 111 = .ok (.iload 6, 2) := by decide +kernel
theorem dL_members_113 : decode cL_members 113 = .ok (.bipush (-13), 2) := by decide +kernel
theorem dL_members_115 : decode cL_members 115 = .ok (.if_icmp .ne 42, 3) := by decide +kernel
theorem dL_members_118 : decode cL_members 118 = .ok (.iload 5, 2) := by decide +kernel
theorem dL_members_120 : decode cL_members 120 = .ok (.bipush 98, 2) := by decide +kernel
theorem dL_members_122 : decode cL_members 122 = .ok (.if_icmp .eq 10, 3) := by decide +kernel
theorem dL_members_125 : decode cL_members 125 = .ok (.iload 7, 2) := by decide +kernel
theorem dL_members_127 : decode cL_members 127 = .ok (.bipush (-13), 2) := by decide +kernel
theorem dL_members_129 : decode cL_members 129 = .ok (.if_icmp .ne 28, 3) := by decide +kernel
theorem dL_members_132 : decode cL_members 132 = .ok (.iload 5, 2) := by decide +kernel
theorem dL_members_134 : decode cL_members 134 = .ok (.bipush 108, 2) := by decide +kernel
theorem dL_members_136 : decode cL_members 136 = .ok (.if_icmp .eq 17, 3) := by decide +kernel
theorem dL_members_139 : decode cL_members 139 = .ok (.iload 5, 2) := by decide +kernel
theorem dL_members_141 : decode cL_members 141 = .ok (.bipush 119, 2) := by decide +kernel
theorem dL_members_143 : decode cL_members 143 = .ok (.if_icmp .eq 10, 3) := by decide +kernel
theorem dL_members_146 : decode cL_members 146 = .ok (.iload 5, 2) := by decide +kernel
theorem dL_members_148 : decode cL_members 148 = .ok (.bipush 98, 2) := by decide +kernel
theorem dL_members_150 : decode cL_members 150 = .ok (.if_icmp .ne 7, 3) := by decide +kernel
theorem dL_members_153 : decode cL_members 153 = .ok (.iconst 1, 1) := by decide +kernel
theorem dL_members_154 : decode cL_members 154 = .ok (.goto 4, 3) := by decide +kernel
theorem dL_members_157 : decode cL_members 157 = .ok (.iconst 0, 1) := by decide +kernel
theorem dL_members_158 : decode cL_members 158 = .ok (.istore 8, 2) := by decide +kernel
theorem dL_members_160 : decode cL_members 160 = .ok (.iconst 0, 1) := by decide +kernel
theorem dL_members_161 : decode cL_members 161 = .ok (.aload_n 0, 1) := by decide +kernel
theorem dL_members_162 : decode cL_members 162 = .ok (.iload 4, 2) := by decide +kernel
theorem dL_members_164 : decode cL_members 164 = .ok (.invokestatic 217, 3) := by decide +kernel
theorem dL_members_167 : decode cL_members 167 = .ok (.aload_n 0, 1) := by decide +kernel
theorem dL_members_168 : decode cL_members 168 = .ok (.iload 4, 2) := by decide +kernel
theorem dL_members_170 : decode cL_members 170 = .ok (.invokestatic 219, 3) := by decide +kernel
theorem dL_members_173 : decode cL_members 173 = .ok (.isub, 1) := by decide +kernel
theorem dL_members_174 : decode cL_members 174 = .ok (.invokestatic 221, 3) := by decide +kernel
theorem dL_members_177 : decode cL_members 177 = .ok (.istore 9, 2) := by decide +kernel
theorem dL_members_179 : decode cL_members 179 = .ok (.iload_n 2, 1) := by decide +kernel
theorem dL_members_180 : decode cL_members 180 = .ok (.aload_n 0, 1) := by decide +kernel
theorem dL_members_181 : decode cL_members 181 = .ok (.iload 4, 2) := by decide +kernel
theorem dL_members_183 : decode cL_members 183 = .ok (.invokestatic 217, 3) := by decide +kernel
theorem dL_members_186 : decode cL_members 186 = .ok (.iadd, 1) := by decide +kernel
theorem dL_members_187 : decode cL_members 187 = .ok (.istore_n 2, 1) := by decide +kernel
theorem dL_members_188 : decode cL_members 188 = .ok (.aload_n 0, 1) := by decide +kernel
theorem dL_members_189 : decode cL_members 189 = .ok (.iload 4, 2) := by decide +kernel
theorem dL_members_191 : decode cL_members 191 = .ok (.invokestatic 226, 3) := by decide +kernel
theorem dL_members_194 : decode cL_members 194 = .ok (.istore 10, 2) := by decide +kernel
theorem dL_members_196 : decode cL_members 196 = .ok (.iload 4, 2) := by decide +kernel
theorem dL_members_198 : decode cL_members 198 = .ok (.ifCond .ne 7, 3) := by decide +kernel
theorem dL_members_201 : decode cL_members 201 = .ok (.iconst (-1), 1) := by decide +kernel
theorem dL_members_202 : decode cL_members 202 = .ok (.goto 11, 3) := by decide +kernel
theorem dL_members_205 : decode cL_members 205 = .ok (.aload_n 0, 1) := by decide +kernel
theorem dL_members_206 : decode cL_members 206 = .ok (.iload 4, 2) := by decide +kernel
theorem dL_members_208 : decode cL_members 208 = .ok (.iconst 1, 1) := by decide +kernel
theorem dL_members_209 : decode cL_members 209 = .ok (.isub, 1) := by decide +kernel
theorem dL_members_210 : decode cL_members 210 = .ok (.invokestatic 226, 3) := by decide +kernel
theorem dL_members_213 : decode cL_members 213 = .ok (.istore 11, 2) := by decide +kernel
theorem dL_members_215 : decode cL_members 215 = .ok (.iload 4, 2) := by decide +kernel
theorem dL_members_217 : decode cL_members 217 = .ok (.ifCond .ne 7, 3) := by decide +kernel
theorem dL_members_220 : decode cL_members 220 = .ok (.iconst 1, 1) := by decide +kernel
theorem dL_members_221 : decode cL_members 221 = .ok (.goto 16, 3) := by decide +kernel
theorem dL_members_224 : decode cL_members 224 = .ok (.aload_n 0, 1) := by decide +kernel
theorem dL_members_225 : decode cL_members 225 = .ok (.iload 11, 2) := by decide +kernel
theorem dL_members_227 : decode cL_members 227 = .ok (.invokevirtual 64, 3) := by decide +kernel
theorem dL_members_230 : decode cL_members 230 = .ok (.aload_n 0, 1) := by decide +kernel
theorem dL_members_231 : decode cL_members 231 = .ok (.iload 10, 2) := by decide +kernel
theorem dL_members_233 : decode cL_members 233 = .ok (.invokevirtual 64, 3) := by decide +kernel
theorem dL_members_236 : decode cL_members 236 = .ok (.isub, 1) := by decide +kernel
theorem dL_members_237 : decode cL_members 237 = .ok (.istore 12, 2) := by decide +kernel
theorem dL_members_239 : decode cL_members 239 = .ok (.iload 12, 2) := by decide +kernel
theorem dL_members_241 : decode cL_members 241 = .ok (.ifCond .eq 8, 3) := by decide +kernel
theorem dL_members_244 : decode cL_members 244 = .ok (.iload 12, 2) := by decide +kernel
theorem dL_members_246 : decode cL_members 246 = .ok (.goto 16, 3) := by decide +kernel
theorem dL_members_249 : decode cL_members 249 = .ok (.aload_n 0, 1) := by decide +kernel
theorem dL_members_250 : decode cL_members 250 = .ok (.iload 11, 2) := by decide +kernel
theorem dL_members_252 : decode cL_members 252 = .ok (.invokevirtual 61, 3) := by decide +kernel
theorem dL_members_255 : decode cL_members 255 = .ok (.aload_n 0, 1) := by decide +kernel
theorem dL_members_256 : decode cL_members 256 = .ok (.iload 10, 2) := by decide +kernel
theorem dL_members_258 : decode cL_members 258 = .ok (.invokevirtual 61, 3) := by decide +kernel
theorem dL_members_261 : decode cL_members 261 = .ok (.isub, 1) := by decide +kernel
theorem dL_members_262 : decode cL_members 262 = .ok (.istore 12, 2) := by decide +kernel
theorem dL_members_264 : decode cL_members 264 = .ok (.iload_n 3, 1) := by decide +kernel
theorem dL_members_265 : decode cL_members 265 = .ok (.iconst 1, 1) := by decide +kernel
theorem dL_members_266 : decode cL_members 266 = .ok (.aload_n 0, 1) := by decide +kernel
theorem dL_members_267 : decode cL_members 267 = .ok (.iload 4, 2) := by decide +kernel
theorem dL_members_269 : decode cL_members 269 = .ok (.invokestatic 229, 3) := by decide +kernel
theorem dL_members_272 : decode cL_members 272 = .ok (.ishl, 1) := by decide +kernel
theorem dL_members_273 : decode cL_members 273 = .ok (.ior, 1) := by decide +kernel
theorem dL_members_274 : decode cL_members 274 = .ok (.istore_n 3, 1) := by decide +kernel
theorem dL_members_275 : decode cL_members 275 = .ok (.iload 8, 2) := by decide +kernel
theorem dL_members_277 : decode cL_members 277 = .ok (.ifCond .eq 60, 3) := by decide +kernel
theorem dL_members_280 : decode cL_members 280 = .ok (.aload_n 0, 1) := by decide +kernel
theorem dL_members_281 : decode cL_members 281 = .ok (.iload 4, 2) := by decide +kernel
theorem dL_members_283 : decode cL_members 283 = .ok (.invokestatic 232, 3) := by decide +kernel
theorem dL_members_286 : decode cL_members 286 = .ok (.iload 9, 2) := by decide +kernel
theorem dL_members_288 : decode cL_members 288 = .ok (.if_icmp .ne 49, 3) := by decide +kernel
theorem dL_members_291 : decode cL_members 291 = .ok (.aload_n 0, 1) := by decide +kernel
theorem dL_members_292 : decode cL_members 292 = .ok (.iload 4, 2) := by decide +kernel
theorem dL_members_294 : decode cL_members 294 = .ok (.invokestatic 217, 3) := by decide +kernel
theorem dL_members_297 : decode cL_members 297 = .ok (.aload_n 0, 1) := by decide +kernel
theorem dL_members_298 : decode cL_members 298 = .ok (.iload 4, 2) := by decide +kernel
theorem dL_members_300 : decode cL_members 300 = .ok (.invokestatic 234, 3) := by decide +kernel
theorem dL_members_303 : decode cL_members 303 = .ok (.if_icmp .gt 34, 3) := by decide +kernel
theorem dL_members_306 : decode cL_members 306 = .ok (.aload_n 0, 1) := by decide +kernel
theorem dL_members_307 : decode cL_members 307 = .ok (.iload 4, 2) := by decide +kernel
theorem dL_members_309 : decode cL_members 309 = .ok (.invokestatic 219, 3) := by decide +kernel
theorem dL_members_312 : decode cL_members 312 = .ok (.ifCond .lt 25, 3) := by decide +kernel
theorem dL_members_315 : decode cL_members 315 = .ok (.iload 10, 2) := by decide +kernel
theorem dL_members_317 : decode cL_members 317 = .ok (.ifCond .lt 20, 3) := by decide +kernel
theorem dL_members_320 : decode cL_members 320 = .ok (.iload 12, 2) := by decide +kernel
theorem dL_members_322 : decode cL_members 322 = .ok (.ifCond .lt 15, 3) := by decide +kernel
theorem dL_members_325 : decode cL_members 325 = .ok (.iload 12, 2) := by decide +kernel
theorem dL_members_327 : decode cL_members 327 = .ok (.ifCond .ne 12, 3) := by decide +kernel
theorem dL_members_330 : decode cL_members 330 = .ok (.iload 11, 2) := by decide +kernel
theorem dL_members_332 : decode cL_members 332 = .ok (.iload 10, 2) := by decide +kernel
theorem dL_members_334 : decode cL_members 334 = .ok (.if_icmp .le 5, 3) := by decide +kernel
theorem dL_members_337 : decode cL_members 337 = .ok (.iconst 0, 1) := by decide +kernel
theorem dL_members_338 : decode cL_members 338 = .ok (.ireturn, 1) := by decide +kernel
theorem dL_members_339 : decode cL_members 339 = .ok (.iinc 4 1, 3) := by decide +kernel
theorem dL_members_342 : decode cL_members 342 = .ok (.goto (-330), 3) := by decide +kernel
theorem dL_members_345 : decode cL_members 345 = .ok (.aload_n 0, 1) := by decide +kernel
theorem dL_members_346 : decode cL_members 346 = .ok (.invokevirtual 236, 3) := by decide +kernel
theorem dL_members_349 : decode cL_members 349 = .ok (.aload_n 0, 1) := by decide +kernel
theorem dL_members_350 : decode cL_members 350 = .ok (.invokevirtual 239, 3) := by decide +kernel
theorem dL_members_353 : decode cL_members 353 = .ok (.aload_n 0, 1) := by decide +kernel
theorem dL_members_354 : decode cL_members 354 = .ok (.invokevirtual 242, 3) := by decide +kernel
theorem dL_members_357 : decode cL_members 357 = .ok (.iadd, 1) := by decide +kernel
theorem dL_members_358 : decode cL_members 358 = .ok (.if_icmp .ne 59, 3) := by decide +kernel
theorem dL_members_361 : decode cL_members 361 = .ok (.aload_n 0, 1) := by decide +kernel
theorem dL_members_362 : decode cL_members 362 = .ok (.invokevirtual 245, 3) := by decide +kernel
theorem dL_members_365 : decode cL_members 365 = .ok (.iconst 3, 1) := by decide +kernel
theorem dL_members_366 : decode cL_members 366 = .ok (.aload_n 0, 1) := by decide +kernel
theorem dL_members_367 : decode cL_members 367 = .ok (.invokevirtual 242, 3) := by decide +kernel
theorem dL_members_370 : decode cL_members 370 = .ok (.imul, 1) := by decide +kernel
theorem dL_members_371 : decode cL_members 371 = .ok (.if_icmp .ne 46, 3) := by decide +kernel
theorem dL_members_374 : decode cL_members 374 = .ok (.aload_n 0, 1) := by decide +kernel
theorem dL_members_375 : decode cL_members 375 = .ok (.invokevirtual 247, 3) := by decide +kernel
theorem dL_members_378 : decode cL_members 378 = .ok (.iload_n 2, 1) := by decide +kernel
theorem dL_members_379 : decode cL_members 379 = .ok (.i2d, 1) := by decide +kernel
theorem dL_members_380 : decode cL_members 380 = .ok (.iload_n 1, 1) := by decide +kernel
theorem dL_members_381 : decode cL_members 381 = .ok (.i2d, 1) := by decide +kernel
theorem dL_members_382 : decode cL_members 382 = .ok (.ddiv, 1) := by decide +kernel
theorem dL_members_383 : decode cL_members 383 = .ok (.dcmp .l, 1) := by decide +kernel
theorem dL_members_384 : decode cL_members 384 = .ok (.ifCond .ne 33, 3) := by decide +kernel
theorem dL_members_387 : decode cL_members 387 = .ok (.aload_n 0, 1) := by decide +kernel
theorem dL_members_388 : decode cL_members 388 = .ok (.invokevirtual 236, 3) := by decide +kernel
theorem dL_members_391 : decode cL_members 391 = .ok (.ifCond .eq 22, 3) := by decide +kernel
theorem dL_members_394 : decode cL_members 394 = .ok (.aload_n 0, 1) := by decide +kernel
theorem dL_members_395 : decode cL_members 395 = .ok (.invokevirtual 251, 3) := by decide +kernel
theorem dL_members_398 : decode cL_members 398 = .ok (.aload_n 0, 1) := by decide +kernel
theorem dL_members_399 : decode cL_members 399 = .ok (.invokevirtual 242, 3) := by decide +kernel
theorem dL_members_402 : decode cL_members 402 = .ok (.i2f, 1) := by decide +kernel
theorem dL_members_403 : decode cL_members 403 = .ok (.aload_n 0, 1) := by decide +kernel
theorem dL_members_404 : decode cL_members 404 = .ok (.invokevirtual 236, 3) := by decide +kernel
theorem dL_members_407 : decode cL_members 407 = .ok (.i2f, 1) := by decide +kernel
theorem dL_members_408 : decode cL_members 408 = .ok (.fdiv, 1) := by decide +kernel
theorem dL_members_409 : decode cL_members 409 = .ok (.fcmp .l, 1) := by decide +kernel
theorem dL_members_410 : decode cL_members 410 = .ok (.ifCond .ne 7, 3) := by decide +kernel
theorem dL_members_413 : decode cL_members 413 = .ok (.iconst 1, 1) := by decide +kernel
theorem dL_members_414 : decode cL_members 414 = .ok (.goto 4, 3) := by decide +kernel
theorem dL_members_417 : decode cL_members 417 = .ok (.iconst 0, 1) := by decide +kernel
theorem dL_members_418 : decode cL_members 418 = .ok (.istore 4, 2) := by decide +kernel
theorem dL_members_420 : decode cL_members 420 = .ok (.iload 4, 2) := by decide +kernel
theorem dL_members_422 : decode cL_members 422 = .ok (.ifCond .eq 126, 3) := by decide +kernel
theorem dL_members_425 : decode cL_members 425 = .ok (.iload_n 3, 1) := by decide +kernel
theorem dL_members_426 : decode cL_members 426 = .ok (.iconst 1, 1) := by decide +kernel
theorem dL_members_427 : decode cL_members 427 = .ok (.iload_n 1, 1) := by decide +kernel
theorem dL_members_428 : decode cL_members 428 = .ok (.ishl, 1) := by decide +kernel
theorem dL_members_429 : decode cL_members 429 = .ok (.iconst 1, 1) := by decide +kernel
theorem dL_members_430 : decode cL_members 430 = .ok (.isub, 1) := by decide +kernel
theorem dL_members_431 : decode cL_members 431 = .ok (.if_icmp .ne 117, 3) := by decide +kernel
theorem dL_members_434 : decode cL_members 434 = .ok (.aload_n 0, 1) := by decide +kernel
theorem dL_members_435 : decode cL_members 435 = .ok (.iload_n 1, 1) := by decide +kernel
theorem dL_members_436 : decode cL_members 436 = .ok (.invokestatic 229, 3) := by decide +kernel
theorem dL_members_439 : decode cL_members 439 = .ok (.bipush (-13), 2) := by decide +kernel
theorem dL_members_441 : decode cL_members 441 = .ok (.if_icmp .ne 107, 3) := by decide +kernel
theorem dL_members_444 : decode cL_members 444 = .ok (.aload_n 0, 1) := by decide +kernel
theorem dL_members_445 : decode cL_members 445 = .ok (.iconst (-1), 1) := by decide +kernel
theorem dL_members_446 : decode cL_members 446 = .ok (.invokestatic 229, 3) := by decide +kernel
theorem dL_members_449 : decode cL_members 449 = .ok (.bipush (-13), 2) := by decide +kernel
theorem dL_members_451 : decode cL_members 451 = .ok (.if_icmp .ne 97, 3) := by decide +kernel
theorem dL_members_454 : decode cL_members 454 = .ok (.aload_n 0, 1) := by decide +kernel
theorem dL_members_455 : decode cL_members 455 = .ok (.iload_n 1, 1) := by decide +kernel
theorem dL_members_456 : decode cL_members 456 = .ok (.invokestatic 226, 3) := by decide +kernel
theorem dL_members_459 : decode cL_members 459 = .ok (.bipush (-13), 2) := by decide +kernel
theorem dL_members_461 : decode cL_members 461 = .ok (.if_icmp .ne 87, 3) := by decide +kernel
theorem dL_members_464 : decode cL_members 464 = .ok (.aload_n 0, 1) := by decide +kernel
theorem dL_members_465 : decode cL_members 465 = .ok (.iload_n 1, 1) := by decide +kernel
theorem dL_members_466 : decode cL_members 466 = .ok (.invokestatic 234, 3) := by decide +kernel
theorem dL_members_469 : decode cL_members 469 = .ok (.bipush (-11), 2) := by decide +kernel
theorem dL_members_471 : decode cL_members 471 = .ok (.if_icmp .ne 77, 3) := by decide +kernel
theorem dL_members_474 : decode cL_members 474 = .ok (.aload_n 0, 1) := by decide +kernel
theorem dL_members_475 : decode cL_members 475 = .ok (.iload_n 1, 1) := by decide +kernel
theorem dL_members_476 : decode cL_members 476 = .ok (.invokestatic 255, 3) := by decide +kernel
theorem dL_members_479 : decode cL_members 479 = .ok (.bipush (-11), 2) := by decide +kernel
theorem dL_members_481 : decode cL_members 481 = .ok (.if_icmp .ne 67, 3) := by decide +kernel
theorem dL_members_484 : decode cL_members 484 = .ok (.aload_n 0, 1) := by decide +kernel
theorem dL_members_485 : decode cL_members 485 = .ok (.iload_n 1, 1) := by decide +kernel
theorem dL_members_486 : decode cL_members 486 = .ok (.invokestatic 210, 3) := by decide +kernel
theorem dL_members_489 : decode cL_members 489 = .ok (.bipush (-11), 2) := by decide +kernel
theorem dL_members_491 : decode cL_members 491 = .ok (.if_icmp .ne 57, 3) := by decide +kernel
theorem dL_members_494 : decode cL_members 494 = .ok (.aload_n 0, 1) := by decide +kernel
theorem dL_members_495 : decode cL_members 495 = .ok (.iload_n 1, 1) := by decide +kernel
theorem dL_members_496 : decode cL_members 496 = .ok (.invokestatic 212, 3) := by decide +kernel
theorem dL_members_499 : decode cL_members 499 = .ok (.bipush (-11), 2) := by decide +kernel
theorem dL_members_501 : decode cL_members 501 = .ok (.if_icmp .ne 47, 3) := by decide +kernel
theorem dL_members_504 : decode cL_members 504 = .ok (.aload_n 0, 1) := by decide +kernel
theorem dL_members_505 : decode cL_members 505 = .ok (.iconst (-1), 1) := by decide +kernel
theorem dL_members_506 : decode cL_members 506 = .ok (.invokestatic 214, 3) := by decide +kernel
theorem dL_members_509 : decode cL_members 509 = .ok (.bipush (-11), 2) := by decide +kernel
theorem dL_members_511 : decode cL_members 511 = .ok (.if_icmp .ne 37, 3) := by decide +kernel
theorem dL_members_514 : decode cL_members 514 = .ok (.aload_n 0, 1) := by decide +kernel
theorem dL_members_515 : decode cL_members 515 = .ok (.iload_n 1, 1) := by decide +kernel
theorem dL_members_516 : decode cL_members 516 = .ok (.invokestatic 219, 3) := by decide +kernel
theorem dL_members_519 : decode cL_members 519 = .ok (.bipush (-11), 2) := by decide +kernel
theorem dL_members_521 : decode cL_members 521 = .ok (.if_icmp .ne 27, 3) := by decide +kernel
theorem dL_members_524 : decode cL_members 524 = .ok (.aload_n 0, 1) := by decide +kernel
theorem dL_members_525 : decode cL_members 525 = .ok (.iload_n 1, 1) := by decide +kernel
theorem dL_members_526 : decode cL_members 526 = .ok (.invokestatic 217, 3) := by decide +kernel
theorem dL_members_529 : decode cL_members 529 = .ok (.bipush (-11), 2) := by decide +kernel
theorem dL_members_531 : decode cL_members 531 = .ok (.if_icmp .ne 17, 3) := by decide +kernel
theorem dL_members_534 : decode cL_members 534 = .ok (.aload_n 0, 1) := by decide +kernel
theorem dL_members_535 : decode cL_members 535 = .ok (.iload_n 1, 1) := by decide +kernel
theorem dL_members_536 : decode cL_members 536 = .ok (.invokestatic 232, 3) := by decide +kernel
theorem dL_members_539 : decode cL_members 539 = .ok (.bipush (-11), 2) := by decide +kernel
theorem dL_members_541 : decode cL_members 541 = .ok (.if_icmp .ne 7, 3) := by decide +kernel
theorem dL_members_544 : decode cL_members 544 = .ok (.iconst 1, 1) := by decide +kernel
theorem dL_members_545 : decode cL_members 545 = .ok (.goto 4, 3) := by decide +kernel
theorem dL_members_548 : decode cL_members 548 = .ok (.iconst 0, 1) := by decide +kernel
theorem dL_members_549 : decode cL_members 549 = .ok (.ireturn, 1) := by decide +kernel
theorem mt_L_members : pm_Mt yL_members cL_members 13 (some .boolean) 1 := ⟨pm_T_in 810 (by decide +kernel) (by decide +kernel), pm_T_in 34 (by decide +kernel) (by decide +kernel), ⟨by decide +kernel, by decide +kernel, by decide +kernel⟩, by decide +kernel, by decide⟩
set_option maxRecDepth 100000 in
set_option maxHeartbeats 8000000 in
theorem c_L_members {l : Launch} {z : Nat} {D : va_G} {kA : Nat → ClassId} {kE : Nat → Nat} {B n : Nat} {r : Nat → Int32} {hs : List (Nat → Int32)} {u : Nat × List Nat} {ar : List (Nat × va_E)}  (hI : pm_I B n r) (h0 : 0 < n) : ∀ nx M, (pw_W z kA kE (B, r, hs, u) ar) nx M → pm_C l z D kA kE yL_members cL_members 13 (some .boolean) 40 316 1896 [.ref (z + 0)] nx M (pw_P (some (.int 1)) (pw_W z kA kE (B, r, hs, u) ar)) := by
  refine pw_mk (own := RL) (nm := "members") mt_L_members rfl rfl rfl rfl fun X B9 => ?_
  have h7 : n ≤ 7 := hI.1.2.1
  have h128 : 2 ^ n ≤ 128 := pm_p7 h7
  refine pw_l (fun _ _ _ _ k => pm_loc (L' := [some (.ref (z + 0)), none, none, none, none, none, none, none, none, none, none, none, none]) rfl k) ?_
  refine pw_l (fun _ _ _ _ k => pm_aload_n B9 dL_members_0 rfl k) ?_
  refine pw_cV (As := []) (c2 := (316 - (2) + 0)) (s2 := (1896 - (12) + 0)) B9 (fun _ _ hW => pw_0 hW) rfl (a_X12_memberCount hI) mt_X12_memberCount sv_L_177 dL_members_1 rfl rfl rfl (by omega) (by omega) ?_
  refine pw_l (fun _ _ _ _ k => pm_stk (st' := [.int (nI n)]) rfl k) ?_
  refine pw_l (fun _ _ _ _ k => pm_istore_n B9 dL_members_4 rfl rfl k) ?_
  refine pw_l (fun _ _ _ _ k => pm_loc (L' := [some (.ref (z + 0)), some (.int (nI n)), none, none, none, none, none, none, none, none, none, none, none]) rfl k) ?_
  refine pw_l (fun _ _ _ _ k => pm_iconst (v := 0) B9 dL_members_5 (by decide) k) ?_
  refine pw_l (fun _ _ _ _ k => pm_istore_n B9 dL_members_6 rfl rfl k) ?_
  refine pw_l (fun _ _ _ _ k => pm_loc (L' := [some (.ref (z + 0)), some (.int (nI n)), some (.int 0), none, none, none, none, none, none, none, none, none, none]) rfl k) ?_
  refine pw_l (fun _ _ _ _ k => pm_iconst (v := 0) B9 dL_members_7 (by decide) k) ?_
  refine pw_l (fun _ _ _ _ k => pm_istore_n B9 dL_members_8 rfl rfl k) ?_
  refine pw_l (fun _ _ _ _ k => pm_loc (L' := [some (.ref (z + 0)), some (.int (nI n)), some (.int 0), some (.int 0), none, none, none, none, none, none, none, none, none]) rfl k) ?_
  refine pw_l (fun _ _ _ _ k => pm_iconst (v := 0) B9 dL_members_9 (by decide) k) ?_
  refine pw_l (fun _ _ _ _ k => pm_istore B9 dL_members_10 rfl rfl k) ?_
  refine pw_l (fun _ _ _ _ k => pm_loc (L' := [some (.ref (z + 0)), some (.int (nI n)), some (.int 0), some (.int 0), some (.int 0), none, none, none, none, none, none, none, none]) rfl k) ?_
  refine pw_l (fun _ _ _ _ k => pm_loc (L' := [some (.ref (z + 0)), some (.int (nI n)), some (.int 0), some (.int 0), some (.int (nI 0)), none, none, none, none, none, none, none, none]) (congrArg (fun yy : Int32 => ([some (.ref (z + 0)), some (.int (nI n)), some (.int 0), some (.int 0), some (.int yy), none, none, none, none, none, none, none, none] : List (Option Value))) rfl) k) ?_
  have hx1 : pw_J l z D X 316 1896 (pm_Q z D (pw_P (some (.int 1)) (pw_W z kA kE (B, r, hs, u) ar)) 316 1896 X) (pw_W z kA kE (B, r, hs, u) ar) (316 - (2 + 8 * 34) + 0) (1896 - (12 + 8 * 204) + 0) 345 [some (.ref (z + 0)), some (.int (nI n)), some (.int (w_L_members_1 n r 0 0 n).1), some (.int (w_L_members_1 n r 0 0 n).2), none, none, none, none, none, none, none, none, none] [] := by
    refine pw_l (fun _ _ _ _ k => pm_aload_n B9 dL_members_345 rfl k) ?_
    refine pw_cV (As := []) (c2 := (316 - (4 + 8 * 34) + 0)) (s2 := (1896 - (24 + 8 * 204) + 0)) B9 (fun _ _ hW => pw_0 hW) rfl (a_X12_soldTotal hI) mt_X12_soldTotal sv_L_236 dL_members_346 rfl rfl rfl (by omega) (by omega) ?_
    refine pw_l (fun _ _ _ _ k => pm_stk (st' := [.int (r 5 + r 6)]) rfl k) ?_
    refine pw_l (fun _ _ _ _ k => pm_aload_n B9 dL_members_349 rfl k) ?_
    refine pw_cV (As := []) (c2 := (316 - (6 + 8 * 34) + 0)) (s2 := (1896 - (36 + 8 * 204) + 0)) B9 (fun _ _ hW => pw_0 hW) rfl (a_X12_withinTotal hI) mt_X12_withinTotal sv_L_239 dL_members_350 rfl rfl rfl (by omega) (by omega) ?_
    refine pw_l (fun _ _ _ _ k => pm_stk (st' := [.int (r 5), .int (r 5 + r 6)]) rfl k) ?_
    refine pw_l (fun _ _ _ _ k => pm_aload_n B9 dL_members_353 rfl k) ?_
    refine pw_cV (As := []) (c2 := (316 - (8 + 8 * 34) + 0)) (s2 := (1896 - (48 + 8 * 204) + 0)) B9 (fun _ _ hW => pw_0 hW) rfl (a_X12_finedTotal hI) mt_X12_finedTotal sv_L_242 dL_members_354 rfl rfl rfl (by omega) (by omega) ?_
    refine pw_l (fun _ _ _ _ k => pm_stk (st' := [.int (r 6), .int (r 5), .int (r 5 + r 6)]) rfl k) ?_
    refine pw_l (fun _ _ _ _ k => pm_iadd B9 dL_members_357 k) ?_
    refine pw_l (fun _ _ _ _ k => pm_icmp_ne (tgt := 417) B9 dL_members_358 (by decide) (fun h => absurd (rfl) h) (fun _ => k)) ?_
    refine pw_l (fun _ _ _ _ k => pm_aload_n B9 dL_members_361 rfl k) ?_
    refine pw_cV (As := []) (c2 := (316 - (10 + 8 * 34) + 0)) (s2 := (1896 - (60 + 8 * 204) + 0)) B9 (fun _ _ hW => pw_0 hW) rfl (a_X12_fines hI) mt_X12_fines sv_L_245 dL_members_362 rfl rfl rfl (by omega) (by omega) ?_
    refine pw_l (fun _ _ _ _ k => pm_stk (st' := [.int (r 6 * 3)]) rfl k) ?_
    refine pw_l (fun _ _ _ _ k => pm_iconst (v := 3) B9 dL_members_365 (by decide) k) ?_
    refine pw_l (fun _ _ _ _ k => pm_aload_n B9 dL_members_366 rfl k) ?_
    refine pw_cV (As := []) (c2 := (316 - (12 + 8 * 34) + 0)) (s2 := (1896 - (72 + 8 * 204) + 0)) B9 (fun _ _ hW => pw_0 hW) rfl (a_X12_finedTotal hI) mt_X12_finedTotal sv_L_242 dL_members_367 rfl rfl rfl (by omega) (by omega) ?_
    refine pw_l (fun _ _ _ _ k => pm_stk (st' := [.int (r 6), .int 3, .int (r 6 * 3)]) rfl k) ?_
    refine pw_l (fun _ _ _ _ k => pm_imul B9 dL_members_370 k) ?_
    refine pw_l (fun _ _ _ _ k => pm_icmp_ne (tgt := 417) B9 dL_members_371 (by decide) (fun h => absurd ((Int32.mul_comm _ _)) h) (fun _ => k)) ?_
    refine pw_l (fun _ _ _ _ k => pm_aload_n B9 dL_members_374 rfl k) ?_
    refine pw_cV (As := []) (c2 := (316 - (14 + 8 * 34) + 0)) (s2 := (1896 - (84 + 8 * 204) + 0)) B9 (fun _ _ hW => pw_0 hW) rfl (a_X12_meanSales hI (by omega)) mt_X12_meanSales sv_L_247 dL_members_375 rfl rfl rfl (by omega) (by omega) ?_
    refine pw_l (fun _ _ _ _ k => pm_stk (st' := [.double (FP.ddiv (FP.i2d (d_X12_meanSales_L1 r n 0 0)) (FP.i2d (nI n)))]) rfl k) ?_
    refine pw_l (fun _ _ _ _ k => pm_iload_n B9 dL_members_378 rfl k) ?_
    refine pw_l (fun _ _ _ _ k => pm_i2d B9 dL_members_379 k) ?_
    refine pw_l (fun _ _ _ _ k => pm_iload_n B9 dL_members_380 rfl k) ?_
    refine pw_l (fun _ _ _ _ k => pm_i2d B9 dL_members_381 k) ?_
    refine pw_l (fun _ _ _ _ k => pm_ddiv B9 dL_members_382 (fp_h64 _ _ (nI_ne0 (by omega) (by omega))) k) ?_
    refine pw_l (fun _ _ _ _ k => pm_dcmp B9 dL_members_383 k) ?_
    refine pw_l (fun _ _ _ _ k => pm_if_ne (tgt := 417) B9 dL_members_384 (by decide) (fun h => absurd ((pw_mb6 hI h0)) h) (fun _ => k)) ?_
    refine pw_l (fun _ _ _ _ k => pm_aload_n B9 dL_members_387 rfl k) ?_
    refine pw_cV (As := []) (c2 := (316 - (16 + 8 * 34) + 0)) (s2 := (1896 - (96 + 8 * 204) + 0)) B9 (fun _ _ hW => pw_0 hW) rfl (a_X12_soldTotal hI) mt_X12_soldTotal sv_L_236 dL_members_388 rfl rfl rfl (by omega) (by omega) ?_
    refine pw_l (fun _ _ _ _ k => pm_stk (st' := [.int (r 5 + r 6)]) rfl k) ?_
    refine pw_l2 (fun _ _ _ _ k1 k2 => pm_if_eq (tgt := 413) B9 dL_members_391 (by decide) k1 k2) (fun hq4 => ?_) (fun hq4 => ?_)
    · refine pw_l (fun _ _ _ _ k => pm_iconst (v := 1) B9 dL_members_413 (by decide) k) ?_
      refine pw_l (fun _ _ _ _ k => pm_goto (tgt := 418) B9 dL_members_414 (by decide) k) ?_
      refine pw_l (fun _ _ _ _ k => pm_istore B9 dL_members_418 rfl rfl k) ?_
      refine pw_l (fun _ _ _ _ k => pm_loc (L' := [some (.ref (z + 0)), some (.int (nI n)), some (.int (w_L_members_1 n r 0 0 n).1), some (.int (w_L_members_1 n r 0 0 n).2), some (.int 1), none, none, none, none, none, none, none, none]) rfl k) ?_
      refine pw_l (fun _ _ _ _ k => pm_iload B9 dL_members_420 rfl k) ?_
      refine pw_l (fun _ _ _ _ k => pm_if_eq (tgt := 548) B9 dL_members_422 (by decide) (fun h => absurd h (by decide)) (fun _ => k)) ?_
      refine pw_l (fun _ _ _ _ k => pm_iload_n B9 dL_members_425 rfl k) ?_
      refine pw_l (fun _ _ _ _ k => pm_iconst (v := 1) B9 dL_members_426 (by decide) k) ?_
      refine pw_l (fun _ _ _ _ k => pm_iload_n B9 dL_members_427 rfl k) ?_
      refine pw_l (fun _ _ _ _ k => pm_ishl B9 dL_members_428 k) ?_
      refine pw_l (fun _ _ _ _ k => pm_stk (st' := [.int (nI (2 ^ n)), .int (w_L_members_1 n r 0 0 n).2]) (congrArg (fun yy : Int32 => ([.int yy, .int (w_L_members_1 n r 0 0 n).2] : List Value)) (show (1 <<< ((nI n) &&& 31)) = (nI (2 ^ n)) from pm_sh1 n h7)) k) ?_
      refine pw_l (fun _ _ _ _ k => pm_iconst (v := 1) B9 dL_members_429 (by decide) k) ?_
      refine pw_l (fun _ _ _ _ k => pm_isub B9 dL_members_430 k) ?_
      refine pw_l (fun _ _ _ _ k => pm_icmp_ne (tgt := 548) B9 dL_members_431 (by decide) (fun h => absurd ((pw_mb8 hI h0)) h) (fun _ => k)) ?_
      refine pw_l (fun _ _ _ _ k => pm_aload_n B9 dL_members_434 rfl k) ?_
      refine pw_l (fun _ _ _ _ k => pm_iload_n B9 dL_members_435 rfl k) ?_
      refine pw_cSW (As := [.ref (z + 0), .int (nI n)]) (c2 := (316 - (18 + 8 * 34) + 0)) (s2 := (1896 - (108 + 8 * 204) + 0)) B9 (pv_as (pv_L_drawnAt_n hI.1.2.1) (b_L_drawnAt hI)) mt_L_drawnAt ss_L_229 dL_members_436 rfl rfl rfl (by omega) (by omega) ?_
      refine pw_l (fun _ _ _ _ k => pm_stk (st' := [.int (-13)]) rfl k) ?_
      refine pw_l (fun _ _ _ _ k => pm_bipush (v := (-13)) B9 dL_members_439 (by decide) k) ?_
      refine pw_l (fun _ _ _ _ k => pm_icmp_ne (tgt := 548) B9 dL_members_441 (by decide) (fun h => absurd (by decide) h) (fun _ => k)) ?_
      refine pw_l (fun _ _ _ _ k => pm_aload_n B9 dL_members_444 rfl k) ?_
      refine pw_l (fun _ _ _ _ k => pm_iconst (v := (-1)) B9 dL_members_445 (by decide) k) ?_
      refine pw_cSW (As := [.ref (z + 0), .int (-1)]) (c2 := (316 - (20 + 8 * 34) + 0)) (s2 := (1896 - (120 + 8 * 204) + 0)) B9 (pv_as pv_L_drawnAt_z (b_L_drawnAt hI)) mt_L_drawnAt ss_L_229 dL_members_446 rfl rfl rfl (by omega) (by omega) ?_
      refine pw_l (fun _ _ _ _ k => pm_stk (st' := [.int (-13)]) rfl k) ?_
      refine pw_l (fun _ _ _ _ k => pm_bipush (v := (-13)) B9 dL_members_449 (by decide) k) ?_
      refine pw_l (fun _ _ _ _ k => pm_icmp_ne (tgt := 548) B9 dL_members_451 (by decide) (fun h => absurd (by decide) h) (fun _ => k)) ?_
      refine pw_l (fun _ _ _ _ k => pm_aload_n B9 dL_members_454 rfl k) ?_
      refine pw_l (fun _ _ _ _ k => pm_iload_n B9 dL_members_455 rfl k) ?_
      refine pw_cSW (As := [.ref (z + 0), .int (nI n)]) (c2 := (316 - (22 + 8 * 34) + 0)) (s2 := (1896 - (132 + 8 * 204) + 0)) B9 (pv_as (pv_L_byExcess_n hI.2.1 hI.1.2.1) (b_L_byExcess hI)) mt_L_byExcess ss_L_226 dL_members_456 rfl rfl rfl (by omega) (by omega) ?_
      refine pw_l (fun _ _ _ _ k => pm_stk (st' := [.int (-13)]) rfl k) ?_
      refine pw_l (fun _ _ _ _ k => pm_bipush (v := (-13)) B9 dL_members_459 (by decide) k) ?_
      refine pw_l (fun _ _ _ _ k => pm_icmp_ne (tgt := 548) B9 dL_members_461 (by decide) (fun h => absurd (by decide) h) (fun _ => k)) ?_
      refine pw_l (fun _ _ _ _ k => pm_aload_n B9 dL_members_464 rfl k) ?_
      refine pw_l (fun _ _ _ _ k => pm_iload_n B9 dL_members_465 rfl k) ?_
      refine pw_cSW (As := [.ref (z + 0), .int (nI n)]) (c2 := (316 - (24 + 8 * 34) + 0)) (s2 := (1896 - (144 + 8 * 204) + 0)) B9 (pv_as (pv_L_capacity_n hI.1.2.1) (b_L_capacity hI)) mt_L_capacity ss_L_234 dL_members_466 rfl rfl rfl (by omega) (by omega) ?_
      refine pw_l (fun _ _ _ _ k => pm_stk (st' := [.int (-11)]) rfl k) ?_
      refine pw_l (fun _ _ _ _ k => pm_bipush (v := (-11)) B9 dL_members_469 (by decide) k) ?_
      refine pw_l (fun _ _ _ _ k => pm_icmp_ne (tgt := 548) B9 dL_members_471 (by decide) (fun h => absurd (by decide) h) (fun _ => k)) ?_
      refine pw_l (fun _ _ _ _ k => pm_aload_n B9 dL_members_474 rfl k) ?_
      refine pw_l (fun _ _ _ _ k => pm_iload_n B9 dL_members_475 rfl k) ?_
      refine pw_cSW (As := [.ref (z + 0), .int (nI n)]) (c2 := (316 - (26 + 8 * 34) + 0)) (s2 := (1896 - (156 + 8 * 204) + 0)) B9 (pv_as (pv_L_votes_n hI.1.2.1) (b_L_votes hI)) mt_L_votes ss_L_255 dL_members_476 rfl rfl rfl (by omega) (by omega) ?_
      refine pw_l (fun _ _ _ _ k => pm_stk (st' := [.int (-11)]) rfl k) ?_
      refine pw_l (fun _ _ _ _ k => pm_bipush (v := (-11)) B9 dL_members_479 (by decide) k) ?_
      refine pw_l (fun _ _ _ _ k => pm_icmp_ne (tgt := 548) B9 dL_members_481 (by decide) (fun h => absurd (by decide) h) (fun _ => k)) ?_
      refine pw_l (fun _ _ _ _ k => pm_aload_n B9 dL_members_484 rfl k) ?_
      refine pw_l (fun _ _ _ _ k => pm_iload_n B9 dL_members_485 rfl k) ?_
      refine pw_cSW (As := [.ref (z + 0), .int (nI n)]) (c2 := (316 - (28 + 8 * 34) + 0)) (s2 := (1896 - (168 + 8 * 204) + 0)) B9 (pv_as (pv_L_standing_n hI.1.2.1) (b_L_standing hI)) mt_L_standing ss_L_210 dL_members_486 rfl rfl rfl (by omega) (by omega) ?_
      refine pw_l (fun _ _ _ _ k => pm_stk (st' := [.int (-11)]) rfl k) ?_
      refine pw_l (fun _ _ _ _ k => pm_bipush (v := (-11)) B9 dL_members_489 (by decide) k) ?_
      refine pw_l (fun _ _ _ _ k => pm_icmp_ne (tgt := 548) B9 dL_members_491 (by decide) (fun h => absurd (by decide) h) (fun _ => k)) ?_
      refine pw_l (fun _ _ _ _ k => pm_aload_n B9 dL_members_494 rfl k) ?_
      refine pw_l (fun _ _ _ _ k => pm_iload_n B9 dL_members_495 rfl k) ?_
      refine pw_cSW (As := [.ref (z + 0), .int (nI n)]) (c2 := (316 - (30 + 8 * 34) + 0)) (s2 := (1896 - (180 + 8 * 204) + 0)) B9 (pv_as (pv_L_warnings_n hI.1.2.1) (b_L_warnings hI)) mt_L_warnings ss_L_212 dL_members_496 rfl rfl rfl (by omega) (by omega) ?_
      refine pw_l (fun _ _ _ _ k => pm_stk (st' := [.int (-11)]) rfl k) ?_
      refine pw_l (fun _ _ _ _ k => pm_bipush (v := (-11)) B9 dL_members_499 (by decide) k) ?_
      refine pw_l (fun _ _ _ _ k => pm_icmp_ne (tgt := 548) B9 dL_members_501 (by decide) (fun h => absurd (by decide) h) (fun _ => k)) ?_
      refine pw_l (fun _ _ _ _ k => pm_aload_n B9 dL_members_504 rfl k) ?_
      refine pw_l (fun _ _ _ _ k => pm_iconst (v := (-1)) B9 dL_members_505 (by decide) k) ?_
      refine pw_cSW (As := [.ref (z + 0), .int (-1)]) (c2 := (316 - (32 + 8 * 34) + 0)) (s2 := (1896 - (192 + 8 * 204) + 0)) B9 (pv_as pv_L_barred_z (b_L_barred hI)) mt_L_barred ss_L_214 dL_members_506 rfl rfl rfl (by omega) (by omega) ?_
      refine pw_l (fun _ _ _ _ k => pm_stk (st' := [.int (-11)]) rfl k) ?_
      refine pw_l (fun _ _ _ _ k => pm_bipush (v := (-11)) B9 dL_members_509 (by decide) k) ?_
      refine pw_l (fun _ _ _ _ k => pm_icmp_ne (tgt := 548) B9 dL_members_511 (by decide) (fun h => absurd (by decide) h) (fun _ => k)) ?_
      refine pw_l (fun _ _ _ _ k => pm_aload_n B9 dL_members_514 rfl k) ?_
      refine pw_l (fun _ _ _ _ k => pm_iload_n B9 dL_members_515 rfl k) ?_
      refine pw_cSW (As := [.ref (z + 0), .int (nI n)]) (c2 := (316 - (34 + 8 * 34) + 0)) (s2 := (1896 - (204 + 8 * 204) + 0)) B9 (pv_as (pv_L_quota_n hI.1.2.1) (b_L_quota hI)) mt_L_quota ss_L_219 dL_members_516 rfl rfl rfl (by omega) (by omega) ?_
      refine pw_l (fun _ _ _ _ k => pm_stk (st' := [.int (-11)]) rfl k) ?_
      refine pw_l (fun _ _ _ _ k => pm_bipush (v := (-11)) B9 dL_members_519 (by decide) k) ?_
      refine pw_l (fun _ _ _ _ k => pm_icmp_ne (tgt := 548) B9 dL_members_521 (by decide) (fun h => absurd (by decide) h) (fun _ => k)) ?_
      refine pw_l (fun _ _ _ _ k => pm_aload_n B9 dL_members_524 rfl k) ?_
      refine pw_l (fun _ _ _ _ k => pm_iload_n B9 dL_members_525 rfl k) ?_
      refine pw_cSW (As := [.ref (z + 0), .int (nI n)]) (c2 := (316 - (36 + 8 * 34) + 0)) (s2 := (1896 - (216 + 8 * 204) + 0)) B9 (pv_as (pv_L_sales_n hI.1.2.1) (b_L_sales hI)) mt_L_sales ss_L_217 dL_members_526 rfl rfl rfl (by omega) (by omega) ?_
      refine pw_l (fun _ _ _ _ k => pm_stk (st' := [.int (-11)]) rfl k) ?_
      refine pw_l (fun _ _ _ _ k => pm_bipush (v := (-11)) B9 dL_members_529 (by decide) k) ?_
      refine pw_l (fun _ _ _ _ k => pm_icmp_ne (tgt := 548) B9 dL_members_531 (by decide) (fun h => absurd (by decide) h) (fun _ => k)) ?_
      refine pw_l (fun _ _ _ _ k => pm_aload_n B9 dL_members_534 rfl k) ?_
      refine pw_l (fun _ _ _ _ k => pm_iload_n B9 dL_members_535 rfl k) ?_
      refine pw_cSW (As := [.ref (z + 0), .int (nI n)]) (c2 := (316 - (38 + 8 * 34) + 0)) (s2 := (1896 - (228 + 8 * 204) + 0)) B9 (pv_as (pv_L_excess_n hI.1.2.1) (b_L_excess hI)) mt_L_excess ss_L_232 dL_members_536 rfl rfl rfl (by omega) (by omega) ?_
      refine pw_l (fun _ _ _ _ k => pm_stk (st' := [.int (-11)]) rfl k) ?_
      refine pw_l (fun _ _ _ _ k => pm_bipush (v := (-11)) B9 dL_members_539 (by decide) k) ?_
      refine pw_l (fun _ _ _ _ k => pm_icmp_ne (tgt := 548) B9 dL_members_541 (by decide) (fun h => absurd (by decide) h) (fun _ => k)) ?_
      refine pw_l (fun _ _ _ _ k => pm_iconst (v := 1) B9 dL_members_544 (by decide) k) ?_
      refine pw_l (fun _ _ _ _ k => pm_goto (tgt := 549) B9 dL_members_545 (by decide) k) ?_
      exact fun cu su nx M h1 h2 hW => pm_ireturn B9 dL_members_549 rfl (rfl) ⟨rfl, hW⟩ (Nat.ble_eq_true_of_le (by omega)) (Nat.ble_eq_true_of_le (by omega))
    · refine pw_l (fun _ _ _ _ k => pm_aload_n B9 dL_members_394 rfl k) ?_
      refine pw_cV (As := []) (c2 := (316 - (18 + 8 * 34) + 0)) (s2 := (1896 - (108 + 8 * 204) + 0)) B9 (fun _ _ hW => pw_0 hW) rfl (a_X12_finedShare hI (by assumption)) mt_X12_finedShare sv_L_251 dL_members_395 rfl rfl rfl (by omega) (by omega) ?_
      refine pw_l (fun _ _ _ _ k => pm_stk (st' := [.float (FP.fdiv (FP.i2f (r 6)) (FP.i2f (r 5 + r 6)))]) rfl k) ?_
      refine pw_l (fun _ _ _ _ k => pm_aload_n B9 dL_members_398 rfl k) ?_
      refine pw_cV (As := []) (c2 := (316 - (20 + 8 * 34) + 0)) (s2 := (1896 - (120 + 8 * 204) + 0)) B9 (fun _ _ hW => pw_0 hW) rfl (a_X12_finedTotal hI) mt_X12_finedTotal sv_L_242 dL_members_399 rfl rfl rfl (by omega) (by omega) ?_
      refine pw_l (fun _ _ _ _ k => pm_stk (st' := [.int (r 6), .float (FP.fdiv (FP.i2f (r 6)) (FP.i2f (r 5 + r 6)))]) rfl k) ?_
      refine pw_l (fun _ _ _ _ k => pm_i2f B9 dL_members_402 k) ?_
      refine pw_l (fun _ _ _ _ k => pm_aload_n B9 dL_members_403 rfl k) ?_
      refine pw_cV (As := []) (c2 := (316 - (22 + 8 * 34) + 0)) (s2 := (1896 - (132 + 8 * 204) + 0)) B9 (fun _ _ hW => pw_0 hW) rfl (a_X12_soldTotal hI) mt_X12_soldTotal sv_L_236 dL_members_404 rfl rfl rfl (by omega) (by omega) ?_
      refine pw_l (fun _ _ _ _ k => pm_stk (st' := [.int (r 5 + r 6), .float (FP.i2f (r 6)), .float (FP.fdiv (FP.i2f (r 6)) (FP.i2f (r 5 + r 6)))]) rfl k) ?_
      refine pw_l (fun _ _ _ _ k => pm_i2f B9 dL_members_407 k) ?_
      refine pw_l (fun _ _ _ _ k => pm_fdiv B9 dL_members_408 (fp_h32 _ _ (by assumption)) k) ?_
      refine pw_l (fun _ _ _ _ k => pm_fcmp B9 dL_members_409 k) ?_
      refine pw_l (fun _ _ _ _ k => pm_if_ne (tgt := 417) B9 dL_members_410 (by decide) (fun h => absurd ((pw_mb7 hI (by assumption))) h) (fun _ => k)) ?_
      refine pw_l (fun _ _ _ _ k => pm_iconst (v := 1) B9 dL_members_413 (by decide) k) ?_
      refine pw_l (fun _ _ _ _ k => pm_goto (tgt := 418) B9 dL_members_414 (by decide) k) ?_
      refine pw_l (fun _ _ _ _ k => pm_istore B9 dL_members_418 rfl rfl k) ?_
      refine pw_l (fun _ _ _ _ k => pm_loc (L' := [some (.ref (z + 0)), some (.int (nI n)), some (.int (w_L_members_1 n r 0 0 n).1), some (.int (w_L_members_1 n r 0 0 n).2), some (.int 1), none, none, none, none, none, none, none, none]) rfl k) ?_
      refine pw_l (fun _ _ _ _ k => pm_iload B9 dL_members_420 rfl k) ?_
      refine pw_l (fun _ _ _ _ k => pm_if_eq (tgt := 548) B9 dL_members_422 (by decide) (fun h => absurd h (by decide)) (fun _ => k)) ?_
      refine pw_l (fun _ _ _ _ k => pm_iload_n B9 dL_members_425 rfl k) ?_
      refine pw_l (fun _ _ _ _ k => pm_iconst (v := 1) B9 dL_members_426 (by decide) k) ?_
      refine pw_l (fun _ _ _ _ k => pm_iload_n B9 dL_members_427 rfl k) ?_
      refine pw_l (fun _ _ _ _ k => pm_ishl B9 dL_members_428 k) ?_
      refine pw_l (fun _ _ _ _ k => pm_stk (st' := [.int (nI (2 ^ n)), .int (w_L_members_1 n r 0 0 n).2]) (congrArg (fun yy : Int32 => ([.int yy, .int (w_L_members_1 n r 0 0 n).2] : List Value)) (show (1 <<< ((nI n) &&& 31)) = (nI (2 ^ n)) from pm_sh1 n h7)) k) ?_
      refine pw_l (fun _ _ _ _ k => pm_iconst (v := 1) B9 dL_members_429 (by decide) k) ?_
      refine pw_l (fun _ _ _ _ k => pm_isub B9 dL_members_430 k) ?_
      refine pw_l (fun _ _ _ _ k => pm_icmp_ne (tgt := 548) B9 dL_members_431 (by decide) (fun h => absurd ((pw_mb8 hI h0)) h) (fun _ => k)) ?_
      refine pw_l (fun _ _ _ _ k => pm_aload_n B9 dL_members_434 rfl k) ?_
      refine pw_l (fun _ _ _ _ k => pm_iload_n B9 dL_members_435 rfl k) ?_
      refine pw_cSW (As := [.ref (z + 0), .int (nI n)]) (c2 := (316 - (24 + 8 * 34) + 0)) (s2 := (1896 - (144 + 8 * 204) + 0)) B9 (pv_as (pv_L_drawnAt_n hI.1.2.1) (b_L_drawnAt hI)) mt_L_drawnAt ss_L_229 dL_members_436 rfl rfl rfl (by omega) (by omega) ?_
      refine pw_l (fun _ _ _ _ k => pm_stk (st' := [.int (-13)]) rfl k) ?_
      refine pw_l (fun _ _ _ _ k => pm_bipush (v := (-13)) B9 dL_members_439 (by decide) k) ?_
      refine pw_l (fun _ _ _ _ k => pm_icmp_ne (tgt := 548) B9 dL_members_441 (by decide) (fun h => absurd (by decide) h) (fun _ => k)) ?_
      refine pw_l (fun _ _ _ _ k => pm_aload_n B9 dL_members_444 rfl k) ?_
      refine pw_l (fun _ _ _ _ k => pm_iconst (v := (-1)) B9 dL_members_445 (by decide) k) ?_
      refine pw_cSW (As := [.ref (z + 0), .int (-1)]) (c2 := (316 - (26 + 8 * 34) + 0)) (s2 := (1896 - (156 + 8 * 204) + 0)) B9 (pv_as pv_L_drawnAt_z (b_L_drawnAt hI)) mt_L_drawnAt ss_L_229 dL_members_446 rfl rfl rfl (by omega) (by omega) ?_
      refine pw_l (fun _ _ _ _ k => pm_stk (st' := [.int (-13)]) rfl k) ?_
      refine pw_l (fun _ _ _ _ k => pm_bipush (v := (-13)) B9 dL_members_449 (by decide) k) ?_
      refine pw_l (fun _ _ _ _ k => pm_icmp_ne (tgt := 548) B9 dL_members_451 (by decide) (fun h => absurd (by decide) h) (fun _ => k)) ?_
      refine pw_l (fun _ _ _ _ k => pm_aload_n B9 dL_members_454 rfl k) ?_
      refine pw_l (fun _ _ _ _ k => pm_iload_n B9 dL_members_455 rfl k) ?_
      refine pw_cSW (As := [.ref (z + 0), .int (nI n)]) (c2 := (316 - (28 + 8 * 34) + 0)) (s2 := (1896 - (168 + 8 * 204) + 0)) B9 (pv_as (pv_L_byExcess_n hI.2.1 hI.1.2.1) (b_L_byExcess hI)) mt_L_byExcess ss_L_226 dL_members_456 rfl rfl rfl (by omega) (by omega) ?_
      refine pw_l (fun _ _ _ _ k => pm_stk (st' := [.int (-13)]) rfl k) ?_
      refine pw_l (fun _ _ _ _ k => pm_bipush (v := (-13)) B9 dL_members_459 (by decide) k) ?_
      refine pw_l (fun _ _ _ _ k => pm_icmp_ne (tgt := 548) B9 dL_members_461 (by decide) (fun h => absurd (by decide) h) (fun _ => k)) ?_
      refine pw_l (fun _ _ _ _ k => pm_aload_n B9 dL_members_464 rfl k) ?_
      refine pw_l (fun _ _ _ _ k => pm_iload_n B9 dL_members_465 rfl k) ?_
      refine pw_cSW (As := [.ref (z + 0), .int (nI n)]) (c2 := (316 - (30 + 8 * 34) + 0)) (s2 := (1896 - (180 + 8 * 204) + 0)) B9 (pv_as (pv_L_capacity_n hI.1.2.1) (b_L_capacity hI)) mt_L_capacity ss_L_234 dL_members_466 rfl rfl rfl (by omega) (by omega) ?_
      refine pw_l (fun _ _ _ _ k => pm_stk (st' := [.int (-11)]) rfl k) ?_
      refine pw_l (fun _ _ _ _ k => pm_bipush (v := (-11)) B9 dL_members_469 (by decide) k) ?_
      refine pw_l (fun _ _ _ _ k => pm_icmp_ne (tgt := 548) B9 dL_members_471 (by decide) (fun h => absurd (by decide) h) (fun _ => k)) ?_
      refine pw_l (fun _ _ _ _ k => pm_aload_n B9 dL_members_474 rfl k) ?_
      refine pw_l (fun _ _ _ _ k => pm_iload_n B9 dL_members_475 rfl k) ?_
      refine pw_cSW (As := [.ref (z + 0), .int (nI n)]) (c2 := (316 - (32 + 8 * 34) + 0)) (s2 := (1896 - (192 + 8 * 204) + 0)) B9 (pv_as (pv_L_votes_n hI.1.2.1) (b_L_votes hI)) mt_L_votes ss_L_255 dL_members_476 rfl rfl rfl (by omega) (by omega) ?_
      refine pw_l (fun _ _ _ _ k => pm_stk (st' := [.int (-11)]) rfl k) ?_
      refine pw_l (fun _ _ _ _ k => pm_bipush (v := (-11)) B9 dL_members_479 (by decide) k) ?_
      refine pw_l (fun _ _ _ _ k => pm_icmp_ne (tgt := 548) B9 dL_members_481 (by decide) (fun h => absurd (by decide) h) (fun _ => k)) ?_
      refine pw_l (fun _ _ _ _ k => pm_aload_n B9 dL_members_484 rfl k) ?_
      refine pw_l (fun _ _ _ _ k => pm_iload_n B9 dL_members_485 rfl k) ?_
      refine pw_cSW (As := [.ref (z + 0), .int (nI n)]) (c2 := (316 - (34 + 8 * 34) + 0)) (s2 := (1896 - (204 + 8 * 204) + 0)) B9 (pv_as (pv_L_standing_n hI.1.2.1) (b_L_standing hI)) mt_L_standing ss_L_210 dL_members_486 rfl rfl rfl (by omega) (by omega) ?_
      refine pw_l (fun _ _ _ _ k => pm_stk (st' := [.int (-11)]) rfl k) ?_
      refine pw_l (fun _ _ _ _ k => pm_bipush (v := (-11)) B9 dL_members_489 (by decide) k) ?_
      refine pw_l (fun _ _ _ _ k => pm_icmp_ne (tgt := 548) B9 dL_members_491 (by decide) (fun h => absurd (by decide) h) (fun _ => k)) ?_
      refine pw_l (fun _ _ _ _ k => pm_aload_n B9 dL_members_494 rfl k) ?_
      refine pw_l (fun _ _ _ _ k => pm_iload_n B9 dL_members_495 rfl k) ?_
      refine pw_cSW (As := [.ref (z + 0), .int (nI n)]) (c2 := (316 - (36 + 8 * 34) + 0)) (s2 := (1896 - (216 + 8 * 204) + 0)) B9 (pv_as (pv_L_warnings_n hI.1.2.1) (b_L_warnings hI)) mt_L_warnings ss_L_212 dL_members_496 rfl rfl rfl (by omega) (by omega) ?_
      refine pw_l (fun _ _ _ _ k => pm_stk (st' := [.int (-11)]) rfl k) ?_
      refine pw_l (fun _ _ _ _ k => pm_bipush (v := (-11)) B9 dL_members_499 (by decide) k) ?_
      refine pw_l (fun _ _ _ _ k => pm_icmp_ne (tgt := 548) B9 dL_members_501 (by decide) (fun h => absurd (by decide) h) (fun _ => k)) ?_
      refine pw_l (fun _ _ _ _ k => pm_aload_n B9 dL_members_504 rfl k) ?_
      refine pw_l (fun _ _ _ _ k => pm_iconst (v := (-1)) B9 dL_members_505 (by decide) k) ?_
      refine pw_cSW (As := [.ref (z + 0), .int (-1)]) (c2 := (316 - (38 + 8 * 34) + 0)) (s2 := (1896 - (228 + 8 * 204) + 0)) B9 (pv_as pv_L_barred_z (b_L_barred hI)) mt_L_barred ss_L_214 dL_members_506 rfl rfl rfl (by omega) (by omega) ?_
      refine pw_l (fun _ _ _ _ k => pm_stk (st' := [.int (-11)]) rfl k) ?_
      refine pw_l (fun _ _ _ _ k => pm_bipush (v := (-11)) B9 dL_members_509 (by decide) k) ?_
      refine pw_l (fun _ _ _ _ k => pm_icmp_ne (tgt := 548) B9 dL_members_511 (by decide) (fun h => absurd (by decide) h) (fun _ => k)) ?_
      refine pw_l (fun _ _ _ _ k => pm_aload_n B9 dL_members_514 rfl k) ?_
      refine pw_l (fun _ _ _ _ k => pm_iload_n B9 dL_members_515 rfl k) ?_
      refine pw_cSW (As := [.ref (z + 0), .int (nI n)]) (c2 := (316 - (40 + 8 * 34) + 0)) (s2 := (1896 - (240 + 8 * 204) + 0)) B9 (pv_as (pv_L_quota_n hI.1.2.1) (b_L_quota hI)) mt_L_quota ss_L_219 dL_members_516 rfl rfl rfl (by omega) (by omega) ?_
      refine pw_l (fun _ _ _ _ k => pm_stk (st' := [.int (-11)]) rfl k) ?_
      refine pw_l (fun _ _ _ _ k => pm_bipush (v := (-11)) B9 dL_members_519 (by decide) k) ?_
      refine pw_l (fun _ _ _ _ k => pm_icmp_ne (tgt := 548) B9 dL_members_521 (by decide) (fun h => absurd (by decide) h) (fun _ => k)) ?_
      refine pw_l (fun _ _ _ _ k => pm_aload_n B9 dL_members_524 rfl k) ?_
      refine pw_l (fun _ _ _ _ k => pm_iload_n B9 dL_members_525 rfl k) ?_
      refine pw_cSW (As := [.ref (z + 0), .int (nI n)]) (c2 := (316 - (42 + 8 * 34) + 0)) (s2 := (1896 - (252 + 8 * 204) + 0)) B9 (pv_as (pv_L_sales_n hI.1.2.1) (b_L_sales hI)) mt_L_sales ss_L_217 dL_members_526 rfl rfl rfl (by omega) (by omega) ?_
      refine pw_l (fun _ _ _ _ k => pm_stk (st' := [.int (-11)]) rfl k) ?_
      refine pw_l (fun _ _ _ _ k => pm_bipush (v := (-11)) B9 dL_members_529 (by decide) k) ?_
      refine pw_l (fun _ _ _ _ k => pm_icmp_ne (tgt := 548) B9 dL_members_531 (by decide) (fun h => absurd (by decide) h) (fun _ => k)) ?_
      refine pw_l (fun _ _ _ _ k => pm_aload_n B9 dL_members_534 rfl k) ?_
      refine pw_l (fun _ _ _ _ k => pm_iload_n B9 dL_members_535 rfl k) ?_
      refine pw_cSW (As := [.ref (z + 0), .int (nI n)]) (c2 := (316 - (44 + 8 * 34) + 0)) (s2 := (1896 - (264 + 8 * 204) + 0)) B9 (pv_as (pv_L_excess_n hI.1.2.1) (b_L_excess hI)) mt_L_excess ss_L_232 dL_members_536 rfl rfl rfl (by omega) (by omega) ?_
      refine pw_l (fun _ _ _ _ k => pm_stk (st' := [.int (-11)]) rfl k) ?_
      refine pw_l (fun _ _ _ _ k => pm_bipush (v := (-11)) B9 dL_members_539 (by decide) k) ?_
      refine pw_l (fun _ _ _ _ k => pm_icmp_ne (tgt := 548) B9 dL_members_541 (by decide) (fun h => absurd (by decide) h) (fun _ => k)) ?_
      refine pw_l (fun _ _ _ _ k => pm_iconst (v := 1) B9 dL_members_544 (by decide) k) ?_
      refine pw_l (fun _ _ _ _ k => pm_goto (tgt := 549) B9 dL_members_545 (by decide) k) ?_
      exact fun cu su nx M h1 h2 hW => pm_ireturn B9 dL_members_549 rfl (rfl) ⟨rfl, hW⟩ (Nat.ble_eq_true_of_le (by omega)) (Nat.ble_eq_true_of_le (by omega))
  have loop1 : ∀ k1 j1 : Nat, j1 + k1 = n → ∀ (a2_1 : Int32), a2_1 = (w_L_members_1 n r 0 0 j1).1 → ∀ (a3_1 : Int32), a3_1 = (w_L_members_1 n r 0 0 j1).2 → pw_J l z D X 316 1896 (pm_Q z D (pw_P (some (.int 1)) (pw_W z kA kE (B, r, hs, u) ar)) 316 1896 X) (pw_W z kA kE (B, r, hs, u) ar) (k1 * 34 + (34 + (316 - (2 + 8 * 34) + 0))) (k1 * 204 + (204 + (1896 - (12 + 8 * 204) + 0))) 12 [some (.ref (z + 0)), some (.int (nI n)), some (.int a2_1), some (.int a3_1), some (.int (nI j1)), none, none, none, none, none, none, none, none] [] := by
    intro k1
    induction k1 with
    | zero =>
      intro j1 hj1 a2_1 ea2_1 a3_1 ea3_1
      have hjn1 : j1 = n := by omega
      refine pw_cr (c2 := (34 - (0) + (316 - (2 + 8 * 34) + 0))) (s2 := (204 - (0) + (1896 - (12 + 8 * 204) + 0))) (by omega) (by omega) ?_
      refine pw_l (fun _ _ _ _ k => pm_iload B9 dL_members_12 rfl k) ?_
      refine pw_l (fun _ _ _ _ k => pm_iload_n B9 dL_members_14 rfl k) ?_
      refine pw_l (fun _ _ _ _ k => pm_icmp_ge (tgt := 345) B9 dL_members_15 (by decide) (fun _ => k) (fun h => absurd ((by rw [show (nI n) = nI n from rfl, show (nI j1) = nI j1 from rfl]; exact (nI_leI (by omega) (by omega)).mpr (by omega))) h)) ?_
      refine pw_l (fun _ _ _ _ k => pm_wk (L' := [some (.ref (z + 0)), some (.int (nI n)), some (.int a2_1), some (.int a3_1), none, none, none, none, none, none, none, none, none]) ⟨rfl, ⟨rfl, ⟨rfl, ⟨rfl, trivial⟩⟩⟩⟩ k) ?_
      exact pw_cr (by omega) (by omega) (pw_eq (by first | with_reducible rfl | simp only [ea2_1, ea3_1, hjn1]) (by first | with_reducible rfl | simp only [ea2_1, ea3_1, hjn1]) rfl hx1)
    | succ k1 ih1 =>
      intro j1 hj1 a2_1 ea2_1 a3_1 ea3_1
      have hjn1 : j1 < n := by omega
      refine pw_cr (c2 := (34 - (0) + (k1 * 34 + (34 + (316 - (2 + 8 * 34) + 0))))) (s2 := (204 - (0) + (k1 * 204 + (204 + (1896 - (12 + 8 * 204) + 0))))) (by rw [Nat.succ_mul]; omega) (by rw [Nat.succ_mul]; omega) ?_
      refine pw_l (fun _ _ _ _ k => pm_iload B9 dL_members_12 rfl k) ?_
      refine pw_l (fun _ _ _ _ k => pm_iload_n B9 dL_members_14 rfl k) ?_
      refine pw_l (fun _ _ _ _ k => pm_icmp_ge (tgt := 345) B9 dL_members_15 (by decide) (fun h => absurd h ((by rw [show (nI n) = nI n from rfl, show (nI j1) = nI j1 from rfl]; exact fun e => absurd ((nI_leI (by omega) (by omega)).mp e) (by omega)))) (fun _ => k)) ?_
      refine pw_l (fun _ _ _ _ k => pm_aload_n B9 dL_members_18 rfl k) ?_
      refine pw_l (fun _ _ _ _ k => pm_iload B9 dL_members_19 rfl k) ?_
      refine pw_cSW (As := [.ref (z + 0), .int (nI j1)]) (c2 := (34 - (2) + (k1 * 34 + (34 + (316 - (2 + 8 * 34) + 0))))) (s2 := (204 - (12) + (k1 * 204 + (204 + (1896 - (12 + 8 * 204) + 0))))) B9 (pv_as (pv_L_standing_in (i := j1) (by omega) hI.1.2.1) (b_L_standing hI)) mt_L_standing ss_L_210 dL_members_21 rfl rfl rfl (by omega) (by omega) ?_
      refine pw_l (fun _ _ _ _ k => pm_stk (st' := [.int (pw_st r j1)]) rfl k) ?_
      refine pw_l (fun _ _ _ _ k => pm_istore B9 dL_members_24 rfl rfl k) ?_
      refine pw_l (fun _ _ _ _ k => pm_loc (L' := [some (.ref (z + 0)), some (.int (nI n)), some (.int a2_1), some (.int a3_1), some (.int (nI j1)), some (.int (pw_st r j1)), none, none, none, none, none, none, none]) rfl k) ?_
      refine pw_l (fun _ _ _ _ k => pm_aload_n B9 dL_members_26 rfl k) ?_
      refine pw_l (fun _ _ _ _ k => pm_iload B9 dL_members_27 rfl k) ?_
      refine pw_cSW (As := [.ref (z + 0), .int (nI j1)]) (c2 := (34 - (4) + (k1 * 34 + (34 + (316 - (2 + 8 * 34) + 0))))) (s2 := (204 - (24) + (k1 * 204 + (204 + (1896 - (12 + 8 * 204) + 0))))) B9 (pv_as (pv_L_warnings_in (i := j1) (by omega) hI.1.2.1) (b_L_warnings hI)) mt_L_warnings ss_L_212 dL_members_29 rfl rfl rfl (by omega) (by omega) ?_
      refine pw_l (fun _ _ _ _ k => pm_stk (st' := [.int (pw_wa r j1)]) rfl k) ?_
      refine pw_l (fun _ _ _ _ k => pm_istore B9 dL_members_32 rfl rfl k) ?_
      refine pw_l (fun _ _ _ _ k => pm_loc (L' := [some (.ref (z + 0)), some (.int (nI n)), some (.int a2_1), some (.int a3_1), some (.int (nI j1)), some (.int (pw_st r j1)), some (.int (pw_wa r j1)), none, none, none, none, none, none]) rfl k) ?_
      refine pw_l (fun _ _ _ _ k => pm_aload_n B9 dL_members_34 rfl k) ?_
      refine pw_l (fun _ _ _ _ k => pm_iload B9 dL_members_35 rfl k) ?_
      refine pw_cSW (As := [.ref (z + 0), .int (nI j1)]) (c2 := (34 - (6) + (k1 * 34 + (34 + (316 - (2 + 8 * 34) + 0))))) (s2 := (204 - (36) + (k1 * 204 + (204 + (1896 - (12 + 8 * 204) + 0))))) B9 (pv_as (pv_L_barred_in (i := j1) (by omega) hI.1.2.1) (b_L_barred hI)) mt_L_barred ss_L_214 dL_members_37 rfl rfl rfl (by omega) (by omega) ?_
      refine pw_l (fun _ _ _ _ k => pm_stk (st' := [.int (pw_ba r j1)]) rfl k) ?_
      refine pw_l (fun _ _ _ _ k => pm_istore B9 dL_members_40 rfl rfl k) ?_
      refine pw_l (fun _ _ _ _ k => pm_loc (L' := [some (.ref (z + 0)), some (.int (nI n)), some (.int a2_1), some (.int a3_1), some (.int (nI j1)), some (.int (pw_st r j1)), some (.int (pw_wa r j1)), some (.int (pw_ba r j1)), none, none, none, none, none]) rfl k) ?_
      refine pw_l (fun _ _ _ _ k => pm_iload B9 dL_members_42 rfl k) ?_
      refine pw_l (fun _ _ _ _ k => pm_bipush (v := 119) B9 dL_members_44 (by decide) k) ?_
      suffices hj34 : pw_J l z D X 316 1896 (pm_Q z D (pw_P (some (.int 1)) (pw_W z kA kE (B, r, hs, u) ar)) 316 1896 X) (pw_W z kA kE (B, r, hs, u) ar) (34 - (6) + (k1 * 34 + (34 + (316 - (2 + 8 * 34) + 0)))) (204 - (36) + (k1 * 204 + (204 + (1896 - (12 + 8 * 204) + 0)))) 54 [some (.ref (z + 0)), some (.int (nI n)), some (.int a2_1), some (.int a3_1), some (.int (nI j1)), some (.int (pw_st r j1)), some (.int (pw_wa r j1)), some (.int (pw_ba r j1)), none, none, none, none, none] [.int ((if (pw_st r j1) = 119 then 1 else 0) : Int32)] by
        refine pw_l2 (fun _ _ _ _ k1 k2 => pm_icmp_ne (tgt := 53) B9 dL_members_46 (by decide) k1 k2) (fun hq35 => ?_) (fun hq35 => ?_)
        · refine pw_l (fun _ _ _ _ k => pm_iconst (v := 0) B9 dL_members_53 (by decide) k) ?_
          exact pw_cr (by omega) (by omega) (pw_eq (by first | with_reducible rfl | ((try rw [if_neg hq35]); done) | simp only [if_neg hq35]) (by first | with_reducible rfl | ((try rw [if_neg hq35]); done) | simp only [if_neg hq35]) (by first | with_reducible rfl | ((try rw [if_neg hq35]); done) | simp only [if_neg hq35]) hj34)
        · refine pw_l (fun _ _ _ _ k => pm_iconst (v := 1) B9 dL_members_49 (by decide) k) ?_
          refine pw_l (fun _ _ _ _ k => pm_goto (tgt := 54) B9 dL_members_50 (by decide) k) ?_
          exact pw_cr (by omega) (by omega) (pw_eq (by first | with_reducible rfl | ((try rw [if_pos hq35]); done) | simp only [if_pos hq35]) (by first | with_reducible rfl | ((try rw [if_pos hq35]); done) | simp only [if_pos hq35]) (by first | with_reducible rfl | ((try rw [if_pos hq35]); done) | simp only [if_pos hq35]) hj34)
      refine pw_l (fun _ _ _ _ k => pm_iload B9 dL_members_54 rfl k) ?_
      suffices hj36 : pw_J l z D X 316 1896 (pm_Q z D (pw_P (some (.int 1)) (pw_W z kA kE (B, r, hs, u) ar)) 316 1896 X) (pw_W z kA kE (B, r, hs, u) ar) (34 - (6) + (k1 * 34 + (34 + (316 - (2 + 8 * 34) + 0)))) (204 - (36) + (k1 * 204 + (204 + (1896 - (12 + 8 * 204) + 0)))) 64 [some (.ref (z + 0)), some (.int (nI n)), some (.int a2_1), some (.int a3_1), some (.int (nI j1)), some (.int (pw_st r j1)), some (.int (pw_wa r j1)), some (.int (pw_ba r j1)), none, none, none, none, none] [.int ((if (pw_wa r j1) ≤ 0 then 0 else 1) : Int32), .int ((if (pw_st r j1) = 119 then 1 else 0) : Int32)] by
        refine pw_l2 (fun _ _ _ _ k1 k2 => pm_if_le (tgt := 63) B9 dL_members_56 (by decide) k1 k2) (fun hq37 => ?_) (fun hq37 => ?_)
        · refine pw_l (fun _ _ _ _ k => pm_iconst (v := 0) B9 dL_members_63 (by decide) k) ?_
          exact pw_cr (by omega) (by omega) (pw_eq (by first | with_reducible rfl | ((try rw [if_pos hq37]); done) | simp only [if_pos hq37]) (by first | with_reducible rfl | ((try rw [if_pos hq37]); done) | simp only [if_pos hq37]) (by first | with_reducible rfl | ((try rw [if_pos hq37]); done) | simp only [if_pos hq37]) hj36)
        · refine pw_l (fun _ _ _ _ k => pm_iconst (v := 1) B9 dL_members_59 (by decide) k) ?_
          refine pw_l (fun _ _ _ _ k => pm_goto (tgt := 64) B9 dL_members_60 (by decide) k) ?_
          exact pw_cr (by omega) (by omega) (pw_eq (by first | with_reducible rfl | ((try rw [if_neg hq37]); done) | simp only [if_neg hq37]) (by first | with_reducible rfl | ((try rw [if_neg hq37]); done) | simp only [if_neg hq37]) (by first | with_reducible rfl | ((try rw [if_neg hq37]); done) | simp only [if_neg hq37]) hj36)
      suffices hj38 : pw_J l z D X 316 1896 (pm_Q z D (pw_P (some (.int 1)) (pw_W z kA kE (B, r, hs, u) ar)) 316 1896 X) (pw_W z kA kE (B, r, hs, u) ar) (34 - (6) + (k1 * 34 + (34 + (316 - (2 + 8 * 34) + 0)))) (204 - (36) + (k1 * 204 + (204 + (1896 - (12 + 8 * 204) + 0)))) 158 [some (.ref (z + 0)), some (.int (nI n)), some (.int a2_1), some (.int a3_1), some (.int (nI j1)), none, none, none, none, none, none, none, none] [.int ((if ((if (pw_st r j1) = 119 then 1 else 0) : Int32) = ((if (pw_wa r j1) ≤ 0 then 0 else 1) : Int32) then (if ((if (pw_st r j1) = 98 then 1 else 0) : Int32) = ((if (pw_ba r j1) ≤ 0 then 0 else 1) : Int32) then (if 2 < (pw_wa r j1) then 0 else (if 2 < (pw_ba r j1) then 0 else (if (pw_st r j1) = 119 then (if (pw_st r j1) = 98 then 1 else (if (pw_ba r j1) = (-13) then 1 else 0)) else (if (pw_wa r j1) = (-13) then (if (pw_st r j1) = 98 then 1 else (if (pw_ba r j1) = (-13) then (if (pw_st r j1) = 108 then 1 else 0) else 0)) else 0)))) else 0) else 0) : Int32)] by
        refine pw_l2 (fun _ _ _ _ k1 k2 => pm_icmp_ne (tgt := 157) B9 dL_members_64 (by decide) k1 k2) (fun hq39 => ?_) (fun hq39 => ?_)
        · refine pw_l (fun _ _ _ _ k => pm_iconst (v := 0) B9 dL_members_157 (by decide) k) ?_
          refine pw_l (fun _ _ _ _ k => pm_wk (L' := [some (.ref (z + 0)), some (.int (nI n)), some (.int a2_1), some (.int a3_1), some (.int (nI j1)), none, none, none, none, none, none, none, none]) ⟨rfl, ⟨rfl, ⟨rfl, ⟨rfl, ⟨rfl, trivial⟩⟩⟩⟩⟩ k) ?_
          exact pw_cr (by omega) (by omega) (pw_eq (by first | with_reducible rfl | ((try rw [if_neg hq39]); done) | simp only [if_neg hq39]) (by first | with_reducible rfl | ((try rw [if_neg hq39]); done) | simp only [if_neg hq39]) (by first | with_reducible rfl | ((try rw [if_neg hq39]); done) | simp only [if_neg hq39]) hj38)
        · refine pw_l (fun _ _ _ _ k => pm_iload B9 dL_members_67 rfl k) ?_
          refine pw_l (fun _ _ _ _ k => pm_bipush (v := 98) B9 dL_members_69 (by decide) k) ?_
          suffices hj40 : pw_J l z D X 316 1896 (pm_Q z D (pw_P (some (.int 1)) (pw_W z kA kE (B, r, hs, u) ar)) 316 1896 X) (pw_W z kA kE (B, r, hs, u) ar) (34 - (6) + (k1 * 34 + (34 + (316 - (2 + 8 * 34) + 0)))) (204 - (36) + (k1 * 204 + (204 + (1896 - (12 + 8 * 204) + 0)))) 79 [some (.ref (z + 0)), some (.int (nI n)), some (.int a2_1), some (.int a3_1), some (.int (nI j1)), some (.int (pw_st r j1)), some (.int (pw_wa r j1)), some (.int (pw_ba r j1)), none, none, none, none, none] [.int ((if (pw_st r j1) = 98 then 1 else 0) : Int32)] by
            refine pw_l2 (fun _ _ _ _ k1 k2 => pm_icmp_ne (tgt := 78) B9 dL_members_71 (by decide) k1 k2) (fun hq41 => ?_) (fun hq41 => ?_)
            · refine pw_l (fun _ _ _ _ k => pm_iconst (v := 0) B9 dL_members_78 (by decide) k) ?_
              exact pw_cr (by omega) (by omega) (pw_eq (by first | with_reducible rfl | ((try rw [if_neg hq41]); done) | simp only [if_neg hq41]) (by first | with_reducible rfl | ((try rw [if_neg hq41]); done) | simp only [if_neg hq41]) (by first | with_reducible rfl | ((try rw [if_neg hq41]); done) | simp only [if_neg hq41]) hj40)
            · refine pw_l (fun _ _ _ _ k => pm_iconst (v := 1) B9 dL_members_74 (by decide) k) ?_
              refine pw_l (fun _ _ _ _ k => pm_goto (tgt := 79) B9 dL_members_75 (by decide) k) ?_
              exact pw_cr (by omega) (by omega) (pw_eq (by first | with_reducible rfl | ((try rw [if_pos hq41]); done) | simp only [if_pos hq41]) (by first | with_reducible rfl | ((try rw [if_pos hq41]); done) | simp only [if_pos hq41]) (by first | with_reducible rfl | ((try rw [if_pos hq41]); done) | simp only [if_pos hq41]) hj40)
          refine pw_l (fun _ _ _ _ k => pm_iload B9 dL_members_79 rfl k) ?_
          suffices hj42 : pw_J l z D X 316 1896 (pm_Q z D (pw_P (some (.int 1)) (pw_W z kA kE (B, r, hs, u) ar)) 316 1896 X) (pw_W z kA kE (B, r, hs, u) ar) (34 - (6) + (k1 * 34 + (34 + (316 - (2 + 8 * 34) + 0)))) (204 - (36) + (k1 * 204 + (204 + (1896 - (12 + 8 * 204) + 0)))) 89 [some (.ref (z + 0)), some (.int (nI n)), some (.int a2_1), some (.int a3_1), some (.int (nI j1)), some (.int (pw_st r j1)), some (.int (pw_wa r j1)), some (.int (pw_ba r j1)), none, none, none, none, none] [.int ((if (pw_ba r j1) ≤ 0 then 0 else 1) : Int32), .int ((if (pw_st r j1) = 98 then 1 else 0) : Int32)] by
            refine pw_l2 (fun _ _ _ _ k1 k2 => pm_if_le (tgt := 88) B9 dL_members_81 (by decide) k1 k2) (fun hq43 => ?_) (fun hq43 => ?_)
            · refine pw_l (fun _ _ _ _ k => pm_iconst (v := 0) B9 dL_members_88 (by decide) k) ?_
              exact pw_cr (by omega) (by omega) (pw_eq (by first | with_reducible rfl | ((try rw [if_pos hq43]); done) | simp only [if_pos hq43]) (by first | with_reducible rfl | ((try rw [if_pos hq43]); done) | simp only [if_pos hq43]) (by first | with_reducible rfl | ((try rw [if_pos hq43]); done) | simp only [if_pos hq43]) hj42)
            · refine pw_l (fun _ _ _ _ k => pm_iconst (v := 1) B9 dL_members_84 (by decide) k) ?_
              refine pw_l (fun _ _ _ _ k => pm_goto (tgt := 89) B9 dL_members_85 (by decide) k) ?_
              exact pw_cr (by omega) (by omega) (pw_eq (by first | with_reducible rfl | ((try rw [if_neg hq43]); done) | simp only [if_neg hq43]) (by first | with_reducible rfl | ((try rw [if_neg hq43]); done) | simp only [if_neg hq43]) (by first | with_reducible rfl | ((try rw [if_neg hq43]); done) | simp only [if_neg hq43]) hj42)
          refine pw_l2 (fun _ _ _ _ k1 k2 => pm_icmp_ne (tgt := 157) B9 dL_members_89 (by decide) k1 k2) (fun hq44 => ?_) (fun hq44 => ?_)
          · refine pw_l (fun _ _ _ _ k => pm_iconst (v := 0) B9 dL_members_157 (by decide) k) ?_
            refine pw_l (fun _ _ _ _ k => pm_wk (L' := [some (.ref (z + 0)), some (.int (nI n)), some (.int a2_1), some (.int a3_1), some (.int (nI j1)), none, none, none, none, none, none, none, none]) ⟨rfl, ⟨rfl, ⟨rfl, ⟨rfl, ⟨rfl, trivial⟩⟩⟩⟩⟩ k) ?_
            exact pw_cr (by omega) (by omega) (pw_eq (by first | with_reducible rfl | ((try rw [if_pos hq39]); (try rw [if_neg hq44]); done) | simp only [if_pos hq39, if_neg hq44]) (by first | with_reducible rfl | ((try rw [if_pos hq39]); (try rw [if_neg hq44]); done) | simp only [if_pos hq39, if_neg hq44]) (by first | with_reducible rfl | ((try rw [if_pos hq39]); (try rw [if_neg hq44]); done) | simp only [if_pos hq39, if_neg hq44]) hj38)
          · refine pw_l (fun _ _ _ _ k => pm_iload B9 dL_members_92 rfl k) ?_
            refine pw_l (fun _ _ _ _ k => pm_iconst (v := 2) B9 dL_members_94 (by decide) k) ?_
            refine pw_l2 (fun _ _ _ _ k1 k2 => pm_icmp_gt (tgt := 157) B9 dL_members_95 (by decide) k1 k2) (fun hq45 => ?_) (fun hq45 => ?_)
            · refine pw_l (fun _ _ _ _ k => pm_iconst (v := 0) B9 dL_members_157 (by decide) k) ?_
              refine pw_l (fun _ _ _ _ k => pm_wk (L' := [some (.ref (z + 0)), some (.int (nI n)), some (.int a2_1), some (.int a3_1), some (.int (nI j1)), none, none, none, none, none, none, none, none]) ⟨rfl, ⟨rfl, ⟨rfl, ⟨rfl, ⟨rfl, trivial⟩⟩⟩⟩⟩ k) ?_
              exact pw_cr (by omega) (by omega) (pw_eq (by first | with_reducible rfl | ((try rw [if_pos hq39]); (try rw [if_pos hq44]); (try rw [if_pos hq45]); done) | simp only [if_pos hq39, if_pos hq44, if_pos hq45]) (by first | with_reducible rfl | ((try rw [if_pos hq39]); (try rw [if_pos hq44]); (try rw [if_pos hq45]); done) | simp only [if_pos hq39, if_pos hq44, if_pos hq45]) (by first | with_reducible rfl | ((try rw [if_pos hq39]); (try rw [if_pos hq44]); (try rw [if_pos hq45]); done) | simp only [if_pos hq39, if_pos hq44, if_pos hq45]) hj38)
            · refine pw_l (fun _ _ _ _ k => pm_iload B9 dL_members_98 rfl k) ?_
              refine pw_l (fun _ _ _ _ k => pm_iconst (v := 2) B9 dL_members_100 (by decide) k) ?_
              refine pw_l2 (fun _ _ _ _ k1 k2 => pm_icmp_gt (tgt := 157) B9 dL_members_101 (by decide) k1 k2) (fun hq46 => ?_) (fun hq46 => ?_)
              · refine pw_l (fun _ _ _ _ k => pm_iconst (v := 0) B9 dL_members_157 (by decide) k) ?_
                refine pw_l (fun _ _ _ _ k => pm_wk (L' := [some (.ref (z + 0)), some (.int (nI n)), some (.int a2_1), some (.int a3_1), some (.int (nI j1)), none, none, none, none, none, none, none, none]) ⟨rfl, ⟨rfl, ⟨rfl, ⟨rfl, ⟨rfl, trivial⟩⟩⟩⟩⟩ k) ?_
                exact pw_cr (by omega) (by omega) (pw_eq (by first | with_reducible rfl | ((try rw [if_pos hq39]); (try rw [if_pos hq44]); (try rw [if_neg hq45]); (try rw [if_pos hq46]); done) | simp only [if_pos hq39, if_pos hq44, if_neg hq45, if_pos hq46]) (by first | with_reducible rfl | ((try rw [if_pos hq39]); (try rw [if_pos hq44]); (try rw [if_neg hq45]); (try rw [if_pos hq46]); done) | simp only [if_pos hq39, if_pos hq44, if_neg hq45, if_pos hq46]) (by first | with_reducible rfl | ((try rw [if_pos hq39]); (try rw [if_pos hq44]); (try rw [if_neg hq45]); (try rw [if_pos hq46]); done) | simp only [if_pos hq39, if_pos hq44, if_neg hq45, if_pos hq46]) hj38)
              · refine pw_l (fun _ _ _ _ k => pm_iload B9 dL_members_104 rfl k) ?_
                refine pw_l (fun _ _ _ _ k => pm_bipush (v := 119) B9 dL_members_106 (by decide) k) ?_
                refine pw_l2 (fun _ _ _ _ k1 k2 => pm_icmp_eq (tgt := 118) B9 dL_members_108 (by decide) k1 k2) (fun hq47 => ?_) (fun hq47 => ?_)
                · refine pw_l (fun _ _ _ _ k => pm_iload B9 dL_members_118 rfl k) ?_
                  refine pw_l (fun _ _ _ _ k => pm_bipush (v := 98) B9 dL_members_120 (by decide) k) ?_
                  refine pw_l2 (fun _ _ _ _ k1 k2 => pm_icmp_eq (tgt := 132) B9 dL_members_122 (by decide) k1 k2) (fun hq48 => ?_) (fun hq48 => ?_)
                  · refine pw_l (fun _ _ _ _ k => pm_iload B9 dL_members_132 rfl k) ?_
                    refine pw_l (fun _ _ _ _ k => pm_bipush (v := 108) B9 dL_members_134 (by decide) k) ?_
                    refine pw_l2 (fun _ _ _ _ k1 k2 => pm_icmp_eq (tgt := 153) B9 dL_members_136 (by decide) k1 k2) (fun hq49 => ?_) (fun hq49 => ?_)
                    · refine pw_l (fun _ _ _ _ k => pm_iconst (v := 1) B9 dL_members_153 (by decide) k) ?_
                      refine pw_l (fun _ _ _ _ k => pm_goto (tgt := 158) B9 dL_members_154 (by decide) k) ?_
                      refine pw_l (fun _ _ _ _ k => pm_wk (L' := [some (.ref (z + 0)), some (.int (nI n)), some (.int a2_1), some (.int a3_1), some (.int (nI j1)), none, none, none, none, none, none, none, none]) ⟨rfl, ⟨rfl, ⟨rfl, ⟨rfl, ⟨rfl, trivial⟩⟩⟩⟩⟩ k) ?_
                      exact pw_cr (by omega) (by omega) (pw_eq (by first | with_reducible rfl | ((try rw [if_pos hq39]); (try rw [if_pos hq44]); (try rw [if_neg hq45]); (try rw [if_neg hq46]); (try rw [if_pos hq47]); (try rw [if_pos hq48]); (try rw [if_pos hq49]); done) | simp only [if_pos hq39, if_pos hq44, if_neg hq45, if_neg hq46, if_pos hq47, if_pos hq48, if_pos hq49]) (by first | with_reducible rfl | ((try rw [if_pos hq39]); (try rw [if_pos hq44]); (try rw [if_neg hq45]); (try rw [if_neg hq46]); (try rw [if_pos hq47]); (try rw [if_pos hq48]); (try rw [if_pos hq49]); done) | simp only [if_pos hq39, if_pos hq44, if_neg hq45, if_neg hq46, if_pos hq47, if_pos hq48, if_pos hq49]) (by first | with_reducible rfl | ((try rw [if_pos hq39]); (try rw [if_pos hq44]); (try rw [if_neg hq45]); (try rw [if_neg hq46]); (try rw [if_pos hq47]); (try rw [if_pos hq48]); (try rw [if_pos hq49]); done) | simp only [if_pos hq39, if_pos hq44, if_neg hq45, if_neg hq46, if_pos hq47, if_pos hq48, if_pos hq49]) hj38)
                    · refine pw_l (fun _ _ _ _ k => pm_iload B9 dL_members_139 rfl k) ?_
                      refine pw_l (fun _ _ _ _ k => pm_bipush (v := 119) B9 dL_members_141 (by decide) k) ?_
                      refine pw_l (fun _ _ _ _ k => pm_icmp_eq (tgt := 153) B9 dL_members_143 (by decide) (fun _ => k) (fun h => absurd (hq47) h)) ?_
                      refine pw_l (fun _ _ _ _ k => pm_iconst (v := 1) B9 dL_members_153 (by decide) k) ?_
                      refine pw_l (fun _ _ _ _ k => pm_goto (tgt := 158) B9 dL_members_154 (by decide) k) ?_
                      refine pw_l (fun _ _ _ _ k => pm_wk (L' := [some (.ref (z + 0)), some (.int (nI n)), some (.int a2_1), some (.int a3_1), some (.int (nI j1)), none, none, none, none, none, none, none, none]) ⟨rfl, ⟨rfl, ⟨rfl, ⟨rfl, ⟨rfl, trivial⟩⟩⟩⟩⟩ k) ?_
                      exact pw_cr (by omega) (by omega) (pw_eq (by first | with_reducible rfl | ((try rw [if_pos hq39]); (try rw [if_pos hq44]); (try rw [if_neg hq45]); (try rw [if_neg hq46]); (try rw [if_pos hq47]); (try rw [if_pos hq48]); (try rw [if_neg hq49]); done) | simp only [if_pos hq39, if_pos hq44, if_neg hq45, if_neg hq46, if_pos hq47, if_pos hq48, if_neg hq49]) (by first | with_reducible rfl | ((try rw [if_pos hq39]); (try rw [if_pos hq44]); (try rw [if_neg hq45]); (try rw [if_neg hq46]); (try rw [if_pos hq47]); (try rw [if_pos hq48]); (try rw [if_neg hq49]); done) | simp only [if_pos hq39, if_pos hq44, if_neg hq45, if_neg hq46, if_pos hq47, if_pos hq48, if_neg hq49]) (by first | with_reducible rfl | ((try rw [if_pos hq39]); (try rw [if_pos hq44]); (try rw [if_neg hq45]); (try rw [if_neg hq46]); (try rw [if_pos hq47]); (try rw [if_pos hq48]); (try rw [if_neg hq49]); done) | simp only [if_pos hq39, if_pos hq44, if_neg hq45, if_neg hq46, if_pos hq47, if_pos hq48, if_neg hq49]) hj38)
                  · refine pw_l (fun _ _ _ _ k => pm_iload B9 dL_members_125 rfl k) ?_
                    refine pw_l (fun _ _ _ _ k => pm_bipush (v := (-13)) B9 dL_members_127 (by decide) k) ?_
                    refine pw_l2 (fun _ _ _ _ k1 k2 => pm_icmp_ne (tgt := 157) B9 dL_members_129 (by decide) k1 k2) (fun hq51 => ?_) (fun hq51 => ?_)
                    · refine pw_l (fun _ _ _ _ k => pm_iconst (v := 0) B9 dL_members_157 (by decide) k) ?_
                      refine pw_l (fun _ _ _ _ k => pm_wk (L' := [some (.ref (z + 0)), some (.int (nI n)), some (.int a2_1), some (.int a3_1), some (.int (nI j1)), none, none, none, none, none, none, none, none]) ⟨rfl, ⟨rfl, ⟨rfl, ⟨rfl, ⟨rfl, trivial⟩⟩⟩⟩⟩ k) ?_
                      exact pw_cr (by omega) (by omega) (pw_eq (by first | with_reducible rfl | ((try rw [if_pos hq39]); (try rw [if_pos hq44]); (try rw [if_neg hq45]); (try rw [if_neg hq46]); (try rw [if_pos hq47]); (try rw [if_neg hq48]); (try rw [if_neg hq51]); done) | simp only [if_pos hq39, if_pos hq44, if_neg hq45, if_neg hq46, if_pos hq47, if_neg hq48, if_neg hq51]) (by first | with_reducible rfl | ((try rw [if_pos hq39]); (try rw [if_pos hq44]); (try rw [if_neg hq45]); (try rw [if_neg hq46]); (try rw [if_pos hq47]); (try rw [if_neg hq48]); (try rw [if_neg hq51]); done) | simp only [if_pos hq39, if_pos hq44, if_neg hq45, if_neg hq46, if_pos hq47, if_neg hq48, if_neg hq51]) (by first | with_reducible rfl | ((try rw [if_pos hq39]); (try rw [if_pos hq44]); (try rw [if_neg hq45]); (try rw [if_neg hq46]); (try rw [if_pos hq47]); (try rw [if_neg hq48]); (try rw [if_neg hq51]); done) | simp only [if_pos hq39, if_pos hq44, if_neg hq45, if_neg hq46, if_pos hq47, if_neg hq48, if_neg hq51]) hj38)
                    · refine pw_l (fun _ _ _ _ k => pm_iload B9 dL_members_132 rfl k) ?_
                      refine pw_l (fun _ _ _ _ k => pm_bipush (v := 108) B9 dL_members_134 (by decide) k) ?_
                      refine pw_l2 (fun _ _ _ _ k1 k2 => pm_icmp_eq (tgt := 153) B9 dL_members_136 (by decide) k1 k2) (fun hq52 => ?_) (fun hq52 => ?_)
                      · refine pw_l (fun _ _ _ _ k => pm_iconst (v := 1) B9 dL_members_153 (by decide) k) ?_
                        refine pw_l (fun _ _ _ _ k => pm_goto (tgt := 158) B9 dL_members_154 (by decide) k) ?_
                        refine pw_l (fun _ _ _ _ k => pm_wk (L' := [some (.ref (z + 0)), some (.int (nI n)), some (.int a2_1), some (.int a3_1), some (.int (nI j1)), none, none, none, none, none, none, none, none]) ⟨rfl, ⟨rfl, ⟨rfl, ⟨rfl, ⟨rfl, trivial⟩⟩⟩⟩⟩ k) ?_
                        exact pw_cr (by omega) (by omega) (pw_eq (by first | with_reducible rfl | ((try rw [if_pos hq39]); (try rw [if_pos hq44]); (try rw [if_neg hq45]); (try rw [if_neg hq46]); (try rw [if_pos hq47]); (try rw [if_neg hq48]); (try rw [if_pos hq51]); (try rw [if_pos hq52]); done) | simp only [if_pos hq39, if_pos hq44, if_neg hq45, if_neg hq46, if_pos hq47, if_neg hq48, if_pos hq51, if_pos hq52]) (by first | with_reducible rfl | ((try rw [if_pos hq39]); (try rw [if_pos hq44]); (try rw [if_neg hq45]); (try rw [if_neg hq46]); (try rw [if_pos hq47]); (try rw [if_neg hq48]); (try rw [if_pos hq51]); (try rw [if_pos hq52]); done) | simp only [if_pos hq39, if_pos hq44, if_neg hq45, if_neg hq46, if_pos hq47, if_neg hq48, if_pos hq51, if_pos hq52]) (by first | with_reducible rfl | ((try rw [if_pos hq39]); (try rw [if_pos hq44]); (try rw [if_neg hq45]); (try rw [if_neg hq46]); (try rw [if_pos hq47]); (try rw [if_neg hq48]); (try rw [if_pos hq51]); (try rw [if_pos hq52]); done) | simp only [if_pos hq39, if_pos hq44, if_neg hq45, if_neg hq46, if_pos hq47, if_neg hq48, if_pos hq51, if_pos hq52]) hj38)
                      · refine pw_l (fun _ _ _ _ k => pm_iload B9 dL_members_139 rfl k) ?_
                        refine pw_l (fun _ _ _ _ k => pm_bipush (v := 119) B9 dL_members_141 (by decide) k) ?_
                        refine pw_l (fun _ _ _ _ k => pm_icmp_eq (tgt := 153) B9 dL_members_143 (by decide) (fun _ => k) (fun h => absurd (hq47) h)) ?_
                        refine pw_l (fun _ _ _ _ k => pm_iconst (v := 1) B9 dL_members_153 (by decide) k) ?_
                        refine pw_l (fun _ _ _ _ k => pm_goto (tgt := 158) B9 dL_members_154 (by decide) k) ?_
                        refine pw_l (fun _ _ _ _ k => pm_wk (L' := [some (.ref (z + 0)), some (.int (nI n)), some (.int a2_1), some (.int a3_1), some (.int (nI j1)), none, none, none, none, none, none, none, none]) ⟨rfl, ⟨rfl, ⟨rfl, ⟨rfl, ⟨rfl, trivial⟩⟩⟩⟩⟩ k) ?_
                        exact pw_cr (by omega) (by omega) (pw_eq (by first | with_reducible rfl | ((try rw [if_pos hq39]); (try rw [if_pos hq44]); (try rw [if_neg hq45]); (try rw [if_neg hq46]); (try rw [if_pos hq47]); (try rw [if_neg hq48]); (try rw [if_pos hq51]); (try rw [if_neg hq52]); done) | simp only [if_pos hq39, if_pos hq44, if_neg hq45, if_neg hq46, if_pos hq47, if_neg hq48, if_pos hq51, if_neg hq52]) (by first | with_reducible rfl | ((try rw [if_pos hq39]); (try rw [if_pos hq44]); (try rw [if_neg hq45]); (try rw [if_neg hq46]); (try rw [if_pos hq47]); (try rw [if_neg hq48]); (try rw [if_pos hq51]); (try rw [if_neg hq52]); done) | simp only [if_pos hq39, if_pos hq44, if_neg hq45, if_neg hq46, if_pos hq47, if_neg hq48, if_pos hq51, if_neg hq52]) (by first | with_reducible rfl | ((try rw [if_pos hq39]); (try rw [if_pos hq44]); (try rw [if_neg hq45]); (try rw [if_neg hq46]); (try rw [if_pos hq47]); (try rw [if_neg hq48]); (try rw [if_pos hq51]); (try rw [if_neg hq52]); done) | simp only [if_pos hq39, if_pos hq44, if_neg hq45, if_neg hq46, if_pos hq47, if_neg hq48, if_pos hq51, if_neg hq52]) hj38)
                · refine pw_l (fun _ _ _ _ k => pm_iload B9 dL_members_111 rfl k) ?_
                  refine pw_l (fun _ _ _ _ k => pm_bipush (v := (-13)) B9 dL_members_113 (by decide) k) ?_
                  refine pw_l2 (fun _ _ _ _ k1 k2 => pm_icmp_ne (tgt := 157) B9 dL_members_115 (by decide) k1 k2) (fun hq54 => ?_) (fun hq54 => ?_)
                  · refine pw_l (fun _ _ _ _ k => pm_iconst (v := 0) B9 dL_members_157 (by decide) k) ?_
                    refine pw_l (fun _ _ _ _ k => pm_wk (L' := [some (.ref (z + 0)), some (.int (nI n)), some (.int a2_1), some (.int a3_1), some (.int (nI j1)), none, none, none, none, none, none, none, none]) ⟨rfl, ⟨rfl, ⟨rfl, ⟨rfl, ⟨rfl, trivial⟩⟩⟩⟩⟩ k) ?_
                    exact pw_cr (by omega) (by omega) (pw_eq (by first | with_reducible rfl | ((try rw [if_pos hq39]); (try rw [if_pos hq44]); (try rw [if_neg hq45]); (try rw [if_neg hq46]); (try rw [if_neg hq47]); (try rw [if_neg hq54]); done) | simp only [if_pos hq39, if_pos hq44, if_neg hq45, if_neg hq46, if_neg hq47, if_neg hq54]) (by first | with_reducible rfl | ((try rw [if_pos hq39]); (try rw [if_pos hq44]); (try rw [if_neg hq45]); (try rw [if_neg hq46]); (try rw [if_neg hq47]); (try rw [if_neg hq54]); done) | simp only [if_pos hq39, if_pos hq44, if_neg hq45, if_neg hq46, if_neg hq47, if_neg hq54]) (by first | with_reducible rfl | ((try rw [if_pos hq39]); (try rw [if_pos hq44]); (try rw [if_neg hq45]); (try rw [if_neg hq46]); (try rw [if_neg hq47]); (try rw [if_neg hq54]); done) | simp only [if_pos hq39, if_pos hq44, if_neg hq45, if_neg hq46, if_neg hq47, if_neg hq54]) hj38)
                  · refine pw_l (fun _ _ _ _ k => pm_iload B9 dL_members_118 rfl k) ?_
                    refine pw_l (fun _ _ _ _ k => pm_bipush (v := 98) B9 dL_members_120 (by decide) k) ?_
                    refine pw_l2 (fun _ _ _ _ k1 k2 => pm_icmp_eq (tgt := 132) B9 dL_members_122 (by decide) k1 k2) (fun hq55 => ?_) (fun hq55 => ?_)
                    · refine pw_l (fun _ _ _ _ k => pm_iload B9 dL_members_132 rfl k) ?_
                      refine pw_l (fun _ _ _ _ k => pm_bipush (v := 108) B9 dL_members_134 (by decide) k) ?_
                      refine pw_l2 (fun _ _ _ _ k1 k2 => pm_icmp_eq (tgt := 153) B9 dL_members_136 (by decide) k1 k2) (fun hq56 => ?_) (fun hq56 => ?_)
                      · refine pw_l (fun _ _ _ _ k => pm_iconst (v := 1) B9 dL_members_153 (by decide) k) ?_
                        refine pw_l (fun _ _ _ _ k => pm_goto (tgt := 158) B9 dL_members_154 (by decide) k) ?_
                        refine pw_l (fun _ _ _ _ k => pm_wk (L' := [some (.ref (z + 0)), some (.int (nI n)), some (.int a2_1), some (.int a3_1), some (.int (nI j1)), none, none, none, none, none, none, none, none]) ⟨rfl, ⟨rfl, ⟨rfl, ⟨rfl, ⟨rfl, trivial⟩⟩⟩⟩⟩ k) ?_
                        exact pw_cr (by omega) (by omega) (pw_eq (by first | with_reducible rfl | ((try rw [if_pos hq39]); (try rw [if_pos hq44]); (try rw [if_neg hq45]); (try rw [if_neg hq46]); (try rw [if_neg hq47]); (try rw [if_pos hq54]); (try rw [if_pos hq55]); (try rw [if_pos hq56]); done) | simp only [if_pos hq39, if_pos hq44, if_neg hq45, if_neg hq46, if_neg hq47, if_pos hq54, if_pos hq55, if_pos hq56]) (by first | with_reducible rfl | ((try rw [if_pos hq39]); (try rw [if_pos hq44]); (try rw [if_neg hq45]); (try rw [if_neg hq46]); (try rw [if_neg hq47]); (try rw [if_pos hq54]); (try rw [if_pos hq55]); (try rw [if_pos hq56]); done) | simp only [if_pos hq39, if_pos hq44, if_neg hq45, if_neg hq46, if_neg hq47, if_pos hq54, if_pos hq55, if_pos hq56]) (by first | with_reducible rfl | ((try rw [if_pos hq39]); (try rw [if_pos hq44]); (try rw [if_neg hq45]); (try rw [if_neg hq46]); (try rw [if_neg hq47]); (try rw [if_pos hq54]); (try rw [if_pos hq55]); (try rw [if_pos hq56]); done) | simp only [if_pos hq39, if_pos hq44, if_neg hq45, if_neg hq46, if_neg hq47, if_pos hq54, if_pos hq55, if_pos hq56]) hj38)
                      · refine pw_l (fun _ _ _ _ k => pm_iload B9 dL_members_139 rfl k) ?_
                        refine pw_l (fun _ _ _ _ k => pm_bipush (v := 119) B9 dL_members_141 (by decide) k) ?_
                        refine pw_l (fun _ _ _ _ k => pm_icmp_eq (tgt := 153) B9 dL_members_143 (by decide) (fun h => absurd h (hq47)) (fun _ => k)) ?_
                        refine pw_l (fun _ _ _ _ k => pm_iload B9 dL_members_146 rfl k) ?_
                        refine pw_l (fun _ _ _ _ k => pm_bipush (v := 98) B9 dL_members_148 (by decide) k) ?_
                        refine pw_l (fun _ _ _ _ k => pm_icmp_ne (tgt := 157) B9 dL_members_150 (by decide) (fun h => absurd (hq55) h) (fun _ => k)) ?_
                        refine pw_l (fun _ _ _ _ k => pm_iconst (v := 1) B9 dL_members_153 (by decide) k) ?_
                        refine pw_l (fun _ _ _ _ k => pm_goto (tgt := 158) B9 dL_members_154 (by decide) k) ?_
                        refine pw_l (fun _ _ _ _ k => pm_wk (L' := [some (.ref (z + 0)), some (.int (nI n)), some (.int a2_1), some (.int a3_1), some (.int (nI j1)), none, none, none, none, none, none, none, none]) ⟨rfl, ⟨rfl, ⟨rfl, ⟨rfl, ⟨rfl, trivial⟩⟩⟩⟩⟩ k) ?_
                        exact pw_cr (by omega) (by omega) (pw_eq (by first | with_reducible rfl | ((try rw [if_pos hq39]); (try rw [if_pos hq44]); (try rw [if_neg hq45]); (try rw [if_neg hq46]); (try rw [if_neg hq47]); (try rw [if_pos hq54]); (try rw [if_pos hq55]); (try rw [if_neg hq56]); done) | simp only [if_pos hq39, if_pos hq44, if_neg hq45, if_neg hq46, if_neg hq47, if_pos hq54, if_pos hq55, if_neg hq56]) (by first | with_reducible rfl | ((try rw [if_pos hq39]); (try rw [if_pos hq44]); (try rw [if_neg hq45]); (try rw [if_neg hq46]); (try rw [if_neg hq47]); (try rw [if_pos hq54]); (try rw [if_pos hq55]); (try rw [if_neg hq56]); done) | simp only [if_pos hq39, if_pos hq44, if_neg hq45, if_neg hq46, if_neg hq47, if_pos hq54, if_pos hq55, if_neg hq56]) (by first | with_reducible rfl | ((try rw [if_pos hq39]); (try rw [if_pos hq44]); (try rw [if_neg hq45]); (try rw [if_neg hq46]); (try rw [if_neg hq47]); (try rw [if_pos hq54]); (try rw [if_pos hq55]); (try rw [if_neg hq56]); done) | simp only [if_pos hq39, if_pos hq44, if_neg hq45, if_neg hq46, if_neg hq47, if_pos hq54, if_pos hq55, if_neg hq56]) hj38)
                    · refine pw_l (fun _ _ _ _ k => pm_iload B9 dL_members_125 rfl k) ?_
                      refine pw_l (fun _ _ _ _ k => pm_bipush (v := (-13)) B9 dL_members_127 (by decide) k) ?_
                      refine pw_l2 (fun _ _ _ _ k1 k2 => pm_icmp_ne (tgt := 157) B9 dL_members_129 (by decide) k1 k2) (fun hq59 => ?_) (fun hq59 => ?_)
                      · refine pw_l (fun _ _ _ _ k => pm_iconst (v := 0) B9 dL_members_157 (by decide) k) ?_
                        refine pw_l (fun _ _ _ _ k => pm_wk (L' := [some (.ref (z + 0)), some (.int (nI n)), some (.int a2_1), some (.int a3_1), some (.int (nI j1)), none, none, none, none, none, none, none, none]) ⟨rfl, ⟨rfl, ⟨rfl, ⟨rfl, ⟨rfl, trivial⟩⟩⟩⟩⟩ k) ?_
                        exact pw_cr (by omega) (by omega) (pw_eq (by first | with_reducible rfl | ((try rw [if_pos hq39]); (try rw [if_pos hq44]); (try rw [if_neg hq45]); (try rw [if_neg hq46]); (try rw [if_neg hq47]); (try rw [if_pos hq54]); (try rw [if_neg hq55]); (try rw [if_neg hq59]); done) | simp only [if_pos hq39, if_pos hq44, if_neg hq45, if_neg hq46, if_neg hq47, if_pos hq54, if_neg hq55, if_neg hq59]) (by first | with_reducible rfl | ((try rw [if_pos hq39]); (try rw [if_pos hq44]); (try rw [if_neg hq45]); (try rw [if_neg hq46]); (try rw [if_neg hq47]); (try rw [if_pos hq54]); (try rw [if_neg hq55]); (try rw [if_neg hq59]); done) | simp only [if_pos hq39, if_pos hq44, if_neg hq45, if_neg hq46, if_neg hq47, if_pos hq54, if_neg hq55, if_neg hq59]) (by first | with_reducible rfl | ((try rw [if_pos hq39]); (try rw [if_pos hq44]); (try rw [if_neg hq45]); (try rw [if_neg hq46]); (try rw [if_neg hq47]); (try rw [if_pos hq54]); (try rw [if_neg hq55]); (try rw [if_neg hq59]); done) | simp only [if_pos hq39, if_pos hq44, if_neg hq45, if_neg hq46, if_neg hq47, if_pos hq54, if_neg hq55, if_neg hq59]) hj38)
                      · refine pw_l (fun _ _ _ _ k => pm_iload B9 dL_members_132 rfl k) ?_
                        refine pw_l (fun _ _ _ _ k => pm_bipush (v := 108) B9 dL_members_134 (by decide) k) ?_
                        refine pw_l2 (fun _ _ _ _ k1 k2 => pm_icmp_eq (tgt := 153) B9 dL_members_136 (by decide) k1 k2) (fun hq60 => ?_) (fun hq60 => ?_)
                        · refine pw_l (fun _ _ _ _ k => pm_iconst (v := 1) B9 dL_members_153 (by decide) k) ?_
                          refine pw_l (fun _ _ _ _ k => pm_goto (tgt := 158) B9 dL_members_154 (by decide) k) ?_
                          refine pw_l (fun _ _ _ _ k => pm_wk (L' := [some (.ref (z + 0)), some (.int (nI n)), some (.int a2_1), some (.int a3_1), some (.int (nI j1)), none, none, none, none, none, none, none, none]) ⟨rfl, ⟨rfl, ⟨rfl, ⟨rfl, ⟨rfl, trivial⟩⟩⟩⟩⟩ k) ?_
                          exact pw_cr (by omega) (by omega) (pw_eq (by first | with_reducible rfl | ((try rw [if_pos hq39]); (try rw [if_pos hq44]); (try rw [if_neg hq45]); (try rw [if_neg hq46]); (try rw [if_neg hq47]); (try rw [if_pos hq54]); (try rw [if_neg hq55]); (try rw [if_pos hq59]); (try rw [if_pos hq60]); done) | simp only [if_pos hq39, if_pos hq44, if_neg hq45, if_neg hq46, if_neg hq47, if_pos hq54, if_neg hq55, if_pos hq59, if_pos hq60]) (by first | with_reducible rfl | ((try rw [if_pos hq39]); (try rw [if_pos hq44]); (try rw [if_neg hq45]); (try rw [if_neg hq46]); (try rw [if_neg hq47]); (try rw [if_pos hq54]); (try rw [if_neg hq55]); (try rw [if_pos hq59]); (try rw [if_pos hq60]); done) | simp only [if_pos hq39, if_pos hq44, if_neg hq45, if_neg hq46, if_neg hq47, if_pos hq54, if_neg hq55, if_pos hq59, if_pos hq60]) (by first | with_reducible rfl | ((try rw [if_pos hq39]); (try rw [if_pos hq44]); (try rw [if_neg hq45]); (try rw [if_neg hq46]); (try rw [if_neg hq47]); (try rw [if_pos hq54]); (try rw [if_neg hq55]); (try rw [if_pos hq59]); (try rw [if_pos hq60]); done) | simp only [if_pos hq39, if_pos hq44, if_neg hq45, if_neg hq46, if_neg hq47, if_pos hq54, if_neg hq55, if_pos hq59, if_pos hq60]) hj38)
                        · refine pw_l (fun _ _ _ _ k => pm_iload B9 dL_members_139 rfl k) ?_
                          refine pw_l (fun _ _ _ _ k => pm_bipush (v := 119) B9 dL_members_141 (by decide) k) ?_
                          refine pw_l (fun _ _ _ _ k => pm_icmp_eq (tgt := 153) B9 dL_members_143 (by decide) (fun h => absurd h (hq47)) (fun _ => k)) ?_
                          refine pw_l (fun _ _ _ _ k => pm_iload B9 dL_members_146 rfl k) ?_
                          refine pw_l (fun _ _ _ _ k => pm_bipush (v := 98) B9 dL_members_148 (by decide) k) ?_
                          refine pw_l (fun _ _ _ _ k => pm_icmp_ne (tgt := 157) B9 dL_members_150 (by decide) (fun _ => k) (fun h => absurd h (hq55))) ?_
                          refine pw_l (fun _ _ _ _ k => pm_iconst (v := 0) B9 dL_members_157 (by decide) k) ?_
                          refine pw_l (fun _ _ _ _ k => pm_wk (L' := [some (.ref (z + 0)), some (.int (nI n)), some (.int a2_1), some (.int a3_1), some (.int (nI j1)), none, none, none, none, none, none, none, none]) ⟨rfl, ⟨rfl, ⟨rfl, ⟨rfl, ⟨rfl, trivial⟩⟩⟩⟩⟩ k) ?_
                          exact pw_cr (by omega) (by omega) (pw_eq (by first | with_reducible rfl | ((try rw [if_pos hq39]); (try rw [if_pos hq44]); (try rw [if_neg hq45]); (try rw [if_neg hq46]); (try rw [if_neg hq47]); (try rw [if_pos hq54]); (try rw [if_neg hq55]); (try rw [if_pos hq59]); (try rw [if_neg hq60]); done) | simp only [if_pos hq39, if_pos hq44, if_neg hq45, if_neg hq46, if_neg hq47, if_pos hq54, if_neg hq55, if_pos hq59, if_neg hq60]) (by first | with_reducible rfl | ((try rw [if_pos hq39]); (try rw [if_pos hq44]); (try rw [if_neg hq45]); (try rw [if_neg hq46]); (try rw [if_neg hq47]); (try rw [if_pos hq54]); (try rw [if_neg hq55]); (try rw [if_pos hq59]); (try rw [if_neg hq60]); done) | simp only [if_pos hq39, if_pos hq44, if_neg hq45, if_neg hq46, if_neg hq47, if_pos hq54, if_neg hq55, if_pos hq59, if_neg hq60]) (by first | with_reducible rfl | ((try rw [if_pos hq39]); (try rw [if_pos hq44]); (try rw [if_neg hq45]); (try rw [if_neg hq46]); (try rw [if_neg hq47]); (try rw [if_pos hq54]); (try rw [if_neg hq55]); (try rw [if_pos hq59]); (try rw [if_neg hq60]); done) | simp only [if_pos hq39, if_pos hq44, if_neg hq45, if_neg hq46, if_neg hq47, if_pos hq54, if_neg hq55, if_pos hq59, if_neg hq60]) hj38)
      refine pw_l (fun _ _ _ _ k => pm_stk (st' := [.int 1]) (congrArg (fun yy : Int32 => ([.int yy] : List Value)) (show ((if ((if (pw_st r j1) = 119 then 1 else 0) : Int32) = ((if (pw_wa r j1) ≤ 0 then 0 else 1) : Int32) then (if ((if (pw_st r j1) = 98 then 1 else 0) : Int32) = ((if (pw_ba r j1) ≤ 0 then 0 else 1) : Int32) then (if 2 < (pw_wa r j1) then 0 else (if 2 < (pw_ba r j1) then 0 else (if (pw_st r j1) = 119 then (if (pw_st r j1) = 98 then 1 else (if (pw_ba r j1) = (-13) then 1 else 0)) else (if (pw_wa r j1) = (-13) then (if (pw_st r j1) = 98 then 1 else (if (pw_ba r j1) = (-13) then (if (pw_st r j1) = 108 then 1 else 0) else 0)) else 0)))) else 0) else 0) : Int32) = 1 from (pw_fit hI (by omega)))) k) ?_
      refine pw_l (fun _ _ _ _ k => pm_istore B9 dL_members_158 rfl rfl k) ?_
      refine pw_l (fun _ _ _ _ k => pm_loc (L' := [some (.ref (z + 0)), some (.int (nI n)), some (.int a2_1), some (.int a3_1), some (.int (nI j1)), none, none, none, some (.int 1), none, none, none, none]) rfl k) ?_
      refine pw_l (fun _ _ _ _ k => pm_iconst (v := 0) B9 dL_members_160 (by decide) k) ?_
      refine pw_l (fun _ _ _ _ k => pm_aload_n B9 dL_members_161 rfl k) ?_
      refine pw_l (fun _ _ _ _ k => pm_iload B9 dL_members_162 rfl k) ?_
      refine pw_cSW (As := [.ref (z + 0), .int (nI j1)]) (c2 := (34 - (8) + (k1 * 34 + (34 + (316 - (2 + 8 * 34) + 0))))) (s2 := (204 - (48) + (k1 * 204 + (204 + (1896 - (12 + 8 * 204) + 0))))) B9 (pv_as (pv_L_sales_in (i := j1) (by omega) hI.1.2.1) (b_L_sales hI)) mt_L_sales ss_L_217 dL_members_164 rfl rfl rfl (by omega) (by omega) ?_
      refine pw_l (fun _ _ _ _ k => pm_stk (st' := [.int (r (7 + 6 * j1 + 3)), .int 0]) rfl k) ?_
      refine pw_l (fun _ _ _ _ k => pm_aload_n B9 dL_members_167 rfl k) ?_
      refine pw_l (fun _ _ _ _ k => pm_iload B9 dL_members_168 rfl k) ?_
      refine pw_cSW (As := [.ref (z + 0), .int (nI j1)]) (c2 := (34 - (10) + (k1 * 34 + (34 + (316 - (2 + 8 * 34) + 0))))) (s2 := (204 - (60) + (k1 * 204 + (204 + (1896 - (12 + 8 * 204) + 0))))) B9 (pv_as (pv_L_quota_in (i := j1) (by omega) hI.1.2.1) (b_L_quota hI)) mt_L_quota ss_L_219 dL_members_170 rfl rfl rfl (by omega) (by omega) ?_
      refine pw_l (fun _ _ _ _ k => pm_stk (st' := [.int (r (7 + 6 * j1 + 2)), .int (r (7 + 6 * j1 + 3)), .int 0]) rfl k) ?_
      refine pw_l (fun _ _ _ _ k => pm_isub B9 dL_members_173 k) ?_
      refine pw_lb (fun _ _ _ _ hc hs k => pm_mmax B9 dL_members_174 (pm_T_in 875 (by decide +kernel) (by decide +kernel)) rfl rfl (Nat.ble_eq_true_of_le hc) (Nat.ble_eq_true_of_le hs) k) ?_
      refine pw_l (fun _ _ _ _ k => pm_istore B9 dL_members_177 rfl rfl k) ?_
      refine pw_l (fun _ _ _ _ k => pm_loc (L' := [some (.ref (z + 0)), some (.int (nI n)), some (.int a2_1), some (.int a3_1), some (.int (nI j1)), none, none, none, some (.int 1), some (.int (pm_max 0 ((r (7 + 6 * j1 + 3)) - (r (7 + 6 * j1 + 2))))), none, none, none]) rfl k) ?_
      refine pw_l (fun _ _ _ _ k => pm_iload_n B9 dL_members_179 rfl k) ?_
      refine pw_l (fun _ _ _ _ k => pm_aload_n B9 dL_members_180 rfl k) ?_
      refine pw_l (fun _ _ _ _ k => pm_iload B9 dL_members_181 rfl k) ?_
      refine pw_cSW (As := [.ref (z + 0), .int (nI j1)]) (c2 := (34 - (12) + (k1 * 34 + (34 + (316 - (2 + 8 * 34) + 0))))) (s2 := (204 - (72) + (k1 * 204 + (204 + (1896 - (12 + 8 * 204) + 0))))) B9 (pv_as (pv_L_sales_in (i := j1) (by omega) hI.1.2.1) (b_L_sales hI)) mt_L_sales ss_L_217 dL_members_183 rfl rfl rfl (by omega) (by omega) ?_
      refine pw_l (fun _ _ _ _ k => pm_stk (st' := [.int (r (7 + 6 * j1 + 3)), .int a2_1]) rfl k) ?_
      refine pw_l (fun _ _ _ _ k => pm_iadd B9 dL_members_186 k) ?_
      refine pw_l (fun _ _ _ _ k => pm_istore_n B9 dL_members_187 rfl rfl k) ?_
      refine pw_l (fun _ _ _ _ k => pm_loc (L' := [some (.ref (z + 0)), some (.int (nI n)), some (.int (a2_1 + (r (7 + 6 * j1 + 3)))), some (.int a3_1), some (.int (nI j1)), none, none, none, some (.int 1), some (.int (pm_max 0 ((r (7 + 6 * j1 + 3)) - (r (7 + 6 * j1 + 2))))), none, none, none]) rfl k) ?_
      have hb1 : pw_bx n r j1 < n := (pw_bxE (to := fun _ => 0) hI.2.1 h7 (by omega)).2.1
      refine pw_l (fun _ _ _ _ k => pm_aload_n B9 dL_members_188 rfl k) ?_
      refine pw_l (fun _ _ _ _ k => pm_iload B9 dL_members_189 rfl k) ?_
      refine pw_cSW (As := [.ref (z + 0), .int (nI j1)]) (c2 := (34 - (14) + (k1 * 34 + (34 + (316 - (2 + 8 * 34) + 0))))) (s2 := (204 - (84) + (k1 * 204 + (204 + (1896 - (12 + 8 * 204) + 0))))) B9 (pv_as (pv_L_byExcess_in (i := j1) hI.2.1 (by omega) hI.1.2.1) (b_L_byExcess hI)) mt_L_byExcess ss_L_226 dL_members_191 rfl rfl rfl (by omega) (by omega) ?_
      refine pw_l (fun _ _ _ _ k => pm_stk (st' := [.int (nI (pw_bx n r j1))]) rfl k) ?_
      refine pw_l (fun _ _ _ _ k => pm_istore B9 dL_members_194 rfl rfl k) ?_
      refine pw_l (fun _ _ _ _ k => pm_loc (L' := [some (.ref (z + 0)), some (.int (nI n)), some (.int (a2_1 + (r (7 + 6 * j1 + 3)))), some (.int a3_1), some (.int (nI j1)), none, none, none, some (.int 1), some (.int (pm_max 0 ((r (7 + 6 * j1 + 3)) - (r (7 + 6 * j1 + 2))))), some (.int (nI (pw_bx n r j1))), none, none]) rfl k) ?_
      refine pw_l (fun _ _ _ _ k => pm_iload B9 dL_members_196 rfl k) ?_
      refine pw_l2 (fun _ _ _ _ k1 k2 => pm_if_ne (tgt := 205) B9 dL_members_198 (by decide) k1 k2) (fun hq63 => ?_) (fun hq63 => ?_)
      · refine pw_l (fun _ _ _ _ k => pm_aload_n B9 dL_members_205 rfl k) ?_
        refine pw_l (fun _ _ _ _ k => pm_iload B9 dL_members_206 rfl k) ?_
        refine pw_l (fun _ _ _ _ k => pm_iconst (v := 1) B9 dL_members_208 (by decide) k) ?_
        refine pw_l (fun _ _ _ _ k => pm_isub B9 dL_members_209 k) ?_
        have hz1 : ¬ j1 = 0 := fun e => hq63 (by rw [e]; rfl)
        have hb2 : pw_bx n r (j1 - 1) < n := (pw_bxE (to := fun _ => 0) hI.2.1 h7 (by omega)).2.1
        refine pw_l (fun _ _ _ _ k => pm_stk (st' := [.int (nI (j1 - 1)), .ref (z + 0)]) (congrArg (fun yy : Int32 => ([.int yy, .ref (z + 0)] : List Value)) (show ((nI j1) - 1) = (nI (j1 - 1)) from (pq_sub (b := 1) (by omega)))) k) ?_
        refine pw_cSW (As := [.ref (z + 0), .int (nI (j1 - 1))]) (c2 := (34 - (16) + (k1 * 34 + (34 + (316 - (2 + 8 * 34) + 0))))) (s2 := (204 - (96) + (k1 * 204 + (204 + (1896 - (12 + 8 * 204) + 0))))) B9 (pv_as (pv_L_byExcess_in (i := j1 - 1) hI.2.1 (by omega) hI.1.2.1) (b_L_byExcess hI)) mt_L_byExcess ss_L_226 dL_members_210 rfl rfl rfl (by omega) (by omega) ?_
        refine pw_l (fun _ _ _ _ k => pm_stk (st' := [.int (nI (pw_bx n r (j1 - 1)))]) rfl k) ?_
        refine pw_l (fun _ _ _ _ k => pm_istore B9 dL_members_213 rfl rfl k) ?_
        refine pw_l (fun _ _ _ _ k => pm_loc (L' := [some (.ref (z + 0)), some (.int (nI n)), some (.int (a2_1 + (r (7 + 6 * j1 + 3)))), some (.int a3_1), some (.int (nI j1)), none, none, none, some (.int 1), some (.int (pm_max 0 ((r (7 + 6 * j1 + 3)) - (r (7 + 6 * j1 + 2))))), some (.int (nI (pw_bx n r j1))), some (.int (nI (pw_bx n r (j1 - 1)))), none]) rfl k) ?_
        refine pw_l (fun _ _ _ _ k => pm_iload B9 dL_members_215 rfl k) ?_
        refine pw_l (fun _ _ _ _ k => pm_if_ne (tgt := 224) B9 dL_members_217 (by decide) (fun _ => k) (fun h => absurd h (hq63))) ?_
        refine pw_l (fun _ _ _ _ k => pm_aload_n B9 dL_members_224 rfl k) ?_
        refine pw_l (fun _ _ _ _ k => pm_iload B9 dL_members_225 rfl k) ?_
        refine pw_cV (As := [.int (nI (pw_bx n r (j1 - 1)))]) (c2 := (34 - (18) + (k1 * 34 + (34 + (316 - (2 + 8 * 34) + 0))))) (s2 := (204 - (108) + (k1 * 204 + (204 + (1896 - (12 + 8 * 204) + 0))))) B9 (fun _ _ hW => pw_0 hW) rfl (a_X12_excess hI (i := pw_bx n r (j1 - 1)) (by omega)) mt_X12_excess sv_L_64 dL_members_227 rfl rfl rfl (by omega) (by omega) ?_
        refine pw_l (fun _ _ _ _ k => pm_stk (st' := [.int (pw_xs r (pw_bx n r (j1 - 1)))]) rfl k) ?_
        refine pw_l (fun _ _ _ _ k => pm_aload_n B9 dL_members_230 rfl k) ?_
        refine pw_l (fun _ _ _ _ k => pm_iload B9 dL_members_231 rfl k) ?_
        refine pw_cV (As := [.int (nI (pw_bx n r j1))]) (c2 := (34 - (20) + (k1 * 34 + (34 + (316 - (2 + 8 * 34) + 0))))) (s2 := (204 - (120) + (k1 * 204 + (204 + (1896 - (12 + 8 * 204) + 0))))) B9 (fun _ _ hW => pw_0 hW) rfl (a_X12_excess hI (i := pw_bx n r j1) (by omega)) mt_X12_excess sv_L_64 dL_members_233 rfl rfl rfl (by omega) (by omega) ?_
        refine pw_l (fun _ _ _ _ k => pm_stk (st' := [.int (pw_xs r (pw_bx n r j1)), .int (pw_xs r (pw_bx n r (j1 - 1)))]) rfl k) ?_
        refine pw_l (fun _ _ _ _ k => pm_isub B9 dL_members_236 k) ?_
        refine pw_l (fun _ _ _ _ k => pm_istore B9 dL_members_237 rfl rfl k) ?_
        refine pw_l (fun _ _ _ _ k => pm_loc (L' := [some (.ref (z + 0)), some (.int (nI n)), some (.int (a2_1 + (r (7 + 6 * j1 + 3)))), some (.int a3_1), some (.int (nI j1)), none, none, none, some (.int 1), some (.int (pm_max 0 ((r (7 + 6 * j1 + 3)) - (r (7 + 6 * j1 + 2))))), some (.int (nI (pw_bx n r j1))), some (.int (nI (pw_bx n r (j1 - 1)))), some (.int ((pw_xs r (pw_bx n r (j1 - 1))) - (pw_xs r (pw_bx n r j1))))]) rfl k) ?_
        refine pw_l (fun _ _ _ _ k => pm_iload B9 dL_members_239 rfl k) ?_
        suffices hj65 : pw_J l z D X 316 1896 (pm_Q z D (pw_P (some (.int 1)) (pw_W z kA kE (B, r, hs, u) ar)) 316 1896 X) (pw_W z kA kE (B, r, hs, u) ar) (34 - (24) + (k1 * 34 + (34 + (316 - (2 + 8 * 34) + 0)))) (204 - (144) + (k1 * 204 + (204 + (1896 - (12 + 8 * 204) + 0)))) 262 [some (.ref (z + 0)), some (.int (nI n)), some (.int (a2_1 + (r (7 + 6 * j1 + 3)))), some (.int a3_1), some (.int (nI j1)), none, none, none, some (.int 1), some (.int (pm_max 0 ((r (7 + 6 * j1 + 3)) - (r (7 + 6 * j1 + 2))))), some (.int (nI (pw_bx n r j1))), some (.int (nI (pw_bx n r (j1 - 1)))), none] [.int ((if ((pw_xs r (pw_bx n r (j1 - 1))) - (pw_xs r (pw_bx n r j1))) = 0 then ((r (7 + 6 * (pw_bx n r (j1 - 1)) + 3)) - (r (7 + 6 * (pw_bx n r j1) + 3))) else ((pw_xs r (pw_bx n r (j1 - 1))) - (pw_xs r (pw_bx n r j1)))) : Int32)] by
          refine pw_l2 (fun _ _ _ _ k1 k2 => pm_if_eq (tgt := 249) B9 dL_members_241 (by decide) k1 k2) (fun hq66 => ?_) (fun hq66 => ?_)
          · refine pw_l (fun _ _ _ _ k => pm_aload_n B9 dL_members_249 rfl k) ?_
            refine pw_l (fun _ _ _ _ k => pm_iload B9 dL_members_250 rfl k) ?_
            refine pw_cV (As := [.int (nI (pw_bx n r (j1 - 1)))]) (c2 := (34 - (22) + (k1 * 34 + (34 + (316 - (2 + 8 * 34) + 0))))) (s2 := (204 - (132) + (k1 * 204 + (204 + (1896 - (12 + 8 * 204) + 0))))) B9 (fun _ _ hW => pw_0 hW) rfl (a_X12_sales hI (i := pw_bx n r (j1 - 1)) (by omega)) mt_X12_sales sv_L_61 dL_members_252 rfl rfl rfl (by omega) (by omega) ?_
            refine pw_l (fun _ _ _ _ k => pm_stk (st' := [.int (r (7 + 6 * (pw_bx n r (j1 - 1)) + 3))]) rfl k) ?_
            refine pw_l (fun _ _ _ _ k => pm_aload_n B9 dL_members_255 rfl k) ?_
            refine pw_l (fun _ _ _ _ k => pm_iload B9 dL_members_256 rfl k) ?_
            refine pw_cV (As := [.int (nI (pw_bx n r j1))]) (c2 := (34 - (24) + (k1 * 34 + (34 + (316 - (2 + 8 * 34) + 0))))) (s2 := (204 - (144) + (k1 * 204 + (204 + (1896 - (12 + 8 * 204) + 0))))) B9 (fun _ _ hW => pw_0 hW) rfl (a_X12_sales hI (i := pw_bx n r j1) (by omega)) mt_X12_sales sv_L_61 dL_members_258 rfl rfl rfl (by omega) (by omega) ?_
            refine pw_l (fun _ _ _ _ k => pm_stk (st' := [.int (r (7 + 6 * (pw_bx n r j1) + 3)), .int (r (7 + 6 * (pw_bx n r (j1 - 1)) + 3))]) rfl k) ?_
            refine pw_l (fun _ _ _ _ k => pm_isub B9 dL_members_261 k) ?_
            refine pw_l (fun _ _ _ _ k => pm_wk (L' := [some (.ref (z + 0)), some (.int (nI n)), some (.int (a2_1 + (r (7 + 6 * j1 + 3)))), some (.int a3_1), some (.int (nI j1)), none, none, none, some (.int 1), some (.int (pm_max 0 ((r (7 + 6 * j1 + 3)) - (r (7 + 6 * j1 + 2))))), some (.int (nI (pw_bx n r j1))), some (.int (nI (pw_bx n r (j1 - 1)))), none]) ⟨rfl, ⟨rfl, ⟨rfl, ⟨rfl, ⟨rfl, ⟨rfl, ⟨rfl, ⟨rfl, ⟨rfl, trivial⟩⟩⟩⟩⟩⟩⟩⟩⟩ k) ?_
            exact pw_cr (by omega) (by omega) (pw_eq (by first | with_reducible rfl | ((try rw [if_pos hq66]); done) | simp only [if_pos hq66]) (by first | with_reducible rfl | ((try rw [if_pos hq66]); done) | simp only [if_pos hq66]) (by first | with_reducible rfl | ((try rw [if_pos hq66]); done) | simp only [if_pos hq66]) hj65)
          · refine pw_l (fun _ _ _ _ k => pm_iload B9 dL_members_244 rfl k) ?_
            refine pw_l (fun _ _ _ _ k => pm_goto (tgt := 262) B9 dL_members_246 (by decide) k) ?_
            refine pw_l (fun _ _ _ _ k => pm_wk (L' := [some (.ref (z + 0)), some (.int (nI n)), some (.int (a2_1 + (r (7 + 6 * j1 + 3)))), some (.int a3_1), some (.int (nI j1)), none, none, none, some (.int 1), some (.int (pm_max 0 ((r (7 + 6 * j1 + 3)) - (r (7 + 6 * j1 + 2))))), some (.int (nI (pw_bx n r j1))), some (.int (nI (pw_bx n r (j1 - 1)))), none]) ⟨rfl, ⟨rfl, ⟨rfl, ⟨rfl, ⟨rfl, ⟨rfl, ⟨rfl, ⟨rfl, ⟨rfl, trivial⟩⟩⟩⟩⟩⟩⟩⟩⟩ k) ?_
            exact pw_cr (by omega) (by omega) (pw_eq (by first | with_reducible rfl | ((try rw [if_neg hq66]); done) | simp only [if_neg hq66]) (by first | with_reducible rfl | ((try rw [if_neg hq66]); done) | simp only [if_neg hq66]) (by first | with_reducible rfl | ((try rw [if_neg hq66]); done) | simp only [if_neg hq66]) hj65)
        refine pw_l (fun _ _ _ _ k => pm_istore B9 dL_members_262 rfl rfl k) ?_
        refine pw_l (fun _ _ _ _ k => pm_loc (L' := [some (.ref (z + 0)), some (.int (nI n)), some (.int (a2_1 + (r (7 + 6 * j1 + 3)))), some (.int a3_1), some (.int (nI j1)), none, none, none, some (.int 1), some (.int (pm_max 0 ((r (7 + 6 * j1 + 3)) - (r (7 + 6 * j1 + 2))))), some (.int (nI (pw_bx n r j1))), some (.int (nI (pw_bx n r (j1 - 1)))), some (.int ((if ((pw_xs r (pw_bx n r (j1 - 1))) - (pw_xs r (pw_bx n r j1))) = 0 then ((r (7 + 6 * (pw_bx n r (j1 - 1)) + 3)) - (r (7 + 6 * (pw_bx n r j1) + 3))) else ((pw_xs r (pw_bx n r (j1 - 1))) - (pw_xs r (pw_bx n r j1)))) : Int32))]) rfl k) ?_
        refine pw_l (fun _ _ _ _ k => pm_iload_n B9 dL_members_264 rfl k) ?_
        refine pw_l (fun _ _ _ _ k => pm_iconst (v := 1) B9 dL_members_265 (by decide) k) ?_
        refine pw_l (fun _ _ _ _ k => pm_aload_n B9 dL_members_266 rfl k) ?_
        refine pw_l (fun _ _ _ _ k => pm_iload B9 dL_members_267 rfl k) ?_
        refine pw_cSW (As := [.ref (z + 0), .int (nI j1)]) (c2 := (34 - (26) + (k1 * 34 + (34 + (316 - (2 + 8 * 34) + 0))))) (s2 := (204 - (156) + (k1 * 204 + (204 + (1896 - (12 + 8 * 204) + 0))))) B9 (pv_as (pv_L_drawnAt_in (i := j1) (by omega) hI.1.2.1) (b_L_drawnAt hI)) mt_L_drawnAt ss_L_229 dL_members_269 rfl rfl rfl (by omega) (by omega) ?_
        refine pw_l (fun _ _ _ _ k => pm_stk (st' := [.int (pw_dr n r j1), .int 1, .int a3_1]) rfl k) ?_
        refine pw_l (fun _ _ _ _ k => pm_ishl B9 dL_members_272 k) ?_
        refine pw_l (fun _ _ _ _ k => pm_ior B9 dL_members_273 k) ?_
        refine pw_l (fun _ _ _ _ k => pm_istore_n B9 dL_members_274 rfl rfl k) ?_
        refine pw_l (fun _ _ _ _ k => pm_loc (L' := [some (.ref (z + 0)), some (.int (nI n)), some (.int (a2_1 + (r (7 + 6 * j1 + 3)))), some (.int (a3_1 ||| (1 <<< ((pw_dr n r j1) &&& 31)))), some (.int (nI j1)), none, none, none, some (.int 1), some (.int (pm_max 0 ((r (7 + 6 * j1 + 3)) - (r (7 + 6 * j1 + 2))))), some (.int (nI (pw_bx n r j1))), some (.int (nI (pw_bx n r (j1 - 1)))), some (.int ((if ((pw_xs r (pw_bx n r (j1 - 1))) - (pw_xs r (pw_bx n r j1))) = 0 then ((r (7 + 6 * (pw_bx n r (j1 - 1)) + 3)) - (r (7 + 6 * (pw_bx n r j1) + 3))) else ((pw_xs r (pw_bx n r (j1 - 1))) - (pw_xs r (pw_bx n r j1)))) : Int32))]) rfl k) ?_
        refine pw_l (fun _ _ _ _ k => pm_iload B9 dL_members_275 rfl k) ?_
        refine pw_l (fun _ _ _ _ k => pm_if_eq (tgt := 337) B9 dL_members_277 (by decide) (fun h => absurd h (by decide)) (fun _ => k)) ?_
        refine pw_l (fun _ _ _ _ k => pm_aload_n B9 dL_members_280 rfl k) ?_
        refine pw_l (fun _ _ _ _ k => pm_iload B9 dL_members_281 rfl k) ?_
        refine pw_cSW (As := [.ref (z + 0), .int (nI j1)]) (c2 := (34 - (28) + (k1 * 34 + (34 + (316 - (2 + 8 * 34) + 0))))) (s2 := (204 - (168) + (k1 * 204 + (204 + (1896 - (12 + 8 * 204) + 0))))) B9 (pv_as (pv_L_excess_in (i := j1) (by omega) hI.1.2.1) (b_L_excess hI)) mt_L_excess ss_L_232 dL_members_283 rfl rfl rfl (by omega) (by omega) ?_
        refine pw_l (fun _ _ _ _ k => pm_stk (st' := [.int (pw_xs r j1)]) rfl k) ?_
        refine pw_l (fun _ _ _ _ k => pm_iload B9 dL_members_286 rfl k) ?_
        refine pw_l (fun _ _ _ _ k => pm_icmp_ne (tgt := 337) B9 dL_members_288 (by decide) (fun h => absurd (rfl) h) (fun _ => k)) ?_
        refine pw_l (fun _ _ _ _ k => pm_aload_n B9 dL_members_291 rfl k) ?_
        refine pw_l (fun _ _ _ _ k => pm_iload B9 dL_members_292 rfl k) ?_
        refine pw_cSW (As := [.ref (z + 0), .int (nI j1)]) (c2 := (34 - (30) + (k1 * 34 + (34 + (316 - (2 + 8 * 34) + 0))))) (s2 := (204 - (180) + (k1 * 204 + (204 + (1896 - (12 + 8 * 204) + 0))))) B9 (pv_as (pv_L_sales_in (i := j1) (by omega) hI.1.2.1) (b_L_sales hI)) mt_L_sales ss_L_217 dL_members_294 rfl rfl rfl (by omega) (by omega) ?_
        refine pw_l (fun _ _ _ _ k => pm_stk (st' := [.int (r (7 + 6 * j1 + 3))]) rfl k) ?_
        refine pw_l (fun _ _ _ _ k => pm_aload_n B9 dL_members_297 rfl k) ?_
        refine pw_l (fun _ _ _ _ k => pm_iload B9 dL_members_298 rfl k) ?_
        refine pw_cSW (As := [.ref (z + 0), .int (nI j1)]) (c2 := (34 - (32) + (k1 * 34 + (34 + (316 - (2 + 8 * 34) + 0))))) (s2 := (204 - (192) + (k1 * 204 + (204 + (1896 - (12 + 8 * 204) + 0))))) B9 (pv_as (pv_L_capacity_in (i := j1) (by omega) hI.1.2.1) (b_L_capacity hI)) mt_L_capacity ss_L_234 dL_members_300 rfl rfl rfl (by omega) (by omega) ?_
        refine pw_l (fun _ _ _ _ k => pm_stk (st' := [.int (r (7 + 6 * j1 + 0)), .int (r (7 + 6 * j1 + 3))]) rfl k) ?_
        refine pw_l (fun _ _ _ _ k => pm_icmp_gt (tgt := 337) B9 dL_members_303 (by decide) (fun h => absurd h ((pw_mb2 hI (by omega)))) (fun _ => k)) ?_
        refine pw_l (fun _ _ _ _ k => pm_aload_n B9 dL_members_306 rfl k) ?_
        refine pw_l (fun _ _ _ _ k => pm_iload B9 dL_members_307 rfl k) ?_
        refine pw_cSW (As := [.ref (z + 0), .int (nI j1)]) (c2 := (34 - (34) + (k1 * 34 + (34 + (316 - (2 + 8 * 34) + 0))))) (s2 := (204 - (204) + (k1 * 204 + (204 + (1896 - (12 + 8 * 204) + 0))))) B9 (pv_as (pv_L_quota_in (i := j1) (by omega) hI.1.2.1) (b_L_quota hI)) mt_L_quota ss_L_219 dL_members_309 rfl rfl rfl (by omega) (by omega) ?_
        refine pw_l (fun _ _ _ _ k => pm_stk (st' := [.int (r (7 + 6 * j1 + 2))]) rfl k) ?_
        refine pw_l (fun _ _ _ _ k => pm_if_lt (tgt := 337) B9 dL_members_312 (by decide) (fun h => absurd h ((pw_mb3 hI (by omega)))) (fun _ => k)) ?_
        refine pw_l (fun _ _ _ _ k => pm_iload B9 dL_members_315 rfl k) ?_
        refine pw_l (fun _ _ _ _ k => pm_if_lt (tgt := 337) B9 dL_members_317 (by decide) (fun h => absurd h ((nI_pos (by omega)))) (fun _ => k)) ?_
        refine pw_l (fun _ _ _ _ k => pm_iload B9 dL_members_320 rfl k) ?_
        refine pw_l (fun _ _ _ _ k => pm_if_lt (tgt := 337) B9 dL_members_322 (by decide) (fun h => absurd h ((pw_mb4 hI (by omega) (by omega)))) (fun _ => k)) ?_
        refine pw_l (fun _ _ _ _ k => pm_iload B9 dL_members_325 rfl k) ?_
        refine pw_l2 (fun _ _ _ _ k1 k2 => pm_if_ne (tgt := 339) B9 dL_members_327 (by decide) k1 k2) (fun hq73 => ?_) (fun hq73 => ?_)
        · refine pw_l (fun _ _ _ _ k => pm_iinc B9 dL_members_339 rfl rfl rfl k) ?_
          refine pw_l (fun _ _ _ _ k => pm_loc (L' := [some (.ref (z + 0)), some (.int (nI n)), some (.int (a2_1 + (r (7 + 6 * j1 + 3)))), some (.int (a3_1 ||| (1 <<< ((pw_dr n r j1) &&& 31)))), some (.int (nI (j1 + 1))), none, none, none, some (.int 1), some (.int (pm_max 0 ((r (7 + 6 * j1 + 3)) - (r (7 + 6 * j1 + 2))))), some (.int (nI (pw_bx n r j1))), some (.int (nI (pw_bx n r (j1 - 1)))), some (.int ((if ((pw_xs r (pw_bx n r (j1 - 1))) - (pw_xs r (pw_bx n r j1))) = 0 then ((r (7 + 6 * (pw_bx n r (j1 - 1)) + 3)) - (r (7 + 6 * (pw_bx n r j1) + 3))) else ((pw_xs r (pw_bx n r (j1 - 1))) - (pw_xs r (pw_bx n r j1)))) : Int32))]) (by rw [show ((nI j1) : Int32) + Int32.ofInt 1 = (nI (j1 + 1)) from nI_1 _]; rfl) k) ?_
          refine pw_l (fun _ _ _ _ k => pm_goto (tgt := 12) B9 dL_members_342 (by decide) k) ?_
          refine pw_l (fun _ _ _ _ k => pm_wk (L' := [some (.ref (z + 0)), some (.int (nI n)), some (.int (a2_1 + (r (7 + 6 * j1 + 3)))), some (.int (a3_1 ||| (1 <<< ((pw_dr n r j1) &&& 31)))), some (.int (nI (j1 + 1))), none, none, none, none, none, none, none, none]) ⟨rfl, ⟨rfl, ⟨rfl, ⟨rfl, ⟨rfl, trivial⟩⟩⟩⟩⟩ k) ?_
          exact pw_cr (by omega) (by omega) (ih1 (j1 + 1) (by omega) _ (by subst ea2_1; subst ea3_1; first | rfl | exact (if_neg hq63).symm | exact (if_neg hq73).symm | simp only [w_L_members_1, if_neg hq63, if_neg hq73]) _ (by subst ea2_1; subst ea3_1; first | rfl | exact (if_neg hq63).symm | exact (if_neg hq73).symm | simp only [w_L_members_1, if_neg hq63, if_neg hq73]))
        · refine pw_l (fun _ _ _ _ k => pm_iload B9 dL_members_330 rfl k) ?_
          refine pw_l (fun _ _ _ _ k => pm_iload B9 dL_members_332 rfl k) ?_
          refine pw_l (fun _ _ _ _ k => pm_icmp_le (tgt := 339) B9 dL_members_334 (by decide) (fun _ => k) (fun h => absurd ((pw_mb5 hI (by omega) (by omega) (by assumption))) h)) ?_
          refine pw_l (fun _ _ _ _ k => pm_iinc B9 dL_members_339 rfl rfl rfl k) ?_
          refine pw_l (fun _ _ _ _ k => pm_loc (L' := [some (.ref (z + 0)), some (.int (nI n)), some (.int (a2_1 + (r (7 + 6 * j1 + 3)))), some (.int (a3_1 ||| (1 <<< ((pw_dr n r j1) &&& 31)))), some (.int (nI (j1 + 1))), none, none, none, some (.int 1), some (.int (pm_max 0 ((r (7 + 6 * j1 + 3)) - (r (7 + 6 * j1 + 2))))), some (.int (nI (pw_bx n r j1))), some (.int (nI (pw_bx n r (j1 - 1)))), some (.int ((if ((pw_xs r (pw_bx n r (j1 - 1))) - (pw_xs r (pw_bx n r j1))) = 0 then ((r (7 + 6 * (pw_bx n r (j1 - 1)) + 3)) - (r (7 + 6 * (pw_bx n r j1) + 3))) else ((pw_xs r (pw_bx n r (j1 - 1))) - (pw_xs r (pw_bx n r j1)))) : Int32))]) (by rw [show ((nI j1) : Int32) + Int32.ofInt 1 = (nI (j1 + 1)) from nI_1 _]; rfl) k) ?_
          refine pw_l (fun _ _ _ _ k => pm_goto (tgt := 12) B9 dL_members_342 (by decide) k) ?_
          refine pw_l (fun _ _ _ _ k => pm_wk (L' := [some (.ref (z + 0)), some (.int (nI n)), some (.int (a2_1 + (r (7 + 6 * j1 + 3)))), some (.int (a3_1 ||| (1 <<< ((pw_dr n r j1) &&& 31)))), some (.int (nI (j1 + 1))), none, none, none, none, none, none, none, none]) ⟨rfl, ⟨rfl, ⟨rfl, ⟨rfl, ⟨rfl, trivial⟩⟩⟩⟩⟩ k) ?_
          exact pw_cr (by omega) (by omega) (ih1 (j1 + 1) (by omega) _ (by subst ea2_1; subst ea3_1; first | rfl | exact (if_neg hq63).symm | exact (if_pos hq73).symm | simp only [w_L_members_1, if_neg hq63, if_pos hq73]) _ (by subst ea2_1; subst ea3_1; first | rfl | exact (if_neg hq63).symm | exact (if_pos hq73).symm | simp only [w_L_members_1, if_neg hq63, if_pos hq73]))
      · refine pw_l (fun _ _ _ _ k => pm_iconst (v := (-1)) B9 dL_members_201 (by decide) k) ?_
        refine pw_l (fun _ _ _ _ k => pm_goto (tgt := 213) B9 dL_members_202 (by decide) k) ?_
        refine pw_l (fun _ _ _ _ k => pm_istore B9 dL_members_213 rfl rfl k) ?_
        refine pw_l (fun _ _ _ _ k => pm_loc (L' := [some (.ref (z + 0)), some (.int (nI n)), some (.int (a2_1 + (r (7 + 6 * j1 + 3)))), some (.int a3_1), some (.int (nI j1)), none, none, none, some (.int 1), some (.int (pm_max 0 ((r (7 + 6 * j1 + 3)) - (r (7 + 6 * j1 + 2))))), some (.int (nI (pw_bx n r j1))), some (.int (-1)), none]) rfl k) ?_
        refine pw_l (fun _ _ _ _ k => pm_iload B9 dL_members_215 rfl k) ?_
        refine pw_l (fun _ _ _ _ k => pm_if_ne (tgt := 224) B9 dL_members_217 (by decide) (fun h => absurd (hq63) h) (fun _ => k)) ?_
        refine pw_l (fun _ _ _ _ k => pm_iconst (v := 1) B9 dL_members_220 (by decide) k) ?_
        refine pw_l (fun _ _ _ _ k => pm_goto (tgt := 237) B9 dL_members_221 (by decide) k) ?_
        refine pw_l (fun _ _ _ _ k => pm_istore B9 dL_members_237 rfl rfl k) ?_
        refine pw_l (fun _ _ _ _ k => pm_loc (L' := [some (.ref (z + 0)), some (.int (nI n)), some (.int (a2_1 + (r (7 + 6 * j1 + 3)))), some (.int a3_1), some (.int (nI j1)), none, none, none, some (.int 1), some (.int (pm_max 0 ((r (7 + 6 * j1 + 3)) - (r (7 + 6 * j1 + 2))))), some (.int (nI (pw_bx n r j1))), some (.int (-1)), some (.int 1)]) rfl k) ?_
        refine pw_l (fun _ _ _ _ k => pm_iload B9 dL_members_239 rfl k) ?_
        refine pw_l (fun _ _ _ _ k => pm_if_eq (tgt := 249) B9 dL_members_241 (by decide) (fun h => absurd h (by decide)) (fun _ => k)) ?_
        refine pw_l (fun _ _ _ _ k => pm_iload B9 dL_members_244 rfl k) ?_
        refine pw_l (fun _ _ _ _ k => pm_goto (tgt := 262) B9 dL_members_246 (by decide) k) ?_
        refine pw_l (fun _ _ _ _ k => pm_istore B9 dL_members_262 rfl rfl k) ?_
        refine pw_l (fun _ _ _ _ k => pm_loc (L' := [some (.ref (z + 0)), some (.int (nI n)), some (.int (a2_1 + (r (7 + 6 * j1 + 3)))), some (.int a3_1), some (.int (nI j1)), none, none, none, some (.int 1), some (.int (pm_max 0 ((r (7 + 6 * j1 + 3)) - (r (7 + 6 * j1 + 2))))), some (.int (nI (pw_bx n r j1))), some (.int (-1)), some (.int 1)]) rfl k) ?_
        refine pw_l (fun _ _ _ _ k => pm_iload_n B9 dL_members_264 rfl k) ?_
        refine pw_l (fun _ _ _ _ k => pm_iconst (v := 1) B9 dL_members_265 (by decide) k) ?_
        refine pw_l (fun _ _ _ _ k => pm_aload_n B9 dL_members_266 rfl k) ?_
        refine pw_l (fun _ _ _ _ k => pm_iload B9 dL_members_267 rfl k) ?_
        refine pw_cSW (As := [.ref (z + 0), .int (nI j1)]) (c2 := (34 - (16) + (k1 * 34 + (34 + (316 - (2 + 8 * 34) + 0))))) (s2 := (204 - (96) + (k1 * 204 + (204 + (1896 - (12 + 8 * 204) + 0))))) B9 (pv_as (pv_L_drawnAt_in (i := j1) (by omega) hI.1.2.1) (b_L_drawnAt hI)) mt_L_drawnAt ss_L_229 dL_members_269 rfl rfl rfl (by omega) (by omega) ?_
        refine pw_l (fun _ _ _ _ k => pm_stk (st' := [.int (pw_dr n r j1), .int 1, .int a3_1]) rfl k) ?_
        refine pw_l (fun _ _ _ _ k => pm_ishl B9 dL_members_272 k) ?_
        refine pw_l (fun _ _ _ _ k => pm_ior B9 dL_members_273 k) ?_
        refine pw_l (fun _ _ _ _ k => pm_istore_n B9 dL_members_274 rfl rfl k) ?_
        refine pw_l (fun _ _ _ _ k => pm_loc (L' := [some (.ref (z + 0)), some (.int (nI n)), some (.int (a2_1 + (r (7 + 6 * j1 + 3)))), some (.int (a3_1 ||| (1 <<< ((pw_dr n r j1) &&& 31)))), some (.int (nI j1)), none, none, none, some (.int 1), some (.int (pm_max 0 ((r (7 + 6 * j1 + 3)) - (r (7 + 6 * j1 + 2))))), some (.int (nI (pw_bx n r j1))), some (.int (-1)), some (.int 1)]) rfl k) ?_
        refine pw_l (fun _ _ _ _ k => pm_iload B9 dL_members_275 rfl k) ?_
        refine pw_l (fun _ _ _ _ k => pm_if_eq (tgt := 337) B9 dL_members_277 (by decide) (fun h => absurd h (by decide)) (fun _ => k)) ?_
        refine pw_l (fun _ _ _ _ k => pm_aload_n B9 dL_members_280 rfl k) ?_
        refine pw_l (fun _ _ _ _ k => pm_iload B9 dL_members_281 rfl k) ?_
        refine pw_cSW (As := [.ref (z + 0), .int (nI j1)]) (c2 := (34 - (18) + (k1 * 34 + (34 + (316 - (2 + 8 * 34) + 0))))) (s2 := (204 - (108) + (k1 * 204 + (204 + (1896 - (12 + 8 * 204) + 0))))) B9 (pv_as (pv_L_excess_in (i := j1) (by omega) hI.1.2.1) (b_L_excess hI)) mt_L_excess ss_L_232 dL_members_283 rfl rfl rfl (by omega) (by omega) ?_
        refine pw_l (fun _ _ _ _ k => pm_stk (st' := [.int (pw_xs r j1)]) rfl k) ?_
        refine pw_l (fun _ _ _ _ k => pm_iload B9 dL_members_286 rfl k) ?_
        refine pw_l (fun _ _ _ _ k => pm_icmp_ne (tgt := 337) B9 dL_members_288 (by decide) (fun h => absurd (rfl) h) (fun _ => k)) ?_
        refine pw_l (fun _ _ _ _ k => pm_aload_n B9 dL_members_291 rfl k) ?_
        refine pw_l (fun _ _ _ _ k => pm_iload B9 dL_members_292 rfl k) ?_
        refine pw_cSW (As := [.ref (z + 0), .int (nI j1)]) (c2 := (34 - (20) + (k1 * 34 + (34 + (316 - (2 + 8 * 34) + 0))))) (s2 := (204 - (120) + (k1 * 204 + (204 + (1896 - (12 + 8 * 204) + 0))))) B9 (pv_as (pv_L_sales_in (i := j1) (by omega) hI.1.2.1) (b_L_sales hI)) mt_L_sales ss_L_217 dL_members_294 rfl rfl rfl (by omega) (by omega) ?_
        refine pw_l (fun _ _ _ _ k => pm_stk (st' := [.int (r (7 + 6 * j1 + 3))]) rfl k) ?_
        refine pw_l (fun _ _ _ _ k => pm_aload_n B9 dL_members_297 rfl k) ?_
        refine pw_l (fun _ _ _ _ k => pm_iload B9 dL_members_298 rfl k) ?_
        refine pw_cSW (As := [.ref (z + 0), .int (nI j1)]) (c2 := (34 - (22) + (k1 * 34 + (34 + (316 - (2 + 8 * 34) + 0))))) (s2 := (204 - (132) + (k1 * 204 + (204 + (1896 - (12 + 8 * 204) + 0))))) B9 (pv_as (pv_L_capacity_in (i := j1) (by omega) hI.1.2.1) (b_L_capacity hI)) mt_L_capacity ss_L_234 dL_members_300 rfl rfl rfl (by omega) (by omega) ?_
        refine pw_l (fun _ _ _ _ k => pm_stk (st' := [.int (r (7 + 6 * j1 + 0)), .int (r (7 + 6 * j1 + 3))]) rfl k) ?_
        refine pw_l (fun _ _ _ _ k => pm_icmp_gt (tgt := 337) B9 dL_members_303 (by decide) (fun h => absurd h ((pw_mb2 hI (by omega)))) (fun _ => k)) ?_
        refine pw_l (fun _ _ _ _ k => pm_aload_n B9 dL_members_306 rfl k) ?_
        refine pw_l (fun _ _ _ _ k => pm_iload B9 dL_members_307 rfl k) ?_
        refine pw_cSW (As := [.ref (z + 0), .int (nI j1)]) (c2 := (34 - (24) + (k1 * 34 + (34 + (316 - (2 + 8 * 34) + 0))))) (s2 := (204 - (144) + (k1 * 204 + (204 + (1896 - (12 + 8 * 204) + 0))))) B9 (pv_as (pv_L_quota_in (i := j1) (by omega) hI.1.2.1) (b_L_quota hI)) mt_L_quota ss_L_219 dL_members_309 rfl rfl rfl (by omega) (by omega) ?_
        refine pw_l (fun _ _ _ _ k => pm_stk (st' := [.int (r (7 + 6 * j1 + 2))]) rfl k) ?_
        refine pw_l (fun _ _ _ _ k => pm_if_lt (tgt := 337) B9 dL_members_312 (by decide) (fun h => absurd h ((pw_mb3 hI (by omega)))) (fun _ => k)) ?_
        refine pw_l (fun _ _ _ _ k => pm_iload B9 dL_members_315 rfl k) ?_
        refine pw_l (fun _ _ _ _ k => pm_if_lt (tgt := 337) B9 dL_members_317 (by decide) (fun h => absurd h ((nI_pos (by omega)))) (fun _ => k)) ?_
        refine pw_l (fun _ _ _ _ k => pm_iload B9 dL_members_320 rfl k) ?_
        refine pw_l (fun _ _ _ _ k => pm_if_lt (tgt := 337) B9 dL_members_322 (by decide) (fun h => absurd h (by decide)) (fun _ => k)) ?_
        refine pw_l (fun _ _ _ _ k => pm_iload B9 dL_members_325 rfl k) ?_
        refine pw_l (fun _ _ _ _ k => pm_if_ne (tgt := 339) B9 dL_members_327 (by decide) (fun _ => k) (fun h => absurd h (by decide))) ?_
        refine pw_l (fun _ _ _ _ k => pm_iinc B9 dL_members_339 rfl rfl rfl k) ?_
        refine pw_l (fun _ _ _ _ k => pm_loc (L' := [some (.ref (z + 0)), some (.int (nI n)), some (.int (a2_1 + (r (7 + 6 * j1 + 3)))), some (.int (a3_1 ||| (1 <<< ((pw_dr n r j1) &&& 31)))), some (.int (nI (j1 + 1))), none, none, none, some (.int 1), some (.int (pm_max 0 ((r (7 + 6 * j1 + 3)) - (r (7 + 6 * j1 + 2))))), some (.int (nI (pw_bx n r j1))), some (.int (-1)), some (.int 1)]) (by rw [show ((nI j1) : Int32) + Int32.ofInt 1 = (nI (j1 + 1)) from nI_1 _]; rfl) k) ?_
        refine pw_l (fun _ _ _ _ k => pm_goto (tgt := 12) B9 dL_members_342 (by decide) k) ?_
        refine pw_l (fun _ _ _ _ k => pm_wk (L' := [some (.ref (z + 0)), some (.int (nI n)), some (.int (a2_1 + (r (7 + 6 * j1 + 3)))), some (.int (a3_1 ||| (1 <<< ((pw_dr n r j1) &&& 31)))), some (.int (nI (j1 + 1))), none, none, none, none, none, none, none, none]) ⟨rfl, ⟨rfl, ⟨rfl, ⟨rfl, ⟨rfl, trivial⟩⟩⟩⟩⟩ k) ?_
        exact pw_cr (by omega) (by omega) (ih1 (j1 + 1) (by omega) _ (by subst ea2_1; subst ea3_1; first | rfl | exact (if_pos hq63).symm | simp only [w_L_members_1, if_pos hq63]) _ (by subst ea2_1; subst ea3_1; first | rfl | exact (if_pos hq63).symm | simp only [w_L_members_1, if_pos hq63]))
  exact pw_cr (by omega) (by omega) (loop1 n 0 (by omega) _ rfl _ rfl)
