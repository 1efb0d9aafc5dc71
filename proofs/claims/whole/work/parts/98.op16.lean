/-! the two answers in double and float: closed -/
def fp_ok (f : FP.Core.Fmt) : FP.Core.Datum → Prop
  | .nan => False
  | .inf _ => True
  | .fin _ c q => c < 2 ^ f.p ∧ (c < f.tails ∨ (q - f.qmin).toNat + 1 < f.exps - 1)

theorem fp_n64_of (n : Nat) (h : n % 2 ^ 63 ≤ 2047 * 2 ^ 52) : vf_n64 (UInt64.ofNat n) := by
  unfold vf_n64
  rw [UInt64.le_iff_toNat_le, UInt64.toNat_and]
  have e : (UInt64.ofNat n).toNat = n % 2 ^ 64 := by simp
  have e1 : (0x7fffffffffffffff : UInt64).toNat = 2 ^ 63 - 1 := by decide
  have e2 : (0x7ff0000000000000 : UInt64).toNat = 2047 * 2 ^ 52 := by decide
  rw [e, e1, e2, Nat.and_two_pow_sub_one_eq_mod, Nat.mod_mod_of_dvd _ (by decide)]
  exact h
theorem fp_enc64 {x : FP.Core.Datum} (h : fp_ok FP.Core.b64 x) : vf_n64 (UInt64.ofNat (FP.Core.encode FP.Core.b64 x)) := by
  apply fp_n64_of
  have et : FP.Core.b64.tails = 2 ^ 52 := by decide
  have ee : FP.Core.b64.exps = 2 ^ 11 := by decide
  have ep : FP.Core.b64.p = 53 := rfl
  cases x with
  | nan => exact h.elim
  | inf s =>
    simp only [FP.Core.encode, FP.Core.assemble, et, ee]
    cases s <;> simp [Bool.toNat]
  | fin s c q =>
    obtain ⟨h1, h2⟩ := h
    rw [et, ee] at h2
    rw [ep] at h1
    simp only [FP.Core.encode, FP.Core.assemble, et, ee]
    split
    · cases s <;> simp only [Bool.toNat, cond_true, cond_false] <;> omega
    · cases s <;> simp only [Bool.toNat, cond_true, cond_false] <;> omega
theorem fp_settle64 {s : Bool} {c : Nat} {q : Int} : fp_ok FP.Core.b64 (FP.Core.settle FP.Core.b64 s c q) := by
  have et : FP.Core.b64.tails = 2 ^ 52 := by decide
  have ee : FP.Core.b64.exps = 2 ^ 11 := by decide
  have ep : FP.Core.b64.p = 53 := rfl
  have em : FP.Core.b64.qmax = 971 := by decide
  have en : FP.Core.b64.qmin = -1074 := by decide
  unfold FP.Core.settle FP.Core.bound
  split
  · rename_i h
    split
    · rename_i h2
      refine ⟨h, Or.inr ?_⟩
      rw [en, ee]
      rw [em] at h2
      omega
    · trivial
  · split
    · rename_i h2
      refine ⟨by rw [et, ep]; decide, Or.inr ?_⟩
      rw [en, ee]
      rw [em] at h2
      omega
    · trivial
theorem fp_ratio64 {s : Bool} {num den : Nat} {e : Int} : fp_ok FP.Core.b64 (FP.Core.roundRatio FP.Core.b64 s num den e) := by
  have et : FP.Core.b64.tails = 2 ^ 52 := by decide
  unfold FP.Core.roundRatio
  split
  · exact ⟨by decide, Or.inl (by rw [et]; decide)⟩
  · exact fp_settle64
/-- a datum, written and read -/
theorem fp_dec64 {s : Bool} {c : Nat} {q : Int} (h : fp_ok FP.Core.b64 (.fin s c q)) : ∃ s' q', FP.Core.decode FP.Core.b64 (UInt64.ofNat (FP.Core.encode FP.Core.b64 (.fin s c q))).toNat = .fin s' c q' := by
  have et : FP.Core.b64.tails = 2 ^ 52 := by decide
  have ee : FP.Core.b64.exps = 2 ^ 11 := by decide
  have ep : FP.Core.b64.p = 53 := rfl
  obtain ⟨h1, h2⟩ := h
  rw [et, ee] at h2
  rw [ep] at h1
  have e0 : ∀ n, (UInt64.ofNat n).toNat = n % 2 ^ 64 := fun n => by simp
  simp only [FP.Core.encode, FP.Core.assemble, et, ee, e0]
  by_cases hc : c < 2 ^ 52
  · rw [if_pos hc]
    have x1 : ((s.toNat * 2 ^ 11 + 0) * 2 ^ 52 + c) % 2 ^ 64 / 2 ^ 52 % 2 ^ 11 = 0 := by
      cases s <;> simp only [Bool.toNat, cond_true, cond_false] <;> omega
    have x2 : ((s.toNat * 2 ^ 11 + 0) * 2 ^ 52 + c) % 2 ^ 64 % 2 ^ 52 = c := by
      cases s <;> simp only [Bool.toNat, cond_true, cond_false] <;> omega
    unfold FP.Core.decode
    simp only [FP.Core.fieldE, FP.Core.fieldT, et, ee, x1, x2]
    rw [if_neg (by decide), if_pos trivial]
    exact ⟨_, _, rfl⟩
  · rw [if_neg hc]
    rcases h2 with h2 | h2
    · exact absurd h2 hc
    obtain ⟨E, hE⟩ : ∃ E, E = (q - FP.Core.b64.qmin).toNat + 1 := ⟨_, rfl⟩
    rw [← hE] at h2 ⊢
    have hE0 : ¬ E = 0 := by omega
    have x1 : ((s.toNat * 2 ^ 11 + E) * 2 ^ 52 + (c - 2 ^ 52)) % 2 ^ 64 / 2 ^ 52 % 2 ^ 11 = E := by
      cases s <;> simp only [Bool.toNat, cond_true, cond_false] <;> omega
    have x2 : ((s.toNat * 2 ^ 11 + E) * 2 ^ 52 + (c - 2 ^ 52)) % 2 ^ 64 % 2 ^ 52 = c - 2 ^ 52 := by
      cases s <;> simp only [Bool.toNat, cond_true, cond_false] <;> omega
    unfold FP.Core.decode
    simp only [FP.Core.fieldE, FP.Core.fieldT, et, ee, x1, x2]
    rw [if_neg (by omega), if_neg hE0, show 2 ^ 52 + (c - 2 ^ 52) = c by omega]
    exact ⟨_, _, rfl⟩

theorem fp_n32_of (n : Nat) (h : n % 2 ^ 31 ≤ 255 * 2 ^ 23) : vf_n32 (UInt32.ofNat n) := by
  unfold vf_n32
  rw [UInt32.le_iff_toNat_le, UInt32.toNat_and]
  have e : (UInt32.ofNat n).toNat = n % 2 ^ 32 := by simp
  have e1 : (0x7fffffff : UInt32).toNat = 2 ^ 31 - 1 := by decide
  have e2 : (0x7f800000 : UInt32).toNat = 255 * 2 ^ 23 := by decide
  rw [e, e1, e2, Nat.and_two_pow_sub_one_eq_mod, Nat.mod_mod_of_dvd _ (by decide)]
  exact h
theorem fp_enc32 {x : FP.Core.Datum} (h : fp_ok FP.Core.b32 x) : vf_n32 (UInt32.ofNat (FP.Core.encode FP.Core.b32 x)) := by
  apply fp_n32_of
  have et : FP.Core.b32.tails = 2 ^ 23 := by decide
  have ee : FP.Core.b32.exps = 2 ^ 8 := by decide
  have ep : FP.Core.b32.p = 24 := rfl
  cases x with
  | nan => exact h.elim
  | inf s =>
    simp only [FP.Core.encode, FP.Core.assemble, et, ee]
    cases s <;> simp [Bool.toNat]
  | fin s c q =>
    obtain ⟨h1, h2⟩ := h
    rw [et, ee] at h2
    rw [ep] at h1
    simp only [FP.Core.encode, FP.Core.assemble, et, ee]
    split
    · cases s <;> simp only [Bool.toNat, cond_true, cond_false] <;> omega
    · cases s <;> simp only [Bool.toNat, cond_true, cond_false] <;> omega
theorem fp_settle32 {s : Bool} {c : Nat} {q : Int} : fp_ok FP.Core.b32 (FP.Core.settle FP.Core.b32 s c q) := by
  have et : FP.Core.b32.tails = 2 ^ 23 := by decide
  have ee : FP.Core.b32.exps = 2 ^ 8 := by decide
  have ep : FP.Core.b32.p = 24 := rfl
  have em : FP.Core.b32.qmax = 104 := by decide
  have en : FP.Core.b32.qmin = -149 := by decide
  unfold FP.Core.settle FP.Core.bound
  split
  · rename_i h
    split
    · rename_i h2
      refine ⟨h, Or.inr ?_⟩
      rw [en, ee]
      rw [em] at h2
      omega
    · trivial
  · split
    · rename_i h2
      refine ⟨by rw [et, ep]; decide, Or.inr ?_⟩
      rw [en, ee]
      rw [em] at h2
      omega
    · trivial
theorem fp_ratio32 {s : Bool} {num den : Nat} {e : Int} : fp_ok FP.Core.b32 (FP.Core.roundRatio FP.Core.b32 s num den e) := by
  have et : FP.Core.b32.tails = 2 ^ 23 := by decide
  unfold FP.Core.roundRatio
  split
  · exact ⟨by decide, Or.inl (by rw [et]; decide)⟩
  · exact fp_settle32
/-- a datum, written and read -/
theorem fp_dec32 {s : Bool} {c : Nat} {q : Int} (h : fp_ok FP.Core.b32 (.fin s c q)) : ∃ s' q', FP.Core.decode FP.Core.b32 (UInt32.ofNat (FP.Core.encode FP.Core.b32 (.fin s c q))).toNat = .fin s' c q' := by
  have et : FP.Core.b32.tails = 2 ^ 23 := by decide
  have ee : FP.Core.b32.exps = 2 ^ 8 := by decide
  have ep : FP.Core.b32.p = 24 := rfl
  obtain ⟨h1, h2⟩ := h
  rw [et, ee] at h2
  rw [ep] at h1
  have e0 : ∀ n, (UInt32.ofNat n).toNat = n % 2 ^ 32 := fun n => by simp
  simp only [FP.Core.encode, FP.Core.assemble, et, ee, e0]
  by_cases hc : c < 2 ^ 23
  · rw [if_pos hc]
    have x1 : ((s.toNat * 2 ^ 8 + 0) * 2 ^ 23 + c) % 2 ^ 32 / 2 ^ 23 % 2 ^ 8 = 0 := by
      cases s <;> simp only [Bool.toNat, cond_true, cond_false] <;> omega
    have x2 : ((s.toNat * 2 ^ 8 + 0) * 2 ^ 23 + c) % 2 ^ 32 % 2 ^ 23 = c := by
      cases s <;> simp only [Bool.toNat, cond_true, cond_false] <;> omega
    unfold FP.Core.decode
    simp only [FP.Core.fieldE, FP.Core.fieldT, et, ee, x1, x2]
    rw [if_neg (by decide), if_pos trivial]
    exact ⟨_, _, rfl⟩
  · rw [if_neg hc]
    rcases h2 with h2 | h2
    · exact absurd h2 hc
    obtain ⟨E, hE⟩ : ∃ E, E = (q - FP.Core.b32.qmin).toNat + 1 := ⟨_, rfl⟩
    rw [← hE] at h2 ⊢
    have hE0 : ¬ E = 0 := by omega
    have x1 : ((s.toNat * 2 ^ 8 + E) * 2 ^ 23 + (c - 2 ^ 23)) % 2 ^ 32 / 2 ^ 23 % 2 ^ 8 = E := by
      cases s <;> simp only [Bool.toNat, cond_true, cond_false] <;> omega
    have x2 : ((s.toNat * 2 ^ 8 + E) * 2 ^ 23 + (c - 2 ^ 23)) % 2 ^ 32 % 2 ^ 23 = c - 2 ^ 23 := by
      cases s <;> simp only [Bool.toNat, cond_true, cond_false] <;> omega
    unfold FP.Core.decode
    simp only [FP.Core.fieldE, FP.Core.fieldT, et, ee, x1, x2]
    rw [if_neg (by omega), if_neg hE0, show 2 ^ 23 + (c - 2 ^ 23) = c by omega]
    exact ⟨_, _, rfl⟩

theorem fp_int64 {i : Int} (h : i.natAbs < 2 ^ 32) : ∃ s c q, FP.Core.round FP.Core.b64 (FP.Core.ofInt i) = .fin s c q ∧ fp_ok FP.Core.b64 (.fin s c q) ∧ (i ≠ 0 → c ≠ 0) := by
  have et : FP.Core.b64.tails = 2 ^ 52 := by decide
  have ep : FP.Core.b64.p = 53 := rfl
  have em : FP.Core.b64.qmax = 971 := by decide
  have en : FP.Core.b64.qmin = -1074 := by decide
  unfold FP.Core.ofInt
  simp only [FP.Core.round]
  have hok : fp_ok FP.Core.b64 (FP.Core.roundRatio FP.Core.b64 (decide (i < 0)) i.natAbs 1 0) := fp_ratio64
  unfold FP.Core.roundRatio at hok ⊢
  by_cases h0 : i.natAbs = 0
  · rw [if_pos h0] at hok ⊢
    exact ⟨_, _, _, rfl, hok, fun hi => absurd (Int.natAbs_eq_zero.mp h0) hi⟩
  · rw [if_neg h0] at hok ⊢
    unfold FP.Core.roundAt at hok ⊢
    have hl1 := Nat.log2_self_le h0
    have hl2 : i.natAbs.log2 < 32 := (Nat.log2_lt h0).mpr h
    have hq : FP.Core.quantum FP.Core.b64 i.natAbs 1 0 ≤ (i.natAbs.log2 : Int) := by
      unfold FP.Core.quantum FP.Core.leading
      rw [en, ep]
      simp only
      split <;> omega
    generalize FP.Core.quantum FP.Core.b64 i.natAbs 1 0 = q at hok hq ⊢
    have hun : FP.Core.unitsDen 1 0 q ≤ FP.Core.unitsNum i.natAbs 0 q := by
      unfold FP.Core.unitsDen FP.Core.unitsNum
      have a1 : 2 ^ (q - 0).toNat ≤ 2 ^ i.natAbs.log2 := Nat.pow_le_pow_right (by decide) (by omega)
      have a2 : i.natAbs ≤ i.natAbs * 2 ^ (0 - q).toNat := Nat.le_mul_of_pos_right _ (Nat.pow_pos (by decide))
      rw [Nat.one_mul]
      exact Nat.le_trans a1 (Nat.le_trans hl1 a2)
    have hud : 0 < FP.Core.unitsDen 1 0 q := by
      unfold FP.Core.unitsDen
      rw [Nat.one_mul]
      exact Nat.pow_pos (by decide)
    have hne : FP.Core.nearest (FP.Core.unitsNum i.natAbs 0 q) (FP.Core.unitsDen 1 0 q) ≠ 0 := by
      have hd := Nat.div_pos hun hud
      unfold FP.Core.nearest
      generalize FP.Core.unitsNum i.natAbs 0 q / FP.Core.unitsDen 1 0 q = a at hd
      generalize FP.Core.unitsNum i.natAbs 0 q % FP.Core.unitsDen 1 0 q = m
      split
      · omega
      · split <;> omega
    generalize FP.Core.nearest (FP.Core.unitsNum i.natAbs 0 q) (FP.Core.unitsDen 1 0 q) = C at hok hne ⊢
    have key : ∃ c q', FP.Core.settle FP.Core.b64 (decide (i < 0)) C q = .fin (decide (i < 0)) c q' ∧ c ≠ 0 := by
      unfold FP.Core.settle FP.Core.bound
      by_cases hc : C < 2 ^ FP.Core.b64.p
      · rw [if_pos hc, if_pos (by rw [em]; omega)]
        exact ⟨_, _, rfl, hne⟩
      · rw [if_neg hc, if_pos (by rw [em]; omega)]
        exact ⟨_, _, rfl, by rw [et]; decide⟩
    obtain ⟨c, q', e, hc⟩ := key
    rw [e] at hok ⊢
    exact ⟨_, c, q', rfl, hok, fun _ => hc⟩
theorem fp_div64 (a b : Int32) (hb : ¬ b = 0) : ∃ x, fp_ok FP.Core.b64 x ∧ FP.ddiv (FP.i2d a) (FP.i2d b) = UInt64.ofNat (FP.Core.encode FP.Core.b64 x) := by
  have ba := Int32.toInt_lt a
  have ba2 := Int32.le_toInt a
  have bb := Int32.toInt_lt b
  have bb2 := Int32.le_toInt b
  obtain ⟨s, c, q, e1, o1, _⟩ := fp_int64 (i := a.toInt) (by omega)
  obtain ⟨t, d, r, e2, o2, n2⟩ := fp_int64 (i := b.toInt) (by omega)
  obtain ⟨s', q', x1⟩ := fp_dec64 o1
  obtain ⟨t', r', x2⟩ := fp_dec64 o2
  have d0 : d ≠ 0 := n2 (fun h => hb (Int32.toInt_inj.mp (h.trans (by decide))))
  refine ⟨FP.Core.quotient FP.Core.b64 (.fin s' c q') (.fin t' d r'), ?_, ?_⟩
  · simp only [FP.Core.quotient]
    rw [if_neg d0]
    exact fp_ratio64
  · show UInt64.ofNat (FP.Core.div FP.Core.b64 (UInt64.ofNat (FP.Core.encode FP.Core.b64 (FP.Core.round FP.Core.b64 (FP.Core.ofInt a.toInt)))).toNat (UInt64.ofNat (FP.Core.encode FP.Core.b64 (FP.Core.round FP.Core.b64 (FP.Core.ofInt b.toInt)))).toNat) = _
    rw [e1, e2]
    unfold FP.Core.div
    rw [x1, x2]
theorem fp_h64 : ∀ a b : Int32, ¬ b = 0 → vf_n64 (FP.ddiv (FP.i2d a) (FP.i2d b)) := fun a b h => by
  obtain ⟨x, o, e⟩ := fp_div64 a b h
  rw [e]
  exact fp_enc64 o
theorem fp_nn64 {x : FP.Core.Datum} (h : fp_ok FP.Core.b64 x) : FP.Core.decode FP.Core.b64 (UInt64.ofNat (FP.Core.encode FP.Core.b64 x)).toNat ≠ .nan := by
  cases x with
  | nan => exact h.elim
  | inf s =>
    have et : FP.Core.b64.tails = 2 ^ 52 := by decide
    have ee : FP.Core.b64.exps = 2 ^ 11 := by decide
    have e0 : ∀ n, (UInt64.ofNat n).toNat = n % 2 ^ 64 := fun n => by simp
    simp only [FP.Core.encode, FP.Core.assemble, et, ee, e0]
    have x1 : ((s.toNat * 2 ^ 11 + (2 ^ 11 - 1)) * 2 ^ 52 + 0) % 2 ^ 64 / 2 ^ 52 % 2 ^ 11 = 2 ^ 11 - 1 := by
      cases s <;> simp only [Bool.toNat, cond_true, cond_false] <;> omega
    have x2 : ((s.toNat * 2 ^ 11 + (2 ^ 11 - 1)) * 2 ^ 52 + 0) % 2 ^ 64 % 2 ^ 52 = 0 := by
      cases s <;> simp only [Bool.toNat, cond_true, cond_false] <;> omega
    unfold FP.Core.decode
    simp only [FP.Core.fieldE, FP.Core.fieldT, et, ee, x1, x2]
    intro hh
    rw [if_pos trivial, if_pos trivial] at hh
    cases hh
  | fin s c q =>
    obtain ⟨s', q', e⟩ := fp_dec64 h
    rw [e]
    intro hh
    cases hh
theorem fp_int32 {i : Int} (h : i.natAbs < 2 ^ 32) : ∃ s c q, FP.Core.round FP.Core.b32 (FP.Core.ofInt i) = .fin s c q ∧ fp_ok FP.Core.b32 (.fin s c q) ∧ (i ≠ 0 → c ≠ 0) := by
  have et : FP.Core.b32.tails = 2 ^ 23 := by decide
  have ep : FP.Core.b32.p = 24 := rfl
  have em : FP.Core.b32.qmax = 104 := by decide
  have en : FP.Core.b32.qmin = -149 := by decide
  unfold FP.Core.ofInt
  simp only [FP.Core.round]
  have hok : fp_ok FP.Core.b32 (FP.Core.roundRatio FP.Core.b32 (decide (i < 0)) i.natAbs 1 0) := fp_ratio32
  unfold FP.Core.roundRatio at hok ⊢
  by_cases h0 : i.natAbs = 0
  · rw [if_pos h0] at hok ⊢
    exact ⟨_, _, _, rfl, hok, fun hi => absurd (Int.natAbs_eq_zero.mp h0) hi⟩
  · rw [if_neg h0] at hok ⊢
    unfold FP.Core.roundAt at hok ⊢
    have hl1 := Nat.log2_self_le h0
    have hl2 : i.natAbs.log2 < 32 := (Nat.log2_lt h0).mpr h
    have hq : FP.Core.quantum FP.Core.b32 i.natAbs 1 0 ≤ (i.natAbs.log2 : Int) := by
      unfold FP.Core.quantum FP.Core.leading
      rw [en, ep]
      simp only
      split <;> omega
    generalize FP.Core.quantum FP.Core.b32 i.natAbs 1 0 = q at hok hq ⊢
    have hun : FP.Core.unitsDen 1 0 q ≤ FP.Core.unitsNum i.natAbs 0 q := by
      unfold FP.Core.unitsDen FP.Core.unitsNum
      have a1 : 2 ^ (q - 0).toNat ≤ 2 ^ i.natAbs.log2 := Nat.pow_le_pow_right (by decide) (by omega)
      have a2 : i.natAbs ≤ i.natAbs * 2 ^ (0 - q).toNat := Nat.le_mul_of_pos_right _ (Nat.pow_pos (by decide))
      rw [Nat.one_mul]
      exact Nat.le_trans a1 (Nat.le_trans hl1 a2)
    have hud : 0 < FP.Core.unitsDen 1 0 q := by
      unfold FP.Core.unitsDen
      rw [Nat.one_mul]
      exact Nat.pow_pos (by decide)
    have hne : FP.Core.nearest (FP.Core.unitsNum i.natAbs 0 q) (FP.Core.unitsDen 1 0 q) ≠ 0 := by
      have hd := Nat.div_pos hun hud
      unfold FP.Core.nearest
      generalize FP.Core.unitsNum i.natAbs 0 q / FP.Core.unitsDen 1 0 q = a at hd
      generalize FP.Core.unitsNum i.natAbs 0 q % FP.Core.unitsDen 1 0 q = m
      split
      · omega
      · split <;> omega
    generalize FP.Core.nearest (FP.Core.unitsNum i.natAbs 0 q) (FP.Core.unitsDen 1 0 q) = C at hok hne ⊢
    have key : ∃ c q', FP.Core.settle FP.Core.b32 (decide (i < 0)) C q = .fin (decide (i < 0)) c q' ∧ c ≠ 0 := by
      unfold FP.Core.settle FP.Core.bound
      by_cases hc : C < 2 ^ FP.Core.b32.p
      · rw [if_pos hc, if_pos (by rw [em]; omega)]
        exact ⟨_, _, rfl, hne⟩
      · rw [if_neg hc, if_pos (by rw [em]; omega)]
        exact ⟨_, _, rfl, by rw [et]; decide⟩
    obtain ⟨c, q', e, hc⟩ := key
    rw [e] at hok ⊢
    exact ⟨_, c, q', rfl, hok, fun _ => hc⟩
theorem fp_div32 (a b : Int32) (hb : ¬ b = 0) : ∃ x, fp_ok FP.Core.b32 x ∧ FP.fdiv (FP.i2f a) (FP.i2f b) = UInt32.ofNat (FP.Core.encode FP.Core.b32 x) := by
  have ba := Int32.toInt_lt a
  have ba2 := Int32.le_toInt a
  have bb := Int32.toInt_lt b
  have bb2 := Int32.le_toInt b
  obtain ⟨s, c, q, e1, o1, _⟩ := fp_int32 (i := a.toInt) (by omega)
  obtain ⟨t, d, r, e2, o2, n2⟩ := fp_int32 (i := b.toInt) (by omega)
  obtain ⟨s', q', x1⟩ := fp_dec32 o1
  obtain ⟨t', r', x2⟩ := fp_dec32 o2
  have d0 : d ≠ 0 := n2 (fun h => hb (Int32.toInt_inj.mp (h.trans (by decide))))
  refine ⟨FP.Core.quotient FP.Core.b32 (.fin s' c q') (.fin t' d r'), ?_, ?_⟩
  · simp only [FP.Core.quotient]
    rw [if_neg d0]
    exact fp_ratio32
  · show UInt32.ofNat (FP.Core.div FP.Core.b32 (UInt32.ofNat (FP.Core.encode FP.Core.b32 (FP.Core.round FP.Core.b32 (FP.Core.ofInt a.toInt)))).toNat (UInt32.ofNat (FP.Core.encode FP.Core.b32 (FP.Core.round FP.Core.b32 (FP.Core.ofInt b.toInt)))).toNat) = _
    rw [e1, e2]
    unfold FP.Core.div
    rw [x1, x2]
theorem fp_h32 : ∀ a b : Int32, ¬ b = 0 → vf_n32 (FP.fdiv (FP.i2f a) (FP.i2f b)) := fun a b h => by
  obtain ⟨x, o, e⟩ := fp_div32 a b h
  rw [e]
  exact fp_enc32 o
theorem fp_nn32 {x : FP.Core.Datum} (h : fp_ok FP.Core.b32 x) : FP.Core.decode FP.Core.b32 (UInt32.ofNat (FP.Core.encode FP.Core.b32 x)).toNat ≠ .nan := by
  cases x with
  | nan => exact h.elim
  | inf s =>
    have et : FP.Core.b32.tails = 2 ^ 23 := by decide
    have ee : FP.Core.b32.exps = 2 ^ 8 := by decide
    have e0 : ∀ n, (UInt32.ofNat n).toNat = n % 2 ^ 32 := fun n => by simp
    simp only [FP.Core.encode, FP.Core.assemble, et, ee, e0]
    have x1 : ((s.toNat * 2 ^ 8 + (2 ^ 8 - 1)) * 2 ^ 23 + 0) % 2 ^ 32 / 2 ^ 23 % 2 ^ 8 = 2 ^ 8 - 1 := by
      cases s <;> simp only [Bool.toNat, cond_true, cond_false] <;> omega
    have x2 : ((s.toNat * 2 ^ 8 + (2 ^ 8 - 1)) * 2 ^ 23 + 0) % 2 ^ 32 % 2 ^ 23 = 0 := by
      cases s <;> simp only [Bool.toNat, cond_true, cond_false] <;> omega
    unfold FP.Core.decode
    simp only [FP.Core.fieldE, FP.Core.fieldT, et, ee, x1, x2]
    intro hh
    rw [if_pos trivial, if_pos trivial] at hh
    cases hh
  | fin s c q =>
    obtain ⟨s', q', e⟩ := fp_dec32 h
    rw [e]
    intro hh
    cases hh
theorem fp_f2d {x : FP.Core.Datum} (h : fp_ok FP.Core.b32 x) : ∃ y, fp_ok FP.Core.b64 y ∧ FP.f2d (UInt32.ofNat (FP.Core.encode FP.Core.b32 x)) = UInt64.ofNat (FP.Core.encode FP.Core.b64 y) := by
  have hn := fp_nn32 h
  unfold FP.f2d
  rw [if_neg (by simpa [FP.Core.fIsNaN, FP.Core.isNaN] using hn)]
  unfold FP.Core.f2d FP.Core.convert
  generalize FP.Core.decode FP.Core.b32 (UInt32.ofNat (FP.Core.encode FP.Core.b32 x)).toNat = y at hn
  refine ⟨FP.Core.round FP.Core.b64 y, ?_, rfl⟩
  cases y with
  | nan => exact absurd rfl hn
  | inf s => exact trivial
  | fin s c q => exact fp_ratio64
theorem fp_ord {d : FP.Core.Datum} (h : d ≠ .nan) : FP.Core.order d d = some .eq := by
  cases d with
  | nan => exact absurd rfl h
  | inf s => simp [FP.Core.order, compare, compareOfLessAndEq]
  | fin s c q => simp [FP.Core.order, compare, compareOfLessAndEq]
theorem fp_fs (a b : Int32) (hb : ¬ b = 0) : vf_n64 (FP.f2d (FP.fdiv (FP.i2f a) (FP.i2f b))) ∧ Op.cmpValue (FP.dcmp (FP.f2d (FP.fdiv (FP.i2f a) (FP.i2f b))) (FP.f2d (FP.fdiv (FP.i2f a) (FP.i2f b)))) .l = 0 := by
  obtain ⟨x, o, e⟩ := fp_div32 a b hb
  obtain ⟨y, o2, e2⟩ := fp_f2d o
  rw [e, e2]
  refine ⟨fp_enc64 o2, ?_⟩
  show Op.cmpValue (FP.Core.order _ _) .l = 0
  rw [fp_ord (fp_nn64 o2)]
  rfl
theorem pm_wdN {z : Nat} {kA : Nat → ClassId} {kE : Nat → Nat} {nx n' : Nat} {M M' : pm_M} {h : pm_Ms} {g : pm_Cs} {L : Int32 × Int32 × Int32} {fd : Nat → UInt64} {k : Nat} {v : UInt64} {o : pm_O} (hTM : pm_TM z kA M h) (h150 : M 150 = some (.inl (kA 2, 1, .inr (.inr (.inr (.inl fd)))))) (hL : pm_LD z nx M g.2.2.2.2.2 L) (hnx : 151 ≤ nx) (hk : k = 0 ∨ k = 6) (hp : pm_wrd kA 150 1 fd (pm_fa z kA kE nx M k (some (.double v)) g) [("java/lang/ArithmeticException", 1)] o n' M') : pm_oD z kA kE nx M h (fun kc v' g2 L2 => g2 = g ∧ L2 = L ∧ ((k = 0 ∧ kc = 0 ∧ v' = v) ∨ (k = 6 ∧ kc = 1))) o n' M' := by
  rcases hp with ⟨v2, M1, ⟨hF, hn, hT, ho⟩, rfl, rfl⟩ | ⟨e, he, ⟨hF, hn, hT, ho⟩, rfl⟩
  · rcases ho with ⟨k0, ho⟩ | ⟨_, ho⟩
    · cases ho
      exact ⟨0, v, g, L, vf_upd fd 0 v, rfl, hn, pm_TC_keep hT (fun x hx => pm_up_n (by omega)), pm_LD_keep (pm_LD_keep hL hn (fun a h1 h2 => hF a (by omega) h2)) (Nat.le_refl _) (fun a ha _ => pm_up_n (by omega)), pm_TM_keep hTM (fun x h1 h2 => (pm_up_n (by omega)).trans (hF x h1 (by omega))), (pm_up_n (by decide)).trans (hF _ (by decide) (by omega)), pm_up_s, fun _ => if_pos rfl, rfl, rfl, Or.inl ⟨k0, rfl, rfl⟩⟩
    · cases ho
  · rcases ho with ⟨_, ho⟩ | ⟨k0, ho⟩
    · cases ho
    · simp only [List.mem_cons, List.not_mem_nil, or_false] at he
      subst he
      exact ⟨1, 0, g, L, fd, rfl, hn, hT, pm_LD_keep hL hn (fun a h1 h2 => hF a (by omega) h2), pm_TM_keep hTM (fun x h1 h2 => hF x h1 (by omega)), hF _ (by decide) (by omega), (hF _ (by decide) (by omega)).trans h150, fun e0 => absurd e0 (by decide), rfl, rfl, Or.inr ⟨by omega, rfl⟩⟩
theorem pm_wfN {z : Nat} {kA : Nat → ClassId} {kE : Nat → Nat} {nx n' : Nat} {M M' : pm_M} {h : pm_Ms} {g : pm_Cs} {L : Int32 × Int32 × Int32} {fd : Nat → UInt64} {k : Nat} {v : UInt32} {o : pm_O} (hTM : pm_TM z kA M h) (h150 : M 150 = some (.inl (kA 2, 1, .inr (.inr (.inr (.inl fd)))))) (hL : pm_LD z nx M g.2.2.2.2.2 L) (hnx : 151 ≤ nx) (hk : k = 0 ∨ k = 6) (hp : pm_wrf kA 150 1 fd (pm_fa z kA kE nx M k (some (.float v)) g) [("java/lang/ArithmeticException", 1)] o n' M') : pm_oD z kA kE nx M h (fun kc v' g2 L2 => g2 = g ∧ L2 = L ∧ ((k = 0 ∧ kc = 0 ∧ v' = (FP.f2d v)) ∨ (k = 6 ∧ kc = 1))) o n' M' := by
  rcases hp with ⟨v2, M1, ⟨hF, hn, hT, ho⟩, rfl, rfl⟩ | ⟨e, he, ⟨hF, hn, hT, ho⟩, rfl⟩
  · rcases ho with ⟨k0, ho⟩ | ⟨_, ho⟩
    · cases ho
      exact ⟨0, (FP.f2d v), g, L, vf_upd fd 0 (FP.f2d v), rfl, hn, pm_TC_keep hT (fun x hx => pm_up_n (by omega)), pm_LD_keep (pm_LD_keep hL hn (fun a h1 h2 => hF a (by omega) h2)) (Nat.le_refl _) (fun a ha _ => pm_up_n (by omega)), pm_TM_keep hTM (fun x h1 h2 => (pm_up_n (by omega)).trans (hF x h1 (by omega))), (pm_up_n (by decide)).trans (hF _ (by decide) (by omega)), pm_up_s, fun _ => if_pos rfl, rfl, rfl, Or.inl ⟨k0, rfl, rfl⟩⟩
    · cases ho
  · rcases ho with ⟨_, ho⟩ | ⟨k0, ho⟩
    · cases ho
    · simp only [List.mem_cons, List.not_mem_nil, or_false] at he
      subst he
      exact ⟨1, 0, g, L, fd, rfl, hn, hT, pm_LD_keep hL hn (fun a h1 h2 => hF a (by omega) h2), pm_TM_keep hTM (fun x h1 h2 => hF x h1 (by omega)), hF _ (by decide) (by omega), (hF _ (by decide) (by omega)).trans h150, fun e0 => absurd e0 (by decide), rfl, rfl, Or.inr ⟨by omega, rfl⟩⟩
section PFP
variable {n : Nat} {r g f to : Nat → Int32}
theorem pm_msL (hRS : pm_RS n r g) : ∀ (k j : Nat) (a : Int32), j + k = n → d_X12_meanSales_L1 r k j a = d_X13_meanSales_L1 g k j a := by
  intro k
  induction k with
  | zero => intro j a _; rfl
  | succ k ih =>
    intro j a h
    simp only [d_X12_meanSales_L1, d_X13_meanSales_L1]
    rw [(hRS.2.1 j (by omega)).2.2.2.1]
    exact ih (j + 1) _ (by omega)
theorem pm_a_mean (hRS : pm_RS n r g) (h7 : n ≤ 7) : ((d_X12_meanSales n r to).1 = 0 ∧ (d_X13_meanSales n f g).2 6 = 0 ∧ (d_X12_meanSales n r to).2 = (d_X13_meanSales n f g).1) ∨ ((d_X12_meanSales n r to).1 = 6 ∧ (d_X13_meanSales n f g).2 6 = 1) := by
  unfold d_X12_meanSales d_X13_meanSales
  by_cases h0 : n = 0
  · subst h0
    rw [if_pos (show nI 0 = 0 from rfl), if_pos (show nI 0 ≤ 0 by decide)]
    exact Or.inr ⟨rfl, (by dsimp only; rw [pk_us] <;> rfl)⟩
  · rw [if_neg (nI_ne0 (by omega) (by omega)), if_neg (by rw [show (0 : Int32) = nI 0 from rfl, nI_leI (by omega) (by decide)]; omega), pm_msL hRS n 0 0 (by omega)]
    exact Or.inl ⟨rfl, (by dsimp only; rw [pk_us] <;> rfl), rfl⟩
theorem pm_fr_mean {j : Nat} (hj : j ≠ 6) : (d_X13_meanSales n f g).2 j = f j := by
  unfold d_X13_meanSales
  split <;> exact pk_un hj
theorem pm_a_fined {B : Nat} (hRS : pm_RS n r g) (hI : pm_I B n r) (hB : B ≤ 3902976) : ((d_X12_finedShare r to).1 = 0 ∧ (d_X13_finedShare f g).2 6 = 0 ∧ (d_X12_finedShare r to).2 = (d_X13_finedShare f g).1 ∧ vf_n64 (FP.f2d (d_X13_finedShare f g).1) ∧ Op.cmpValue (FP.dcmp (FP.f2d (d_X13_finedShare f g).1) (FP.f2d (d_X13_finedShare f g).1)) .l = 0) ∨ ((d_X12_finedShare r to).1 = 6 ∧ (d_X13_finedShare f g).2 6 = 1) := by
  obtain ⟨-, -, -, -, -, a, b, e5, e6, hab⟩ := hI.1
  have g5 : g 5 = nI (a + b) := by rw [hRS.1.2.2.2.2.2.1, e5, e6, nI_add]
  have r56 : r 5 + r 6 = nI (a + b) := by rw [e5, e6, nI_add]
  have g6 : g 6 = r 6 := hRS.1.2.2.2.2.2.2
  unfold d_X12_finedShare d_X13_finedShare
  rw [r56, g5, g6]
  by_cases h0 : a + b = 0
  · rw [h0, if_pos (show nI 0 = 0 from rfl), if_pos (show nI 0 ≤ 0 by decide)]
    exact Or.inr ⟨rfl, (by dsimp only; rw [pk_us] <;> rfl)⟩
  · have hne : ¬ nI (a + b) = 0 := nI_ne0 (by omega) (by omega)
    rw [if_neg hne, if_neg (by rw [show (0 : Int32) = nI 0 from rfl, nI_leI (by omega) (by decide)]; omega)]
    exact Or.inl ⟨rfl, (by dsimp only; rw [pk_us] <;> rfl), rfl, fp_fs _ _ hne⟩
theorem pm_fr_fined {j : Nat} (hj : j ≠ 6) : (d_X13_finedShare f g).2 j = f j := by
  unfold d_X13_finedShare
  split <;> exact pk_un hj
end PFP
set_option maxHeartbeats 1000000 in
theorem pm_op_39 {l : Launch} {z : Nat} {D : va_G} {kA : Nat → ClassId} {kE : Nat → Nat} {nm : String} {tb : List ExceptionTableEntry} {mc ms : Nat} {X : pm_X} {cu su : Nat} {Q : State → Prop} {nx : Nat} {M : pm_M} {b N i Bd : Nat} {xs : Nat → Int32} (B : pm_B l z D kA kE RL code 9 ret nm tb 2048 mc ms X) (hXs : va_X b N xs X.2.2.2.1 X.2.2.2.1.heap) (hbz : b < z) (hiN : i + 4 ≤ N) (hN : N ≤ 2048) (hcu : cu + 25 ≤ mc) (hsu : su + 78 ≤ ms) (hJ : pm_J z kA kE nx M Bd)
    (next : ∀ nx' M', nx ≤ nx' → pm_J z kA kE nx' M' (Bd + 693 * 11) → pm_G l z D X (cu + 25) (su + 78) Q nx' M' 2623 [some (.ref b), some (.ref (z + 0)), some (.ref (z + 140)), some (.ref (z + 149)), some (.ref (z + 150)), some (.int (nI i)), none, none, none] []) : pm_G l z D X cu su Q nx M 1988 [some (.ref b), some (.ref (z + 0)), some (.ref (z + 140)), some (.ref (z + 149)), some (.ref (z + 150)), some (.int (nI i)), none, none, none] [] := by
  obtain ⟨hnx, g, h, L, fo, fd, hT, hTM, hL, h149, h150, hRel⟩ := hJ
  obtain ⟨⟨n, hRS, hI⟩, ⟨ho, hk8, hf5, -⟩, -⟩ := id hRel
  have hn := hI.1.1
  have h7 := hI.1.2.1
  have hgn : h.2 1 0 = nI n := hRS.1.1.trans hn
  have hsd := hI.1.2.2.2.1
  have hgd : h.2 1 2 = nI (pm_n (h.2 1 2)) := by rw [hRS.1.2.2.1]; exact hsd.1
  have hgl : pm_n (h.2 1 2) < 1024 := by rw [hRS.1.2.2.1]; exact hsd.2
  have hA := pm_a_mean (f := h.1) (to := g.1 12) hRS h7
  have hk : (d_X12_meanSales n (g.1 0) (g.1 12)).1 = 0 ∨ (d_X12_meanSales n (g.1 0) (g.1 12)).1 = 6 := by
    rcases hA with hA | hA
    · exact Or.inl hA.1
    · exact Or.inr hA.1
  have hC := f_X12_meanSales (l := l) (D := D) (nx := nx) hT hn h7 fp_h64
  refine pm_lw_39 (Bd := Bd) (L := L) (fo := fo) (fd := fd) (N := N) (xs := xs) (g := g) (dW := 21) (mcW := 2) (msW := 12) (dX := 2) (h := h) (h2 := (pm_hf h ((d_X13_meanSales n h.1 (h.2 1)).2))) (mv := (d_X13_meanSales n h.1 (h.2 1)).1) rfl (by decide) (by decide) rfl B hcu hsu hnx hT h149
    (pm_CwPost (c_L_meanSales (w := 150) (N := 1) (f := fd) (by decide) (by decide) hT.1 hC (fun u n' M1 hp => ?_) (fun E n' M1 hp => ?_)) (fun o n' M' hp => pm_wdN hTM h150 hL hnx hk hp))
    (fun n' M' hT' => ⟨_, c_X13_meanSales hT'.1 hT'.2.1 hgn h7 fp_h64, (pm_TM_f hT'), fun a ha => by rw [pm_up_n (by omega)]⟩) (fun kc v g2 L2 hR => ?_) next
  · obtain ⟨hF, -, -, ho⟩ := hp
    refine ⟨?_, (hF _ (by decide) (by omega)).trans h150⟩
    rcases ho with ⟨k0, ho⟩ | ⟨_, ho⟩
    · cases ho
      exact ⟨_, rfl⟩
    · cases ho
  · obtain ⟨-, -, -, ho⟩ := hp
    rcases ho with ⟨k0, ho⟩ | ⟨k0, ho⟩
    · cases ho
    · obtain rfl := Sum.inr.inj ho
      rcases hk with hk | hk
      · omega
      · rw [hk]
        rfl
  · obtain ⟨rfl, rfl, hR⟩ := hR
    refine ⟨?_, ?_, pm_Rel_le (by omega) (pm_Rel_cg hRel (fun j hj => by rcases hj with rfl | rfl | rfl | rfl | rfl | rfl <;> rfl) rfl rfl (fun j hj => pm_fr_mean (by omega)) (fun j hj => by rcases hj with rfl | rfl | rfl | rfl | rfl <;> rfl))⟩
    · rcases hA with ⟨a1, a2, a3⟩ | ⟨a1, a2⟩ <;> rcases hR with ⟨b1, rfl, vv⟩ | ⟨b1, rfl⟩
      · exact a2
      · omega
      · omega
      · exact a2
    · rcases hA with ⟨a1, a2, a3⟩ | ⟨a1, a2⟩ <;> rcases hR with ⟨b1, rfl, vv⟩ | ⟨b1, rfl⟩
      · exact fun _ => vv.trans a3
      · omega
      · omega
      · exact fun e0 => absurd e0 (by decide)
set_option maxHeartbeats 1000000 in
theorem pm_op_40 {l : Launch} {z : Nat} {D : va_G} {kA : Nat → ClassId} {kE : Nat → Nat} {nm : String} {tb : List ExceptionTableEntry} {mc ms : Nat} {X : pm_X} {cu su : Nat} {Q : State → Prop} {nx : Nat} {M : pm_M} {b N i Bd : Nat} {xs : Nat → Int32} (B : pm_B l z D kA kE RL code 9 ret nm tb 2048 mc ms X) (hXs : va_X b N xs X.2.2.2.1 X.2.2.2.1.heap) (hbz : b < z) (hiN : i + 4 ≤ N) (hN : N ≤ 2048) (hcu : cu + 25 ≤ mc) (hsu : su + 78 ≤ ms) (hJ : pm_J z kA kE nx M Bd) (hBd : Bd ≤ 3902976)
    (next : ∀ nx' M', nx ≤ nx' → pm_J z kA kE nx' M' (Bd + 693 * 11) → pm_G l z D X (cu + 25) (su + 78) Q nx' M' 2623 [some (.ref b), some (.ref (z + 0)), some (.ref (z + 140)), some (.ref (z + 149)), some (.ref (z + 150)), some (.int (nI i)), none, none, none] []) : pm_G l z D X cu su Q nx M 2053 [some (.ref b), some (.ref (z + 0)), some (.ref (z + 140)), some (.ref (z + 149)), some (.ref (z + 150)), some (.int (nI i)), none, none, none] [] := by
  obtain ⟨hnx, g, h, L, fo, fd, hT, hTM, hL, h149, h150, hRel⟩ := hJ
  obtain ⟨⟨n, hRS, hI⟩, ⟨ho, hk8, hf5, -⟩, -⟩ := id hRel
  have hn := hI.1.1
  have h7 := hI.1.2.1
  have hgn : h.2 1 0 = nI n := hRS.1.1.trans hn
  have hsd := hI.1.2.2.2.1
  have hgd : h.2 1 2 = nI (pm_n (h.2 1 2)) := by rw [hRS.1.2.2.1]; exact hsd.1
  have hgl : pm_n (h.2 1 2) < 1024 := by rw [hRS.1.2.2.1]; exact hsd.2
  have hA := pm_a_fined (f := h.1) (to := g.1 12) hRS hI hBd
  have hk : (d_X12_finedShare (g.1 0) (g.1 12)).1 = 0 ∨ (d_X12_finedShare (g.1 0) (g.1 12)).1 = 6 := by
    rcases hA with hA | hA
    · exact Or.inl hA.1
    · exact Or.inr hA.1
  have hC := f_X12_finedShare (l := l) (D := D) (nx := nx) hT fp_h32
  refine pm_lw_40 (Bd := Bd) (L := L) (fo := fo) (fd := fd) (N := N) (xs := xs) (g := g) (dW := 21) (mcW := 2) (msW := 12) (dX := 2) (h := h) (h2 := (pm_hf h ((d_X13_finedShare h.1 (h.2 1)).2))) (mv := (d_X13_finedShare h.1 (h.2 1)).1) rfl (by decide) (by decide) rfl B hcu hsu hnx hT h149
    (pm_CwPost (c_L_finedShare (w := 150) (N := 1) (f := fd) (by decide) (by decide) hT.1 hC (fun u n' M1 hp => ?_) (fun E n' M1 hp => ?_)) (fun o n' M' hp => pm_wfN hTM h150 hL hnx hk hp))
    (fun n' M' hT' => ⟨_, c_X13_finedShare hT'.1 hT'.2.1 fp_h32, (pm_TM_f hT'), fun a ha => by rw [pm_up_n (by omega)]⟩) (fun kc v g2 L2 hR => ?_) next
  · obtain ⟨hF, -, -, ho⟩ := hp
    refine ⟨?_, (hF _ (by decide) (by omega)).trans h150⟩
    rcases ho with ⟨k0, ho⟩ | ⟨_, ho⟩
    · cases ho
      rcases hA with hA | hA
      · exact ⟨_, rfl, by rw [hA.2.2.1]; exact hA.2.2.2.1⟩
      · omega
    · cases ho
  · obtain ⟨-, -, -, ho⟩ := hp
    rcases ho with ⟨k0, ho⟩ | ⟨k0, ho⟩
    · cases ho
    · obtain rfl := Sum.inr.inj ho
      rcases hk with hk | hk
      · omega
      · rw [hk]
        rfl
  · obtain ⟨rfl, rfl, hR⟩ := hR
    refine ⟨?_, ?_, pm_Rel_le (by omega) (pm_Rel_cg hRel (fun j hj => by rcases hj with rfl | rfl | rfl | rfl | rfl | rfl <;> rfl) rfl rfl (fun j hj => pm_fr_fined (by omega)) (fun j hj => by rcases hj with rfl | rfl | rfl | rfl | rfl <;> rfl))⟩
    · rcases hA with ⟨a1, a2, a3, a4⟩ | ⟨a1, a2⟩ <;> rcases hR with ⟨b1, rfl, vv⟩ | ⟨b1, rfl⟩
      · exact a2
      · omega
      · omega
      · exact a2
    · rcases hA with ⟨a1, a2, a3, a4⟩ | ⟨a1, a2⟩ <;> rcases hR with ⟨b1, rfl, vv⟩ | ⟨b1, rfl⟩
      · exact fun _ => ⟨vv.trans (by rw [a3]), a4⟩
      · omega
      · omega
      · exact fun e0 => absurd e0 (by decide)
