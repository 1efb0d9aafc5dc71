/-! the askers, class and reference -/
def pm_AS (k : Nat) (v th mv : Int32) (hn : List (Nat × Int32)) : Prop := (k = 0 ∧ th = 0 ∧ v = mv) ∨ ∃ e ∈ hn, k = e.1 ∧ th = e.2
theorem pm_nas {l : Launch} {z : Nat} {D : va_G} {kA : Nat → ClassId} {kE : Nat → Nat} {nx : Nat} {M : pm_M} {g' : pm_Cs} {L : Int32 × Int32 × Int32} {y : MethodName} {cc : ByteArray} {nL d mc ms k : Nat} {rt : Option FieldType} {As : List Value} {v th mv : Int32} {hl : List (String × Int32)} {hn : List (Nat × Int32)} (hC : pm_C l z D kA kE y cc nL rt d mc ms As nx M (pm_fa z kA kE nx M k (some (.int v)) g')) (hL : pm_LD z nx M g'.2.2.2.2.2 L) (hA : pm_AS k v th mv hn) (hh : ∀ e ∈ hn, (pm_xn.getD e.1 "", e.2) ∈ hl ∧ ¬ e.1 = 0 ∧ ¬ e.2 = 0) : pm_C l z D kA kE y cc nL rt d mc ms As nx M (pm_cl2 z kA kE nx M hl (fun kc v' g2 L2 => g2 = g' ∧ L2 = L ∧ kc = th ∧ (kc = 0 → v' = mv))) := by
  refine pm_Cpost hC fun o n' M' hp => ?_
  obtain ⟨hF, hn', hT, ho⟩ := hp
  refine ⟨hF, hn', g', L, hT, pm_LD_keep hL hn' (fun a h1 h2 => hF a (by omega) h2), ?_⟩
  rcases ho with ⟨k0, rfl⟩ | ⟨k0, rfl⟩
  · rcases hA with ⟨_, t0, vv⟩ | ⟨e, he, ke, _⟩
    · exact Or.inl ⟨v, rfl, rfl, rfl, t0.symm, fun _ => vv⟩
    · exact absurd (ke.symm.trans k0) (hh e he).2.1
  · rcases hA with ⟨k1, _, _⟩ | ⟨e, he, ke, te⟩
    · omega
    · exact Or.inr ⟨_, (hh e he).1, by rw [ke], rfl, rfl, te.symm, fun e0 => absurd e0 (hh e he).2.2⟩
theorem pm_le0e {a : Int32} (h : ¬ a < 0) : a ≤ 0 ↔ a = 0 := ⟨fun h1 => Int32.le_antisymm h1 (Int32.not_lt.mp h), fun e => by rw [e]; decide⟩
section PAS
variable {n : Nat} {r g f to : Nat → Int32} {x y w : Int32}
theorem pm_a_capacity (hRS : pm_RS n r g) (hw : ∀ i, i < n → pm_rw r i) (h7 : n ≤ 7) : pm_AS (d_X12_capacity x n r to).1 (d_X12_capacity x n r to).2 ((d_X13_capacity x n f g).2 6) (d_X13_capacity x n f g).1 [(1, 1)] := by
  unfold d_X12_capacity d_X13_capacity d_X13_tells
  rw [pm_hm (r := r) h7]
  by_cases hm : d_X10_hasMember x n r = 0
  · rw [if_pos hm, if_pos hm]
    exact Or.inr ⟨(1, 1), List.mem_cons_self, rfl, (by dsimp only; rw [pk_us] <;> first | rfl | exact if_pos hm | exact if_neg hm)⟩
  · rw [if_neg hm, if_neg hm]
    obtain ⟨i, hi, rfl⟩ := pm_hmx h7 hm
    rw [pm_n_nI (by omega)]
    exact Or.inl ⟨rfl, (by dsimp only; rw [pk_us] <;> first | rfl | exact if_pos hm | exact if_neg hm), ((hRS.2.1 i hi).1).symm⟩
theorem pm_fr_capacity {j : Nat} (hj : j ≠ 6) : (d_X13_capacity x n f g).2 j = f j := by
  unfold d_X13_capacity d_X13_tells
  split <;> exact pk_un hj
theorem pm_a_votes (hRS : pm_RS n r g) (hw : ∀ i, i < n → pm_rw r i) (h7 : n ≤ 7) : pm_AS (d_X12_votes x n r to).1 (d_X12_votes x n r to).2 ((d_X13_votes x n f g).2 6) (d_X13_votes x n f g).1 [(1, 1)] := by
  unfold d_X12_votes d_X13_votes d_X13_tells
  rw [pm_hm (r := r) h7]
  by_cases hm : d_X10_hasMember x n r = 0
  · rw [if_pos hm, if_pos hm]
    exact Or.inr ⟨(1, 1), List.mem_cons_self, rfl, (by dsimp only; rw [pk_us] <;> first | rfl | exact if_pos hm | exact if_neg hm)⟩
  · rw [if_neg hm, if_neg hm]
    obtain ⟨i, hi, rfl⟩ := pm_hmx h7 hm
    rw [pm_n_nI (by omega)]
    exact Or.inl ⟨rfl, (by dsimp only; rw [pk_us] <;> first | rfl | exact if_pos hm | exact if_neg hm), ((hRS.2.1 i hi).2.1).symm⟩
theorem pm_fr_votes {j : Nat} (hj : j ≠ 6) : (d_X13_votes x n f g).2 j = f j := by
  unfold d_X13_votes d_X13_tells
  split <;> exact pk_un hj
theorem pm_a_quota (hRS : pm_RS n r g) (hw : ∀ i, i < n → pm_rw r i) (h7 : n ≤ 7) : pm_AS (d_X12_quota x n r to).1 (d_X12_quota x n r to).2 ((d_X13_quota x n f g).2 6) (d_X13_quota x n f g).1 [(1, 1)] := by
  unfold d_X12_quota d_X13_quota d_X13_tells
  rw [pm_hm (r := r) h7]
  by_cases hm : d_X10_hasMember x n r = 0
  · rw [if_pos hm, if_pos hm]
    exact Or.inr ⟨(1, 1), List.mem_cons_self, rfl, (by dsimp only; rw [pk_us] <;> first | rfl | exact if_pos hm | exact if_neg hm)⟩
  · rw [if_neg hm, if_neg hm]
    obtain ⟨i, hi, rfl⟩ := pm_hmx h7 hm
    rw [pm_n_nI (by omega)]
    exact Or.inl ⟨rfl, (by dsimp only; rw [pk_us] <;> first | rfl | exact if_pos hm | exact if_neg hm), ((hRS.2.1 i hi).2.2.1).symm⟩
theorem pm_fr_quota {j : Nat} (hj : j ≠ 6) : (d_X13_quota x n f g).2 j = f j := by
  unfold d_X13_quota d_X13_tells
  split <;> exact pk_un hj
theorem pm_a_sales (hRS : pm_RS n r g) (hw : ∀ i, i < n → pm_rw r i) (h7 : n ≤ 7) : pm_AS (d_X12_sales x n r to).1 (d_X12_sales x n r to).2 ((d_X13_sales x n f g).2 6) (d_X13_sales x n f g).1 [(1, 1)] := by
  unfold d_X12_sales d_X13_sales d_X13_tells
  rw [pm_hm (r := r) h7]
  by_cases hm : d_X10_hasMember x n r = 0
  · rw [if_pos hm, if_pos hm]
    exact Or.inr ⟨(1, 1), List.mem_cons_self, rfl, (by dsimp only; rw [pk_us] <;> first | rfl | exact if_pos hm | exact if_neg hm)⟩
  · rw [if_neg hm, if_neg hm]
    obtain ⟨i, hi, rfl⟩ := pm_hmx h7 hm
    rw [pm_n_nI (by omega)]
    exact Or.inl ⟨rfl, (by dsimp only; rw [pk_us] <;> first | rfl | exact if_pos hm | exact if_neg hm), ((hRS.2.1 i hi).2.2.2.1).symm⟩
theorem pm_fr_sales {j : Nat} (hj : j ≠ 6) : (d_X13_sales x n f g).2 j = f j := by
  unfold d_X13_sales d_X13_tells
  split <;> exact pk_un hj
theorem pm_a_excess (hRS : pm_RS n r g) (hw : ∀ i, i < n → pm_rw r i) (h7 : n ≤ 7) : pm_AS (d_X12_excess x n r to).1 (d_X12_excess x n r to).2 ((d_X13_excess x n f g).2 6) (d_X13_excess x n f g).1 [(1, 1)] := by
  unfold d_X12_excess d_X13_excess
  rw [pm_hm (r := r) h7]
  by_cases hm : d_X10_hasMember x n r = 0
  · rw [if_pos hm, if_pos hm]
    exact Or.inr ⟨(1, 1), List.mem_cons_self, rfl, (by dsimp only; rw [pk_us] <;> first | rfl | exact if_pos hm | exact if_neg hm)⟩
  · rw [if_neg hm, if_neg hm]
    obtain ⟨i, hi, rfl⟩ := pm_hmx h7 hm
    rw [pm_n_nI (by omega)]
    refine Or.inl ⟨rfl, (by dsimp only; rw [pk_us] <;> first | rfl | exact if_pos hm | exact if_neg hm), ?_⟩
    show _ = pm_max 0 (g (7 + 5 * i + 3) - g (7 + 5 * i + 2))
    rw [(hRS.2.1 i hi).2.2.1, (hRS.2.1 i hi).2.2.2.1]
theorem pm_fr_excess {j : Nat} (hj : j ≠ 6) : (d_X13_excess x n f g).2 j = f j := by
  unfold d_X13_excess
  split <;> exact pk_un hj
theorem pm_a_warnings (hRS : pm_RS n r g) (hw : ∀ i, i < n → pm_rw r i) (h7 : n ≤ 7) : pm_AS (d_X12_warnings x n r to).1 (d_X12_warnings x n r to).2 ((d_X13_warnings x n f g).2 6) (d_X13_warnings x n f g).1 [(1, 1), (4, 2)] := by
  unfold d_X12_warnings d_X13_warnings
  rw [pm_hm (r := r) h7]
  by_cases hm : d_X10_hasMember x n r = 0
  · rw [if_pos hm, if_pos hm]
    exact Or.inr ⟨(1, 1), List.mem_cons_self, rfl, (by dsimp only; rw [pk_us] <;> rfl)⟩
  · rw [if_neg hm, if_neg hm]
    obtain ⟨i, hi, rfl⟩ := pm_hmx h7 hm
    rw [pm_n_nI (by omega)]
    rcases pm_std (hw i hi) (hRS.2.1 i hi) with ⟨a, b, c⟩ | ⟨a, b, c⟩ | ⟨a, b, c⟩ | ⟨a, b, c⟩ | ⟨a, b, c⟩ <;> rw [a, c]
    · rw [if_pos rfl, if_neg (by decide)]; exact Or.inr ⟨(4, 2), List.mem_cons_of_mem _ List.mem_cons_self, rfl, (by dsimp only; rw [pk_us] <;> rfl)⟩
    · rw [if_neg (by decide), if_pos (by decide)]; exact Or.inl ⟨rfl, (by dsimp only; rw [pk_us] <;> rfl), rfl⟩
    · rw [if_neg (by decide), if_pos (by decide)]; exact Or.inl ⟨rfl, (by dsimp only; rw [pk_us] <;> rfl), rfl⟩
    · rw [if_pos rfl, if_neg (by decide)]; exact Or.inr ⟨(4, 2), List.mem_cons_of_mem _ List.mem_cons_self, rfl, (by dsimp only; rw [pk_us] <;> rfl)⟩
    · rw [if_pos rfl, if_neg (by decide)]; exact Or.inr ⟨(4, 2), List.mem_cons_of_mem _ List.mem_cons_self, rfl, (by dsimp only; rw [pk_us] <;> rfl)⟩
theorem pm_fr_warnings {j : Nat} (hj : j ≠ 6) : (d_X13_warnings x n f g).2 j = f j := by
  unfold d_X13_warnings
  (repeat' split) <;> exact pk_un hj
theorem pm_a_barredMonths (hRS : pm_RS n r g) (hw : ∀ i, i < n → pm_rw r i) (h7 : n ≤ 7) : pm_AS (d_X12_barredMonths x n r to).1 (d_X12_barredMonths x n r to).2 ((d_X13_barredMonths x n f g).2 6) (d_X13_barredMonths x n f g).1 [(1, 1), (4, 2)] := by
  unfold d_X12_barredMonths d_X13_barredMonths
  rw [pm_hm (r := r) h7]
  by_cases hm : d_X10_hasMember x n r = 0
  · rw [if_pos hm, if_pos hm]
    exact Or.inr ⟨(1, 1), List.mem_cons_self, rfl, (by dsimp only; rw [pk_us] <;> rfl)⟩
  · rw [if_neg hm, if_neg hm]
    obtain ⟨i, hi, rfl⟩ := pm_hmx h7 hm
    rw [pm_n_nI (by omega)]
    have hb := pm_bar (hw i hi) (hRS.2.1 i hi)
    by_cases hz : r (7 + 6 * i + 5) = 0
    · rw [if_pos hz, if_pos (hb.mp hz)]; exact Or.inr ⟨(4, 2), List.mem_cons_of_mem _ List.mem_cons_self, rfl, (by dsimp only; rw [pk_us] <;> rfl)⟩
    · rw [if_neg hz, if_neg (fun e => hz (hb.mpr e))]
      refine Or.inl ⟨rfl, (by dsimp only; rw [pk_us] <;> rfl), ?_⟩
      show r (7 + 6 * i + 5) = -(g (7 + 5 * i + 4))
      rcases pm_std (hw i hi) (hRS.2.1 i hi) with ⟨a, b, c⟩ | ⟨a, b, c⟩ | ⟨a, b, c⟩ | ⟨a, b, c⟩ | ⟨a, b, c⟩ <;> rw [b, c] <;> first | decide | exact absurd b hz
theorem pm_fr_barredMonths {j : Nat} (hj : j ≠ 6) : (d_X13_barredMonths x n f g).2 j = f j := by
  unfold d_X13_barredMonths
  (repeat' split) <;> exact pk_un hj
theorem pm_a_standing (hRS : pm_RS n r g) (hw : ∀ i, i < n → pm_rw r i) (h7 : n ≤ 7) : pm_AS (d_X12_standing x n r to).1 (d_X12_standing x n r to).2 ((d_X13_standing x n f g).2 6) (d_X13_standing x n f g).1 [(1, 1)] := by
  by_cases hm : d_X10_hasMember x n r = 0
  · have e : d_X13_tells x 4 n f g = (0, upd f 6 1) := by
      unfold d_X13_tells
      rw [pm_hm (r := r) h7, if_pos hm, hm]
      rfl
    have e1 : d_X13_standing x n f g = (32, upd f 6 1) := by
      unfold d_X13_standing
      rw [e, if_neg (show ¬ (upd f 6 1 6 : Int32) ≤ 0 by rw [pk_us]; decide)]
    rw [e1]
    unfold d_X12_standing
    rw [if_pos hm]
    exact Or.inr ⟨(1, 1), List.mem_cons_self, rfl, (by dsimp only; rw [pk_us] <;> rfl)⟩
  · obtain ⟨i, hi, rfl⟩ := pm_hmx h7 hm
    have e : d_X13_tells (nI i) 4 n f g = (g (7 + 5 * i + 4), upd f 6 0) := by
      unfold d_X13_tells
      rw [pm_hm (r := r) h7, if_neg hm, pm_n_nI (by omega), show pm_th (d_X10_hasMember (nI i) n r) = 0 from if_neg hm]
    unfold d_X12_standing d_X13_standing
    rw [e, if_neg hm, if_pos (show (upd f 6 0 6 : Int32) ≤ 0 by rw [pk_us]; decide), pm_n_nI (by omega)]
    dsimp only
    rcases pm_std (hw i hi) (hRS.2.1 i hi) with ⟨a, b, c⟩ | ⟨a, b, c⟩ | ⟨a, b, c⟩ | ⟨a, b, c⟩ | ⟨a, b, c⟩ <;> rw [a, b, c]
    · rw [if_pos (by decide), if_pos rfl]; exact Or.inl ⟨rfl, (by dsimp only; rw [pk_us] <;> rfl), rfl⟩
    · rw [if_neg (by decide), if_pos (by decide), if_neg (by decide), if_neg (by decide)]; exact Or.inl ⟨rfl, (by dsimp only; rw [pk_us] <;> rfl), rfl⟩
    · rw [if_neg (by decide), if_pos (by decide), if_neg (by decide), if_neg (by decide)]; exact Or.inl ⟨rfl, (by dsimp only; rw [pk_us] <;> rfl), rfl⟩
    · rw [if_neg (by decide), if_neg (by decide), if_neg (by decide), if_pos (by decide)]; exact Or.inl ⟨rfl, (by dsimp only; rw [pk_us] <;> rfl), rfl⟩
    · rw [if_neg (by decide), if_neg (by decide), if_neg (by decide), if_pos (by decide)]; exact Or.inl ⟨rfl, (by dsimp only; rw [pk_us] <;> rfl), rfl⟩
theorem pm_fr_standing {j : Nat} (hj : j ≠ 6) : (d_X13_standing x n f g).2 j = f j := by
  have e : (d_X13_tells x 4 n f g).2 j = f j := by
    unfold d_X13_tells
    split <;> exact pk_un hj
  unfold d_X13_standing
  (repeat' split) <;> exact e
theorem pm_a_faultPosition (h : (to 10 = 0 ∧ f 18 = -1) ∨ (¬ to 10 = 0 ∧ f 18 = to 11 ∧ ¬ to 11 < 0)) : pm_AS (d_X12_faultPosition to).1 (d_X12_faultPosition to).2 ((d_X13_faultPosition f).2 6) (d_X13_faultPosition f).1 [(4, 1)] := by
  unfold d_X12_faultPosition d_X13_faultPosition
  rcases h with ⟨a, b⟩ | ⟨a, b, c⟩
  · rw [if_pos a, b, if_pos (by decide)]
    exact Or.inr ⟨(4, 1), List.mem_cons_self, rfl, (by dsimp only; rw [pk_us] <;> rfl)⟩
  · rw [if_neg a, b, if_neg c]
    exact Or.inl ⟨rfl, (by dsimp only; rw [pk_us] <;> rfl), rfl⟩
theorem pm_fr_faultPosition {j : Nat} (hj : j ≠ 6) : (d_X13_faultPosition f).2 j = f j := by
  unfold d_X13_faultPosition
  split <;> exact pk_un hj
theorem pm_a_denial {L : Int32 × Int32 × Int32} (h9 : f 9 = L.1) (h10 : f 10 = L.2.1) (hp : ¬ L.1 < 0) : pm_AS (if L.1 = 0 then 4 else 0) (if L.1 = 0 then 0 else L.1) ((d_X13_denial f).2 6) (d_X13_denial f).1 [(4, 1)] := by
  unfold d_X13_denial
  rw [h9]
  by_cases hz : L.1 = 0
  · rw [if_pos hz, if_pos hz, if_pos ((pm_le0e hp).mpr hz)]
    exact Or.inr ⟨(4, 1), List.mem_cons_self, rfl, (by dsimp only; rw [pk_us] <;> rfl)⟩
  · rw [if_neg hz, if_neg hz, if_neg (fun e => hz ((pm_le0e hp).mp e))]
    exact Or.inl ⟨rfl, (by dsimp only; rw [pk_us] <;> rfl), rfl⟩
theorem pm_fr_denial {j : Nat} (hj : j ≠ 6) : (d_X13_denial f).2 j = f j := by
  unfold d_X13_denial
  split <;> exact pk_un hj
theorem pm_a_denialDetail {L : Int32 × Int32 × Int32} (h9 : f 9 = L.1) (h10 : f 10 = L.2.1) (hp : ¬ L.1 < 0) : pm_AS (if L.1 = 0 then 4 else 0) (if L.1 = 0 then 0 else L.2.1) ((d_X13_denialDetail f).2 6) (d_X13_denialDetail f).1 [(4, 1)] := by
  unfold d_X13_denialDetail
  rw [h9]
  by_cases hz : L.1 = 0
  · rw [if_pos hz, if_pos hz, if_pos ((pm_le0e hp).mpr hz)]
    exact Or.inr ⟨(4, 1), List.mem_cons_self, rfl, (by dsimp only; rw [pk_us] <;> rfl)⟩
  · rw [if_neg hz, if_neg hz, if_neg (fun e => hz ((pm_le0e hp).mp e))]
    exact Or.inl ⟨rfl, (by dsimp only; rw [pk_us] <;> rfl), h10.symm⟩
theorem pm_fr_denialDetail {j : Nat} (hj : j ≠ 6) : (d_X13_denialDetail f).2 j = f j := by
  unfold d_X13_denialDetail
  split <;> exact pk_un hj
theorem pm_a_denialCause {L : Int32 × Int32 × Int32} (h9 : f 9 = L.1) (h11 : f 11 = L.2.2) (hp : ¬ L.1 < 0) (hp2 : ¬ L.2.2 < 0) (hz : L.1 = 0 → L.2.2 = 0) : pm_AS (if L.2.2 = 0 then 4 else 0) (if L.2.2 = 0 then 0 else L.2.2) ((d_X13_denialCause f).2 6) (d_X13_denialCause f).1 [(4, 1)] := by
  unfold d_X13_denialCause
  rw [h9, h11]
  by_cases h2 : L.2.2 = 0
  · rw [if_pos h2, if_pos h2]
    by_cases h1 : L.1 = 0
    · rw [if_pos ((pm_le0e hp).mpr h1)]
      exact Or.inr ⟨(4, 1), List.mem_cons_self, rfl, (by dsimp only; rw [pk_us] <;> rfl)⟩
    · rw [if_neg (fun e => h1 ((pm_le0e hp).mp e)), if_pos ((pm_le0e hp2).mpr h2)]
      exact Or.inr ⟨(4, 1), List.mem_cons_self, rfl, (by dsimp only; rw [pk_us] <;> rfl)⟩
  · have h1 : ¬ L.1 = 0 := fun e => h2 (hz e)
    rw [if_neg h2, if_neg h2, if_neg (fun e => h1 ((pm_le0e hp).mp e)), if_neg (fun e => h2 ((pm_le0e hp2).mp e))]
    exact Or.inl ⟨rfl, (by dsimp only; rw [pk_us] <;> rfl), rfl⟩
theorem pm_fr_denialCause {j : Nat} (hj : j ≠ 6) : (d_X13_denialCause f).2 j = f j := by
  unfold d_X13_denialCause
  (repeat' split) <;> exact pk_un hj
theorem pm_LD_z {z nx : Nat} {M : pm_M} {ldv : Value} {L : Int32 × Int32 × Int32} (h : pm_LD z nx M ldv L) : L.1 = 0 → L.2.2 = 0 := by
  intro e
  rcases h with ⟨_, _, h⟩ | ⟨_, _, _, _, h, _⟩
  · exact h
  · exact absurd e h
end PAS
