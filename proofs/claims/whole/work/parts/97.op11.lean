/-! swings by sets: closed -/
theorem pm_oth : ∀ A, A < 128 → ∀ i, i < 7 → nI A &&& (((1 : Int32) <<< (nI i &&& 31)) ^^^ (-1)) = nI (A &&& (127 - 2 ^ i)) ∧ A &&& (127 - 2 ^ i) ≤ A ∧ (A &&& (127 - 2 ^ i)) / 2 ^ i % 2 = 0 := by decide +kernel
theorem pm_subb : ∀ O, O < 128 → ∀ j, j < 128 → nI j &&& (nI O ^^^ (-1)) = 0 → ∀ i, i < 7 → O / 2 ^ i % 2 = 0 → j / 2 ^ i % 2 = 0 := by decide +kernel
theorem pm_bt2 : ∀ D, D < 128 → ∀ j, j < 7 → (((nI D) >>> ((nI j) &&& 31)) &&& 1) = nI (D / 2 ^ j % 2) := by decide +kernel
theorem pm_or2 : ∀ D, D < 128 → ∀ m, m < 7 → D ||| 2 ^ m < 128 ∧ ∀ j, j < 7 → (D ||| 2 ^ m) / 2 ^ j % 2 = if j = m then 1 else D / 2 ^ j % 2 := by decide +kernel
section PSW
variable {n i : Nat} {r g f : Nat → Int32}
theorem pm_voA {x c : Int32} : ∀ (k j : Nat) (a : Int32), d_X11_votesOf_L1 x r k j (a + c) = d_X11_votesOf_L1 x r k j a + c := by
  intro k
  induction k with
  | zero => intro j a; rfl
  | succ k ih =>
    intro j a
    simp only [d_X11_votesOf_L1]
    split
    · rw [Int32.add_assoc, Int32.add_comm c, ← Int32.add_assoc, ih]
    · rw [Int32.add_zero, Int32.add_zero, ih]
theorem pm_voO {s : Nat} (h7 : n ≤ 7) (hi : i < n) (hs : s < 128) (hb : s / 2 ^ i % 2 = 0) : ∀ (k j : Nat) (a : Int32), j + k = n → d_X11_votesOf_L1 (nI (s ||| 2 ^ i)) r k j a = d_X11_votesOf_L1 (nI s) r k j a + (if j ≤ i then r (7 + 6 * i + 1) else 0) := by
  obtain ⟨o1, o2⟩ := pm_or2 s hs i (by omega)
  intro k
  induction k with
  | zero =>
    intro j a h
    rw [if_neg (show ¬ j ≤ i by omega), Int32.add_zero]
    rfl
  | succ k ih =>
    intro j a h
    simp only [d_X11_votesOf_L1, pm_bt2 _ o1 j (by omega), pm_bt2 _ hs j (by omega), o2 j (by omega)]
    by_cases hji : j = i
    · subst hji
      rw [if_pos rfl, hb, if_pos (show nI 1 = 1 from rfl), if_neg (show ¬ nI 0 = 1 by decide), ih (j + 1) _ (by omega), if_neg (show ¬ j + 1 ≤ j by omega), if_pos (Nat.le_refl _), Int32.add_zero, Int32.add_zero, pm_voA]
    · rw [if_neg hji]
      have e : (if j ≤ i then r (7 + 6 * i + 1) else 0) = (if j + 1 ≤ i then r (7 + 6 * i + 1) else 0) := by
        by_cases h1 : j ≤ i
        · rw [if_pos h1, if_pos (by omega)]
        · rw [if_neg h1, if_neg (by omega)]
      rw [e]
      split
      · exact ih (j + 1) _ (by omega)
      · exact ih (j + 1) _ (by omega)
theorem pm_swT {O : Nat} (hO : O < 128) (eo : d_X10_activeSet n r &&& (((1 : Int32) <<< (nI i &&& 31)) ^^^ (-1)) = nI O) : ∀ (k j : Nat) (a : Int32), O < j → j + k ≤ 128 → d_X11_swingsBySets_L1 i n r k j a = a := by
  intro k
  induction k with
  | zero => intro j a _ _; rfl
  | succ k ih =>
    intro j a h1 h2
    simp only [d_X11_swingsBySets_L1, eo]
    rw [if_neg (pm_notsub O hO j (by omega) h1)]
    exact ih (j + 1) a (by omega) (by omega)
theorem pm_swL {O : Nat} {x : Int32} (h7 : n ≤ 7) (hi : i < n) (ex : pm_n x = i) (hm : ∀ i, i < n → pm_RSm r g i) (h3 : g 3 = r 3) (hO : O < 128) (hOb : O / 2 ^ i % 2 = 0) (eo : d_X10_activeSet n r &&& (((1 : Int32) <<< (nI i &&& 31)) ^^^ (-1)) = nI O) (eb : nI (pm_n (nI (pm_n (d_X13_active n (upd f 6 0) g)) &&& (((1 : Int32) <<< (nI i &&& 31)) ^^^ (-1)))) = nI O) : ∀ (k e j : Nat) (a : Int32), j + k = O + 1 → d_X11_swingsBySets_L1 i n r (k + e) j a = d_X11_swingsBySets_L1 i n r e (O + 1) (d_X13_swings_L1 x n f g k j a) := by
  intro k
  induction k with
  | zero =>
    intro e j a h
    obtain rfl : j = O + 1 := by omega
    rw [Nat.zero_add]
    rfl
  | succ k ih =>
    intro e j a h
    rw [show k + 1 + e = (k + e) + 1 by omega]
    simp only [d_X11_swingsBySets_L1, d_X13_swings_L1, ex, eo, eb, d_X13_wins, pm_voE hm, h3]
    by_cases c1 : nI j &&& (nI O ^^^ (-1)) = 0
    · rw [if_pos c1, if_pos c1]
      have hjb := pm_subb O hO j (by omega) c1 i (by omega) hOb
      have ev : d_X11_votesOf (nI j ||| ((1 : Int32) <<< (nI i &&& 31))) n r = d_X11_votesOf (nI j) n r + r (7 + 6 * i + 1) := by
        rw [pm_orb j (by omega) i (by omega)]
        unfold d_X11_votesOf
        rw [pm_voO h7 hi (by omega) hjb n 0 0 (by omega), if_pos (Nat.zero_le _)]
      rw [ev]
      by_cases c2 : d_X11_votesOf (nI j) n r < r 3
      · rw [if_pos c2, if_pos rfl]
        by_cases c3 : d_X11_votesOf (nI j) n r + r (7 + 6 * i + 1) < r 3
        · have es : d_X11_isSwing (d_X11_votesOf (nI j) n r) i n r = 0 := by
            unfold d_X11_isSwing
            rw [if_neg (Int32.not_le.mpr c2), if_pos c3]
          rw [es, if_pos rfl, if_pos c3, if_pos rfl, Int32.add_zero]
          exact ih e (j + 1) a (by omega)
        · have es : d_X11_isSwing (d_X11_votesOf (nI j) n r) i n r = 1 := by
            unfold d_X11_isSwing
            rw [if_neg (Int32.not_le.mpr c2), if_neg c3]
          rw [es, if_neg (by decide), if_neg c3, if_neg (by decide)]
          exact ih e (j + 1) _ (by omega)
      · have es : d_X11_isSwing (d_X11_votesOf (nI j) n r) i n r = 0 := by
          unfold d_X11_isSwing
          rw [if_pos (Int32.not_lt.mp c2)]
        rw [es, if_pos rfl, if_neg c2, if_neg (show ¬ (1 : Int32) = 0 by decide), Int32.add_zero]
        exact ih e (j + 1) a (by omega)
    · rw [if_neg c1, if_neg c1, Int32.add_zero]
      exact ih e (j + 1) a (by omega)
theorem pm_a_swings {x : Int32} {to : Nat → Int32} (hRS : pm_RS n r g) (hw : ∀ i, i < n → pm_rw r i) (h7 : n ≤ 7) : pm_AS (d_X12_swings x n r to).1 (d_X12_swings x n r to).2 ((d_X13_swings x n f g).2 6) (d_X13_swings x n f g).1 [(1, 1), (4, 2)] := by
  unfold d_X12_swings d_X13_swings
  rw [pm_hm (r := r) h7]
  by_cases hm : d_X10_hasMember x n r = 0
  · rw [if_pos hm, if_pos hm]
    exact Or.inr ⟨(1, 1), List.mem_cons_self, rfl, (by dsimp only; rw [pk_us] <;> rfl)⟩
  · rw [if_neg hm, if_neg hm]
    obtain ⟨i, hi, rfl⟩ := pm_hmx h7 hm
    have ei : pm_n (nI i) = i := pm_n_nI (by omega)
    rw [ei]
    have hb := pm_bar (hw i hi) (hRS.2.1 i hi)
    by_cases hz : r (7 + 6 * i + 5) = 0
    · rw [if_pos hz, if_pos (hb.mp hz)]
      obtain ⟨A, hA, hA7, ea, eb, ec⟩ := pm_act (f := upd f 6 0) hw hRS.2.1 h7
      obtain ⟨p1, p2, p3⟩ := pm_oth A hA7 i (by omega)
      have h128 : 2 ^ n ≤ 128 := Nat.pow_le_pow_right (by decide) h7
      have eo : d_X10_activeSet n r &&& (((1 : Int32) <<< (nI i &&& 31)) ^^^ (-1)) = nI (A &&& (127 - 2 ^ i)) := by rw [ea]; exact p1
      have eq : pm_n (nI (pm_n (d_X13_active n (upd f 6 0) g)) &&& (((1 : Int32) <<< (nI i &&& 31)) ^^^ (-1))) = A &&& (127 - 2 ^ i) := by rw [eb, p1, pm_n_nI (by omega)]
      refine Or.inl ⟨rfl, (by dsimp only; rw [pk_us] <;> rfl), ?_⟩
      show d_X11_swingsBySets_L1 i n r (2 ^ n) 0 0 = d_X13_swings_L1 (nI i) n f g (pm_n (nI (pm_n (d_X13_active n (upd f 6 0) g)) &&& (((1 : Int32) <<< (nI i &&& 31)) ^^^ (-1))) + 1) 0 0
      rw [eq]
      generalize A &&& (127 - 2 ^ i) = O at p2 p3 eo eq
      rw [show 2 ^ n = (O + 1) + (2 ^ n - (O + 1)) by omega, pm_swL (f := f) h7 hi ei hRS.2.1 hRS.1.2.2.2.1 (show O < 128 by omega) p3 eo (by rw [eq]) (O + 1) _ 0 0 (by omega), pm_swT (show O < 128 by omega) eo _ _ _ (by omega) (by omega)]
    · rw [if_neg hz, if_neg (fun e => hz (hb.mpr e))]
      exact Or.inr ⟨(4, 2), List.mem_cons_of_mem _ List.mem_cons_self, rfl, (by dsimp only; rw [pk_us] <;> rfl)⟩
theorem pm_fr_swings {x : Int32} {j : Nat} (hj : j ≠ 6) : (d_X13_swings x n f g).2 j = f j := by
  unfold d_X13_swings
  (repeat' split) <;> exact pk_un hj
end PSW
set_option maxHeartbeats 1000000 in
theorem pm_op_28 {l : Launch} {z : Nat} {D : va_G} {kA : Nat → ClassId} {kE : Nat → Nat} {nm : String} {tb : List ExceptionTableEntry} {mc ms : Nat} {X : pm_X} {cu su : Nat} {Q : State → Prop} {nx : Nat} {M : pm_M} {b N i Bd : Nat} {xs : Nat → Int32} (B : pm_B l z D kA kE RL code 9 ret nm tb 2048 mc ms X) (hXs : va_X b N xs X.2.2.2.1 X.2.2.2.1.heap) (hbz : b < z) (hiN : i + 4 ≤ N) (hN : N ≤ 2048) (hcu : cu + 25 ≤ mc) (hsu : su + 78 ≤ ms) (hJ : pm_J z kA kE nx M Bd)
    (next : ∀ nx' M', nx ≤ nx' → pm_J z kA kE nx' M' (Bd + 693 * 11) → pm_G l z D X (cu + 25) (su + 78) Q nx' M' 2623 [some (.ref b), some (.ref (z + 0)), some (.ref (z + 140)), some (.ref (z + 149)), some (.ref (z + 150)), some (.int (nI i)), none, none, none] []) : pm_G l z D X cu su Q nx M 1673 [some (.ref b), some (.ref (z + 0)), some (.ref (z + 140)), some (.ref (z + 149)), some (.ref (z + 150)), some (.int (nI i)), none, none, none] [] := by
  obtain ⟨hnx, g, h, L, fo, fd, hT, hTM, hL, h149, h150, hRel⟩ := hJ
  obtain ⟨⟨n, hRS, hI⟩, ⟨ho, hk8, hf5, -⟩, -⟩ := id hRel
  have hn := hI.1.1
  have h7 := hI.1.2.1
  have hgn : h.2 1 0 = nI n := hRS.1.1.trans hn
  have hsd := hI.1.2.2.2.1
  have hgd : h.2 1 2 = nI (pm_n (h.2 1 2)) := by rw [hRS.1.2.2.1]; exact hsd.1
  have hgl : pm_n (h.2 1 2) < 1024 := by rw [hRS.1.2.2.1]; exact hsd.2
  obtain ⟨-, -, hRs, hRt, hRf, hRl, hR9, hR10, hR11, hR1, hR2⟩ := id hRel
  have hC := pm_nas (hl := [("java/lang/IndexOutOfBoundsException", 1), ("java/util/NoSuchElementException", 2)]) (hn := [(1, 1), (4, 2)]) (f_X12_swings (l := l) (D := D) (x := xs (i + 1)) hT hn h7) hL (pm_a_swings (f := h.1) hRS hI.2.1 h7) (by decide +kernel)
  refine pm_lw_28 (Bd := Bd) (L := L) (fo := fo) (fd := fd) (N := N) (xs := xs) (dW := 21) (mcW := 2) (msW := 12) (dX := 3) (h2 := (pm_hf h ((d_X13_swings (xs (i + 1)) n h.1 (h.2 1)).2))) (mv := (d_X13_swings (xs (i + 1)) n h.1 (h.2 1)).1) rfl (by decide) (by decide) rfl B hXs hbz hiN hN hcu hsu hnx hT h150
    (pm_CwPost (c_L_swings (w := 149) (N := 1) (f := fo) (by decide) (by decide) hT.1 hC (fun v n' M1 hp => ⟨pm_clV hp, (hp.1 149 (by decide) (by omega)).trans h149⟩) (fun E n' M1 hp => by
      obtain ⟨e, he, rfl⟩ := pm_clE hp
      simp only [List.mem_cons, List.not_mem_nil, or_false] at he
      rcases he with he | he <;> rw [he] <;> simp)) (fun o n' M' hp => pm_wrN hTM h149 hnx (by decide +kernel) (by decide +kernel) hp))
    (fun n' M' hT' => ⟨_, c_X13_swings hT'.1 hT'.2.1 hgn h7, (pm_TM_f hT'), fun a ha => by rw [pm_up_n (by omega)]⟩) (fun kc v g2 L2 hR => ?_) next
  obtain ⟨rfl, rfl, e6, hv⟩ := hR
  exact ⟨e6.symm, hv, pm_Rel_le (by omega) (pm_Rel_cg hRel (fun _ _ => rfl) rfl rfl (fun j hj => pm_fr_swings (by omega)) (fun _ _ => rfl))⟩
