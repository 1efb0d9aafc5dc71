/-! the law's methods: longs, locals of two places -/
section PWL
variable {l : Launch} {z : Nat} {D : va_G} {kA : Nat → ClassId} {kE : Nat → Nat} {own : String} {cc : ByteArray} {nL : Nat} {ret : Option FieldType} {nm : String} {tb : List ExceptionTableEntry} {d mc ms : Nat} {X : pm_X} {cu su : Nat} {Q : State → Prop} {nx : Nat} {M : pm_M} {pc : Nat} {L : List (Option Value)} {st : List Value}
def pm_c2 (i : Nat) : Nat → List (Option Value) → Bool
  | _, [] => true
  | j, none :: t => pm_c2 i (j + 1) t
  | j, some v :: t => (v.category == 1 || !(j + 1 == i)) && pm_c2 i (j + 1) t
theorem pm_c2_at {i : Nat} : ∀ (L : List (Option Value)) (j k : Nat) (v : Value), pm_c2 i j L = true → L[k]? = some (some v) → v.category = 1 ∨ j + k + 1 ≠ i
  | [], j, k, v, _, h => by simp at h
  | none :: t, j, 0, v, _, h => by simp at h
  | none :: t, j, k + 1, v, h0, h => by
    have h1 := pm_c2_at t (j + 1) k v h0 (by simpa using h)
    rcases h1 with h1 | h1
    · exact Or.inl h1
    · exact Or.inr (by omega)
  | some w :: t, j, 0, v, h0, h => by
    simp only [pm_c2, Bool.and_eq_true, Bool.or_eq_true, beq_iff_eq, Bool.not_eq_true'] at h0
    simp at h
    subst h
    rcases h0.1 with h1 | h1
    · exact Or.inl h1
    · exact Or.inr (by simpa using h1)
  | some w :: t, j, k + 1, v, h0, h => by
    simp only [pm_c2, Bool.and_eq_true] at h0
    have h1 := pm_c2_at t (j + 1) k v h0.2 (by simpa using h)
    rcases h1 with h1 | h1
    · exact Or.inl h1
    · exact Or.inr (by omega)
theorem pm_lv_set2 {ls : Array Slot} {nL i : Nat} {v : Value} {L : List (Option Value)} (hc : pm_c2 i 0 L = true) (h : lv_has ls nL ((i, v) :: (pm_lv 0 L).filter (fun q => !(q.1 == i) && !(q.1 + 1 == i && q.2.category == 2)))) : lv_has ls nL (pm_lv 0 (L.set i (some v))) := by
  refine pm_lv_sub h fun j w hj => ?_
  by_cases hji : i = j
  · subst hji
    by_cases hl : i < L.length
    · rw [List.getElem?_set_self hl] at hj
      cases hj
      exact List.mem_cons_self
    · rw [List.getElem?_eq_none (by rw [List.length_set]; omega)] at hj
      cases hj
  · rw [List.getElem?_set_ne hji] at hj
    refine List.mem_cons_of_mem _ (List.mem_filter.mpr ⟨(pm_lv_mem L 0 j w).mpr ⟨j, by omega, hj⟩, ?_⟩)
    rcases pm_c2_at L 0 j w hc hj with h1 | h1
    · simp [h1, Ne.symm hji]
    · have h2 : ¬ j + 1 = i := by omega
      simp [h2, Ne.symm hji]
theorem pm_lv_set3 {ls : Array Slot} {nL i : Nat} {v : Value} {L : List (Option Value)} (hc : pm_c2 i 0 L = true) (hn : L[i + 1]? = some none) (h : lv_has ls nL ((i, v) :: (pm_lv 0 L).filter (fun q => !(q.1 == i) && (!(q.1 == i + 1) && !(q.1 + 1 == i && q.2.category == 2))))) : lv_has ls nL (pm_lv 0 (L.set i (some v))) := by
  refine pm_lv_sub h fun j w hj => ?_
  by_cases hji : i = j
  · subst hji
    by_cases hl : i < L.length
    · rw [List.getElem?_set_self hl] at hj
      cases hj
      exact List.mem_cons_self
    · rw [List.getElem?_eq_none (by rw [List.length_set]; omega)] at hj
      cases hj
  · rw [List.getElem?_set_ne hji] at hj
    have hj2 : ¬ j = i + 1 := fun e => by rw [e, hn] at hj; cases hj
    refine List.mem_cons_of_mem _ (List.mem_filter.mpr ⟨(pm_lv_mem L 0 j w).mpr ⟨j, by omega, hj⟩, ?_⟩)
    rcases pm_c2_at L 0 j w hc hj with h1 | h1
    · simp [h1, Ne.symm hji, hj2]
    · have h2 : ¬ j + 1 = i := by omega
      simp [h2, Ne.symm hji, hj2]
theorem pm_istore_n2 (B : pm_B l z D kA kE own cc nL ret nm tb d mc ms X) {k0 : Fin 4} {x : Int32} (hd : decode cc pc = .ok (.istore_n k0, 1)) (hi : Nat.ble ((k0 : Nat) + 1) nL = true) (hc : pm_c2 (k0 : Nat) 0 L = true)
    (k : pm_G l z D X cu su Q nx M (pc + 1) (L.set (k0 : Nat) (some (.int x))) st) : pm_G l z D X cu su Q nx M pc L (.int x :: st) := by
  obtain ⟨hx, hb, hml, hown, hts, hr, hlk, hK, hnm, htb, ⟨hrf, hrl, hrc, hrs⟩, hz, hcs⟩ := id B
  obtain ⟨p, e, R, s, m, args, below, meth, c⟩ := X
  intro H locs ls hR hS hl
  refine lv_istore_n hx hb hd rfl hl (by have h9 := Nat.le_of_ble_eq_true hi; simp only at hml ⊢; omega) rfl (fun ls' hl' => ?_)
  exact k H locs ls' hR hS (pm_lv_set2 hc hl')
theorem pm_istore2 (B : pm_B l z D kA kE own cc nL ret nm tb d mc ms X) {i : Nat} {x : Int32} (hd : decode cc pc = .ok (.istore i, 2)) (hi : Nat.ble (i + 1) nL = true) (hc : pm_c2 i 0 L = true)
    (k : pm_G l z D X cu su Q nx M (pc + 2) (L.set i (some (.int x))) st) : pm_G l z D X cu su Q nx M pc L (.int x :: st) := by
  obtain ⟨hx, hb, hml, hown, hts, hr, hlk, hK, hnm, htb, ⟨hrf, hrl, hrc, hrs⟩, hz, hcs⟩ := id B
  obtain ⟨p, e, R, s, m, args, below, meth, c⟩ := X
  intro H locs ls hR hS hl
  refine lv_istore hx hb hd hl (by have h9 := Nat.le_of_ble_eq_true hi; simp only at hml ⊢; omega) rfl (fun ls' hl' => ?_)
  exact k H locs ls' hR hS (pm_lv_set2 hc hl')
theorem pm_lstore_n (B : pm_B l z D kA kE own cc nL ret nm tb d mc ms X) {k0 : Fin 4} {x : Int64} (hd : decode cc pc = .ok (.lstore_n k0, 1)) (hi : Nat.ble ((k0 : Nat) + 2) nL = true) (hc : pm_c2 (k0 : Nat) 0 L = true) (hn : L[(k0 : Nat) + 1]? = some none)
    (k : pm_G l z D X cu su Q nx M (pc + 1) (L.set (k0 : Nat) (some (.long x))) st) : pm_G l z D X cu su Q nx M pc L (.long x :: st) := by
  obtain ⟨hx, hb, hml, hown, hts, hr, hlk, hK, hnm, htb, ⟨hrf, hrl, hrc, hrs⟩, hz, hcs⟩ := id B
  obtain ⟨p, e, R, s, m, args, below, meth, c⟩ := X
  intro H locs ls hR hS hl
  refine lv_lstore_n hx hb hd rfl hl (by have h9 := Nat.le_of_ble_eq_true hi; simp only at hml ⊢; omega) rfl (fun ls' hl' => ?_)
  exact k H locs ls' hR hS (pm_lv_set3 hc hn hl')
theorem pm_lstore (B : pm_B l z D kA kE own cc nL ret nm tb d mc ms X) {i : Nat} {x : Int64} (hd : decode cc pc = .ok (.lstore i, 2)) (hi : Nat.ble (i + 2) nL = true) (hc : pm_c2 i 0 L = true) (hn : L[i + 1]? = some none)
    (k : pm_G l z D X cu su Q nx M (pc + 2) (L.set i (some (.long x))) st) : pm_G l z D X cu su Q nx M pc L (.long x :: st) := by
  obtain ⟨hx, hb, hml, hown, hts, hr, hlk, hK, hnm, htb, ⟨hrf, hrl, hrc, hrs⟩, hz, hcs⟩ := id B
  obtain ⟨p, e, R, s, m, args, below, meth, c⟩ := X
  intro H locs ls hR hS hl
  refine lv_lstore hx hb hd hl (by have h9 := Nat.le_of_ble_eq_true hi; simp only at hml ⊢; omega) rfl (fun ls' hl' => ?_)
  exact k H locs ls' hR hS (pm_lv_set3 hc hn hl')
theorem pm_iinc2 (B : pm_B l z D kA kE own cc nL ret nm tb d mc ms X) {i : Nat} {n : Int} {x : Int32} (hd : decode cc pc = .ok (.iinc i n, 3)) (hv : L[i]? = some (some (.int x))) (hi : Nat.ble (i + 1) nL = true) (hc : pm_c2 i 0 L = true)
    (k : pm_G l z D X cu su Q nx M (pc + 3) (L.set i (some (.int (x + Int32.ofInt n)))) st) : pm_G l z D X cu su Q nx M pc L st := by
  obtain ⟨hx, hb, hml, hown, hts, hr, hlk, hK, hnm, htb, ⟨hrf, hrl, hrc, hrs⟩, hz, hcs⟩ := id B
  obtain ⟨p, e, R, s, m, args, below, meth, c⟩ := X
  intro H locs ls hR hS hl
  obtain ⟨kk, hk⟩ := List.getElem?_of_mem ((pm_lv_mem L 0 i (.int x)).mpr ⟨i, by omega, hv⟩)
  refine lv_iinc hx hb hd hl hk rfl (by have h9 := Nat.le_of_ble_eq_true hi; simp only at hml ⊢; omega) rfl (fun ls' hl' => ?_)
  exact k H locs ls' hR hS (pm_lv_set2 hc hl')
theorem pm_lload_n (B : pm_B l z D kA kE own cc nL ret nm tb d mc ms X) {k0 : Fin 4} {x : Int64} (hd : decode cc pc = .ok (.lload_n k0, 1)) (hv : L[(k0 : Nat)]? = some (some (.long x)))
    (k : pm_G l z D X cu su Q nx M (pc + 1) L (.long x :: st)) : pm_G l z D X cu su Q nx M pc L st := by
  obtain ⟨hx, hb, hml, hown, hts, hr, hlk, hK, hnm, htb, ⟨hrf, hrl, hrc, hrs⟩, hz, hcs⟩ := id B
  obtain ⟨p, e, R, s, m, args, below, meth, c⟩ := X
  intro H locs ls hR hS hl
  exact lv_lload_n hx hb hd rfl (pm_lv_at hl hv) (k H locs ls hR hS hl)
theorem pm_ladd (B : pm_B l z D kA kE own cc nL ret nm tb d mc ms X) {x y : Int64} (hd : decode cc pc = .ok (.ladd, 1))
    (k : pm_G l z D X cu su Q nx M (pc + 1) L (.long (x + y) :: st)) : pm_G l z D X cu su Q nx M pc L (.long y :: .long x :: st) := by
  obtain ⟨hx, hb, hml, hown, hts, hr, hlk, hK, hnm, htb, ⟨hrf, hrl, hrc, hrs⟩, hz, hcs⟩ := id B
  obtain ⟨p, e, R, s, m, args, below, meth, c⟩ := X
  intro H locs ls hR hS hl
  exact lv_ladd hx hb hd (k H locs ls hR hS hl)
theorem pm_lmul (B : pm_B l z D kA kE own cc nL ret nm tb d mc ms X) {x y : Int64} (hd : decode cc pc = .ok (.lmul, 1))
    (k : pm_G l z D X cu su Q nx M (pc + 1) L (.long (x * y) :: st)) : pm_G l z D X cu su Q nx M pc L (.long y :: .long x :: st) := by
  obtain ⟨hx, hb, hml, hown, hts, hr, hlk, hK, hnm, htb, ⟨hrf, hrl, hrc, hrs⟩, hz, hcs⟩ := id B
  obtain ⟨p, e, R, s, m, args, below, meth, c⟩ := X
  intro H locs ls hR hS hl
  exact lv_lmul hx hb hd (k H locs ls hR hS hl)
theorem pm_ldc2 (B : pm_B l z D kA kE own cc nL ret nm tb d mc ms X) {index : Nat} {v : Int64} (hd : decode cc pc = .ok (.ldc2_w index, 3)) (hw : Cond.constantLong own index v ∈ pm_T)
    (k : pm_G l z D X cu su Q nx M (pc + 3) L (.long v :: st)) : pm_G l z D X cu su Q nx M pc L st := by
  obtain ⟨hx, hb, hml, hown, hts, hr, hlk, hK, hnm, htb, ⟨hrf, hrl, hrc, hrs⟩, hz, hcs⟩ := id B
  obtain ⟨p, e, R, s, m, args, below, meth, c⟩ := X
  intro H locs ls hR hS hl
  exact lv_ldc2 hx hb hown (hts _ hw) hd (k H locs ls hR hS hl)
theorem pm_lcmp (B : pm_B l z D kA kE own cc nL ret nm tb d mc ms X) {x y : Int64} (hd : decode cc pc = .ok (.lcmp, 1))
    (k : pm_G l z D X cu su Q nx M (pc + 1) L (.int (lg_cmp x y) :: st)) : pm_G l z D X cu su Q nx M pc L (.long y :: .long x :: st) := by
  obtain ⟨hx, hb, hml, hown, hts, hr, hlk, hK, hnm, htb, ⟨hrf, hrl, hrc, hrs⟩, hz, hcs⟩ := id B
  obtain ⟨p, e, R, s, m, args, below, meth, c⟩ := X
  intro H locs ls hR hS hl
  exact W.lcmp hx hb hd (k H locs ls hR hS hl)
theorem pm_lcmp0 {x y : Int64} (h : x = y) : lg_cmp x y = 0 := by
  subst h
  unfold lg_cmp
  rw [if_neg (by rw [gt_iff_lt, Int64.lt_iff_toInt_lt]; omega), if_pos rfl]
theorem pm_lreturn (B : pm_B l z D kA kE own cc nL ret nm tb d mc ms X) {x : Int64} {post : pm_Po} (hd : decode cc pc = .ok (.lreturn, 1)) (hr0 : ret = some .long) (hp : post (.inl (some (.long x))) nx M) (hcu : Nat.ble cu mc = true) (hsu : Nat.ble su ms = true) : pm_G l z D X cu su (pm_Q z D post mc ms X) nx M pc L [.long x] := by
  obtain ⟨hx, hb, hml, hown, hts, hr, hlk, hK, hnm, htb, ⟨hrf, hrl, hrc, hrs⟩, hz, hcs⟩ := id B
  obtain ⟨p, e, R, s, m, args, below, meth, c⟩ := X
  intro H locs ls hR hS hl
  refine W.widen (Nat.le_of_ble_eq_true hcu) (Nat.le_of_ble_eq_true hsu) (vx_ret ?_)
  exact W.lret hx hb (hr.trans hr0) (fun t ht hW => ⟨_, nx, M, rfl, hp, by rw [ht]; exact hR, hS.F ht⟩) (fun q hq => hS.2.2 q hq) hd hlk
end PWL
/-! worlds and credits -/
abbrev pw_G : Type := Nat × (Nat → Int32) × List (Nat → Int32) × Nat × List Nat
def pw_c (r : Nat → Int32) : Prop := ∀ k, 56 ≤ k → r k = 0
def pw_r (B : Nat) (r : Nat → Int32) : Prop := pw_c r ∧ pm_I B (pm_n (r 0)) r
def pw_g (G : pw_G) (g : pm_Cs) : Prop :=
  g.1 0 = G.2.1 ∧ pw_c (g.1 1) ∧ (∀ i, pw_c (g.2.1 i)) ∧
  (g.2.2.1 0 < 8 ∧ g.2.2.1 1 = G.2.2.1.length ∧ G.2.2.1.length ≤ 8 ∧ ∀ p, p < G.2.2.1.length → g.2.1 ((g.2.2.1 0 + p) % 8) = G.2.2.1.getD (G.2.2.1.length - 1 - p) (fun _ => 0)) ∧
  (pw_r G.1 G.2.1 ∧ ∀ h ∈ G.2.2.1, pw_r G.1 h) ∧
  (g.1 13 4 = nI G.2.2.2.1 ∧ G.2.2.2.1 ≤ 60) ∧
  (g.2.2.1 2 = G.2.2.2.2.length ∧ G.2.2.2.2.length ≤ 16 ∧ ∀ i, i < G.2.2.2.2.length → g.1 14 i = nI (G.2.2.2.2.getD i 0) ∧ G.2.2.2.2.getD i 0 < 128)
/-- the class at 0 .. 139 as G tells it, and the law's own cells -/
def pw_W (z : Nat) (kA : Nat → ClassId) (kE : Nat → Nat) (G : pw_G) (ar : List (Nat × va_E)) (nx : Nat) (M : pm_M) : Prop :=
  140 ≤ nx ∧ (∀ p ∈ ar, 140 ≤ p.1 ∧ p.1 < nx ∧ M p.1 = some p.2) ∧ ar.Pairwise (fun p q => p.1 ≠ q.1) ∧ ∃ g, pm_TC z kA kE M g ∧ pw_g G g
def pw_P (v : Option Value) (W' : Nat → pm_M → Prop) : pm_Po := fun o n' M' => o = .inl v ∧ W' n' M'
section PWW
variable {z : Nat} {kA : Nat → ClassId} {kE : Nat → Nat} {G : pw_G} {ar : List (Nat × va_E)} {nx : Nat} {M : pm_M}
theorem pw_at (h : pw_W z kA kE G ar nx M) {a : Nat} {e : va_E} (i : Nat) (hi : ar[i]? = some (a, e)) : M a = some e := (h.2.1 (a, e) (List.mem_of_getElem? hi)).2.2
theorem pw_140 (h : pw_W z kA kE G ar nx M) {a : Nat} {e : va_E} (i : Nat) (hi : ar[i]? = some (a, e)) : 140 ≤ a := (h.2.1 (a, e) (List.mem_of_getElem? hi)).1
theorem pw_0 (h : pw_W z kA kE G ar nx M) : ∃ fs, M 0 = some (.inr (10, fs)) := by
  obtain ⟨-, -, -, g, hT, -⟩ := h
  exact ⟨_, hT.1⟩
/-- cells behind the known ones change nothing; known ones are kept -/
theorem pw_keep (h : pw_W z kA kE G ar nx M) {nx2 : Nat} {M2 : pm_M} (hn : nx ≤ nx2) (e : ∀ a, a < nx → M2 a = M a) : pw_W z kA kE G ar nx2 M2 := by
  obtain ⟨h1, h2, h3, g, hT, hg⟩ := h
  exact ⟨by omega, fun p hp => ⟨(h2 p hp).1, by have := (h2 p hp).2.1; omega, (e _ (h2 p hp).2.1).trans (h2 p hp).2.2⟩, h3, g, pm_TC_keep hT (fun x hx => e x (by omega)), hg⟩
/-- another state of the class -/
theorem pw_to (h : pw_W z kA kE G ar nx M) {nx2 : Nat} {M2 : pm_M} {G2 : pw_G} {g2 : pm_Cs} (hn : nx ≤ nx2) (e : ∀ a, 140 ≤ a → a < nx → M2 a = M a) (hT : pm_TC z kA kE M2 g2) (hg : pw_g G2 g2) : pw_W z kA kE G2 ar nx2 M2 := by
  obtain ⟨h1, h2, h3, g, -, -⟩ := h
  exact ⟨by omega, fun p hp => ⟨(h2 p hp).1, by have := (h2 p hp).2.1; omega, (e _ (h2 p hp).1 (h2 p hp).2.1).trans (h2 p hp).2.2⟩, h3, g2, hT, hg⟩
theorem pw_push (h : pw_W z kA kE G ar nx M) (e : va_E) : pw_W z kA kE G ((nx, e) :: ar) (nx + 1) (pm_up M nx e) := by
  obtain ⟨h1, h2, h3, g, hT, hg⟩ := h
  refine ⟨by omega, fun p hp => ?_, List.pairwise_cons.mpr ⟨fun p hp => ?_, h3⟩, g, pm_TC_keep hT (fun x hx => pm_up_n (by omega)), hg⟩
  · rcases List.mem_cons.mp hp with rfl | hp
    · exact ⟨h1, Nat.lt_succ_self _, pm_up_s⟩
    · have h9 := (h2 p hp).2.1
      exact ⟨(h2 p hp).1, by omega, (pm_up_n (by omega)).trans (h2 p hp).2.2⟩
  · have h9 := (h2 p hp).2.1
    show nx ≠ p.1
    omega
theorem pw_drop (h : pw_W z kA kE G ar nx M) {ar2 : List (Nat × va_E)} (hs : ar2.Sublist ar) : pw_W z kA kE G ar2 nx M := by
  obtain ⟨h1, h2, h3, h4⟩ := h
  exact ⟨h1, fun p hp => h2 p (hs.subset hp), h3.sublist hs, h4⟩
/-- the first of the law's cells is written -/
theorem pw_set0 {a : Nat} {e e2 : va_E} (h : pw_W z kA kE G ((a, e) :: ar) nx M) : pw_W z kA kE G ((a, e2) :: ar) nx (pm_up M a e2) := by
  obtain ⟨h1, h2, h3, g, hT, hg⟩ := h
  have ha := h2 (a, e) List.mem_cons_self
  have h4 := List.pairwise_cons.mp h3
  have ha1 : 140 ≤ a := ha.1
  refine ⟨h1, fun p hp => ?_, List.pairwise_cons.mpr ⟨fun p hp => h4.1 p hp, h4.2⟩, g, pm_TC_keep hT (fun x hx => pm_up_n (by omega)), hg⟩
  rcases List.mem_cons.mp hp with rfl | hp
  · exact ⟨ha.1, ha.2.1, pm_up_s⟩
  · have h5 := h2 p (List.mem_cons_of_mem _ hp)
    have h6 : a ≠ p.1 := h4.1 p hp
    exact ⟨h5.1, h5.2.1, (pm_up_n (Ne.symm h6)).trans h5.2.2⟩
/-- the second of them -/
theorem pw_set1 {a b : Nat} {e e2 e3 : va_E} (h : pw_W z kA kE G ((b, e3) :: (a, e) :: ar) nx M) : pw_W z kA kE G ((b, e3) :: (a, e2) :: ar) nx (pm_up M a e2) := by
  obtain ⟨h1, h2, h3, g, hT, hg⟩ := h
  have ha := h2 (a, e) (List.mem_cons_of_mem _ List.mem_cons_self)
  have hb := h2 (b, e3) List.mem_cons_self
  have h4 := List.pairwise_cons.mp h3
  have h7 := List.pairwise_cons.mp h4.2
  have ha1 : 140 ≤ a := ha.1
  have hab : b ≠ a := h4.1 (a, e) List.mem_cons_self
  refine ⟨h1, fun p hp => ?_, List.pairwise_cons.mpr ⟨fun p hp => ?_, List.pairwise_cons.mpr ⟨fun p hp => h7.1 p hp, h7.2⟩⟩, g, pm_TC_keep hT (fun x hx => pm_up_n (by omega)), hg⟩
  · rcases List.mem_cons.mp hp with rfl | hp
    · exact ⟨hb.1, hb.2.1, (pm_up_n hab).trans hb.2.2⟩
    · rcases List.mem_cons.mp hp with rfl | hp
      · exact ⟨ha.1, ha.2.1, pm_up_s⟩
      · have h5 := h2 p (List.mem_cons_of_mem _ (List.mem_cons_of_mem _ hp))
        have h6 : a ≠ p.1 := h7.1 p hp
        exact ⟨h5.1, h5.2.1, (pm_up_n (Ne.symm h6)).trans h5.2.2⟩
  · rcases List.mem_cons.mp hp with rfl | hp
    · exact hab
    · exact h4.1 p (List.mem_cons_of_mem _ hp)
end PWW
/-- from every memory of the world W, with c cells and s elements to spend, the machine comes to Q -/
def pw_J (l : Launch) (z : Nat) (D : va_G) (X : pm_X) (mc ms : Nat) (Q : State → Prop) (W : Nat → pm_M → Prop) (c s : Nat) (pc : Nat) (L : List (Option Value)) (st : List Value) : Prop :=
  ∀ (cu su nx : Nat) (M : pm_M), cu + c ≤ mc → su + s ≤ ms → W nx M → pm_G l z D X cu su Q nx M pc L st
section PWR
variable {l : Launch} {z : Nat} {D : va_G} {kA : Nat → ClassId} {kE : Nat → Nat} {own : String} {cc : ByteArray} {nL : Nat} {ret : Option FieldType} {nm : String} {tb : List ExceptionTableEntry} {d mc ms : Nat} {X : pm_X} {cu su : Nat} {Q : State → Prop} {nx : Nat} {M : pm_M} {pc : Nat} {L : List (Option Value)} {st : List Value}
variable {W W' : Nat → pm_M → Prop} {c s c2 s2 pc2 pc3 : Nat} {L2 L3 : List (Option Value)} {st2 st3 : List Value} {G : pw_G} {ar : List (Nat × va_E)}
theorem pw_l (h : ∀ (cu su nx : Nat) (M : pm_M), pm_G l z D X cu su Q nx M pc2 L2 st2 → pm_G l z D X cu su Q nx M pc L st) (k : pw_J l z D X mc ms Q W c s pc2 L2 st2) : pw_J l z D X mc ms Q W c s pc L st :=
  fun cu su nx M h1 h2 hW => h cu su nx M (k cu su nx M h1 h2 hW)
theorem pw_lw (h : ∀ (cu su nx : Nat) (M : pm_M), W nx M → pm_G l z D X cu su Q nx M pc2 L2 st2 → pm_G l z D X cu su Q nx M pc L st) (k : pw_J l z D X mc ms Q W c s pc2 L2 st2) : pw_J l z D X mc ms Q W c s pc L st :=
  fun cu su nx M h1 h2 hW => h cu su nx M hW (k cu su nx M h1 h2 hW)
theorem pw_lb (h : ∀ (cu su nx : Nat) (M : pm_M), cu ≤ mc → su ≤ ms → pm_G l z D X cu su Q nx M pc2 L2 st2 → pm_G l z D X cu su Q nx M pc L st) (k : pw_J l z D X mc ms Q W c s pc2 L2 st2) : pw_J l z D X mc ms Q W c s pc L st :=
  fun cu su nx M h1 h2 hW => h cu su nx M (by omega) (by omega) (k cu su nx M h1 h2 hW)
theorem pw_l2 {P1 P2 : Prop} (h : ∀ (cu su nx : Nat) (M : pm_M), (P1 → pm_G l z D X cu su Q nx M pc2 L2 st2) → (P2 → pm_G l z D X cu su Q nx M pc3 L3 st3) → pm_G l z D X cu su Q nx M pc L st) (k1 : P1 → pw_J l z D X mc ms Q W c s pc2 L2 st2) (k2 : P2 → pw_J l z D X mc ms Q W c s pc3 L3 st3) : pw_J l z D X mc ms Q W c s pc L st :=
  fun cu su nx M h1 h2 hW => h cu su nx M (fun p => k1 p cu su nx M h1 h2 hW) (fun p => k2 p cu su nx M h1 h2 hW)
theorem pw_up (h : ∀ (cu su nx : Nat) (M : pm_M), W nx M → (∀ M' : pm_M, W' nx M' → pm_G l z D X cu su Q nx M' pc2 L2 st2) → pm_G l z D X cu su Q nx M pc L st) (k : pw_J l z D X mc ms Q W' c s pc2 L2 st2) : pw_J l z D X mc ms Q W c s pc L st :=
  fun cu su nx M h1 h2 hW => h cu su nx M hW (fun M' hW' => k cu su nx M' h1 h2 hW')
theorem pw_cr (hc : c2 ≤ c) (hs : s2 ≤ s) (k : pw_J l z D X mc ms Q W c2 s2 pc L st) : pw_J l z D X mc ms Q W c s pc L st :=
  fun cu su nx M h1 h2 hW => k cu su nx M (by omega) (by omega) hW
theorem pw_eq (hw : W' = W) (hL : L2 = L) (hs : st2 = st) (k : pw_J l z D X mc ms Q W' c s pc L2 st2) : pw_J l z D X mc ms Q W c s pc L st := by
  subst hw; subst hL; subst hs
  exact k
theorem pw_wk (hw : ∀ nx M, W nx M → W' nx M) (k : pw_J l z D X mc ms Q W' c s pc L st) : pw_J l z D X mc ms Q W c s pc L st :=
  fun cu su nx M h1 h2 hW => k cu su nx M h1 h2 (hw nx M hW)
theorem pw_ex {α : Type} {Wa : α → Nat → pm_M → Prop} (k : ∀ a, pw_J l z D X mc ms Q (Wa a) c s pc L st) : pw_J l z D X mc ms Q (fun nx M => ∃ a, Wa a nx M) c s pc L st :=
  fun cu su nx M h1 h2 ⟨a, hW⟩ => k a cu su nx M h1 h2 hW
theorem pw_and {p : Prop} (k : p → pw_J l z D X mc ms Q W c s pc L st) : pw_J l z D X mc ms Q (fun nx M => p ∧ W nx M) c s pc L st :=
  fun cu su nx M h1 h2 ⟨a, hW⟩ => k a cu su nx M h1 h2 hW
theorem pw_pst {post post' : pm_Po} (h : post' = post) (k : pw_J l z D X mc ms (pm_Q z D post' mc ms X) W c s pc L st) : pw_J l z D X mc ms (pm_Q z D post mc ms X) W c s pc L st := h ▸ k
variable {y : MethodName} {cc2 : ByteArray} {nL2 n2 d2 mc2 ms2 index : Nat} {ret2 : Option FieldType} {hh : List (Nat × Nat × Nat × Nat)} {As : List Value} {v : Option Value}
theorem pw_cS (B : pm_B l z D kA kE own cc nL ret nm tb d mc ms X) (hC : ∀ nx M, W nx M → pm_C l z D kA kE y cc2 nL2 ret2 d2 mc2 ms2 As nx M (pw_P v W')) (hm : pm_Mt y cc2 nL2 ret2 n2) (hs : pm_SS own index y) (hd : decode cc pc = .ok (.invokestatic index, 3)) (hn : As.length = n2) (hd2 : Nat.ble (d2 + 1) d = true) (hst : Nat.ble ((st.map fun v => v.category).sum) 8 = true) (hc : mc2 + c2 ≤ c) (hs2 : ms2 + s2 ≤ s)
    (k : pw_J l z D X mc ms Q W' c2 s2 (pc + 3) L (v.toList ++ st)) : pw_J l z D X mc ms Q W c s pc L (As.reverse ++ st) :=
  fun cu su nx M h1 h2 hW => pm_callS B (hC nx M hW) hm hs hd hn hd2 hst (Nat.ble_eq_true_of_le (by omega)) (Nat.ble_eq_true_of_le (by omega)) (fun E n' M' h => by cases h.1) (fun v' n' M' h => by
    obtain ⟨h3, h4⟩ := h
    cases h3
    exact k _ _ _ _ (by omega) (by omega) h4)
theorem pw_cSW (B : pm_B l z D kA kE own cc nL ret nm tb d mc ms X) (hC : ∀ nx M, W nx M → pm_Cw l z D kA kE y cc2 nL2 ret2 hh d2 mc2 ms2 As nx M (pw_P v W')) (hm : pm_MtW y cc2 nL2 ret2 hh n2) (hs : pm_SS own index y) (hd : decode cc pc = .ok (.invokestatic index, 3)) (hn : As.length = n2) (hd2 : Nat.ble (d2 + 1) d = true) (hst : Nat.ble ((st.map fun v => v.category).sum) 8 = true) (hc : mc2 + c2 ≤ c) (hs2 : ms2 + s2 ≤ s)
    (k : pw_J l z D X mc ms Q W' c2 s2 (pc + 3) L (v.toList ++ st)) : pw_J l z D X mc ms Q W c s pc L (As.reverse ++ st) :=
  fun cu su nx M h1 h2 hW => pm_cSW B (hC nx M hW) hm hs hd hn hd2 hst (Nat.ble_eq_true_of_le (by omega)) (Nat.ble_eq_true_of_le (by omega)) (fun E n' M' h => by cases h.1) (fun v' n' M' h => by
    obtain ⟨h3, h4⟩ := h
    cases h3
    exact k _ _ _ _ (by omega) (by omega) h4)
theorem pw_cV (B : pm_B l z D kA kE own cc nL ret nm tb d mc ms X) (h0 : ∀ nx M, W nx M → ∃ fs, M 0 = some (.inr (10, fs))) (hy : y.cls = RX12) (hC : ∀ nx M, W nx M → pm_C l z D kA kE y cc2 nL2 ret2 d2 mc2 ms2 (.ref (z + 0) :: As) nx M (pw_P v W')) (hm : pm_Mt y cc2 nL2 ret2 n2) (hs : pm_SV own index y) (hd : decode cc pc = .ok (.invokevirtual index, 3)) (hn : As.length = n2) (hd2 : Nat.ble (d2 + 1) d = true) (hst : Nat.ble ((st.map fun v => v.category).sum) 8 = true) (hc : mc2 + c2 ≤ c) (hs2 : ms2 + s2 ≤ s)
    (k : pw_J l z D X mc ms Q W' c2 s2 (pc + 3) L (v.toList ++ st)) : pw_J l z D X mc ms Q W c s pc L (As.reverse ++ .ref (z + 0) :: st) :=
  fun cu su nx M h1 h2 hW => by
    obtain ⟨fs, hM⟩ := h0 nx M hW
    exact pm_callV B rfl hM hy.symm (hC nx M hW) hm hs hd hn hd2 hst (Nat.ble_eq_true_of_le (by omega)) (Nat.ble_eq_true_of_le (by omega)) (fun E n' M' h => by cases h.1) (fun v' n' M' h => by
      obtain ⟨h3, h4⟩ := h
      cases h3
      exact k _ _ _ _ (by omega) (by omega) h4)
/-- with an answer that the world tells -/
theorem pw_cSWx (B : pm_B l z D kA kE own cc nL ret nm tb d mc ms X) {α : Type} {va : α → Option Value} {Wa : α → Nat → pm_M → Prop} (hC : ∀ nx M, W nx M → pm_Cw l z D kA kE y cc2 nL2 ret2 hh d2 mc2 ms2 As nx M (fun o n' M' => ∃ a, o = .inl (va a) ∧ Wa a n' M')) (hm : pm_MtW y cc2 nL2 ret2 hh n2) (hs : pm_SS own index y) (hd : decode cc pc = .ok (.invokestatic index, 3)) (hn : As.length = n2) (hd2 : Nat.ble (d2 + 1) d = true) (hst : Nat.ble ((st.map fun v => v.category).sum) 8 = true) (hc : mc2 + c2 ≤ c) (hs2 : ms2 + s2 ≤ s)
    (k : ∀ a, pw_J l z D X mc ms Q (Wa a) c2 s2 (pc + 3) L ((va a).toList ++ st)) : pw_J l z D X mc ms Q W c s pc L (As.reverse ++ st) :=
  fun cu su nx M h1 h2 hW => pm_cSW B (hC nx M hW) hm hs hd hn hd2 hst (Nat.ble_eq_true_of_le (by omega)) (Nat.ble_eq_true_of_le (by omega)) (fun E n' M' h => by obtain ⟨_, h3, _⟩ := h; cases h3) (fun v' n' M' h => by
    obtain ⟨a, h3, h4⟩ := h
    cases h3
    exact k a _ _ _ _ (by omega) (by omega) h4)
theorem pw_cSx (B : pm_B l z D kA kE own cc nL ret nm tb d mc ms X) {α : Type} {va : α → Option Value} {Wa : α → Nat → pm_M → Prop} (hC : ∀ nx M, W nx M → pm_C l z D kA kE y cc2 nL2 ret2 d2 mc2 ms2 As nx M (fun o n' M' => ∃ a, o = .inl (va a) ∧ Wa a n' M')) (hm : pm_Mt y cc2 nL2 ret2 n2) (hs : pm_SS own index y) (hd : decode cc pc = .ok (.invokestatic index, 3)) (hn : As.length = n2) (hd2 : Nat.ble (d2 + 1) d = true) (hst : Nat.ble ((st.map fun v => v.category).sum) 8 = true) (hc : mc2 + c2 ≤ c) (hs2 : ms2 + s2 ≤ s)
    (k : ∀ a, pw_J l z D X mc ms Q (Wa a) c2 s2 (pc + 3) L ((va a).toList ++ st)) : pw_J l z D X mc ms Q W c s pc L (As.reverse ++ st) :=
  fun cu su nx M h1 h2 hW => pm_callS B (hC nx M hW) hm hs hd hn hd2 hst (Nat.ble_eq_true_of_le (by omega)) (Nat.ble_eq_true_of_le (by omega)) (fun E n' M' h => by obtain ⟨_, h3, _⟩ := h; cases h3) (fun v' n' M' h => by
    obtain ⟨a, h3, h4⟩ := h
    cases h3
    exact k a _ _ _ _ (by omega) (by omega) h4)
theorem pw_cVx (B : pm_B l z D kA kE own cc nL ret nm tb d mc ms X) {α : Type} {va : α → Option Value} {Wa : α → Nat → pm_M → Prop} (h0 : ∀ nx M, W nx M → ∃ fs, M 0 = some (.inr (10, fs))) (hy : y.cls = RX12) (hC : ∀ nx M, W nx M → pm_C l z D kA kE y cc2 nL2 ret2 d2 mc2 ms2 (.ref (z + 0) :: As) nx M (fun o n' M' => ∃ a, o = .inl (va a) ∧ Wa a n' M')) (hm : pm_Mt y cc2 nL2 ret2 n2) (hs : pm_SV own index y) (hd : decode cc pc = .ok (.invokevirtual index, 3)) (hn : As.length = n2) (hd2 : Nat.ble (d2 + 1) d = true) (hst : Nat.ble ((st.map fun v => v.category).sum) 8 = true) (hc : mc2 + c2 ≤ c) (hs2 : ms2 + s2 ≤ s)
    (k : ∀ a, pw_J l z D X mc ms Q (Wa a) c2 s2 (pc + 3) L ((va a).toList ++ st)) : pw_J l z D X mc ms Q W c s pc L (As.reverse ++ .ref (z + 0) :: st) :=
  fun cu su nx M h1 h2 hW => by
    obtain ⟨fs, hM⟩ := h0 nx M hW
    exact pm_callV B rfl hM hy.symm (hC nx M hW) hm hs hd hn hd2 hst (Nat.ble_eq_true_of_le (by omega)) (Nat.ble_eq_true_of_le (by omega)) (fun E n' M' h => by obtain ⟨_, h3, _⟩ := h; cases h3) (fun v' n' M' h => by
      obtain ⟨a, h3, h4⟩ := h
      cases h3
      exact k a _ _ _ _ (by omega) (by omega) h4)
/-- a new array of ints: somewhere behind -/
theorem pw_newi (B : pm_B l z D kA kE own cc nL ret nm tb d mc ms X) {N : Nat} {n : Int32} (hd : decode cc pc = .ok (.newarray .int, 2)) (hn : n = nI N) (hN : Nat.ble N 10000 = true) (hc : 1 + c2 ≤ c) (hs2 : N + s2 ≤ s)
    (k : ∀ a, 140 ≤ a → pw_J l z D X mc ms Q (pw_W z kA kE G ((a, .inl (kA 0, N, .inl (fun _ => 0))) :: ar)) c2 s2 (pc + 2) L (.ref (z + a) :: st)) : pw_J l z D X mc ms Q (pw_W z kA kE G ar) c s pc L (.int n :: st) :=
  fun cu su nx M h1 h2 hW => pm_newi (N := N) B hd wa_int hn hN (by omega) (by omega) (k nx hW.1 _ _ _ _ (by omega) (by omega) (pw_push hW _))
theorem pw_newl (B : pm_B l z D kA kE own cc nL ret nm tb d mc ms X) {N : Nat} {n : Int32} (hd : decode cc pc = .ok (.newarray .long, 2)) (hn : n = nI N) (hN : Nat.ble N 10000 = true) (hc : 1 + c2 ≤ c) (hs2 : N + s2 ≤ s)
    (k : ∀ a, 140 ≤ a → pw_J l z D X mc ms Q (pw_W z kA kE G ((a, .inl (kA 1, N, .inr (.inl (fun _ => 0)))) :: ar)) c2 s2 (pc + 2) L (.ref (z + a) :: st)) : pw_J l z D X mc ms Q (pw_W z kA kE G ar) c s pc L (.int n :: st) :=
  fun cu su nx M h1 h2 hW => pm_newl (N := N) B hd wa_long hn hN (by omega) (by omega) (k nx hW.1 _ _ _ _ (by omega) (by omega) (pw_push hW _))
end PWR
section PWM
variable {l : Launch} {z : Nat} {D : va_G} {kA : Nat → ClassId} {kE : Nat → Nat} {y : MethodName} {cc : ByteArray} {nL n : Nat} {ret : Option FieldType} {hh : List (Nat × Nat × Nat × Nat)} {d mc ms : Nat} {As : List Value} {nx : Nat} {M : pm_M} {post : pm_Po} {own nm : String} {tb : List ExceptionTableEntry} {W : Nat → pm_M → Prop}
/-- a contract over a world, out of its body -/
theorem pw_mk (hm : pm_Mt y cc nL ret n) (ho : y.cls = own) (hnm : y.name = nm) (h1 : As.all (fun v => v.category == 1) = true) (hlen : Nat.ble As.length nL = true)
    (body : ∀ X : pm_X, pm_B l z D kA kE own cc nL ret nm [] d mc ms X → pw_J l z D X mc ms (pm_Q z D post mc ms X) W mc ms 0 (pm_ent As nL) []) : ∀ nx M, W nx M → pm_C l z D kA kE y cc nL ret d mc ms As nx M post :=
  fun nx M hW => pm_mk hm ho hnm h1 hlen fun X B => body X B 0 0 nx M (by omega) (by omega) hW
end PWM
