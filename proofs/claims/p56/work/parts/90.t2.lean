/-! texts over worlds -/
section PTU
variable {l : Launch} {z : Nat} {D : va_G} {kA : Nat → ClassId} {kE : Nat → Nat} {own : String} {cc : ByteArray} {nL : Nat} {ret : Option FieldType} {nm : String} {tb : List ExceptionTableEntry} {d mc ms : Nat} {X : pm_X} {cu su : Nat} {Q : State → Prop} {nx : Nat} {M : pm_M} {pc : Nat} {L : List (Option Value)} {st : List Value}
variable {W W' : Nat → pm_M → Prop} {c s c2 s2 pc2 pc3 : Nat} {L2 L3 : List (Option Value)} {st2 st3 : List Value} {G : pw_G} {ar : List (Nat × va_E)}
variable {y : MethodName} {cc2 : ByteArray} {nL2 n2 d2 mc2 ms2 index : Nat} {ret2 : Option FieldType} {hh : List (Nat × Nat × Nat × Nat)} {As : List Value} {v : Option Value}
theorem pw_cU (B : pm_B l z D kA kE own cc nL ret nm tb d mc ms X) {a0 ci : Nat} (h13 : Nat.ble (ci + 1) 13 = true) (hci : (pm_ci ci).1 = y.cls) {α : Type} {va : α → Option Value} {Wa : α → Nat → pm_M → Prop} (h0 : ∀ nx M, W nx M → ∃ fs, M a0 = some (.inr (ci, fs))) (hC : ∀ nx M, W nx M → pm_C l z D kA kE y cc2 nL2 ret2 d2 mc2 ms2 (.ref (z + a0) :: As) nx M (fun o n' M' => ∃ a, o = .inl (va a) ∧ Wa a n' M')) (hm : pm_Mt y cc2 nL2 ret2 n2) (hs : pm_SV own index y) (hd : decode cc pc = .ok (.invokevirtual index, 3)) (hn : As.length = n2) (hd2 : Nat.ble (d2 + 1) d = true) (hst : Nat.ble ((st.map fun v => v.category).sum) 8 = true) (hc : mc2 + c2 ≤ c) (hs2 : ms2 + s2 ≤ s)
    (k : ∀ a, pw_J l z D X mc ms Q (Wa a) c2 s2 (pc + 3) L ((va a).toList ++ st)) : pw_J l z D X mc ms Q W c s pc L (As.reverse ++ .ref (z + a0) :: st) :=
  fun cu su nx M h1 h2 hW => by
    obtain ⟨fs, hM⟩ := h0 nx M hW
    exact pm_callV B h13 hM hci (hC nx M hW) hm hs hd hn hd2 hst (Nat.ble_eq_true_of_le (by omega)) (Nat.ble_eq_true_of_le (by omega)) (fun E n' M' h => by obtain ⟨_, h3, _⟩ := h; cases h3) (fun v' n' M' h => by
      obtain ⟨a, h3, h4⟩ := h
      cases h3
      exact k a _ _ _ _ (by omega) (by omega) h4)
end PTU
/-- a builder at a, of capacity N, holds the text T -/
def pw_tb (z : Nat) (kA : Nat → ClassId) (kE : Nat → Nat) (G : pw_G) (N : Nat) (T : List Nat) (a : Nat) (ar : List (Nat × va_E)) (nx : Nat) (M : pm_M) : Prop :=
  ∃ b f, N ≤ 40 ∧ T.length ≤ N ∧ pw_Rp (f, T.length) T ∧ (∀ i, i < N → fits .byte (.int (f i)) = true) ∧ pw_W z kA kE G ((a, .inr (12, [.ref (z + b), .int 0, .int 0, .int (nI T.length)])) :: (b, .inl (kA 4, N, .inl f)) :: ar) nx M
/-- a String at a holds the text T -/
def pw_ts (z : Nat) (kA : Nat → ClassId) (kE : Nat → Nat) (G : pw_G) (T : List Nat) (a : Nat) (ar : List (Nat × va_E)) (nx : Nat) (M : pm_M) : Prop :=
  ∃ v g, pw_Rp (g, T.length) T ∧ pw_W z kA kE G ((a, .inr (11, [.ref (z + v), .int 0, .int 0, .int 0])) :: (v, .inl (kA 4, T.length, .inl g)) :: ar) nx M
theorem pw_fu {N c x : Nat} {f : Nat → Int32} (h : ∀ i, i < N → fits .byte (.int (f i)) = true) (hx : x < 128) : ∀ i, i < N → fits .byte (.int (upd f c (nI x) i)) = true := fun i hi => by
  by_cases e : i = c
  · subst e; rw [pk_us]; exact pm_fit8 _ hx
  · rw [pk_un e]; exact h i hi
theorem pw_fy {N c n : Nat} {f g : Nat → Int32} (h : ∀ i, i < N → fits .byte (.int (f i)) = true) (hg : ∀ i, i < n → fits .byte (.int (g i)) = true) : ∀ i, i < N → fits .byte (.int (va_cpy g f 0 c n i)) = true := fun i hi => by
  unfold va_cpy
  split
  · exact hg _ (by omega)
  · exact h i hi
theorem pw_Rp_y {f g : Nat → Int32} {T S : List Nat} (h : pw_Rp (f, T.length) T) (hS : pw_Rp (g, S.length) S) : pw_Rp (va_cpy g f 0 T.length S.length, T.length + S.length) (T ++ S) := by
  refine ⟨by rw [List.length_append], fun i hi => ?_, fun q hq => ?_⟩
  · rw [List.length_append] at hi
    show va_cpy g f 0 T.length S.length i = _
    unfold va_cpy
    split
    · next h9 =>
      rw [List.getD_eq_getElem?_getD, List.getElem?_append_right h9.1, Nat.zero_add, ← List.getD_eq_getElem?_getD]
      exact hS.2.1 _ (by omega)
    · next h9 =>
      have hl : i < T.length := by omega
      rw [List.getD_eq_getElem?_getD, List.getElem?_append_left hl, ← List.getD_eq_getElem?_getD]
      exact h.2.1 i hl
  · rcases List.mem_append.mp hq with h9 | h9
    · exact h.2.2 q h9
    · exact hS.2.2 q h9
theorem pw_Rp_bs {bs : List Nat} (hbf : ∀ i, i < bs.length → bs.getD i 0 < 128) : pw_Rp (fun j => nI (bs.getD j 0), bs.length) bs :=
  ⟨rfl, fun _ _ => rfl, fun q hq => by
    obtain ⟨i, hi, e⟩ := List.mem_iff_getElem.mp hq
    have h9 := hbf i hi
    rw [List.getD_eq_getElem?_getD, List.getElem?_eq_getElem hi] at h9
    rw [← e]; exact h9⟩
theorem pw_ab {z : Nat} {kA : Nat → ClassId} {kE : Nat → Nat} {G : pw_G} {ar : List (Nat × va_E)} {nx : Nat} {M : pm_M} (hW : pw_W z kA kE G ar nx M) (i j : Nat) (hij : i < j) {a b : Nat} {e e2 : va_E} (hi : ar[i]? = some (a, e)) (hj : ar[j]? = some (b, e2)) : a ≠ b := by
  have h3 := hW.2.2.1
  rw [List.pairwise_iff_getElem] at h3
  obtain ⟨i1, i2⟩ := List.getElem?_eq_some_iff.mp hi
  obtain ⟨j1, j2⟩ := List.getElem?_eq_some_iff.mp hj
  have h9 := h3 i j i1 j1 hij
  rw [i2, j2] at h9
  exact h9
theorem pw_lt {z : Nat} {kA : Nat → ClassId} {kE : Nat → Nat} {G : pw_G} {ar : List (Nat × va_E)} {nx : Nat} {M : pm_M} (hW : pw_W z kA kE G ar nx M) (i : Nat) {a : Nat} {e : va_E} (hi : ar[i]? = some (a, e)) : a < nx := (hW.2.1 _ (List.mem_of_getElem? hi)).2.1
theorem t_bI {z : Nat} {kA : Nat → ClassId} {kE : Nat → Nat} {G : pw_G} {N : Nat} {T S : List Nat} {a b : Nat} {ar : List (Nat × va_E)} {nx w : Nat} {M : pm_M} {f g : Nat → Int32} (hN : N ≤ 40) (hw : S.length = w) (hl : T.length + S.length ≤ N) (hg : pw_Rp (g, T.length + w) (T ++ S)) (hf : ∀ i, i < N → fits .byte (.int (g i)) = true) (hW : pw_W z kA kE G ((a, .inr (12, [.ref (z + b), .int 0, .int 0, .int (nI T.length)])) :: (b, .inl (kA 4, N, .inl f)) :: ar) nx M) : pw_tb z kA kE G N (T ++ S) a ar nx (pm_up (pm_up M b (.inl (kA 4, N, .inl g))) a (.inr (12, [.ref (z + b), .int 0, .int 0, .int (nI (T.length + w))]))) := by
  subst hw
  unfold pw_tb
  rw [List.length_append]
  exact ⟨b, g, hN, hl, hg, hf, pw_set0 (pw_set1 hW)⟩
/-- a number appended -/
theorem t_appI {l : Launch} {z : Nat} {D : va_G} {kA : Nat → ClassId} {kE : Nat → Nat} {G : pw_G} {N : Nat} {T : List Nat} {a : Nat} {ar : List (Nat × va_E)} {q : Nat} (hq : q < 1000) (hl : T.length + (pw_dg q).length ≤ N) : ∀ nx M, pw_tb z kA kE G N T a ar nx M → pm_C l z D kA kE yJ4_append_bf812 cJ4_append_bf812 2 (some (.object "java/lang/StringBuilder")) 2 0 0 [.ref (z + a), .int (nI q)] nx M (fun o n' M' => ∃ x : Unit, o = .inl (some (.ref (z + a))) ∧ pw_tb z kA kE G N (T ++ pw_dg q) a ar n' M') := by
  rintro nx M ⟨b, f, hN, hT, hR, hf, hW⟩
  obtain ⟨d1, d2, d3⟩ := pw_Rp_d hR hq
  have hab := pw_ab hW 0 1 (by decide) rfl rfl
  by_cases a1 : q < 10
  · have e : (pw_dg q).length = 1 := by unfold pw_dg; rw [if_pos a1]; rfl
    refine pm_Cpost (c_J4_append_bf812_1_N (pw_at hW 0 rfl) (pw_at hW 1 rfl) hab hq a1 (by omega) hN) fun o n' M' hp => ?_
    obtain ⟨rfl, rfl, rfl⟩ := hp
    exact ⟨(), rfl, t_bI hN e hl (d1 a1) (pw_fu hf (by omega)) hW⟩
  · by_cases a2 : q < 100
    · have e : (pw_dg q).length = 2 := by unfold pw_dg; rw [if_neg a1, if_pos a2]; rfl
      refine pm_Cpost (c_J4_append_bf812_2_N (pw_at hW 0 rfl) (pw_at hW 1 rfl) hab hq (by omega) a2 (by omega) hN) fun o n' M' hp => ?_
      obtain ⟨rfl, rfl, rfl⟩ := hp
      exact ⟨(), rfl, t_bI hN e hl (d2 (by omega) a2) (pw_fu (pw_fu hf (by omega)) (by omega)) hW⟩
    · have e : (pw_dg q).length = 3 := by unfold pw_dg; rw [if_neg a1, if_neg a2]; rfl
      refine pm_Cpost (c_J4_append_bf812_3_N (pw_at hW 0 rfl) (pw_at hW 1 rfl) hab hq (by omega) (by omega) hN) fun o n' M' hp => ?_
      obtain ⟨rfl, rfl, rfl⟩ := hp
      exact ⟨(), rfl, t_bI hN e hl (d3 (by omega)) (pw_fu (pw_fu (pw_fu hf (by omega)) (by omega)) (by omega)) hW⟩
/-- a text of the tables appended -/
theorem t_appT {l : Launch} {z : Nat} {D : va_G} {kA : Nat → ClassId} {kE : Nat → Nat} {G : pw_G} {N : Nat} {T : List Nat} {a : Nat} {ar : List (Nat × va_E)} {s v : Nat} {bs : List Nat} (hZ : ∀ U H, pm_Kx z kE U H → pm_Str z bs s v U H) (hbl : bs.length ≤ 40) (hbf : ∀ i, i < bs.length → bs.getD i 0 < 128) (hl : T.length + bs.length ≤ N) : ∀ nx M, pw_tb z kA kE G N T a ar nx M → pm_C l z D kA kE yJ4_append_15ec4 cJ4_append_15ec4 2 (some (.object "java/lang/StringBuilder")) 6 0 0 [.ref (z + a), .ref s] nx M (fun o n' M' => ∃ x : Unit, o = .inl (some (.ref (z + a))) ∧ pw_tb z kA kE G N (T ++ bs) a ar n' M') := by
  rintro nx M ⟨b, f, hN, hT, hR, hf, hW⟩
  refine pm_Cpost (c_J4_append_15ec4_T hZ hbl hbf (pw_at hW 0 rfl) (pw_at hW 1 rfl) (pw_ab hW 0 1 (by decide) rfl rfl) hN hl) fun o n' M' hp => ?_
  obtain ⟨rfl, rfl, rfl⟩ := hp
  exact ⟨(), rfl, t_bI hN rfl hl (pw_Rp_y hR (pw_Rp_bs hbf)) (pw_fy hf fun i hi => pm_fit8 _ (hbf i hi)) hW⟩
theorem pw_n1 {z : Nat} {kA : Nat → ClassId} {kE : Nat → Nat} {G : pw_G} {a b nx : Nat} {e e1 e2 e3 : va_E} {ar : List (Nat × va_E)} {M : pm_M} (hW : pw_W z kA kE G ((a, e) :: (b, e1) :: ar) nx M) : pw_W z kA kE G ((a, e3) :: (nx, e2) :: ar) (nx + 1) (pm_up (pm_up M nx e2) a e3) := by
  have h1 := pw_push hW e2
  have h2 : pw_W z kA kE G ((a, e) :: (nx, e2) :: ar) (nx + 1) (pm_up M nx e2) := by
    obtain ⟨k1, k2, k3, k4⟩ := pw_drop (ar2 := (nx, e2) :: (a, e) :: ar) h1 (.cons₂ _ (.cons₂ _ (.cons _ (List.Sublist.refl _))))
    refine ⟨k1, fun p hp => k2 p ?_, ?_, k4⟩
    · rcases List.mem_cons.mp hp with rfl | hp
      · exact List.mem_cons_of_mem _ List.mem_cons_self
      · rcases List.mem_cons.mp hp with rfl | hp
        · exact List.mem_cons_self
        · exact List.mem_cons_of_mem _ (List.mem_cons_of_mem _ hp)
    · obtain ⟨q1, q2⟩ := List.pairwise_cons.mp k3
      obtain ⟨q3, q4⟩ := List.pairwise_cons.mp q2
      refine List.pairwise_cons.mpr ⟨fun p hp => ?_, List.pairwise_cons.mpr ⟨fun p hp => q1 p (List.mem_cons_of_mem _ hp), q4⟩⟩
      rcases List.mem_cons.mp hp with rfl | hp
      · exact Ne.symm (q1 _ List.mem_cons_self)
      · exact q3 p hp
  exact pw_set0 h2
/-- .. and the builder grows -/
theorem t_appTG {l : Launch} {z : Nat} {D : va_G} {kA : Nat → ClassId} {kE : Nat → Nat} {G : pw_G} {N : Nat} {T : List Nat} {a : Nat} {ar : List (Nat × va_E)} {s v : Nat} {bs : List Nat} (hZ : ∀ U H, pm_Kx z kE U H → pm_Str z bs s v U H) (hbl : bs.length ≤ 40) (hbf : ∀ i, i < bs.length → bs.getD i 0 < 128) (h16 : T.length ≤ 16) (hl : T.length + bs.length < 35) (hl2 : 16 < T.length + bs.length) : ∀ nx M, pw_tb z kA kE G 16 T a ar nx M → pm_C l z D kA kE yJ4_append_15ec4 cJ4_append_15ec4 2 (some (.object "java/lang/StringBuilder")) 6 1 34 [.ref (z + a), .ref s] nx M (fun o n' M' => ∃ x : Unit, o = .inl (some (.ref (z + a))) ∧ pw_tb z kA kE G 34 (T ++ bs) a ar n' M') := by
  rintro nx M ⟨b, f, hN, hT, hR, hf, hW⟩
  refine pm_Cpost (c_J4_append_15ec4_TG hZ hbl hbf (pw_at hW 0 rfl) (pw_at hW 1 rfl) (pw_ab hW 0 1 (by decide) rfl rfl) (pw_lt hW 0 rfl) (pw_lt hW 1 rfl) hf h16 hl hl2) fun o n' M' hp => ?_
  obtain ⟨rfl, rfl, rfl⟩ := hp
  have hR2 : pw_Rp (va_cpy f (fun _ => 0) 0 0 16, T.length) T := pw_Rp_e hR fun i hi => by
    unfold va_cpy
    rw [if_pos ⟨Nat.zero_le _, by omega⟩, Nat.sub_zero, Nat.zero_add]
  refine ⟨(), rfl, ?_⟩
  unfold pw_tb
  rw [List.length_append]
  exact ⟨nx, _, by decide, by omega, pw_Rp_y hR2 (pw_Rp_bs hbf), pw_fy (pw_fy (fun _ _ => rfl) hf) (fun i hi => pm_fit8 _ (hbf i hi)), pw_n1 hW⟩
/-- a String of the memory appended -/
theorem t_appM {l : Launch} {z : Nat} {D : va_G} {kA : Nat → ClassId} {kE : Nat → Nat} {G : pw_G} {N : Nat} {T : List Nat} {a : Nat} {ar : List (Nat × va_E)} {s v : Nat} {bs : List Nat} {gg : Nat → Int32} (hS : pw_Rp (gg, bs.length) bs) (hl : T.length + bs.length ≤ N) : ∀ nx M, pw_tb z kA kE G N T a ((s, .inr (11, [.ref (z + v), .int 0, .int 0, .int 0])) :: (v, .inl (kA 4, bs.length, .inl gg)) :: ar) nx M → pm_C l z D kA kE yJ4_append_15ec4 cJ4_append_15ec4 2 (some (.object "java/lang/StringBuilder")) 6 0 0 [.ref (z + a), .ref (z + s)] nx M (fun o n' M' => ∃ x : Unit, o = .inl (some (.ref (z + a))) ∧ pw_tb z kA kE G N (T ++ bs) a ((s, .inr (11, [.ref (z + v), .int 0, .int 0, .int 0])) :: (v, .inl (kA 4, bs.length, .inl gg)) :: ar) n' M') := by
  rintro nx M ⟨b, f, hN, hT, hR, hf, hW⟩
  have hgf : ∀ i, i < bs.length → fits .byte (.int (gg i)) = true := fun i hi => by
    rw [show gg i = nI (bs.getD i 0) from hS.2.1 i hi]
    exact pm_fit8 _ (hS.2.2 _ (by rw [List.getD_eq_getElem?_getD, List.getElem?_eq_getElem hi]; exact List.getElem_mem hi))
  refine pm_Cpost (c_J4_append_15ec4_M (pw_at hW 2 rfl) (pw_at hW 3 rfl) (by omega) hgf (pw_at hW 0 rfl) (pw_at hW 1 rfl) (pw_ab hW 0 1 (by decide) rfl rfl) hN hl (Ne.symm (pw_ab hW 1 3 (by decide) rfl rfl)) (Ne.symm (pw_ab hW 0 3 (by decide) rfl rfl)) (Ne.symm (pw_ab hW 0 2 (by decide) rfl rfl)) (Ne.symm (pw_ab hW 1 2 (by decide) rfl rfl))) fun o n' M' hp => ?_
  obtain ⟨rfl, rfl, rfl⟩ := hp
  exact ⟨(), rfl, t_bI hN rfl hl (pw_Rp_y hR hS) (pw_fy hf hgf) hW⟩
theorem pw_add2 {z : Nat} {kA : Nat → ClassId} {kE : Nat → Nat} {G : pw_G} {nx : Nat} {e1 e2 : va_E} {ar : List (Nat × va_E)} {M M1 : pm_M} (hW : pw_W z kA kE G ar nx M) (h1 : M1 nx = some e1) (h2 : M1 (nx + 1) = some e2) (hk : ∀ q, q < nx → M1 q = M q) : pw_W z kA kE G ((nx, e1) :: (nx + 1, e2) :: ar) (nx + 2) M1 := by
  obtain ⟨w1, w2, w3, w4⟩ := pw_keep hW (nx2 := nx + 2) (by omega) hk
  refine ⟨w1, fun p hp => ?_, ?_, w4⟩
  · rcases List.mem_cons.mp hp with rfl | hp
    · exact ⟨hW.1, by show nx < nx + 2; omega, h1⟩
    · rcases List.mem_cons.mp hp with rfl | hp
      · exact ⟨by have := hW.1; show 140 ≤ nx + 1; omega, by show nx + 1 < nx + 2; omega, h2⟩
      · exact w2 p hp
  · refine List.pairwise_cons.mpr ⟨fun p hp => ?_, List.pairwise_cons.mpr ⟨fun p hp => ?_, w3⟩⟩
    · rcases List.mem_cons.mp hp with rfl | hp
      · show nx ≠ nx + 1
        omega
      · have h9 := (hW.2.1 p hp).2.1
        show nx ≠ p.1
        omega
    · have h9 := (hW.2.1 p hp).2.1
      show nx + 1 ≠ p.1
      omega
/-- the builder's text as a String -/
theorem t_str {l : Launch} {z : Nat} {D : va_G} {kA : Nat → ClassId} {kE : Nat → Nat} {G : pw_G} {N : Nat} {T : List Nat} {a : Nat} {ar : List (Nat × va_E)} : ∀ nx M, pw_tb z kA kE G N T a ar nx M → pm_C l z D kA kE yJ4_toString_0e30d cJ4_toString_0e30d 1 (some (.object "java/lang/String")) 6 2 44 [.ref (z + a)] nx M (fun o n' M' => ∃ x, o = .inl (some (.ref (z + x))) ∧ pw_ts z kA kE G T x ar n' M') := by
  rintro nx M ⟨b, f, hN, hT, hR, hf, hW⟩
  have hd : pw_W z kA kE G ar nx M := pw_drop hW (.cons _ (.cons _ (List.Sublist.refl _)))
  by_cases e : T.length = N
  · have hM := pw_at hW 0 rfl
    rw [e] at hM
    refine pm_Cpost (c_J4_toString_0e30d_e hM (pw_at hW 1 rfl) hN (pw_lt hW 0 rfl) (pw_lt hW 1 rfl) hf) fun o n' M' hp => ?_
    obtain ⟨_, rfl, rfl, rfl, h1, h2, h3⟩ := hp
    refine ⟨nx, rfl, nx + 1, f, hR, ?_⟩
    rw [e]
    exact pw_add2 hd h1 h2 h3
  · refine pm_Cpost (c_J4_toString_0e30d_c (pw_at hW 0 rfl) (pw_at hW 1 rfl) hN (by omega) (pw_lt hW 0 rfl) (pw_lt hW 1 rfl) hf) fun o n' M' hp => ?_
    obtain ⟨_, rfl, rfl, rfl, h1, h2, h3⟩ := hp
    refine ⟨nx, rfl, nx + 1, _, pw_Rp_e hR (fun i hi => ?_), pw_add2 hd h1 h2 h3⟩
    unfold va_cpy
    rw [if_pos ⟨Nat.zero_le _, by omega⟩, Nat.sub_zero, Nat.zero_add]
theorem pw_tsdrop {z : Nat} {kA : Nat → ClassId} {kE : Nat → Nat} {G : pw_G} {T : List Nat} {a : Nat} {ar ar2 : List (Nat × va_E)} {nx : Nat} {M : pm_M} (hs : ar2.Sublist ar) (h : pw_ts z kA kE G T a ar nx M) : pw_ts z kA kE G T a ar2 nx M := by
  obtain ⟨v, g, hR, hW⟩ := h
  exact ⟨v, g, hR, pw_drop hW (.cons₂ _ (.cons₂ _ hs))⟩
