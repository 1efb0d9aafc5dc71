/-! a new StringBuilder of the law's -/
theorem nw_L_320 : pm_Nw RL 320 12 [.null, .int 0, .int 0, .int 0] := ⟨by decide, co_J4, pm_T_in 1181 (by decide +kernel) (by decide +kernel), pm_T_in 302 (by decide +kernel) (by decide +kernel), pm_T_in 46 (by decide +kernel) (by decide +kernel), by decide +kernel⟩
theorem si_L_322 : pm_SI RL 322 yJ4_init_da8c8 := ⟨pm_T_in 1182 (by decide +kernel) (by decide +kernel), pm_T_in 304 (by decide +kernel) (by decide +kernel), by decide +kernel⟩
theorem pw_nsb {l : Launch} {z : Nat} {D : va_G} {kA : Nat → ClassId} {kE : Nat → Nat} {cc : ByteArray} {nL : Nat} {ret : Option FieldType} {nm : String} {tb : List ExceptionTableEntry} {d mc ms : Nat} {X : pm_X} {Q : State → Prop} {c s c2 s2 pc : Nat} {L : List (Option Value)} {st : List Value} {G : pw_G} {ar : List (Nat × va_E)} (B : pm_B l z D kA kE RL cc nL ret nm tb d mc ms X) (hd1 : decode cc pc = .ok (.new 320, 3)) (hd2 : decode cc (pc + 3) = .ok (.dup, 1)) (hd3 : decode cc (pc + 3 + 1) = .ok (.invokespecial 322, 3)) (hd : Nat.ble 3 d = true) (hst : Nat.ble (((.ref (z + 0) :: st : List Value).map fun v => v.category).sum) 8 = true) (hc : 2 + c2 ≤ c) (hs2 : 20 + s2 ≤ s)
    (k : ∀ a b, 140 ≤ a → 140 ≤ b → a ≠ b → pw_J l z D X mc ms Q (pw_W z kA kE G ((a, .inr (12, [.ref (z + b), .int 0, .int 0, .int 0])) :: (b, .inl (kA 4, 16, .inl (fun _ => 0))) :: ar)) c2 s2 (pc + 3 + 1 + 3) L (.ref (z + a) :: st)) : pw_J l z D X mc ms Q (pw_W z kA kE G ar) c s pc L st := by
  intro cu su nx M h1 h2 hW
  obtain ⟨w1, w2, w3, g, hT, hg⟩ := hW
  refine pm_new (n0 := 4) B hd1 nw_L_320 rfl (by omega) (by omega) ?_
  refine pm_dup B hd2 rfl ?_
  refine pm_cIx (As := []) (mc2 := 1) (ms2 := 16) B rfl (c_J4_init_da8c8 pm_up_s) mt_J4_init_da8c8 si_L_322 hd3 rfl hd hst (Nat.ble_eq_true_of_le (by omega)) (Nat.ble_eq_true_of_le (by omega)) (fun ov n' M' hp => ?_)
  obtain ⟨rfl, rfl, r0, r1, hk⟩ := hp
  have old : ∀ x, x < nx → M' x = M x := fun x hx => (hk x (by omega)).trans (pm_up_n (by omega))
  refine k nx (nx + 1) w1 (by omega) (by omega) _ _ _ _ (by omega) (by omega) ⟨by omega, fun p hp => ?_, ?_, g, pm_TC_keep hT (fun x hx => old x (by omega)), hg⟩
  · rcases List.mem_cons.mp hp with rfl | hp
    · exact ⟨w1, (show nx < nx + 2 by omega), r0⟩
    · rcases List.mem_cons.mp hp with rfl | hp
      · exact ⟨(show 140 ≤ nx + 1 by omega), (show nx + 1 < nx + 2 by omega), r1⟩
      · have h9 := w2 p hp
        exact ⟨h9.1, by omega, (old _ h9.2.1).trans h9.2.2⟩
  · refine List.pairwise_cons.mpr ⟨fun p hp => ?_, List.pairwise_cons.mpr ⟨fun p hp => ?_, w3⟩⟩
    · rcases List.mem_cons.mp hp with rfl | hp
      · show nx ≠ nx + 1
        omega
      · have h9 := (w2 p hp).2.1
        show nx ≠ p.1
        omega
    · have h9 := (w2 p hp).2.1
      show nx + 1 ≠ p.1
      omega
