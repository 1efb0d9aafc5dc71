/-! the law's texts -/
theorem sv_L_323 : pm_SV RL 323 yJ4_append_bf812 := ⟨pm_T_in 1183 (by decide +kernel) (by decide +kernel), pm_T_in 1184 (by decide +kernel) (by decide +kernel), pm_T_in 1185 (by decide +kernel) (by decide +kernel)⟩
theorem sv_L_329 : pm_SV RL 329 yJ4_append_15ec4 := ⟨pm_T_in 1266 (by decide +kernel) (by decide +kernel), pm_T_in 1267 (by decide +kernel) (by decide +kernel), pm_T_in 1268 (by decide +kernel) (by decide +kernel)⟩
theorem sv_L_336 : pm_SV RL 336 yJ4_toString_0e30d := ⟨pm_T_in 1325 (by decide +kernel) (by decide +kernel), pm_T_in 1326 (by decide +kernel) (by decide +kernel), pm_T_in 1327 (by decide +kernel) (by decide +kernel)⟩
theorem pw_tb0 {z : Nat} {kA : Nat → ClassId} {kE : Nat → Nat} {G : pw_G} {a b : Nat} {ar : List (Nat × va_E)} {nx : Nat} {M : pm_M} (h : pw_W z kA kE G ((a, .inr (12, [.ref (z + b), .int 0, .int 0, .int 0])) :: (b, .inl (kA 4, 16, .inl (fun _ => 0))) :: ar) nx M) : pw_tb z kA kE G 16 [] a ar nx M :=
  ⟨b, _, by decide, by decide, ⟨rfl, fun i hi => absurd hi (Nat.not_lt_zero _), fun q hq => absurd hq List.not_mem_nil⟩, fun _ _ => rfl, h⟩
theorem pw_tb_0 {z : Nat} {kA : Nat → ClassId} {kE : Nat → Nat} {G : pw_G} {N a : Nat} {T : List Nat} {ar : List (Nat × va_E)} {nx : Nat} {M : pm_M} (h : pw_tb z kA kE G N T a ar nx M) : ∃ fs, M 0 = some (.inr (10, fs)) := by
  obtain ⟨b, f, h1, h2, h3, h4, hW⟩ := h
  exact pw_0 hW
theorem pw_tb_a {z : Nat} {kA : Nat → ClassId} {kE : Nat → Nat} {G : pw_G} {N a : Nat} {T : List Nat} {ar : List (Nat × va_E)} {nx : Nat} {M : pm_M} (h : pw_tb z kA kE G N T a ar nx M) : ∃ fs, M a = some (.inr (12, fs)) := by
  obtain ⟨b, f, h1, h2, h3, h4, hW⟩ := h
  exact ⟨_, pw_at hW 0 rfl⟩
theorem pw_ts_0 {z : Nat} {kA : Nat → ClassId} {kE : Nat → Nat} {G : pw_G} {a : Nat} {T : List Nat} {ar : List (Nat × va_E)} {nx : Nat} {M : pm_M} (h : pw_ts z kA kE G T a ar nx M) : ∃ fs, M 0 = some (.inr (10, fs)) := by
  obtain ⟨b, f, h3, hW⟩ := h
  exact pw_0 hW
theorem t_ltb {l : Launch} {z : Nat} {D : va_G} {kA : Nat → ClassId} {kE : Nat → Nat} {G G2 : pw_G} {N : Nat} {T : List Nat} {a : Nat} {ar : List (Nat × va_E)} {y : MethodName} {cc : ByteArray} {nL : Nat} {ret : Option FieldType} {d mc ms : Nat} {As : List Value} {v : Option Value} (h : ∀ (ar : List (Nat × va_E)) nx M, pw_W z kA kE G ar nx M → pm_C l z D kA kE y cc nL ret d mc ms As nx M (pw_P v (pw_W z kA kE G2 ar))) : ∀ nx M, (pw_tb z kA kE G N T a ar) nx M → pm_C l z D kA kE y cc nL ret d mc ms As nx M (pw_P v (pw_tb z kA kE G2 N T a ar)) := by
  rintro nx M ⟨b, f, h1, h2, h3, h4, hW⟩
  exact pm_Cpost (h _ nx M hW) fun o n' M' hp => ⟨hp.1, b, f, h1, h2, h3, h4, hp.2⟩
theorem t_lts {l : Launch} {z : Nat} {D : va_G} {kA : Nat → ClassId} {kE : Nat → Nat} {G G2 : pw_G} {T : List Nat} {a : Nat} {ar : List (Nat × va_E)} {y : MethodName} {cc : ByteArray} {nL : Nat} {ret : Option FieldType} {d mc ms : Nat} {As : List Value} {v : Option Value} (h : ∀ (ar : List (Nat × va_E)) nx M, pw_W z kA kE G ar nx M → pm_C l z D kA kE y cc nL ret d mc ms As nx M (pw_P v (pw_W z kA kE G2 ar))) : ∀ nx M, (pw_ts z kA kE G T a ar) nx M → pm_C l z D kA kE y cc nL ret d mc ms As nx M (pw_P v (pw_ts z kA kE G2 T a ar)) := by
  rintro nx M ⟨b, f, h3, hW⟩
  exact pm_Cpost (h _ nx M hW) fun o n' M' hp => ⟨hp.1, b, f, h3, hp.2⟩
theorem t_ltbW {l : Launch} {z : Nat} {D : va_G} {kA : Nat → ClassId} {kE : Nat → Nat} {G G2 : pw_G} {N : Nat} {T : List Nat} {a : Nat} {ar : List (Nat × va_E)} {y : MethodName} {cc : ByteArray} {nL : Nat} {ret : Option FieldType} {d mc ms : Nat} {As : List Value} {v : Option Value} {hh : List (Nat × Nat × Nat × Nat)} (h : ∀ (ar : List (Nat × va_E)) nx M, pw_W z kA kE G ar nx M → pm_Cw l z D kA kE y cc nL ret hh d mc ms As nx M (pw_P v (pw_W z kA kE G2 ar))) : ∀ nx M, (pw_tb z kA kE G N T a ar) nx M → pm_Cw l z D kA kE y cc nL ret hh d mc ms As nx M (pw_P v (pw_tb z kA kE G2 N T a ar)) := by
  rintro nx M ⟨b, f, h1, h2, h3, h4, hW⟩
  exact pm_Cwpost (h _ nx M hW) fun o n' M' hp => ⟨hp.1, b, f, h1, h2, h3, h4, hp.2⟩
theorem t_ltsW {l : Launch} {z : Nat} {D : va_G} {kA : Nat → ClassId} {kE : Nat → Nat} {G G2 : pw_G} {T : List Nat} {a : Nat} {ar : List (Nat × va_E)} {y : MethodName} {cc : ByteArray} {nL : Nat} {ret : Option FieldType} {d mc ms : Nat} {As : List Value} {v : Option Value} {hh : List (Nat × Nat × Nat × Nat)} (h : ∀ (ar : List (Nat × va_E)) nx M, pw_W z kA kE G ar nx M → pm_Cw l z D kA kE y cc nL ret hh d mc ms As nx M (pw_P v (pw_W z kA kE G2 ar))) : ∀ nx M, (pw_ts z kA kE G T a ar) nx M → pm_Cw l z D kA kE y cc nL ret hh d mc ms As nx M (pw_P v (pw_ts z kA kE G2 T a ar)) := by
  rintro nx M ⟨b, f, h3, hW⟩
  exact pm_Cwpost (h _ nx M hW) fun o n' M' hp => ⟨hp.1, b, f, h3, hp.2⟩
theorem pw_waC {B n i k : Nat} {r : Nat → Int32} (hI : pm_I B n r) (hk : k < n) (hi : i ≤ 2) : (pw_wa r k ≤ nI i ↔ pm_n (r (7 + 6 * k + 4)) ≤ i) ∧ (pw_ba r k ≤ nI i ↔ pm_n (r (7 + 6 * k + 5)) ≤ i) := by
  have w4 := (hI.2.1 k hk).2.2.2.2
  have hi3 : i = 0 ∨ i = 1 ∨ i = 2 := by omega
  unfold pw_wa pw_ba
  rcases w4 with ⟨a, b⟩ | ⟨a, b⟩ | ⟨a, b⟩ | ⟨a, b⟩ | ⟨a, b⟩ <;> rw [a, b] <;> rcases hi3 with rfl | rfl | rfl <;> decide
