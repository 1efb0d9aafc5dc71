def w_L_quotas_2 (n : Nat) (r : (Nat → Int32)) (T : Nat) (x0 : (Nat → Int32)) : Nat → ((Nat → Int32))
  | 0 => x0
  | j2 + 1 => (upd (w_L_quotas_2 n r T x0 j2) j2 (pw_qb n r (nI T) 1 j2))
theorem pw_inT {T : Nat} (hT : T ≤ 300) : ¬ pm_in (nI T) 0 300 = 0 := by
  have h : ∀ T, T ≤ 300 → ¬ pm_in (nI T) 0 300 = 0 := by
    intro T hT
    unfold pm_in
    rw [if_neg (nI_pos (by omega)), if_neg (fun h => by have := (nI_ltI (a := 300) (b := T) (by omega) (by omega)).mp h; omega)]
    decide
  exact h T hT
theorem pw_ush1 (x : Int32) : ∃ a, a < 2147483648 ∧ pm_ush x 1 = nI a := by
  refine ⟨x.toUInt32.toNat / 2, ?_, ?_⟩
  · have := x.toUInt32.toNat_lt; omega
  · have h : (1 : Int32).toUInt32 &&& Int32.toUInt32 31 = 1 := by decide
    unfold pm_ush
    rw [h]
    have e : (x.toUInt32 >>> 1) = UInt32.ofNat (x.toUInt32.toNat / 2) := by
      apply UInt32.toNat_inj.mp
      have := x.toUInt32.toNat_lt
      rw [UInt32.toNat_shiftRight, UInt32.toNat_ofNat_of_lt' (by show _ < 2^32; omega)]
      simp [Nat.shiftRight_eq_div_pow]
    rw [e]
    rfl
theorem pw_ushm (x : Int32) {m : Nat} (hm : 0 < m) (hm2 : m < 100000) : ∃ t, t < m ∧ pm_ush x 1 - pm_ush x 1 / (nI m) * (nI m) = nI t := by
  obtain ⟨a, ha, e⟩ := pw_ush1 x
  rw [e]
  exact ⟨a % m, Nat.mod_lt _ hm, pk_rem (by omega) hm (by omega)⟩
theorem pw_qt (a b : Prop) [Decidable a] [Decidable b] (x : Int32) : ∃ T, T ≤ 300 ∧ ((if a then 300 else (if b then 1 else (pm_ush x 1 - pm_ush x 1 / 301 * 301))) : Int32) = nI T := by
  by_cases h : a
  · rw [if_pos h]; exact ⟨300, by omega, rfl⟩
  · rw [if_neg h]
    by_cases h : b
    · rw [if_pos h]; exact ⟨1, by omega, rfl⟩
    · rw [if_neg h]
      obtain ⟨t, h1, h2⟩ := pw_ushm x (m := 301) (by decide) (by decide)
      exact ⟨t, by omega, h2⟩
theorem pw_qbz {B n k : Nat} {r : Nat → Int32} (hI : pm_I B n r) (hk : k < n) : pw_qb n r 0 1 k = 0 := by
  have hz : d_X1_apportion_L1 7 0 (fun _ => 0) k = 0 := by rw [pm_apZ, if_pos (by have := hI.1.2.1; omega)]
  unfold pw_qb d_X1_apportion
  split
  · exact hz
  · rw [if_neg (by decide)]
    exact hz
theorem pw_arq {B n T : Nat} {r : Nat → Int32} (hI : pm_I B n r) (hT : T ≤ 300) : ¬ v_L_areByQuotients n r (nI T) (w_L_quotas_2 n r T (fun _ => 0) n) = 0 := sorry
/-! the law: quotas -/
theorem dL_quotas_0 : decode cL_quotas 0 = .ok (.aload_n 1, 1) := by decide +kernel
theorem dL_quotas_1 : decode cL_quotas 1 = .ok (.invokevirtual 177, 3) := by decide +kernel
theorem dL_quotas_4 : decode cL_quotas 4 = .ok (.istore_n 2, 1) := by decide +kernel
theorem dL_quotas_5 : decode cL_quotas 5 = .ok (.iconst 0, 1) := by decide +kernel
theorem dL_quotas_6 : decode cL_quotas 6 = .ok (.istore_n 3, 1) := by decide +kernel
theorem dL_quotas_7 : decode cL_quotas 7 = .ok (.iload_n 3, 1) := by decide +kernel
theorem dL_quotas_8 : decode cL_quotas 8 = .ok (.iconst 4, 1) := by decide +kernel
theorem dL_quotas_9 : decode cL_quotas 9 = .ok (.if_icmp .ge 130, 3) := by decide +kernel
theorem dL_quotas_12 : decode cL_quotas 12 = .ok (.iload_n 3, 1) := by decide +kernel
theorem dL_quotas_13 : decode cL_quotas 13 = .ok (.ifCond .ne 9, 3) := by decide +kernel
theorem dL_quotas_16 : decode cL_quotas 16 = .ok (.sipush 300, 3) := by decide +kernel
theorem dL_quotas_19 : decode cL_quotas 19 = .ok (.goto 26, 3) := by decide +kernel
theorem dL_quotas_22 : decode cL_quotas 22 = .ok (.iload_n 3, 1) := by decide +kernel
theorem dL_quotas_23 : decode cL_quotas 23 = .ok (.iconst 1, 1) := by decide +kernel
theorem dL_quotas_24 : decode cL_quotas 24 = .ok (.if_icmp .ne 7, 3) := by decide +kernel
theorem dL_quotas_27 : decode cL_quotas 27 = .ok (.iconst 1, 1) := by decide +kernel
theorem dL_quotas_28 : decode cL_quotas 28 = .ok (.goto 17, 3) := by decide +kernel
theorem dL_quotas_31 : decode cL_quotas 31 = .ok (.aload_n 0, 1) := by decide +kernel
theorem dL_quotas_32 : decode cL_quotas 32 = .ok (.bipush 28, 2) := by decide +kernel
theorem dL_quotas_34 : decode cL_quotas 34 = .ok (.iload_n 3, 1) := by decide +kernel
theorem dL_quotas_35 : decode cL_quotas 35 = .ok (.iadd, 1) := by decide +kernel
theorem dL_quotas_36 : decode cL_quotas 36 = .ok (.invokestatic 150, 3) := by decide +kernel
theorem dL_quotas_39 : decode cL_quotas 39 = .ok (.iconst 1, 1) := by decide +kernel
theorem dL_quotas_40 : decode cL_quotas 40 = .ok (.iushr, 1) := by decide +kernel
theorem dL_quotas_41 : decode cL_quotas 41 = .ok (.sipush 301, 3) := by decide +kernel
theorem dL_quotas_44 : decode cL_quotas 44 = .ok (.irem, 1) := by decide +kernel
theorem dL_quotas_45 : decode cL_quotas 45 = .ok (.istore 4, 2) := by decide +kernel
theorem dL_quotas_47 : decode cL_quotas 47 = .ok (.aload_n 1, 1) := by decide +kernel
theorem dL_quotas_48 : decode cL_quotas 48 = .ok (.iload 4, 2) := by decide +kernel
theorem dL_quotas_50 : decode cL_quotas 50 = .ok (.invokestatic 257, 3) := by decide +kernel
theorem dL_quotas_53 : decode cL_quotas 53 = .ok (.astore 5, 2) := by decide +kernel
theorem dL_quotas_55 : decode cL_quotas 55 = .ok (.bipush 7, 2) := by decide +kernel
theorem dL_quotas_57 : decode cL_quotas 57 = .ok (.newarray .int, 2) := by decide +kernel
theorem dL_quotas_59 : decode cL_quotas 59 = .ok (.astore 6, 2) := by decide +kernel
theorem dL_quotas_61 : decode cL_quotas 61 = .ok (.iconst 0, 1) := by decide +kernel
theorem dL_quotas_62 : decode cL_quotas 62 = .ok (.istore 7, 2) := by decide +kernel
theorem dL_quotas_64 : decode cL_quotas 64 = .ok (.iload 7, 2) := by decide +kernel
theorem dL_quotas_66 : decode cL_quotas 66 = .ok (.iload_n 2, 1) := by decide +kernel
theorem dL_quotas_67 : decode cL_quotas 67 = .ok (.if_icmp .ge 53, 3) := by decide +kernel
theorem dL_quotas_70 : decode cL_quotas 70 = .ok (.aload 6, 2) := by decide +kernel
theorem dL_quotas_72 : decode cL_quotas 72 = .ok (.iload 7, 2) := by decide +kernel
theorem dL_quotas_74 : decode cL_quotas 74 = .ok (.aload_n 1, 1) := by decide +kernel
theorem dL_quotas_75 : decode cL_quotas 75 = .ok (.iload 7, 2) := by decide +kernel
theorem dL_quotas_77 : decode cL_quotas 77 = .ok (.iload 4, 2) := by decide +kernel
theorem dL_quotas_79 : decode cL_quotas 79 = .ok (.iconst 1, 1) := by decide +kernel
theorem dL_quotas_80 : decode cL_quotas 80 = .ok (.invokestatic 261, 3) := by decide +kernel
theorem dL_quotas_83 : decode cL_quotas 83 = .ok (.iastore, 1) := by decide +kernel
theorem dL_quotas_84 : decode cL_quotas 84 = .ok (.aload_n 1, 1) := by decide +kernel
theorem dL_quotas_85 : decode cL_quotas 85 = .ok (.iload 7, 2) := by decide +kernel
theorem dL_quotas_87 : decode cL_quotas 87 = .ok (.iload 4, 2) := by decide +kernel
theorem dL_quotas_89 : decode cL_quotas 89 = .ok (.iconst 0, 1) := by decide +kernel
theorem dL_quotas_90 : decode cL_quotas 90 = .ok (.invokestatic 261, 3) := by decide +kernel
theorem dL_quotas_93 : decode cL_quotas 93 = .ok (.aload 5, 2) := by decide +kernel
theorem dL_quotas_95 : decode cL_quotas 95 = .ok (.iload 7, 2) := by decide +kernel
theorem dL_quotas_97 : decode cL_quotas 97 = .ok (.iaload, 1) := by decide +kernel
theorem dL_quotas_98 : decode cL_quotas 98 = .ok (.if_icmp .ne 14, 3) := by decide +kernel
theorem dL_quotas_101 : decode cL_quotas 101 = .ok (.aload_n 1, 1) := by decide +kernel
theorem dL_quotas_102 : decode cL_quotas 102 = .ok (.iload 7, 2) := by decide +kernel
theorem dL_quotas_104 : decode cL_quotas 104 = .ok (.iconst 0, 1) := by decide +kernel
theorem dL_quotas_105 : decode cL_quotas 105 = .ok (.iconst 1, 1) := by decide +kernel
theorem dL_quotas_106 : decode cL_quotas 106 = .ok (.invokestatic 261, 3) := by decide +kernel
theorem dL_quotas_109 : decode cL_quotas 109 = .ok (.ifCond .eq 5, 3) := by decide +kernel
theorem dL_quotas_112 : decode cL_quotas 112 = .ok (.iconst 0, 1) := by decide +kernel
theorem dL_quotas_113 : decode cL_quotas 113 = .ok (.ireturn, 1) := by decide +kernel
theorem dL_quotas_114 : decode cL_quotas 114 = .ok (.iinc 7 1, 3) := by decide +kernel
theorem dL_quotas_117 : decode cL_quotas 117 = .ok (.goto (-53), 3) := by decide +kernel
theorem dL_quotas_120 : decode cL_quotas 120 = .ok (.aload_n 1, 1) := by decide +kernel
theorem dL_quotas_121 : decode cL_quotas 121 = .ok (.iload 4, 2) := by decide +kernel
theorem dL_quotas_123 : decode cL_quotas 123 = .ok (.aload 6, 2) := by decide +kernel
theorem dL_quotas_125 : decode cL_quotas 125 = .ok (.invokestatic 264, 3) := by decide +kernel
theorem dL_quotas_128 : decode cL_quotas 128 = .ok (.ifCond .ne 5, 3) := by decide +kernel
theorem dL_quotas_131 : decode cL_quotas 131 = .ok (.iconst 0, 1) := by decide +kernel
theorem dL_quotas_132 : decode cL_quotas 132 = .ok (.ireturn, 1) := by decide +kernel
theorem dL_quotas_133 : decode cL_quotas 133 = .ok (.iinc 3 1, 3) := by decide +kernel
theorem dL_quotas_136 : decode cL_quotas 136 = .ok (.goto (-129), 3) := by decide +kernel
theorem dL_quotas_139 : decode cL_quotas 139 = .ok (.aload_n 1, 1) := by decide +kernel
theorem dL_quotas_140 : decode cL_quotas 140 = .ok (.iload_n 2, 1) := by decide +kernel
theorem dL_quotas_141 : decode cL_quotas 141 = .ok (.sipush 301, 3) := by decide +kernel
theorem dL_quotas_144 : decode cL_quotas 144 = .ok (.iconst 0, 1) := by decide +kernel
theorem dL_quotas_145 : decode cL_quotas 145 = .ok (.invokestatic 261, 3) := by decide +kernel
theorem dL_quotas_148 : decode cL_quotas 148 = .ok (.bipush (-11), 2) := by decide +kernel
theorem dL_quotas_150 : decode cL_quotas 150 = .ok (.if_icmp .ne 57, 3) := by decide +kernel
theorem dL_quotas_153 : decode cL_quotas 153 = .ok (.aload_n 1, 1) := by decide +kernel
theorem dL_quotas_154 : decode cL_quotas 154 = .ok (.iconst 0, 1) := by decide +kernel
theorem dL_quotas_155 : decode cL_quotas 155 = .ok (.sipush 301, 3) := by decide +kernel
theorem dL_quotas_158 : decode cL_quotas 158 = .ok (.iconst 0, 1) := by decide +kernel
theorem dL_quotas_159 : decode cL_quotas 159 = .ok (.invokestatic 261, 3) := by decide +kernel
theorem dL_quotas_162 : decode cL_quotas 162 = .ok (.bipush (-12), 2) := by decide +kernel
theorem dL_quotas_164 : decode cL_quotas 164 = .ok (.if_icmp .ne 43, 3) := by decide +kernel
theorem dL_quotas_167 : decode cL_quotas 167 = .ok (.aload_n 1, 1) := by decide +kernel
theorem dL_quotas_168 : decode cL_quotas 168 = .ok (.iconst 0, 1) := by decide +kernel
theorem dL_quotas_169 : decode cL_quotas 169 = .ok (.iconst (-1), 1) := by decide +kernel
theorem dL_quotas_170 : decode cL_quotas 170 = .ok (.iconst 1, 1) := by decide +kernel
theorem dL_quotas_171 : decode cL_quotas 171 = .ok (.invokestatic 261, 3) := by decide +kernel
theorem dL_quotas_174 : decode cL_quotas 174 = .ok (.bipush (-12), 2) := by decide +kernel
theorem dL_quotas_176 : decode cL_quotas 176 = .ok (.if_icmp .ne 31, 3) := by decide +kernel
theorem dL_quotas_179 : decode cL_quotas 179 = .ok (.aload_n 1, 1) := by decide +kernel
theorem dL_quotas_180 : decode cL_quotas 180 = .ok (.iconst 0, 1) := by decide +kernel
theorem dL_quotas_181 : decode cL_quotas 181 = .ok (.iconst 5, 1) := by decide +kernel
theorem dL_quotas_182 : decode cL_quotas 182 = .ok (.iconst 2, 1) := by decide +kernel
theorem dL_quotas_183 : decode cL_quotas 183 = .ok (.invokestatic 261, 3) := by decide +kernel
theorem dL_quotas_186 : decode cL_quotas 186 = .ok (.bipush (-12), 2) := by decide +kernel
theorem dL_quotas_188 : decode cL_quotas 188 = .ok (.if_icmp .ne 19, 3) := by decide +kernel
theorem dL_quotas_191 : decode cL_quotas 191 = .ok (.aload_n 1, 1) := by decide +kernel
theorem dL_quotas_192 : decode cL_quotas 192 = .ok (.iconst 0, 1) := by decide +kernel
theorem dL_quotas_193 : decode cL_quotas 193 = .ok (.iconst 5, 1) := by decide +kernel
theorem dL_quotas_194 : decode cL_quotas 194 = .ok (.iconst (-1), 1) := by decide +kernel
theorem dL_quotas_195 : decode cL_quotas 195 = .ok (.invokestatic 261, 3) := by decide +kernel
theorem dL_quotas_198 : decode cL_quotas 198 = .ok (.bipush (-12), 2) := by decide +kernel
theorem dL_quotas_200 : decode cL_quotas 200 = .ok (.if_icmp .ne 7, 3) := by decide +kernel
theorem dL_quotas_203 : decode cL_quotas 203 = .ok (.iconst 1, 1) := by decide +kernel
theorem dL_quotas_204 : decode cL_quotas 204 = .ok (.goto 4, 3) := by decide +kernel
theorem dL_quotas_207 : decode cL_quotas 207 = .ok (.iconst 0, 1) := by decide +kernel
theorem dL_quotas_208 : decode cL_quotas 208 = .ok (.ireturn, 1) := by decide +kernel
theorem mt_L_quotas : pm_Mt yL_quotas cL_quotas 8 (some .boolean) 2 := ⟨pm_T_in 967 (by decide +kernel) (by decide +kernel), pm_T_in 34 (by decide +kernel) (by decide +kernel), ⟨by decide +kernel, by decide +kernel, by decide +kernel⟩, by decide +kernel, by decide⟩
set_option maxRecDepth 100000 in
set_option maxHeartbeats 8000000 in
theorem c_L_quotas {l : Launch} {z : Nat} {D : va_G} {kA : Nat → ClassId} {kE : Nat → Nat} {B n : Nat} {r : Nat → Int32} {hs : List (Nat → Int32)} {u : Nat × List Nat} {ar : List (Nat × va_E)}  (hI : pm_I B n r) (h0 : 0 < n) : ∀ nx M, (pw_W z kA kE (B, r, hs, u) ar) nx M → pm_C l z D kA kE yL_quotas cL_quotas 8 (some .boolean) 70 99642 597862 [.ref (kE 70), .ref (z + 0)] nx M (pw_P (some (.int 1)) (pw_W z kA kE (B, r, hs, u) ar)) := by
  refine pw_mk (own := RL) (nm := "quotas") mt_L_quotas rfl rfl rfl rfl fun X B9 => ?_
  have h7 : n ≤ 7 := hI.1.2.1
  have h128 : 2 ^ n ≤ 128 := pm_p7 h7
  refine pw_l (fun _ _ _ _ k => pm_loc (L' := [some (.ref (kE 70)), some (.ref (z + 0)), none, none, none, none, none, none]) rfl k) ?_
  refine pw_l (fun _ _ _ _ k => pm_aload_n B9 dL_quotas_0 rfl k) ?_
  refine pw_cV (As := []) (c2 := (99642 - (2) + 0)) (s2 := (597862 - (12) + 0)) B9 (fun _ _ hW => pw_0 hW) rfl (a_X12_memberCount hI) mt_X12_memberCount sv_L_177 dL_quotas_1 rfl rfl rfl (by omega) (by omega) ?_
  refine pw_l (fun _ _ _ _ k => pm_stk (st' := [.int (nI n)]) rfl k) ?_
  refine pw_l (fun _ _ _ _ k => pm_istore_n B9 dL_quotas_4 rfl rfl k) ?_
  refine pw_l (fun _ _ _ _ k => pm_loc (L' := [some (.ref (kE 70)), some (.ref (z + 0)), some (.int (nI n)), none, none, none, none, none]) rfl k) ?_
  refine pw_l (fun _ _ _ _ k => pm_iconst (v := 0) B9 dL_quotas_5 (by decide) k) ?_
  refine pw_l (fun _ _ _ _ k => pm_istore_n B9 dL_quotas_6 rfl rfl k) ?_
  refine pw_l (fun _ _ _ _ k => pm_loc (L' := [some (.ref (kE 70)), some (.ref (z + 0)), some (.int (nI n)), some (.int 0), none, none, none, none]) rfl k) ?_
  refine pw_l (fun _ _ _ _ k => pm_loc (L' := [some (.ref (kE 70)), some (.ref (z + 0)), some (.int (nI n)), some (.int (nI 0)), none, none, none, none]) (congrArg (fun yy : Int32 => ([some (.ref (kE 70)), some (.ref (z + 0)), some (.int (nI n)), some (.int yy), none, none, none, none] : List (Option Value))) rfl) k) ?_
  have hx1 : pw_J l z D X 99642 597862 (pm_Q z D (pw_P (some (.int 1)) (pw_W z kA kE (B, r, hs, u) ar)) 99642 597862 X) (pw_W z kA kE (B, r, hs, u) ar) (99642 - (2 + 5 * 19926) + 0) (597862 - (12 + 5 * 119558) + 0) 139 [none, some (.ref (z + 0)), some (.int (nI n)), none, none, none, none, none] [] := by
    refine pw_l (fun _ _ _ _ k => pm_aload_n B9 dL_quotas_139 rfl k) ?_
    refine pw_l (fun _ _ _ _ k => pm_iload_n B9 dL_quotas_140 rfl k) ?_
    refine pw_l (fun _ _ _ _ k => pm_sipush (v := 301) B9 dL_quotas_141 (by decide) k) ?_
    refine pw_l (fun _ _ _ _ k => pm_iconst (v := 0) B9 dL_quotas_144 (by decide) k) ?_
    refine pw_cSW (As := [.ref (z + 0), .int (nI n), .int 301, .int 0]) (c2 := (99642 - (4 + 5 * 19926) + 0)) (s2 := (597862 - (24 + 5 * 119558) + 0)) B9 (pv_as (pv_L_quotaBy_n hI.1.2.1) (b_L_quotaBy hI)) mt_L_quotaBy ss_L_261 dL_quotas_145 rfl rfl rfl (by omega) (by omega) ?_
    refine pw_l (fun _ _ _ _ k => pm_stk (st' := [.int (-11)]) rfl k) ?_
    refine pw_l (fun _ _ _ _ k => pm_bipush (v := (-11)) B9 dL_quotas_148 (by decide) k) ?_
    refine pw_l (fun _ _ _ _ k => pm_icmp_ne (tgt := 207) B9 dL_quotas_150 (by decide) (fun h => absurd (by decide) h) (fun _ => k)) ?_
    refine pw_l (fun _ _ _ _ k => pm_aload_n B9 dL_quotas_153 rfl k) ?_
    refine pw_l (fun _ _ _ _ k => pm_iconst (v := 0) B9 dL_quotas_154 (by decide) k) ?_
    refine pw_l (fun _ _ _ _ k => pm_sipush (v := 301) B9 dL_quotas_155 (by decide) k) ?_
    refine pw_l (fun _ _ _ _ k => pm_iconst (v := 0) B9 dL_quotas_158 (by decide) k) ?_
    refine pw_cSW (As := [.ref (z + 0), .int 0, .int 301, .int 0]) (c2 := (99642 - (6 + 5 * 19926) + 0)) (s2 := (597862 - (36 + 5 * 119558) + 0)) B9 (pv_as (pv_L_quotaBy_b h0 hI.1.2.1 (by decide)) (b_L_quotaBy hI)) mt_L_quotaBy ss_L_261 dL_quotas_159 rfl rfl rfl (by omega) (by omega) ?_
    refine pw_l (fun _ _ _ _ k => pm_stk (st' := [.int (-12)]) rfl k) ?_
    refine pw_l (fun _ _ _ _ k => pm_bipush (v := (-12)) B9 dL_quotas_162 (by decide) k) ?_
    refine pw_l (fun _ _ _ _ k => pm_icmp_ne (tgt := 207) B9 dL_quotas_164 (by decide) (fun h => absurd (by decide) h) (fun _ => k)) ?_
    refine pw_l (fun _ _ _ _ k => pm_aload_n B9 dL_quotas_167 rfl k) ?_
    refine pw_l (fun _ _ _ _ k => pm_iconst (v := 0) B9 dL_quotas_168 (by decide) k) ?_
    refine pw_l (fun _ _ _ _ k => pm_iconst (v := (-1)) B9 dL_quotas_169 (by decide) k) ?_
    refine pw_l (fun _ _ _ _ k => pm_iconst (v := 1) B9 dL_quotas_170 (by decide) k) ?_
    refine pw_cSW (As := [.ref (z + 0), .int 0, .int (-1), .int 1]) (c2 := (99642 - (8 + 5 * 19926) + 0)) (s2 := (597862 - (48 + 5 * 119558) + 0)) B9 (pv_as (pv_L_quotaBy_b h0 hI.1.2.1 (by decide)) (b_L_quotaBy hI)) mt_L_quotaBy ss_L_261 dL_quotas_171 rfl rfl rfl (by omega) (by omega) ?_
    refine pw_l (fun _ _ _ _ k => pm_stk (st' := [.int (-12)]) rfl k) ?_
    refine pw_l (fun _ _ _ _ k => pm_bipush (v := (-12)) B9 dL_quotas_174 (by decide) k) ?_
    refine pw_l (fun _ _ _ _ k => pm_icmp_ne (tgt := 207) B9 dL_quotas_176 (by decide) (fun h => absurd (by decide) h) (fun _ => k)) ?_
    refine pw_l (fun _ _ _ _ k => pm_aload_n B9 dL_quotas_179 rfl k) ?_
    refine pw_l (fun _ _ _ _ k => pm_iconst (v := 0) B9 dL_quotas_180 (by decide) k) ?_
    refine pw_l (fun _ _ _ _ k => pm_iconst (v := 5) B9 dL_quotas_181 (by decide) k) ?_
    refine pw_l (fun _ _ _ _ k => pm_iconst (v := 2) B9 dL_quotas_182 (by decide) k) ?_
    refine pw_cSW (As := [.ref (z + 0), .int 0, .int 5, .int 2]) (c2 := (99642 - (10 + 5 * 19926) + 0)) (s2 := (597862 - (60 + 5 * 119558) + 0)) B9 (pv_as (pv_L_quotaBy_b h0 hI.1.2.1 (by decide)) (b_L_quotaBy hI)) mt_L_quotaBy ss_L_261 dL_quotas_183 rfl rfl rfl (by omega) (by omega) ?_
    refine pw_l (fun _ _ _ _ k => pm_stk (st' := [.int (-12)]) rfl k) ?_
    refine pw_l (fun _ _ _ _ k => pm_bipush (v := (-12)) B9 dL_quotas_186 (by decide) k) ?_
    refine pw_l (fun _ _ _ _ k => pm_icmp_ne (tgt := 207) B9 dL_quotas_188 (by decide) (fun h => absurd (by decide) h) (fun _ => k)) ?_
    refine pw_l (fun _ _ _ _ k => pm_aload_n B9 dL_quotas_191 rfl k) ?_
    refine pw_l (fun _ _ _ _ k => pm_iconst (v := 0) B9 dL_quotas_192 (by decide) k) ?_
    refine pw_l (fun _ _ _ _ k => pm_iconst (v := 5) B9 dL_quotas_193 (by decide) k) ?_
    refine pw_l (fun _ _ _ _ k => pm_iconst (v := (-1)) B9 dL_quotas_194 (by decide) k) ?_
    refine pw_cSW (As := [.ref (z + 0), .int 0, .int 5, .int (-1)]) (c2 := (99642 - (12 + 5 * 19926) + 0)) (s2 := (597862 - (72 + 5 * 119558) + 0)) B9 (pv_as (pv_L_quotaBy_b h0 hI.1.2.1 (by decide)) (b_L_quotaBy hI)) mt_L_quotaBy ss_L_261 dL_quotas_195 rfl rfl rfl (by omega) (by omega) ?_
    refine pw_l (fun _ _ _ _ k => pm_stk (st' := [.int (-12)]) rfl k) ?_
    refine pw_l (fun _ _ _ _ k => pm_bipush (v := (-12)) B9 dL_quotas_198 (by decide) k) ?_
    refine pw_l (fun _ _ _ _ k => pm_icmp_ne (tgt := 207) B9 dL_quotas_200 (by decide) (fun h => absurd (by decide) h) (fun _ => k)) ?_
    refine pw_l (fun _ _ _ _ k => pm_iconst (v := 1) B9 dL_quotas_203 (by decide) k) ?_
    refine pw_l (fun _ _ _ _ k => pm_goto (tgt := 208) B9 dL_quotas_204 (by decide) k) ?_
    exact fun cu su nx M h1 h2 hW => pm_ireturn B9 dL_quotas_208 rfl (rfl) ⟨rfl, hW⟩ (Nat.ble_eq_true_of_le (by omega)) (Nat.ble_eq_true_of_le (by omega))
  have loop1 : ∀ k1 j1 : Nat, j1 + k1 = 4 → pw_J l z D X 99642 597862 (pm_Q z D (pw_P (some (.int 1)) (pw_W z kA kE (B, r, hs, u) ar)) 99642 597862 X) (pw_W z kA kE (B, r, hs, u) ar) (k1 * 19926 + (19926 + (99642 - (2 + 5 * 19926) + 0))) (k1 * 119558 + (119558 + (597862 - (12 + 5 * 119558) + 0))) 7 [some (.ref (kE 70)), some (.ref (z + 0)), some (.int (nI n)), some (.int (nI j1)), none, none, none, none] [] := by
    intro k1
    induction k1 with
    | zero =>
      intro j1 hj1
      have hjn1 : j1 = 4 := by omega
      refine pw_cr (c2 := (19926 - (0) + (99642 - (2 + 5 * 19926) + 0))) (s2 := (119558 - (0) + (597862 - (12 + 5 * 119558) + 0))) (by omega) (by omega) ?_
      refine pw_l (fun _ _ _ _ k => pm_iload_n B9 dL_quotas_7 rfl k) ?_
      refine pw_l (fun _ _ _ _ k => pm_iconst (v := 4) B9 dL_quotas_8 (by decide) k) ?_
      refine pw_l (fun _ _ _ _ k => pm_icmp_ge (tgt := 139) B9 dL_quotas_9 (by decide) (fun _ => k) (fun h => absurd ((by rw [show 4 = nI 4 from rfl, show (nI j1) = nI j1 from rfl]; exact (nI_leI (by omega) (by omega)).mpr (by omega))) h)) ?_
      refine pw_l (fun _ _ _ _ k => pm_wk (L' := [none, some (.ref (z + 0)), some (.int (nI n)), none, none, none, none, none]) ⟨rfl, ⟨rfl, trivial⟩⟩ k) ?_
      exact pw_cr (by omega) (by omega) hx1
    | succ k1 ih1 =>
      intro j1 hj1
      have hjn1 : j1 < 4 := by omega
      refine pw_cr (c2 := (19926 - (0) + (k1 * 19926 + (19926 + (99642 - (2 + 5 * 19926) + 0))))) (s2 := (119558 - (0) + (k1 * 119558 + (119558 + (597862 - (12 + 5 * 119558) + 0))))) (by rw [Nat.succ_mul]; omega) (by rw [Nat.succ_mul]; omega) ?_
      refine pw_l (fun _ _ _ _ k => pm_iload_n B9 dL_quotas_7 rfl k) ?_
      refine pw_l (fun _ _ _ _ k => pm_iconst (v := 4) B9 dL_quotas_8 (by decide) k) ?_
      refine pw_l (fun _ _ _ _ k => pm_icmp_ge (tgt := 139) B9 dL_quotas_9 (by decide) (fun h => absurd h ((by rw [show 4 = nI 4 from rfl, show (nI j1) = nI j1 from rfl]; exact fun e => absurd ((nI_leI (by omega) (by omega)).mp e) (by omega)))) (fun _ => k)) ?_
      refine pw_l (fun _ _ _ _ k => pm_iload_n B9 dL_quotas_12 rfl k) ?_
      suffices hj8 : pw_J l z D X 99642 597862 (pm_Q z D (pw_P (some (.int 1)) (pw_W z kA kE (B, r, hs, u) ar)) 99642 597862 X) (pw_W z kA kE (B, r, hs, u) ar) (19926 - (0) + (k1 * 19926 + (19926 + (99642 - (2 + 5 * 19926) + 0)))) (119558 - (0) + (k1 * 119558 + (119558 + (597862 - (12 + 5 * 119558) + 0)))) 45 [some (.ref (kE 70)), some (.ref (z + 0)), some (.int (nI n)), some (.int (nI j1)), none, none, none, none] [.int ((if (nI j1) = 0 then 300 else (if (nI j1) = 1 then 1 else ((pm_ush (pw_ce kE (28 + j1)) 1) - (pm_ush (pw_ce kE (28 + j1)) 1) / 301 * 301))) : Int32)] by
        refine pw_l2 (fun _ _ _ _ k1 k2 => pm_if_ne (tgt := 22) B9 dL_quotas_13 (by decide) k1 k2) (fun hq9 => ?_) (fun hq9 => ?_)
        · refine pw_l (fun _ _ _ _ k => pm_iload_n B9 dL_quotas_22 rfl k) ?_
          refine pw_l (fun _ _ _ _ k => pm_iconst (v := 1) B9 dL_quotas_23 (by decide) k) ?_
          refine pw_l2 (fun _ _ _ _ k1 k2 => pm_icmp_ne (tgt := 31) B9 dL_quotas_24 (by decide) k1 k2) (fun hq10 => ?_) (fun hq10 => ?_)
          · refine pw_l (fun _ _ _ _ k => pm_aload_n B9 dL_quotas_31 rfl k) ?_
            refine pw_l (fun _ _ _ _ k => pm_bipush (v := 28) B9 dL_quotas_32 (by decide) k) ?_
            refine pw_l (fun _ _ _ _ k => pm_iload_n B9 dL_quotas_34 rfl k) ?_
            refine pw_l (fun _ _ _ _ k => pm_iadd B9 dL_quotas_35 k) ?_
            refine pw_l (fun _ _ _ _ k => pm_stk (st' := [.int (nI (28 + j1)), .ref (kE 70)]) (by rw [show (28 + (nI j1)) = (nI (28 + j1)) from (by rw [show 28 = nI 28 from rfl, show (nI j1) = nI j1 from rfl, nI_add])]) k) ?_
            refine pw_cS (As := [.ref (kE 70), .int (nI (28 + j1))]) (c2 := (19926 - (0) + (k1 * 19926 + (19926 + (99642 - (2 + 5 * 19926) + 0))))) (s2 := (119558 - (0) + (k1 * 119558 + (119558 + (597862 - (12 + 5 * 119558) + 0))))) B9 (c_L_cell (k := 28 + j1) (by omega)) mt_L_cell ss_L_150 dL_quotas_36 rfl rfl rfl (by omega) (by omega) ?_
            refine pw_l (fun _ _ _ _ k => pm_stk (st' := [.int (pw_ce kE (28 + j1))]) rfl k) ?_
            refine pw_l (fun _ _ _ _ k => pm_iconst (v := 1) B9 dL_quotas_39 (by decide) k) ?_
            refine pw_l (fun _ _ _ _ k => pm_iushr B9 dL_quotas_40 k) ?_
            refine pw_l (fun _ _ _ _ k => pm_sipush (v := 301) B9 dL_quotas_41 (by decide) k) ?_
            refine pw_l (fun _ _ _ _ k => pm_irem B9 dL_quotas_44 (by first | decide | assumption) k) ?_
            exact pw_cr (by omega) (by omega) (pw_eq (by first | with_reducible rfl | ((try rw [if_neg hq9]); (try rw [if_neg hq10]); done) | simp only [if_neg hq9, if_neg hq10]) (by first | with_reducible rfl | ((try rw [if_neg hq9]); (try rw [if_neg hq10]); done) | simp only [if_neg hq9, if_neg hq10]) (by first | with_reducible rfl | ((try rw [if_neg hq9]); (try rw [if_neg hq10]); done) | simp only [if_neg hq9, if_neg hq10]) hj8)
          · refine pw_l (fun _ _ _ _ k => pm_iconst (v := 1) B9 dL_quotas_27 (by decide) k) ?_
            refine pw_l (fun _ _ _ _ k => pm_goto (tgt := 45) B9 dL_quotas_28 (by decide) k) ?_
            exact pw_cr (by omega) (by omega) (pw_eq (by first | with_reducible rfl | ((try rw [if_neg hq9]); (try rw [if_pos hq10]); done) | simp only [if_neg hq9, if_pos hq10]) (by first | with_reducible rfl | ((try rw [if_neg hq9]); (try rw [if_pos hq10]); done) | simp only [if_neg hq9, if_pos hq10]) (by first | with_reducible rfl | ((try rw [if_neg hq9]); (try rw [if_pos hq10]); done) | simp only [if_neg hq9, if_pos hq10]) hj8)
        · refine pw_l (fun _ _ _ _ k => pm_sipush (v := 300) B9 dL_quotas_16 (by decide) k) ?_
          refine pw_l (fun _ _ _ _ k => pm_goto (tgt := 45) B9 dL_quotas_19 (by decide) k) ?_
          exact pw_cr (by omega) (by omega) (pw_eq (by first | with_reducible rfl | ((try rw [if_pos hq9]); done) | simp only [if_pos hq9]) (by first | with_reducible rfl | ((try rw [if_pos hq9]); done) | simp only [if_pos hq9]) (by first | with_reducible rfl | ((try rw [if_pos hq9]); done) | simp only [if_pos hq9]) hj8)
      obtain ⟨T, hT, eT⟩ : ∃ T, T ≤ 300 ∧ ((if (nI j1) = 0 then 300 else (if (nI j1) = 1 then 1 else ((pm_ush (pw_ce kE (28 + j1)) 1) - (pm_ush (pw_ce kE (28 + j1)) 1) / 301 * 301))) : Int32) = nI T := pw_qt _ _ _
      refine pw_l (fun _ _ _ _ k => pm_stk (st' := [.int (nI T)]) (congrArg (fun yy : Int32 => ([.int yy] : List Value)) (show ((if (nI j1) = 0 then 300 else (if (nI j1) = 1 then 1 else ((pm_ush (pw_ce kE (28 + j1)) 1) - (pm_ush (pw_ce kE (28 + j1)) 1) / 301 * 301))) : Int32) = (nI T) from eT)) k) ?_
      refine pw_l (fun _ _ _ _ k => pm_istore B9 dL_quotas_45 rfl rfl k) ?_
      refine pw_l (fun _ _ _ _ k => pm_loc (L' := [some (.ref (kE 70)), some (.ref (z + 0)), some (.int (nI n)), some (.int (nI j1)), some (.int (nI T)), none, none, none]) rfl k) ?_
      refine pw_l (fun _ _ _ _ k => pm_aload_n B9 dL_quotas_47 rfl k) ?_
      refine pw_l (fun _ _ _ _ k => pm_iload B9 dL_quotas_48 rfl k) ?_
      refine pw_cSx (As := [.ref (z + 0), .int (nI T)]) (c2 := (19926 - (19443) + (k1 * 19926 + (19926 + (99642 - (2 + 5 * 19926) + 0))))) (s2 := (119558 - (116659) + (k1 * 119558 + (119558 + (597862 - (12 + 5 * 119558) + 0))))) B9 (c_L_byRemainders hI h0 hT) mt_L_byRemainders ss_L_257 dL_quotas_50 rfl rfl rfl (by omega) (by omega) (fun p9 => ?_)
      refine pw_and fun hp9 => ?_
      refine pw_l (fun _ _ _ _ k => pm_stk (st' := [.ref (z + p9.1)]) rfl k) ?_
      refine pw_l (fun _ _ _ _ k => pm_astore B9 dL_quotas_53 rfl rfl k) ?_
      refine pw_l (fun _ _ _ _ k => pm_loc (L' := [some (.ref (kE 70)), some (.ref (z + 0)), some (.int (nI n)), some (.int (nI j1)), some (.int (nI T)), some (.ref (z + p9.1)), none, none]) rfl k) ?_
      refine pw_l (fun _ _ _ _ k => pm_bipush (v := 7) B9 dL_quotas_55 (by decide) k) ?_
      refine pw_newi (c2 := (19926 - (19444) + (k1 * 19926 + (19926 + (99642 - (2 + 5 * 19926) + 0))))) (s2 := (119558 - (116666) + (k1 * 119558 + (119558 + (597862 - (12 + 5 * 119558) + 0))))) (N := 7) B9 dL_quotas_57 rfl rfl (by omega) (by omega) (fun w11 hw11 => ?_)
      refine pw_l (fun _ _ _ _ k => pm_astore B9 dL_quotas_59 rfl rfl k) ?_
      refine pw_l (fun _ _ _ _ k => pm_loc (L' := [some (.ref (kE 70)), some (.ref (z + 0)), some (.int (nI n)), some (.int (nI j1)), some (.int (nI T)), some (.ref (z + p9.1)), some (.ref (z + w11)), none]) rfl k) ?_
      refine pw_l (fun _ _ _ _ k => pm_iconst (v := 0) B9 dL_quotas_61 (by decide) k) ?_
      refine pw_l (fun _ _ _ _ k => pm_istore B9 dL_quotas_62 rfl rfl k) ?_
      refine pw_l (fun _ _ _ _ k => pm_loc (L' := [some (.ref (kE 70)), some (.ref (z + 0)), some (.int (nI n)), some (.int (nI j1)), some (.int (nI T)), some (.ref (z + p9.1)), some (.ref (z + w11)), some (.int 0)]) rfl k) ?_
      refine pw_l (fun _ _ _ _ k => pm_loc (L' := [some (.ref (kE 70)), some (.ref (z + 0)), some (.int (nI n)), some (.int (nI j1)), some (.int (nI T)), some (.ref (z + p9.1)), some (.ref (z + w11)), some (.int (nI 0))]) (congrArg (fun yy : Int32 => ([some (.ref (kE 70)), some (.ref (z + 0)), some (.int (nI n)), some (.int (nI j1)), some (.int (nI T)), some (.ref (z + p9.1)), some (.ref (z + w11)), some (.int yy)] : List (Option Value))) rfl) k) ?_
      have hx2 : pw_J l z D X 99642 597862 (pm_Q z D (pw_P (some (.int 1)) (pw_W z kA kE (B, r, hs, u) ar)) 99642 597862 X) (pw_W z kA kE (B, r, hs, u) ((w11, .inl (kA 0, 7, .inl (w_L_quotas_2 n r T (fun _ => 0) n))) :: (p9.1, .inl (kA 0, 7, .inl p9.2)) :: ar)) (19926 - (19444 + 8 * 6) + (k1 * 19926 + (19926 + (99642 - (2 + 5 * 19926) + 0)))) (119558 - (116666 + 8 * 36) + (k1 * 119558 + (119558 + (597862 - (12 + 5 * 119558) + 0)))) 120 [some (.ref (kE 70)), some (.ref (z + 0)), some (.int (nI n)), some (.int (nI j1)), some (.int (nI T)), none, some (.ref (z + w11)), none] [] := by
        refine pw_l (fun _ _ _ _ k => pm_aload_n B9 dL_quotas_120 rfl k) ?_
        refine pw_l (fun _ _ _ _ k => pm_iload B9 dL_quotas_121 rfl k) ?_
        refine pw_l (fun _ _ _ _ k => pm_aload B9 dL_quotas_123 rfl k) ?_
        refine pw_cS (As := [.ref (z + 0), .int (nI T), .ref (z + w11)]) (c2 := (19926 - (19878 + 8 * 6) + (k1 * 19926 + (19926 + (99642 - (2 + 5 * 19926) + 0))))) (s2 := (119558 - (119270 + 8 * 36) + (k1 * 119558 + (119558 + (597862 - (12 + 5 * 119558) + 0))))) B9 (c_L_areByQuotients (a := w11) (q := (w_L_quotas_2 n r T (fun _ => 0) n)) (x := (nI T)) hI) mt_L_areByQuotients ss_L_264 dL_quotas_125 rfl rfl rfl (by omega) (by omega) ?_
        refine pw_l (fun _ _ _ _ k => pm_stk (st' := [.int (v_L_areByQuotients n r (nI T) (w_L_quotas_2 n r T (fun _ => 0) n))]) rfl k) ?_
        refine pw_l (fun _ _ _ _ k => pm_if_ne (tgt := 133) B9 dL_quotas_128 (by decide) (fun _ => k) (fun h => absurd h ((pw_arq hI hT)))) ?_
        refine pw_l (fun _ _ _ _ k => pm_wk (L' := [some (.ref (kE 70)), some (.ref (z + 0)), some (.int (nI n)), some (.int (nI j1)), none, none, none, none]) ⟨rfl, ⟨rfl, ⟨rfl, ⟨rfl, trivial⟩⟩⟩⟩ k) ?_
        refine pw_wk (W' := (pw_W z kA kE (B, r, hs, u) ar)) (fun _ _ hW => pw_drop hW ((List.sublist_cons_self _ _).trans (List.sublist_cons_self _ _))) ?_
        refine pw_l (fun _ _ _ _ k => pm_iinc B9 dL_quotas_133 rfl rfl rfl k) ?_
        refine pw_l (fun _ _ _ _ k => pm_loc (L' := [some (.ref (kE 70)), some (.ref (z + 0)), some (.int (nI n)), some (.int (nI (j1 + 1))), none, none, none, none]) (by rw [show ((nI j1) : Int32) + Int32.ofInt 1 = (nI (j1 + 1)) from nI_1 _]; rfl) k) ?_
        refine pw_l (fun _ _ _ _ k => pm_goto (tgt := 7) B9 dL_quotas_136 (by decide) k) ?_
        exact pw_cr (by omega) (by omega) (ih1 (j1 + 1) (by omega))
      have loop2 : ∀ k2 j2 : Nat, j2 + k2 = n → ∀ (q0_2 : (Nat → Int32)), q0_2 = (w_L_quotas_2 n r T (fun _ => 0) j2) → pw_J l z D X 99642 597862 (pm_Q z D (pw_P (some (.int 1)) (pw_W z kA kE (B, r, hs, u) ar)) 99642 597862 X) (pw_W z kA kE (B, r, hs, u) ((w11, .inl (kA 0, 7, .inl q0_2)) :: (p9.1, .inl (kA 0, 7, .inl p9.2)) :: ar)) (k2 * 6 + (6 + (19926 - (19444 + 8 * 6) + (k1 * 19926 + (19926 + (99642 - (2 + 5 * 19926) + 0)))))) (k2 * 36 + (36 + (119558 - (116666 + 8 * 36) + (k1 * 119558 + (119558 + (597862 - (12 + 5 * 119558) + 0)))))) 64 [some (.ref (kE 70)), some (.ref (z + 0)), some (.int (nI n)), some (.int (nI j1)), some (.int (nI T)), some (.ref (z + p9.1)), some (.ref (z + w11)), some (.int (nI j2))] [] := by
        intro k2
        induction k2 with
        | zero =>
          intro j2 hj2 q0_2 eq0_2
          have hjn2 : j2 = n := by omega
          refine pw_cr (c2 := (6 - (0) + (19926 - (19444 + 8 * 6) + (k1 * 19926 + (19926 + (99642 - (2 + 5 * 19926) + 0)))))) (s2 := (36 - (0) + (119558 - (116666 + 8 * 36) + (k1 * 119558 + (119558 + (597862 - (12 + 5 * 119558) + 0)))))) (by omega) (by omega) ?_
          refine pw_l (fun _ _ _ _ k => pm_iload B9 dL_quotas_64 rfl k) ?_
          refine pw_l (fun _ _ _ _ k => pm_iload_n B9 dL_quotas_66 rfl k) ?_
          refine pw_l (fun _ _ _ _ k => pm_icmp_ge (tgt := 120) B9 dL_quotas_67 (by decide) (fun _ => k) (fun h => absurd ((by rw [show (nI n) = nI n from rfl, show (nI j2) = nI j2 from rfl]; exact (nI_leI (by omega) (by omega)).mpr (by omega))) h)) ?_
          refine pw_l (fun _ _ _ _ k => pm_wk (L' := [some (.ref (kE 70)), some (.ref (z + 0)), some (.int (nI n)), some (.int (nI j1)), some (.int (nI T)), none, some (.ref (z + w11)), none]) ⟨rfl, ⟨rfl, ⟨rfl, ⟨rfl, ⟨rfl, ⟨rfl, trivial⟩⟩⟩⟩⟩⟩ k) ?_
          exact pw_cr (by omega) (by omega) (pw_eq (by first | with_reducible rfl | simp only [eq0_2, hjn2]) (by first | with_reducible rfl | simp only [eq0_2, hjn2]) rfl hx2)
        | succ k2 ih2 =>
          intro j2 hj2 q0_2 eq0_2
          have hjn2 : j2 < n := by omega
          refine pw_cr (c2 := (6 - (0) + (k2 * 6 + (6 + (19926 - (19444 + 8 * 6) + (k1 * 19926 + (19926 + (99642 - (2 + 5 * 19926) + 0)))))))) (s2 := (36 - (0) + (k2 * 36 + (36 + (119558 - (116666 + 8 * 36) + (k1 * 119558 + (119558 + (597862 - (12 + 5 * 119558) + 0)))))))) (by rw [Nat.succ_mul]; omega) (by rw [Nat.succ_mul]; omega) ?_
          refine pw_l (fun _ _ _ _ k => pm_iload B9 dL_quotas_64 rfl k) ?_
          refine pw_l (fun _ _ _ _ k => pm_iload_n B9 dL_quotas_66 rfl k) ?_
          refine pw_l (fun _ _ _ _ k => pm_icmp_ge (tgt := 120) B9 dL_quotas_67 (by decide) (fun h => absurd h ((by rw [show (nI n) = nI n from rfl, show (nI j2) = nI j2 from rfl]; exact fun e => absurd ((nI_leI (by omega) (by omega)).mp e) (by omega)))) (fun _ => k)) ?_
          refine pw_l (fun _ _ _ _ k => pm_aload B9 dL_quotas_70 rfl k) ?_
          refine pw_l (fun _ _ _ _ k => pm_iload B9 dL_quotas_72 rfl k) ?_
          refine pw_l (fun _ _ _ _ k => pm_aload_n B9 dL_quotas_74 rfl k) ?_
          refine pw_l (fun _ _ _ _ k => pm_iload B9 dL_quotas_75 rfl k) ?_
          refine pw_l (fun _ _ _ _ k => pm_iload B9 dL_quotas_77 rfl k) ?_
          refine pw_l (fun _ _ _ _ k => pm_iconst (v := 1) B9 dL_quotas_79 (by decide) k) ?_
          refine pw_cSW (As := [.ref (z + 0), .int (nI j2), .int (nI T), .int 1]) (c2 := (6 - (2) + (k2 * 6 + (6 + (19926 - (19444 + 8 * 6) + (k1 * 19926 + (19926 + (99642 - (2 + 5 * 19926) + 0)))))))) (s2 := (36 - (12) + (k2 * 36 + (36 + (119558 - (116666 + 8 * 36) + (k1 * 119558 + (119558 + (597862 - (12 + 5 * 119558) + 0)))))))) B9 (pv_as (pv_L_quotaBy_in (i := j2) (by omega) hI.1.2.1 (pw_inT hT) (by decide)) (b_L_quotaBy hI)) mt_L_quotaBy ss_L_261 dL_quotas_80 rfl rfl rfl (by omega) (by omega) ?_
          refine pw_l (fun _ _ _ _ k => pm_stk (st' := [.int (pw_qb n r (nI T) 1 j2), .int (nI j2), .ref (z + w11)]) rfl k) ?_
          refine pw_up (W' := (pw_W z kA kE (B, r, hs, u) ((w11, .inl (kA 0, 7, .inl (upd q0_2 j2 (pw_qb n r (nI T) 1 j2)))) :: (p9.1, .inl (kA 0, 7, .inl p9.2)) :: ar))) (fun _ _ _ _ hW k => pm_iast_n B9 dL_quotas_83 (pw_at hW 0 rfl) j2 (by first | assumption | omega) (by decide) (k _ (pw_set0 hW))) ?_
          refine pw_l (fun _ _ _ _ k => pm_aload_n B9 dL_quotas_84 rfl k) ?_
          refine pw_l (fun _ _ _ _ k => pm_iload B9 dL_quotas_85 rfl k) ?_
          refine pw_l (fun _ _ _ _ k => pm_iload B9 dL_quotas_87 rfl k) ?_
          refine pw_l (fun _ _ _ _ k => pm_iconst (v := 0) B9 dL_quotas_89 (by decide) k) ?_
          refine pw_cSW (As := [.ref (z + 0), .int (nI j2), .int (nI T), .int 0]) (c2 := (6 - (4) + (k2 * 6 + (6 + (19926 - (19444 + 8 * 6) + (k1 * 19926 + (19926 + (99642 - (2 + 5 * 19926) + 0)))))))) (s2 := (36 - (24) + (k2 * 36 + (36 + (119558 - (116666 + 8 * 36) + (k1 * 119558 + (119558 + (597862 - (12 + 5 * 119558) + 0)))))))) B9 (pv_as (pv_L_quotaBy_in (i := j2) (by omega) hI.1.2.1 (pw_inT hT) (by decide)) (b_L_quotaBy hI)) mt_L_quotaBy ss_L_261 dL_quotas_90 rfl rfl rfl (by omega) (by omega) ?_
          refine pw_l (fun _ _ _ _ k => pm_stk (st' := [.int (pw_qb n r (nI T) 0 j2)]) rfl k) ?_
          refine pw_l (fun _ _ _ _ k => pm_aload B9 dL_quotas_93 rfl k) ?_
          refine pw_l (fun _ _ _ _ k => pm_iload B9 dL_quotas_95 rfl k) ?_
          refine pw_lw (fun _ _ _ _ hW k => pm_iald_n B9 dL_quotas_97 (pw_at hW 1 rfl) j2 (by first | assumption | omega) (by decide) k) ?_
          refine pw_l (fun _ _ _ _ k => pm_icmp_ne (tgt := 112) B9 dL_quotas_98 (by decide) (fun h => absurd (((hp9 _ (by omega)).symm)) h) (fun _ => k)) ?_
          refine pw_l (fun _ _ _ _ k => pm_aload_n B9 dL_quotas_101 rfl k) ?_
          refine pw_l (fun _ _ _ _ k => pm_iload B9 dL_quotas_102 rfl k) ?_
          refine pw_l (fun _ _ _ _ k => pm_iconst (v := 0) B9 dL_quotas_104 (by decide) k) ?_
          refine pw_l (fun _ _ _ _ k => pm_iconst (v := 1) B9 dL_quotas_105 (by decide) k) ?_
          refine pw_cSW (As := [.ref (z + 0), .int (nI j2), .int 0, .int 1]) (c2 := (6 - (6) + (k2 * 6 + (6 + (19926 - (19444 + 8 * 6) + (k1 * 19926 + (19926 + (99642 - (2 + 5 * 19926) + 0)))))))) (s2 := (36 - (36) + (k2 * 36 + (36 + (119558 - (116666 + 8 * 36) + (k1 * 119558 + (119558 + (597862 - (12 + 5 * 119558) + 0)))))))) B9 (pv_as (pv_L_quotaBy_in (i := j2) (by omega) hI.1.2.1 (by decide) (by decide)) (b_L_quotaBy hI)) mt_L_quotaBy ss_L_261 dL_quotas_106 rfl rfl rfl (by omega) (by omega) ?_
          refine pw_l (fun _ _ _ _ k => pm_stk (st' := [.int (pw_qb n r 0 1 j2)]) rfl k) ?_
          refine pw_l (fun _ _ _ _ k => pm_if_eq (tgt := 114) B9 dL_quotas_109 (by decide) (fun _ => k) (fun h => absurd ((pw_qbz hI (by omega))) h)) ?_
          refine pw_l (fun _ _ _ _ k => pm_iinc B9 dL_quotas_114 rfl rfl rfl k) ?_
          refine pw_l (fun _ _ _ _ k => pm_loc (L' := [some (.ref (kE 70)), some (.ref (z + 0)), some (.int (nI n)), some (.int (nI j1)), some (.int (nI T)), some (.ref (z + p9.1)), some (.ref (z + w11)), some (.int (nI (j2 + 1)))]) (by rw [show ((nI j2) : Int32) + Int32.ofInt 1 = (nI (j2 + 1)) from nI_1 _]; rfl) k) ?_
          refine pw_l (fun _ _ _ _ k => pm_goto (tgt := 64) B9 dL_quotas_117 (by decide) k) ?_
          exact pw_cr (by omega) (by omega) (ih2 (j2 + 1) (by omega) _ (by subst eq0_2; first | rfl))
      exact pw_cr (by omega) (by omega) (loop2 n 0 (by omega) _ rfl)
  exact pw_cr (by omega) (by omega) (loop1 4 0 (by omega))
