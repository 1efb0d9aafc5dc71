/-! the face: changes -/
abbrev pm_to (z : Nat) (to : Nat → Int32) (ldv : Value) : va_E := .inr (10, [.ref (z + 1), .ref (z + 2), .ref (z + 17), .ref (z + 28), .ref (z + 39), .ref (z + 129), .ref (z + 131), .ref (z + 133), .ref (z + 138), .int (to 9), .int (to 10), .int (to 11), ldv])
abbrev pm_hx (z o k : Nat) : va_E := if k < 8 then pm_ho z o (k + 1) else pm_ho z ((o + 1) % 8) k
/-- the memory when the History has kept the State at b -/
abbrev pm_M1 (z : Nat) (kA : Nat → ClassId) (M : pm_M) (r : Nat → Int32) (rh : Nat → Nat → Int32) (o k : Nat) : pm_M := pm_up (pm_sw z kA (41 + 11 * ((o + k) % 8)) M (pm_cpr r (rh ((o + k) % 8)))) 39 (pm_hx z o k)
theorem pm_M1_n {z : Nat} {kA : Nat → ClassId} {M : pm_M} {r : Nat → Int32} {rh : Nat → Nat → Int32} {o k x : Nat} (h : x < 39 ∨ 129 ≤ x) : pm_M1 z kA M r rh o k x = M x := (pm_up_n (by omega)).trans (pm_sw_n (by omega))
theorem pm_M1_S {z : Nat} {kA : Nat → ClassId} {M : pm_M} {r r0 : Nat → Int32} {rh : Nat → Nat → Int32} {o k b : Nat} (h : b + 11 ≤ 39) (hS : pm_SA z kA b M r0) : pm_SA z kA b (pm_M1 z kA M r rh o k) r0 := pm_SA_up (by omega) (pm_SA_sw (by omega) hS)
/-- the outcome of a change: D is its refusal -/
def pm_chg (z : Nat) (nx : Nat) (M : pm_M) (D : Int32 × Int32) (v : Int32) (M2 : pm_M) (to : Nat → Int32) : pm_Po :=
  if D.1 = 0 then pm_rt (some (.int v)) nx M2 else if D.1 = -1 then pm_fp 1 none (nx + 1) (pm_up M nx (.inr (6, [.int D.1, .int D.2, .null]))) else if D.1 = -2 then pm_fp 2 none (nx + 1) (pm_up M nx (.inr (6, [.int D.1, .int D.2, .null])))
  else pm_fp 3 none (nx + 1) (pm_up (pm_up M nx (.inr (6, [.int D.1, .int D.2, .null]))) 0 (pm_to z to (.ref (z + nx))))
theorem pm_chg_v {z nx : Nat} {M M2 : pm_M} {D : Int32 × Int32} {v : Int32} {to : Nat → Int32} {w : Option Value} {n' : Nat} {M' : pm_M} (h : pm_chg z nx M D v M2 to (.inl w) n' M') : ∃ k : Int32, w = some (.int k) := by
  unfold pm_chg at h
  split at h
  · obtain ⟨h, -, -⟩ := h; cases h; exact ⟨_, rfl⟩
  · split at h
    · obtain ⟨-, -, h⟩ := h; rcases h with ⟨h, -⟩ | ⟨-, h⟩ <;> cases h
    · split at h
      · obtain ⟨-, -, h⟩ := h; rcases h with ⟨h, -⟩ | ⟨-, h⟩ <;> cases h
      · obtain ⟨-, -, h⟩ := h; rcases h with ⟨h, -⟩ | ⟨-, h⟩ <;> cases h
set_option maxRecDepth 100000 in
set_option maxHeartbeats 4000000 in
theorem c_X12_change_0 {l : Launch} {z : Nat} {D : va_G} {kA : Nat → ClassId} {kE : Nat → Nat} {nx : Nat} {M : pm_M} {c : Nat} {n o k : Nat} {x y : Int32} {r q rm dr to : Nat → Int32} {ldv : Value} {rh : Nat → Nat → Int32} (hc : c < 11) (hS : pm_SA z kA 2 M r) (hto : M 0 = some (pm_to z to ldv)) (hO1 : M 1 = some (.inr (5, [.ref (z + 2), .ref (z + 13), .ref (z + 16)]))) (hn : r 0 = nI n) (h7 : n ≤ 7) (hnx : 140 ≤ nx) (hO13 : M 13 = some (.inr (0, [.ref (z + 14), .ref (z + 15)]))) (hq : M 14 = some (.inl (kA 0, 7, .inl q))) (hrm : M 15 = some (.inl (kA 0, 7, .inl rm))) (hdr : M 16 = some (.inl (kA 0, 7, .inl dr))) (hsd : r 2 = nI (pm_n (r 2))) (hsl : pm_n (r 2) < 1024) (hH : pm_HA z kA M rh) (hho : M 39 = some (pm_ho z o k)) (ho : o < 8) (hk : k ≤ 8) (h0 : (d_X7_ref c x y n r).1 = 0) : pm_C l z D kA kE yX12_change cX12_change 5 (some .int) 20 3 12 [.ref (z + 0), .ref (kE c), .int x, .int y] nx M (pm_rt (some (.int (d_X7_do c x y n r q rm dr).1)) nx (pm_sw z kA 2 (pm_up (pm_up (pm_up (pm_M1 z kA M r rh o k) 14 (.inl (kA 0, 7, .inl (d_X7_do c x y n r q rm dr).2.2.1))) 15 (.inl (kA 0, 7, .inl (d_X7_do c x y n r q rm dr).2.2.2.1))) 16 (.inl (kA 0, 7, .inl (d_X7_do c x y n r q rm dr).2.2.2.2))) (d_X7_do c x y n r q rm dr).2.1)) := by
  refine pm_mk (own := RX12) (nm := "change") mt_X12_change rfl rfl rfl rfl fun X B => ?_
  refine pm_loc (L' := [some (.ref (z + 0)), some (.ref (kE c)), some (.int x), some (.int y), none]) rfl ?_
  refine pm_aload_n B dX12_change_0 rfl ?_
  refine pm_get B dX12_change_1 fl_X12_10 hto rfl ?_
  refine pm_aload_n B dX12_change_4 rfl ?_
  refine pm_iload_n B dX12_change_5 rfl ?_
  refine pm_iload_n B dX12_change_6 rfl ?_
  refine pm_cV (As := [.ref (kE c), .int x, .int y]) (mc2 := 2) (ms2 := 6) B rfl hO1 rfl (pm_C_z h0 (c_X7_ref hc hS hO1 hn h7 hnx)) mt_X7_refusal sv_X12_364 dX12_change_7 rfl rfl rfl rfl rfl ?_
  refine pm_stk (st' := [.null]) rfl ?_
  refine pm_astoreN B dX12_change_10 rfl rfl ?_
  refine pm_loc (L' := [some (.ref (z + 0)), some (.ref (kE c)), some (.int x), some (.int y), some (.null)]) rfl ?_
  refine pm_aloadN B dX12_change_12 rfl ?_
  refine pm_ifnullN (tgt := 75) B dX12_change_14 (by decide) ?_
  refine pm_aload_n B dX12_change_75 rfl ?_
  refine pm_get B dX12_change_76 fl_X12_33 hto rfl ?_
  refine pm_aload_n B dX12_change_79 rfl ?_
  refine pm_get B dX12_change_80 fl_X12_20 hto rfl ?_
  refine pm_cV (As := [.ref (z + 2)]) (mc2 := 0) (ms2 := 0) B rfl hho rfl (c_X4_keep hS (by decide) hH hho ho hk) mt_X4_keep sv_X12_306 dX12_change_83 rfl rfl rfl rfl rfl ?_
  refine pm_stk (st' := []) rfl ?_
  refine pm_aload_n B dX12_change_86 rfl ?_
  refine pm_get B dX12_change_87 fl_X12_10 ((pm_M1_n (by decide)).trans hto) rfl ?_
  refine pm_aload_n B dX12_change_90 rfl ?_
  refine pm_iload_n B dX12_change_91 rfl ?_
  refine pm_iload_n B dX12_change_92 rfl ?_
  refine pm_cV (As := [.ref (kE c), .int x, .int y]) (mc2 := 0) (ms2 := 0) B rfl ((pm_M1_n (by decide)).trans hO1) rfl (c_X7_do hc (pm_M1_S (by decide) hS) ((pm_M1_n (by decide)).trans hq) ((pm_M1_n (by decide)).trans hrm) ((pm_M1_n (by decide)).trans hdr) ((pm_M1_n (by decide)).trans hO1) ((pm_M1_n (by decide)).trans hO13) hn h7 hsd hsl h0) mt_X7_carryOut sv_X12_374 dX12_change_93 rfl rfl rfl rfl rfl ?_
  refine pm_stk (st' := [.int (d_X7_do c x y n r q rm dr).1]) rfl ?_
  exact pm_ireturn B dX12_change_96 rfl (by first | rfl | (apply pm_nz; first | assumption | decide | exact pm_in01 _ _ _ | simp)) ⟨rfl, rfl, rfl⟩ rfl rfl
set_option maxRecDepth 100000 in
set_option maxHeartbeats 4000000 in
theorem c_X12_change_1 {l : Launch} {z : Nat} {D : va_G} {kA : Nat → ClassId} {kE : Nat → Nat} {nx : Nat} {M : pm_M} {c : Nat} {n : Nat} {x y : Int32} {r to : Nat → Int32} {ldv : Value} (hc : c < 11) (hS : pm_SA z kA 2 M r) (hto : M 0 = some (pm_to z to ldv)) (hO1 : M 1 = some (.inr (5, [.ref (z + 2), .ref (z + 13), .ref (z + 16)]))) (hn : r 0 = nI n) (h7 : n ≤ 7) (hnx : 140 ≤ nx)  (hp : ¬ (d_X7_ref c x y n r).1 = 0) (h1 : (d_X7_ref c x y n r).1 = -1) : pm_C l z D kA kE yX12_change cX12_change 5 (some .int) 20 3 12 [.ref (z + 0), .ref (kE c), .int x, .int y] nx M (pm_fp 1 none (nx + 1) (pm_up M nx (.inr (6, [.int (d_X7_ref c x y n r).1, .int (d_X7_ref c x y n r).2, .null])))) := by
  refine pm_mk (own := RX12) (nm := "change") mt_X12_change rfl rfl rfl rfl fun X B => ?_
  refine pm_loc (L' := [some (.ref (z + 0)), some (.ref (kE c)), some (.int x), some (.int y), none]) rfl ?_
  refine pm_aload_n B dX12_change_0 rfl ?_
  refine pm_get B dX12_change_1 fl_X12_10 hto rfl ?_
  refine pm_aload_n B dX12_change_4 rfl ?_
  refine pm_iload_n B dX12_change_5 rfl ?_
  refine pm_iload_n B dX12_change_6 rfl ?_
  refine pm_cV (As := [.ref (kE c), .int x, .int y]) (mc2 := 2) (ms2 := 6) B rfl hO1 rfl (pm_C_p hp (c_X7_ref hc hS hO1 hn h7 hnx)) mt_X7_refusal sv_X12_364 dX12_change_7 rfl rfl rfl rfl rfl ?_
  refine pm_mem (M' := pm_up M nx (.inr (6, [.int (d_X7_ref c x y n r).1, .int (d_X7_ref c x y n r).2, .null]))) rfl ?_
  refine pm_stk (st' := [.ref (z + nx)]) rfl ?_
  refine pm_astore B dX12_change_10 rfl rfl ?_
  refine pm_loc (L' := [some (.ref (z + 0)), some (.ref (kE c)), some (.int x), some (.int y), some (.ref (z + nx))]) rfl ?_
  refine pm_aload B dX12_change_12 rfl ?_
  refine pm_ifnull B dX12_change_14 ?_
  refine pm_aload B dX12_change_17 rfl ?_
  refine pm_get B dX12_change_19 fl_X12_337 pm_up_s rfl ?_
  refine pm_iconst (v := (-1)) B dX12_change_22 (by decide) ?_
  refine pm_icmp_ne (tgt := 37) B dX12_change_23 (by decide) (fun hq1 => absurd (h1) hq1) (fun hq1 => ?_)
  exact pm_throwW (text := "no such member") B rfl px_IndexOutOfBounds (by decide) dX12_change_26 dX12_change_29 dX12_change_30 dX12_change_33 dX12_change_36 rfl rfl rfl rfl (fun n' hn => ⟨rfl, hn, Or.inr ⟨by decide, rfl⟩⟩)
set_option maxRecDepth 100000 in
set_option maxHeartbeats 4000000 in
theorem c_X12_change_2 {l : Launch} {z : Nat} {D : va_G} {kA : Nat → ClassId} {kE : Nat → Nat} {nx : Nat} {M : pm_M} {c : Nat} {n : Nat} {x y : Int32} {r to : Nat → Int32} {ldv : Value} (hc : c < 11) (hS : pm_SA z kA 2 M r) (hto : M 0 = some (pm_to z to ldv)) (hO1 : M 1 = some (.inr (5, [.ref (z + 2), .ref (z + 13), .ref (z + 16)]))) (hn : r 0 = nI n) (h7 : n ≤ 7) (hnx : 140 ≤ nx)  (hp : ¬ (d_X7_ref c x y n r).1 = 0) (h1 : ¬ (d_X7_ref c x y n r).1 = -1) (h2 : (d_X7_ref c x y n r).1 = -2) : pm_C l z D kA kE yX12_change cX12_change 5 (some .int) 20 3 12 [.ref (z + 0), .ref (kE c), .int x, .int y] nx M (pm_fp 2 none (nx + 1) (pm_up M nx (.inr (6, [.int (d_X7_ref c x y n r).1, .int (d_X7_ref c x y n r).2, .null])))) := by
  refine pm_mk (own := RX12) (nm := "change") mt_X12_change rfl rfl rfl rfl fun X B => ?_
  refine pm_loc (L' := [some (.ref (z + 0)), some (.ref (kE c)), some (.int x), some (.int y), none]) rfl ?_
  refine pm_aload_n B dX12_change_0 rfl ?_
  refine pm_get B dX12_change_1 fl_X12_10 hto rfl ?_
  refine pm_aload_n B dX12_change_4 rfl ?_
  refine pm_iload_n B dX12_change_5 rfl ?_
  refine pm_iload_n B dX12_change_6 rfl ?_
  refine pm_cV (As := [.ref (kE c), .int x, .int y]) (mc2 := 2) (ms2 := 6) B rfl hO1 rfl (pm_C_p hp (c_X7_ref hc hS hO1 hn h7 hnx)) mt_X7_refusal sv_X12_364 dX12_change_7 rfl rfl rfl rfl rfl ?_
  refine pm_mem (M' := pm_up M nx (.inr (6, [.int (d_X7_ref c x y n r).1, .int (d_X7_ref c x y n r).2, .null]))) rfl ?_
  refine pm_stk (st' := [.ref (z + nx)]) rfl ?_
  refine pm_astore B dX12_change_10 rfl rfl ?_
  refine pm_loc (L' := [some (.ref (z + 0)), some (.ref (kE c)), some (.int x), some (.int y), some (.ref (z + nx))]) rfl ?_
  refine pm_aload B dX12_change_12 rfl ?_
  refine pm_ifnull B dX12_change_14 ?_
  refine pm_aload B dX12_change_17 rfl ?_
  refine pm_get B dX12_change_19 fl_X12_337 pm_up_s rfl ?_
  refine pm_iconst (v := (-1)) B dX12_change_22 (by decide) ?_
  refine pm_icmp_ne (tgt := 37) B dX12_change_23 (by decide) (fun hq1 => ?_) (fun hq1 => absurd hq1 (h1))
  refine pm_aload B dX12_change_37 rfl ?_
  refine pm_get B dX12_change_39 fl_X12_337 pm_up_s rfl ?_
  refine pm_bipush (v := (-2)) B dX12_change_42 (by decide) ?_
  refine pm_icmp_ne (tgt := 58) B dX12_change_44 (by decide) (fun hq2 => absurd (h2) hq2) (fun hq2 => ?_)
  exact pm_throwW (text := "a value is out of range") B rfl px_IllegalArgument (by decide) dX12_change_47 dX12_change_50 dX12_change_51 dX12_change_54 dX12_change_57 rfl rfl rfl rfl (fun n' hn => ⟨rfl, hn, Or.inr ⟨by decide, rfl⟩⟩)
set_option maxRecDepth 100000 in
set_option maxHeartbeats 4000000 in
theorem c_X12_change_3 {l : Launch} {z : Nat} {D : va_G} {kA : Nat → ClassId} {kE : Nat → Nat} {nx : Nat} {M : pm_M} {c : Nat} {n : Nat} {x y : Int32} {r to : Nat → Int32} {ldv : Value} (hc : c < 11) (hS : pm_SA z kA 2 M r) (hto : M 0 = some (pm_to z to ldv)) (hO1 : M 1 = some (.inr (5, [.ref (z + 2), .ref (z + 13), .ref (z + 16)]))) (hn : r 0 = nI n) (h7 : n ≤ 7) (hnx : 140 ≤ nx)  (hp : ¬ (d_X7_ref c x y n r).1 = 0) (h1 : ¬ (d_X7_ref c x y n r).1 = -1) (h2 : ¬ (d_X7_ref c x y n r).1 = -2) : pm_C l z D kA kE yX12_change cX12_change 5 (some .int) 20 3 12 [.ref (z + 0), .ref (kE c), .int x, .int y] nx M (pm_fp 3 none (nx + 1) (pm_up (pm_up M nx (.inr (6, [.int (d_X7_ref c x y n r).1, .int (d_X7_ref c x y n r).2, .null]))) 0 (pm_to z to (.ref (z + nx))))) := by
  refine pm_mk (own := RX12) (nm := "change") mt_X12_change rfl rfl rfl rfl fun X B => ?_
  refine pm_loc (L' := [some (.ref (z + 0)), some (.ref (kE c)), some (.int x), some (.int y), none]) rfl ?_
  refine pm_aload_n B dX12_change_0 rfl ?_
  refine pm_get B dX12_change_1 fl_X12_10 hto rfl ?_
  refine pm_aload_n B dX12_change_4 rfl ?_
  refine pm_iload_n B dX12_change_5 rfl ?_
  refine pm_iload_n B dX12_change_6 rfl ?_
  refine pm_cV (As := [.ref (kE c), .int x, .int y]) (mc2 := 2) (ms2 := 6) B rfl hO1 rfl (pm_C_p hp (c_X7_ref hc hS hO1 hn h7 hnx)) mt_X7_refusal sv_X12_364 dX12_change_7 rfl rfl rfl rfl rfl ?_
  refine pm_mem (M' := pm_up M nx (.inr (6, [.int (d_X7_ref c x y n r).1, .int (d_X7_ref c x y n r).2, .null]))) rfl ?_
  refine pm_stk (st' := [.ref (z + nx)]) rfl ?_
  refine pm_astore B dX12_change_10 rfl rfl ?_
  refine pm_loc (L' := [some (.ref (z + 0)), some (.ref (kE c)), some (.int x), some (.int y), some (.ref (z + nx))]) rfl ?_
  refine pm_aload B dX12_change_12 rfl ?_
  refine pm_ifnull B dX12_change_14 ?_
  refine pm_aload B dX12_change_17 rfl ?_
  refine pm_get B dX12_change_19 fl_X12_337 pm_up_s rfl ?_
  refine pm_iconst (v := (-1)) B dX12_change_22 (by decide) ?_
  refine pm_icmp_ne (tgt := 37) B dX12_change_23 (by decide) (fun hq1 => ?_) (fun hq1 => absurd hq1 (h1))
  refine pm_aload B dX12_change_37 rfl ?_
  refine pm_get B dX12_change_39 fl_X12_337 pm_up_s rfl ?_
  refine pm_bipush (v := (-2)) B dX12_change_42 (by decide) ?_
  refine pm_icmp_ne (tgt := 58) B dX12_change_44 (by decide) (fun hq2 => ?_) (fun hq2 => absurd hq2 (h2))
  refine pm_aload_n B dX12_change_58 rfl ?_
  refine pm_aload B dX12_change_59 rfl ?_
  refine pm_put B dX12_change_61 fs_X12_297 ((pm_up_n (by omega)).trans hto) rfl rfl rfl ?_
  refine pm_mem (M' := pm_up (pm_up M nx (.inr (6, [.int (d_X7_ref c x y n r).1, .int (d_X7_ref c x y n r).2, .null]))) 0 (.inr (10, [.ref (z + 1), .ref (z + 2), .ref (z + 17), .ref (z + 28), .ref (z + 39), .ref (z + 129), .ref (z + 131), .ref (z + 133), .ref (z + 138), .int (to 9), .int (to 10), .int (to 11), .ref (z + nx)]))) rfl ?_
  exact pm_throwW (text := "denied") B rfl px_UnsupportedOperation (by decide) dX12_change_64 dX12_change_67 dX12_change_68 dX12_change_71 dX12_change_74 rfl rfl rfl rfl (fun n' hn => ⟨rfl, hn, Or.inr ⟨by decide, rfl⟩⟩)
theorem c_X12_change {l : Launch} {z : Nat} {D : va_G} {kA : Nat → ClassId} {kE : Nat → Nat} {nx : Nat} {M : pm_M} {c : Nat} {n o k : Nat} {x y : Int32} {r q rm dr to : Nat → Int32} {ldv : Value} {rh : Nat → Nat → Int32} (hc : c < 11) (hS : pm_SA z kA 2 M r) (hto : M 0 = some (pm_to z to ldv)) (hO1 : M 1 = some (.inr (5, [.ref (z + 2), .ref (z + 13), .ref (z + 16)]))) (hn : r 0 = nI n) (h7 : n ≤ 7) (hnx : 140 ≤ nx) (hO13 : M 13 = some (.inr (0, [.ref (z + 14), .ref (z + 15)]))) (hq : M 14 = some (.inl (kA 0, 7, .inl q))) (hrm : M 15 = some (.inl (kA 0, 7, .inl rm))) (hdr : M 16 = some (.inl (kA 0, 7, .inl dr))) (hsd : r 2 = nI (pm_n (r 2))) (hsl : pm_n (r 2) < 1024) (hH : pm_HA z kA M rh) (hho : M 39 = some (pm_ho z o k)) (ho : o < 8) (hk : k ≤ 8) : pm_C l z D kA kE yX12_change cX12_change 5 (some .int) 20 3 12 [.ref (z + 0), .ref (kE c), .int x, .int y] nx M (pm_chg z nx M (d_X7_ref c x y n r) (d_X7_do c x y n r q rm dr).1 (pm_sw z kA 2 (pm_up (pm_up (pm_up (pm_M1 z kA M r rh o k) 14 (.inl (kA 0, 7, .inl (d_X7_do c x y n r q rm dr).2.2.1))) 15 (.inl (kA 0, 7, .inl (d_X7_do c x y n r q rm dr).2.2.2.1))) 16 (.inl (kA 0, 7, .inl (d_X7_do c x y n r q rm dr).2.2.2.2))) (d_X7_do c x y n r q rm dr).2.1) to) := by
  unfold pm_chg
  split
  · exact c_X12_change_0 hc hS hto hO1 hn h7 hnx hO13 hq hrm hdr hsd hsl hH hho ho hk (by assumption)
  · split
    · exact c_X12_change_1 hc hS hto hO1 hn h7 hnx (by assumption) (by assumption)
    · split
      · exact c_X12_change_2 hc hS hto hO1 hn h7 hnx (by assumption) (by assumption) (by assumption)
      · exact c_X12_change_3 hc hS hto hO1 hn h7 hnx (by assumption) (by assumption) (by assumption)
theorem c_X12_addMember {l : Launch} {z : Nat} {D : va_G} {kA : Nat → ClassId} {kE : Nat → Nat} {nx : Nat} {M : pm_M} {x y : Int32} {fs : List Value} {P : pm_Po} (hP : ∀ w n' M', P (.inl w) n' M' → ∃ k : Int32, w = some (.int k)) (hM : M 0 = some (.inr (10, fs))) (hC : pm_C l z D kA kE yX12_change cX12_change 5 (some .int) 20 3 12 [.ref (z + 0), .ref (kE 0), .int x, .int y] nx M P) : pm_C l z D kA kE yX12_addMember cX12_addMember 3 (some .int) 21 3 12 [.ref (z + 0), .int x, .int y] nx M P := by
  refine pm_mk (own := RX12) (nm := "addMember") mt_X12_addMember rfl rfl rfl rfl fun X B => ?_
  refine pm_loc (L' := [some (.ref (z + 0)), some (.int x), some (.int y)]) rfl ?_
  refine pm_aload_n B dX12_addMember_0 rfl ?_
  refine pm_gets B (v := .ref (kE 0)) (fun U H h => (h.1 0 (by decide)).1) (pm_T_in 386 (by decide +kernel) (by decide +kernel)) dX12_addMember_1 ?_
  refine pm_iload_n B dX12_addMember_4 rfl ?_
  refine pm_iload_n B dX12_addMember_5 rfl ?_
  exact pm_callV (As := [.ref (kE 0), .int x, .int y]) (mc2 := 3) (ms2 := 12) B rfl hM rfl hC mt_X12_change sv_X12_71 dX12_addMember_6 rfl rfl rfl rfl rfl (fun E n' M' h => pm_out B rfl h rfl rfl) (fun v n' M' h => by
    obtain ⟨k, rfl⟩ := hP v n' M' h
    exact pm_ireturn B dX12_addMember_9 rfl rfl h rfl rfl)
theorem c_X12_pardon {l : Launch} {z : Nat} {D : va_G} {kA : Nat → ClassId} {kE : Nat → Nat} {nx : Nat} {M : pm_M} {x : Int32} {fs : List Value} {P : pm_Po} (hP : ∀ w n' M', P (.inl w) n' M' → ∃ k : Int32, w = some (.int k)) (hM : M 0 = some (.inr (10, fs))) (hC : pm_C l z D kA kE yX12_change cX12_change 5 (some .int) 20 3 12 [.ref (z + 0), .ref (kE 8), .int x, .int 0] nx M P) : pm_C l z D kA kE yX12_pardon cX12_pardon 2 (some .int) 21 3 12 [.ref (z + 0), .int x] nx M P := by
  refine pm_mk (own := RX12) (nm := "pardon") mt_X12_pardon rfl rfl rfl rfl fun X B => ?_
  refine pm_loc (L' := [some (.ref (z + 0)), some (.int x)]) rfl ?_
  refine pm_aload_n B dX12_pardon_0 rfl ?_
  refine pm_gets B (v := .ref (kE 8)) (fun U H h => (h.1 8 (by decide)).1) (pm_T_in 806 (by decide +kernel) (by decide +kernel)) dX12_pardon_1 ?_
  refine pm_iload_n B dX12_pardon_4 rfl ?_
  refine pm_iconst (v := 0) B dX12_pardon_5 (by decide) ?_
  exact pm_callV (As := [.ref (kE 8), .int x, .int 0]) (mc2 := 3) (ms2 := 12) B rfl hM rfl hC mt_X12_change sv_X12_71 dX12_pardon_6 rfl rfl rfl rfl rfl (fun E n' M' h => pm_out B rfl h rfl rfl) (fun v n' M' h => by
    obtain ⟨k, rfl⟩ := hP v n' M' h
    exact pm_ireturn B dX12_pardon_9 rfl rfl h rfl rfl)
theorem c_X12_setRule {l : Launch} {z : Nat} {D : va_G} {kA : Nat → ClassId} {kE : Nat → Nat} {nx : Nat} {M : pm_M} {x : Int32} {fs : List Value} {P : pm_Po} (hP : ∀ w n' M', P (.inl w) n' M' → ∃ k : Int32, w = some (.int k)) (hM : M 0 = some (.inr (10, fs))) (hC : pm_C l z D kA kE yX12_change cX12_change 5 (some .int) 20 3 12 [.ref (z + 0), .ref (kE 2), .int x, .int 0] nx M P) : pm_C l z D kA kE yX12_setRule cX12_setRule 2 (some .int) 21 3 12 [.ref (z + 0), .int x] nx M P := by
  refine pm_mk (own := RX12) (nm := "setRule") mt_X12_setRule rfl rfl rfl rfl fun X B => ?_
  refine pm_loc (L' := [some (.ref (z + 0)), some (.int x)]) rfl ?_
  refine pm_aload_n B dX12_setRule_0 rfl ?_
  refine pm_gets B (v := .ref (kE 2)) (fun U H h => (h.1 2 (by decide)).1) (pm_T_in 779 (by decide +kernel) (by decide +kernel)) dX12_setRule_1 ?_
  refine pm_iload_n B dX12_setRule_4 rfl ?_
  refine pm_iconst (v := 0) B dX12_setRule_5 (by decide) ?_
  exact pm_callV (As := [.ref (kE 2), .int x, .int 0]) (mc2 := 3) (ms2 := 12) B rfl hM rfl hC mt_X12_change sv_X12_71 dX12_setRule_6 rfl rfl rfl rfl rfl (fun E n' M' h => pm_out B rfl h rfl rfl) (fun v n' M' h => by
    obtain ⟨k, rfl⟩ := hP v n' M' h
    exact pm_ireturn B dX12_setRule_9 rfl rfl h rfl rfl)
theorem c_X12_assign {l : Launch} {z : Nat} {D : va_G} {kA : Nat → ClassId} {kE : Nat → Nat} {nx : Nat} {M : pm_M} {x : Int32} {fs : List Value} {P : pm_Po} (hP : ∀ w n' M', P (.inl w) n' M' → ∃ k : Int32, w = some (.int k)) (hM : M 0 = some (.inr (10, fs))) (hC : pm_C l z D kA kE yX12_change cX12_change 5 (some .int) 20 3 12 [.ref (z + 0), .ref (kE 1), .int x, .int 0] nx M P) : pm_C l z D kA kE yX12_assign cX12_assign 2 (some .int) 21 3 12 [.ref (z + 0), .int x] nx M P := by
  refine pm_mk (own := RX12) (nm := "assign") mt_X12_assign rfl rfl rfl rfl fun X B => ?_
  refine pm_loc (L' := [some (.ref (z + 0)), some (.int x)]) rfl ?_
  refine pm_aload_n B dX12_assign_0 rfl ?_
  refine pm_gets B (v := .ref (kE 1)) (fun U H h => (h.1 1 (by decide)).1) (pm_T_in 755 (by decide +kernel) (by decide +kernel)) dX12_assign_1 ?_
  refine pm_iload_n B dX12_assign_4 rfl ?_
  refine pm_iconst (v := 0) B dX12_assign_5 (by decide) ?_
  exact pm_callV (As := [.ref (kE 1), .int x, .int 0]) (mc2 := 3) (ms2 := 12) B rfl hM rfl hC mt_X12_change sv_X12_71 dX12_assign_6 rfl rfl rfl rfl rfl (fun E n' M' h => pm_out B rfl h rfl rfl) (fun v n' M' h => by
    obtain ⟨k, rfl⟩ := hP v n' M' h
    exact pm_ireturn B dX12_assign_9 rfl rfl h rfl rfl)
theorem c_X12_sell {l : Launch} {z : Nat} {D : va_G} {kA : Nat → ClassId} {kE : Nat → Nat} {nx : Nat} {M : pm_M} {x y : Int32} {fs : List Value} {P : pm_Po} (hP : ∀ w n' M', P (.inl w) n' M' → ∃ k : Int32, w = some (.int k)) (hM : M 0 = some (.inr (10, fs))) (hC : pm_C l z D kA kE yX12_change cX12_change 5 (some .int) 20 3 12 [.ref (z + 0), .ref (kE 3), .int x, .int y] nx M P) : pm_C l z D kA kE yX12_sell cX12_sell 3 (some .int) 21 3 12 [.ref (z + 0), .int x, .int y] nx M P := by
  refine pm_mk (own := RX12) (nm := "sell") mt_X12_sell rfl rfl rfl rfl fun X B => ?_
  refine pm_loc (L' := [some (.ref (z + 0)), some (.int x), some (.int y)]) rfl ?_
  refine pm_aload_n B dX12_sell_0 rfl ?_
  refine pm_gets B (v := .ref (kE 3)) (fun U H h => (h.1 3 (by decide)).1) (pm_T_in 746 (by decide +kernel) (by decide +kernel)) dX12_sell_1 ?_
  refine pm_iload_n B dX12_sell_4 rfl ?_
  refine pm_iload_n B dX12_sell_5 rfl ?_
  exact pm_callV (As := [.ref (kE 3), .int x, .int y]) (mc2 := 3) (ms2 := 12) B rfl hM rfl hC mt_X12_change sv_X12_71 dX12_sell_6 rfl rfl rfl rfl rfl (fun E n' M' h => pm_out B rfl h rfl rfl) (fun v n' M' h => by
    obtain ⟨k, rfl⟩ := hP v n' M' h
    exact pm_ireturn B dX12_sell_9 rfl rfl h rfl rfl)
theorem c_X12_close {l : Launch} {z : Nat} {D : va_G} {kA : Nat → ClassId} {kE : Nat → Nat} {nx : Nat} {M : pm_M}  {fs : List Value} {P : pm_Po} (hP : ∀ w n' M', P (.inl w) n' M' → ∃ k : Int32, w = some (.int k)) (hM : M 0 = some (.inr (10, fs))) (hC : pm_C l z D kA kE yX12_change cX12_change 5 (some .int) 20 3 12 [.ref (z + 0), .ref (kE 5), .int 0, .int 0] nx M P) : pm_C l z D kA kE yX12_close cX12_close 1 (some .int) 21 3 12 [.ref (z + 0)] nx M P := by
  refine pm_mk (own := RX12) (nm := "close") mt_X12_close rfl rfl rfl rfl fun X B => ?_
  refine pm_loc (L' := [some (.ref (z + 0))]) rfl ?_
  refine pm_aload_n B dX12_close_0 rfl ?_
  refine pm_gets B (v := .ref (kE 5)) (fun U H h => (h.1 5 (by decide)).1) (pm_T_in 770 (by decide +kernel) (by decide +kernel)) dX12_close_1 ?_
  refine pm_iconst (v := 0) B dX12_close_4 (by decide) ?_
  refine pm_iconst (v := 0) B dX12_close_5 (by decide) ?_
  exact pm_callV (As := [.ref (kE 5), .int 0, .int 0]) (mc2 := 3) (ms2 := 12) B rfl hM rfl hC mt_X12_change sv_X12_71 dX12_close_6 rfl rfl rfl rfl rfl (fun E n' M' h => pm_out B rfl h rfl rfl) (fun v n' M' h => by
    obtain ⟨k, rfl⟩ := hP v n' M' h
    exact pm_ireturn B dX12_close_9 rfl rfl h rfl rfl)
theorem c_X12_audit {l : Launch} {z : Nat} {D : va_G} {kA : Nat → ClassId} {kE : Nat → Nat} {nx : Nat} {M : pm_M} {x : Int32} {fs : List Value} {P : pm_Po} (hP : ∀ w n' M', P (.inl w) n' M' → ∃ k : Int32, w = some (.int k)) (hM : M 0 = some (.inr (10, fs))) (hC : pm_C l z D kA kE yX12_change cX12_change 5 (some .int) 20 3 12 [.ref (z + 0), .ref (kE 4), .int x, .int 0] nx M P) : pm_C l z D kA kE yX12_audit cX12_audit 2 (some .int) 21 3 12 [.ref (z + 0), .int x] nx M P := by
  refine pm_mk (own := RX12) (nm := "audit") mt_X12_audit rfl rfl rfl rfl fun X B => ?_
  refine pm_loc (L' := [some (.ref (z + 0)), some (.int x)]) rfl ?_
  refine pm_aload_n B dX12_audit_0 rfl ?_
  refine pm_gets B (v := .ref (kE 4)) (fun U H h => (h.1 4 (by decide)).1) (pm_T_in 764 (by decide +kernel) (by decide +kernel)) dX12_audit_1 ?_
  refine pm_iload_n B dX12_audit_4 rfl ?_
  refine pm_iconst (v := 0) B dX12_audit_5 (by decide) ?_
  exact pm_callV (As := [.ref (kE 4), .int x, .int 0]) (mc2 := 3) (ms2 := 12) B rfl hM rfl hC mt_X12_change sv_X12_71 dX12_audit_6 rfl rfl rfl rfl rfl (fun E n' M' h => pm_out B rfl h rfl rfl) (fun v n' M' h => by
    obtain ⟨k, rfl⟩ := hP v n' M' h
    exact pm_ireturn B dX12_audit_9 rfl rfl h rfl rfl)
theorem c_X12_setSeed {l : Launch} {z : Nat} {D : va_G} {kA : Nat → ClassId} {kE : Nat → Nat} {nx : Nat} {M : pm_M} {x : Int32} {fs : List Value} {P : pm_Po} (hP : ∀ w n' M', P (.inl w) n' M' → ∃ k : Int32, w = some (.int k)) (hM : M 0 = some (.inr (10, fs))) (hC : pm_C l z D kA kE yX12_change cX12_change 5 (some .int) 20 3 12 [.ref (z + 0), .ref (kE 10), .int x, .int 0] nx M P) : pm_C l z D kA kE yX12_setSeed cX12_setSeed 2 (some .int) 21 3 12 [.ref (z + 0), .int x] nx M P := by
  refine pm_mk (own := RX12) (nm := "setSeed") mt_X12_setSeed rfl rfl rfl rfl fun X B => ?_
  refine pm_loc (L' := [some (.ref (z + 0)), some (.int x)]) rfl ?_
  refine pm_aload_n B dX12_setSeed_0 rfl ?_
  refine pm_gets B (v := .ref (kE 10)) (fun U H h => (h.1 10 (by decide)).1) (pm_T_in 716 (by decide +kernel) (by decide +kernel)) dX12_setSeed_1 ?_
  refine pm_iload_n B dX12_setSeed_4 rfl ?_
  refine pm_iconst (v := 0) B dX12_setSeed_5 (by decide) ?_
  exact pm_callV (As := [.ref (kE 10), .int x, .int 0]) (mc2 := 3) (ms2 := 12) B rfl hM rfl hC mt_X12_change sv_X12_71 dX12_setSeed_6 rfl rfl rfl rfl rfl (fun E n' M' h => pm_out B rfl h rfl rfl) (fun v n' M' h => by
    obtain ⟨k, rfl⟩ := hP v n' M' h
    exact pm_ireturn B dX12_setSeed_9 rfl rfl h rfl rfl)
theorem c_X12_link {l : Launch} {z : Nat} {D : va_G} {kA : Nat → ClassId} {kE : Nat → Nat} {nx : Nat} {M : pm_M} {x y : Int32} {fs : List Value} {P : pm_Po} (hP : ∀ w n' M', P (.inl w) n' M' → ∃ k : Int32, w = some (.int k)) (hM : M 0 = some (.inr (10, fs))) (hC : pm_C l z D kA kE yX12_change cX12_change 5 (some .int) 20 3 12 [.ref (z + 0), .ref (kE 6), .int x, .int y] nx M P) : pm_C l z D kA kE yX12_link cX12_link 3 (some .int) 21 3 12 [.ref (z + 0), .int x, .int y] nx M P := by
  refine pm_mk (own := RX12) (nm := "link") mt_X12_link rfl rfl rfl rfl fun X B => ?_
  refine pm_loc (L' := [some (.ref (z + 0)), some (.int x), some (.int y)]) rfl ?_
  refine pm_aload_n B dX12_link_0 rfl ?_
  refine pm_gets B (v := .ref (kE 6)) (fun U H h => (h.1 6 (by decide)).1) (pm_T_in 788 (by decide +kernel) (by decide +kernel)) dX12_link_1 ?_
  refine pm_iload_n B dX12_link_4 rfl ?_
  refine pm_iload_n B dX12_link_5 rfl ?_
  exact pm_callV (As := [.ref (kE 6), .int x, .int y]) (mc2 := 3) (ms2 := 12) B rfl hM rfl hC mt_X12_change sv_X12_71 dX12_link_6 rfl rfl rfl rfl rfl (fun E n' M' h => pm_out B rfl h rfl rfl) (fun v n' M' h => by
    obtain ⟨k, rfl⟩ := hP v n' M' h
    exact pm_ireturn B dX12_link_9 rfl rfl h rfl rfl)
theorem c_X12_unlink {l : Launch} {z : Nat} {D : va_G} {kA : Nat → ClassId} {kE : Nat → Nat} {nx : Nat} {M : pm_M} {x y : Int32} {fs : List Value} {P : pm_Po} (hP : ∀ w n' M', P (.inl w) n' M' → ∃ k : Int32, w = some (.int k)) (hM : M 0 = some (.inr (10, fs))) (hC : pm_C l z D kA kE yX12_change cX12_change 5 (some .int) 20 3 12 [.ref (z + 0), .ref (kE 7), .int x, .int y] nx M P) : pm_C l z D kA kE yX12_unlink cX12_unlink 3 (some .int) 21 3 12 [.ref (z + 0), .int x, .int y] nx M P := by
  refine pm_mk (own := RX12) (nm := "unlink") mt_X12_unlink rfl rfl rfl rfl fun X B => ?_
  refine pm_loc (L' := [some (.ref (z + 0)), some (.int x), some (.int y)]) rfl ?_
  refine pm_aload_n B dX12_unlink_0 rfl ?_
  refine pm_gets B (v := .ref (kE 7)) (fun U H h => (h.1 7 (by decide)).1) (pm_T_in 1534 (by decide +kernel) (by decide +kernel)) dX12_unlink_1 ?_
  refine pm_iload_n B dX12_unlink_4 rfl ?_
  refine pm_iload_n B dX12_unlink_5 rfl ?_
  exact pm_callV (As := [.ref (kE 7), .int x, .int y]) (mc2 := 3) (ms2 := 12) B rfl hM rfl hC mt_X12_change sv_X12_71 dX12_unlink_6 rfl rfl rfl rfl rfl (fun E n' M' h => pm_out B rfl h rfl rfl) (fun v n' M' h => by
    obtain ⟨k, rfl⟩ := hP v n' M' h
    exact pm_ireturn B dX12_unlink_9 rfl rfl h rfl rfl)
theorem c_X12_setThreshold {l : Launch} {z : Nat} {D : va_G} {kA : Nat → ClassId} {kE : Nat → Nat} {nx : Nat} {M : pm_M} {x : Int32} {fs : List Value} {P : pm_Po} (hP : ∀ w n' M', P (.inl w) n' M' → ∃ k : Int32, w = some (.int k)) (hM : M 0 = some (.inr (10, fs))) (hC : pm_C l z D kA kE yX12_change cX12_change 5 (some .int) 20 3 12 [.ref (z + 0), .ref (kE 9), .int x, .int 0] nx M P) : pm_C l z D kA kE yX12_setThreshold cX12_setThreshold 2 (some .int) 21 3 12 [.ref (z + 0), .int x] nx M P := by
  refine pm_mk (own := RX12) (nm := "setThreshold") mt_X12_setThreshold rfl rfl rfl rfl fun X B => ?_
  refine pm_loc (L' := [some (.ref (z + 0)), some (.int x)]) rfl ?_
  refine pm_aload_n B dX12_setThreshold_0 rfl ?_
  refine pm_gets B (v := .ref (kE 9)) (fun U H h => (h.1 9 (by decide)).1) (pm_T_in 797 (by decide +kernel) (by decide +kernel)) dX12_setThreshold_1 ?_
  refine pm_iload_n B dX12_setThreshold_4 rfl ?_
  refine pm_iconst (v := 0) B dX12_setThreshold_5 (by decide) ?_
  exact pm_callV (As := [.ref (kE 9), .int x, .int 0]) (mc2 := 3) (ms2 := 12) B rfl hM rfl hC mt_X12_change sv_X12_71 dX12_setThreshold_6 rfl rfl rfl rfl rfl (fun E n' M' h => pm_out B rfl h rfl rfl) (fun v n' M' h => by
    obtain ⟨k, rfl⟩ := hP v n' M' h
    exact pm_ireturn B dX12_setThreshold_9 rfl rfl h rfl rfl)
set_option maxRecDepth 100000 in
set_option maxHeartbeats 4000000 in
theorem c_X12_undo_0 {l : Launch} {z : Nat} {D : va_G} {kA : Nat → ClassId} {kE : Nat → Nat} {nx : Nat} {M : pm_M} {o k : Nat} {to : Nat → Int32} {ldv : Value} (hto : M 0 = some (pm_to z to ldv)) (hho : M 39 = some (pm_ho z o k)) (h0 : k = 0) : pm_C l z D kA kE yX12_undo cX12_undo 1 (some .int) 20 3 12 [.ref (z + 0)] nx M (pm_fp 5 none nx M) := by
  refine pm_mk (own := RX12) (nm := "undo") mt_X12_undo rfl rfl rfl rfl fun X B => ?_
  refine pm_loc (L' := [some (.ref (z + 0))]) rfl ?_
  refine pm_aload_n B dX12_undo_0 rfl ?_
  refine pm_get B dX12_undo_1 fl_X12_33 hto rfl ?_
  refine pm_get B dX12_undo_4 fl_X12_350 hho rfl ?_
  refine pm_if_ne (tgt := 21) B dX12_undo_7 (by decide) (fun hq1 => absurd ((by rw [h0]; rfl)) hq1) (fun hq1 => ?_)
  exact pm_throwW (text := "no change can be undone") B rfl px_IllegalState (by decide) dX12_undo_10 dX12_undo_13 dX12_undo_14 dX12_undo_17 dX12_undo_20 rfl rfl rfl rfl (fun n' hn => ⟨rfl, hn, Or.inr ⟨by decide, rfl⟩⟩)
set_option maxRecDepth 100000 in
set_option maxHeartbeats 4000000 in
theorem c_X12_undo_1 {l : Launch} {z : Nat} {D : va_G} {kA : Nat → ClassId} {kE : Nat → Nat} {nx : Nat} {M : pm_M} {o k : Nat} {r to : Nat → Int32} {ldv : Value} {rh : Nat → Nat → Int32} (hS : pm_SA z kA 2 M r) (hto : M 0 = some (pm_to z to ldv)) (hH : pm_HA z kA M rh) (hho : M 39 = some (pm_ho z o k)) (ho : o < 8) (hk : k ≤ 8) (hk0 : 0 < k) : pm_C l z D kA kE yX12_undo cX12_undo 1 (some .int) 20 3 12 [.ref (z + 0)] nx M (pm_rt (some (.int (nI (k - 1)))) nx (pm_sw z kA 2 (pm_up M 39 (pm_ho z o (k - 1))) (pm_cpr (rh ((o + (k - 1)) % 8)) r))) := by
  refine pm_mk (own := RX12) (nm := "undo") mt_X12_undo rfl rfl rfl rfl fun X B => ?_
  refine pm_loc (L' := [some (.ref (z + 0))]) rfl ?_
  refine pm_aload_n B dX12_undo_0 rfl ?_
  refine pm_get B dX12_undo_1 fl_X12_33 hto rfl ?_
  refine pm_get B dX12_undo_4 fl_X12_350 hho rfl ?_
  refine pm_if_ne (tgt := 21) B dX12_undo_7 (by decide) (fun hq1 => ?_) (fun hq1 => absurd hq1 ((fun h => by have := (nI_eq (a := k) (b := 0) (by omega) (by omega)).mp h; omega)))
  refine pm_aload_n B dX12_undo_21 rfl ?_
  refine pm_get B dX12_undo_22 fl_X12_33 hto rfl ?_
  refine pm_aload_n B dX12_undo_25 rfl ?_
  refine pm_get B dX12_undo_26 fl_X12_20 hto rfl ?_
  refine pm_cV (As := [.ref (z + 2)]) (mc2 := 0) (ms2 := 0) B rfl hho rfl (c_X4_takeBack hS (by decide) hH hho ho hk hk0) mt_X4_takeBack sv_X12_353 dX12_undo_29 rfl rfl rfl rfl rfl ?_
  refine pm_stk (st' := []) rfl ?_
  refine pm_aload_n B dX12_undo_32 rfl ?_
  refine pm_get B dX12_undo_33 fl_X12_33 ((pm_sw_n (by decide)).trans ((pm_up_n (by decide)).trans hto)) rfl ?_
  refine pm_get B dX12_undo_36 fl_X12_350 ((pm_sw_n (by decide)).trans pm_up_s) rfl ?_
  exact pm_ireturn B dX12_undo_39 rfl (by first | rfl | (apply pm_nz; first | assumption | decide | exact pm_in01 _ _ _ | simp)) ⟨rfl, rfl, rfl⟩ rfl rfl
