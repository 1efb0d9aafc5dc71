/-! the askers over a world -/
theorem pm_Cwpost {l : Launch} {z : Nat} {D : va_G} {kA : Nat → ClassId} {kE : Nat → Nat} {y : MethodName} {cc : ByteArray} {nL : Nat} {ret : Option FieldType} {hh : List (Nat × Nat × Nat × Nat)} {d mc ms : Nat} {As : List Value} {nx : Nat} {M : pm_M} {post post2 : pm_Po} (h : pm_Cw l z D kA kE y cc nL ret hh d mc ms As nx M post) (hp : ∀ o n' M', post o n' M' → post2 o n' M') : pm_Cw l z D kA kE y cc nL ret hh d mc ms As nx M post2 := by
  refine MetFree.mono h (fun _ _ h => h) (fun _ _ _ _ _ h => h) fun a st o t _ hq => ?_
  rcases hq with ⟨⟨v, n', M', h1, h2, h3⟩, h4⟩ | ⟨q, h0, E, ce, L9, ⟨n', M', h1, h2⟩, h3⟩
  · exact Or.inl ⟨⟨v, n', M', h1, hp _ _ _ h2, h3⟩, h4⟩
  · exact Or.inr ⟨q, h0, E, ce, L9, ⟨n', M', hp _ _ _ h1, h2⟩, h3⟩
theorem pw_wrX {z : Nat} {kA : Nat → ClassId} {kE : Nat → Nat} {G : pw_G} {ar : List (Nat × va_E)} {nx n' k : Nat} {M M' : pm_M} {g' : pm_Cs} {v V : Int32} {h : List (String × Int32)} {hl : List (Nat × Int32)} {o : pm_O} (hW : pw_W z kA kE G ar nx M) (hp : pw_wr (pm_fa z kA kE nx M k (some (.int v)) g') h o n' M') (hh : h = hl.map (fun e => (pm_xn.getD e.1 "", e.2)))
    (hu : ∀ e ∈ hl, ∀ e' ∈ hl, pm_xn.getD e.1 "" = pm_xn.getD e'.1 "" → e = e') (hk : k = 0 ∨ ∃ e ∈ hl, k = e.1) (hg : pw_g G g') (hV : ∀ val : Int32, ((k = 0 ∧ val = v) ∨ ∃ e ∈ hl, k = e.1 ∧ val = e.2) → val = V) : pw_P (some (.int V)) (pw_W z kA kE G ar) o n' M' := by
  obtain ⟨val, rfl, hp | ⟨e, he, hp, rfl⟩⟩ := hp
  · obtain ⟨h1, h2, h3, ⟨h4, h5⟩ | ⟨-, h5⟩⟩ := hp
    · have hv : val = v := by cases h5; rfl
      rw [hV val (Or.inl ⟨h4, hv⟩)]
      exact ⟨rfl, pw_to hW h2 h1 h3 hg⟩
    · cases h5
  · obtain ⟨h1, h2, h3, ⟨-, h5⟩ | ⟨h4, h5⟩⟩ := hp
    · cases h5
    · rcases hk with hk | ⟨e2, he2, hk⟩
      · omega
      · rw [hh] at he
        obtain ⟨e3, he3, rfl⟩ := List.mem_map.mp he
        have h6 : pm_xn.getD e3.1 "" = pm_xn.getD e2.1 "" := by rw [← hk]; exact Sum.inr.inj h5
        have h7 := hu e3 he3 e2 he2 h6
        subst h7
        show pw_P (some (.int V)) _ (.inl (some (.int e3.2))) n' M'
        rw [hV e3.2 (Or.inr ⟨e3, he3, hk, rfl⟩)]
        exact ⟨rfl, pw_to hW h2 h1 h3 hg⟩
theorem a_X12_capacity {l : Launch} {z : Nat} {D : va_G} {kA : Nat → ClassId} {kE : Nat → Nat} {B n : Nat} {r : Nat → Int32} {hs : List (Nat → Int32)} {u : Nat × List Nat} {ar : List (Nat × va_E)} (hI : pm_I B n r) {i : Nat} (hi : i < n)  : ∀ nx M, (pw_W z kA kE (B, r, hs, u) ar) nx M → pm_C l z D kA kE yX12_capacity cX12_capacity 2 (some .int) 20 2 12 [.ref (z + 0), .int (nI i)] nx M (pw_P (some (.int (r (7 + 6 * i + 0)))) (pw_W z kA kE (B, r, hs, u) ar)) := by
  intro nx M hW
  have h7 : n ≤ 7 := hI.1.2.1
  obtain ⟨g, hT, hg⟩ := id hW.2.2.2
  have e : g.1 0 = r := hg.1
  have hn : g.1 0 0 = nI n := by rw [e]; exact hI.1.1
  
  refine pm_Cpost (f_X12_capacity hT hn h7) fun o n' M' hp => ?_
  rw [e] at hp
  have hv1 : (d_X12_capacity (nI i) n r (g.1 12)).1 = 0 := congrArg (fun p => p.1) (show (d_X12_capacity (nI i) n r (g.1 12)) = (0, (r (7 + 6 * i + 0))) from by simp only [d_X12_capacity]; rw [if_neg (pw_hm hi h7), pm_n_nI (by omega)]; try rfl)
  have hv2 : (d_X12_capacity (nI i) n r (g.1 12)).2 = (r (7 + 6 * i + 0)) := congrArg (fun p => p.2) (show (d_X12_capacity (nI i) n r (g.1 12)) = (0, (r (7 + 6 * i + 0))) from by simp only [d_X12_capacity]; rw [if_neg (pw_hm hi h7), pm_n_nI (by omega)]; try rfl)
  rw [hv1, hv2] at hp
  obtain ⟨h1, h2, h3, ⟨-, h5⟩ | ⟨h4, -⟩⟩ := hp
  · exact ⟨h5, pw_to hW h2 h1 h3 hg⟩
  · exact absurd h4 (Nat.lt_irrefl 0)
theorem a_X12_votes {l : Launch} {z : Nat} {D : va_G} {kA : Nat → ClassId} {kE : Nat → Nat} {B n : Nat} {r : Nat → Int32} {hs : List (Nat → Int32)} {u : Nat × List Nat} {ar : List (Nat × va_E)} (hI : pm_I B n r) {i : Nat} (hi : i < n)  : ∀ nx M, (pw_W z kA kE (B, r, hs, u) ar) nx M → pm_C l z D kA kE yX12_votes cX12_votes 2 (some .int) 20 2 12 [.ref (z + 0), .int (nI i)] nx M (pw_P (some (.int (r (7 + 6 * i + 1)))) (pw_W z kA kE (B, r, hs, u) ar)) := by
  intro nx M hW
  have h7 : n ≤ 7 := hI.1.2.1
  obtain ⟨g, hT, hg⟩ := id hW.2.2.2
  have e : g.1 0 = r := hg.1
  have hn : g.1 0 0 = nI n := by rw [e]; exact hI.1.1
  
  refine pm_Cpost (f_X12_votes hT hn h7) fun o n' M' hp => ?_
  rw [e] at hp
  have hv1 : (d_X12_votes (nI i) n r (g.1 12)).1 = 0 := congrArg (fun p => p.1) (show (d_X12_votes (nI i) n r (g.1 12)) = (0, (r (7 + 6 * i + 1))) from by simp only [d_X12_votes]; rw [if_neg (pw_hm hi h7), pm_n_nI (by omega)]; try rfl)
  have hv2 : (d_X12_votes (nI i) n r (g.1 12)).2 = (r (7 + 6 * i + 1)) := congrArg (fun p => p.2) (show (d_X12_votes (nI i) n r (g.1 12)) = (0, (r (7 + 6 * i + 1))) from by simp only [d_X12_votes]; rw [if_neg (pw_hm hi h7), pm_n_nI (by omega)]; try rfl)
  rw [hv1, hv2] at hp
  obtain ⟨h1, h2, h3, ⟨-, h5⟩ | ⟨h4, -⟩⟩ := hp
  · exact ⟨h5, pw_to hW h2 h1 h3 hg⟩
  · exact absurd h4 (Nat.lt_irrefl 0)
theorem a_X12_quota {l : Launch} {z : Nat} {D : va_G} {kA : Nat → ClassId} {kE : Nat → Nat} {B n : Nat} {r : Nat → Int32} {hs : List (Nat → Int32)} {u : Nat × List Nat} {ar : List (Nat × va_E)} (hI : pm_I B n r) {i : Nat} (hi : i < n)  : ∀ nx M, (pw_W z kA kE (B, r, hs, u) ar) nx M → pm_C l z D kA kE yX12_quota cX12_quota 2 (some .int) 20 2 12 [.ref (z + 0), .int (nI i)] nx M (pw_P (some (.int (r (7 + 6 * i + 2)))) (pw_W z kA kE (B, r, hs, u) ar)) := by
  intro nx M hW
  have h7 : n ≤ 7 := hI.1.2.1
  obtain ⟨g, hT, hg⟩ := id hW.2.2.2
  have e : g.1 0 = r := hg.1
  have hn : g.1 0 0 = nI n := by rw [e]; exact hI.1.1
  
  refine pm_Cpost (f_X12_quota hT hn h7) fun o n' M' hp => ?_
  rw [e] at hp
  have hv1 : (d_X12_quota (nI i) n r (g.1 12)).1 = 0 := congrArg (fun p => p.1) (show (d_X12_quota (nI i) n r (g.1 12)) = (0, (r (7 + 6 * i + 2))) from by simp only [d_X12_quota]; rw [if_neg (pw_hm hi h7), pm_n_nI (by omega)]; try rfl)
  have hv2 : (d_X12_quota (nI i) n r (g.1 12)).2 = (r (7 + 6 * i + 2)) := congrArg (fun p => p.2) (show (d_X12_quota (nI i) n r (g.1 12)) = (0, (r (7 + 6 * i + 2))) from by simp only [d_X12_quota]; rw [if_neg (pw_hm hi h7), pm_n_nI (by omega)]; try rfl)
  rw [hv1, hv2] at hp
  obtain ⟨h1, h2, h3, ⟨-, h5⟩ | ⟨h4, -⟩⟩ := hp
  · exact ⟨h5, pw_to hW h2 h1 h3 hg⟩
  · exact absurd h4 (Nat.lt_irrefl 0)
theorem a_X12_sales {l : Launch} {z : Nat} {D : va_G} {kA : Nat → ClassId} {kE : Nat → Nat} {B n : Nat} {r : Nat → Int32} {hs : List (Nat → Int32)} {u : Nat × List Nat} {ar : List (Nat × va_E)} (hI : pm_I B n r) {i : Nat} (hi : i < n)  : ∀ nx M, (pw_W z kA kE (B, r, hs, u) ar) nx M → pm_C l z D kA kE yX12_sales cX12_sales 2 (some .int) 20 2 12 [.ref (z + 0), .int (nI i)] nx M (pw_P (some (.int (r (7 + 6 * i + 3)))) (pw_W z kA kE (B, r, hs, u) ar)) := by
  intro nx M hW
  have h7 : n ≤ 7 := hI.1.2.1
  obtain ⟨g, hT, hg⟩ := id hW.2.2.2
  have e : g.1 0 = r := hg.1
  have hn : g.1 0 0 = nI n := by rw [e]; exact hI.1.1
  
  refine pm_Cpost (f_X12_sales hT hn h7) fun o n' M' hp => ?_
  rw [e] at hp
  have hv1 : (d_X12_sales (nI i) n r (g.1 12)).1 = 0 := congrArg (fun p => p.1) (show (d_X12_sales (nI i) n r (g.1 12)) = (0, (r (7 + 6 * i + 3))) from by simp only [d_X12_sales]; rw [if_neg (pw_hm hi h7), pm_n_nI (by omega)]; try rfl)
  have hv2 : (d_X12_sales (nI i) n r (g.1 12)).2 = (r (7 + 6 * i + 3)) := congrArg (fun p => p.2) (show (d_X12_sales (nI i) n r (g.1 12)) = (0, (r (7 + 6 * i + 3))) from by simp only [d_X12_sales]; rw [if_neg (pw_hm hi h7), pm_n_nI (by omega)]; try rfl)
  rw [hv1, hv2] at hp
  obtain ⟨h1, h2, h3, ⟨-, h5⟩ | ⟨h4, -⟩⟩ := hp
  · exact ⟨h5, pw_to hW h2 h1 h3 hg⟩
  · exact absurd h4 (Nat.lt_irrefl 0)
theorem a_X12_excess {l : Launch} {z : Nat} {D : va_G} {kA : Nat → ClassId} {kE : Nat → Nat} {B n : Nat} {r : Nat → Int32} {hs : List (Nat → Int32)} {u : Nat × List Nat} {ar : List (Nat × va_E)} (hI : pm_I B n r) {i : Nat} (hi : i < n)  : ∀ nx M, (pw_W z kA kE (B, r, hs, u) ar) nx M → pm_C l z D kA kE yX12_excess cX12_excess 2 (some .int) 20 2 12 [.ref (z + 0), .int (nI i)] nx M (pw_P (some (.int (pw_xs r i))) (pw_W z kA kE (B, r, hs, u) ar)) := by
  intro nx M hW
  have h7 : n ≤ 7 := hI.1.2.1
  obtain ⟨g, hT, hg⟩ := id hW.2.2.2
  have e : g.1 0 = r := hg.1
  have hn : g.1 0 0 = nI n := by rw [e]; exact hI.1.1
  
  refine pm_Cpost (f_X12_excess hT hn h7) fun o n' M' hp => ?_
  rw [e] at hp
  have hv1 : (d_X12_excess (nI i) n r (g.1 12)).1 = 0 := congrArg (fun p => p.1) (show (d_X12_excess (nI i) n r (g.1 12)) = (0, (pw_xs r i)) from by simp only [d_X12_excess]; rw [if_neg (pw_hm hi h7), pm_n_nI (by omega)]; try rfl)
  have hv2 : (d_X12_excess (nI i) n r (g.1 12)).2 = (pw_xs r i) := congrArg (fun p => p.2) (show (d_X12_excess (nI i) n r (g.1 12)) = (0, (pw_xs r i)) from by simp only [d_X12_excess]; rw [if_neg (pw_hm hi h7), pm_n_nI (by omega)]; try rfl)
  rw [hv1, hv2] at hp
  obtain ⟨h1, h2, h3, ⟨-, h5⟩ | ⟨h4, -⟩⟩ := hp
  · exact ⟨h5, pw_to hW h2 h1 h3 hg⟩
  · exact absurd h4 (Nat.lt_irrefl 0)
theorem a_X12_standing {l : Launch} {z : Nat} {D : va_G} {kA : Nat → ClassId} {kE : Nat → Nat} {B n : Nat} {r : Nat → Int32} {hs : List (Nat → Int32)} {u : Nat × List Nat} {ar : List (Nat × va_E)} (hI : pm_I B n r) {i : Nat} (hi : i < n)  : ∀ nx M, (pw_W z kA kE (B, r, hs, u) ar) nx M → pm_C l z D kA kE yX12_standing cX12_standing 3 (some .char) 20 2 12 [.ref (z + 0), .int (nI i)] nx M (pw_P (some (.int (pw_st r i))) (pw_W z kA kE (B, r, hs, u) ar)) := by
  intro nx M hW
  have h7 : n ≤ 7 := hI.1.2.1
  obtain ⟨g, hT, hg⟩ := id hW.2.2.2
  have e : g.1 0 = r := hg.1
  have hn : g.1 0 0 = nI n := by rw [e]; exact hI.1.1
  
  refine pm_Cpost (f_X12_standing hT hn h7) fun o n' M' hp => ?_
  rw [e] at hp
  have hv1 : (d_X12_standing (nI i) n r (g.1 12)).1 = 0 := by simp only [d_X12_standing]; rw [if_neg (pw_hm hi h7)]; (repeat' split) <;> rfl
  have hv2 : (d_X12_standing (nI i) n r (g.1 12)).2 = (pw_st r i) := by simp only [d_X12_standing, pw_st]; rw [if_neg (pw_hm hi h7), pm_n_nI (by omega)]; (repeat' split) <;> rfl
  rw [hv1, hv2] at hp
  obtain ⟨h1, h2, h3, ⟨-, h5⟩ | ⟨h4, -⟩⟩ := hp
  · exact ⟨h5, pw_to hW h2 h1 h3 hg⟩
  · exact absurd h4 (Nat.lt_irrefl 0)
theorem a_X12_memberCount {l : Launch} {z : Nat} {D : va_G} {kA : Nat → ClassId} {kE : Nat → Nat} {B n : Nat} {r : Nat → Int32} {hs : List (Nat → Int32)} {u : Nat × List Nat} {ar : List (Nat × va_E)} (hI : pm_I B n r)   : ∀ nx M, (pw_W z kA kE (B, r, hs, u) ar) nx M → pm_C l z D kA kE yX12_memberCount cX12_memberCount 1 (some .int) 20 2 12 [.ref (z + 0)] nx M (pw_P (some (.int (nI n))) (pw_W z kA kE (B, r, hs, u) ar)) := by
  intro nx M hW
  have h7 : n ≤ 7 := hI.1.2.1
  obtain ⟨g, hT, hg⟩ := id hW.2.2.2
  have e : g.1 0 = r := hg.1
  have hn : g.1 0 0 = nI n := by rw [e]; exact hI.1.1
  
  refine pm_Cpost (f_X12_memberCount hT hn h7) fun o n' M' hp => ?_
  rw [e] at hp
  have hv1 : (d_X12_memberCount n r (g.1 12)).1 = 0 := congrArg (fun p => p.1) (show (d_X12_memberCount n r (g.1 12)) = (0, (nI n)) from rfl)
  have hv2 : (d_X12_memberCount n r (g.1 12)).2 = (nI n) := congrArg (fun p => p.2) (show (d_X12_memberCount n r (g.1 12)) = (0, (nI n)) from rfl)
  rw [hv1, hv2] at hp
  obtain ⟨h1, h2, h3, ⟨-, h5⟩ | ⟨h4, -⟩⟩ := hp
  · exact ⟨h5, pw_to hW h2 h1 h3 hg⟩
  · exact absurd h4 (Nat.lt_irrefl 0)
theorem a_X12_month {l : Launch} {z : Nat} {D : va_G} {kA : Nat → ClassId} {kE : Nat → Nat} {B n : Nat} {r : Nat → Int32} {hs : List (Nat → Int32)} {u : Nat × List Nat} {ar : List (Nat × va_E)} (hI : pm_I B n r)   : ∀ nx M, (pw_W z kA kE (B, r, hs, u) ar) nx M → pm_C l z D kA kE yX12_month cX12_month 1 (some .int) 20 2 12 [.ref (z + 0)] nx M (pw_P (some (.int (r 4))) (pw_W z kA kE (B, r, hs, u) ar)) := by
  intro nx M hW
  have h7 : n ≤ 7 := hI.1.2.1
  obtain ⟨g, hT, hg⟩ := id hW.2.2.2
  have e : g.1 0 = r := hg.1
  have hn : g.1 0 0 = nI n := by rw [e]; exact hI.1.1
  
  refine pm_Cpost (f_X12_month hT hn h7) fun o n' M' hp => ?_
  rw [e] at hp
  have hv1 : (d_X12_month n r (g.1 12)).1 = 0 := congrArg (fun p => p.1) (show (d_X12_month n r (g.1 12)) = (0, (r 4)) from rfl)
  have hv2 : (d_X12_month n r (g.1 12)).2 = (r 4) := congrArg (fun p => p.2) (show (d_X12_month n r (g.1 12)) = (0, (r 4)) from rfl)
  rw [hv1, hv2] at hp
  obtain ⟨h1, h2, h3, ⟨-, h5⟩ | ⟨h4, -⟩⟩ := hp
  · exact ⟨h5, pw_to hW h2 h1 h3 hg⟩
  · exact absurd h4 (Nat.lt_irrefl 0)
theorem a_X12_soldTotal {l : Launch} {z : Nat} {D : va_G} {kA : Nat → ClassId} {kE : Nat → Nat} {B n : Nat} {r : Nat → Int32} {hs : List (Nat → Int32)} {u : Nat × List Nat} {ar : List (Nat × va_E)} (hI : pm_I B n r)   : ∀ nx M, (pw_W z kA kE (B, r, hs, u) ar) nx M → pm_C l z D kA kE yX12_soldTotal cX12_soldTotal 1 (some .int) 20 2 12 [.ref (z + 0)] nx M (pw_P (some (.int (r 5 + r 6))) (pw_W z kA kE (B, r, hs, u) ar)) := by
  intro nx M hW
  have h7 : n ≤ 7 := hI.1.2.1
  obtain ⟨g, hT, hg⟩ := id hW.2.2.2
  have e : g.1 0 = r := hg.1
  have hn : g.1 0 0 = nI n := by rw [e]; exact hI.1.1
  
  refine pm_Cpost (f_X12_soldTotal hT hn h7) fun o n' M' hp => ?_
  rw [e] at hp
  have hv1 : (d_X12_soldTotal n r (g.1 12)).1 = 0 := congrArg (fun p => p.1) (show (d_X12_soldTotal n r (g.1 12)) = (0, (r 5 + r 6)) from rfl)
  have hv2 : (d_X12_soldTotal n r (g.1 12)).2 = (r 5 + r 6) := congrArg (fun p => p.2) (show (d_X12_soldTotal n r (g.1 12)) = (0, (r 5 + r 6)) from rfl)
  rw [hv1, hv2] at hp
  obtain ⟨h1, h2, h3, ⟨-, h5⟩ | ⟨h4, -⟩⟩ := hp
  · exact ⟨h5, pw_to hW h2 h1 h3 hg⟩
  · exact absurd h4 (Nat.lt_irrefl 0)
theorem a_X12_withinTotal {l : Launch} {z : Nat} {D : va_G} {kA : Nat → ClassId} {kE : Nat → Nat} {B n : Nat} {r : Nat → Int32} {hs : List (Nat → Int32)} {u : Nat × List Nat} {ar : List (Nat × va_E)} (hI : pm_I B n r)   : ∀ nx M, (pw_W z kA kE (B, r, hs, u) ar) nx M → pm_C l z D kA kE yX12_withinTotal cX12_withinTotal 1 (some .int) 20 2 12 [.ref (z + 0)] nx M (pw_P (some (.int (r 5))) (pw_W z kA kE (B, r, hs, u) ar)) := by
  intro nx M hW
  have h7 : n ≤ 7 := hI.1.2.1
  obtain ⟨g, hT, hg⟩ := id hW.2.2.2
  have e : g.1 0 = r := hg.1
  have hn : g.1 0 0 = nI n := by rw [e]; exact hI.1.1
  
  refine pm_Cpost (f_X12_withinTotal hT hn h7) fun o n' M' hp => ?_
  rw [e] at hp
  have hv1 : (d_X12_withinTotal n r (g.1 12)).1 = 0 := congrArg (fun p => p.1) (show (d_X12_withinTotal n r (g.1 12)) = (0, (r 5)) from rfl)
  have hv2 : (d_X12_withinTotal n r (g.1 12)).2 = (r 5) := congrArg (fun p => p.2) (show (d_X12_withinTotal n r (g.1 12)) = (0, (r 5)) from rfl)
  rw [hv1, hv2] at hp
  obtain ⟨h1, h2, h3, ⟨-, h5⟩ | ⟨h4, -⟩⟩ := hp
  · exact ⟨h5, pw_to hW h2 h1 h3 hg⟩
  · exact absurd h4 (Nat.lt_irrefl 0)
theorem a_X12_finedTotal {l : Launch} {z : Nat} {D : va_G} {kA : Nat → ClassId} {kE : Nat → Nat} {B n : Nat} {r : Nat → Int32} {hs : List (Nat → Int32)} {u : Nat × List Nat} {ar : List (Nat × va_E)} (hI : pm_I B n r)   : ∀ nx M, (pw_W z kA kE (B, r, hs, u) ar) nx M → pm_C l z D kA kE yX12_finedTotal cX12_finedTotal 1 (some .int) 20 2 12 [.ref (z + 0)] nx M (pw_P (some (.int (r 6))) (pw_W z kA kE (B, r, hs, u) ar)) := by
  intro nx M hW
  have h7 : n ≤ 7 := hI.1.2.1
  obtain ⟨g, hT, hg⟩ := id hW.2.2.2
  have e : g.1 0 = r := hg.1
  have hn : g.1 0 0 = nI n := by rw [e]; exact hI.1.1
  
  refine pm_Cpost (f_X12_finedTotal hT hn h7) fun o n' M' hp => ?_
  rw [e] at hp
  have hv1 : (d_X12_finedTotal n r (g.1 12)).1 = 0 := congrArg (fun p => p.1) (show (d_X12_finedTotal n r (g.1 12)) = (0, (r 6)) from rfl)
  have hv2 : (d_X12_finedTotal n r (g.1 12)).2 = (r 6) := congrArg (fun p => p.2) (show (d_X12_finedTotal n r (g.1 12)) = (0, (r 6)) from rfl)
  rw [hv1, hv2] at hp
  obtain ⟨h1, h2, h3, ⟨-, h5⟩ | ⟨h4, -⟩⟩ := hp
  · exact ⟨h5, pw_to hW h2 h1 h3 hg⟩
  · exact absurd h4 (Nat.lt_irrefl 0)
theorem a_X12_fines {l : Launch} {z : Nat} {D : va_G} {kA : Nat → ClassId} {kE : Nat → Nat} {B n : Nat} {r : Nat → Int32} {hs : List (Nat → Int32)} {u : Nat × List Nat} {ar : List (Nat × va_E)} (hI : pm_I B n r)   : ∀ nx M, (pw_W z kA kE (B, r, hs, u) ar) nx M → pm_C l z D kA kE yX12_fines cX12_fines 1 (some .int) 20 2 12 [.ref (z + 0)] nx M (pw_P (some (.int (r 6 * 3))) (pw_W z kA kE (B, r, hs, u) ar)) := by
  intro nx M hW
  have h7 : n ≤ 7 := hI.1.2.1
  obtain ⟨g, hT, hg⟩ := id hW.2.2.2
  have e : g.1 0 = r := hg.1
  have hn : g.1 0 0 = nI n := by rw [e]; exact hI.1.1
  
  refine pm_Cpost (f_X12_fines hT hn h7) fun o n' M' hp => ?_
  rw [e] at hp
  have hv1 : (d_X12_fines n r (g.1 12)).1 = 0 := congrArg (fun p => p.1) (show (d_X12_fines n r (g.1 12)) = (0, (r 6 * 3)) from rfl)
  have hv2 : (d_X12_fines n r (g.1 12)).2 = (r 6 * 3) := congrArg (fun p => p.2) (show (d_X12_fines n r (g.1 12)) = (0, (r 6 * 3)) from rfl)
  rw [hv1, hv2] at hp
  obtain ⟨h1, h2, h3, ⟨-, h5⟩ | ⟨h4, -⟩⟩ := hp
  · exact ⟨h5, pw_to hW h2 h1 h3 hg⟩
  · exact absurd h4 (Nat.lt_irrefl 0)
theorem a_X12_linkCount {l : Launch} {z : Nat} {D : va_G} {kA : Nat → ClassId} {kE : Nat → Nat} {B n : Nat} {r : Nat → Int32} {hs : List (Nat → Int32)} {u : Nat × List Nat} {ar : List (Nat × va_E)} (hI : pm_I B n r)   : ∀ nx M, (pw_W z kA kE (B, r, hs, u) ar) nx M → pm_C l z D kA kE yX12_linkCount cX12_linkCount 1 (some .int) 20 2 12 [.ref (z + 0)] nx M (pw_P (some (.int (pw_lc r))) (pw_W z kA kE (B, r, hs, u) ar)) := by
  intro nx M hW
  have h7 : n ≤ 7 := hI.1.2.1
  obtain ⟨g, hT, hg⟩ := id hW.2.2.2
  have e : g.1 0 = r := hg.1
  have hn : g.1 0 0 = nI n := by rw [e]; exact hI.1.1
  
  refine pm_Cpost (f_X12_linkCount hT hn h7) fun o n' M' hp => ?_
  rw [e] at hp
  have hv1 : (d_X12_linkCount n r (g.1 12)).1 = 0 := congrArg (fun p => p.1) (show (d_X12_linkCount n r (g.1 12)) = (0, (pw_lc r)) from rfl)
  have hv2 : (d_X12_linkCount n r (g.1 12)).2 = (pw_lc r) := congrArg (fun p => p.2) (show (d_X12_linkCount n r (g.1 12)) = (0, (pw_lc r)) from rfl)
  rw [hv1, hv2] at hp
  obtain ⟨h1, h2, h3, ⟨-, h5⟩ | ⟨h4, -⟩⟩ := hp
  · exact ⟨h5, pw_to hW h2 h1 h3 hg⟩
  · exact absurd h4 (Nat.lt_irrefl 0)
theorem a_X12_fewestWatchers {l : Launch} {z : Nat} {D : va_G} {kA : Nat → ClassId} {kE : Nat → Nat} {B n : Nat} {r : Nat → Int32} {hs : List (Nat → Int32)} {u : Nat × List Nat} {ar : List (Nat × va_E)} (hI : pm_I B n r)   : ∀ nx M, (pw_W z kA kE (B, r, hs, u) ar) nx M → pm_C l z D kA kE yX12_fewestWatchers cX12_fewestWatchers 1 (some .int) 20 2 12 [.ref (z + 0)] nx M (pw_P (some (.int (pw_fa n r))) (pw_W z kA kE (B, r, hs, u) ar)) := by
  intro nx M hW
  have h7 : n ≤ 7 := hI.1.2.1
  obtain ⟨g, hT, hg⟩ := id hW.2.2.2
  have e : g.1 0 = r := hg.1
  have hn : g.1 0 0 = nI n := by rw [e]; exact hI.1.1
  
  refine pm_Cpost (f_X12_fewestWatchers hT hn h7) fun o n' M' hp => ?_
  rw [e] at hp
  have hv1 : (d_X12_fewestWatchers n r (g.1 12)).1 = 0 := congrArg (fun p => p.1) (show (d_X12_fewestWatchers n r (g.1 12)) = (0, (pw_fa n r)) from rfl)
  have hv2 : (d_X12_fewestWatchers n r (g.1 12)).2 = (pw_fa n r) := congrArg (fun p => p.2) (show (d_X12_fewestWatchers n r (g.1 12)) = (0, (pw_fa n r)) from rfl)
  rw [hv1, hv2] at hp
  obtain ⟨h1, h2, h3, ⟨-, h5⟩ | ⟨h4, -⟩⟩ := hp
  · exact ⟨h5, pw_to hW h2 h1 h3 hg⟩
  · exact absurd h4 (Nat.lt_irrefl 0)
theorem a_X12_fewestWatchersByBranching {l : Launch} {z : Nat} {D : va_G} {kA : Nat → ClassId} {kE : Nat → Nat} {B n : Nat} {r : Nat → Int32} {hs : List (Nat → Int32)} {u : Nat × List Nat} {ar : List (Nat × va_E)} (hI : pm_I B n r)   : ∀ nx M, (pw_W z kA kE (B, r, hs, u) ar) nx M → pm_C l z D kA kE yX12_fewestWatchersByBranching cX12_fewestWatchersByBranching 1 (some .int) 20 2 12 [.ref (z + 0)] nx M (pw_P (some (.int (pw_fb n r))) (pw_W z kA kE (B, r, hs, u) ar)) := by
  intro nx M hW
  have h7 : n ≤ 7 := hI.1.2.1
  obtain ⟨g, hT, hg⟩ := id hW.2.2.2
  have e : g.1 0 = r := hg.1
  have hn : g.1 0 0 = nI n := by rw [e]; exact hI.1.1
  
  refine pm_Cpost (f_X12_fewestWatchersByBranching hT hn h7) fun o n' M' hp => ?_
  rw [e] at hp
  have hv1 : (d_X12_fewestWatchersByBranching n r (g.1 12)).1 = 0 := congrArg (fun p => p.1) (show (d_X12_fewestWatchersByBranching n r (g.1 12)) = (0, (pw_fb n r)) from rfl)
  have hv2 : (d_X12_fewestWatchersByBranching n r (g.1 12)).2 = (pw_fb n r) := congrArg (fun p => p.2) (show (d_X12_fewestWatchersByBranching n r (g.1 12)) = (0, (pw_fb n r)) from rfl)
  rw [hv1, hv2] at hp
  obtain ⟨h1, h2, h3, ⟨-, h5⟩ | ⟨h4, -⟩⟩ := hp
  · exact ⟨h5, pw_to hW h2 h1 h3 hg⟩
  · exact absurd h4 (Nat.lt_irrefl 0)
theorem a_X12_winningCoalitions {l : Launch} {z : Nat} {D : va_G} {kA : Nat → ClassId} {kE : Nat → Nat} {B n : Nat} {r : Nat → Int32} {hs : List (Nat → Int32)} {u : Nat × List Nat} {ar : List (Nat × va_E)} (hI : pm_I B n r)   : ∀ nx M, (pw_W z kA kE (B, r, hs, u) ar) nx M → pm_C l z D kA kE yX12_winningCoalitions cX12_winningCoalitions 1 (some .int) 20 2 12 [.ref (z + 0)] nx M (pw_P (some (.int (d_X11_winners n r))) (pw_W z kA kE (B, r, hs, u) ar)) := by
  intro nx M hW
  have h7 : n ≤ 7 := hI.1.2.1
  obtain ⟨g, hT, hg⟩ := id hW.2.2.2
  have e : g.1 0 = r := hg.1
  have hn : g.1 0 0 = nI n := by rw [e]; exact hI.1.1
  
  refine pm_Cpost (f_X12_winningCoalitions hT hn h7) fun o n' M' hp => ?_
  rw [e] at hp
  have hv1 : (d_X12_winningCoalitions n r (g.1 12)).1 = 0 := congrArg (fun p => p.1) (show (d_X12_winningCoalitions n r (g.1 12)) = (0, (d_X11_winners n r)) from rfl)
  have hv2 : (d_X12_winningCoalitions n r (g.1 12)).2 = (d_X11_winners n r) := congrArg (fun p => p.2) (show (d_X12_winningCoalitions n r (g.1 12)) = (0, (d_X11_winners n r)) from rfl)
  rw [hv1, hv2] at hp
  obtain ⟨h1, h2, h3, ⟨-, h5⟩ | ⟨h4, -⟩⟩ := hp
  · exact ⟨h5, pw_to hW h2 h1 h3 hg⟩
  · exact absurd h4 (Nat.lt_irrefl 0)
theorem a_X12_leastDifference {l : Launch} {z : Nat} {D : va_G} {kA : Nat → ClassId} {kE : Nat → Nat} {B n : Nat} {r : Nat → Int32} {hs : List (Nat → Int32)} {u : Nat × List Nat} {ar : List (Nat × va_E)} (hI : pm_I B n r)   : ∀ nx M, (pw_W z kA kE (B, r, hs, u) ar) nx M → pm_C l z D kA kE yX12_leastDifference cX12_leastDifference 1 (some .int) 20 2 12 [.ref (z + 0)] nx M (pw_P (some (.int (d_X11_differenceBySets n r))) (pw_W z kA kE (B, r, hs, u) ar)) := by
  intro nx M hW
  have h7 : n ≤ 7 := hI.1.2.1
  obtain ⟨g, hT, hg⟩ := id hW.2.2.2
  have e : g.1 0 = r := hg.1
  have hn : g.1 0 0 = nI n := by rw [e]; exact hI.1.1
  
  refine pm_Cpost (f_X12_leastDifference hT hn h7) fun o n' M' hp => ?_
  rw [e] at hp
  have hv1 : (d_X12_leastDifference n r (g.1 12)).1 = 0 := congrArg (fun p => p.1) (show (d_X12_leastDifference n r (g.1 12)) = (0, (d_X11_differenceBySets n r)) from rfl)
  have hv2 : (d_X12_leastDifference n r (g.1 12)).2 = (d_X11_differenceBySets n r) := congrArg (fun p => p.2) (show (d_X12_leastDifference n r (g.1 12)) = (0, (d_X11_differenceBySets n r)) from rfl)
  rw [hv1, hv2] at hp
  obtain ⟨h1, h2, h3, ⟨-, h5⟩ | ⟨h4, -⟩⟩ := hp
  · exact ⟨h5, pw_to hW h2 h1 h3 hg⟩
  · exact absurd h4 (Nat.lt_irrefl 0)
theorem a_X12_areLinked {l : Launch} {z : Nat} {D : va_G} {kA : Nat → ClassId} {kE : Nat → Nat} {B n : Nat} {r : Nat → Int32} {hs : List (Nat → Int32)} {u : Nat × List Nat} {ar : List (Nat × va_E)} (hI : pm_I B n r) {i : Nat} (hi : i < n) {j : Nat} (hj : j < n) : ∀ nx M, (pw_W z kA kE (B, r, hs, u) ar) nx M → pm_C l z D kA kE yX12_areLinked cX12_areLinked 3 (some .boolean) 20 2 12 [.ref (z + 0), .int (nI i), .int (nI j)] nx M (pw_P (some (.int (pw_lk r i j))) (pw_W z kA kE (B, r, hs, u) ar)) := by
  intro nx M hW
  have h7 : n ≤ 7 := hI.1.2.1
  obtain ⟨g, hT, hg⟩ := id hW.2.2.2
  have e : g.1 0 = r := hg.1
  have hn : g.1 0 0 = nI n := by rw [e]; exact hI.1.1
  
  refine pm_Cpost (f_X12_areLinked hT hn h7) fun o n' M' hp => ?_
  rw [e] at hp
  have hv1 : (d_X12_areLinked (nI i) (nI j) n r (g.1 12)).1 = 0 := congrArg (fun p => p.1) (show (d_X12_areLinked (nI i) (nI j) n r (g.1 12)) = (0, (pw_lk r i j)) from by simp only [d_X12_areLinked]; rw [if_neg (pw_hm hi h7), if_neg (pw_hm hj h7), pm_n_nI (by omega), pm_n_nI (by omega)]; rfl)
  have hv2 : (d_X12_areLinked (nI i) (nI j) n r (g.1 12)).2 = (pw_lk r i j) := congrArg (fun p => p.2) (show (d_X12_areLinked (nI i) (nI j) n r (g.1 12)) = (0, (pw_lk r i j)) from by simp only [d_X12_areLinked]; rw [if_neg (pw_hm hi h7), if_neg (pw_hm hj h7), pm_n_nI (by omega), pm_n_nI (by omega)]; rfl)
  rw [hv1, hv2] at hp
  obtain ⟨h1, h2, h3, ⟨-, h5⟩ | ⟨h4, -⟩⟩ := hp
  · exact ⟨h5, pw_to hW h2 h1 h3 hg⟩
  · exact absurd h4 (Nat.lt_irrefl 0)
theorem a_X12_meanSales {l : Launch} {z : Nat} {D : va_G} {kA : Nat → ClassId} {kE : Nat → Nat} {B n : Nat} {r : Nat → Int32} {hs : List (Nat → Int32)} {u : Nat × List Nat} {ar : List (Nat × va_E)} (hI : pm_I B n r)  (h0 : 0 < n) : ∀ nx M, (pw_W z kA kE (B, r, hs, u) ar) nx M → pm_C l z D kA kE yX12_meanSales cX12_meanSales 3 (some .double) 20 2 12 [.ref (z + 0)] nx M (pw_P (some (.double (FP.ddiv (FP.i2d (d_X12_meanSales_L1 r n 0 0)) (FP.i2d (nI n))))) (pw_W z kA kE (B, r, hs, u) ar)) := by
  intro nx M hW
  have h7 : n ≤ 7 := hI.1.2.1
  obtain ⟨g, hT, hg⟩ := id hW.2.2.2
  have e : g.1 0 = r := hg.1
  have hn : g.1 0 0 = nI n := by rw [e]; exact hI.1.1
  
  refine pm_Cpost (f_X12_meanSales hT hn h7 fp_h64) fun o n' M' hp => ?_
  rw [e] at hp
  have hv1 : (d_X12_meanSales n r (g.1 12)).1 = 0 := congrArg (fun p => p.1) (show (d_X12_meanSales n r (g.1 12)) = (0, (FP.ddiv (FP.i2d (d_X12_meanSales_L1 r n 0 0)) (FP.i2d (nI n)))) from by simp only [d_X12_meanSales]; rw [if_neg (nI_ne0 h0 (by omega))])
  have hv2 : (d_X12_meanSales n r (g.1 12)).2 = (FP.ddiv (FP.i2d (d_X12_meanSales_L1 r n 0 0)) (FP.i2d (nI n))) := congrArg (fun p => p.2) (show (d_X12_meanSales n r (g.1 12)) = (0, (FP.ddiv (FP.i2d (d_X12_meanSales_L1 r n 0 0)) (FP.i2d (nI n)))) from by simp only [d_X12_meanSales]; rw [if_neg (nI_ne0 h0 (by omega))])
  rw [hv1, hv2] at hp
  obtain ⟨h1, h2, h3, ⟨-, h5⟩ | ⟨h4, -⟩⟩ := hp
  · exact ⟨h5, pw_to hW h2 h1 h3 hg⟩
  · exact absurd h4 (Nat.lt_irrefl 0)
theorem a_X12_finedShare {l : Launch} {z : Nat} {D : va_G} {kA : Nat → ClassId} {kE : Nat → Nat} {B n : Nat} {r : Nat → Int32} {hs : List (Nat → Int32)} {u : Nat × List Nat} {ar : List (Nat × va_E)} (hI : pm_I B n r)  (h0 : ¬ r 5 + r 6 = 0) : ∀ nx M, (pw_W z kA kE (B, r, hs, u) ar) nx M → pm_C l z D kA kE yX12_finedShare cX12_finedShare 2 (some .float) 20 2 12 [.ref (z + 0)] nx M (pw_P (some (.float (FP.fdiv (FP.i2f (r 6)) (FP.i2f (r 5 + r 6))))) (pw_W z kA kE (B, r, hs, u) ar)) := by
  intro nx M hW
  have h7 : n ≤ 7 := hI.1.2.1
  obtain ⟨g, hT, hg⟩ := id hW.2.2.2
  have e : g.1 0 = r := hg.1
  have hn : g.1 0 0 = nI n := by rw [e]; exact hI.1.1
  
  refine pm_Cpost (f_X12_finedShare hT fp_h32) fun o n' M' hp => ?_
  rw [e] at hp
  have hv1 : (d_X12_finedShare r (g.1 12)).1 = 0 := congrArg (fun p => p.1) (show (d_X12_finedShare r (g.1 12)) = (0, (FP.fdiv (FP.i2f (r 6)) (FP.i2f (r 5 + r 6)))) from by simp only [d_X12_finedShare]; rw [if_neg h0])
  have hv2 : (d_X12_finedShare r (g.1 12)).2 = (FP.fdiv (FP.i2f (r 6)) (FP.i2f (r 5 + r 6))) := congrArg (fun p => p.2) (show (d_X12_finedShare r (g.1 12)) = (0, (FP.fdiv (FP.i2f (r 6)) (FP.i2f (r 5 + r 6)))) from by simp only [d_X12_finedShare]; rw [if_neg h0])
  rw [hv1, hv2] at hp
  obtain ⟨h1, h2, h3, ⟨-, h5⟩ | ⟨h4, -⟩⟩ := hp
  · exact ⟨h5, pw_to hW h2 h1 h3 hg⟩
  · exact absurd h4 (Nat.lt_irrefl 0)
theorem a_X12_leastDifferenceBySums {l : Launch} {z : Nat} {D : va_G} {kA : Nat → ClassId} {kE : Nat → Nat} {B n : Nat} {r : Nat → Int32} {hs : List (Nat → Int32)} {u : Nat × List Nat} {ar : List (Nat × va_E)} (hI : pm_I B n r)   : ∀ nx M, (pw_W z kA kE (B, r, hs, u) ar) nx M → pm_C l z D kA kE yX12_leastDifferenceBySums cX12_leastDifferenceBySums 1 (some .int) 20 2 12 [.ref (z + 0)] nx M (pw_P (some (.int (d_X11_differenceBySets n r))) (pw_W z kA kE (B, r, hs, u) ar)) := by
  intro nx M hW
  have h7 : n ≤ 7 := hI.1.2.1
  obtain ⟨g, hT, hg⟩ := id hW.2.2.2
  have e : g.1 0 = r := hg.1
  have hn : g.1 0 0 = nI n := by rw [e]; exact hI.1.1
  
  refine pm_Cpost (f_X12_leastDifferenceBySums hT hn h7 (by rw [e]; exact hI.2.1)) fun o n' M' hp => ?_
  rw [e] at hp
  have hv1 : (d_X12_leastDifferenceBySums n r (g.1 6) (g.1 12)).1 = 0 := rfl
  have hv2 : (d_X12_leastDifferenceBySums n r (g.1 6) (g.1 12)).2.1 = (d_X11_differenceBySets n r) := pn_dE hI.2.1 h7
  rw [hv1, hv2] at hp
  obtain ⟨h1, h2, h3, ⟨-, h5⟩ | ⟨h4, -⟩⟩ := hp
  · exact ⟨h5, pw_to hW h2 h1 h3 (show pw_g (B, r, hs, u) (pm_k130 g _) from hg)⟩
  · exact absurd h4 (Nat.lt_irrefl 0)
def pv_L_capacity (n : Nat) (r : Nat → Int32) (x : Int32) : Int32 := if d_X10_hasMember x n r = 0 then (-11) else (r (7 + 6 * (pm_n x) + 0))
theorem b_L_capacity {l : Launch} {z : Nat} {D : va_G} {kA : Nat → ClassId} {kE : Nat → Nat} {B n : Nat} {r : Nat → Int32} {hs : List (Nat → Int32)} {u : Nat × List Nat} {ar : List (Nat × va_E)} (hI : pm_I B n r) {x : Int32}  : ∀ nx M, (pw_W z kA kE (B, r, hs, u) ar) nx M → pm_Cw l z D kA kE yL_capacity cL_capacity 3 (some .int) [(0, 5, 6, 22)] 21 2 12 [.ref (z + 0), .int x] nx M (pw_P (some (.int (pv_L_capacity n r x))) (pw_W z kA kE (B, r, hs, u) ar)) := by
  intro nx M hW
  have h7 : n ≤ 7 := hI.1.2.1
  obtain ⟨g, hT, hg⟩ := id hW.2.2.2
  have e : g.1 0 = r := hg.1
  have hn : g.1 0 0 = nI n := by rw [e]; exact hI.1.1
  
  have hk0 : (d_X12_capacity x n r (g.1 12)).1 = 0 ∨ ∃ e ∈ ([(1, (-11))] : List (Nat × Int32)), (d_X12_capacity x n r (g.1 12)).1 = e.1 := (by simp only [d_X12_capacity]; (repeat' split) <;> simp)
  have hf := f_X12_capacity (x := x) (l := l) (D := D) (nx := nx) hT hn h7
  rw [e] at hf
  refine pm_Cwpost (c_L_capacity hT.1 hf (fun v n' M1 h => ?_) (fun E n' M1 h => ?_)) fun o n' M' hp => pw_wrX (hl := [(1, (-11))]) hW hp rfl (by decide) hk0 hg fun val hv => ?_
  · obtain ⟨-, -, -, ⟨-, h5⟩ | ⟨-, h5⟩⟩ := h
    · cases h5; exact ⟨_, rfl⟩
    · cases h5
  · obtain ⟨-, -, -, ⟨-, h5⟩ | ⟨h4, h5⟩⟩ := h
    · cases h5
    · have h6 := Sum.inr.inj h5
      rcases hk0 with hk0 | ⟨e9, he9, hk0⟩
      · omega
      · rw [hk0] at h6
        simp only [List.mem_cons, List.not_mem_nil, or_false] at he9
        subst he9; exact h6
  · simp only [d_X12_capacity] at hv hk0
    unfold pv_L_capacity
    by_cases h0 : d_X10_hasMember x n r = 0
    · rw [if_pos h0] at hv ⊢
      rcases hv with ⟨h1, -⟩ | ⟨e9, he9, h1, h2⟩
      · cases h1
      · simp only [List.mem_cons, List.not_mem_nil, or_false] at he9
        subst he9; exact h2
    · rw [if_neg h0] at hv ⊢
      rcases hv with ⟨-, h1⟩ | ⟨e9, he9, h1, h2⟩
      · first | exact h1 | (rw [h1]; rfl)
      · simp only [List.mem_cons, List.not_mem_nil, or_false] at he9
        subst he9; cases h1
theorem pv_L_capacity_in {n i : Nat} {r : Nat → Int32} (hi : i < n) (h7 : n ≤ 7) : pv_L_capacity n r (nI i) = r (7 + 6 * i + 0) := by
  unfold pv_L_capacity
  rw [if_neg (pw_hm hi h7), pm_n_nI (by omega)]
  try rfl
theorem pv_L_capacity_n {n : Nat} {r : Nat → Int32} (h7 : n ≤ 7) : pv_L_capacity n r (nI n) = (-11) := if_pos (pw_hn h7)
theorem pv_L_capacity_z {n : Nat} {r : Nat → Int32} : pv_L_capacity n r (-1) = (-11) := if_pos pw_hz
def pv_L_votes (n : Nat) (r : Nat → Int32) (x : Int32) : Int32 := if d_X10_hasMember x n r = 0 then (-11) else (r (7 + 6 * (pm_n x) + 1))
theorem b_L_votes {l : Launch} {z : Nat} {D : va_G} {kA : Nat → ClassId} {kE : Nat → Nat} {B n : Nat} {r : Nat → Int32} {hs : List (Nat → Int32)} {u : Nat × List Nat} {ar : List (Nat × va_E)} (hI : pm_I B n r) {x : Int32}  : ∀ nx M, (pw_W z kA kE (B, r, hs, u) ar) nx M → pm_Cw l z D kA kE yL_votes cL_votes 3 (some .int) [(0, 5, 6, 22)] 21 2 12 [.ref (z + 0), .int x] nx M (pw_P (some (.int (pv_L_votes n r x))) (pw_W z kA kE (B, r, hs, u) ar)) := by
  intro nx M hW
  have h7 : n ≤ 7 := hI.1.2.1
  obtain ⟨g, hT, hg⟩ := id hW.2.2.2
  have e : g.1 0 = r := hg.1
  have hn : g.1 0 0 = nI n := by rw [e]; exact hI.1.1
  
  have hk0 : (d_X12_votes x n r (g.1 12)).1 = 0 ∨ ∃ e ∈ ([(1, (-11))] : List (Nat × Int32)), (d_X12_votes x n r (g.1 12)).1 = e.1 := (by simp only [d_X12_votes]; (repeat' split) <;> simp)
  have hf := f_X12_votes (x := x) (l := l) (D := D) (nx := nx) hT hn h7
  rw [e] at hf
  refine pm_Cwpost (c_L_votes hT.1 hf (fun v n' M1 h => ?_) (fun E n' M1 h => ?_)) fun o n' M' hp => pw_wrX (hl := [(1, (-11))]) hW hp rfl (by decide) hk0 hg fun val hv => ?_
  · obtain ⟨-, -, -, ⟨-, h5⟩ | ⟨-, h5⟩⟩ := h
    · cases h5; exact ⟨_, rfl⟩
    · cases h5
  · obtain ⟨-, -, -, ⟨-, h5⟩ | ⟨h4, h5⟩⟩ := h
    · cases h5
    · have h6 := Sum.inr.inj h5
      rcases hk0 with hk0 | ⟨e9, he9, hk0⟩
      · omega
      · rw [hk0] at h6
        simp only [List.mem_cons, List.not_mem_nil, or_false] at he9
        subst he9; exact h6
  · simp only [d_X12_votes] at hv hk0
    unfold pv_L_votes
    by_cases h0 : d_X10_hasMember x n r = 0
    · rw [if_pos h0] at hv ⊢
      rcases hv with ⟨h1, -⟩ | ⟨e9, he9, h1, h2⟩
      · cases h1
      · simp only [List.mem_cons, List.not_mem_nil, or_false] at he9
        subst he9; exact h2
    · rw [if_neg h0] at hv ⊢
      rcases hv with ⟨-, h1⟩ | ⟨e9, he9, h1, h2⟩
      · first | exact h1 | (rw [h1]; rfl)
      · simp only [List.mem_cons, List.not_mem_nil, or_false] at he9
        subst he9; cases h1
theorem pv_L_votes_in {n i : Nat} {r : Nat → Int32} (hi : i < n) (h7 : n ≤ 7) : pv_L_votes n r (nI i) = r (7 + 6 * i + 1) := by
  unfold pv_L_votes
  rw [if_neg (pw_hm hi h7), pm_n_nI (by omega)]
  try rfl
theorem pv_L_votes_n {n : Nat} {r : Nat → Int32} (h7 : n ≤ 7) : pv_L_votes n r (nI n) = (-11) := if_pos (pw_hn h7)
theorem pv_L_votes_z {n : Nat} {r : Nat → Int32} : pv_L_votes n r (-1) = (-11) := if_pos pw_hz
def pv_L_quota (n : Nat) (r : Nat → Int32) (x : Int32) : Int32 := if d_X10_hasMember x n r = 0 then (-11) else (r (7 + 6 * (pm_n x) + 2))
theorem b_L_quota {l : Launch} {z : Nat} {D : va_G} {kA : Nat → ClassId} {kE : Nat → Nat} {B n : Nat} {r : Nat → Int32} {hs : List (Nat → Int32)} {u : Nat × List Nat} {ar : List (Nat × va_E)} (hI : pm_I B n r) {x : Int32}  : ∀ nx M, (pw_W z kA kE (B, r, hs, u) ar) nx M → pm_Cw l z D kA kE yL_quota cL_quota 3 (some .int) [(0, 5, 6, 22)] 21 2 12 [.ref (z + 0), .int x] nx M (pw_P (some (.int (pv_L_quota n r x))) (pw_W z kA kE (B, r, hs, u) ar)) := by
  intro nx M hW
  have h7 : n ≤ 7 := hI.1.2.1
  obtain ⟨g, hT, hg⟩ := id hW.2.2.2
  have e : g.1 0 = r := hg.1
  have hn : g.1 0 0 = nI n := by rw [e]; exact hI.1.1
  
  have hk0 : (d_X12_quota x n r (g.1 12)).1 = 0 ∨ ∃ e ∈ ([(1, (-11))] : List (Nat × Int32)), (d_X12_quota x n r (g.1 12)).1 = e.1 := (by simp only [d_X12_quota]; (repeat' split) <;> simp)
  have hf := f_X12_quota (x := x) (l := l) (D := D) (nx := nx) hT hn h7
  rw [e] at hf
  refine pm_Cwpost (c_L_quota hT.1 hf (fun v n' M1 h => ?_) (fun E n' M1 h => ?_)) fun o n' M' hp => pw_wrX (hl := [(1, (-11))]) hW hp rfl (by decide) hk0 hg fun val hv => ?_
  · obtain ⟨-, -, -, ⟨-, h5⟩ | ⟨-, h5⟩⟩ := h
    · cases h5; exact ⟨_, rfl⟩
    · cases h5
  · obtain ⟨-, -, -, ⟨-, h5⟩ | ⟨h4, h5⟩⟩ := h
    · cases h5
    · have h6 := Sum.inr.inj h5
      rcases hk0 with hk0 | ⟨e9, he9, hk0⟩
      · omega
      · rw [hk0] at h6
        simp only [List.mem_cons, List.not_mem_nil, or_false] at he9
        subst he9; exact h6
  · simp only [d_X12_quota] at hv hk0
    unfold pv_L_quota
    by_cases h0 : d_X10_hasMember x n r = 0
    · rw [if_pos h0] at hv ⊢
      rcases hv with ⟨h1, -⟩ | ⟨e9, he9, h1, h2⟩
      · cases h1
      · simp only [List.mem_cons, List.not_mem_nil, or_false] at he9
        subst he9; exact h2
    · rw [if_neg h0] at hv ⊢
      rcases hv with ⟨-, h1⟩ | ⟨e9, he9, h1, h2⟩
      · first | exact h1 | (rw [h1]; rfl)
      · simp only [List.mem_cons, List.not_mem_nil, or_false] at he9
        subst he9; cases h1
theorem pv_L_quota_in {n i : Nat} {r : Nat → Int32} (hi : i < n) (h7 : n ≤ 7) : pv_L_quota n r (nI i) = r (7 + 6 * i + 2) := by
  unfold pv_L_quota
  rw [if_neg (pw_hm hi h7), pm_n_nI (by omega)]
  try rfl
theorem pv_L_quota_n {n : Nat} {r : Nat → Int32} (h7 : n ≤ 7) : pv_L_quota n r (nI n) = (-11) := if_pos (pw_hn h7)
theorem pv_L_quota_z {n : Nat} {r : Nat → Int32} : pv_L_quota n r (-1) = (-11) := if_pos pw_hz
def pv_L_sales (n : Nat) (r : Nat → Int32) (x : Int32) : Int32 := if d_X10_hasMember x n r = 0 then (-11) else (r (7 + 6 * (pm_n x) + 3))
theorem b_L_sales {l : Launch} {z : Nat} {D : va_G} {kA : Nat → ClassId} {kE : Nat → Nat} {B n : Nat} {r : Nat → Int32} {hs : List (Nat → Int32)} {u : Nat × List Nat} {ar : List (Nat × va_E)} (hI : pm_I B n r) {x : Int32}  : ∀ nx M, (pw_W z kA kE (B, r, hs, u) ar) nx M → pm_Cw l z D kA kE yL_sales cL_sales 3 (some .int) [(0, 5, 6, 22)] 21 2 12 [.ref (z + 0), .int x] nx M (pw_P (some (.int (pv_L_sales n r x))) (pw_W z kA kE (B, r, hs, u) ar)) := by
  intro nx M hW
  have h7 : n ≤ 7 := hI.1.2.1
  obtain ⟨g, hT, hg⟩ := id hW.2.2.2
  have e : g.1 0 = r := hg.1
  have hn : g.1 0 0 = nI n := by rw [e]; exact hI.1.1
  
  have hk0 : (d_X12_sales x n r (g.1 12)).1 = 0 ∨ ∃ e ∈ ([(1, (-11))] : List (Nat × Int32)), (d_X12_sales x n r (g.1 12)).1 = e.1 := (by simp only [d_X12_sales]; (repeat' split) <;> simp)
  have hf := f_X12_sales (x := x) (l := l) (D := D) (nx := nx) hT hn h7
  rw [e] at hf
  refine pm_Cwpost (c_L_sales hT.1 hf (fun v n' M1 h => ?_) (fun E n' M1 h => ?_)) fun o n' M' hp => pw_wrX (hl := [(1, (-11))]) hW hp rfl (by decide) hk0 hg fun val hv => ?_
  · obtain ⟨-, -, -, ⟨-, h5⟩ | ⟨-, h5⟩⟩ := h
    · cases h5; exact ⟨_, rfl⟩
    · cases h5
  · obtain ⟨-, -, -, ⟨-, h5⟩ | ⟨h4, h5⟩⟩ := h
    · cases h5
    · have h6 := Sum.inr.inj h5
      rcases hk0 with hk0 | ⟨e9, he9, hk0⟩
      · omega
      · rw [hk0] at h6
        simp only [List.mem_cons, List.not_mem_nil, or_false] at he9
        subst he9; exact h6
  · simp only [d_X12_sales] at hv hk0
    unfold pv_L_sales
    by_cases h0 : d_X10_hasMember x n r = 0
    · rw [if_pos h0] at hv ⊢
      rcases hv with ⟨h1, -⟩ | ⟨e9, he9, h1, h2⟩
      · cases h1
      · simp only [List.mem_cons, List.not_mem_nil, or_false] at he9
        subst he9; exact h2
    · rw [if_neg h0] at hv ⊢
      rcases hv with ⟨-, h1⟩ | ⟨e9, he9, h1, h2⟩
      · first | exact h1 | (rw [h1]; rfl)
      · simp only [List.mem_cons, List.not_mem_nil, or_false] at he9
        subst he9; cases h1
theorem pv_L_sales_in {n i : Nat} {r : Nat → Int32} (hi : i < n) (h7 : n ≤ 7) : pv_L_sales n r (nI i) = r (7 + 6 * i + 3) := by
  unfold pv_L_sales
  rw [if_neg (pw_hm hi h7), pm_n_nI (by omega)]
  try rfl
theorem pv_L_sales_n {n : Nat} {r : Nat → Int32} (h7 : n ≤ 7) : pv_L_sales n r (nI n) = (-11) := if_pos (pw_hn h7)
theorem pv_L_sales_z {n : Nat} {r : Nat → Int32} : pv_L_sales n r (-1) = (-11) := if_pos pw_hz
def pv_L_excess (n : Nat) (r : Nat → Int32) (x : Int32) : Int32 := if d_X10_hasMember x n r = 0 then (-11) else (pw_xs r (pm_n x))
theorem b_L_excess {l : Launch} {z : Nat} {D : va_G} {kA : Nat → ClassId} {kE : Nat → Nat} {B n : Nat} {r : Nat → Int32} {hs : List (Nat → Int32)} {u : Nat × List Nat} {ar : List (Nat × va_E)} (hI : pm_I B n r) {x : Int32}  : ∀ nx M, (pw_W z kA kE (B, r, hs, u) ar) nx M → pm_Cw l z D kA kE yL_excess cL_excess 3 (some .int) [(0, 5, 6, 22)] 21 2 12 [.ref (z + 0), .int x] nx M (pw_P (some (.int (pv_L_excess n r x))) (pw_W z kA kE (B, r, hs, u) ar)) := by
  intro nx M hW
  have h7 : n ≤ 7 := hI.1.2.1
  obtain ⟨g, hT, hg⟩ := id hW.2.2.2
  have e : g.1 0 = r := hg.1
  have hn : g.1 0 0 = nI n := by rw [e]; exact hI.1.1
  
  have hk0 : (d_X12_excess x n r (g.1 12)).1 = 0 ∨ ∃ e ∈ ([(1, (-11))] : List (Nat × Int32)), (d_X12_excess x n r (g.1 12)).1 = e.1 := (by simp only [d_X12_excess]; (repeat' split) <;> simp)
  have hf := f_X12_excess (x := x) (l := l) (D := D) (nx := nx) hT hn h7
  rw [e] at hf
  refine pm_Cwpost (c_L_excess hT.1 hf (fun v n' M1 h => ?_) (fun E n' M1 h => ?_)) fun o n' M' hp => pw_wrX (hl := [(1, (-11))]) hW hp rfl (by decide) hk0 hg fun val hv => ?_
  · obtain ⟨-, -, -, ⟨-, h5⟩ | ⟨-, h5⟩⟩ := h
    · cases h5; exact ⟨_, rfl⟩
    · cases h5
  · obtain ⟨-, -, -, ⟨-, h5⟩ | ⟨h4, h5⟩⟩ := h
    · cases h5
    · have h6 := Sum.inr.inj h5
      rcases hk0 with hk0 | ⟨e9, he9, hk0⟩
      · omega
      · rw [hk0] at h6
        simp only [List.mem_cons, List.not_mem_nil, or_false] at he9
        subst he9; exact h6
  · simp only [d_X12_excess] at hv hk0
    unfold pv_L_excess
    by_cases h0 : d_X10_hasMember x n r = 0
    · rw [if_pos h0] at hv ⊢
      rcases hv with ⟨h1, -⟩ | ⟨e9, he9, h1, h2⟩
      · cases h1
      · simp only [List.mem_cons, List.not_mem_nil, or_false] at he9
        subst he9; exact h2
    · rw [if_neg h0] at hv ⊢
      rcases hv with ⟨-, h1⟩ | ⟨e9, he9, h1, h2⟩
      · first | exact h1 | (rw [h1]; rfl)
      · simp only [List.mem_cons, List.not_mem_nil, or_false] at he9
        subst he9; cases h1
theorem pv_L_excess_in {n i : Nat} {r : Nat → Int32} (hi : i < n) (h7 : n ≤ 7) : pv_L_excess n r (nI i) = pw_xs r i := by
  unfold pv_L_excess
  rw [if_neg (pw_hm hi h7), pm_n_nI (by omega)]
  try rfl
theorem pv_L_excess_n {n : Nat} {r : Nat → Int32} (h7 : n ≤ 7) : pv_L_excess n r (nI n) = (-11) := if_pos (pw_hn h7)
theorem pv_L_excess_z {n : Nat} {r : Nat → Int32} : pv_L_excess n r (-1) = (-11) := if_pos pw_hz
def pv_L_warnings (n : Nat) (r : Nat → Int32) (x : Int32) : Int32 := if d_X10_hasMember x n r = 0 then (-11) else (pw_wa r (pm_n x))
theorem b_L_warnings {l : Launch} {z : Nat} {D : va_G} {kA : Nat → ClassId} {kE : Nat → Nat} {B n : Nat} {r : Nat → Int32} {hs : List (Nat → Int32)} {u : Nat × List Nat} {ar : List (Nat × va_E)} (hI : pm_I B n r) {x : Int32}  : ∀ nx M, (pw_W z kA kE (B, r, hs, u) ar) nx M → pm_Cw l z D kA kE yL_warnings cL_warnings 3 (some .int) [(0, 5, 6, 22), (0, 5, 10, 37)] 21 2 12 [.ref (z + 0), .int x] nx M (pw_P (some (.int (pv_L_warnings n r x))) (pw_W z kA kE (B, r, hs, u) ar)) := by
  intro nx M hW
  have h7 : n ≤ 7 := hI.1.2.1
  obtain ⟨g, hT, hg⟩ := id hW.2.2.2
  have e : g.1 0 = r := hg.1
  have hn : g.1 0 0 = nI n := by rw [e]; exact hI.1.1
  
  have hk0 : (d_X12_warnings x n r (g.1 12)).1 = 0 ∨ ∃ e ∈ ([(1, (-11)), (4, (-13))] : List (Nat × Int32)), (d_X12_warnings x n r (g.1 12)).1 = e.1 := (by simp only [d_X12_warnings]; (repeat' split) <;> simp)
  have hf := f_X12_warnings (x := x) (l := l) (D := D) (nx := nx) hT hn h7
  rw [e] at hf
  refine pm_Cwpost (c_L_warnings hT.1 hf (fun v n' M1 h => ?_) (fun E n' M1 h => ?_)) fun o n' M' hp => pw_wrX (hl := [(1, (-11)), (4, (-13))]) hW hp rfl (by decide) hk0 hg fun val hv => ?_
  · obtain ⟨-, -, -, ⟨-, h5⟩ | ⟨-, h5⟩⟩ := h
    · cases h5; exact ⟨_, rfl⟩
    · cases h5
  · obtain ⟨-, -, -, ⟨-, h5⟩ | ⟨h4, h5⟩⟩ := h
    · cases h5
    · have h6 := Sum.inr.inj h5
      rcases hk0 with hk0 | ⟨e9, he9, hk0⟩
      · omega
      · rw [hk0] at h6
        simp only [List.mem_cons, List.not_mem_nil, or_false] at he9
        rcases he9 with rfl | rfl <;> first | exact Or.inl h6 | exact Or.inr h6 | exact Or.inr (Or.inl h6) | exact Or.inr (Or.inr h6)
  · simp only [d_X12_warnings] at hv hk0
    unfold pv_L_warnings pw_wa
    by_cases h0 : d_X10_hasMember x n r = 0
    · rw [if_pos h0] at hv ⊢
      rcases hv with ⟨h1, -⟩ | ⟨e9, he9, h1, h2⟩
      · cases h1
      · simp only [List.mem_cons, List.not_mem_nil, or_false] at he9
        rcases he9 with rfl | rfl
        · exact h2
        · cases h1
    · rw [if_neg h0] at hv ⊢
      by_cases h9 : r (7 + 6 * (pm_n x) + 4) = 0
      · rw [if_pos h9] at hv
        rw [if_pos h9]
        rcases hv with ⟨h1, -⟩ | ⟨e9, he9, h1, h2⟩
        · cases h1
        · simp only [List.mem_cons, List.not_mem_nil, or_false] at he9
          rcases he9 with rfl | rfl
          · cases h1
          · exact h2
      · rw [if_neg h9] at hv
        rw [if_neg h9]
        rcases hv with ⟨-, h1⟩ | ⟨e9, he9, h1, h2⟩
        · exact h1
        · simp only [List.mem_cons, List.not_mem_nil, or_false] at he9
          rcases he9 with rfl | rfl <;> cases h1
theorem pv_L_warnings_in {n i : Nat} {r : Nat → Int32} (hi : i < n) (h7 : n ≤ 7) : pv_L_warnings n r (nI i) = pw_wa r i := by
  unfold pv_L_warnings
  rw [if_neg (pw_hm hi h7), pm_n_nI (by omega)]
  try rfl
theorem pv_L_warnings_n {n : Nat} {r : Nat → Int32} (h7 : n ≤ 7) : pv_L_warnings n r (nI n) = (-11) := if_pos (pw_hn h7)
theorem pv_L_warnings_z {n : Nat} {r : Nat → Int32} : pv_L_warnings n r (-1) = (-11) := if_pos pw_hz
def pv_L_barred (n : Nat) (r : Nat → Int32) (x : Int32) : Int32 := if d_X10_hasMember x n r = 0 then (-11) else (pw_ba r (pm_n x))
theorem b_L_barred {l : Launch} {z : Nat} {D : va_G} {kA : Nat → ClassId} {kE : Nat → Nat} {B n : Nat} {r : Nat → Int32} {hs : List (Nat → Int32)} {u : Nat × List Nat} {ar : List (Nat × va_E)} (hI : pm_I B n r) {x : Int32}  : ∀ nx M, (pw_W z kA kE (B, r, hs, u) ar) nx M → pm_Cw l z D kA kE yL_barred cL_barred 3 (some .int) [(0, 5, 6, 22), (0, 5, 10, 37)] 21 2 12 [.ref (z + 0), .int x] nx M (pw_P (some (.int (pv_L_barred n r x))) (pw_W z kA kE (B, r, hs, u) ar)) := by
  intro nx M hW
  have h7 : n ≤ 7 := hI.1.2.1
  obtain ⟨g, hT, hg⟩ := id hW.2.2.2
  have e : g.1 0 = r := hg.1
  have hn : g.1 0 0 = nI n := by rw [e]; exact hI.1.1
  
  have hk0 : (d_X12_barredMonths x n r (g.1 12)).1 = 0 ∨ ∃ e ∈ ([(1, (-11)), (4, (-13))] : List (Nat × Int32)), (d_X12_barredMonths x n r (g.1 12)).1 = e.1 := (by simp only [d_X12_barredMonths]; (repeat' split) <;> simp)
  have hf := f_X12_barredMonths (x := x) (l := l) (D := D) (nx := nx) hT hn h7
  rw [e] at hf
  refine pm_Cwpost (c_L_barred hT.1 hf (fun v n' M1 h => ?_) (fun E n' M1 h => ?_)) fun o n' M' hp => pw_wrX (hl := [(1, (-11)), (4, (-13))]) hW hp rfl (by decide) hk0 hg fun val hv => ?_
  · obtain ⟨-, -, -, ⟨-, h5⟩ | ⟨-, h5⟩⟩ := h
    · cases h5; exact ⟨_, rfl⟩
    · cases h5
  · obtain ⟨-, -, -, ⟨-, h5⟩ | ⟨h4, h5⟩⟩ := h
    · cases h5
    · have h6 := Sum.inr.inj h5
      rcases hk0 with hk0 | ⟨e9, he9, hk0⟩
      · omega
      · rw [hk0] at h6
        simp only [List.mem_cons, List.not_mem_nil, or_false] at he9
        rcases he9 with rfl | rfl <;> first | exact Or.inl h6 | exact Or.inr h6 | exact Or.inr (Or.inl h6) | exact Or.inr (Or.inr h6)
  · simp only [d_X12_barredMonths] at hv hk0
    unfold pv_L_barred pw_ba
    by_cases h0 : d_X10_hasMember x n r = 0
    · rw [if_pos h0] at hv ⊢
      rcases hv with ⟨h1, -⟩ | ⟨e9, he9, h1, h2⟩
      · cases h1
      · simp only [List.mem_cons, List.not_mem_nil, or_false] at he9
        rcases he9 with rfl | rfl
        · exact h2
        · cases h1
    · rw [if_neg h0] at hv ⊢
      by_cases h9 : r (7 + 6 * (pm_n x) + 5) = 0
      · rw [if_pos h9] at hv
        rw [if_pos h9]
        rcases hv with ⟨h1, -⟩ | ⟨e9, he9, h1, h2⟩
        · cases h1
        · simp only [List.mem_cons, List.not_mem_nil, or_false] at he9
          rcases he9 with rfl | rfl
          · cases h1
          · exact h2
      · rw [if_neg h9] at hv
        rw [if_neg h9]
        rcases hv with ⟨-, h1⟩ | ⟨e9, he9, h1, h2⟩
        · exact h1
        · simp only [List.mem_cons, List.not_mem_nil, or_false] at he9
          rcases he9 with rfl | rfl <;> cases h1
theorem pv_L_barred_in {n i : Nat} {r : Nat → Int32} (hi : i < n) (h7 : n ≤ 7) : pv_L_barred n r (nI i) = pw_ba r i := by
  unfold pv_L_barred
  rw [if_neg (pw_hm hi h7), pm_n_nI (by omega)]
  try rfl
theorem pv_L_barred_n {n : Nat} {r : Nat → Int32} (h7 : n ≤ 7) : pv_L_barred n r (nI n) = (-11) := if_pos (pw_hn h7)
theorem pv_L_barred_z {n : Nat} {r : Nat → Int32} : pv_L_barred n r (-1) = (-11) := if_pos pw_hz
theorem pv_as {z : Nat} {kA : Nat → ClassId} {kE : Nat → Nat} {l : Launch} {D : va_G} {y : MethodName} {cc : ByteArray} {nL : Nat} {ret : Option FieldType} {hh : List (Nat × Nat × Nat × Nat)} {d mc ms : Nat} {As : List Value} {G : pw_G} {ar : List (Nat × va_E)} {V V' : Int32} (h : V = V') (k : ∀ nx M, pw_W z kA kE G ar nx M → pm_Cw l z D kA kE y cc nL ret hh d mc ms As nx M (pw_P (some (.int V)) (pw_W z kA kE G ar))) : ∀ nx M, pw_W z kA kE G ar nx M → pm_Cw l z D kA kE y cc nL ret hh d mc ms As nx M (pw_P (some (.int V')) (pw_W z kA kE G ar)) := h ▸ k
def pv_L_standing (n : Nat) (r : Nat → Int32) (x : Int32) : Int32 := if d_X10_hasMember x n r = 0 then ((-11)) else (pw_st r (pm_n x))
theorem b_L_standing {l : Launch} {z : Nat} {D : va_G} {kA : Nat → ClassId} {kE : Nat → Nat} {B n : Nat} {r : Nat → Int32} {hs : List (Nat → Int32)} {u : Nat × List Nat} {ar : List (Nat × va_E)} (hI : pm_I B n r) {x : Int32}  : ∀ nx M, (pw_W z kA kE (B, r, hs, u) ar) nx M → pm_Cw l z D kA kE yL_standing cL_standing 3 (some .int) [(0, 5, 6, 22)] 21 2 12 [.ref (z + 0), .int x] nx M (pw_P (some (.int (pv_L_standing n r x))) (pw_W z kA kE (B, r, hs, u) ar)) := by
  intro nx M hW
  have h7 : n ≤ 7 := hI.1.2.1
  obtain ⟨g, hT, hg⟩ := id hW.2.2.2
  have e : g.1 0 = r := hg.1
  have hn : g.1 0 0 = nI n := by rw [e]; exact hI.1.1
  have ha9 : (d_X12_standing x n r (g.1 12)).1 = (if d_X10_hasMember x n r = 0 then ((1 : Nat), (0 : Int32)) else ((0 : Nat), (pw_st r (pm_n x) : Int32))).1 := by (simp only [d_X12_standing, pw_st]) <;> (repeat' split) <;> rfl
  have hb9 : (d_X12_standing x n r (g.1 12)).2 = (if d_X10_hasMember x n r = 0 then ((1 : Nat), (0 : Int32)) else ((0 : Nat), (pw_st r (pm_n x) : Int32))).2 := by (simp only [d_X12_standing, pw_st]) <;> (repeat' split) <;> rfl
  have hk0 : (d_X12_standing x n r (g.1 12)).1 = 0 ∨ ∃ e ∈ ([(1, (-11))] : List (Nat × Int32)), (d_X12_standing x n r (g.1 12)).1 = e.1 := (by rw [ha9]; (repeat' split) <;> simp)
  have hf := f_X12_standing (x := x) (l := l) (D := D) (nx := nx) hT hn h7
  rw [e] at hf
  refine pm_Cwpost (c_L_standing hT.1 hf (fun v n' M1 h => ?_) (fun E n' M1 h => ?_)) fun o n' M' hp => pw_wrX (hl := [(1, (-11))]) hW hp rfl (by decide) hk0 hg fun val hv => ?_
  · obtain ⟨-, -, -, ⟨-, h5⟩ | ⟨-, h5⟩⟩ := h
    · cases h5; exact ⟨_, rfl⟩
    · cases h5
  · obtain ⟨-, -, -, ⟨-, h5⟩ | ⟨h4, h5⟩⟩ := h
    · cases h5
    · have h6 := Sum.inr.inj h5
      rcases hk0 with hk0 | ⟨e9, he9, hk0⟩
      · omega
      · rw [hk0] at h6
        simp only [List.mem_cons, List.not_mem_nil, or_false] at he9
        subst he9; exact h6
  · rw [ha9, hb9] at hv
    unfold pv_L_standing
    by_cases hc2 : d_X10_hasMember x n r = 0
    · rw [if_pos hc2] at hv ⊢
      rcases hv with ⟨h1, -⟩ | ⟨e9, he9, h1, h2⟩
      · cases h1
      · simp only [List.mem_cons, List.not_mem_nil, or_false] at he9
        subst he9; exact h2
    · rw [if_neg hc2] at hv ⊢
      rcases hv with ⟨-, h1⟩ | ⟨e9, he9, h1, h2⟩
      · exact h1
      · simp only [List.mem_cons, List.not_mem_nil, or_false] at he9
        subst he9; cases h1
theorem pv_L_standing_in {n i : Nat} {r : Nat → Int32} (hi : i < n) (h7 : n ≤ 7) : pv_L_standing n r (nI i) = pw_st r i := by
  unfold pv_L_standing
  rw [if_neg (pw_hm hi h7), pm_n_nI (by omega)]
theorem pv_L_standing_n {n : Nat} {r : Nat → Int32} (h7 : n ≤ 7) : pv_L_standing n r (nI n) = (-11) := if_pos (pw_hn h7)
theorem pv_L_standing_z {n : Nat} {r : Nat → Int32} : pv_L_standing n r (-1) = (-11) := if_pos pw_hz
def pv_L_swings (n : Nat) (r : Nat → Int32) (x : Int32) : Int32 := if d_X10_hasMember x n r = 0 then ((-11)) else if r (7 + 6 * (pm_n x) + 5) = 0 then (d_X11_swingsBySets (pm_n x) n r) else ((-13))
theorem b_L_swings {l : Launch} {z : Nat} {D : va_G} {kA : Nat → ClassId} {kE : Nat → Nat} {B n : Nat} {r : Nat → Int32} {hs : List (Nat → Int32)} {u : Nat × List Nat} {ar : List (Nat × va_E)} (hI : pm_I B n r) {x : Int32}  : ∀ nx M, (pw_W z kA kE (B, r, hs, u) ar) nx M → pm_Cw l z D kA kE yL_swings cL_swings 3 (some .int) [(0, 5, 6, 22), (0, 5, 10, 37)] 21 2 12 [.ref (z + 0), .int x] nx M (pw_P (some (.int (pv_L_swings n r x))) (pw_W z kA kE (B, r, hs, u) ar)) := by
  intro nx M hW
  have h7 : n ≤ 7 := hI.1.2.1
  obtain ⟨g, hT, hg⟩ := id hW.2.2.2
  have e : g.1 0 = r := hg.1
  have hn : g.1 0 0 = nI n := by rw [e]; exact hI.1.1
  have ha9 : (d_X12_swings x n r (g.1 12)).1 = (if d_X10_hasMember x n r = 0 then ((1 : Nat), (0 : Int32)) else if r (7 + 6 * (pm_n x) + 5) = 0 then ((0 : Nat), (d_X11_swingsBySets (pm_n x) n r : Int32)) else ((4 : Nat), (0 : Int32))).1 := by (simp only [d_X12_swings]) <;> (repeat' split) <;> rfl
  have hb9 : (d_X12_swings x n r (g.1 12)).2 = (if d_X10_hasMember x n r = 0 then ((1 : Nat), (0 : Int32)) else if r (7 + 6 * (pm_n x) + 5) = 0 then ((0 : Nat), (d_X11_swingsBySets (pm_n x) n r : Int32)) else ((4 : Nat), (0 : Int32))).2 := by (simp only [d_X12_swings]) <;> (repeat' split) <;> rfl
  have hk0 : (d_X12_swings x n r (g.1 12)).1 = 0 ∨ ∃ e ∈ ([(1, (-11)), (4, (-13))] : List (Nat × Int32)), (d_X12_swings x n r (g.1 12)).1 = e.1 := (by rw [ha9]; (repeat' split) <;> simp)
  have hf := f_X12_swings (x := x) (l := l) (D := D) (nx := nx) hT hn h7
  rw [e] at hf
  refine pm_Cwpost (c_L_swings hT.1 hf (fun v n' M1 h => ?_) (fun E n' M1 h => ?_)) fun o n' M' hp => pw_wrX (hl := [(1, (-11)), (4, (-13))]) hW hp rfl (by decide) hk0 hg fun val hv => ?_
  · obtain ⟨-, -, -, ⟨-, h5⟩ | ⟨-, h5⟩⟩ := h
    · cases h5; exact ⟨_, rfl⟩
    · cases h5
  · obtain ⟨-, -, -, ⟨-, h5⟩ | ⟨h4, h5⟩⟩ := h
    · cases h5
    · have h6 := Sum.inr.inj h5
      rcases hk0 with hk0 | ⟨e9, he9, hk0⟩
      · omega
      · rw [hk0] at h6
        simp only [List.mem_cons, List.not_mem_nil, or_false] at he9
        rcases he9 with rfl | rfl <;> first | exact Or.inl h6 | exact Or.inr h6 | exact Or.inr (Or.inl h6) | exact Or.inr (Or.inr h6)
  · rw [ha9, hb9] at hv
    unfold pv_L_swings
    by_cases hc2 : d_X10_hasMember x n r = 0
    · rw [if_pos hc2] at hv ⊢
      rcases hv with ⟨h1, -⟩ | ⟨e9, he9, h1, h2⟩
      · cases h1
      · simp only [List.mem_cons, List.not_mem_nil, or_false] at he9
        rcases he9 with rfl | rfl <;> first | exact h2 | cases h1
    · rw [if_neg hc2] at hv ⊢
      by_cases hc3 : r (7 + 6 * (pm_n x) + 5) = 0
      · rw [if_pos hc3] at hv ⊢
        rcases hv with ⟨-, h1⟩ | ⟨e9, he9, h1, h2⟩
        · exact h1
        · simp only [List.mem_cons, List.not_mem_nil, or_false] at he9
          rcases he9 with rfl | rfl <;> cases h1
      · rw [if_neg hc3] at hv ⊢
        rcases hv with ⟨h1, -⟩ | ⟨e9, he9, h1, h2⟩
        · cases h1
        · simp only [List.mem_cons, List.not_mem_nil, or_false] at he9
          rcases he9 with rfl | rfl <;> first | exact h2 | cases h1
def pv_L_byCounts (n : Nat) (r : Nat → Int32) (x : Int32) : Int32 := if d_X10_hasMember x n r = 0 then ((-11)) else if r (7 + 6 * (pm_n x) + 5) = 0 then (d_X11_swingsBySets (pm_n x) n r) else ((-13))
theorem b_L_byCounts {l : Launch} {z : Nat} {D : va_G} {kA : Nat → ClassId} {kE : Nat → Nat} {B n : Nat} {r : Nat → Int32} {hs : List (Nat → Int32)} {u : Nat × List Nat} {ar : List (Nat × va_E)} (hI : pm_I B n r) {x : Int32}  : ∀ nx M, (pw_W z kA kE (B, r, hs, u) ar) nx M → pm_Cw l z D kA kE yL_byCounts cL_byCounts 3 (some .int) [(0, 5, 6, 22), (0, 5, 10, 37)] 21 2 12 [.ref (z + 0), .int x] nx M (pw_P (some (.int (pv_L_byCounts n r x))) (pw_W z kA kE (B, r, hs, u) ar)) := by
  intro nx M hW
  have h7 : n ≤ 7 := hI.1.2.1
  obtain ⟨g, hT, hg⟩ := id hW.2.2.2
  have e : g.1 0 = r := hg.1
  have hn : g.1 0 0 = nI n := by rw [e]; exact hI.1.1
  have ha9 : (d_X12_swingsByCounts x n r (g.1 6) (g.1 12)).1 = (if d_X10_hasMember x n r = 0 then ((1 : Nat), (0 : Int32)) else if r (7 + 6 * (pm_n x) + 5) = 0 then ((0 : Nat), (d_X11_swingsBySets (pm_n x) n r : Int32)) else ((4 : Nat), (0 : Int32))).1 := by (simp only [d_X12_swingsByCounts]) <;> (repeat' split) <;> rfl
  have hb9 : (d_X12_swingsByCounts x n r (g.1 6) (g.1 12)).2.1 = (if d_X10_hasMember x n r = 0 then ((1 : Nat), (0 : Int32)) else if r (7 + 6 * (pm_n x) + 5) = 0 then ((0 : Nat), (d_X11_swingsBySets (pm_n x) n r : Int32)) else ((4 : Nat), (0 : Int32))).2 := by
    simp only [d_X12_swingsByCounts]
    split
    · rfl
    · rename_i hq
      split
      · exact pn_swE (by obtain ⟨i9, h9, e9⟩ := pm_hmx h7 hq; rw [e9, pm_n_nI (by omega)]; exact h9) hI.2.1 h7
      · rfl
  have hk0 : (d_X12_swingsByCounts x n r (g.1 6) (g.1 12)).1 = 0 ∨ ∃ e ∈ ([(1, (-11)), (4, (-13))] : List (Nat × Int32)), (d_X12_swingsByCounts x n r (g.1 6) (g.1 12)).1 = e.1 := (by rw [ha9]; (repeat' split) <;> simp)
  have hf := f_X12_swingsByCounts (x := x) (l := l) (D := D) (nx := nx) hT hn h7 (by rw [e]; exact hI.2.1)
  rw [e] at hf
  refine pm_Cwpost (c_L_byCounts hT.1 hf (fun v n' M1 h => ?_) (fun E n' M1 h => ?_)) fun o n' M' hp => pw_wrX (hl := [(1, (-11)), (4, (-13))]) hW hp rfl (by decide) hk0 (show pw_g (B, r, hs, u) (pm_k130 g _) from hg) fun val hv => ?_
  · obtain ⟨-, -, -, ⟨-, h5⟩ | ⟨-, h5⟩⟩ := h
    · cases h5; exact ⟨_, rfl⟩
    · cases h5
  · obtain ⟨-, -, -, ⟨-, h5⟩ | ⟨h4, h5⟩⟩ := h
    · cases h5
    · have h6 := Sum.inr.inj h5
      rcases hk0 with hk0 | ⟨e9, he9, hk0⟩
      · omega
      · rw [hk0] at h6
        simp only [List.mem_cons, List.not_mem_nil, or_false] at he9
        rcases he9 with rfl | rfl <;> first | exact Or.inl h6 | exact Or.inr h6 | exact Or.inr (Or.inl h6) | exact Or.inr (Or.inr h6)
  · rw [ha9, hb9] at hv
    unfold pv_L_byCounts
    by_cases hc2 : d_X10_hasMember x n r = 0
    · rw [if_pos hc2] at hv ⊢
      rcases hv with ⟨h1, -⟩ | ⟨e9, he9, h1, h2⟩
      · cases h1
      · simp only [List.mem_cons, List.not_mem_nil, or_false] at he9
        rcases he9 with rfl | rfl <;> first | exact h2 | cases h1
    · rw [if_neg hc2] at hv ⊢
      by_cases hc3 : r (7 + 6 * (pm_n x) + 5) = 0
      · rw [if_pos hc3] at hv ⊢
        rcases hv with ⟨-, h1⟩ | ⟨e9, he9, h1, h2⟩
        · exact h1
        · simp only [List.mem_cons, List.not_mem_nil, or_false] at he9
          rcases he9 with rfl | rfl <;> cases h1
      · rw [if_neg hc3] at hv ⊢
        rcases hv with ⟨h1, -⟩ | ⟨e9, he9, h1, h2⟩
        · cases h1
        · simp only [List.mem_cons, List.not_mem_nil, or_false] at he9
          rcases he9 with rfl | rfl <;> first | exact h2 | cases h1
theorem pv_L_swings_in {n i : Nat} {r : Nat → Int32} (hi : i < n) (h7 : n ≤ 7) : pv_L_swings n r (nI i) = pw_sw n r i := by
  unfold pv_L_swings pw_sw
  rw [if_neg (pw_hm hi h7), pm_n_nI (by omega)]
theorem pv_L_swings_n {n : Nat} {r : Nat → Int32} (h7 : n ≤ 7) : pv_L_swings n r (nI n) = (-11) := if_pos (pw_hn h7)
theorem pv_L_swings_z {n : Nat} {r : Nat → Int32} : pv_L_swings n r (-1) = (-11) := if_pos pw_hz
theorem pv_L_byCounts_in {n i : Nat} {r : Nat → Int32} (hi : i < n) (h7 : n ≤ 7) : pv_L_byCounts n r (nI i) = pw_sw n r i := by
  unfold pv_L_byCounts pw_sw
  rw [if_neg (pw_hm hi h7), pm_n_nI (by omega)]
theorem pv_L_byCounts_n {n : Nat} {r : Nat → Int32} (h7 : n ≤ 7) : pv_L_byCounts n r (nI n) = (-11) := if_pos (pw_hn h7)
theorem pv_L_byCounts_z {n : Nat} {r : Nat → Int32} : pv_L_byCounts n r (-1) = (-11) := if_pos pw_hz
def pv_L_share (n : Nat) (r : Nat → Int32) (x : Int32) : Int32 := if d_X10_hasMember x n r = 0 then ((-11)) else (pw_sh n r (pm_n x))
theorem b_L_share {l : Launch} {z : Nat} {D : va_G} {kA : Nat → ClassId} {kE : Nat → Nat} {B n : Nat} {r : Nat → Int32} {hs : List (Nat → Int32)} {u : Nat × List Nat} {ar : List (Nat × va_E)} (hI : pm_I B n r) {x : Int32}  : ∀ nx M, (pw_W z kA kE (B, r, hs, u) ar) nx M → pm_Cw l z D kA kE yL_share cL_share 3 (some .int) [(0, 5, 6, 22)] 21 2 12 [.ref (z + 0), .int x] nx M (pw_P (some (.int (pv_L_share n r x))) (pw_W z kA kE (B, r, hs, u) ar)) := by
  intro nx M hW
  have h7 : n ≤ 7 := hI.1.2.1
  obtain ⟨g, hT, hg⟩ := id hW.2.2.2
  have e : g.1 0 = r := hg.1
  have hn : g.1 0 0 = nI n := by rw [e]; exact hI.1.1
  have ha9 : (d_X12_share x n r (g.1 7) (fun _ => g.2.2.2.1) (g.1 12)).1 = (if d_X10_hasMember x n r = 0 then ((1 : Nat), (0 : Int32)) else ((0 : Nat), (pw_sh n r (pm_n x) : Int32))).1 := by (simp only [d_X12_share]) <;> (repeat' split) <;> rfl
  have hb9 : (d_X12_share x n r (g.1 7) (fun _ => g.2.2.2.1) (g.1 12)).2.1 = (if d_X10_hasMember x n r = 0 then ((1 : Nat), (0 : Int32)) else ((0 : Nat), (pw_sh n r (pm_n x) : Int32))).2 := by
    simp only [d_X12_share]
    split
    · rfl
    · rename_i hq; exact (pw_shE hI.2.1 h7 (by obtain ⟨i9, h9, e9⟩ := pm_hmx h7 hq; rw [e9, pm_n_nI (by omega)]; exact h9)).1
  have hk0 : (d_X12_share x n r (g.1 7) (fun _ => g.2.2.2.1) (g.1 12)).1 = 0 ∨ ∃ e ∈ ([(1, (-11))] : List (Nat × Int32)), (d_X12_share x n r (g.1 7) (fun _ => g.2.2.2.1) (g.1 12)).1 = e.1 := (by rw [ha9]; (repeat' split) <;> simp)
  have hf := f_X12_share (x := x) (l := l) (D := D) (nx := nx) hT hn h7
  rw [e] at hf
  refine pm_Cwpost (c_L_share hT.1 hf (fun v n' M1 h => ?_) (fun E n' M1 h => ?_)) fun o n' M' hp => pw_wrX (hl := [(1, (-11))]) hW hp rfl (by decide) hk0 (show pw_g (B, r, hs, u) (pm_kcu g _ _) from hg) fun val hv => ?_
  · obtain ⟨-, -, -, ⟨-, h5⟩ | ⟨-, h5⟩⟩ := h
    · cases h5; exact ⟨_, rfl⟩
    · cases h5
  · obtain ⟨-, -, -, ⟨-, h5⟩ | ⟨h4, h5⟩⟩ := h
    · cases h5
    · have h6 := Sum.inr.inj h5
      rcases hk0 with hk0 | ⟨e9, he9, hk0⟩
      · omega
      · rw [hk0] at h6
        simp only [List.mem_cons, List.not_mem_nil, or_false] at he9
        subst he9; exact h6
  · rw [ha9, hb9] at hv
    unfold pv_L_share
    by_cases hc2 : d_X10_hasMember x n r = 0
    · rw [if_pos hc2] at hv ⊢
      rcases hv with ⟨h1, -⟩ | ⟨e9, he9, h1, h2⟩
      · cases h1
      · simp only [List.mem_cons, List.not_mem_nil, or_false] at he9
        subst he9; exact h2
    · rw [if_neg hc2] at hv ⊢
      rcases hv with ⟨-, h1⟩ | ⟨e9, he9, h1, h2⟩
      · exact h1
      · simp only [List.mem_cons, List.not_mem_nil, or_false] at he9
        subst he9; cases h1
theorem pv_L_share_in {n i : Nat} {r : Nat → Int32} (hi : i < n) (h7 : n ≤ 7) : pv_L_share n r (nI i) = pw_sh n r i := by
  unfold pv_L_share
  rw [if_neg (pw_hm hi h7), pm_n_nI (by omega)]
theorem pv_L_share_n {n : Nat} {r : Nat → Int32} (h7 : n ≤ 7) : pv_L_share n r (nI n) = (-11) := if_pos (pw_hn h7)
theorem pv_L_share_z {n : Nat} {r : Nat → Int32} : pv_L_share n r (-1) = (-11) := if_pos pw_hz
def pv_L_bySteps (n : Nat) (r : Nat → Int32) (x : Int32) : Int32 := if d_X10_hasMember x n r = 0 then ((-11)) else (pw_sh n r (pm_n x))
theorem b_L_bySteps {l : Launch} {z : Nat} {D : va_G} {kA : Nat → ClassId} {kE : Nat → Nat} {B n : Nat} {r : Nat → Int32} {hs : List (Nat → Int32)} {u : Nat × List Nat} {ar : List (Nat × va_E)} (hI : pm_I B n r) {x : Int32}  : ∀ nx M, (pw_W z kA kE (B, r, hs, u) ar) nx M → pm_Cw l z D kA kE yL_bySteps cL_bySteps 3 (some .int) [(0, 5, 6, 22)] 21 2 12 [.ref (z + 0), .int x] nx M (pw_P (some (.int (pv_L_bySteps n r x))) (pw_W z kA kE (B, r, hs, u) ar)) := by
  intro nx M hW
  have h7 : n ≤ 7 := hI.1.2.1
  obtain ⟨g, hT, hg⟩ := id hW.2.2.2
  have e : g.1 0 = r := hg.1
  have hn : g.1 0 0 = nI n := by rw [e]; exact hI.1.1
  have ha9 : (d_X12_shareBySteps x n r (g.1 7) (fun _ => g.2.2.2.1) (g.1 12)).1 = (if d_X10_hasMember x n r = 0 then ((1 : Nat), (0 : Int32)) else ((0 : Nat), (pw_sh n r (pm_n x) : Int32))).1 := by (simp only [d_X12_shareBySteps]) <;> (repeat' split) <;> rfl
  have hb9 : (d_X12_shareBySteps x n r (g.1 7) (fun _ => g.2.2.2.1) (g.1 12)).2.1 = (if d_X10_hasMember x n r = 0 then ((1 : Nat), (0 : Int32)) else ((0 : Nat), (pw_sh n r (pm_n x) : Int32))).2 := by
    simp only [d_X12_shareBySteps]
    split
    · rfl
    · rename_i hq; exact (pw_shE hI.2.1 h7 (by obtain ⟨i9, h9, e9⟩ := pm_hmx h7 hq; rw [e9, pm_n_nI (by omega)]; exact h9)).2
  have hk0 : (d_X12_shareBySteps x n r (g.1 7) (fun _ => g.2.2.2.1) (g.1 12)).1 = 0 ∨ ∃ e ∈ ([(1, (-11))] : List (Nat × Int32)), (d_X12_shareBySteps x n r (g.1 7) (fun _ => g.2.2.2.1) (g.1 12)).1 = e.1 := (by rw [ha9]; (repeat' split) <;> simp)
  have hf := f_X12_shareBySteps (x := x) (l := l) (D := D) (nx := nx) hT hn h7
  rw [e] at hf
  refine pm_Cwpost (c_L_bySteps hT.1 hf (fun v n' M1 h => ?_) (fun E n' M1 h => ?_)) fun o n' M' hp => pw_wrX (hl := [(1, (-11))]) hW hp rfl (by decide) hk0 (show pw_g (B, r, hs, u) (pm_kcu g _ _) from hg) fun val hv => ?_
  · obtain ⟨-, -, -, ⟨-, h5⟩ | ⟨-, h5⟩⟩ := h
    · cases h5; exact ⟨_, rfl⟩
    · cases h5
  · obtain ⟨-, -, -, ⟨-, h5⟩ | ⟨h4, h5⟩⟩ := h
    · cases h5
    · have h6 := Sum.inr.inj h5
      rcases hk0 with hk0 | ⟨e9, he9, hk0⟩
      · omega
      · rw [hk0] at h6
        simp only [List.mem_cons, List.not_mem_nil, or_false] at he9
        subst he9; exact h6
  · rw [ha9, hb9] at hv
    unfold pv_L_bySteps
    by_cases hc2 : d_X10_hasMember x n r = 0
    · rw [if_pos hc2] at hv ⊢
      rcases hv with ⟨h1, -⟩ | ⟨e9, he9, h1, h2⟩
      · cases h1
      · simp only [List.mem_cons, List.not_mem_nil, or_false] at he9
        subst he9; exact h2
    · rw [if_neg hc2] at hv ⊢
      rcases hv with ⟨-, h1⟩ | ⟨e9, he9, h1, h2⟩
      · exact h1
      · simp only [List.mem_cons, List.not_mem_nil, or_false] at he9
        subst he9; cases h1
theorem pv_L_bySteps_in {n i : Nat} {r : Nat → Int32} (hi : i < n) (h7 : n ≤ 7) : pv_L_bySteps n r (nI i) = pw_sh n r i := by
  unfold pv_L_bySteps
  rw [if_neg (pw_hm hi h7), pm_n_nI (by omega)]
theorem pv_L_bySteps_n {n : Nat} {r : Nat → Int32} (h7 : n ≤ 7) : pv_L_bySteps n r (nI n) = (-11) := if_pos (pw_hn h7)
theorem pv_L_bySteps_z {n : Nat} {r : Nat → Int32} : pv_L_bySteps n r (-1) = (-11) := if_pos pw_hz
def pv_L_drawnAt (n : Nat) (r : Nat → Int32) (x : Int32) : Int32 := if d_X10_hasMember x n r = 0 then ((-13)) else (pw_dr n r (pm_n x))
theorem b_L_drawnAt {l : Launch} {z : Nat} {D : va_G} {kA : Nat → ClassId} {kE : Nat → Nat} {B n : Nat} {r : Nat → Int32} {hs : List (Nat → Int32)} {u : Nat × List Nat} {ar : List (Nat × va_E)} (hI : pm_I B n r) {x : Int32}  : ∀ nx M, (pw_W z kA kE (B, r, hs, u) ar) nx M → pm_Cw l z D kA kE yL_drawnAt cL_drawnAt 3 (some .int) [(0, 5, 6, 37)] 21 2 12 [.ref (z + 0), .int x] nx M (pw_P (some (.int (pv_L_drawnAt n r x))) (pw_W z kA kE (B, r, hs, u) ar)) := by
  intro nx M hW
  have h7 : n ≤ 7 := hI.1.2.1
  obtain ⟨g, hT, hg⟩ := id hW.2.2.2
  have e : g.1 0 = r := hg.1
  have hn : g.1 0 0 = nI n := by rw [e]; exact hI.1.1
  have ha9 : (d_X12_drawnMember x n r (g.1 5) (g.1 12)).1 = (if d_X10_hasMember x n r = 0 then ((4 : Nat), (0 : Int32)) else ((0 : Nat), (pw_dr n r (pm_n x) : Int32))).1 := by (simp only [d_X12_drawnMember]) <;> (repeat' split) <;> rfl
  have hb9 : (d_X12_drawnMember x n r (g.1 5) (g.1 12)).2.1 = (if d_X10_hasMember x n r = 0 then ((4 : Nat), (0 : Int32)) else ((0 : Nat), (pw_dr n r (pm_n x) : Int32))).2 := by
    simp only [d_X12_drawnMember]
    split
    · rfl
    · rename_i hq; exact pw_drE (by obtain ⟨i9, h9, e9⟩ := pm_hmx h7 hq; rw [e9, pm_n_nI (by omega)]; exact h9) h7 hI.1.2.2.2.1.2
  have hk0 : (d_X12_drawnMember x n r (g.1 5) (g.1 12)).1 = 0 ∨ ∃ e ∈ ([(4, (-13))] : List (Nat × Int32)), (d_X12_drawnMember x n r (g.1 5) (g.1 12)).1 = e.1 := (by rw [ha9]; (repeat' split) <;> simp)
  have hf := f_X12_drawnMember (x := x) (l := l) (D := D) (nx := nx) hT hn h7 (by rw [e]; exact hI.1.2.2.2.1.1) (by rw [e]; exact hI.1.2.2.2.1.2)
  rw [e] at hf
  refine pm_Cwpost (c_L_drawnAt hT.1 hf (fun v n' M1 h => ?_) (fun E n' M1 h => ?_)) fun o n' M' hp => pw_wrX (hl := [(4, (-13))]) hW hp rfl (by decide) hk0 (show pw_g (B, r, hs, u) (pm_kdr g _) from hg) fun val hv => ?_
  · obtain ⟨-, -, -, ⟨-, h5⟩ | ⟨-, h5⟩⟩ := h
    · cases h5; exact ⟨_, rfl⟩
    · cases h5
  · obtain ⟨-, -, -, ⟨-, h5⟩ | ⟨h4, h5⟩⟩ := h
    · cases h5
    · have h6 := Sum.inr.inj h5
      rcases hk0 with hk0 | ⟨e9, he9, hk0⟩
      · omega
      · rw [hk0] at h6
        simp only [List.mem_cons, List.not_mem_nil, or_false] at he9
        subst he9; exact h6
  · rw [ha9, hb9] at hv
    unfold pv_L_drawnAt
    by_cases hc2 : d_X10_hasMember x n r = 0
    · rw [if_pos hc2] at hv ⊢
      rcases hv with ⟨h1, -⟩ | ⟨e9, he9, h1, h2⟩
      · cases h1
      · simp only [List.mem_cons, List.not_mem_nil, or_false] at he9
        subst he9; exact h2
    · rw [if_neg hc2] at hv ⊢
      rcases hv with ⟨-, h1⟩ | ⟨e9, he9, h1, h2⟩
      · exact h1
      · simp only [List.mem_cons, List.not_mem_nil, or_false] at he9
        subst he9; cases h1
theorem pv_L_drawnAt_in {n i : Nat} {r : Nat → Int32} (hi : i < n) (h7 : n ≤ 7) : pv_L_drawnAt n r (nI i) = pw_dr n r i := by
  unfold pv_L_drawnAt
  rw [if_neg (pw_hm hi h7), pm_n_nI (by omega)]
theorem pv_L_drawnAt_n {n : Nat} {r : Nat → Int32} (h7 : n ≤ 7) : pv_L_drawnAt n r (nI n) = (-13) := if_pos (pw_hn h7)
theorem pv_L_drawnAt_z {n : Nat} {r : Nat → Int32} : pv_L_drawnAt n r (-1) = (-13) := if_pos pw_hz
def pv_L_areLinked (n : Nat) (r : Nat → Int32) (x : Int32) (y : Int32) : Int32 := if d_X10_hasMember x n r = 0 then ((-11)) else if d_X10_hasMember y n r = 0 then ((-11)) else (pw_lk r (pm_n x) (pm_n y))
theorem b_L_areLinked {l : Launch} {z : Nat} {D : va_G} {kA : Nat → ClassId} {kE : Nat → Nat} {B n : Nat} {r : Nat → Int32} {hs : List (Nat → Int32)} {u : Nat × List Nat} {ar : List (Nat × va_E)} (hI : pm_I B n r) {x y : Int32}  : ∀ nx M, (pw_W z kA kE (B, r, hs, u) ar) nx M → pm_Cw l z D kA kE yL_areLinked cL_areLinked 4 (some .int) [(0, 14, 15, 22)] 21 2 12 [.ref (z + 0), .int x, .int y] nx M (pw_P (some (.int (pv_L_areLinked n r x y))) (pw_W z kA kE (B, r, hs, u) ar)) := by
  intro nx M hW
  have h7 : n ≤ 7 := hI.1.2.1
  obtain ⟨g, hT, hg⟩ := id hW.2.2.2
  have e : g.1 0 = r := hg.1
  have hn : g.1 0 0 = nI n := by rw [e]; exact hI.1.1
  have ha9 : (d_X12_areLinked x y n r (g.1 12)).1 = (if d_X10_hasMember x n r = 0 then ((1 : Nat), (0 : Int32)) else if d_X10_hasMember y n r = 0 then ((1 : Nat), (0 : Int32)) else ((0 : Nat), (pw_lk r (pm_n x) (pm_n y) : Int32))).1 := by (simp only [d_X12_areLinked, pw_lk]) <;> (repeat' split) <;> rfl
  have hb9 : (d_X12_areLinked x y n r (g.1 12)).2 = (if d_X10_hasMember x n r = 0 then ((1 : Nat), (0 : Int32)) else if d_X10_hasMember y n r = 0 then ((1 : Nat), (0 : Int32)) else ((0 : Nat), (pw_lk r (pm_n x) (pm_n y) : Int32))).2 := by (simp only [d_X12_areLinked, pw_lk]) <;> (repeat' split) <;> rfl
  have hk0 : (d_X12_areLinked x y n r (g.1 12)).1 = 0 ∨ ∃ e ∈ ([(1, (-11))] : List (Nat × Int32)), (d_X12_areLinked x y n r (g.1 12)).1 = e.1 := (by rw [ha9]; (repeat' split) <;> simp)
  have hf := f_X12_areLinked (x := x) (y := y) (l := l) (D := D) (nx := nx) hT hn h7
  rw [e] at hf
  refine pm_Cwpost (c_L_areLinked hT.1 hf (fun v n' M1 h => ?_) (fun E n' M1 h => ?_)) fun o n' M' hp => pw_wrX (hl := [(1, (-11))]) hW hp rfl (by decide) hk0 hg fun val hv => ?_
  · obtain ⟨-, -, -, ⟨-, h5⟩ | ⟨-, h5⟩⟩ := h
    · cases h5; exact ⟨_, rfl, by simp only [d_X12_areLinked]; (repeat' split) <;> simp⟩
    · cases h5
  · obtain ⟨-, -, -, ⟨-, h5⟩ | ⟨h4, h5⟩⟩ := h
    · cases h5
    · have h6 := Sum.inr.inj h5
      rcases hk0 with hk0 | ⟨e9, he9, hk0⟩
      · omega
      · rw [hk0] at h6
        simp only [List.mem_cons, List.not_mem_nil, or_false] at he9
        subst he9; exact h6
  · rw [ha9, hb9] at hv
    unfold pv_L_areLinked
    by_cases hc2 : d_X10_hasMember x n r = 0
    · rw [if_pos hc2] at hv ⊢
      rcases hv with ⟨h1, -⟩ | ⟨e9, he9, h1, h2⟩
      · cases h1
      · simp only [List.mem_cons, List.not_mem_nil, or_false] at he9
        subst he9; exact h2
    · rw [if_neg hc2] at hv ⊢
      by_cases hc3 : d_X10_hasMember y n r = 0
      · rw [if_pos hc3] at hv ⊢
        rcases hv with ⟨h1, -⟩ | ⟨e9, he9, h1, h2⟩
        · cases h1
        · simp only [List.mem_cons, List.not_mem_nil, or_false] at he9
          subst he9; exact h2
      · rw [if_neg hc3] at hv ⊢
        rcases hv with ⟨-, h1⟩ | ⟨e9, he9, h1, h2⟩
        · exact h1
        · simp only [List.mem_cons, List.not_mem_nil, or_false] at he9
          subst he9; cases h1
theorem pv_L_areLinked_in {n i j : Nat} {r : Nat → Int32} (hi : i < n) (hj : j < n) (h7 : n ≤ 7) : pv_L_areLinked n r (nI i) (nI j) = pw_lk r i j := by
  unfold pv_L_areLinked
  rw [if_neg (pw_hm hi h7), if_neg (pw_hm hj h7), pm_n_nI (by omega), pm_n_nI (by omega)]
theorem pv_L_areLinked_n {n : Nat} {r : Nat → Int32} {y : Int32} (h7 : n ≤ 7) : pv_L_areLinked n r (nI n) y = (-11) := if_pos (pw_hn h7)
theorem pv_L_areLinked_z {n : Nat} {r : Nat → Int32} (h0 : 0 < n) (h7 : n ≤ 7) : pv_L_areLinked n r 0 (-1) = (-11) := by
  unfold pv_L_areLinked
  rw [if_neg (show ¬ d_X10_hasMember 0 n r = 0 from pw_hm (i := 0) h0 h7), if_pos pw_hz]
def pv_L_quotaBy (n : Nat) (r : Nat → Int32) (x : Int32) (y : Int32) (v : Int32) : Int32 := if d_X10_hasMember x n r = 0 then ((-11)) else if pm_in y 0 300 = 0 then ((-12)) else if pm_in v 0 1 = 0 then ((-12)) else (pw_qb n r y v (pm_n x))
theorem b_L_quotaBy {l : Launch} {z : Nat} {D : va_G} {kA : Nat → ClassId} {kE : Nat → Nat} {B n : Nat} {r : Nat → Int32} {hs : List (Nat → Int32)} {u : Nat × List Nat} {ar : List (Nat × va_E)} (hI : pm_I B n r) {x y v : Int32}  : ∀ nx M, (pw_W z kA kE (B, r, hs, u) ar) nx M → pm_Cw l z D kA kE yL_quotaBy cL_quotaBy 5 (some .int) [(0, 7, 8, 22), (0, 7, 13, 14)] 21 2 12 [.ref (z + 0), .int x, .int y, .int v] nx M (pw_P (some (.int (pv_L_quotaBy n r x y v))) (pw_W z kA kE (B, r, hs, u) ar)) := by
  intro nx M hW
  have h7 : n ≤ 7 := hI.1.2.1
  obtain ⟨g, hT, hg⟩ := id hW.2.2.2
  have e : g.1 0 = r := hg.1
  have hn : g.1 0 0 = nI n := by rw [e]; exact hI.1.1
  have ha9 : (d_X12_quotaBy x y v n r (g.1 3) (g.1 4) (g.1 12)).1 = (if d_X10_hasMember x n r = 0 then ((1 : Nat), (0 : Int32)) else if pm_in y 0 300 = 0 then ((2 : Nat), (0 : Int32)) else if pm_in v 0 1 = 0 then ((2 : Nat), (0 : Int32)) else ((0 : Nat), (pw_qb n r y v (pm_n x) : Int32))).1 := by (simp only [d_X12_quotaBy]) <;> (repeat' split) <;> rfl
  have hb9 : (d_X12_quotaBy x y v n r (g.1 3) (g.1 4) (g.1 12)).2.1 = (if d_X10_hasMember x n r = 0 then ((1 : Nat), (0 : Int32)) else if pm_in y 0 300 = 0 then ((2 : Nat), (0 : Int32)) else if pm_in v 0 1 = 0 then ((2 : Nat), (0 : Int32)) else ((0 : Nat), (pw_qb n r y v (pm_n x) : Int32))).2 := by
    simp only [d_X12_quotaBy]
    split
    · rfl
    · rename_i hq
      split
      · rfl
      · rename_i hq2
        split
        · rfl
        · rename_i hq3; exact pw_qbG hI.2.1 h7 hq2 hq3 (by obtain ⟨i9, h9, e9⟩ := pm_hmx h7 hq; rw [e9, pm_n_nI (by omega)]; exact h9)
  have hk0 : (d_X12_quotaBy x y v n r (g.1 3) (g.1 4) (g.1 12)).1 = 0 ∨ ∃ e ∈ ([(1, (-11)), (2, (-12))] : List (Nat × Int32)), (d_X12_quotaBy x y v n r (g.1 3) (g.1 4) (g.1 12)).1 = e.1 := (by rw [ha9]; (repeat' split) <;> simp)
  have hf := f_X12_quotaBy (x := x) (y := y) (w := v) (l := l) (D := D) (nx := nx) hT hn h7
  rw [e] at hf
  refine pm_Cwpost (c_L_quotaBy hT.1 hf (fun v n' M1 h => ?_) (fun E n' M1 h => ?_)) fun o n' M' hp => pw_wrX (hl := [(1, (-11)), (2, (-12))]) hW hp rfl (by decide) hk0 (show pw_g (B, r, hs, u) (pm_kqm g _ _) from hg) fun val hv => ?_
  · obtain ⟨-, -, -, ⟨-, h5⟩ | ⟨-, h5⟩⟩ := h
    · cases h5; exact ⟨_, rfl⟩
    · cases h5
  · obtain ⟨-, -, -, ⟨-, h5⟩ | ⟨h4, h5⟩⟩ := h
    · cases h5
    · have h6 := Sum.inr.inj h5
      rcases hk0 with hk0 | ⟨e9, he9, hk0⟩
      · omega
      · rw [hk0] at h6
        simp only [List.mem_cons, List.not_mem_nil, or_false] at he9
        rcases he9 with rfl | rfl <;> first | exact Or.inl h6 | exact Or.inr h6 | exact Or.inr (Or.inl h6) | exact Or.inr (Or.inr h6)
  · rw [ha9, hb9] at hv
    unfold pv_L_quotaBy
    by_cases hc2 : d_X10_hasMember x n r = 0
    · rw [if_pos hc2] at hv ⊢
      rcases hv with ⟨h1, -⟩ | ⟨e9, he9, h1, h2⟩
      · cases h1
      · simp only [List.mem_cons, List.not_mem_nil, or_false] at he9
        rcases he9 with rfl | rfl <;> first | exact h2 | cases h1
    · rw [if_neg hc2] at hv ⊢
      by_cases hc3 : pm_in y 0 300 = 0
      · rw [if_pos hc3] at hv ⊢
        rcases hv with ⟨h1, -⟩ | ⟨e9, he9, h1, h2⟩
        · cases h1
        · simp only [List.mem_cons, List.not_mem_nil, or_false] at he9
          rcases he9 with rfl | rfl <;> first | exact h2 | cases h1
      · rw [if_neg hc3] at hv ⊢
        by_cases hc4 : pm_in v 0 1 = 0
        · rw [if_pos hc4] at hv ⊢
          rcases hv with ⟨h1, -⟩ | ⟨e9, he9, h1, h2⟩
          · cases h1
          · simp only [List.mem_cons, List.not_mem_nil, or_false] at he9
            rcases he9 with rfl | rfl <;> first | exact h2 | cases h1
        · rw [if_neg hc4] at hv ⊢
          rcases hv with ⟨-, h1⟩ | ⟨e9, he9, h1, h2⟩
          · exact h1
          · simp only [List.mem_cons, List.not_mem_nil, or_false] at he9
            rcases he9 with rfl | rfl <;> cases h1
theorem pv_L_quotaBy_in {n i : Nat} {r : Nat → Int32} {y v : Int32} (hi : i < n) (h7 : n ≤ 7) (hy : ¬ pm_in y 0 300 = 0) (hv : ¬ pm_in v 0 1 = 0) : pv_L_quotaBy n r (nI i) y v = pw_qb n r y v i := by
  unfold pv_L_quotaBy
  rw [if_neg (pw_hm hi h7), if_neg hy, if_neg hv, pm_n_nI (by omega)]
theorem pv_L_quotaBy_n {n : Nat} {r : Nat → Int32} {y v : Int32} (h7 : n ≤ 7) : pv_L_quotaBy n r (nI n) y v = (-11) := if_pos (pw_hn h7)
theorem pv_L_quotaBy_b {n : Nat} {r : Nat → Int32} {y v : Int32} (h0 : 0 < n) (h7 : n ≤ 7) (h : pm_in y 0 300 = 0 ∨ pm_in v 0 1 = 0) : pv_L_quotaBy n r 0 y v = (-12) := by
  unfold pv_L_quotaBy
  rw [if_neg (show ¬ d_X10_hasMember 0 n r = 0 from pw_hm (i := 0) h0 h7)]
  by_cases h1 : pm_in y 0 300 = 0
  · rw [if_pos h1]
  · rw [if_neg h1, if_pos (h.resolve_left h1)]
def pv_L_byExcess (n : Nat) (r : Nat → Int32) (x : Int32) : Int32 := if (d_X12_memberByExcess x n r (fun _ => 0)).1 = 0 then ((d_X12_memberByExcess x n r (fun _ => 0)).2) else ((-13))
theorem b_L_byExcess {l : Launch} {z : Nat} {D : va_G} {kA : Nat → ClassId} {kE : Nat → Nat} {B n : Nat} {r : Nat → Int32} {hs : List (Nat → Int32)} {u : Nat × List Nat} {ar : List (Nat × va_E)} (hI : pm_I B n r) {x : Int32}  : ∀ nx M, (pw_W z kA kE (B, r, hs, u) ar) nx M → pm_Cw l z D kA kE yL_byExcess cL_byExcess 3 (some .int) [(0, 5, 6, 37)] 21 2 12 [.ref (z + 0), .int x] nx M (pw_P (some (.int (pv_L_byExcess n r x))) (pw_W z kA kE (B, r, hs, u) ar)) := by
  intro nx M hW
  have h7 : n ≤ 7 := hI.1.2.1
  obtain ⟨g, hT, hg⟩ := id hW.2.2.2
  have e : g.1 0 = r := hg.1
  have hn : g.1 0 0 = nI n := by rw [e]; exact hI.1.1
  have ha9 : (d_X12_memberByExcess x n r (g.1 12)).1 = (if (d_X12_memberByExcess x n r (fun _ => 0)).1 = 0 then ((0 : Nat), ((d_X12_memberByExcess x n r (fun _ => 0)).2 : Int32)) else ((4 : Nat), (0 : Int32))).1 := by
    show (d_X12_memberByExcess x n r (fun _ => 0)).1 = _
    by_cases h9 : (d_X12_memberByExcess x n r (fun _ => 0)).1 = 0
    · rw [if_pos h9]; exact h9
    · rw [if_neg h9]; exact (pw_bxC x n r (fun _ => 0)).resolve_left h9
  have hb9 : (d_X12_memberByExcess x n r (g.1 12)).2 = (if (d_X12_memberByExcess x n r (fun _ => 0)).1 = 0 then ((0 : Nat), ((d_X12_memberByExcess x n r (fun _ => 0)).2 : Int32)) else ((4 : Nat), (0 : Int32))).2 := by
    show (d_X12_memberByExcess x n r (fun _ => 0)).2 = _
    by_cases h9 : (d_X12_memberByExcess x n r (fun _ => 0)).1 = 0
    · rw [if_pos h9]
    · rw [if_neg h9]; exact pw_bxD x n r (fun _ => 0) h9
  have hk0 : (d_X12_memberByExcess x n r (g.1 12)).1 = 0 ∨ ∃ e ∈ ([(4, (-13))] : List (Nat × Int32)), (d_X12_memberByExcess x n r (g.1 12)).1 = e.1 := (by rw [ha9]; (repeat' split) <;> simp)
  have hf := f_X12_memberByExcess (x := x) (l := l) (D := D) (nx := nx) hT hn h7
  rw [e] at hf
  refine pm_Cwpost (c_L_byExcess hT.1 hf (fun v n' M1 h => ?_) (fun E n' M1 h => ?_)) fun o n' M' hp => pw_wrX (hl := [(4, (-13))]) hW hp rfl (by decide) hk0 hg fun val hv => ?_
  · obtain ⟨-, -, -, ⟨-, h5⟩ | ⟨-, h5⟩⟩ := h
    · cases h5; exact ⟨_, rfl⟩
    · cases h5
  · obtain ⟨-, -, -, ⟨-, h5⟩ | ⟨h4, h5⟩⟩ := h
    · cases h5
    · have h6 := Sum.inr.inj h5
      rcases hk0 with hk0 | ⟨e9, he9, hk0⟩
      · omega
      · rw [hk0] at h6
        simp only [List.mem_cons, List.not_mem_nil, or_false] at he9
        subst he9; exact h6
  · rw [ha9, hb9] at hv
    unfold pv_L_byExcess
    by_cases hc2 : (d_X12_memberByExcess x n r (fun _ => 0)).1 = 0
    · rw [if_pos hc2] at hv ⊢
      rcases hv with ⟨-, h1⟩ | ⟨e9, he9, h1, h2⟩
      · exact h1
      · simp only [List.mem_cons, List.not_mem_nil, or_false] at he9
        subst he9; cases h1
    · rw [if_neg hc2] at hv ⊢
      rcases hv with ⟨h1, -⟩ | ⟨e9, he9, h1, h2⟩
      · cases h1
      · simp only [List.mem_cons, List.not_mem_nil, or_false] at he9
        subst he9; exact h2
theorem pv_L_byExcess_in {n i : Nat} {r : Nat → Int32} (hw : ∀ i, i < n → pm_rw r i) (hi : i < n) (h7 : n ≤ 7) : pv_L_byExcess n r (nI i) = nI (pw_bx n r i) := by
  unfold pv_L_byExcess
  rw [(pw_bxE (to := fun _ => 0) hw h7 hi).1, if_pos rfl]
theorem pv_L_byExcess_n {n : Nat} {r : Nat → Int32} (hw : ∀ i, i < n → pm_rw r i) (h7 : n ≤ 7) : pv_L_byExcess n r (nI n) = (-13) := by
  unfold pv_L_byExcess
  rw [pw_bxN (to := fun _ => 0) hw h7, if_neg (by decide)]
