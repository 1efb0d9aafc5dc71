/-! what the walks of den.py lean on -/
def pm_n (x : Int32) : Nat := x.toNatClampNeg
theorem pm_up_id {M : pm_M} {a : Nat} {e : va_E} (h : M a = some e) : pm_up M a e = M := by
  funext x
  by_cases hx : x = a
  · subst hx; simp [pm_up, h]
  · simp [pm_up, hx]
def pm_sub : List (Option Value) → List (Option Value) → Prop
  | [], _ => True
  | none :: t, _ :: s => pm_sub t s
  | none :: t, [] => pm_sub t []
  | some v :: t, some w :: s => v = w ∧ pm_sub t s
  | some _ :: _, _ => False
theorem pm_sub_at : ∀ (L' L : List (Option Value)), pm_sub L' L → ∀ (i : Nat) (v : Value), L'[i]? = some (some v) → L[i]? = some (some v)
  | [], _, _, i, v, h => by simp at h
  | none :: t, _ :: s, hs, i, v, h => by
    cases i with
    | zero => simp at h
    | succ i => simpa using pm_sub_at t s hs i v (by simpa using h)
  | none :: t, [], hs, i, v, h => by
    cases i with
    | zero => simp at h
    | succ i => have := pm_sub_at t [] hs i v (by simpa using h); simp at this
  | some a :: t, some b :: s, hs, i, v, h => by
    cases i with
    | zero => obtain ⟨rfl, -⟩ := hs; simpa using h
    | succ i => simpa using pm_sub_at t s hs.2 i v (by simpa using h)
  | some a :: t, none :: s, hs, i, v, h => hs.elim
  | some a :: t, [], hs, i, v, h => hs.elim
section DN
variable {l : Launch} {z : Nat} {D : va_G} {X : pm_X} {cu su : Nat} {Q : State → Prop} {nx : Nat} {M : pm_M} {pc mc ms : Nat} {L : List (Option Value)} {st : List Value}
theorem pm_wk {L' : List (Option Value)} (h : pm_sub L' L) (k : pm_G l z D X cu su Q nx M pc L' st) : pm_G l z D X cu su Q nx M pc L st :=
  fun H locs ls hR hS hl => k H locs ls hR hS (pm_lv_weak hl (pm_sub_at L' L h))
theorem pm_pst {post post' : pm_Po} (h : post = post') (k : pm_G l z D X cu su (pm_Q z D post' mc ms X) nx M pc L st) : pm_G l z D X cu su (pm_Q z D post mc ms X) nx M pc L st := by
  subst h; exact k
end DN
theorem pm_n_nI {i : Nat} (h : i < 2 ^ 31) : pm_n (nI i) = i := nI_clamp h
