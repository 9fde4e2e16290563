section
theorem zb_c {C : Prop} [Decidable C] {b : Int} (h : b = if C then 1 else 0) : (C ∧ b = 1) ∨ (¬ C ∧ b = 0) := by
  by_cases q : C
  · rw [if_pos q] at h; exact Or.inl ⟨q, h⟩
  · rw [if_neg q] at h; exact Or.inr ⟨q, h⟩
/-- fewer known locals -/
def zle : List (Option zV) → List (Option zV) → Prop
  | [], _ => True
  | none :: a, [] => zle a []
  | none :: a, _ :: b => zle a b
  | some v :: a, w :: b => w = some v ∧ zle a b
  | some _ :: _, [] => False
theorem zle_at : ∀ (a b : List (Option zV)), zle a b → ∀ (i : Nat) (v : zV), a[i]? = some (some v) → b[i]? = some (some v)
  | [], _, _, i, v, h => by simp at h
  | none :: a, [], hz, 0, v, h => by simp at h
  | none :: a, [], hz, i + 1, v, h => by
    have := zle_at a [] hz i v (by simpa using h)
    simp at this
  | none :: a, w :: b, hz, 0, v, h => by simp at h
  | none :: a, w :: b, hz, i + 1, v, h => by
    have := zle_at a b hz i v (by simpa using h)
    simpa using this
  | some u :: a, w :: b, hz, 0, v, h => by
    obtain ⟨rfl, -⟩ := hz
    simpa using h
  | some u :: a, w :: b, hz, i + 1, v, h => by
    have := zle_at a b hz.2 i v (by simpa using h)
    simpa using this
  | some u :: a, [], hz, i, v, h => hz.elim
theorem g_drop {l : Launch} {C : zC} {M : zMt} {d mc ms pc : Nat} {ls ls' : List (Option zV)} {st : List zV} {n : Nat} {σ : zM} {Q : Option zV → Nat → zM → Prop} (h : zle ls' ls) (k : zGo l C M d mc ms pc ls' st n σ Q) : zGo l C M d mc ms pc ls st n σ Q := by
  intro p e R MC MS s m args below meth c Z F E H locs cells slots la hH hL hc hs hl
  exact k p e R MC MS s m args below meth c Z F E H locs cells slots la hH hL hc hs ⟨hl.1, hl.2.1, fun i v hv => hl.2.2 i v (zle_at _ _ h i v hv)⟩
end
