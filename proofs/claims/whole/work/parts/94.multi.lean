section
variable {l : Launch} {C : zC} {M : zMt} {d mc ms mc2 ms2 pc n i : Nat} {ls : List (Option zV)} {st : List zV} {σ : zM} {Q : Option zV → Nat → zM → Prop}
theorem zHp.grow {k : Nat} {U : State} {H H1 : Heap} (hK : zKs C U) (h : zHp C U n σ H) (z1 : H1.size = zz C + n + k) (o1 : ∀ q : Nat, q < zz C + n → H1[q]? = H[q]?) {σ' : zM} (hold : ∀ b, b < 8 + n → σ' b = σ b) (hc : ∀ j, j < k → zCell C U (zsh C (8 + n + j)) (zad C (8 + n + j)) (σ' (8 + n + j)) H1) : zHp C U (n + k) σ' H1 := by
  have hlt : ∀ b, b < 8 + n → zad C b < zz C + n := fun b hb => by
    rcases Nat.lt_or_ge b 8 with h8 | h8
    · have := hK.2.1 b h8
      omega
    · rw [hK.1 b h8]
      omega
  refine ⟨by rw [z1]; omega, h.2.1.kept fun q hq _ => o1 q (by rw [h.1] at hq; exact hq), fun b hb => ?_⟩
  by_cases hb2 : b < 8 + n
  · rw [hold b hb2]
    exact (h.2.2 b hb2).kept (o1 _ (hlt b hb2))
  · have := hc (b - (8 + n)) (by omega)
    rw [show 8 + n + (b - (8 + n)) = b by omega] at this
    exact this
/-- eight rows of forty ints, and the array over them -/
theorem g_mnew {σ' : zM} (hw : Cond.classLink M.1.cls i "[[I" ∈ ztb) (hw2 : Cond.arrayClass .int ∈ ztb) (hsh0 : zsh C (8 + n) = (4, 8)) (hsh : ∀ j, j < 8 → zsh C (8 + n + 1 + j) = (1, 40)) (hold : ∀ b, b < 8 + n → σ' b = σ b) (ho : ∀ j : Nat, j < 8 → σ' (8 + n) (j : Int) = zR (8 + n + 1 + j)) (hi : ∀ j : Nat, j < 8 → ∀ k : Nat, k < 40 → σ' (8 + n + 1 + j) (k : Int) = zI 0) (hmc : mc + 9 = mc2) (hms : ms + 328 = ms2) (hdg : decode M.2.1 pc = .ok (.multianewarray i 2, 4)) (kk : zGo l C M d mc ms (pc + 4) ls (zR (8 + n) :: st) (n + 9) σ' Q) : zGo l C M d mc2 ms2 pc ls (zI 40 :: zI 8 :: st) n σ Q := by
  intro p e R MC MS s m args below meth c Z F E H locs cells slots la hH hL hc hs hl
  obtain ⟨hx0, hbb, hml, hown, hts, hKs, hf1, hf2, hf3, hf4, -⟩ := id F
  have had : zad C (8 + n) = zz C + n := by rw [hKs.1 _ (by omega)]; omega
  intro T hT X
  subst hT
  have e8 : (Int32.ofInt 8).toNatClampNeg = 8 := by decide
  have e40 : (Int32.ofInt 40).toNatClampNeg = 40 := by decide
  obtain ⟨vm₁, cA, comp, hW, hfA, hfC, hO, hIn, X1, step⟩ := X.multianewarray2F hx0 (own := M.1.cls) (index := i) (ty := .int) hown (hts _ hw) hKs.2.2.2.2.2.2 (hts _ hw2) (g := F0 m pc la (Value.int (Int32.ofInt 40) :: Value.int (Int32.ofInt 8) :: st.map (zv (zad C)))) rfl (by rw [hbb]; exact hdg) (n := Int32.ofInt 8) (k := Int32.ofInt 40) rfl (by decide) (by decide) (by rw [e8]; decide) (by rw [e40]; decide) (by rw [e40]; decide) rfl rfl (by rw [e8]; omega) (by rw [e8, e40]; omega)
  rw [e8, e40] at X1 step
  obtain ⟨f1, f2, -, -⟩ := Jvm.Free.Multi.fill_facts (T.setVm vm₁) cA comp 8 40 (defaultValue .int) 8
  have fo : ∀ q, q < (T.setVm vm₁).heap.size → (Jvm.Free.Multi.fill (T.setVm vm₁) cA comp 8 40 (defaultValue .int) 8).heap[q]? = T.heap[q]? := fun q hq => Jvm.Free.Multi.fill_old (T.setVm vm₁) cA comp 8 40 (defaultValue .int) hq 8
  have fi : ∀ j, j < 8 → (Jvm.Free.Multi.fill (T.setVm vm₁) cA comp 8 40 (defaultValue .int) 8).heap[(T.setVm vm₁).heap.size + 1 + j]? = some (Jvm.Free.Multi.innerC comp 40 (defaultValue .int)) := fun j hj => Jvm.Free.Multi.fill_inner (T.setVm vm₁) cA comp 8 40 (defaultValue .int) 8 j hj
  have hsz : (T.setVm vm₁).heap.size = zz C + n := hH.1
  have o1 := hO 8 (T.setVm vm₁).heap.size 8
  have o2 := (Jvm.Free.Multi.outerC_facts cA 8 (T.setVm vm₁).heap.size 8).2.2
  have o3 : ∀ k, k < 8 → (Jvm.Free.Multi.outerC cA 8 (T.setVm vm₁).heap.size 8).slots[k]? = some (.ref ((T.setVm vm₁).heap.size + 1 + k)) := fun k hk => by rw [Jvm.Free.Multi.outerC_slot _ _ _ _ k hk, if_pos hk]
  have i1 := hIn 40 (defaultValue .int)
  have i2 : (Jvm.Free.Multi.innerC comp 40 (defaultValue .int)).slots.size = 40 := by simp [Jvm.Free.Multi.innerC]
  have i3 : ∀ k, k < 40 → (Jvm.Free.Multi.innerC comp 40 (defaultValue .int)).slots[k]? = some (.int 0) := fun k hk => by simp [Jvm.Free.Multi.innerC, hk, defaultValue]
  obtain ⟨Tn, hTn⟩ : ∃ Tn, Tn = Jvm.Free.Multi.fill (T.setVm vm₁) cA comp 8 40 (defaultValue .int) 8 := ⟨_, rfl⟩
  obtain ⟨oc, hoc⟩ : ∃ oc, oc = Jvm.Free.Multi.outerC cA 8 (T.setVm vm₁).heap.size 8 := ⟨_, rfl⟩
  obtain ⟨ic, hic⟩ : ∃ ic, ic = Jvm.Free.Multi.innerC comp 40 (defaultValue .int) := ⟨_, rfl⟩
  rw [← hTn] at X1 step f1 f2 fo fi
  rw [← hoc] at f2 o1 o2 o3
  rw [← hic] at fi i1 i2 i3
  rw [hsz] at f1 f2 fo fi o3
  clear hTn hoc hic hO hIn
  have hH' : zHp C s (n + 9) σ' Tn.heap := by
    refine hH.grow hKs (by rw [f1]) (fun q hq => fo q hq) hold (fun j hj => ?_)
    rcases (show j = 0 ∨ ∃ j', j' < 8 ∧ j = 1 + j' from by rcases Nat.eq_zero_or_pos j with g | g; exact Or.inl g; exact Or.inr ⟨j - 1, by omega, by omega⟩) with g | ⟨j', g1, g2⟩
    · subst g
      rw [Nat.add_zero]
      refine ⟨fun _ _ => ?_, fun q => by rw [hsh0] at q; exact absurd q (by decide)⟩
      rw [hsh0, had]
      refine ⟨oc, f2, ⟨o1.1, fun Cn q => by cases q⟩, o1.2, ⟨Nat.le_of_eq o2.symm, by rw [o2]⟩, fun k hk => ?_⟩
      rw [o3 k hk, ho k hk]
      show some (Value.ref (zz C + n + 1 + k)) = some (Value.ref (zad C (8 + n + 1 + k)))
      rw [hKs.1 _ (by omega), show zz C + (8 + n + 1 + k - 8) = zz C + n + 1 + k by omega]
    · subst g2
      rw [← Nat.add_assoc]
      have ha2 : zad C (8 + n + 1 + j') = zz C + n + 1 + j' := by rw [hKs.1 _ (by omega)]; omega
      refine ⟨fun _ _ => ?_, fun q => by rw [hsh j' g1] at q; exact absurd q (by decide)⟩
      rw [hsh j' g1, ha2]
      refine ⟨ic, fi j' g1, ⟨i1.1, fun Cn q => by cases q⟩, i1.2, ⟨Nat.le_of_eq i2.symm, by rw [i2]⟩, fun k hk => ?_⟩
      rw [i3 k hk, hi j' g1 k hk]
      rfl
  have K := kk p e R MC MS s m args below meth c Z F E _ locs (cells + 1 + 8) (slots + 8 + 8 * 40) la hH' hL (by omega) (by omega) hl
  obtain ⟨t, a1, b1⟩ := K _ rfl X1
  refine ⟨t, step t ?_, b1⟩
  have es : zv (zad C) (zR (8 + n)) = Value.ref T.heap.size := by
    show Value.ref (zad C (8 + n)) = _
    rw [had, hH.1]
  rw [List.map_cons, es] at a1
  exact a1
end
