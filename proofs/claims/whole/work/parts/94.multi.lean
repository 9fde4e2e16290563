section
variable {l : Launch} {C : zC} {M : zMt} {d mc ms mc2 ms2 pc n i : Nat} {ls : List (Option zV)} {st : List zV} {σ : zM} {Q : Option zV → Nat → zM → Prop}
theorem zHp.grow {k : Nat} {U : State} {H H1 : Heap} (hK : zKs C U) (h : zHp C U n σ H) (z1 : H1.size = zz C + n + k) (o1 : ∀ q : Nat, q < zz C + n → H1[q]? = H[q]?) {σ' : zM} (hold : ∀ b, b < 8 + n → σ' b = σ b) (hc : ∀ j, j < k → zCell C U (zsh C (8 + n + j)) (zad C (8 + n + j)) (σ' (8 + n + j)) H1) : zHp C U (n + k) σ' H1 := by
  have hlt : ∀ b, b < 8 + n → zad C b < zz C + n := fun b hb => by
    rcases Nat.lt_or_ge b 8 with h8 | h8
    · have := hK.2.1 b h8
      omega
    · rw [hK.1 b h8]
      omega
  refine ⟨by rw [z1]; omega, h.2.1.kept fun q hq _ => o1 q (by rw [h.1] at hq; exact hq), fun b hb => ?_⟩
  by_cases hb2 : b < 8 + n
  · rw [hold b hb2]
    exact (h.2.2 b hb2).kept (o1 _ (hlt b hb2))
  · have := hc (b - (8 + n)) (by omega)
    rw [show 8 + n + (b - (8 + n)) = b by omega] at this
    exact this
/-! one instruction makes nine arrays: the state behind it, row by row -/
abbrev zrO (cA : ClassId) : Cell := { cls := cA, slots := Array.replicate 8 .null }
abbrev zrI (co : ClassId) : Cell := { cls := co, slots := Array.replicate 40 (.int 0) }
def zrw (cA co : ClassId) (U : State) : Nat → State
  | 0 => U.pushCell (zrO cA)
  | j + 1 => ((zrw cA co U j).pushCell (zrI co)).setCell U.heap.size ((((zrw cA co U j).heap[U.heap.size]?).getD default).setSlot j (.ref (zrw cA co U j).heap.size))
def zrK (cA co : ClassId) (U V : State) (j : Nat) : Prop := V.heap.size = U.heap.size + 1 + j ∧ V.vm = U.vm ∧ V.slotsUsed = U.slotsUsed + 8 + 40 * j ∧ (∀ q : Nat, q < U.heap.size → V.heap[q]? = U.heap[q]?) ∧
  (∃ oc : Cell, V.heap[U.heap.size]? = some oc ∧ oc.cls = cA ∧ oc.vm = .none ∧ oc.slots.size = 8 ∧ ∀ k : Nat, k < j → k < 8 → oc.slots[k]? = some (.ref (U.heap.size + 1 + k))) ∧ ∀ k : Nat, k < j → V.heap[U.heap.size + 1 + k]? = some (zrI co)
theorem zrw_s {cA co : ClassId} {U : State} {j : Nat} {oc : Cell} (h : (zrw cA co U j).heap[U.heap.size]? = some oc) : zrw cA co U (j + 1) = ((zrw cA co U j).pushCell (zrI co)).setCell U.heap.size (oc.setSlot j (.ref (zrw cA co U j).heap.size)) := by
  rw [zrw, h]
  rfl
theorem zrw_top {cA co : ClassId} {U : State} (f : JFrame) : ∀ j, zrw cA co (U.setTop f) j = (zrw cA co U j).setTop f
  | 0 => rfl
  | j + 1 => by
    simp only [zrw]
    rw [zrw_top f j]
    rfl
theorem zrw_K (cA co : ClassId) (U : State) : ∀ j, zrK cA co U (zrw cA co U j) j
  | 0 => by
    refine ⟨by simp [zrw], rfl, by simp [zrw], fun q hq => State.heap_pushCell_of_lt _ _ hq, ⟨zrO cA, State.heap_pushCell_size _ _, rfl, rfl, by simp, fun k hk => absurd hk (Nat.not_lt_zero _)⟩, fun k hk => absurd hk (Nat.not_lt_zero _)⟩
  | j + 1 => by
    obtain ⟨a1, a2, a3, a4, ⟨oc, b1, b2, b3, b4, b5⟩, a6⟩ := zrw_K cA co U j
    have hlt : U.heap.size < (zrw cA co U j).heap.size := by omega
    have hp : ((zrw cA co U j).pushCell (zrI co)).heap[U.heap.size]? = some oc := by rw [State.heap_pushCell_of_lt (h := hlt)]; exact b1
    rw [zrw_s b1]
    refine ⟨?_, ?_, ?_, fun q hq => ?_, ⟨_, State.heap_setCell_self hp, b2, b3, ?_, fun k k0 k1 => ?_⟩, fun k hk => ?_⟩
    · simp [State.setCell, a1]; omega
    · simp [a2]
    · simp [a3]; omega
    · rw [State.heap_setCell_other (Nat.ne_of_gt hq), State.heap_pushCell_of_lt (h := show q < (zrw cA co U j).heap.size by omega)]
      exact a4 q hq
    · simp [Cell.setSlot, b4]
    · simp only [Cell.setSlot, Array.getElem?_setIfInBounds]
      by_cases hj : j = k
      · subst hj
        rw [if_pos rfl, if_pos (by omega), a1]
      · rw [if_neg hj]
        exact b5 k (by omega) k1
    · rw [State.heap_setCell_other (show U.heap.size ≠ U.heap.size + 1 + k by omega)]
      by_cases hj : k = j
      · subst hj
        rw [← a1]
        exact State.heap_pushCell_size _ _
      · rw [State.heap_pushCell_of_lt (h := show U.heap.size + 1 + k < (zrw cA co U j).heap.size by omega)]
        exact a6 k (by omega)
section
variable {p : Program} {e : Env} {R : Room} {s : State} {m : MethodId} {args : Array Value} {below : List Frame} {meth : Method} {c : Code} {T U : State} {locs : List Loc} {cells slots : Nat}
theorem zrw_X (cA co : ClassId) (X : Stand p l e R s m args below meth c U locs cells slots) : ∀ j, Stand p l e R s m args below meth c (zrw cA co U j) locs (cells + 1 + j) (slots + 8 + 40 * j)
  | 0 => by
    have h := X.pushed (zrO cA)
    simpa [zrw] using h
  | j + 1 => by
    obtain ⟨a1, -, -, -, ⟨oc, b1, -, -, -, -⟩, -⟩ := zrw_K cA co U j
    have hlt : U.heap.size < (zrw cA co U j).heap.size := by omega
    have hp : ((zrw cA co U j).pushCell (zrI co)).heap[U.heap.size]? = some oc := by rw [State.heap_pushCell_of_lt (h := hlt)]; exact b1
    have h := Stand.dropFresh (((zrw_X cA co X j).pushed (zrI co)).stored hp j (.ref (zrw cA co U j).heap.size)) (fun x hx => by
      rw [List.mem_singleton.mp hx]
      exact X.heapGrown)
    rw [zrw_s b1, show slots + 8 + 40 * (j + 1) = slots + 8 + 40 * j + (zrI co).slots.size by simp; omega]
    exact h
theorem zr_over {s : State} {as : Array Value} (h : (Cond.arrayOver (.array .int)).before as s = true) : ∃ co cA k, s.vm.findClass "[I" = some co ∧ s.vm.findClass "[[I" = some cA ∧ s.vm.classes[cA]? = some k ∧ k.kind = .array co (.array .int) := by
  have e1 : (FieldType.array .int).toString = "[I" := by decide +kernel
  simp only [Cond.before, Cond.holds, Cond.value, beq_iff_eq, e1] at h
  cases hc : s.vm.findClass "[I" with
  | none => simp [hc] at h
  | some co =>
    simp only [hc, Option.bind_some, Option.bind_eq_some_iff, Option.map_eq_some_iff] at h
    obtain ⟨cA, hi, k, hk, hb⟩ := h
    have hp := (Array.findIdx?_eq_some_iff_getElem.mp hi).2.1
    rw [(Array.getElem?_eq_some_iff.mp hk).2] at hp
    cases hkind : k.kind with
    | array co2 ty =>
      rw [hkind] at hb hp
      simp at hb hp
      exact ⟨co, cA, k, rfl, hb.2, hk, by rw [hkind, hp, hb.1]⟩
    | _ => rw [hkind] at hb; simp at hb
end
section
variable {E : CtlPost} {e : Env} {d : Bool} {acts : List Action}
theorem zr_in {S : State} {co cc : ClassId} {kc : Class} (hk : S.vm.classes[co]? = some kc) (hkind : kc.kind = .array cc .int) (h1 : ¬ 40 > e.platform.arrayLengthLimit) (h2 : ¬ 40 * 4 > e.platform.maxHeapBytes) (h3 : S.heap.size < e.platform.maxCells) (h4 : S.slotsUsed + 40 ≤ e.platform.maxSlots) {Q : Addr → Pre} (hq : ∀ acts', Q S.heap.size d acts' (S.pushCell (zrI co))) : _root_.Jvm.Sem.wp (multianewarray.make co [Int32.ofInt 40]) Q E e d acts S := by
  have hm : ¬ Int32.ofInt 40 < 0 := by decide
  have e40 : (Int32.ofInt 40).toNatClampNeg = 40 := by decide
  rw [multianewarray.make]
  simp only [wp_bind', W.ite, hm, if_false, wp_pure', W.theClass, hk, hkind, Option.some.injEq, exists_eq_left']
  rw [e40]
  exact W.newArray_of hk hkind h1 h2 h3 h4 rfl hq
theorem zr_all {S : State} {cA co cc : ClassId} {k kc : Class} (hk : S.vm.classes[cA]? = some k) (hkind : k.kind = .array co (.array .int)) (hkc : S.vm.classes[co]? = some kc) (hkindc : kc.kind = .array cc .int) (h0 : 40 ≤ e.platform.arrayLengthLimit) (h2 : 160 ≤ e.platform.maxHeapBytes) (h3 : S.heap.size + 9 ≤ e.platform.maxCells) (h4 : S.slotsUsed + 328 ≤ e.platform.maxSlots) {Q : Addr → Pre} (hq : ∀ d' acts', Q S.heap.size d' acts' (zrw cA co S 8)) : _root_.Jvm.Sem.wp (multianewarray.make cA [Int32.ofInt 8, Int32.ofInt 40]) Q E e d acts S := by
  have hn : ¬ Int32.ofInt 8 < 0 := by decide
  have hz : (Int32.ofInt 8 == 0) = false := by decide
  have e8 : (Int32.ofInt 8).toNatClampNeg = 8 := by decide
  rw [multianewarray.make]
  simp only [wp_bind', W.ite, hn, if_false, wp_pure', W.theClass, hk, hkind, Option.some.injEq, exists_eq_left', hz, e8]
  refine W.newArray_of hk hkind (by omega) (by show ¬ 8 * 4 > _; omega) (by omega) (by omega) rfl (fun acts1 => ?_)
  simp only [Bool.false_eq_true, if_false, wp_pure', wp_bind']
  rw [Std.Legacy.Range.forIn_eq_forIn_range']
  show _root_.Jvm.Sem.wp (forIn (List.range' 0 8 1) PUnit.unit _) _ E e d acts1 _
  refine wp_forIn_inv (fun rest V => ∃ j, j ≤ 8 ∧ rest = List.range' j (8 - j) ∧ V = zrw cA co S j) _ _ ⟨0, by decide, rfl, rfl⟩ ?_ ?_
  · rintro x rest V d' acts' Q' ⟨j, hj, hl, rfl⟩ hnext
    have hlt : j < 8 := by
      rcases Nat.lt_or_ge j 8 with h | h
      · exact h
      · rw [show 8 - j = 0 by omega] at hl; cases hl
    rw [show 8 - j = (8 - (j + 1)) + 1 by omega, List.range'_succ] at hl
    obtain ⟨rfl, hrest⟩ := List.cons.inj hl
    obtain ⟨a1, a2, a3, -, ⟨oc, b1, b2, b3, b4, -⟩, -⟩ := zrw_K cA co S x
    have hlt2 : S.heap.size < (zrw cA co S x).heap.size := by omega
    simp only [wp_bind']
    refine zr_in (by rw [a2]; exact hkc) hkindc (by omega) (by omega) (by omega) (by omega) (fun acts2 => ?_)
    simp only [wp_bind', W.writeLoc, wp_pure']
    refine ⟨oc, by rw [State.heap_pushCell_of_lt (h := hlt2)]; exact b1, by rw [b3]; simp, by omega, ?_, hnext _ _ _ ⟨x + 1, hlt, hrest, (zrw_s b1).symm⟩⟩
    rw [b2, b3]
    simp [State.fitsSlot, State.slotType?, a2, hk, hkind]
    rfl
  · rintro V d' acts' ⟨j, hj, hl, rfl⟩
    have h8 : j = 8 := by
      rcases Nat.lt_or_ge j 8 with h | h
      · rw [show 8 - j = (8 - (j + 1)) + 1 by omega, List.range'_succ] at hl; cases hl
      · omega
    subst h8
    simp only [wp_pure']
    exact hq _ _
end
section
variable {p : Program} {e : Env} {R : Room} {s : State} {m : MethodId} {args : Array Value} {below : List Frame} {meth : Method} {c : Code} {T : State} {locs : List Loc} {cells slots : Nat}
theorem zr_made (X : Stand p l e R s m args below meth c T locs cells slots) (hexec : p.tables.exec = Jvm.exec) {own : String} {ix : Nat} (hown : s.vm.findClass own = some m.cls) (hlink : (Cond.classLink own ix "[[I").before args s = true) (hover : (Cond.arrayOver (.array .int)).before #[] s = true) (harr : (Cond.arrayClass .int).before args s = true)
    {la : Array Slot} {rest : List Value} (hdg : decode c.code pc = .ok (.multianewarray ix 2, 4)) (hcells : cells + 9 ≤ R.cells) (hslots : slots + 328 ≤ R.slots) :
    ∃ U : State, Stand p l e R s m args below meth c U locs (cells + 9) (slots + 328) ∧ U.heap.size = T.heap.size + 9 ∧ (∀ q : Nat, q < T.heap.size → U.heap[q]? = T.heap[q]?) ∧
      (∃ oc : Cell, U.heap[T.heap.size]? = some oc ∧ s.isArrayOf oc (.array .int) ∧ oc.vm ≠ .unknown ∧ oc.slots.size = 8 ∧ ∀ k : Nat, k < 8 → oc.slots[k]? = some (.ref (T.heap.size + 1 + k))) ∧
      (∃ ic : Cell, (∀ j : Nat, j < 8 → U.heap[T.heap.size + 1 + j]? = some ic) ∧ s.isArrayOf ic .int ∧ ic.vm ≠ .unknown ∧ ic.slots.size = 40 ∧ ∀ k : Nat, k < 40 → ic.slots[k]? = some (.int 0)) ∧
      ∀ t, Steps p.tables e below (U.setTop (F0 m (pc + 4) la (.ref T.heap.size :: rest))) t → Steps p.tables e below (T.setTop (F0 m pc la (.int (Int32.ofInt 40) :: .int (Int32.ofInt 8) :: rest))) t := by
  have hpl : e.platform.magicAccessors = ({} : Platform).magicAccessors := by rw [X.admits.platform]
  obtain ⟨co, cA, kA, hco, hcA, hkA, hkindA⟩ := zr_over hover
  obtain ⟨co2, kC, cc, hco2, hkC, hkindC⟩ := Cond.arrayClass_spec harr
  obtain rfl : co2 = co := Option.some.inj (hco2.symm.trans hco)
  obtain ⟨cA2, hcA2, hcl⟩ := Cond.classLink_spec hown hlink e.platform hpl
  obtain rfl : cA2 = cA := Option.some.inj (hcA2.symm.trans hcA)
  obtain ⟨hg1, hwarm, hready⟩ := State.classEntry (e := e) X.warmed hcl
  generalize T.vm.noted m.cls ix (.cls cA2) = vm1 at hg1 hwarm hready
  obtain ⟨kA1, hkA1, eA⟩ := hwarm.alike.2.2 _ _ hkA
  obtain ⟨kC1, hkC1, eC⟩ := hwarm.alike.2.2 _ _ hkC
  have XF := zrw_X cA2 co2 (X.noted hwarm) 8
  obtain ⟨a1, a2, a3, a4, ⟨oc, b1, b2, b3, b4, b5⟩, a6⟩ := zrw_K cA2 co2 (T.setVm vm1) 8
  obtain ⟨hr1, hr2⟩ := X.roomAbove hcells hslots
  refine ⟨zrw cA2 co2 (T.setVm vm1) 8, XF, a1, a4, ⟨oc, b1, ⟨fun x => by rw [b3]; simp, kA, by rw [b2]; exact hkA, co2, hkindA⟩, by rw [b3]; simp, b4, fun k hk => b5 k hk hk⟩, ⟨zrI co2, a6, ⟨fun x => by simp, kC, hkC, cc, hkindC⟩, by simp, by simp, fun k hk => by simp [hk]⟩, fun t hrest => ?_⟩
  obtain ⟨g, hg⟩ : ∃ g : JFrame, g = F0 m pc la (.int (Int32.ofInt 40) :: .int (Int32.ofInt 8) :: rest) := ⟨_, rfl⟩
  have hgm : g.method = m := by rw [hg]
  have hdg2 : decode c.code g.pc = .ok (.multianewarray ix 2, 4) := by rw [hg]; exact hdg
  have hst : g.stack = .int (Int32.ofInt 40) :: .int (Int32.ofInt 8) :: rest := by rw [hg]
  have hrest2 : Steps p.tables e below ((zrw cA2 co2 (T.setVm vm1) 8).setTop { g with pc := g.pc + 4, stack := .ref T.heap.size :: rest }) t := by rw [hg]; exact hrest
  rw [← hg]
  clear hg hrest
  subst hgm
  jvm_step X.here [hexec, hdg2]
  simp only [multianewarray.sem, wp_bind', _root_.Jvm.W.resolveClassAt_links (State.method?_setTop g X.here.top) hg1]
  rw [_root_.Jvm.W.popN, if_neg (by decide)]
  refine ⟨g, State.topJava?_setTop' (s := T.setVm vm1) g X.here.top, [.int (Int32.ofInt 8), .int (Int32.ofInt 40)], rest, rfl, hst, ?_⟩
  simp only [List.mapM_cons, List.mapM_nil, wp_bind', wp_pure']
  refine zr_all (k := kA1) (kc := kC1) (co := co2) (cc := cc) hkA1 (by rw [eA]; exact hkindA) hkC1 (by rw [eC]; exact hkindC) (by rw [Launch.admits_arrayLengthLimit X.admits]; decide) (by rw [Launch.admits_maxHeapBytes X.admits]; decide) (by show T.heap.size + 9 ≤ _; omega) (by show T.slotsUsed + 328 ≤ _; omega) (fun d' acts' => ?_)
  have eS : ((T.setTop g).setVm vm1).setTop { g with stack := rest } = (T.setVm vm1).setTop { g with stack := rest } := by
    show ((T.setVm vm1).setTop g).setTop _ = _
    rw [State.setTop_setTop]
  rw [eS, zrw_top]
  simp only [wp_bind', _root_.Jvm.W.mark, _root_.Jvm.W.pushRef, State.topJava?_setTop' _ XF.here.top, Option.some.injEq, exists_eq_left', State.setTop_setTop, State.heap_setTop]
  intro acts
  simp [jvm, XF.here.top]
  exact hrest2
end
/-- eight rows of forty ints, and the array over them -/
theorem g_mnew {σ' : zM} (hw : Cond.classLink M.1.cls i "[[I" ∈ ztb) (hw2 : Cond.arrayClass .int ∈ ztb) (hsh0 : zsh C (8 + n) = (4, 8)) (hsh : ∀ j, j < 8 → zsh C (8 + n + 1 + j) = (1, 40)) (hold : ∀ b, b < 8 + n → σ' b = σ b) (ho : ∀ j : Nat, j < 8 → σ' (8 + n) (j : Int) = zR (8 + n + 1 + j)) (hi : ∀ j : Nat, j < 8 → ∀ k : Nat, k < 40 → σ' (8 + n + 1 + j) (k : Int) = zI 0) (hmc : mc + 9 = mc2) (hms : ms + 328 = ms2) (hdg : decode M.2.1 pc = .ok (.multianewarray i 2, 4)) (kk : zGo l C M d mc ms (pc + 4) ls (zR (8 + n) :: st) (n + 9) σ' Q) : zGo l C M d mc2 ms2 pc ls (zI 40 :: zI 8 :: st) n σ Q := by
  intro p e R MC MS s m args below meth c Z F E H locs cells slots la hH hL hc hs hl
  obtain ⟨hx0, hbb, hml, hown, hts, hKs, hf1, hf2, hf3, hf4, -⟩ := id F
  have had : zad C (8 + n) = zz C + n := by rw [hKs.1 _ (by omega)]; omega
  intro T hT X
  subst hT
  obtain ⟨U, X1, f1, fo, ⟨oc, f2, o1, o2, o3, o4⟩, ⟨ic, fi, i1, i2, i3, i4⟩, step⟩ := zr_made X hx0 (pc := pc) (la := la) (rest := st.map (zv (zad C))) hown (hts _ hw) hKs.2.2.2.2.2.2 (hts _ hw2) (by rw [hbb]; exact hdg) (by omega) (by omega)
  have hsz : T.heap.size = zz C + n := hH.1
  rw [hsz] at f1 f2 fo fi o4
  have hH' : zHp C s (n + 9) σ' U.heap := by
    refine hH.grow hKs (by rw [f1]) (fun q hq => fo q hq) hold (fun j hj => ?_)
    rcases (show j = 0 ∨ ∃ j', j' < 8 ∧ j = 1 + j' from by rcases Nat.eq_zero_or_pos j with g | g; exact Or.inl g; exact Or.inr ⟨j - 1, by omega, by omega⟩) with g | ⟨j', g1, g2⟩
    · subst g
      rw [Nat.add_zero]
      refine ⟨fun _ _ => ?_, fun q => by rw [hsh0] at q; exact absurd q (by decide)⟩
      rw [hsh0, had]
      refine ⟨oc, f2, ⟨o1, fun Cn q => by cases q⟩, o2, ⟨Nat.le_of_eq o3.symm, by rw [o3]⟩, fun k hk => ?_⟩
      rw [o4 k hk, ho k hk]
      show some (Value.ref (zz C + n + 1 + k)) = some (Value.ref (zad C (8 + n + 1 + k)))
      rw [hKs.1 _ (by omega), show zz C + (8 + n + 1 + k - 8) = zz C + n + 1 + k by omega]
    · subst g2
      rw [← Nat.add_assoc]
      have ha2 : zad C (8 + n + 1 + j') = zz C + n + 1 + j' := by rw [hKs.1 _ (by omega)]; omega
      refine ⟨fun _ _ => ?_, fun q => by rw [hsh j' g1] at q; exact absurd q (by decide)⟩
      rw [hsh j' g1, ha2]
      refine ⟨ic, fi j' g1, ⟨i1, fun Cn q => by cases q⟩, i2, ⟨Nat.le_of_eq i3.symm, by rw [i3]⟩, fun k hk => ?_⟩
      rw [i4 k hk, hi j' g1 k hk]
      rfl
  have K := kk p e R MC MS s m args below meth c Z F E _ locs (cells + 9) (slots + 328) la hH' hL (by omega) (by omega) hl
  obtain ⟨t, a1, b1⟩ := K _ rfl X1
  refine ⟨t, step t ?_, b1⟩
  have es : zv (zad C) (zR (8 + n)) = Value.ref T.heap.size := by
    show Value.ref (zad C (8 + n)) = _
    rw [had, hH.1]
  rw [List.map_cons, es] at a1
  exact a1
end
