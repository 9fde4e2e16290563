section
variable {l : Launch} {C : zC} {M M' : zMt} {d d' mc ms mc1 ms1 mc2 ms2 pc np i : Nat} {ls : List (Option zV)} {st st' as : List zV} {n : Nat} {σ : zM} {Q Q' : Option zV → Nat → zM → Prop}
/-! statics, the text -/
theorem z_gets {Cn nm ds : String} {v : zV} (hz : ∀ (s : State) (H : Heap), zOld C s H → va_Z Cn nm ds (zv (zad C) v) (zA C) s H) (hw : Cond.fieldLink M.1.cls i Cn nm ds ∈ ztb) (hdg : decode M.2.1 pc = .ok (.getstatic i, 3)) (kk : zGo l C M d mc ms (pc + 3) ls (v :: st) n σ Q) : zGo l C M d mc ms pc ls st n σ Q := by
  intro p e R MC MS s m args below meth c Z F E H locs cells slots la hH hL hc hs hl
  obtain ⟨cf, kf, fi, f, a, cell, h1, h2, h3, h4, h5, h6, h7, h8⟩ := hz s H hH.2.1
  exact W.gets F.1 F.2.1 F.2.2.2.1 (F.2.2.2.2.1 _ hw) h1 h2 h3 h4 h5 (fun e => by rw [e] at h6; cases h6) h7 rfl hdg (kk p e R MC MS s m args below meth c Z F E H locs cells slots la hH hL hc hs hl)
theorem g_gets1 (hw : Cond.fieldLink M.1.cls i "DrumPeace$Asks" "IS_ONE" "[I" ∈ ztb) (hdg : decode M.2.1 pc = .ok (.getstatic i, 3)) (kk : zGo l C M d mc ms (pc + 3) ls (zR 1 :: st) n σ Q) : zGo l C M d mc ms pc ls st n σ Q := z_gets (fun _ _ h => h.1) hw hdg kk
theorem g_gets2 (hw : Cond.fieldLink M.1.cls i "DrumPeace$Asks" "SIZE_BODIES" "[I" ∈ ztb) (hdg : decode M.2.1 pc = .ok (.getstatic i, 3)) (kk : zGo l C M d mc ms (pc + 3) ls (zR 2 :: st) n σ Q) : zGo l C M d mc ms pc ls st n σ Q := z_gets (fun _ _ h => h.2.1) hw hdg kk
theorem g_gets3 (hw : Cond.fieldLink M.1.cls i "DrumPeace$Asks" "MARK_BODIES" "[I" ∈ ztb) (hdg : decode M.2.1 pc = .ok (.getstatic i, 3)) (kk : zGo l C M d mc ms (pc + 3) ls (zR 3 :: st) n σ Q) : zGo l C M d mc ms pc ls st n σ Q := z_gets (fun _ _ h => h.2.2.1) hw hdg kk
theorem g_getsC (hw : Cond.fieldLink M.1.cls i "java/lang/String" "COMPACT_STRINGS" "Z" ∈ ztb) (hdg : decode M.2.1 pc = .ok (.getstatic i, 3)) (kk : zGo l C M d mc ms (pc + 3) ls (zI 1 :: st) n σ Q) : zGo l C M d mc ms pc ls st n σ Q := z_gets (v := zI 1) (fun _ _ h => h.2.2.2.1) hw hdg kk
theorem g_ldcS (hcls : M.1.cls = "DrumPeace$Tape") (hdg : decode M.2.1 pc = .ok (.ldc 52, 2)) (kk : zGo l C M d mc ms (pc + 2) ls (zR 4 :: st) n σ Q) : zGo l C M d mc ms pc ls st n σ Q := by
  intro p e R MC MS s m args below meth c Z F E H locs cells slots la hH hL hc hs hl
  have hown := F.2.2.2.1
  rw [hcls] at hown
  exact va_ldcS F.1 F.2.1 hown F.2.2.2.2.2.1.2.2.2.2.1 hdg (kk p e R MC MS s m args below meth c Z F E H locs cells slots la hH hL hc hs hl)
theorem z_getO {nm ds : String} {v : zV} (hz : ∀ (s : State) (H : Heap), zOld C s H → va_OF "java/lang/String" nm ds (zv (zad C) v) (zad C 4) (zA C) s H) (hw : Cond.fieldLink M.1.cls i "java/lang/String" nm ds ∈ ztb) (hdg : decode M.2.1 pc = .ok (.getfield i, 3)) (kk : zGo l C M d mc ms (pc + 3) ls (v :: st) n σ Q) : zGo l C M d mc ms pc ls (zR 4 :: st) n σ Q := by
  intro p e R MC MS s m args below meth c Z F E H locs cells slots la hH hL hc hs hl
  obtain ⟨cf, k, fi, f, cell, h1, h2, h3, h4, h5, -⟩ := hz s H hH.2.1
  exact W.getf F.1 F.2.1 F.2.2.2.1 (F.2.2.2.2.1 _ hw) h1 h2 h3 h4 h5 rfl rfl hdg (kk p e R MC MS s m args below meth c Z F E H locs cells slots la hH hL hc hs hl)
theorem g_getSv (hw : Cond.fieldLink M.1.cls i "java/lang/String" "value" "[B" ∈ ztb) (hdg : decode M.2.1 pc = .ok (.getfield i, 3)) (kk : zGo l C M d mc ms (pc + 3) ls (zR 5 :: st) n σ Q) : zGo l C M d mc ms pc ls (zR 4 :: st) n σ Q := z_getO (fun _ _ h => (h.2.2.2.2.1 0 (by decide)).2.2.1) hw hdg kk
theorem g_getSc (hw : Cond.fieldLink M.1.cls i "java/lang/String" "coder" "B" ∈ ztb) (hdg : decode M.2.1 pc = .ok (.getfield i, 3)) (kk : zGo l C M d mc ms (pc + 3) ls (zI 0 :: st) n σ Q) : zGo l C M d mc ms pc ls (zR 4 :: st) n σ Q := z_getO (v := zI 0) (fun _ _ h => (h.2.2.2.2.1 0 (by decide)).2.1) hw hdg kk
theorem g_bald {a N : Nat} {x y : Int} (hk : zsh C a = (5, N)) (ha : a < 8 + n) (h0 : 0 ≤ x) (h1 : x < N) (hN : N < 2147483648) (hv : σ a x = zI y) (hdg : decode M.2.1 pc = .ok (.baload, 1)) (kk : zGo l C M d mc ms (pc + 1) ls (zI y :: st) n σ Q) : zGo l C M d mc ms pc ls (zI x :: zR a :: st) n σ Q := by
  intro p e R MC MS s m args below meth c Z F E H locs cells slots la hH hL hc hs hl
  obtain ⟨cell, q1, q2, q3, q4, q5⟩ := hH.arr hk (by decide) (by decide) ha
  exact W.bald F.1 F.2.1 q1 q2.1 q3 (zi_in h0 (by omega) (by omega)) (by rw [zArr.at q5 h0 h1 (by omega), hv]) rfl rfl hdg (kk p e R MC MS s m args below meth c Z F E H locs cells slots la hH hL hc hs hl)
theorem g_callT (hm : zMV M' np) (hcls : M'.1.cls = "java/lang/String") (hw : Cond.methodLink M.1.cls i M'.1 ∈ ztb) (hc : zCt l C M' d' mc1 ms1 (zR 4 :: as) n σ Q') (hd : d' + 1 ≤ d) (hst : st = as.reverse ++ zR 4 :: st') (hcat : (st'.map zct).sum ≤ 8) (hn : as.length = np) (hmc : mc1 + mc = mc2) (hms : ms1 + ms = ms2) (hdg : decode M.2.1 pc = .ok (.invokevirtual i, 3))
    (kk : ∀ (v : Option zV) (n' : Nat) (σ' : zM), Q' v n' σ' → zGo l C M d mc ms (pc + 3) ls (v.toList ++ st') n' σ' Q) : zGo l C M d mc2 ms2 pc ls st n σ Q := by
  intro p e R MC MS s m args below meth c Z F E H locs cells slots la hH hL hcc hss hl
  subst hst
  obtain ⟨hx, hb, hml, hown, hts, hKs, hf1, hf2, hf3, hf4, -⟩ := id F
  obtain ⟨m0, m1, m2, m3, m4, m5⟩ := hm
  have cb : CallB R s args M.1.cls i M'.1 M'.2.1 M'.2.2.1 M'.2.2.2 _ (zRm d' mc1 ms1) mc1 ms1 np := callB_of np hts (zt_good M'.1 m3) rfl rfl rfl (hts _ m2) (hts _ hw) m4 ⟨by show d' + 1 ≤ _; omega, by show 8 + (M'.2.2.1 + 11) + 200 * d' ≤ _; omega⟩
  have hrecv : ∃ cellB : Cell, H[zad C 4]? = some cellB ∧ cellB.vm.isStatics = false ∧ s.vm.findClass M'.1.cls = some cellB.cls := by
    obtain ⟨cell, q1, q2, q3, -⟩ := (hH.2.1.2.2.2.2.1 0 (by decide)).1
    exact ⟨cell, q1, q2, by rw [hcls]; exact q3⟩
  have hrun := va_runV (As := as.map (zv (zad C))) (b := zad C 4) (rest := st'.map (zv (zad C))) (g := F0 m pc la ((as.reverse ++ zR 4 :: st').map (zv (zad C)))) (locs := locs) (cells := cells) (slots := slots) (below := below) (meth := meth) (e := e) ⟨hx, hb, hml, hown, hts⟩ hc ⟨cb, hts _ m0, hts _ m1⟩ ⟨zPc_blind, hrecv, fun U hU hW => ⟨rfl, hKs.warm hW, by rw [hU]; exact hH.moved hW.alike⟩⟩ rfl (by rw [List.length_map]; exact hn) hl.1 (by simp [zv]) (lv_room (by rw [zct_sum]; exact hcat)) hdg ⟨by omega, by omega⟩
  refine z_back hrun hL fun v n' σ' H1 locs1 hq hH1 hL1 => ?_
  have := kk v n' σ' hq p e R MC MS s m args below meth c Z F E H1 locs1 (cells + mc1) (slots + ms1) la hH1 hL1 (by omega) (by omega) hl
  rw [List.map_append] at this
  exact this
/-! System.arraycopy of ints -/
def zcpy (σ : zM) (a b : Nat) (sp dp k : Int) : zM := fun c y => if c = b ∧ dp ≤ y ∧ y < dp + k then σ a (sp + (y - dp)) else σ c y
theorem z_pairs (at_ : Nat) : ∀ (xs : List Value) (i : Nat) (ce : Cell), at_ + i + xs.length ≤ ce.slots.size →
    (ce.storePairs at_ (xs.zipIdx i)).cls = ce.cls ∧ (ce.storePairs at_ (xs.zipIdx i)).vm = ce.vm ∧ (ce.storePairs at_ (xs.zipIdx i)).slots.size = ce.slots.size ∧ ∀ k : Nat, (ce.storePairs at_ (xs.zipIdx i)).slots[k]? = if at_ + i ≤ k ∧ k < at_ + i + xs.length then xs[k - (at_ + i)]? else ce.slots[k]?
  | [], i, ce, _ => ⟨rfl, rfl, rfl, fun k => by rw [if_neg (by simp only [List.length_nil]; omega)]; rfl⟩
  | x :: xs, i, ce, hl => by
    rw [List.zipIdx_cons]
    obtain ⟨h1, h2, h3, h4⟩ := z_pairs at_ xs (i + 1) (ce.setSlot (at_ + i) x) (by simp only [List.length_cons] at hl; simp only [Cell.setSlot, Array.size_setIfInBounds]; omega)
    refine ⟨h1, h2, by rw [show (ce.storePairs at_ ((x, i) :: xs.zipIdx (i + 1))).slots.size = _ from h3]; simp [Cell.setSlot], fun k => ?_⟩
    rw [show (ce.storePairs at_ ((x, i) :: xs.zipIdx (i + 1))).slots[k]? = _ from h4 k]
    by_cases hk : k = at_ + i
    · subst hk
      rw [if_neg (by omega), if_pos (by simp only [List.length_cons]; omega), Cell.slots_setSlot_self _ (by simp only [List.length_cons] at hl; omega)]
      simp
    · rw [slot_ne _ _ (Ne.symm hk)]
      by_cases h : at_ + (i + 1) ≤ k ∧ k < at_ + (i + 1) + xs.length
      · rw [if_pos h, if_pos (by simp only [List.length_cons]; omega)]
        have e : k - (at_ + i) = (k - (at_ + (i + 1))) + 1 := by omega
        rw [e, List.getElem?_cons_succ]
      · rw [if_neg h, if_neg (by simp only [List.length_cons]; omega)]
theorem g_acopy {a b N0 N1 : Nat} {sp dp k : Int} (hka : zsh C a = (1, N0)) (hkb : zsh C b = (1, N1)) (ha : a < 8 + n) (hb : b < 8 + n) (h8 : 8 ≤ b) (hsp : 0 ≤ sp) (hdp : 0 ≤ dp) (hk : 0 ≤ k) (hs0 : sp + k ≤ N0) (hd0 : dp + k ≤ N1) (hN0 : N0 < 2147483648) (hN1 : N1 < 2147483648) (hv : ∀ y, sp ≤ y → y < sp + k → ∃ x, σ a y = zI x) (hd : 1 ≤ d) (hcat : (st.map zct).sum ≤ 8) (hw : Cond.methodLink M.1.cls i arraycopyName ∈ ztb) (hw2 : Cond.native arraycopyName ∈ ztb) (hw3 : Cond.static arraycopyName ∈ ztb) (hw4 : Cond.initialized "java/lang/System" ∈ ztb) (hdg : decode M.2.1 pc = .ok (.invokestatic i, 3)) (kk : zGo l C M d mc ms (pc + 3) ls st n (zcpy σ a b sp dp k) Q) : zGo l C M d mc ms pc ls (zI k :: zI dp :: zR b :: zI sp :: zR a :: st) n σ Q := by
  intro p e R MC MS s m args below meth c Z F E H locs cells slots la hH hL hc hs hl
  obtain ⟨hx, hbb, hml, hown, hts, hKs, hf1, hf2, hf3, hf4, -⟩ := id F
  obtain ⟨c0, q1, q2, q3, q4, q5⟩ := hH.arr hka (by decide) (by decide) ha
  obtain ⟨c1, r1, r2, r3, r4, r5⟩ := hH.arr hkb (by decide) (by decide) hb
  obtain ⟨v0, k0, hk0, cm0, hkk0⟩ := q2.1
  obtain ⟨v1, k1, hk1, cm1, hkk1⟩ := r2.1
  have h8' : zz C ≤ zad C b := by rw [hKs.1 b h8]; exact Nat.le_add_right _ _
  have esp : (Int32.ofInt sp).toNatClampNeg = sp.toNat := zi_nat hsp (by omega)
  have edp : (Int32.ofInt dp).toNatClampNeg = dp.toNat := zi_nat hdp (by omega)
  have ek : (Int32.ofInt k).toNatClampNeg = k.toNat := zi_nat hk (by omega)
  intro T hT X
  obtain ⟨vm', X', step⟩ := X.arraycopy hx hown (hts _ hw) (hts _ hw2) (hts _ hw3) (hts _ hw4) (src := zad C a) (dst := zad C b) (cs := c0) (cd := c1) (srcPos := Int32.ofInt sp) (destPos := Int32.ofInt dp) (n := Int32.ofInt k) (by rw [hT]; exact q1) (by rw [hT]; exact r1) v0 v1 q3 r3 hk0 hk1 hkk0 hkk1 (by decide)
    (by rw [zi_lt0 ⟨by omega, by omega⟩]; omega) (by rw [zi_lt0 ⟨by omega, by omega⟩]; omega) (by rw [zi_lt0 ⟨by omega, by omega⟩]; omega)
    (by rw [zi_to ⟨by omega, by omega⟩, zi_to ⟨by omega, by omega⟩]; omega) (by rw [zi_to ⟨by omega, by omega⟩, zi_to ⟨by omega, by omega⟩]; omega)
    (fun vm₁ _ j hj => by
      rw [ek] at hj
      have e0 : c0.slots.getD ((Int32.ofInt sp).toNatClampNeg + j) .null = zv (zad C) (σ a (sp + j)) := by
        rw [esp, Array.getD_eq_getD_getElem?, q5 _ (by omega)]
        show zv (zad C) (σ a ((sp.toNat + j : Nat) : Int)) = _
        congr 2
        omega
      obtain ⟨x, hx⟩ := hv (sp + j) (by omega) (by omega)
      rw [e0, hx]
      exact ⟨rfl, trivial⟩)
    (g := F0 m pc la ((zI k :: zI dp :: zR b :: zI sp :: zR a :: st).map (zv (zad C)))) rfl (by rw [hml]; exact hl.1) (rest := st.map (zv (zad C))) rfl (by rw [hbb]; exact hdg) (by omega) (by
      show 2 * 0 + ((st.map (zv (zad C))).map fun v => v.category).sum + (7 + 11) ≤ _
      rw [zct_sum]
      omega)
  have hst : c0.stretch sp.toNat k.toNat = (List.range k.toNat).map (fun j : Nat => zv (zad C) (σ a (sp + (j : Int)))) := by
    unfold Cell.stretch
    apply List.map_congr_left
    intro j hj
    have hj' := List.mem_range.mp hj
    rw [Array.getD_eq_getD_getElem?, q5 _ (by omega)]
    show zv (zad C) (σ a ((sp.toNat + j : Nat) : Int)) = _
    congr 2
    omega
  have hcop : copied c0 c1 (Int32.ofInt sp) (Int32.ofInt dp) (Int32.ofInt k) = c1.storePairs dp.toNat (((List.range k.toNat).map (fun j : Nat => zv (zad C) (σ a (sp + (j : Int))))).zipIdx 0) := by
    unfold copied
    rw [esp, edp, ek, hst]
    rfl
  obtain ⟨p1, p2, p3, p4⟩ := z_pairs dp.toNat ((List.range k.toNat).map (fun j : Nat => zv (zad C) (σ a (sp + (j : Int))))) 0 c1 (by simp only [List.length_map, List.length_range]; omega)
  rw [← hcop] at p1 p2 p3 p4
  generalize hcc : copied c0 c1 (Int32.ofInt sp) (Int32.ofInt dp) (Int32.ofInt k) = cn at X' step p1 p2 p3 p4
  have hlt : zad C b < H.size := (Array.getElem?_eq_some_iff.mp r1).1
  have hheap : ((T.setVm vm').setCell (zad C b) cn).heap = H.setIfInBounds (zad C b) cn := by rw [← hT]; rfl
  have e1 : (H.setIfInBounds (zad C b) cn)[zad C b]? = some cn := by simp [Array.getElem?_setIfInBounds, hlt]
  have e3 : ∀ q : Nat, q ≠ zad C b → (H.setIfInBounds (zad C b) cn)[q]? = H[q]? := fun q hq => by simp [Array.getElem?_setIfInBounds, Ne.symm hq]
  have hcell : zArr (zad C) s (zTy 1) N1 (zad C b) (zcpy σ a b sp dp k b) (H.setIfInBounds (zad C b) cn) := by
    refine ⟨cn, e1, ⟨⟨by rw [p2]; exact v1, k1, by rw [p1]; exact hk1, cm1, hkk1⟩, fun Cn h => by cases h⟩, by rw [p2]; exact r3, by rw [p3]; exact r4, fun j hj => ?_⟩
    rw [p4 j]
    simp only [List.length_map, List.length_range, Nat.add_zero, zcpy, true_and]
    by_cases h : dp.toNat ≤ j ∧ j < dp.toNat + k.toNat
    · rw [if_pos h, if_pos (by omega), List.getElem?_map, List.getElem?_range (by omega)]
      show some (zv (zad C) (σ a (sp + ((j - dp.toNat : Nat) : Int)))) = _
      congr 3
      omega
    · rw [if_neg h, if_neg (by omega), r5 j hj]
  obtain ⟨t, a1, b1⟩ := kk p e R MC MS s m args below meth c Z F E (H.setIfInBounds (zad C b) cn) _ cells slots la (hH.set hKs h8 (by simp) e3 (fun b' hb' => by funext y; simp [zcpy, hb']) ⟨fun _ _ => by rw [hkb]; exact hcell, fun q => by rw [hkb] at q; omega⟩) (fun q hq => by
      rcases List.mem_append.mp hq with h | h
      · exact hL q h
      · obtain ⟨z, -, hz⟩ := List.mem_map.mp h
        rw [← hz]
        exact h8') hc hs hl _ hheap X'
  exact ⟨t, step t a1, b1⟩
/-! making -/
theorem zHp.push {U : State} {H H1 : Heap} (hK : zKs C U) (h : zHp C U n σ H) (z1 : H1.size = zz C + n + 1) (o1 : ∀ q : Nat, q < zz C + n → H1[q]? = H[q]?) {σ' : zM} (hold : ∀ b, b < 8 + n → σ' b = σ b) (hc : zCell C U (zsh C (8 + n)) (zad C (8 + n)) (σ' (8 + n)) H1) : zHp C U (n + 1) σ' H1 := by
  have hlt : ∀ b, b < 8 + n → zad C b < zz C + n := fun b hb => by
    rcases Nat.lt_or_ge b 8 with h8 | h8
    · have := hK.2.1 b h8
      omega
    · rw [hK.1 b h8]
      omega
  refine ⟨by rw [z1]; omega, h.2.1.kept fun q hq _ => o1 q (by rw [h.1] at hq; exact hq), fun b hb => ?_⟩
  by_cases hb2 : b = 8 + n
  · subst hb2
    exact hc
  · rw [hold b (by omega)]
    exact (h.2.2 b (by omega)).kept (o1 _ (hlt b (by omega)))
theorem g_new {ci nn : Nat} {r : vw_C} {σ' : zM} (hr : vwCl[ci]? = some r) (hok : zClsOk r) (hw : Cond.classLink M.1.cls i r.1 ∈ ztb) (hins : Cond.instantiable r.1 nn ∈ ztb) (hini : Cond.initialized r.1 ∈ ztb) (hsh : (zsh C (8 + n)).1 = 10 + ci) (hold : ∀ b, b < 8 + n → σ' b = σ b) (hdf : ∀ k t, k < r.2.2 → parseFieldDescriptor (r.2.1 k).2.2.1 = some t → zv (zad C) (σ' (8 + n) (k : Int)) = defaultValue t) (hmc : mc + 1 = mc2) (hms : ms + nn = ms2) (hdg : decode M.2.1 pc = .ok (.new i, 3)) (kk : zGo l C M d mc ms (pc + 3) ls (zR (8 + n) :: st) (n + 1) σ' Q) : zGo l C M d mc2 ms2 pc ls st n σ Q := by
  intro p e R MC MS s m args below meth c Z F E H locs cells slots la hH hL hc hs hl
  obtain ⟨hx, hbb, hml, hown, hts, hKs, hf1, hf2, hf3, hf4, -⟩ := id F
  obtain ⟨hin, ⟨ty0, hty⟩, hnm⟩ := hok
  have hKn := hKs.2.2.1.1 ci _ hr
  have had : zad C (8 + n) = zz C + n := by rw [hKs.1 _ (by omega)]; omega
  refine W.newcK hx hbb hown (hts _ hw) (hts _ hins) (hts _ hini) rfl hdg (by omega) (by omega) hKn.2.1 hH.1 fun H' kC h1 h2 h3 h4 => ?_
  have hborn := u_born ty0 hts hin hKn h1 h2 hty
  have hc' : zCell C s (zsh C (8 + n)) (zad C (8 + n)) (σ' (8 + n)) H' := by
    refine ⟨fun _ q => by omega, fun _ => ?_⟩
    rw [hsh, show 10 + ci - 10 = ci by omega, had]
    exact ⟨r, hr, hborn.to (fun k hk => (hdf k _ hk (hty k hk)).symm)⟩
  have := kk p e R MC MS s m args below meth c Z F E H' locs (cells + 1) (slots + nn) la (hH.push hKs h3 h4 hold hc') hL (by omega) (by omega) hl
  rw [List.map_cons, show zv (zad C) (zR (8 + n)) = Value.ref (zz C + n) by simp [zv, had]] at this
  exact this
theorem z_newa {at_ : ArrayType} {k N : Nat} {x : Int} {v0 : zV} {σ' : zM} (hk : zTy k = newarray.typeOf at_) (hk1 : 0 < k) (hk2 : k < 3) (hv0 : ∀ ad, zv ad v0 = defaultValue (newarray.typeOf at_)) (hw : Cond.arrayClass (newarray.typeOf at_) ∈ ztb) (hx : x = (N : Int)) (hN : N ≤ 100000) (hby : componentBytes (newarray.typeOf at_) ≤ 8) (hsh : zsh C (8 + n) = (k, N)) (hold : ∀ b, b < 8 + n → σ' b = σ b) (hdf : ∀ j : Nat, j < N → σ' (8 + n) (j : Int) = v0) (hmc : mc + 1 = mc2) (hms : ms + N = ms2) (hdg : decode M.2.1 pc = .ok (.newarray at_, 2)) (kk : zGo l C M d mc ms (pc + 2) ls (zR (8 + n) :: st) (n + 1) σ' Q) : zGo l C M d mc2 ms2 pc ls (zI x :: st) n σ Q := by
  intro p e R MC MS s m args below meth c Z F E H locs cells slots la hH hL hc hs hl
  obtain ⟨hx0, hbb, hml, hown, hts, hKs, hf1, hf2, hf3, hf4, -⟩ := id F
  have had : zad C (8 + n) = zz C + n := by rw [hKs.1 _ (by omega)]; omega
  subst hx
  refine W.newaK hx0 hbb (hts _ hw) rfl hdg rfl (by rw [zi_lt0 ⟨by omega, by omega⟩]; omega) (N := N) (by rw [zi_nat (by omega) (by omega)]; omega) (by have := Nat.mul_le_mul hN hby; omega) (by omega) (by omega) hH.1 fun H' cA h1 h2 h3 h4 => ?_
  have hc' : zCell C s (zsh C (8 + n)) (zad C (8 + n)) (σ' (8 + n)) H' := by
    refine ⟨fun _ _ => ?_, fun q => by rw [hsh] at q; omega⟩
    rw [hsh, had]
    refine ⟨_, h1, ⟨by rw [hk]; exact h4 _ _, fun Cn q => ?_⟩, (fun q => by cases q), (by rw [arrV_size]; exact ⟨Nat.le_refl _, rfl⟩), fun j hj => by rw [arrV_read _ _ hj, hdf j hj, hv0]⟩
    exfalso
    have : k = 1 ∨ k = 2 := by omega
    rcases this with rfl | rfl <;> cases q
  have := kk p e R MC MS s m args below meth c Z F E H' locs (cells + 1) (slots + N) la (hH.push hKs h2 h3 hold hc') hL (by omega) (by omega) hl
  rw [List.map_cons, show zv (zad C) (zR (8 + n)) = Value.ref (zz C + n) by simp [zv, had]] at this
  exact this
theorem g_newI {N : Nat} {x : Int} {σ' : zM} (hw : Cond.arrayClass .int ∈ ztb) (hx : x = (N : Int)) (hN : N ≤ 100000) (hsh : zsh C (8 + n) = (1, N)) (hold : ∀ b, b < 8 + n → σ' b = σ b) (hdf : ∀ j : Nat, j < N → σ' (8 + n) (j : Int) = zI 0) (hmc : mc + 1 = mc2) (hms : ms + N = ms2) (hdg : decode M.2.1 pc = .ok (.newarray .int, 2)) (kk : zGo l C M d mc ms (pc + 2) ls (zR (8 + n) :: st) (n + 1) σ' Q) : zGo l C M d mc2 ms2 pc ls (zI x :: st) n σ Q :=
  z_newa (at_ := .int) (k := 1) (v0 := zI 0) rfl (by decide) (by decide) (fun _ => rfl) hw hx hN (by decide) hsh hold hdf hmc hms hdg kk
theorem g_newZ {N : Nat} {x : Int} {σ' : zM} (hw : Cond.arrayClass .boolean ∈ ztb) (hx : x = (N : Int)) (hN : N ≤ 100000) (hsh : zsh C (8 + n) = (2, N)) (hold : ∀ b, b < 8 + n → σ' b = σ b) (hdf : ∀ j : Nat, j < N → σ' (8 + n) (j : Int) = zI 0) (hmc : mc + 1 = mc2) (hms : ms + N = ms2) (hdg : decode M.2.1 pc = .ok (.newarray .boolean, 2)) (kk : zGo l C M d mc ms (pc + 2) ls (zR (8 + n) :: st) (n + 1) σ' Q) : zGo l C M d mc2 ms2 pc ls (zI x :: st) n σ Q :=
  z_newa (at_ := .boolean) (k := 2) (v0 := zI 0) rfl (by decide) (by decide) (fun _ => rfl) hw hx hN (by decide) hsh hold hdf hmc hms hdg kk
theorem g_anew {N : Nat} {x : Int} {σ' : zM} (hw : Cond.classLink M.1.cls i "DrumPeace$Town" ∈ ztb) (hx : x = (N : Int)) (hN : N ≤ 100000) (hsh : zsh C (8 + n) = (3, N)) (hold : ∀ b, b < 8 + n → σ' b = σ b) (hdf : ∀ j : Nat, j < N → σ' (8 + n) (j : Int) = zN) (hmc : mc + 1 = mc2) (hms : ms + N = ms2) (hdg : decode M.2.1 pc = .ok (.anewarray i, 3)) (kk : zGo l C M d mc ms (pc + 3) ls (zR (8 + n) :: st) (n + 1) σ' Q) : zGo l C M d mc2 ms2 pc ls (zI x :: st) n σ Q := by
  intro p e R MC MS s m args below meth c Z F E H locs cells slots la hH hL hc hs hl
  obtain ⟨hx0, hbb, hml, hown, hts, hKs, hf1, hf2, hf3, hf4, -⟩ := id F
  have had : zad C (8 + n) = zz C + n := by rw [hKs.1 _ (by omega)]; omega
  subst hx
  have eN : (Int32.ofInt (N : Int)).toNatClampNeg = N := by rw [zi_nat (by omega) (by omega)]; omega
  refine W.anew hx0 hbb hown (hts _ hw) (va_AO.use hKs.2.2.2.2.2.1) rfl hdg rfl (by rw [zi_lt0 ⟨by omega, by omega⟩]; omega) (by rw [eN]; omega) (by omega) (by rw [eN]; omega) fun cA kA comp h1 h2 h3 h4 => ?_
  rw [eN, hH.1]
  have hsz : (H.push { cls := cA, slots := Array.replicate N Value.null, vm := .none }).size = zz C + n + 1 := by rw [Array.size_push, hH.1]
  have hnew : (H.push { cls := cA, slots := Array.replicate N Value.null, vm := .none })[zz C + n]? = some { cls := cA, slots := Array.replicate N Value.null, vm := .none } := by rw [← hH.1]; simp
  have hoth : ∀ q : Nat, q < zz C + n → (H.push { cls := cA, slots := Array.replicate N Value.null, vm := .none })[q]? = H[q]? := fun q hq => by
    rw [Array.getElem?_push, if_neg (by rw [hH.1]; omega)]
  have hc' : zCell C s (zsh C (8 + n)) (zad C (8 + n)) (σ' (8 + n)) (H.push { cls := cA, slots := Array.replicate N Value.null, vm := .none }) := by
    refine ⟨fun _ _ => ?_, fun q => by rw [hsh] at q; omega⟩
    rw [hsh, had]
    refine ⟨_, hnew, ⟨⟨fun q h => (by cases h), kA, h2, comp, h3⟩, fun Cn q => ?_⟩, (fun q => by cases q), (by rw [Array.size_replicate]; exact ⟨Nat.le_refl _, rfl⟩), fun j hj => ?_⟩
    · cases q
      exact h1
    · rw [hdf j hj]
      simp [hj, zv]
  have := kk p e R MC MS s m args below meth c Z F E _ locs (cells + 1) (slots + N) la (hH.push hKs hsz hoth hold hc') hL (by omega) (by omega) hl
  rw [List.map_cons, show zv (zad C) (zR (8 + n)) = Value.ref (zz C + n) by simp [zv, had]] at this
  exact this
theorem g_oinit {a : Nat} (hw : Cond.methodLink M.1.cls i Lib.objectInit ∈ ztb) (hw2 : Cond.instanceMethod Lib.objectInit ∈ ztb) (hw3 : Cond.code Lib.objectInit ⟨#[0xb1]⟩ 1 none ∈ ztb) (hd : 1 ≤ d) (hcat : (st.map zct).sum ≤ 8) (hdg : decode M.2.1 pc = .ok (.invokespecial i, 3)) (kk : zGo l C M d mc ms (pc + 3) ls st n σ Q) : zGo l C M d mc ms pc ls (zR a :: st) n σ Q := by
  intro p e R MC MS s m args below meth c Z F E H locs cells slots la hH hL hc hs hl
  obtain ⟨hx0, hbb, hml, hown, hts, hKs, hf1, hf2, hf3, hf4, -⟩ := id F
  refine W.objInit (g := F0 m pc la ((zR a :: st).map (zv (zad C)))) hx0 hbb hown (hts _ hw) (hts _ hw2) (hts _ hw3) rfl (by rw [hml]; exact hl.1) rfl hdg (by omega) ?_ (kk p e R MC MS s m args below meth c Z F E H locs cells slots la hH hL hc hs hl)
  show 2 * 0 + ((st.map (zv (zad C))).map fun v => v.category).sum + 12 ≤ _
  rw [zct_sum]
  omega
/-! Math -/
def zmin (x y : Int) : Int := if y < x then y else x
def zmax (x y : Int) : Int := if x < y then y else x
def zabs (x : Int) : Int := if 0 ≤ x then x else -x
theorem g_mmin {x y : Int} (hx : zB x) (hy : zB y) (hd : 1 ≤ d) (hcat : (st.map zct).sum ≤ 8) (hw : Cond.methodLink M.1.cls i Lib.Math.min.name ∈ ztb) (hw2 : Cond.static Lib.Math.min.name ∈ ztb) (hw3 : Cond.initialized "java/lang/Math" ∈ ztb) (hw4 : Cond.code Lib.Math.min.name Lib.Math.min.code 2 (some .int) ∈ ztb) (hdg : decode M.2.1 pc = .ok (.invokestatic i, 3)) (kk : zGo l C M d mc ms (pc + 3) ls (zI (zmin x y) :: st) n σ Q) : zGo l C M d mc ms pc ls (zI y :: zI x :: st) n σ Q := by
  intro p e R MC MS s m args below meth c Z F E H locs cells slots la hH hL hc hs hl
  obtain ⟨hx0, hbb, hml, hown, hts, hKs, hf1, hf2, hf3, hf4, -⟩ := id F
  refine va_mmin hx0 hbb (by rw [hml]; exact hl.1.symm) hown (hts _ hw) (hts _ hw2) (hts _ hw3) (hts _ hw4) (by omega) (by rw [zct_sum]; omega) (by omega) (by omega) hdg ?_
  have := kk p e R MC MS s m args below meth c Z F E H locs cells slots la hH hL hc hs hl
  have e1 : (if Int32.ofInt y < Int32.ofInt x then Int32.ofInt y else Int32.ofInt x) = Int32.ofInt (zmin x y) := by
    unfold zmin
    by_cases h : y < x
    · rw [if_pos h, if_pos ((zi_lt hy hx).mpr h)]
    · rw [if_neg h, if_neg (fun q => h ((zi_lt hy hx).mp q))]
  rw [e1]
  exact this
theorem g_mmax {x y : Int} (hx : zB x) (hy : zB y) (hd : 1 ≤ d) (hcat : (st.map zct).sum ≤ 8) (hw : Cond.methodLink M.1.cls i Lib.Math.max.name ∈ ztb) (hw2 : Cond.static Lib.Math.max.name ∈ ztb) (hw3 : Cond.initialized "java/lang/Math" ∈ ztb) (hw4 : Cond.code Lib.Math.max.name Lib.Math.max.code 2 (some .int) ∈ ztb) (hdg : decode M.2.1 pc = .ok (.invokestatic i, 3)) (kk : zGo l C M d mc ms (pc + 3) ls (zI (zmax x y) :: st) n σ Q) : zGo l C M d mc ms pc ls (zI y :: zI x :: st) n σ Q := by
  intro p e R MC MS s m args below meth c Z F E H locs cells slots la hH hL hc hs hl
  obtain ⟨hx0, hbb, hml, hown, hts, hKs, hf1, hf2, hf3, hf4, -⟩ := id F
  refine va_mmax hx0 hbb (by rw [hml]; exact hl.1.symm) hown (hts _ hw) (hts _ hw2) (hts _ hw3) (hts _ hw4) (by omega) (by rw [zct_sum]; omega) (by omega) (by omega) hdg ?_
  have := kk p e R MC MS s m args below meth c Z F E H locs cells slots la hH hL hc hs hl
  have e1 : (if Int32.ofInt x < Int32.ofInt y then Int32.ofInt y else Int32.ofInt x) = Int32.ofInt (zmax x y) := by
    unfold zmax
    by_cases h : x < y
    · rw [if_pos h, if_pos ((zi_lt hx hy).mpr h)]
    · rw [if_neg h, if_neg (fun q => h ((zi_lt hx hy).mp q))]
  rw [e1]
  exact this
theorem g_mabs {x : Int} (hx : zB x) (hd : 1 ≤ d) (hcat : (st.map zct).sum ≤ 8) (hw : Cond.methodLink M.1.cls i Lib.Math.abs.name ∈ ztb) (hw2 : Cond.static Lib.Math.abs.name ∈ ztb) (hw3 : Cond.initialized "java/lang/Math" ∈ ztb) (hw4 : Cond.code Lib.Math.abs.name Lib.Math.abs.code 1 (some .int) ∈ ztb) (hdg : decode M.2.1 pc = .ok (.invokestatic i, 3)) (kk : zGo l C M d mc ms (pc + 3) ls (zI (zabs x) :: st) n σ Q) : zGo l C M d mc ms pc ls (zI x :: st) n σ Q := by
  intro p e R MC MS s m args below meth c Z F E H locs cells slots la hH hL hc hs hl
  obtain ⟨hx0, hbb, hml, hown, hts, hKs, hf1, hf2, hf3, hf4, -⟩ := id F
  refine va_mabs hx0 hbb (by rw [hml]; exact hl.1.symm) hown (hts _ hw) (hts _ hw2) (hts _ hw3) (hts _ hw4) (by omega) (by rw [zct_sum]; omega) (by omega) (by omega) hdg ?_
  have := kk p e R MC MS s m args below meth c Z F E H locs cells slots la hH hL hc hs hl
  have e1 : (if 0 ≤ Int32.ofInt x then Int32.ofInt x else 0 - Int32.ofInt x) = Int32.ofInt (zabs x) := by
    unfold zabs
    by_cases h : 0 ≤ x
    · rw [if_pos h, if_pos ((zi_0le hx).mpr h)]
    · rw [if_neg h, if_neg (fun q => h ((zi_0le hx).mp q)), zi_0, ← Int32.ofInt_sub]
      congr 1
      omega
  rw [e1]
  exact this
end
