section
variable {l : Launch} {C : zC} {M M' : zMt} {d d' mc ms mc1 ms1 mc2 ms2 pc np i : Nat} {ls : List (Option zV)} {st st' as : List zV} {n : Nat} {σ : zM} {Q Q' : Option zV → Nat → zM → Prop}
def zRm (d mc ms : Nat) : Room := { frames := d, cells := mc, slots := ms, locals := 200 * d }
def zPc (C : zC) (as : List zV) (n : Nat) (σ : zM) : Array Value → State → Prop := fun v U => v = (as.map (zv (zad C))).toArray ∧ zKs C U ∧ zHp C U n σ U.heap
def zQc (C : zC) (Q : Option zV → Nat → zM → Prop) : Array Value → State → Outcome → State → Prop := fun _ _ o t => ∃ (v : Option zV) (n : Nat) (σ : zM), o = .returned (v.map (zv (zad C))) ∧ Q v n σ ∧ zHp C t n σ t.heap
def zCt (l : Launch) (C : zC) (M : zMt) (d mc ms : Nat) (as : List zV) (n : Nat) (σ : zM) (Q : Option zV → Nat → zM → Prop) : Prop :=
  Met l M.1 (Cond.code M.1 M.2.1 M.2.2.1 M.2.2.2 :: ztb) (zRm d mc ms) (zPc C as n σ) (zQc C Q) mc ms (zA C)
theorem zPc_blind : FrameBlind (zPc C as n σ) := fun _ U _ _ q => ⟨q.1, zKs.same (u := U) rfl q.2.1, zHp.moved (u := U) (Vm.Alike.refl U.vm) q.2.2⟩
def zsl : List zV → List (Option zV)
  | [] => []
  | .inr (.inl x) :: r => some (zL x) :: none :: zsl r
  | v :: r => some v :: zsl r
theorem zsl_at (ad : Nat → Nat) : ∀ (as : List zV), (zsl as).length = (lg_sl (as.map (zv ad))).length ∧ ∀ (i : Nat) (v : zV), (zsl as)[i]? = some (some v) → (lg_sl (as.map (zv ad)))[i]? = some (.val (zv ad v))
  | [] => ⟨rfl, fun i v h => by simp [zsl] at h⟩
  | .inr (.inl x) :: r => by
    obtain ⟨h1, h2⟩ := zsl_at ad r
    have e : lg_sl ((zL x :: r).map (zv ad)) = .val (zv ad (zL x)) :: .second :: lg_sl (r.map (zv ad)) := rfl
    refine ⟨by rw [e]; simp [zsl, h1], fun i v h => ?_⟩
    rw [e]
    match i, h with
    | 0, h => cases h; rfl
    | 1, h => cases h
    | i + 2, h => exact h2 i v h
  | .inl x :: r => by
    obtain ⟨h1, h2⟩ := zsl_at ad r
    have e : lg_sl ((zI x :: r).map (zv ad)) = .val (zv ad (zI x)) :: lg_sl (r.map (zv ad)) := rfl
    refine ⟨by rw [e]; simp [zsl, h1], fun i v h => ?_⟩
    rw [e]
    match i, h with
    | 0, h => cases h; rfl
    | i + 1, h => exact h2 i v h
  | .inr (.inr (some a)) :: r => by
    obtain ⟨h1, h2⟩ := zsl_at ad r
    have e : lg_sl ((zR a :: r).map (zv ad)) = .val (zv ad (zR a)) :: lg_sl (r.map (zv ad)) := rfl
    refine ⟨by rw [e]; simp [zsl, h1], fun i v h => ?_⟩
    rw [e]
    match i, h with
    | 0, h => cases h; rfl
    | i + 1, h => exact h2 i v h
  | .inr (.inr none) :: r => by
    obtain ⟨h1, h2⟩ := zsl_at ad r
    have e : lg_sl ((zN :: r).map (zv ad)) = .val (zv ad zN) :: lg_sl (r.map (zv ad)) := rfl
    refine ⟨by rw [e]; simp [zsl, h1], fun i v h => ?_⟩
    rw [e]
    match i, h with
    | 0, h => cases h; rfl
    | i + 1, h => exact h2 i v h
theorem zLoc.entry {ad : Nat → Nat} {nL k : Nat} (hlen : (zsl as).length ≤ nL) : zLoc ad nL ((lg_sl (as.map (zv ad)) ++ List.replicate (nL - (lg_sl (as.map (zv ad))).length) Slot.unset).toArray) (zsl as ++ List.replicate k none) := by
  obtain ⟨h1, h2⟩ := zsl_at ad as
  obtain ⟨g1, g2, -⟩ := lv_entry (as.map (zv ad)) (n := nL) (by rw [← h1]; exact hlen)
  refine ⟨g1, g2, fun i v h => ?_⟩
  by_cases hi : i < (zsl as).length
  · rw [List.getElem?_append_left hi] at h
    have h3 := h2 i v h
    simp only [List.getElem?_toArray]
    rw [List.getElem?_append_left (by rw [← h1]; exact hi)]
    exact h3
  · rw [List.getElem?_append_right (by omega)] at h
    have := List.eq_of_mem_replicate (List.mem_of_getElem? h)
    cases this
theorem zCt_of (hy : plainName M.1.cls = true) (hlen : (zsl as).length ≤ M.2.2.1) (k : Nat) (hls : zsl as ++ List.replicate k none = ls) (body : zGo l C M d mc ms 0 ls [] n σ Q) : zCt l C M d mc ms as n σ Q := by
  refine Met.ofW (cc := M.2.1) (maxL := M.2.2.1) (ret := M.2.2.2) hy rfl ?_
  intro p e s m args below meth c s₁ B hml hv
  obtain ⟨rfl, hK, hH⟩ := hv
  subst hls
  have hts := atoms_spec (ws := Cond.code M.1 M.2.1 M.2.2.1 M.2.2.2 :: ztb) B.pre
  have hlocks := B.notSynchronized
  rw [lg_entry_eq]
  refine body p e _ mc ms s m _ below meth c _ ⟨B.exec, B.bytes, hml, findClass_of_methodNamed B.named, fun w h => hts w (List.mem_cons_of_mem _ h), hK, Nat.le_refl _, Nat.le_refl _, Nat.le_refl _, Nat.le_refl _, (name_of_methodNamed B.named B.method).1⟩ ?_ s.heap [] 0 0 _ hH (fun q h => by cases h) (by omega) (by omega) (zLoc.entry hlen)
  intro v n' σ' H locs cells slots pc la hq hH' hL hc hs hr
  refine W.widen (k := mc) (n := ms) hc hs ?_
  rcases hr with ⟨rfl, h1, h2⟩ | ⟨x, rfl, h2, h1⟩ | ⟨a, rfl, h2, nm, h1⟩
  · exact W.vret B.exec B.bytes (B.returns.trans h1) (fun t ht hW => ⟨none, n', σ', rfl, hq, by rw [ht]; exact hH'.moved hW.alike⟩) (fun q h => hL q h) h2 hlocks
  · rcases h1 with h1 | ⟨h1, hx⟩ | ⟨h1, hx⟩
    · exact W.iret (v := Int32.ofInt x) B.exec B.bytes (B.returns.trans h1) (fun t ht hW => ⟨some (zI x), n', σ', rfl, hq, by rw [ht]; exact hH'.moved hW.alike⟩) (fun q h => hL q h) h2 hlocks
    · exact W.zret (v := Int32.ofInt x) (ty := .boolean) B.exec B.bytes (B.returns.trans h1) (by rcases hx with rfl | rfl <;> rfl) (fun t ht hW => ⟨some (zI x), n', σ', rfl, hq, by rw [ht]; exact hH'.moved hW.alike⟩) (fun q h => hL q h) h2 hlocks
    · exact W.zret (v := Int32.ofInt x) (ty := .byte) B.exec B.bytes (B.returns.trans h1) (by subst hx; rfl) (fun t ht hW => ⟨some (zI x), n', σ', rfl, hq, by rw [ht]; exact hH'.moved hW.alike⟩) (fun q h => hL q h) h2 hlocks
  · exact W.aret (v := .ref (zad C a)) B.exec B.bytes (B.returns.trans h1) (Or.inl ⟨nm, rfl⟩) (Or.inr ⟨_, rfl⟩) (fun t ht hW => ⟨some (zR a), n', σ', rfl, hq, by rw [ht]; exact hH'.moved hW.alike⟩) (fun q h => hL q h) h2 hlocks
/-! calls -/
def zct : zV → Nat
  | .inr (.inl _) => 2
  | _ => 1
theorem zct_sum (ad : Nat → Nat) : ∀ st : List zV, ((st.map (zv ad)).map fun v => v.category).sum = (st.map zct).sum
  | [] => rfl
  | .inr (.inl x) :: r => by simp only [List.map_cons, List.sum_cons, zct_sum ad r]; rfl
  | .inl x :: r => by simp only [List.map_cons, List.sum_cons, zct_sum ad r]; rfl
  | .inr (.inr (some a)) :: r => by simp only [List.map_cons, List.sum_cons, zct_sum ad r]; rfl
  | .inr (.inr none) :: r => by simp only [List.map_cons, List.sum_cons, zct_sum ad r]; rfl
theorem z_back {p : Program} {e : Env} {R : Room} {s : State} {m : MethodId} {args a : Array Value} {below : List Frame} {meth : Method} {c : Code} {H : Heap} {locs : List Loc} {cells slots : Nat} {Z : State → Prop} {la : Array Slot} {st0 rest : List Value}
    (hr : va_Run p l e R s m args below meth c H locs cells slots mc1 ms1 (F0 m pc la st0) rest (zQc C Q' a) (zA C)) (hL : ∀ q ∈ locs, zz C ≤ q.base)
    (kk : ∀ (v : Option zV) (n' : Nat) (σ' : zM) (H1 : Heap) (locs1 : List Loc), Q' v n' σ' → zHp C s n' σ' H1 → (∀ q ∈ locs1, zz C ≤ q.base) → W p l e R s m args below meth c H1 locs1 (cells + mc1) (slots + ms1) Z (F0 m (pc + 3) la (v.toList.map (zv (zad C)) ++ rest))) : W p l e R s m args below meth c H locs cells slots Z (F0 m pc la st0) := by
  intro T hT X
  obtain ⟨v, st₀, t, T', L, h0, X', hL2, e1, e2, ⟨v', n', σ', ho, hq, hh⟩, stp⟩ := hr T hT X
  have ev : v = v'.map (zv (zad C)) := Outcome.returned.inj ho
  subst ev
  have hh2 : zHp C s n' σ' T'.heap := by
    rw [e1]
    refine zHp.moved (u := t) ?_ hh
    rw [← e2]
    exact X'.warmed.alike.symm
  obtain ⟨t2, a1, b1⟩ := kk v' n' σ' T'.heap (locs ++ L) hq hh2 (fun q h => (List.mem_append.mp h).elim (hL q) (hL2 q)) T' rfl X'
  refine ⟨t2, stp t2 ?_, b1⟩
  cases v' <;> exact a1
def zMS (M : zMt) (np : Nat) : Prop := Cond.static M.1 ∈ ztb ∧ Cond.initialized M.1.cls ∈ ztb ∧ Cond.code M.1 M.2.1 M.2.2.1 M.2.2.2 ∈ ztb ∧ (M.1.cls ≠ "java/lang/invoke/MethodHandle" ∧ M.1.cls ≠ "java/lang/invoke/VarHandle" ∧ (parseMethodDescriptor M.1.desc).map (fun d => d.parameters.length) = some np) ∧ M.2.2.1 ≤ 100
def zMV (M : zMt) (np : Nat) : Prop := Cond.instanceMethod M.1 ∈ ztb ∧ Cond.selects M.1.cls M.1 M.1 ∈ ztb ∧ Cond.initialized M.1.cls ∈ ztb ∧ Cond.code M.1 M.2.1 M.2.2.1 M.2.2.2 ∈ ztb ∧ (M.1.cls ≠ "java/lang/invoke/MethodHandle" ∧ M.1.cls ≠ "java/lang/invoke/VarHandle" ∧ (parseMethodDescriptor M.1.desc).map (fun d => d.parameters.length) = some np) ∧ M.2.2.1 ≤ 100
def zMN (M : zMt) (np : Nat) : Prop := Cond.instanceMethod M.1 ∈ ztb ∧ M.1.name = "<init>" ∧ Cond.initialized M.1.cls ∈ ztb ∧ Cond.code M.1 M.2.1 M.2.2.1 none ∈ ztb ∧ M.2.2.2 = none ∧ (M.1.cls ≠ "java/lang/invoke/MethodHandle" ∧ M.1.cls ≠ "java/lang/invoke/VarHandle" ∧ (parseMethodDescriptor M.1.desc).map (fun d => d.parameters.length) = some np) ∧ M.2.2.1 ≤ 100
theorem g_callS (hm : zMS M' np) (hw : Cond.methodLink M.1.cls i M'.1 ∈ ztb) (hc : zCt l C M' d' mc1 ms1 as n σ Q') (hd : d' + 1 ≤ d) (hst : st = as.reverse ++ st') (hcat : (st'.map zct).sum ≤ 8) (hn : as.length = np) (hmc : mc1 + mc = mc2) (hms : ms1 + ms = ms2) (hdg : decode M.2.1 pc = .ok (.invokestatic i, 3))
    (kk : ∀ (v : Option zV) (n' : Nat) (σ' : zM), Q' v n' σ' → zGo l C M d mc ms (pc + 3) ls (v.toList ++ st') n' σ' Q) : zGo l C M d mc2 ms2 pc ls st n σ Q := by
  intro p e R MC MS s m args below meth c Z F E H locs cells slots la hH hL hcc hss hl
  subst hst
  obtain ⟨hx, hb, hml, hown, hts, hKs, hf1, hf2, hf3, hf4, -⟩ := id F
  obtain ⟨m1, m2, m3, m4, m5⟩ := hm
  have cb : CallB R s args M.1.cls i M'.1 M'.2.1 M'.2.2.1 M'.2.2.2 _ (zRm d' mc1 ms1) mc1 ms1 np := callB_of np hts (zt_good M'.1 m3) rfl rfl rfl (hts _ m2) (hts _ hw) m4 ⟨by show d' + 1 ≤ _; omega, by show 8 + (M'.2.2.1 + 11) + 200 * d' ≤ _; omega⟩
  have hrun := va_runS (As := as.map (zv (zad C))) (rest := st'.map (zv (zad C))) (g := F0 m pc la ((as.reverse ++ st').map (zv (zad C)))) (locs := locs) (cells := cells) (slots := slots) (below := below) (meth := meth) (e := e) ⟨hx, hb, hml, hown, hts⟩ hc ⟨cb, hts _ m1⟩ ⟨zPc_blind, fun U hU hW => ⟨rfl, hKs.warm hW, by rw [hU]; exact hH.moved hW.alike⟩⟩ rfl (by rw [List.length_map]; exact hn) hl.1 (by simp) (lv_room (by rw [zct_sum]; exact hcat)) hdg ⟨by omega, by omega⟩
  refine z_back hrun hL fun v n' σ' H1 locs1 hq hH1 hL1 => ?_
  have := kk v n' σ' hq p e R MC MS s m args below meth c Z F E H1 locs1 (cells + mc1) (slots + ms1) la hH1 hL1 (by omega) (by omega) hl
  rw [List.map_append] at this
  exact this
theorem g_callV {b ci : Nat} (hm : zMV M' np) (hw : Cond.methodLink M.1.cls i M'.1 ∈ ztb) (hk : (zsh C b).1 = 10 + ci) (hcl : (vwCl[ci]?).map (fun r => r.1) = some M'.1.cls) (hb8 : b < 8 + n) (hc : zCt l C M' d' mc1 ms1 (zR b :: as) n σ Q') (hd : d' + 1 ≤ d) (hst : st = as.reverse ++ zR b :: st') (hcat : (st'.map zct).sum ≤ 8) (hn : as.length = np) (hmc : mc1 + mc = mc2) (hms : ms1 + ms = ms2) (hdg : decode M.2.1 pc = .ok (.invokevirtual i, 3))
    (kk : ∀ (v : Option zV) (n' : Nat) (σ' : zM), Q' v n' σ' → zGo l C M d mc ms (pc + 3) ls (v.toList ++ st') n' σ' Q) : zGo l C M d mc2 ms2 pc ls st n σ Q := by
  intro p e R MC MS s m args below meth c Z F E H locs cells slots la hH hL hcc hss hl
  subst hst
  obtain ⟨hx, hb, hml, hown, hts, hKs, hf1, hf2, hf3, hf4, -⟩ := id F
  obtain ⟨m0, m1, m2, m3, m4, m5⟩ := hm
  have cb : CallB R s args M.1.cls i M'.1 M'.2.1 M'.2.2.1 M'.2.2.2 _ (zRm d' mc1 ms1) mc1 ms1 np := callB_of np hts (zt_good M'.1 m3) rfl rfl rfl (hts _ m2) (hts _ hw) m4 ⟨by show d' + 1 ≤ _; omega, by show 8 + (M'.2.2.1 + 11) + 200 * d' ≤ _; omega⟩
  have hrecv : ∃ cellB : Cell, H[zad C b]? = some cellB ∧ cellB.vm.isStatics = false ∧ s.vm.findClass M'.1.cls = some cellB.cls := by
    obtain ⟨r, hr, cell, q1, q2, q3, -⟩ := hH.obj hk hb8
    obtain ⟨-, hfc, -⟩ := hKs.2.2.1.1 ci _ hr
    rw [hr] at hcl
    have e1 : r.1 = M'.1.cls := Option.some.inj hcl
    exact ⟨cell, q1, by rw [q3]; rfl, by rw [← e1, q2]; exact hfc⟩
  have hrun := va_runV (As := as.map (zv (zad C))) (b := zad C b) (rest := st'.map (zv (zad C))) (g := F0 m pc la ((as.reverse ++ zR b :: st').map (zv (zad C)))) (locs := locs) (cells := cells) (slots := slots) (below := below) (meth := meth) (e := e) ⟨hx, hb, hml, hown, hts⟩ hc ⟨cb, hts _ m0, hts _ m1⟩ ⟨zPc_blind, hrecv, fun U hU hW => ⟨rfl, hKs.warm hW, by rw [hU]; exact hH.moved hW.alike⟩⟩ rfl (by rw [List.length_map]; exact hn) hl.1 (by simp [zv]) (lv_room (by rw [zct_sum]; exact hcat)) hdg ⟨by omega, by omega⟩
  refine z_back hrun hL fun v n' σ' H1 locs1 hq hH1 hL1 => ?_
  have := kk v n' σ' hq p e R MC MS s m args below meth c Z F E H1 locs1 (cells + mc1) (slots + ms1) la hH1 hL1 (by omega) (by omega) hl
  rw [List.map_append] at this
  exact this
theorem g_callI {b : Nat} (hm : zMN M' np) (hw : Cond.methodLink M.1.cls i M'.1 ∈ ztb) (hc : zCt l C M' d' mc1 ms1 (zR b :: as) n σ Q') (hd : d' + 1 ≤ d) (hst : st = as.reverse ++ zR b :: st') (hcat : (st'.map zct).sum ≤ 8) (hn : as.length = np) (hmc : mc1 + mc = mc2) (hms : ms1 + ms = ms2) (hdg : decode M.2.1 pc = .ok (.invokespecial i, 3))
    (kk : ∀ (v : Option zV) (n' : Nat) (σ' : zM), Q' v n' σ' → zGo l C M d mc ms (pc + 3) ls (v.toList ++ st') n' σ' Q) : zGo l C M d mc2 ms2 pc ls st n σ Q := by
  intro p e R MC MS s m args below meth c Z F E H locs cells slots la hH hL hcc hss hl
  subst hst
  obtain ⟨hx, hb, hml, hown, hts, hKs, hf1, hf2, hf3, hf4, -⟩ := id F
  obtain ⟨m0, m1, m2, m3, mr, m4, m5⟩ := hm
  have hc' : Met l M'.1 (Cond.code M'.1 M'.2.1 M'.2.2.1 none :: ztb) (zRm d' mc1 ms1) (zPc C (zR b :: as) n σ) (zQc C Q') mc1 ms1 (zA C) := by
    have h := hc
    unfold zCt at h
    rw [mr] at h
    exact h
  have cb : CallB R s args M.1.cls i M'.1 M'.2.1 M'.2.2.1 none _ (zRm d' mc1 ms1) mc1 ms1 np := callB_of np hts (zt_good M'.1 m3) rfl rfl rfl (hts _ m2) (hts _ hw) m4 ⟨by show d' + 1 ≤ _; omega, by show 8 + (M'.2.2.1 + 11) + 200 * d' ≤ _; omega⟩
  have hrun := va_runI (As := as.map (zv (zad C))) (b := zad C b) (rest := st'.map (zv (zad C))) (g := F0 m pc la ((as.reverse ++ zR b :: st').map (zv (zad C)))) (locs := locs) (cells := cells) (slots := slots) (below := below) (meth := meth) (e := e) ⟨hx, hb, hml, hown, hts⟩ hc' ⟨cb, m1, hts _ m0⟩ ⟨zPc_blind, fun U hU hW => ⟨rfl, hKs.warm hW, by rw [hU]; exact hH.moved hW.alike⟩⟩ rfl (by rw [List.length_map]; exact hn) hl.1 (by simp [zv]) (lv_room (by rw [zct_sum]; exact hcat)) hdg ⟨by omega, by omega⟩
  refine z_back hrun hL fun v n' σ' H1 locs1 hq hH1 hL1 => ?_
  have := kk v n' σ' hq p e R MC MS s m args below meth c Z F E H1 locs1 (cells + mc1) (slots + ms1) la hH1 hL1 (by omega) (by omega) hl
  rw [List.map_append] at this
  exact this
theorem g_callN {b : Nat} (hm : zMN M' np) (hw : Cond.methodLinkNest M.1.cls i M'.1 "DrumPeace" ∈ zNest) (hc : zCt l C M' d' mc1 ms1 (zR b :: as) n σ Q') (hd : d' + 1 ≤ d) (hst : st = as.reverse ++ zR b :: st') (hcat : (st'.map zct).sum ≤ 8) (hn : as.length = np) (hmc : mc1 + mc = mc2) (hms : ms1 + ms = ms2) (hdg : decode M.2.1 pc = .ok (.invokespecial i, 3))
    (kk : ∀ (v : Option zV) (n' : Nat) (σ' : zM), Q' v n' σ' → zGo l C M d mc ms (pc + 3) ls (v.toList ++ st') n' σ' Q) : zGo l C M d mc2 ms2 pc ls st n σ Q := by
  intro p e R MC MS s m args below meth c Z F E H locs cells slots la hH hL hcc hss hl
  subst hst
  obtain ⟨hx, hb, hml, hown, hts, hKs, hf1, hf2, hf3, hf4, -⟩ := id F
  obtain ⟨m0, m1, m2, m3, mr, m4, m5⟩ := hm
  have hc' : Met l M'.1 (Cond.code M'.1 M'.2.1 M'.2.2.1 none :: ztb) (zRm d' mc1 ms1) (zPc C (zR b :: as) n σ) (zQc C Q') mc1 ms1 (zA C) := by
    have h := hc
    unfold zCt at h
    rw [mr] at h
    exact h
  have cb : va_CN R s args M.1.cls i M'.1 "DrumPeace" M'.2.1 M'.2.2.1 none _ (zRm d' mc1 ms1) mc1 ms1 np := va_cnB np hts (zt_good M'.1 m3) rfl rfl rfl (hKs.2.2.2.1 _ hw) (hts _ m2) m4 ⟨by show d' + 1 ≤ _; omega, by show 8 + (M'.2.2.1 + 11) + 200 * d' ≤ _; omega⟩
  have hrun := va_runIN (As := as.map (zv (zad C))) (b := zad C b) (rest := st'.map (zv (zad C))) (g := F0 m pc la ((as.reverse ++ zR b :: st').map (zv (zad C)))) (locs := locs) (cells := cells) (slots := slots) (below := below) (meth := meth) (e := e) ⟨hx, hb, hml, hown, hts⟩ hc' ⟨cb, m1, hts _ m0⟩ ⟨zPc_blind, fun U hU hW => ⟨rfl, hKs.warm hW, by rw [hU]; exact hH.moved hW.alike⟩⟩ rfl (by rw [List.length_map]; exact hn) hl.1 (by simp [zv]) (lv_room (by rw [zct_sum]; exact hcat)) hdg ⟨by omega, by omega⟩
  refine z_back hrun hL fun v n' σ' H1 locs1 hq hH1 hL1 => ?_
  have := kk v n' σ' hq p e R MC MS s m args below meth c Z F E H1 locs1 (cells + mc1) (slots + ms1) la hH1 hL1 (by omega) (by omega) hl
  rw [List.map_append] at this
  exact this
end
