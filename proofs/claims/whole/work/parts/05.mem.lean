section
variable {l : Launch} {C : zC} {M : zMt} {d mc ms pc : Nat} {ls : List (Option zV)} {st : List zV} {n : Nat} {σ : zM} {Q : Option zV → Nat → zM → Prop}
/-! fields -/
def zFld (own : String) (i ci k : Nat) : Prop := ∃ r : vw_C, vwCl[ci]? = some r ∧ k < r.2.2 ∧ Cond.fieldLink own i (r.2.1 k).1 (r.2.1 k).2.1 (r.2.1 k).2.2.1 ∈ ztb
def zFldW (own : String) (i ci k : Nat) (fin : Bool) (ty : FieldType) : Prop := ∃ r : vw_C, vwCl[ci]? = some r ∧ k < r.2.2 ∧ Cond.fieldLink own i (r.2.1 k).1 (r.2.1 k).2.1 (r.2.1 k).2.2.1 ∈ ztb ∧ (r.2.1 k).2.2.2 = fin ∧ parseFieldDescriptor (r.2.1 k).2.2.1 = some ty ∧ (fin = true → (r.2.1 k).1 = own)
def zClsOk (r : vw_C) : Prop := (∀ w ∈ u_ws r.1 r.2.1 r.2.2, w ∈ ztb) ∧ (∃ ty0 : Nat → FieldType, ∀ k, k < r.2.2 → parseFieldDescriptor (r.2.1 k).2.2.1 = some (ty0 k)) ∧ (∀ a, a < r.2.2 → ∀ b, b < r.2.2 → a ≠ b → (r.2.1 a).2.1 ≠ (r.2.1 b).2.1)
theorem zHp.obj {U : State} {H : Heap} (hH : zHp C U n σ H) {a ci : Nat} (hk : (zsh C a).1 = 10 + ci) (ha : a < 8 + n) : zObj (zD C) (zad C) ci (zad C a) (σ a) H := by
  have h := (hH.2.2 a ha).2 (by omega)
  rw [show (zsh C a).1 - 10 = ci by omega] at h
  exact h
theorem zHp.arr {U : State} {H : Heap} (hH : zHp C U n σ H) {a k N : Nat} (hk : zsh C a = (k, N)) (h0 : 0 < k) (h1 : k < 10) (ha : a < 8 + n) : zArr (zad C) U (zTy k) N (zad C a) (σ a) H := by
  have h := (hH.2.2 a ha).1
  rw [hk] at h
  exact h h0 h1
theorem g_get {a ci k i : Nat} {v : zV} (hf : zFld M.1.cls i ci k) (hc1 : ∀ r, vwCl[ci]? = some r → zClsOk r) (hk : (zsh C a).1 = 10 + ci) (ha : a < 8 + n) (hv : σ a (k : Int) = v) (hdg : decode M.2.1 pc = .ok (.getfield i, 3)) (kk : zGo l C M d mc ms (pc + 3) ls (v :: st) n σ Q) : zGo l C M d mc ms pc ls (zR a :: st) n σ Q := by
  intro p e R MC MS s m args below meth c Z F E H locs cells slots la hH hL hc hs hl
  obtain ⟨r, hr, hkN, hw⟩ := hf
  obtain ⟨hin, -, -⟩ := hc1 r hr
  obtain ⟨r', hr', cell, q1, q2, q3, q4⟩ := hH.obj hk ha
  cases hr.symm.trans hr'
  have hts := F.2.2.2.2.1
  have hK := F.2.2.2.2.2.1.2.2.1
  obtain ⟨hS, hfc, kC, hkC, hkind⟩ := hK.1 ci _ hr
  obtain ⟨cf, kf, fi, f, hi, hsl⟩ := hS k hkN
  refine W.getf F.1 F.2.1 F.2.2.2.1 (hts _ hw) hi (u_facts hfc hkC (u_lays hts hin hkN) hi).1 q1 (by rw [q3]; exact fun h => by cases h) (v := zv (zad C) v) ?_ rfl rfl hdg (kk p e R MC MS s m args below meth c Z F E H locs cells slots la hH hL hc hs hl)
  rw [hsl, q4 k hkN]
  show some (zv (zad C) (σ a (k : Int))) = _
  rw [hv]
theorem zup_self {a : Nat} {x : Int} {v : zV} : zup σ a x v a x = v := if_pos ⟨rfl, rfl⟩
theorem g_put {a ci k i : Nat} {v : zV} {ty : FieldType} (hf : zFldW M.1.cls i ci k false ty) (hc1 : ∀ r, vwCl[ci]? = some r → zClsOk r) (hk : (zsh C a).1 = 10 + ci) (ha : a < 8 + n) (h8 : 8 ≤ a) (hnr : narrow ty (zv (zad C) v) = zv (zad C) v) (hft : fits ty (zv (zad C) v) = true) (hdg : decode M.2.1 pc = .ok (.putfield i, 3)) (kk : zGo l C M d mc ms (pc + 3) ls st n (zup σ a k v) Q) : zGo l C M d mc ms pc ls (v :: zR a :: st) n σ Q := by
  intro p e R MC MS s m args below meth c Z F E H locs cells slots la hH hL hc hs hl
  obtain ⟨r, hr, hkN, hw, hfin, hd, -⟩ := hf
  obtain ⟨hin, ⟨ty0, hty⟩, hnm⟩ := hc1 r hr
  have hts := F.2.2.2.2.1
  have hKs := F.2.2.2.2.2.1
  have hK := hKs.2.2.1
  have hap := va_apart (own := M.1.cls) (N := r.2.2) (T := r.2.1) (C := r.1) hts hin ty0 hty hnm hK hr
  obtain ⟨r', hr', cell, q1, q2, q3, q4⟩ := hH.obj hk ha
  cases hr.symm.trans hr'
  obtain ⟨hS, hfc, kC, hkC, hkind⟩ := hK.1 ci _ hr
  obtain ⟨cf, kf, fi, f, hi, hsl⟩ := hS k hkN
  have hlay := hts _ (hin _ (u_in_lay hkN))
  unfold u_lay at hlay
  rw [if_neg (by rw [hfin]; decide)] at hlay
  have hst := (u_facts hfc hkC (u_lays hts hin hkN) hi).1
  have h6 := u_store hfc hkC hkind hlay hi hd hnr hft
  refine W.putK F.1 F.2.1 (f := f) ⟨F.2.2.2.1, hts _ hw, ⟨_, _, _, hi⟩, hst⟩ (by rw [q2]; exact h6) q1 q3 (by rw [hsl]; exact k2_hasslot (q4 k hkN)) rfl rfl hdg fun H' e1 e2 e3 => ?_
  rw [hsl] at e1 ⊢
  have h8' : zz C ≤ zad C a := by rw [hKs.1 a h8]; exact Nat.le_add_right _ _
  refine kk p e R MC MS s m args below meth c Z F E H' _ cells slots la (hH.set hKs h8 e2 e3 (fun b hb => by funext y; simp [zup, hb]) ⟨fun _ q => by omega, fun _ => ?_⟩) (fun q hq => ?_) hc hs hl
  · rw [show (zsh C a).1 - 10 = ci by omega]
    refine ⟨_, hr, t_OB.to (V := updV (fun k => zv (zad C) (σ a (k : Int))) k (zv (zad C) v)) ⟨_, e1, q2, q3, t_set q4 hap hkN _⟩ (fun j _ => ?_)⟩
    by_cases hj : j = k
    · subst hj
      simp [updV, zup]
    · have : ¬ ((j : Int) = (k : Int)) := by omega
      simp [updV, zup, hj, this]
  · rcases List.mem_append.mp hq with h | h
    · exact hL q h
    · rw [List.mem_singleton.mp h]
      exact h8'
theorem g_putF {a ci k i : Nat} {v : zV} {ty : FieldType} (hf : zFldW M.1.cls i ci k true ty) (hname : M.1.name = "<init>") (hc1 : ∀ r, vwCl[ci]? = some r → zClsOk r) (hk : (zsh C a).1 = 10 + ci) (ha : a < 8 + n) (h8 : 8 ≤ a) (hnr : narrow ty (zv (zad C) v) = zv (zad C) v) (hft : fits ty (zv (zad C) v) = true) (hdg : decode M.2.1 pc = .ok (.putfield i, 3)) (kk : zGo l C M d mc ms (pc + 3) ls st n (zup σ a k v) Q) : zGo l C M d mc ms pc ls (v :: zR a :: st) n σ Q := by
  intro p e R MC MS s m args below meth c Z F E H locs cells slots la hH hL hc hs hl
  obtain ⟨r, hr, hkN, hw, hfin, hd, hdecl⟩ := hf
  have hdecl := hdecl rfl
  obtain ⟨hin, ⟨ty0, hty⟩, hnm⟩ := hc1 r hr
  have hts := F.2.2.2.2.1
  have hKs := F.2.2.2.2.2.1
  have hK := hKs.2.2.1
  have hin2 : meth.name = "<init>" := by rw [F.2.2.2.2.2.2.2.2.2.2]; exact hname
  have hap := va_apart (own := M.1.cls) (N := r.2.2) (T := r.2.1) (C := r.1) hts hin ty0 hty hnm hK hr
  obtain ⟨r', hr', cell, q1, q2, q3, q4⟩ := hH.obj hk ha
  cases hr.symm.trans hr'
  obtain ⟨hS, hfc, kC, hkC, hkind⟩ := hK.1 ci _ hr
  obtain ⟨cf, kf, fi, f, hi, hsl⟩ := hS k hkN
  have hlay := hts _ (hin _ (u_in_lay hkN))
  unfold u_lay at hlay
  rw [if_pos hfin] at hlay
  have hst := (u_facts hfc hkC (u_lays hts hin hkN) hi).1
  have hcf : m.cls = cf := by
    obtain ⟨_, _, c', _, _, _, -, -, hf', -, -, -, hown2, -⟩ := Cond.laysFinal_spec hlay
    have e1 : c' = cf := by have := hi.symm.trans hf'; simp at this; exact this.1.symm
    rw [hdecl] at hown2
    rw [← e1]; exact Option.some.inj (F.2.2.2.1.symm.trans hown2)
  have h6 := u_fits hfc hkC hkind (Or.inr hlay) hi hd hnr hft
  refine W.putFinK F.1 F.2.1 F.2.2.2.1 (hts _ hw) hi hst hcf hin2 (by rw [q2]; exact h6) q1 q3 (by rw [hsl]; exact k2_hasslot (q4 k hkN)) rfl rfl hdg fun H' e1 e2 e3 => ?_
  rw [hsl] at e1 ⊢
  have h8' : zz C ≤ zad C a := by rw [hKs.1 a h8]; exact Nat.le_add_right _ _
  refine kk p e R MC MS s m args below meth c Z F E H' _ cells slots la (hH.set hKs h8 e2 e3 (fun b hb => by funext y; simp [zup, hb]) ⟨fun _ q => by omega, fun _ => ?_⟩) (fun q hq => ?_) hc hs hl
  · rw [show (zsh C a).1 - 10 = ci by omega]
    refine ⟨_, hr, t_OB.to (V := updV (fun k => zv (zad C) (σ a (k : Int))) k (zv (zad C) v)) ⟨_, e1, q2, q3, t_set q4 hap hkN _⟩ (fun j _ => ?_)⟩
    by_cases hj : j = k
    · subst hj
      simp [updV, zup]
    · have : ¬ ((j : Int) = (k : Int)) := by omega
      simp [updV, zup, hj, this]
  · rcases List.mem_append.mp hq with h | h
    · exact hL q h
    · rw [List.mem_singleton.mp h]
      exact h8'
/-! arrays -/
theorem zArr.at {ad : Nat → Nat} {f : Int → zV} {N : Nat} {slots : Array Value} (h : ∀ j : Nat, j < N → slots[j]? = some (zv ad (f (j : Int)))) {x : Int} (h0 : 0 ≤ x) (h1 : x < N) (h2 : x < 2147483648) : slots[(Int32.ofInt x).toNatClampNeg]? = some (zv ad (f x)) := by
  rw [zi_nat h0 h2, h x.toNat (by omega)]
  congr 3
  omega
theorem g_iald {a N : Nat} {x y : Int} (hk : zsh C a = (1, N)) (ha : a < 8 + n) (h0 : 0 ≤ x) (h1 : x < N) (hN : N < 2147483648) (hv : σ a x = zI y) (hdg : decode M.2.1 pc = .ok (.iaload, 1)) (kk : zGo l C M d mc ms (pc + 1) ls (zI y :: st) n σ Q) : zGo l C M d mc ms pc ls (zI x :: zR a :: st) n σ Q := by
  intro p e R MC MS s m args below meth c Z F E H locs cells slots la hH hL hc hs hl
  obtain ⟨cell, q1, q2, q3, q4, q5⟩ := hH.arr hk (by decide) (by decide) ha
  exact W.iald F.1 F.2.1 q1 q2.1 q3 (zi_in h0 (by omega) (by omega)) (by rw [zArr.at q5 h0 h1 (by omega), hv]) rfl rfl hdg (kk p e R MC MS s m args below meth c Z F E H locs cells slots la hH hL hc hs hl)
theorem g_zald {a N : Nat} {x y : Int} (hk : zsh C a = (2, N)) (ha : a < 8 + n) (h0 : 0 ≤ x) (h1 : x < N) (hN : N < 2147483648) (hv : σ a x = zI y) (hdg : decode M.2.1 pc = .ok (.baload, 1)) (kk : zGo l C M d mc ms (pc + 1) ls (zI y :: st) n σ Q) : zGo l C M d mc ms pc ls (zI x :: zR a :: st) n σ Q := by
  intro p e R MC MS s m args below meth c Z F E H locs cells slots la hH hL hc hs hl
  obtain ⟨cell, q1, q2, q3, q4, q5⟩ := hH.arr hk (by decide) (by decide) ha
  exact W.zald F.1 F.2.1 q1 q2.1 q3 (zi_in h0 (by omega) (by omega)) (by rw [zArr.at q5 h0 h1 (by omega), hv]) rfl rfl hdg (kk p e R MC MS s m args below meth c Z F E H locs cells slots la hH hL hc hs hl)
theorem g_aald {a k N b : Nat} {x : Int} (hk : zsh C a = (k, N)) (hk2 : k = 3 ∨ k = 4) (ha : a < 8 + n) (h0 : 0 ≤ x) (h1 : x < N) (hN : N < 2147483648) (hv : σ a x = zR b) (hdg : decode M.2.1 pc = .ok (.aaload, 1)) (kk : zGo l C M d mc ms (pc + 1) ls (zR b :: st) n σ Q) : zGo l C M d mc ms pc ls (zI x :: zR a :: st) n σ Q := by
  intro p e R MC MS s m args below meth c Z F E H locs cells slots la hH hL hc hs hl
  obtain ⟨cell, q1, q2, q3, q4, q5⟩ := hH.arr hk (by omega) (by omega) ha
  exact W.aald F.1 F.2.1 q1 q2.1 (by rcases hk2 with rfl | rfl <;> rfl) q3 (zi_in h0 (by omega) (by omega)) (by rw [zArr.at q5 h0 h1 (by omega), hv]) rfl rfl hdg (kk p e R MC MS s m args below meth c Z F E H locs cells slots la hH hL hc hs hl)
theorem g_alen {a k N : Nat} (hk : zsh C a = (k, N)) (hk1 : 0 < k) (hk2 : k < 10) (ha : a < 8 + n) (hdg : decode M.2.1 pc = .ok (.arraylength, 1)) (kk : zGo l C M d mc ms (pc + 1) ls (zI (N : Int) :: st) n σ Q) : zGo l C M d mc ms pc ls (zR a :: st) n σ Q := by
  intro p e R MC MS s m args below meth c Z F E H locs cells slots la hH hL hc hs hl
  obtain ⟨cell, q1, q2, q3, q4, q5⟩ := hH.arr hk hk1 hk2 ha
  exact W.alen (n := Int32.ofInt (N : Int)) F.1 F.2.1 q1 q2.1 (by rw [q4.2, Int32.ofInt_eq_ofNat]) rfl rfl hdg (kk p e R MC MS s m args below meth c Z F E H locs cells slots la hH hL hc hs hl)
theorem zArr.set {ad : Nat → Nat} {U : State} {ty : FieldType} {N q : Nat} {f g : Int → zV} {H1 : Heap} {cell : Cell} (q2 : zIs U cell ty) (q3 : cell.vm ≠ .unknown) (q4 : N ≤ cell.slots.size ∧ cell.slots.size.toInt32 = Int32.ofNat N) (q5 : ∀ j : Nat, j < N → cell.slots[j]? = some (zv ad (f (j : Int)))) {x : Int} {v : Value} (h0 : 0 ≤ x) (h1 : x < N) (h2 : x < 2147483648) (e1 : H1[q]? = some (cell.setSlot (Int32.ofInt x).toNatClampNeg v)) (hg : ∀ y, y ≠ x → g y = f y) (hx : zv ad (g x) = v) : zArr ad U ty N q g H1 := by
  rw [zi_nat h0 h2] at e1
  refine ⟨_, e1, ⟨q2.1, q2.2⟩, q3, by simpa [Cell.setSlot] using q4, fun j hj => ?_⟩
  by_cases hjx : j = x.toNat
  · subst hjx
    rw [Cell.slots_setSlot_self _ (by omega)]
    rw [show ((x.toNat : Nat) : Int) = x by omega, hx]
  · rw [slot_ne _ _ (Ne.symm hjx), q5 j hj, hg j (by omega)]
theorem g_iast {a N : Nat} {x y : Int} (hk : zsh C a = (1, N)) (ha : a < 8 + n) (h8 : 8 ≤ a) (h0 : 0 ≤ x) (h1 : x < N) (hN : N < 2147483648) (hdg : decode M.2.1 pc = .ok (.iastore, 1)) (kk : zGo l C M d mc ms (pc + 1) ls st n (zup σ a x (zI y)) Q) : zGo l C M d mc ms pc ls (zI y :: zI x :: zR a :: st) n σ Q := by
  intro p e R MC MS s m args below meth c Z F E H locs cells slots la hH hL hc hs hl
  have hKs := F.2.2.2.2.2.1
  obtain ⟨cell, q1, q2, q3, q4, q5⟩ := hH.arr hk (by decide) (by decide) ha
  have h8' : zz C ≤ zad C a := by rw [hKs.1 a h8]; exact Nat.le_add_right _ _
  refine W.iast F.1 F.2.1 q1 q2.1 q3 (zi_in h0 (by omega) (by omega)) rfl rfl hdg fun H' e1 e2 e3 => ?_
  refine kk p e R MC MS s m args below meth c Z F E H' _ cells slots la (hH.set hKs h8 e2 e3 (fun b hb => by funext y; simp [zup, hb]) ⟨fun _ _ => ?_, fun q => by rw [hk] at q; omega⟩) (fun q hq => ?_) hc hs hl
  · rw [hk]
    exact zArr.set q2 q3 q4 q5 h0 h1 (by omega) e1 (fun z hz => by simp [zup, hz]) (by simp [zup, zv])
  · rcases List.mem_append.mp hq with h | h
    · exact hL q h
    · rw [List.mem_singleton.mp h]
      exact h8'
theorem g_zast {a N : Nat} {x y : Int} (hy : y = 0 ∨ y = 1) (hk : zsh C a = (2, N)) (ha : a < 8 + n) (h8 : 8 ≤ a) (h0 : 0 ≤ x) (h1 : x < N) (hN : N < 2147483648) (hdg : decode M.2.1 pc = .ok (.bastore, 1)) (kk : zGo l C M d mc ms (pc + 1) ls st n (zup σ a x (zI y)) Q) : zGo l C M d mc ms pc ls (zI y :: zI x :: zR a :: st) n σ Q := by
  intro p e R MC MS s m args below meth c Z F E H locs cells slots la hH hL hc hs hl
  have hKs := F.2.2.2.2.2.1
  obtain ⟨cell, q1, q2, q3, q4, q5⟩ := hH.arr hk (by decide) (by decide) ha
  have h8' : zz C ≤ zad C a := by rw [hKs.1 a h8]; exact Nat.le_add_right _ _
  refine W.zast F.1 F.2.1 q1 q2.1 q3 (zi_in h0 (by omega) (by omega)) rfl rfl hdg fun H' e1 e2 e3 => ?_
  refine kk p e R MC MS s m args below meth c Z F E H' _ cells slots la (hH.set hKs h8 e2 e3 (fun b hb => by funext y; simp [zup, hb]) ⟨fun _ _ => ?_, fun q => by rw [hk] at q; omega⟩) (fun q hq => ?_) hc hs hl
  · rw [hk]
    refine zArr.set q2 q3 q4 q5 h0 h1 (by omega) e1 (fun z hz => by simp [zup, hz]) ?_
    rcases hy with rfl | rfl <;> simp [zup, zv] <;> rfl
  · rcases List.mem_append.mp hq with h | h
    · exact hL q h
    · rw [List.mem_singleton.mp h]
      exact h8'
theorem g_aast {a b N : Nat} {x : Int} (hk : zsh C a = (3, N)) (ha : a < 8 + n) (h8 : 8 ≤ a) (hkb : (zsh C b).1 = 15) (hb : b < 8 + n) (h0 : 0 ≤ x) (h1 : x < N) (hN : N < 2147483648) (hdg : decode M.2.1 pc = .ok (.aastore, 1)) (kk : zGo l C M d mc ms (pc + 1) ls st n (zup σ a x (zR b)) Q) : zGo l C M d mc ms pc ls (zR b :: zI x :: zR a :: st) n σ Q := by
  intro p e R MC MS s m args below meth c Z F E H locs cells slots la hH hL hc hs hl
  have hKs := F.2.2.2.2.2.1
  have hK := hKs.2.2.1
  obtain ⟨cell, q1, q2, q3, q4, q5⟩ := hH.arr hk (by decide) (by decide) ha
  have h8' : zz C ≤ zad C a := by rw [hKs.1 a h8]; exact Nat.le_add_right _ _
  obtain ⟨r, hr, cellV, g1, g2, g3, -⟩ := hH.obj (ci := 5) hkb hb
  cases hr
  have hcls := (hK.1 5 _ rfl).2
  obtain ⟨comp, c2, k2, h1a, h2a, h3a, h4a, h5a⟩ := Cond.arrayOver_spec hKs.2.2.2.2.2.1
  have hcc : cell.cls = c2 := Option.some.inj ((q2.2 _ rfl).symm.trans h5a)
  have hcomp : comp = (zD C).1 5 := Option.some.inj (h1a.symm.trans hcls.1)
  subst hcomp
  obtain ⟨kC, hkC, hkind⟩ := hcls.2
  refine W.aast F.1 F.2.1 q1 q2.1.1 q3 (by rw [hcc]; exact h3a) h4a rfl hkC ⟨by rw [zi_lt0 ⟨by omega, by omega⟩]; omega, by rw [zi_nat h0 (by omega)]; omega⟩ g1 (fun q h => by rw [g3] at h; cases h) (by rw [g2]; exact hkC) (by rw [g2]; exact va_assign hcls) rfl rfl hdg fun H' e1 e2 e3 => ?_
  refine kk p e R MC MS s m args below meth c Z F E H' _ cells slots la (hH.set hKs h8 e2 e3 (fun b hb => by funext y; simp [zup, hb]) ⟨fun _ _ => ?_, fun q => by rw [hk] at q; omega⟩) (fun q hq => ?_) hc hs hl
  · rw [hk]
    exact zArr.set q2 q3 q4 q5 h0 h1 (by omega) e1 (fun z hz => by simp [zup, hz]) (by simp [zup, zv])
  · rcases List.mem_append.mp hq with h | h
    · exact hL q h
    · rw [List.mem_singleton.mp h]
      exact h8'
end
