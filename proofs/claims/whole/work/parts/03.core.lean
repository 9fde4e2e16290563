section
/-! A SMALL MACHINE OVER THE MACHINE: values are mathematical integers and numbered references, memory is a function; each instruction is one rule of zGo; zCt is a method's contract -/
abbrev zV : Type := Int ⊕ (Int ⊕ Option Nat)
abbrev zI (x : Int) : zV := .inl x
abbrev zL (x : Int) : zV := .inr (.inl x)
abbrev zR (a : Nat) : zV := .inr (.inr (some a))
abbrev zN : zV := .inr (.inr none)
abbrev zM : Type := Nat → Int → zV
def zv (ad : Nat → Nat) : zV → Value
  | .inl x => .int (Int32.ofInt x)
  | .inr (.inl x) => .long (Int64.ofInt x)
  | .inr (.inr (some a)) => .ref (ad a)
  | .inr (.inr none) => .null
abbrev zB (x : Int) : Prop := -2147483648 ≤ x ∧ x < 2147483648
abbrev zB8 (x : Int) : Prop := -9223372036854775808 ≤ x ∧ x < 9223372036854775808
theorem zi_to {x : Int} (h : zB x) : (Int32.ofInt x).toInt = x := Int32.toInt_ofInt_of_le (by have := h.1; omega) (by have := h.2; omega)
theorem zi_lt {x y : Int} (hx : zB x) (hy : zB y) : Int32.ofInt x < Int32.ofInt y ↔ x < y := by rw [Int32.lt_iff_toInt_lt, zi_to hx, zi_to hy]
theorem zi_le {x y : Int} (hx : zB x) (hy : zB y) : Int32.ofInt x ≤ Int32.ofInt y ↔ x ≤ y := by rw [Int32.le_iff_toInt_le, zi_to hx, zi_to hy]
theorem zi_eq {x y : Int} (hx : zB x) (hy : zB y) : Int32.ofInt x = Int32.ofInt y ↔ x = y := by rw [← Int32.toInt_inj, zi_to hx, zi_to hy]
theorem zi_0 : (0 : Int32) = Int32.ofInt 0 := rfl
theorem zi_lt0 {x : Int} (hx : zB x) : Int32.ofInt x < 0 ↔ x < 0 := by rw [zi_0]; exact zi_lt hx (by decide)
theorem zi_0lt {x : Int} (hx : zB x) : 0 < Int32.ofInt x ↔ 0 < x := by rw [zi_0]; exact zi_lt (by decide) hx
theorem zi_le0 {x : Int} (hx : zB x) : Int32.ofInt x ≤ 0 ↔ x ≤ 0 := by rw [zi_0]; exact zi_le hx (by decide)
theorem zi_0le {x : Int} (hx : zB x) : 0 ≤ Int32.ofInt x ↔ 0 ≤ x := by rw [zi_0]; exact zi_le (by decide) hx
theorem zi_eq0 {x : Int} (hx : zB x) : Int32.ofInt x = 0 ↔ x = 0 := by rw [zi_0]; exact zi_eq hx (by decide)
theorem zi_nat {x : Int} (h0 : 0 ≤ x) (h : x < 2147483648) : (Int32.ofInt x).toNatClampNeg = x.toNat := Int32.toNatClampNeg_ofInt_of_le (by omega) (by omega)
theorem zi_in {x : Int} {n : Nat} (h0 : 0 ≤ x) (h : x < n) (h2 : x < 2147483648) : ¬ (Int32.ofInt x < 0 ∨ n ≤ (Int32.ofInt x).toNatClampNeg) := by
  rw [zi_nat h0 h2, zi_lt0 ⟨by omega, h2⟩]
  omega
theorem zi_nI (x : Int) (h0 : 0 ≤ x) : Int32.ofInt x = nI x.toNat := by
  have e : x = (x.toNat : Int) := by omega
  rw [e]
  exact Int32.ofInt_eq_ofNat
theorem zi_div {x y : Int} (h0 : 0 ≤ x) (h1 : x < 2147483648) (h2 : 0 < y) (h3 : y < 2147483648) : Int32.ofInt x / Int32.ofInt y = Int32.ofInt (x / y) := by
  obtain ⟨a, rfl⟩ : ∃ a : Nat, x = a := ⟨x.toNat, by omega⟩
  obtain ⟨b, rfl⟩ : ∃ b : Nat, y = b := ⟨y.toNat, by omega⟩
  have e := pk_div (a := a) (d := b) (by omega) (by omega) (by omega)
  rw [show (a : Int) / (b : Int) = ((a / b : Nat) : Int) from by simp]
  rw [Int32.ofInt_eq_ofNat, Int32.ofInt_eq_ofNat, Int32.ofInt_eq_ofNat]
  exact e
theorem zi_rem {x y : Int} (h0 : 0 ≤ x) (h1 : x < 2147483648) (h2 : 0 < y) (h3 : y < 2147483648) : Int32.ofInt x - Int32.ofInt x / Int32.ofInt y * Int32.ofInt y = Int32.ofInt (x % y) := by
  obtain ⟨a, rfl⟩ : ∃ a : Nat, x = a := ⟨x.toNat, by omega⟩
  obtain ⟨b, rfl⟩ : ∃ b : Nat, y = b := ⟨y.toNat, by omega⟩
  have e := pk_rem (a := a) (d := b) (by omega) (by omega) (by omega)
  rw [show (a : Int) % (b : Int) = ((a % b : Nat) : Int) from by simp]
  rw [Int32.ofInt_eq_ofNat, Int32.ofInt_eq_ofNat, Int32.ofInt_eq_ofNat]
  exact e
theorem zl_to {x : Int} (h : zB8 x) : (Int64.ofInt x).toInt = x := Int64.toInt_ofInt_of_le (by have := h.1; omega) (by have := h.2; omega)
theorem zl_lt {x y : Int} (hx : zB8 x) (hy : zB8 y) : Int64.ofInt x < Int64.ofInt y ↔ x < y := by rw [Int64.lt_iff_toInt_lt, zl_to hx, zl_to hy]
theorem zl_eq {x y : Int} (hx : zB8 x) (hy : zB8 y) : Int64.ofInt x = Int64.ofInt y ↔ x = y := by rw [← Int64.toInt_inj, zl_to hx, zl_to hy]
theorem zl_div {x y : Int} (h0 : 0 ≤ x) (h1 : x < 9223372036854775808) (h2 : 0 < y) (h3 : y < 9223372036854775808) : Int64.ofInt x / Int64.ofInt y = Int64.ofInt (x / y) := by
  obtain ⟨a, rfl⟩ : ∃ a : Nat, x = a := ⟨x.toNat, by omega⟩
  obtain ⟨b, rfl⟩ : ∃ b : Nat, y = b := ⟨y.toNat, by omega⟩
  have e := pk_lDiv (a := a) (b := b) (by omega) (by omega) (by omega)
  rw [show (a : Int) / (b : Int) = ((a / b : Nat) : Int) from by simp]
  rw [Int64.ofInt_eq_ofNat, Int64.ofInt_eq_ofNat, Int64.ofInt_eq_ofNat]
  exact e
theorem zl_rem {x y : Int} (h0 : 0 ≤ x) (h1 : x < 9223372036854775808) (h2 : 0 < y) (h3 : y < 9223372036854775808) : Int64.ofInt x - Int64.ofInt x / Int64.ofInt y * Int64.ofInt y = Int64.ofInt (x % y) := by
  obtain ⟨a, rfl⟩ : ∃ a : Nat, x = a := ⟨x.toNat, by omega⟩
  obtain ⟨b, rfl⟩ : ∃ b : Nat, y = b := ⟨y.toNat, by omega⟩
  have e := pk_lRem (a := a) (b := b) (by omega) (by omega) (by omega)
  rw [show (a : Int) % (b : Int) = ((a % b : Nat) : Int) from by simp]
  rw [Int64.ofInt_eq_ofNat, Int64.ofInt_eq_ofNat, Int64.ofInt_eq_ofNat]
  exact e
theorem zl_of {x : Int} (h : zB x) : (Int32.ofInt x).toInt64 = Int64.ofInt x := by
  apply Int64.toInt_inj.mp
  rw [Int32.toInt_toInt64, zi_to h, zl_to ⟨by omega, by omega⟩]
theorem zl_cut {x : Int} : (Int64.ofInt x).toInt32 = Int32.ofInt x := by
  apply Int32.toBitVec.inj
  simp
/-! words: those of the tables that a call may carry -/
def ztb : List Cond := lw_tbl.filter goodWord
theorem zt_in {w : Cond} (h : w ∈ lw_tbl) (g : goodWord w = true) : w ∈ ztb := List.mem_filter.mpr ⟨h, g⟩
theorem zt_sub {w : Cond} (h : w ∈ ztb) : w ∈ lw_tbl := (List.mem_filter.mp h).1
theorem zt_good (y : MethodName) {b : ByteArray} {n : Nat} {r : Option FieldType} (h : Cond.code y b n r ∈ ztb) : GoodIn ztb (Cond.code y b n r :: ztb) := by
  intro w hw
  rcases List.mem_cons.mp hw with rfl | hw
  · exact ⟨h, good_of_word (List.mem_filter.mp h).2⟩
  · exact ⟨hw, good_of_word (List.mem_filter.mp hw).2⟩
/-! contexts -/
abbrev zC : Type := va_G × (Nat → Nat) × (Nat → Nat × Nat) × Nat
abbrev zD (C : zC) : va_G := C.1
abbrev zad (C : zC) : Nat → Nat := C.2.1
abbrev zsh (C : zC) : Nat → Nat × Nat := C.2.2.1
abbrev zz (C : zC) : Nat := C.2.2.2
abbrev zMt : Type := MethodName × ByteArray × Nat × Option FieldType
def zTy : Nat → FieldType
  | 1 => .int
  | 2 => .boolean
  | 3 => .object "DrumPeace$Town"
  | 4 => .array .int
  | _ => .byte
/-- an array of a type; of references, too, by its own name -/
def zIs (U : State) (cell : Cell) (ty : FieldType) : Prop := U.isArrayOf cell ty ∧ ∀ Cn : String, ty = .object Cn → U.vm.findClass ("[" ++ (FieldType.object Cn).toString) = some cell.cls
theorem zIs.moved {u U : State} {cell : Cell} {ty : FieldType} (hvm : u.vm.Alike U.vm) (h : zIs u cell ty) : zIs U cell ty :=
  ⟨State.isArrayOf_alike hvm h.1, fun Cn e => by rw [hvm.findClass]; exact h.2 Cn e⟩
def zArr (ad : Nat → Nat) (U : State) (ty : FieldType) (n q : Nat) (f : Int → zV) (H : Heap) : Prop :=
  ∃ cell : Cell, H[q]? = some cell ∧ zIs U cell ty ∧ cell.vm ≠ .unknown ∧ (n ≤ cell.slots.size ∧ cell.slots.size.toInt32 = Int32.ofNat n) ∧ ∀ j : Nat, j < n → cell.slots[j]? = some (zv ad (f (j : Int)))
def zObj (D : va_G) (ad : Nat → Nat) (ci q : Nat) (f : Int → zV) (H : Heap) : Prop :=
  ∃ r : vw_C, vwCl[ci]? = some r ∧ t_OB q (D.1 ci) r.2.2 (D.2 ci) H (fun k => zv ad (f (k : Int)))
def zCell (C : zC) (U : State) (k : Nat × Nat) (q : Nat) (f : Int → zV) (H : Heap) : Prop :=
  (0 < k.1 → k.1 < 10 → zArr (zad C) U (zTy k.1) k.2 q f H) ∧ (10 ≤ k.1 → zObj (zD C) (zad C) (k.1 - 10) q f H)
abbrev zA (C : zC) : Nat → Prop := fun q => zz C ≤ q
/-- what was there before: three tables of ints behind statics, a flag, a text -/
def zOld (C : zC) (U : State) (H : Heap) : Prop :=
  va_Z "DrumPeace$Asks" "IS_ONE" "[I" (.ref (zad C 1)) (zA C) U H ∧ va_Z "DrumPeace$Asks" "SIZE_BODIES" "[I" (.ref (zad C 2)) (zA C) U H ∧ va_Z "DrumPeace$Asks" "MARK_BODIES" "[I" (.ref (zad C 3)) (zA C) U H ∧
  va_Z "java/lang/String" "COMPACT_STRINGS" "Z" (.int 1) (zA C) U H ∧ vk_S 1 [5] [[97, 110, 103, 116, 112]] (fun _ => zad C 4) (fun _ => zad C 5) (zA C) U H
def zHp (C : zC) (U : State) (n : Nat) (σ : zM) (H : Heap) : Prop :=
  H.size = zz C + n ∧ zOld C U H ∧ ∀ a, a < 8 + n → zCell C U (zsh C a) (zad C a) (σ a) H
def zNest : List Cond := [.methodLinkNest "DrumPeace" 18 ⟨"DrumPeace$Tape", "<init>", "()V"⟩ "DrumPeace", .methodLinkNest "DrumPeace" 25 ⟨"DrumPeace$Town", "<init>", "()V"⟩ "DrumPeace", .methodLinkNest "DrumPeace$Acts" 15 ⟨"DrumPeace$Town", "<init>", "()V"⟩ "DrumPeace", .methodLinkNest "DrumPeace" 48 ⟨"DrumPeace$Foresight", "<init>", "()V"⟩ "DrumPeace", .methodLinkNest "DrumPeace$Foresight" 13 ⟨"DrumPeace$Town", "<init>", "()V"⟩ "DrumPeace", .methodLinkNest "DrumPeace" 55 ⟨"DrumPeace$Asks", "<init>", "()V"⟩ "DrumPeace"]
def zKs (C : zC) (U : State) : Prop :=
  (∀ a, 8 ≤ a → zad C a = zz C + (a - 8)) ∧ (∀ a, a < 8 → zad C a < zz C) ∧ va_K (zD C) vwCl [] U ∧ (∀ w ∈ zNest, va_Nw w U) ∧ vk_R "DrumPeace$Tape" 52 "angtp" (zad C 4) U ∧
  va_AO "DrumPeace$Town" U ∧ (Cond.arrayOver (.array .int)).before #[] U = true
theorem zArr.moved {ad : Nat → Nat} {u U : State} {ty : FieldType} {n q : Nat} {f : Int → zV} {H : Heap} (hvm : u.vm.Alike U.vm) (h : zArr ad u ty n q f H) : zArr ad U ty n q f H := by
  obtain ⟨cell, h1, h2, h3⟩ := h
  exact ⟨cell, h1, h2.moved hvm, h3⟩
theorem zCell.moved {C : zC} {u U : State} {k : Nat × Nat} {q : Nat} {f : Int → zV} {H : Heap} (hvm : u.vm.Alike U.vm) (h : zCell C u k q f H) : zCell C U k q f H :=
  ⟨fun a b => (h.1 a b).moved hvm, h.2⟩
theorem zOld.moved {C : zC} {u U : State} {H : Heap} (hvm : u.vm.Alike U.vm) (h : zOld C u H) : zOld C U H :=
  ⟨h.1.moved hvm, h.2.1.moved hvm, h.2.2.1.moved hvm, h.2.2.2.1.moved hvm, h.2.2.2.2.moved hvm⟩
theorem zOld.kept {C : zC} {U : State} {H H1 : Heap} (h : zOld C U H) (hq : ∀ a : Nat, a < H.size → ¬ zA C a → H1[a]? = H[a]?) : zOld C U H1 :=
  ⟨h.1.kept hq, h.2.1.kept hq, h.2.2.1.kept hq, h.2.2.2.1.kept hq, h.2.2.2.2.kept hq⟩
theorem zHp.moved {C : zC} {u U : State} {n : Nat} {σ : zM} {H : Heap} (hvm : u.vm.Alike U.vm) (h : zHp C u n σ H) : zHp C U n σ H :=
  ⟨h.1, h.2.1.moved hvm, fun a ha => (h.2.2 a ha).moved hvm⟩
theorem zArr.kept {ad : Nat → Nat} {U : State} {ty : FieldType} {n q : Nat} {f : Int → zV} {H H1 : Heap} (h : zArr ad U ty n q f H) (hq : H1[q]? = H[q]?) : zArr ad U ty n q f H1 := by
  obtain ⟨cell, h1, h2⟩ := h
  exact ⟨cell, by rw [hq]; exact h1, h2⟩
theorem zObj.kept {D : va_G} {ad : Nat → Nat} {ci q : Nat} {f : Int → zV} {H H1 : Heap} (h : zObj D ad ci q f H) (hq : H1[q]? = H[q]?) : zObj D ad ci q f H1 := by
  obtain ⟨r, h1, h2⟩ := h
  exact ⟨r, h1, h2.kept hq⟩
theorem zCell.kept {C : zC} {U : State} {k : Nat × Nat} {q : Nat} {f : Int → zV} {H H1 : Heap} (h : zCell C U k q f H) (hq : H1[q]? = H[q]?) : zCell C U k q f H1 :=
  ⟨fun a b => (h.1 a b).kept hq, fun a => (h.2 a).kept hq⟩
theorem zKs.warm {C : zC} {s U : State} (hW : s.WarmedH U.vm) (h : zKs C s) : zKs C U := by
  obtain ⟨h1, h2, h3, h4, h5, h6, h7⟩ := h
  refine ⟨h1, h2, va_K.moved hW.alike h3, fun w hw => ?_, h5.warm hW, h6.moved hW.alike, over_moved hW.alike h7⟩
  have hz := h4 w hw
  simp only [zNest, List.mem_cons, List.not_mem_nil, or_false] at hw
  rcases hw with rfl | rfl | rfl | rfl | rfl | rfl <;> exact va_Nw.warmM hW hz
theorem zKs.same {C : zC} {u U : State} (hv : u.vm = U.vm) (h : zKs C u) : zKs C U := by
  obtain ⟨h1, h2, h3, h4, h5, h6, h7⟩ := h
  have ha : u.vm.Alike U.vm := by rw [hv]; exact Vm.Alike.refl _
  refine ⟨h1, h2, va_K.moved ha h3, fun w hw => ?_, h5.same hv.symm, h6.moved ha, over_moved ha h7⟩
  have hz := h4 w hw
  simp only [zNest, List.mem_cons, List.not_mem_nil, or_false] at hw
  rcases hw with rfl | rfl | rfl | rfl | rfl | rfl <;> exact va_Nw.same rfl hv hz
/-! one cell is written -/
def zup (σ : zM) (a : Nat) (x : Int) (v : zV) : zM := fun b y => if b = a ∧ y = x then v else σ b y
theorem zad_ne {C : zC} {U : State} (hK : zKs C U) {a b : Nat} (ha : 8 ≤ a) (h : b ≠ a) : zad C b ≠ zad C a := by
  rw [hK.1 a ha]
  rcases Nat.lt_or_ge b 8 with hb | hb
  · have := hK.2.1 b hb
    omega
  · rw [hK.1 b hb]
    omega
theorem zHp.set {C : zC} {U : State} {n : Nat} {σ : zM} {H H1 : Heap} (hK : zKs C U) (h : zHp C U n σ H) {a : Nat} (ha : 8 ≤ a) (hz : H1.size = H.size) (oq : ∀ q : Nat, q ≠ zad C a → H1[q]? = H[q]?) {σ' : zM} (hs : ∀ b, b ≠ a → σ' b = σ b) (hc : zCell C U (zsh C a) (zad C a) (σ' a) H1) : zHp C U n σ' H1 := by
  refine ⟨by rw [hz]; exact h.1, h.2.1.kept fun q _ hq => oq q ?_, fun b hb => ?_⟩
  · intro e
    apply hq
    rw [e, hK.1 a ha]
    exact Nat.le_add_right _ _
  · by_cases hba : b = a
    · subst hba
      exact hc
    · rw [hs b hba]
      exact (h.2.2 b hb).kept (oq _ (zad_ne hK ha hba))
/-! locals by their places -/
def zLoc (ad : Nat → Nat) (nL : Nat) (la : Array Slot) (ls : List (Option zV)) : Prop := la.size = nL ∧ lv_wf la ∧ ∀ (i : Nat) (v : zV), ls[i]? = some (some v) → la[i]? = some (.val (zv ad v))
def zas (ad : Nat → Nat) (ls : List (Option zV)) : List (Nat × Value) := ls.zipIdx.filterMap (fun q => q.1.map (fun v => (q.2, zv ad v)))
theorem zas_in {ad : Nat → Nat} {ls : List (Option zV)} {j : Nat} {w : zV} (h : ls[j]? = some (some w)) : (j, zv ad w) ∈ zas ad ls :=
  List.mem_filterMap.mpr ⟨(some w, j), List.mem_zipIdx_iff_getElem?.mpr h, rfl⟩
theorem zLoc.has {ad : Nat → Nat} {nL : Nat} {la : Array Slot} {ls : List (Option zV)} (h : zLoc ad nL la ls) : lv_has la nL (zas ad ls) := by
  refine ⟨h.1, h.2.1, fun q hq => ?_⟩
  obtain ⟨⟨o, i⟩, h1, h2⟩ := List.mem_filterMap.mp hq
  have h3 := List.mem_zipIdx_iff_getElem?.mp h1
  cases o with
  | none => cases h2
  | some v =>
    cases h2
    exact h.2.2 i v h3
def zkill (ls : List (Option zV)) : Nat → List (Option zV)
  | 0 => ls
  | j + 1 => match ls[j]? with
    | some (some (.inr (.inl _))) => ls.set j none
    | _ => ls
def zst1 (ls : List (Option zV)) (i : Nat) (v : zV) : List (Option zV) := (zkill ls i).set i (some v)
def zst2 (ls : List (Option zV)) (i : Nat) (v : zV) : List (Option zV) := ((zkill ls i).set i (some v)).set (i + 1) none
theorem zkill_at {ls : List (Option zV)} {i j : Nat} {w : zV} (h : (zkill ls i)[j]? = some (some w)) : ls[j]? = some (some w) ∧ (j + 1 = i → ∀ x, w ≠ zL x) := by
  cases i with
  | zero => exact ⟨h, fun e => by omega⟩
  | succ k =>
    simp only [zkill] at h
    split at h
    next x hx =>
      by_cases e : j = k
      · subst e
        rw [List.getElem?_set_self (List.getElem?_eq_some_iff.mp hx).1] at h
        cases h
      · rw [List.getElem?_set_ne (Ne.symm e)] at h
        exact ⟨h, fun q => by omega⟩
    next hx =>
      refine ⟨h, fun e x ex => ?_⟩
      have : j = k := by omega
      subst this
      subst ex
      exact hx x h
theorem zcat2 {ad : Nat → Nat} {w : zV} (h : (zv ad w).category = 2) : ∃ x, w = zL x := by
  match w with
  | .inl x => simp [zv, Value.category] at h
  | .inr (.inl x) => exact ⟨x, rfl⟩
  | .inr (.inr (some a)) => simp [zv, Value.category] at h
  | .inr (.inr none) => simp [zv, Value.category] at h
theorem zLoc.st1 {ad : Nat → Nat} {nL : Nat} {la' : Array Slot} {ls : List (Option zV)} {i : Nat} {v : zV} (h' : lv_has la' nL ((i, zv ad v) :: (zas ad ls).filter (fun q => !(q.1 == i) && !(q.1 + 1 == i && q.2.category == 2)))) : zLoc ad nL la' (zst1 ls i v) := by
  refine ⟨h'.1, h'.2.1, fun j w hj => ?_⟩
  by_cases e : j = i
  · subst e
    have hl : j < (zkill ls j).length := by
      have := (List.getElem?_eq_some_iff.mp hj).1
      simpa [zst1] using this
    rw [zst1, List.getElem?_set_self hl] at hj
    cases hj
    exact h'.2.2 _ List.mem_cons_self
  · rw [zst1, List.getElem?_set_ne (Ne.symm e)] at hj
    obtain ⟨h1, h2⟩ := zkill_at hj
    refine h'.2.2 (j, zv ad w) (List.mem_cons_of_mem _ (List.mem_filter.mpr ⟨zas_in h1, ?_⟩))
    simp only [Bool.and_eq_true, Bool.not_eq_true', beq_eq_false_iff_ne, Bool.and_eq_false_iff]
    refine ⟨e, ?_⟩
    by_cases e2 : j + 1 = i
    · right
      intro hc
      obtain ⟨x, hx⟩ := zcat2 hc
      exact h2 e2 x hx
    · left
      exact e2
theorem zLoc.st2 {ad : Nat → Nat} {nL : Nat} {la' : Array Slot} {ls : List (Option zV)} {i : Nat} {v : zV} (h' : lv_has la' nL ((i, zv ad v) :: (zas ad ls).filter (fun q => !(q.1 == i) && (!(q.1 == i + 1) && !(q.1 + 1 == i && q.2.category == 2))))) : zLoc ad nL la' (zst2 ls i v) := by
  refine ⟨h'.1, h'.2.1, fun j w hj => ?_⟩
  by_cases e1 : j = i + 1
  · subst e1
    by_cases hl : i + 1 < ((zkill ls i).set i (some v)).length
    · rw [zst2, List.getElem?_set_self hl] at hj
      cases hj
    · rw [zst2, List.getElem?_eq_none (by rw [List.length_set]; omega)] at hj
      cases hj
  · rw [zst2, List.getElem?_set_ne (Ne.symm e1)] at hj
    by_cases e : j = i
    · subst e
      have hl : j < (zkill ls j).length := by
        have := (List.getElem?_eq_some_iff.mp hj).1
        simpa using this
      rw [List.getElem?_set_self hl] at hj
      cases hj
      exact h'.2.2 _ List.mem_cons_self
    · rw [List.getElem?_set_ne (Ne.symm e)] at hj
      obtain ⟨h1, h2⟩ := zkill_at hj
      refine h'.2.2 (j, zv ad w) (List.mem_cons_of_mem _ (List.mem_filter.mpr ⟨zas_in h1, ?_⟩))
      simp only [Bool.and_eq_true, Bool.not_eq_true', beq_eq_false_iff_ne, Bool.and_eq_false_iff]
      refine ⟨e, e1, ?_⟩
      by_cases e2 : j + 1 = i
      · right
        intro hc
        obtain ⟨x, hx⟩ := zcat2 hc
        exact h2 e2 x hx
      · left
        exact e2
/-! the judgement -/
def zFix (C : zC) (M : zMt) (d : Nat) (p : Program) (R : Room) (MC MS : Nat) (s : State) (m : MethodId) (args : Array Value) (meth : Method) (c : Code) : Prop :=
  p.tables.exec = Jvm.exec ∧ c.code = M.2.1 ∧ c.maxLocals = M.2.2.1 ∧ s.vm.findClass M.1.cls = some m.cls ∧ (∀ w ∈ ztb, w.before args s = true) ∧ zKs C s ∧ d ≤ R.frames ∧ 200 * d ≤ R.locals ∧ MC ≤ R.cells ∧ MS ≤ R.slots ∧ meth.name = M.1.name
def zRet (M : zMt) (pc : Nat) (v : Option zV) : Prop :=
  (v = none ∧ M.2.2.2 = none ∧ decode M.2.1 pc = .ok (.return_, 1)) ∨ (∃ x, v = some (zI x) ∧ decode M.2.1 pc = .ok (.ireturn, 1) ∧ (M.2.2.2 = some .int ∨ (M.2.2.2 = some .boolean ∧ (x = 0 ∨ x = 1)) ∨ (M.2.2.2 = some .byte ∧ x = 0))) ∨
  (∃ a, v = some (zR a) ∧ decode M.2.1 pc = .ok (.areturn, 1) ∧ ∃ n, M.2.2.2 = some (.object n))
def zFin (l : Launch) (C : zC) (M : zMt) (p : Program) (e : Env) (R : Room) (MC MS : Nat) (s : State) (m : MethodId) (args : Array Value) (below : List Frame) (meth : Method) (c : Code) (Z : State → Prop) (Q : Option zV → Nat → zM → Prop) : Prop :=
  ∀ (v : Option zV) (n : Nat) (σ : zM) (H : Heap) (locs : List Loc) (cells slots pc : Nat) (la : Array Slot), Q v n σ → zHp C s n σ H → (∀ q ∈ locs, zz C ≤ q.base) → cells ≤ MC → slots ≤ MS → zRet M pc v →
    W p l e R s m args below meth c H locs cells slots Z (F0 m pc la (v.toList.map (zv (zad C))))
def zGo (l : Launch) (C : zC) (M : zMt) (d mc ms pc : Nat) (ls : List (Option zV)) (st : List zV) (n : Nat) (σ : zM) (Q : Option zV → Nat → zM → Prop) : Prop :=
  ∀ (p : Program) (e : Env) (R : Room) (MC MS : Nat) (s : State) (m : MethodId) (args : Array Value) (below : List Frame) (meth : Method) (c : Code) (Z : State → Prop),
    zFix C M d p R MC MS s m args meth c → zFin l C M p e R MC MS s m args below meth c Z Q →
    ∀ (H : Heap) (locs : List Loc) (cells slots : Nat) (la : Array Slot), zHp C s n σ H → (∀ q ∈ locs, zz C ≤ q.base) → cells + mc ≤ MC → slots + ms ≤ MS → zLoc (zad C) M.2.2.1 la ls →
      W p l e R s m args below meth c H locs cells slots Z (F0 m pc la (st.map (zv (zad C))))
end
