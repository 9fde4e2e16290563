section
/-! the start: what the Statement gives, as the small machine has it -/
theorem ltb {k : Nat} {w : Cond} (h : tables_1[k]? = some w) : w ∈ lw_tbl := List.mem_append_right _ (List.mem_of_getElem? h)
def zad0 (b t1 t2 t3 k v z : Nat) : Nat → Nat
  | 0 => b
  | 1 => t1
  | 2 => t2
  | 3 => t3
  | 4 => k
  | 5 => v
  | 6 => b
  | 7 => b
  | n + 8 => z + n
theorem zad0_8 {b t1 t2 t3 k v z : Nat} : ∀ a, 8 ≤ a → zad0 b t1 t2 t3 k v z a = z + (a - 8) := by
  intro a ha
  obtain ⟨n, rfl⟩ : ∃ n, a = n + 8 := ⟨a - 8, by omega⟩
  show z + n = z + (n + 8 - 8)
  omega
theorem zad0_7 {b t1 t2 t3 k v z : Nat} (hb : b < z) (h1 : t1 < z) (h2 : t2 < z) (h3 : t3 < z) (hk : k < z) (hv : v < z) : ∀ a, a < 8 → zad0 b t1 t2 t3 k v z a < z := by
  intro a ha
  rcases (show a = 0 ∨ a = 1 ∨ a = 2 ∨ a = 3 ∨ a = 4 ∨ a = 5 ∨ a = 6 ∨ a = 7 by omega) with g | g | g | g | g | g | g | g <;> subst g
  · exact hb
  · exact h1
  · exact h2
  · exact h3
  · exact hk
  · exact hv
  · exact hb
  · exact hb
def zio (xs : Nat → Int32) : zi := fun a y => if a = 0 then (xs y.toNat).toInt else if a = 1 then zt1 y else if a = 2 then zt2 y else if a = 3 then zt3 y else if a = 5 then ztt y else if a = 165 ∧ y = 3 then 173 else if a = 165 ∧ y = 4 then 174 else 0
theorem zio_P (xs : Nat → Int32) : zPre (zio xs) := ⟨fun _ _ _ => ⟨rfl, rfl, rfl⟩, fun _ _ _ => rfl⟩
theorem zio_Z (xs : Nat → Int32) : zZr (zio xs) 8 := by
  refine ⟨fun b x hb hx => ?_, rfl, rfl⟩
  unfold zio
  rw [if_neg (by omega), if_neg (by omega), if_neg (by omega), if_neg (by omega), if_neg (by omega), if_neg (by omega), if_neg (by omega)]
theorem zio_b (xs : Nat → Int32) (y : Int) : zB (zio xs 0 y) := zi32_b _
theorem zT_arr {ad : Nat → Nat} {U : State} {H : Heap} {ty : FieldType} {t N : Nat} {f : Nat → Value} {A : Nat → Prop} {g : Int → zV} (hty : ∀ Cn : String, ty ≠ .object Cn) (h : va_T ty t N f A U H) (hf : ∀ j : Nat, j < N → zv ad (g (j : Int)) = f j) : zArr ad U ty N t g H := by
  obtain ⟨cell, h1, h2, h3, h4, h5, h6, -⟩ := h
  exact ⟨cell, h1, ⟨h2, fun Cn e => absurd e (hty Cn)⟩, h3, ⟨h4, h5⟩, fun j hj => by rw [h6 j hj, hf j hj]⟩
theorem z6 {j : Nat} (h : j < 6) : j = 0 ∨ j = 1 ∨ j = 2 ∨ j = 3 ∨ j = 4 ∨ j = 5 := by omega
theorem z5 {j : Nat} (h : j < 5) : j = 0 ∨ j = 1 ∨ j = 2 ∨ j = 3 ∨ j = 4 := by omega
theorem z_classes {s : State} {args : Array Value} (hts : ∀ w ∈ lw_tbl, w.before args s = true) : ∀ c : Nat, ∃ q : ClassId × (Nat → Nat), ∀ r, vwCl[c]? = some r → u_Kn s r.1 r.2.1 r.2.2 q.1 q.2 := by
  have ht : ∀ w ∈ ztb, w.before args s = true := fun w hw => hts w (zt_sub hw)
  intro c
  by_cases hc : c < 8
  · rcases (show c = 0 ∨ c = 1 ∨ c = 2 ∨ c = 3 ∨ c = 4 ∨ c = 5 ∨ c = 6 ∨ c = 7 by omega) with g | g | g | g | g | g | g | g <;> subst g
    · obtain ⟨cC, iS, h⟩ := u_known (C := RX0) (T := TX0) (N := 3) ht (zcl_0 _ rfl).1 (ht _ tw_144)
      exact ⟨(cC, iS), fun r hr => by injection (show some (RX0, TX0, 3) = some r from hr) with hr'; subst hr'; exact h⟩
    · obtain ⟨cC, iS, h⟩ := u_known (C := RX1) (T := TX1) (N := 2) ht (zcl_1 _ rfl).1 (ht _ tw_201)
      exact ⟨(cC, iS), fun r hr => by injection (show some (RX1, TX1, 2) = some r from hr) with hr'; subst hr'; exact h⟩
    · obtain ⟨cC, iS, h⟩ := u_known (C := RX2) (T := TX2) (N := 9) ht (zcl_2 _ rfl).1 (ht _ tw_164)
      exact ⟨(cC, iS), fun r hr => by injection (show some (RX2, TX2, 9) = some r from hr) with hr'; subst hr'; exact h⟩
    · obtain ⟨cC, iS, h⟩ := u_known (C := RX3) (T := TX3) (N := 3) ht (zcl_3 _ rfl).1 (ht _ tw_27)
      exact ⟨(cC, iS), fun r hr => by injection (show some (RX3, TX3, 3) = some r from hr) with hr'; subst hr'; exact h⟩
    · obtain ⟨cC, iS, h⟩ := u_known (C := RX4) (T := TX4) (N := 5) ht (zcl_4 _ rfl).1 (ht _ tw_51)
      exact ⟨(cC, iS), fun r hr => by injection (show some (RX4, TX4, 5) = some r from hr) with hr'; subst hr'; exact h⟩
    · obtain ⟨cC, iS, h⟩ := u_known (C := RX5) (T := TX5) (N := 10) ht (zcl_5 _ rfl).1 (ht _ tw_76)
      exact ⟨(cC, iS), fun r hr => by injection (show some (RX5, TX5, 10) = some r from hr) with hr'; subst hr'; exact h⟩
    · obtain ⟨cC, iS, h⟩ := u_known (C := RX6) (T := TX6) (N := 10) ht (zcl_6 _ rfl).1 (ht _ tw_19)
      exact ⟨(cC, iS), fun r hr => by injection (show some (RX6, TX6, 10) = some r from hr) with hr'; subst hr'; exact h⟩
    · obtain ⟨cC, iS, h⟩ := u_known (C := RX7) (T := TX7) (N := 17) ht (zcl_7 _ rfl).1 (ht _ tw_810)
      exact ⟨(cC, iS), fun r hr => by injection (show some (RX7, TX7, 17) = some r from hr) with hr'; subst hr'; exact h⟩
  · refine ⟨(0, fun _ => 0), fun r hr => ?_⟩
    rw [List.getElem?_eq_none (by show 8 ≤ c; omega)] at hr
    cases hr
theorem z_nest {s : State} {args : Array Value} (hts : ∀ w ∈ lw_tbl, w.before args s = true) : ∀ w ∈ zNest, va_Nw w s := by
  intro w hw
  simp only [zNest, List.mem_cons, List.not_mem_nil, or_false] at hw
  rcases hw with rfl | rfl | rfl | rfl | rfl | rfl
  · exact va_Nw.of rfl (hts _ (ltb (k := 52) (by decide +kernel)))
  · exact va_Nw.of rfl (hts _ (ltb (k := 77) (by decide +kernel)))
  · exact va_Nw.of rfl (hts _ (ltb (k := 151) (by decide +kernel)))
  · exact va_Nw.of rfl (hts _ (ltb (k := 165) (by decide +kernel)))
  · exact va_Nw.of rfl (hts _ (ltb (k := 170) (by decide +kernel)))
  · exact va_Nw.of rfl (hts _ (ltb (k := 202) (by decide +kernel)))
/-- the tables of ints and the text, out of what the Statement gives -/
theorem z_given {s : State} {args : Array Value} (hgv : (Jvm.Cond.and given_1 narrow_1).before args s = true) :
    (∃ t : Nat, (Term.static "DrumPeace$Asks" "IS_ONE" "[I").eval args s none [] s = some (.ref t) ∧ va_T .int t 6 (fun j => .int (Int32.ofInt (zt1 (j : Int)))) (fun q => s.heap.size ≤ q) s s.heap) ∧
    (∃ t : Nat, (Term.static "DrumPeace$Asks" "SIZE_BODIES" "[I").eval args s none [] s = some (.ref t) ∧ va_T .int t 6 (fun j => .int (Int32.ofInt (zt2 (j : Int)))) (fun q => s.heap.size ≤ q) s s.heap) ∧
    (∃ t : Nat, (Term.static "DrumPeace$Asks" "MARK_BODIES" "[I").eval args s none [] s = some (.ref t) ∧ va_T .int t 6 (fun j => .int (Int32.ofInt (zt3 (j : Int)))) (fun q => s.heap.size ≤ q) s s.heap) ∧
    (∃ adK adV : Nat → Nat, vk_S 1 [5] [[97, 110, 103, 116, 112]] adK adV (fun q => s.heap.size ≤ q) s s.heap ∧ (Term.string "DrumPeace$Tape" 52).eval args s none [] s = some (.ref (adK 0))) ∧
    (Term.static "java/lang/String" "COMPACT_STRINGS" "Z").eval args s none [] s = some (.int 1) := by
  have hs := flat_of_before _ hgv
  have hA : ∀ a : Nat, a < s.heap.size → ¬ s.heap.size ≤ a := fun a h => Nat.not_le.mpr h
  refine ⟨?_, ?_, ?_, ?_, va_eqt (hs _ (by decide +kernel))⟩
  · refine va_Tof (N := 6) (by decide) (hs _ (by decide +kernel)) (va_eqt (hs _ (by decide +kernel))) (fun j hj => ?_) hA
    rcases z6 hj with g | g | g | g | g | g <;> subst g <;> exact va_eqt (hs _ (by decide +kernel))
  · refine va_Tof (N := 6) (by decide) (hs _ (by decide +kernel)) (va_eqt (hs _ (by decide +kernel))) (fun j hj => ?_) hA
    rcases z6 hj with g | g | g | g | g | g <;> subst g <;> exact va_eqt (hs _ (by decide +kernel))
  · refine va_Tof (N := 6) (by decide) (hs _ (by decide +kernel)) (va_eqt (hs _ (by decide +kernel))) (fun j hj => ?_) hA
    rcases z6 hj with g | g | g | g | g | g <;> subst g <;> exact va_eqt (hs _ (by decide +kernel))
  · have h0 : ∀ i : Nat, i < 1 → i = 0 := fun i hi => by omega
    obtain ⟨adK, adV, h1, h2⟩ := vk_Sof (args := args) (s := s) (N := 1) (tm := fun _ => .string "DrumPeace$Tape" 52) (len := [5]) (byt := [[97, 110, 103, 116, 112]]) (A := fun q => s.heap.size ≤ q)
      (fun i hi => by rw [h0 i hi]; decide) (fun i hi => hs _ (by decide +kernel)) (fun i hi => hs _ (by decide +kernel)) (fun i hi => hs _ (by decide +kernel)) (fun i hi => by rw [h0 i hi]; exact hs _ (by decide +kernel))
      (fun i hi j hj => by
        have hi0 := h0 i hi
        subst hi0
        have hj5 : j < 5 := hj
        rcases z5 hj5 with g | g | g | g | g <;> subst g <;> exact hs _ (by decide +kernel)) (fun i j hi hj h => absurd (by omega) h) hA
    exact ⟨adK, adV, h1, h2 0 (by decide)⟩
theorem W.drop {p : Program} {l : Launch} {e : Env} {R : Room} {s : State} {m : MethodId} {args : Array Value} {below : List Frame} {meth : Method} {c : Code} {H : Heap} {locs : List Loc} {cells slots : Nat} {Q : State → Prop} {g : JFrame} (h : ∀ q ∈ locs, s.heap.size ≤ q.base) (kk : W p l e R s m args below meth c H [] cells slots Q g) : W p l e R s m args below meth c H locs cells slots Q g :=
  fun T hT X => kk T hT (Stand.dropFresh (locs := []) (J := locs) X h)
theorem whole_start {p : Program} {e : Env} {s : State} {m : MethodId} {below : List Frame} {meth : Method} {c : Code} (l : Launch) (hflags : l.flags = flags0) {b L : Nat} {xs : Nat → Int32} (hL : L ≤ 3072) (C0 : lw_At p s m meth c b L xs) : W p l e room_1 s m #[Value.ref b] below meth c s.heap [] 0 0 (lw_Z below #[Value.ref b] s) (entryFrame m ([Value.ref b] : List Value).toArray 4) := by
  obtain ⟨hx, hcode, hret, hml, hfc, hts, hX, hb, hlocks, hgv⟩ := C0
  obtain ⟨⟨t1, e1, T1⟩, ⟨t2, e2, T2⟩, ⟨t3, e3, T3⟩, ⟨adK, adV, hS, eS⟩, eC⟩ := z_given hgv
  obtain ⟨Df, hD⟩ := Classical.axiomOfChoice (z_classes hts)
  have l1 : t1 < s.heap.size := by obtain ⟨_, _, _, _, _, _, _, h⟩ := T1; exact Nat.lt_of_not_le h
  have l2 : t2 < s.heap.size := by obtain ⟨_, _, _, _, _, _, _, h⟩ := T2; exact Nat.lt_of_not_le h
  have l3 : t3 < s.heap.size := by obtain ⟨_, _, _, _, _, _, _, h⟩ := T3; exact Nat.lt_of_not_le h
  have lk : adK 0 < s.heap.size := by obtain ⟨_, _, _, _, h⟩ := (hS.1 0 (by decide)).1; exact Nat.lt_of_not_le h
  have lv : adV 0 < s.heap.size := by obtain ⟨_, _, _, _, _, _, _, h⟩ := (hS.1 0 (by decide)).2.2.2; exact Nat.lt_of_not_le h
  have hA : ∀ a : Nat, a < s.heap.size → ¬ s.heap.size ≤ a := fun a h => Nat.not_le.mpr h
  obtain ⟨ad, had⟩ : ∃ y_, y_ = zad0 b t1 t2 t3 (adK 0) (adV 0) s.heap.size := ⟨_, rfl⟩
  obtain ⟨D, hDe⟩ : ∃ y_ : va_G, y_ = (fun c => (Df c).1, fun c => (Df c).2) := ⟨_, rfl⟩
  have hK : zKs (zc D ad L s.heap.size) s := by
    refine ⟨by rw [had]; exact zad0_8, by rw [had]; exact zad0_7 hb l1 l2 l3 lk lv, ⟨fun c q hq => by rw [hDe]; exact hD c q hq, fun k q hk => by simp at hk⟩, z_nest hts, ?_, va_AO.of (hts _ (ltb (k := 150) (by decide +kernel))), ?_⟩
    · rw [had]
      exact vk_R.of (hts _ (ltb (k := 347) (by decide +kernel))) eS
    · have h : (Cond.arrayOver (.array .int)).before #[Value.ref b] s = true := hts _ (ltb (k := 33) (by decide +kernel))
      exact h
  have hO : zOld (zc D ad L s.heap.size) s s.heap := by
    rw [had]
    refine ⟨va_Zof (hts _ (ltb (k := 771) (by decide +kernel))) (hts _ (zt_sub tw_8)) e1 hA, va_Zof (hts _ (ltb (k := 781) (by decide +kernel))) (hts _ (zt_sub tw_8)) e2 hA, va_Zof (hts _ (ltb (k := 783) (by decide +kernel))) (hts _ (zt_sub tw_8)) e3 hA, va_Zof (hts _ (ltb (k := 361) (by decide +kernel))) (hts _ (zt_sub tw_11)) eC hA, fun i hi => ?_, fun i j hi hj _ => by omega⟩
    have hi0 : i = 0 := by omega
    subst hi0
    exact hS.1 0 (by decide)
  have hH : zHp (zc D ad L s.heap.size) s 0 (zgS (fun _ _ => false) (zio xs)) s.heap := by
    refine ⟨rfl, hO, fun a ha => ?_⟩
    rw [had]
    rcases (show a = 0 ∨ a = 1 ∨ a = 2 ∨ a = 3 ∨ a = 4 ∨ a = 5 ∨ a = 6 ∨ a = 7 by omega) with g | g | g | g | g | g | g | g <;> subst g
    · obtain ⟨scr, h1, h2, h3, h4, h5⟩ := hX
      refine ⟨fun _ _ => ⟨scr, h1, ⟨h2, fun Cn q => by cases q⟩, h3, ⟨Nat.le_of_eq h4.symm, by rw [h4]; rfl⟩, fun j hj => ?_⟩, fun h => absurd h (show ¬ 10 ≤ 1 by decide)⟩
      rw [h5 j hj]
      show some (Value.int (xs j)) = some (Value.int (Int32.ofInt (xs ((j : Int).toNat)).toInt))
      rw [Int32.ofInt_toInt, Int.toNat_natCast]
    · exact ⟨fun _ _ => zT_arr (fun Cn q => by cases q) T1 (fun j hj => rfl), fun h => absurd h (show ¬ 10 ≤ 1 by decide)⟩
    · exact ⟨fun _ _ => zT_arr (fun Cn q => by cases q) T2 (fun j hj => rfl), fun h => absurd h (show ¬ 10 ≤ 1 by decide)⟩
    · exact ⟨fun _ _ => zT_arr (fun Cn q => by cases q) T3 (fun j hj => rfl), fun h => absurd h (show ¬ 10 ≤ 1 by decide)⟩
    · exact ⟨fun h => absurd h (show ¬ 0 < 0 by decide), fun h => absurd h (show ¬ 10 ≤ 0 by decide)⟩
    · exact ⟨fun _ _ => zT_arr (fun Cn q => by cases q) (hS.1 0 (by decide)).2.2.2 (fun j hj => by
        have hj5 : j < 5 := hj
        rcases z5 hj5 with g | g | g | g | g <;> subst g <;> rfl), fun h => absurd h (show ¬ 10 ≤ 5 by decide)⟩
    · exact ⟨fun h => absurd h (show ¬ 0 < 0 by decide), fun h => absurd h (show ¬ 10 ≤ 0 by decide)⟩
    · exact ⟨fun h => absurd h (show ¬ 0 < 0 by decide), fun h => absurd h (show ¬ 10 ≤ 0 by decide)⟩
  have hb0 : ad 0 = b := by rw [had]; rfl
  rw [lg_entry_eq]
  have hloc := zLoc.entry (ad := ad) (as := [zR 0]) (nL := 4) (k := 3) (by decide)
  have ea : [zR 0].map (zv ad) = [Value.ref b] := by show [Value.ref (ad 0)] = _; rw [hb0]
  rw [ea] at hloc
  refine lw_go (l := l) (D := D) (ad := ad) (z := s.heap.size) (ι := zio xs) (nm := meth.name) hL (zio_P xs) (zio_Z xs) (fun y _ _ => zio_b xs y) p e room_1 600000 7302250 s m #[Value.ref b] below meth c (lw_Z below #[Value.ref b] s) ⟨hx, hcode, hml, hfc, fun w hw => hts w (zt_sub hw), hK, by decide, by decide, by decide, by decide, rfl⟩ ?_ s.heap [] 0 0 _ hH (fun q h => by cases h) (by decide) (by decide) hloc
  intro v n σ H locs cells slots pc la hq hH2 hL2 hc hs hr
  obtain ⟨ι', -, -, rfl⟩ := hq
  refine W.widen (k := 600000) (n := 7302250) hc hs ?_
  refine W.drop (fun q h => hL2 q h) ?_
  rcases hr with ⟨h, -⟩ | ⟨x, h, h2, -⟩ | ⟨a, h, -⟩
  · cases h
  · exact lw_ret hx hcode hret hlocks h2
  · cases h
end
