section
/-! memories in which not all references are set yet -/
def zrf (a : Nat) (x : Int) : Bool := (zrl a x).isSome || (decide ((zSl.getD a (0, 0)).1 = 12) && decide (x = 3 ∨ x = 4))
def zgS (S : Nat → Int → Bool) (ι : zi) : zM := fun a x => if S a x = false ∧ zrf a x = true then zN else zg ι a x
def sset (S : Nat → Int → Bool) (a : Nat) (x : Int) : Nat → Int → Bool := fun b y => if b = a ∧ y = x then true else S b y
theorem sset_s (S : Nat → Int → Bool) (a : Nat) (x : Int) : sset S a x a x = true := if_pos ⟨rfl, rfl⟩
theorem sset_n {S : Nat → Int → Bool} {a b : Nat} {x y : Int} (h : b ≠ a ∨ y ≠ x) : sset S a x b y = S b y := if_neg (by rintro ⟨h1, h2⟩; rcases h with h | h; exact h h1; exact h h2)
theorem zrf_t {ι : zi} {a b : Nat} {x : Int} (h : zg ι a x = zR b) : zrf a x = true := by
  unfold zg at h
  unfold zrf
  cases hz : zrl a x with
  | some c => rfl
  | none =>
    rw [hz] at h
    simp only [] at h
    by_cases g : (zSl.getD a (0, 0)).1 = 12 ∧ (x = 3 ∨ x = 4)
    · rw [decide_eq_true g.1, decide_eq_true g.2]; rfl
    · rw [if_neg g] at h; cases h
theorem zrf_f {ι : zi} {a : Nat} {x v : Int} (h : zg ι a x = zI v) : zrf a x = false := by
  unfold zg at h
  unfold zrf
  cases hz : zrl a x with
  | some c => rw [hz] at h; cases h
  | none =>
    rw [hz] at h
    simp only [] at h
    by_cases g : (zSl.getD a (0, 0)).1 = 12 ∧ (x = 3 ∨ x = 4)
    · rw [if_pos g] at h; cases h
    · by_cases g1 : (zSl.getD a (0, 0)).1 = 12
      · rw [decide_eq_false (fun q => g ⟨g1, q⟩)]; simp
      · rw [decide_eq_false g1]; rfl
theorem zgS_i {S : Nat → Int → Bool} {ι : zi} {a : Nat} {x v : Int} (h : zg ι a x = zI v) : zgS S ι a x = zI v := by
  unfold zgS
  rw [zrf_f h, if_neg (by simp), h]
theorem zgS_n {S : Nat → Int → Bool} {ι : zi} {a b : Nat} {x : Int} (h : zg ι a x = zR b) (hs : S a x = false) : zgS S ι a x = zN := if_pos ⟨hs, zrf_t h⟩
theorem zgS_t {S : Nat → Int → Bool} {ι : zi} {a : Nat} {x : Int} (hs : S a x = true) : zgS S ι a x = zg ι a x := if_neg (fun q => by rw [hs] at q; exact absurd q.1 (by decide))
theorem zgS_put {S : Nat → Int → Bool} {ι : zi} {a b : Nat} {x : Int} (h : zg ι a x = zR b) : zup (zgS S ι) a x (zR b) = zgS (sset S a x) ι := by
  funext c y
  unfold zup zgS
  by_cases g : c = a ∧ y = x
  · obtain ⟨rfl, rfl⟩ := g
    rw [if_pos ⟨rfl, rfl⟩, sset_s, if_neg (by simp), h]
  · rw [if_neg g, sset_n (by omega)]
theorem zgS_up {S : Nat → Int → Bool} {ι : zi} {a : Nat} {x v w : Int} (h : zg ι a x = zI w) (hu : zup (zg ι) a x (zI v) = zg (iup ι a x v)) : zup (zgS S ι) a x (zI v) = zgS S (iup ι a x v) := by
  funext c y
  have e := congrFun (congrFun hu c) y
  unfold zup at e
  unfold zup zgS
  by_cases g : c = a ∧ y = x
  · rw [if_pos g] at e ⊢
    obtain ⟨rfl, rfl⟩ := g
    rw [zrf_f h, if_neg (by simp)]
    exact e
  · rw [if_neg g] at e ⊢
    rw [e]
/-- what was built: all references are set -/
def zBt (S : Nat → Int → Bool) (lo hi : Nat) : Prop := ∀ b y, lo ≤ b → b < hi → 0 ≤ y → y < ((zSl.getD b (0, 0)).2 : Int) → zrf b y = true → S b y = true
theorem zBt_j {S : Nat → Int → Bool} {lo mi hi : Nat} (h1 : zBt S lo mi) (h2 : zBt S mi hi) : zBt S lo hi := fun b y b0 b1 y0 y1 hr => by
  by_cases g : b < mi
  · exact h1 b y b0 g y0 y1 hr
  · exact h2 b y (by omega) b1 y0 y1 hr
theorem zBt_c {S S' : Nat → Int → Bool} {lo hi : Nat} (h : zBt S lo hi) (e : ∀ b y, b < hi → S' b y = S b y) : zBt S' lo hi := fun b y b0 b1 y0 y1 hr => by rw [e b y b1]; exact h b y b0 b1 y0 y1 hr
theorem zBt_a {S : Nat → Int → Bool} {a N : Nat} (h : zSl.getD a (0, 0) = (1, N)) : zBt S a (a + 1) := fun b y b0 b1 y0 y1 hr => by
  have : b = a := by omega
  subst this
  rw [zrf_f (ι := fun _ _ => 0) (zg_arr h)] at hr
  exact absurd hr (by decide)
/-- what a constructor leaves -/
def zQn (ι : zi) (S : Nat → Int → Bool) (a e : Nat) (v : Option zV) (n' : Nat) (σ' : zM) : Prop := v = none ∧ 8 + n' = e ∧ ∃ S', σ' = zgS S' ι ∧ (∀ b y, b < a → S' b y = S b y) ∧ zBt S' a e ∧ (∀ b y, e ≤ b → S' b y = false)
variable {l : Launch} {D : va_G} {ad : Nat → Nat} {L z : Nat} {ι : zi}
theorem df_town {a : Nat} {S : Nat → Int → Bool} (ht : zTw a) (hS : ∀ y, S a y = false) (hz : ∀ x, ι a x = 0) {q : Nat} (hq : q = a) : ∀ r, vwCl[5]? = some r → ∀ (k : Nat) (t : FieldType), k < r.2.2 → parseFieldDescriptor (r.2.1 k).2.2.1 = some t → zv ad (zgS S ι q (k : Int)) = defaultValue t := by
  intro r hr k t hk ht2
  subst hq
  injection (show some _ = some r from hr) with hr'
  subst hr'
  have hk : k < 10 := hk
  have tA : parseFieldDescriptor "[I" = some (.array .int) := by decide +kernel
  have tI : parseFieldDescriptor "I" = some .int := by decide +kernel
  rcases (show k = 0 ∨ k = 1 ∨ k = 2 ∨ k = 3 ∨ k = 4 ∨ k = 5 ∨ k = 6 ∨ k = 7 ∨ k = 8 ∨ k = 9 by omega) with g | g | g | g | g | g | g | g | g | g <;> subst g
  · cases ht2.symm.trans tA; rw [zgS_n ht.rg0 (hS _)]; rfl
  · cases ht2.symm.trans tA; rw [zgS_n ht.rg1 (hS _)]; rfl
  · cases ht2.symm.trans tA; rw [zgS_n ht.rg2 (hS _)]; rfl
  · cases ht2.symm.trans tA; rw [zgS_n ht.rg3 (hS _)]; rfl
  · cases ht2.symm.trans tI; rw [zgS_i ht.ig4, hz]; rfl
  · cases ht2.symm.trans tI; rw [zgS_i ht.ig5, hz]; rfl
  · cases ht2.symm.trans tI; rw [zgS_i ht.ig6, hz]; rfl
  · cases ht2.symm.trans tI; rw [zgS_i ht.ig7, hz]; rfl
  · cases ht2.symm.trans tI; rw [zgS_i ht.ig8, hz]; rfl
  · cases ht2.symm.trans tI; rw [zgS_i ht.ig9, hz]; rfl
theorem c_town0 {a n : Nat} {S : Nat → Int → Bool} (ht : zTw a) (hn : 8 + n = a + 1) (hS : ∀ b y, a ≤ b → S b y = false) (hz : ∀ b x, a ≤ b → b < a + 5 → ι b x = 0) : zCt l (zc D ad L z) mX5_init 1 4 32 [zR a] n (zgS S ι) (zQn ι S a (a + 5)) := by
  have hlo := ht.lo
  have s1 := ht.sl.2.1
  have s2 := ht.sl.2.2.1
  have s3 := ht.sl.2.2.2.1
  have s4 := ht.sl.2.2.2.2.1
  refine zCt_of (by decide) (Nat.le_of_ble_eq_true rfl) 0 rfl ?_
  refine g_aload_n (x := a) rfl dX5_init_0 ?_
  refine g_oinit tw_80 tw_24 tw_25 (by decide) (Nat.le_of_ble_eq_true rfl) dX5_init_1 ?_
  refine g_aload_n (x := a) rfl dX5_init_4 ?_
  refine g_bipush (x := 8) (by decide) dX5_init_5 ?_
  refine g_newI (N := 8) (mc := 3) (ms := 24) (σ' := zgS S ι) tw_49 rfl (by decide) (by rw [hn]; exact ht.s1) (fun _ _ => rfl) (fun j hj => by rw [hn, zgS_i (zg_arr s1), hz _ _ (by omega) (by omega)]) rfl rfl dX5_init_7 ?_
  rw [hn]
  refine g_putF fwX5_9 rfl zcl_5 (congrArg Prod.fst ht.s0) (by omega) (by omega) rfl rfl dX5_init_9 ?_
  rw [zgS_put ht.rg0]
  refine g_aload_n (x := a) rfl dX5_init_12 ?_
  refine g_bipush (x := 8) (by decide) dX5_init_13 ?_
  refine g_newI (N := 8) (mc := 2) (ms := 16) (σ' := zgS (sset S a 0) ι) tw_49 rfl (by decide) (by rw [show 8 + (n + 1) = a + 2 by omega]; exact ht.s2) (fun _ _ => rfl) (fun j hj => by rw [show 8 + (n + 1) = a + 2 by omega, zgS_i (zg_arr s2), hz _ _ (by omega) (by omega)]) rfl rfl dX5_init_15 ?_
  rw [show 8 + (n + 1) = a + 2 by omega]
  refine g_putF fwX5_13 rfl zcl_5 (congrArg Prod.fst ht.s0) (by omega) (by omega) rfl rfl dX5_init_17 ?_
  rw [zgS_put ht.rg1]
  refine g_aload_n (x := a) rfl dX5_init_20 ?_
  refine g_bipush (x := 8) (by decide) dX5_init_21 ?_
  refine g_newI (N := 8) (mc := 1) (ms := 8) (σ' := zgS (sset (sset S a 0) a 1) ι) tw_49 rfl (by decide) (by rw [show 8 + (n + 1 + 1) = a + 3 by omega]; exact ht.s3) (fun _ _ => rfl) (fun j hj => by rw [show 8 + (n + 1 + 1) = a + 3 by omega, zgS_i (zg_arr s3), hz _ _ (by omega) (by omega)]) rfl rfl dX5_init_23 ?_
  rw [show 8 + (n + 1 + 1) = a + 3 by omega]
  refine g_putF fwX5_16 rfl zcl_5 (congrArg Prod.fst ht.s0) (by omega) (by omega) rfl rfl dX5_init_25 ?_
  rw [zgS_put ht.rg2]
  refine g_aload_n (x := a) rfl dX5_init_28 ?_
  refine g_bipush (x := 8) (by decide) dX5_init_29 ?_
  refine g_newI (N := 8) (mc := 0) (ms := 0) (σ' := zgS (sset (sset (sset S a 0) a 1) a 2) ι) tw_49 rfl (by decide) (by rw [show 8 + (n + 1 + 1 + 1) = a + 4 by omega]; exact ht.s4) (fun _ _ => rfl) (fun j hj => by rw [show 8 + (n + 1 + 1 + 1) = a + 4 by omega, zgS_i (zg_arr s4), hz _ _ (by omega) (by omega)]) rfl rfl dX5_init_31 ?_
  rw [show 8 + (n + 1 + 1 + 1) = a + 4 by omega]
  refine g_putF fwX5_19 rfl zcl_5 (congrArg Prod.fst ht.s0) (by omega) (by omega) rfl rfl dX5_init_33 ?_
  rw [zgS_put ht.rg3]
  refine g_ret rfl dX5_init_36 ⟨rfl, by omega, _, rfl, fun b y hb => ?_, fun b y b0 b1 y0 y1 hr => ?_, fun b y hb => ?_⟩
  · rw [sset_n (by omega), sset_n (by omega), sset_n (by omega), sset_n (by omega)]
  · rcases (show b = a ∨ b = a + 1 ∨ b = a + 2 ∨ b = a + 3 ∨ b = a + 4 by omega) with g | g | g | g | g <;> subst g
    · rw [ht.sl.1] at y1
      rcases (show y = 0 ∨ y = 1 ∨ y = 2 ∨ y = 3 ∨ y = 4 ∨ y = 5 ∨ y = 6 ∨ y = 7 ∨ y = 8 ∨ y = 9 by have : y < 10 := y1; omega) with g | g | g | g | g | g | g | g | g | g <;> subst g
      · rw [sset_n (by omega), sset_n (by omega), sset_n (by omega)]; exact sset_s _ _ _
      · rw [sset_n (by omega), sset_n (by omega)]; exact sset_s _ _ _
      · rw [sset_n (by omega)]; exact sset_s _ _ _
      · exact sset_s _ _ _
      · exact absurd (hr.symm.trans (zrf_f (ι := ι) ht.ig4)) (by decide)
      · exact absurd (hr.symm.trans (zrf_f (ι := ι) ht.ig5)) (by decide)
      · exact absurd (hr.symm.trans (zrf_f (ι := ι) ht.ig6)) (by decide)
      · exact absurd (hr.symm.trans (zrf_f (ι := ι) ht.ig7)) (by decide)
      · exact absurd (hr.symm.trans (zrf_f (ι := ι) ht.ig8)) (by decide)
      · exact absurd (hr.symm.trans (zrf_f (ι := ι) ht.ig9)) (by decide)
    · exact absurd (hr.symm.trans (zrf_f (ι := ι) (zg_arr s1))) (by decide)
    · exact absurd (hr.symm.trans (zrf_f (ι := ι) (zg_arr s2))) (by decide)
    · exact absurd (hr.symm.trans (zrf_f (ι := ι) (zg_arr s3))) (by decide)
    · exact absurd (hr.symm.trans (zrf_f (ι := ι) (zg_arr s4))) (by decide)
  · rw [sset_n (by omega), sset_n (by omega), sset_n (by omega), sset_n (by omega)]
    exact hS b y (by omega)
end
