section
def zSl : List (Nat × Nat) := [(0, 0), (1, 6), (1, 6), (1, 6), (0, 0), (5, 5), (0, 0), (0, 0), (16, 10), (13, 3), (4, 8), (1, 40), (1, 40), (1, 40), (1, 40), (1, 40), (1, 40), (1, 40), (1, 40), (1, 8), (1, 8), (14, 5), (1, 110), (15, 10), (1, 8), (1, 8), (1, 8), (1, 8), (15, 10), (1, 8), (1, 8), (1, 8), (1, 8), (15, 10), (1, 8), (1, 8), (1, 8), (1, 8), (15, 10), (1, 8), (1, 8), (1, 8), (1, 8), (10, 3), (3, 24), (15, 10), (1, 8), (1, 8), (1, 8), (1, 8), (15, 10), (1, 8), (1, 8), (1, 8), (1, 8), (15, 10), (1, 8), (1, 8), (1, 8), (1, 8), (15, 10), (1, 8), (1, 8), (1, 8), (1, 8), (15, 10), (1, 8), (1, 8), (1, 8), (1, 8), (15, 10), (1, 8), (1, 8), (1, 8), (1, 8), (15, 10), (1, 8), (1, 8), (1, 8), (1, 8), (15, 10), (1, 8), (1, 8), (1, 8), (1, 8), (15, 10), (1, 8), (1, 8), (1, 8), (1, 8), (15, 10), (1, 8), (1, 8), (1, 8), (1, 8), (15, 10), (1, 8), (1, 8), (1, 8), (1, 8), (15, 10), (1, 8), (1, 8), (1, 8), (1, 8), (15, 10), (1, 8), (1, 8), (1, 8), (1, 8), (15, 10), (1, 8), (1, 8), (1, 8), (1, 8), (15, 10), (1, 8), (1, 8), (1, 8), (1, 8), (15, 10), (1, 8), (1, 8), (1, 8), (1, 8), (15, 10), (1, 8), (1, 8), (1, 8), (1, 8), (15, 10), (1, 8), (1, 8), (1, 8), (1, 8), (15, 10), (1, 8), (1, 8), (1, 8), (1, 8), (15, 10), (1, 8), (1, 8), (1, 8), (1, 8), (15, 10), (1, 8), (1, 8), (1, 8), (1, 8), (15, 10), (1, 8), (1, 8), (1, 8), (1, 8), (15, 10), (1, 8), (1, 8), (1, 8), (1, 8), (15, 10), (1, 8), (1, 8), (1, 8), (1, 8), (12, 9), (15, 10), (1, 8), (1, 8), (1, 8), (1, 8), (1, 128), (1, 8), (1, 21), (1, 21), (1, 12), (11, 2), (1, 16), (17, 17), (1, 1102), (1, 110), (1, 8), (1, 8), (1, 320), (1, 40), (1, 4), (2, 2), (1, 16)]
def zS (L a : Nat) : Nat × Nat := if a = 0 then (1, L) else zSl.getD a (0, 0)
def zc (D : va_G) (ad : Nat → Nat) (L z : Nat) : zC := (D, ad, zS L, z)
variable {D : va_G} {ad : Nat → Nat} {L z : Nat}
theorem sh_1 : zsh (zc D ad L z) 1 = (1, 6) := rfl
theorem sh_2 : zsh (zc D ad L z) 2 = (1, 6) := rfl
theorem sh_3 : zsh (zc D ad L z) 3 = (1, 6) := rfl
theorem sh_4 : zsh (zc D ad L z) 4 = (0, 0) := rfl
theorem sh_5 : zsh (zc D ad L z) 5 = (5, 5) := rfl
theorem sh_6 : zsh (zc D ad L z) 6 = (0, 0) := rfl
theorem sh_7 : zsh (zc D ad L z) 7 = (0, 0) := rfl
theorem sh_8 : zsh (zc D ad L z) 8 = (16, 10) := rfl
theorem sh_9 : zsh (zc D ad L z) 9 = (13, 3) := rfl
theorem sh_10 : zsh (zc D ad L z) 10 = (4, 8) := rfl
theorem sh_11 : zsh (zc D ad L z) 11 = (1, 40) := rfl
theorem sh_12 : zsh (zc D ad L z) 12 = (1, 40) := rfl
theorem sh_13 : zsh (zc D ad L z) 13 = (1, 40) := rfl
theorem sh_14 : zsh (zc D ad L z) 14 = (1, 40) := rfl
theorem sh_15 : zsh (zc D ad L z) 15 = (1, 40) := rfl
theorem sh_16 : zsh (zc D ad L z) 16 = (1, 40) := rfl
theorem sh_17 : zsh (zc D ad L z) 17 = (1, 40) := rfl
theorem sh_18 : zsh (zc D ad L z) 18 = (1, 40) := rfl
theorem sh_19 : zsh (zc D ad L z) 19 = (1, 8) := rfl
theorem sh_20 : zsh (zc D ad L z) 20 = (1, 8) := rfl
theorem sh_21 : zsh (zc D ad L z) 21 = (14, 5) := rfl
theorem sh_22 : zsh (zc D ad L z) 22 = (1, 110) := rfl
theorem sh_23 : zsh (zc D ad L z) 23 = (15, 10) := rfl
theorem sh_24 : zsh (zc D ad L z) 24 = (1, 8) := rfl
theorem sh_25 : zsh (zc D ad L z) 25 = (1, 8) := rfl
theorem sh_26 : zsh (zc D ad L z) 26 = (1, 8) := rfl
theorem sh_27 : zsh (zc D ad L z) 27 = (1, 8) := rfl
theorem sh_28 : zsh (zc D ad L z) 28 = (15, 10) := rfl
theorem sh_29 : zsh (zc D ad L z) 29 = (1, 8) := rfl
theorem sh_30 : zsh (zc D ad L z) 30 = (1, 8) := rfl
theorem sh_31 : zsh (zc D ad L z) 31 = (1, 8) := rfl
theorem sh_32 : zsh (zc D ad L z) 32 = (1, 8) := rfl
theorem sh_33 : zsh (zc D ad L z) 33 = (15, 10) := rfl
theorem sh_34 : zsh (zc D ad L z) 34 = (1, 8) := rfl
theorem sh_35 : zsh (zc D ad L z) 35 = (1, 8) := rfl
theorem sh_36 : zsh (zc D ad L z) 36 = (1, 8) := rfl
theorem sh_37 : zsh (zc D ad L z) 37 = (1, 8) := rfl
theorem sh_38 : zsh (zc D ad L z) 38 = (15, 10) := rfl
theorem sh_39 : zsh (zc D ad L z) 39 = (1, 8) := rfl
theorem sh_40 : zsh (zc D ad L z) 40 = (1, 8) := rfl
theorem sh_41 : zsh (zc D ad L z) 41 = (1, 8) := rfl
theorem sh_42 : zsh (zc D ad L z) 42 = (1, 8) := rfl
theorem sh_43 : zsh (zc D ad L z) 43 = (10, 3) := rfl
theorem sh_44 : zsh (zc D ad L z) 44 = (3, 24) := rfl
theorem sh_165 : zsh (zc D ad L z) 165 = (12, 9) := rfl
theorem sh_166 : zsh (zc D ad L z) 166 = (15, 10) := rfl
theorem sh_167 : zsh (zc D ad L z) 167 = (1, 8) := rfl
theorem sh_168 : zsh (zc D ad L z) 168 = (1, 8) := rfl
theorem sh_169 : zsh (zc D ad L z) 169 = (1, 8) := rfl
theorem sh_170 : zsh (zc D ad L z) 170 = (1, 8) := rfl
theorem sh_171 : zsh (zc D ad L z) 171 = (1, 128) := rfl
theorem sh_172 : zsh (zc D ad L z) 172 = (1, 8) := rfl
theorem sh_173 : zsh (zc D ad L z) 173 = (1, 21) := rfl
theorem sh_174 : zsh (zc D ad L z) 174 = (1, 21) := rfl
theorem sh_175 : zsh (zc D ad L z) 175 = (1, 12) := rfl
theorem sh_176 : zsh (zc D ad L z) 176 = (11, 2) := rfl
theorem sh_177 : zsh (zc D ad L z) 177 = (1, 16) := rfl
theorem sh_178 : zsh (zc D ad L z) 178 = (17, 17) := rfl
theorem sh_179 : zsh (zc D ad L z) 179 = (1, 1102) := rfl
theorem sh_180 : zsh (zc D ad L z) 180 = (1, 110) := rfl
theorem sh_181 : zsh (zc D ad L z) 181 = (1, 8) := rfl
theorem sh_182 : zsh (zc D ad L z) 182 = (1, 8) := rfl
theorem sh_183 : zsh (zc D ad L z) 183 = (1, 320) := rfl
theorem sh_184 : zsh (zc D ad L z) 184 = (1, 40) := rfl
theorem sh_185 : zsh (zc D ad L z) 185 = (1, 4) := rfl
theorem sh_186 : zsh (zc D ad L z) 186 = (2, 2) := rfl
theorem sh_187 : zsh (zc D ad L z) 187 = (1, 16) := rfl
theorem sh_0 : zsh (zc D ad L z) 0 = (1, L) := rfl
def zrl (a : Nat) (x : Int) : Option Nat := match (zSl.getD a (0, 0)).1 with
  | 15 => if 0 ≤ x ∧ x < 4 then some (a + 1 + x.toNat) else none
  | 3 => some (a + 1 + 5 * x.toNat)
  | 4 => some (a + 1 + x.toNat)
  | 16 => if x = 0 then some 9 else if x = 1 then some 21 else if x = 2 then some 23 else if x = 3 then some 28 else if x = 4 then some 33 else if x = 5 then some 38 else if x = 6 then some 43 else if x = 7 then some 165 else if x = 8 then some 176 else none
  | 13 => if x = 0 then some 10 else if x = 1 then some 19 else if x = 2 then some 20 else none
  | 14 => if x = 0 then some 22 else none
  | 10 => if x = 0 then some 44 else none
  | 12 => if x = 0 then some 166 else if x = 1 then some 171 else if x = 2 then some 172 else if x = 5 then some 175 else none
  | 11 => if x = 0 then some 177 else none
  | 17 => if x = 0 then some 179 else if x = 2 then some 180 else if x = 6 then some 181 else if x = 7 then some 182 else if x = 8 then some 183 else if x = 9 then some 184 else if x = 13 then some 185 else if x = 14 then some 186 else if x = 15 then some 187 else none
  | _ => none
abbrev zi : Type := Nat → Int → Int
def zg (ι : zi) : zM := fun a x => match zrl a x with
  | some b => zR b
  | none => if (zSl.getD a (0, 0)).1 = 12 ∧ (x = 3 ∨ x = 4) then zR (ι a x).toNat else zI (ι a x)
def iup (ι : zi) (a : Nat) (x v : Int) : zi := fun b y => if b = a ∧ y = x then v else ι b y
theorem zg_up {ι : zi} {a : Nat} {x v : Int} (h : zrl a x = none) (h2 : ¬ ((zSl.getD a (0, 0)).1 = 12 ∧ (x = 3 ∨ x = 4))) : zup (zg ι) a x (zI v) = zg (iup ι a x v) := by
  funext b y
  by_cases hb : b = a ∧ y = x
  · obtain ⟨rfl, rfl⟩ := hb
    simp only [zup, zg, h, iup, and_self, if_true]
    rw [if_neg h2]
  · simp only [zup, if_neg hb, zg, iup]
theorem zg_arr {ι : zi} {a N : Nat} {x : Int} (h : zSl.getD a (0, 0) = (1, N)) : zg ι a x = zI (ι a x) := by
  unfold zg zrl
  rw [h]
  rfl
theorem zg_arr_up {ι : zi} {a N : Nat} {x v : Int} (h : zSl.getD a (0, 0) = (1, N)) : zup (zg ι) a x (zI v) = zg (iup ι a x v) := zg_up (by unfold zrl; rw [h]; rfl) (by rw [h]; exact fun q => absurd q.1 (show ¬ (1 : Nat) = 12 by decide))
theorem zg_brr_up {ι : zi} {a N : Nat} {x v : Int} (h : zSl.getD a (0, 0) = (2, N)) : zup (zg ι) a x (zI v) = zg (iup ι a x v) := zg_up (by unfold zrl; rw [h]; rfl) (by rw [h]; exact fun q => absurd q.1 (show ¬ (2 : Nat) = 12 by decide))
def icpy (ι : zi) (a b : Nat) (sp dp k : Int) : zi := fun c y => if c = b ∧ dp ≤ y ∧ y < dp + k then ι a (sp + (y - dp)) else ι c y
theorem zg_cpy {ι : zi} {a b N0 N1 : Nat} {sp dp k : Int} (ha : zSl.getD a (0, 0) = (1, N0)) (hb : zSl.getD b (0, 0) = (1, N1)) : zcpy (zg ι) a b sp dp k = zg (icpy ι a b sp dp k) := by
  funext c y
  by_cases hc : c = b ∧ dp ≤ y ∧ y < dp + k
  · simp only [zcpy, if_pos hc, zg_arr ha]
    rw [hc.1, zg_arr hb]
    simp only [icpy, hc, and_self, if_true]
  · simp only [zcpy, if_neg hc, zg, icpy]
theorem ag_1 {ι : zi} {x : Int} : zg ι 1 x = zI (ι 1 x) := zg_arr rfl
theorem ag_2 {ι : zi} {x : Int} : zg ι 2 x = zI (ι 2 x) := zg_arr rfl
theorem ag_3 {ι : zi} {x : Int} : zg ι 3 x = zI (ι 3 x) := zg_arr rfl
theorem rg_8_0 {ι : zi} : zg ι 8 ((0 : Nat) : Int) = zR 9 := rfl
theorem rg_8_1 {ι : zi} : zg ι 8 ((1 : Nat) : Int) = zR 21 := rfl
theorem rg_8_2 {ι : zi} : zg ι 8 ((2 : Nat) : Int) = zR 23 := rfl
theorem rg_8_3 {ι : zi} : zg ι 8 ((3 : Nat) : Int) = zR 28 := rfl
theorem rg_8_4 {ι : zi} : zg ι 8 ((4 : Nat) : Int) = zR 33 := rfl
theorem rg_8_5 {ι : zi} : zg ι 8 ((5 : Nat) : Int) = zR 38 := rfl
theorem rg_8_6 {ι : zi} : zg ι 8 ((6 : Nat) : Int) = zR 43 := rfl
theorem rg_8_7 {ι : zi} : zg ι 8 ((7 : Nat) : Int) = zR 165 := rfl
theorem rg_8_8 {ι : zi} : zg ι 8 ((8 : Nat) : Int) = zR 176 := rfl
theorem ig_8_9 {ι : zi} : zg ι 8 ((9 : Nat) : Int) = zI (ι 8 9) := rfl
theorem iu_8_9 {ι : zi} {v : Int} : zup (zg ι) 8 ((9 : Nat) : Int) (zI v) = zg (iup ι 8 9 v) := zg_up rfl (by decide)
theorem rg_9_0 {ι : zi} : zg ι 9 ((0 : Nat) : Int) = zR 10 := rfl
theorem rg_9_1 {ι : zi} : zg ι 9 ((1 : Nat) : Int) = zR 19 := rfl
theorem rg_9_2 {ι : zi} : zg ι 9 ((2 : Nat) : Int) = zR 20 := rfl
theorem ag_11 {ι : zi} {x : Int} : zg ι 11 x = zI (ι 11 x) := zg_arr rfl
theorem au_11 {ι : zi} {x v : Int} : zup (zg ι) 11 x (zI v) = zg (iup ι 11 x v) := zg_arr_up rfl
theorem ag_12 {ι : zi} {x : Int} : zg ι 12 x = zI (ι 12 x) := zg_arr rfl
theorem au_12 {ι : zi} {x v : Int} : zup (zg ι) 12 x (zI v) = zg (iup ι 12 x v) := zg_arr_up rfl
theorem ag_13 {ι : zi} {x : Int} : zg ι 13 x = zI (ι 13 x) := zg_arr rfl
theorem au_13 {ι : zi} {x v : Int} : zup (zg ι) 13 x (zI v) = zg (iup ι 13 x v) := zg_arr_up rfl
theorem ag_14 {ι : zi} {x : Int} : zg ι 14 x = zI (ι 14 x) := zg_arr rfl
theorem au_14 {ι : zi} {x v : Int} : zup (zg ι) 14 x (zI v) = zg (iup ι 14 x v) := zg_arr_up rfl
theorem ag_15 {ι : zi} {x : Int} : zg ι 15 x = zI (ι 15 x) := zg_arr rfl
theorem au_15 {ι : zi} {x v : Int} : zup (zg ι) 15 x (zI v) = zg (iup ι 15 x v) := zg_arr_up rfl
theorem ag_16 {ι : zi} {x : Int} : zg ι 16 x = zI (ι 16 x) := zg_arr rfl
theorem au_16 {ι : zi} {x v : Int} : zup (zg ι) 16 x (zI v) = zg (iup ι 16 x v) := zg_arr_up rfl
theorem ag_17 {ι : zi} {x : Int} : zg ι 17 x = zI (ι 17 x) := zg_arr rfl
theorem au_17 {ι : zi} {x v : Int} : zup (zg ι) 17 x (zI v) = zg (iup ι 17 x v) := zg_arr_up rfl
theorem ag_18 {ι : zi} {x : Int} : zg ι 18 x = zI (ι 18 x) := zg_arr rfl
theorem au_18 {ι : zi} {x v : Int} : zup (zg ι) 18 x (zI v) = zg (iup ι 18 x v) := zg_arr_up rfl
theorem ag_19 {ι : zi} {x : Int} : zg ι 19 x = zI (ι 19 x) := zg_arr rfl
theorem au_19 {ι : zi} {x v : Int} : zup (zg ι) 19 x (zI v) = zg (iup ι 19 x v) := zg_arr_up rfl
theorem ag_20 {ι : zi} {x : Int} : zg ι 20 x = zI (ι 20 x) := zg_arr rfl
theorem au_20 {ι : zi} {x v : Int} : zup (zg ι) 20 x (zI v) = zg (iup ι 20 x v) := zg_arr_up rfl
theorem rg_21_0 {ι : zi} : zg ι 21 ((0 : Nat) : Int) = zR 22 := rfl
theorem ig_21_1 {ι : zi} : zg ι 21 ((1 : Nat) : Int) = zI (ι 21 1) := rfl
theorem iu_21_1 {ι : zi} {v : Int} : zup (zg ι) 21 ((1 : Nat) : Int) (zI v) = zg (iup ι 21 1 v) := zg_up rfl (by decide)
theorem ig_21_2 {ι : zi} : zg ι 21 ((2 : Nat) : Int) = zI (ι 21 2) := rfl
theorem iu_21_2 {ι : zi} {v : Int} : zup (zg ι) 21 ((2 : Nat) : Int) (zI v) = zg (iup ι 21 2 v) := zg_up rfl (by decide)
theorem ig_21_3 {ι : zi} : zg ι 21 ((3 : Nat) : Int) = zI (ι 21 3) := rfl
theorem iu_21_3 {ι : zi} {v : Int} : zup (zg ι) 21 ((3 : Nat) : Int) (zI v) = zg (iup ι 21 3 v) := zg_up rfl (by decide)
theorem ig_21_4 {ι : zi} : zg ι 21 ((4 : Nat) : Int) = zI (ι 21 4) := rfl
theorem iu_21_4 {ι : zi} {v : Int} : zup (zg ι) 21 ((4 : Nat) : Int) (zI v) = zg (iup ι 21 4 v) := zg_up rfl (by decide)
theorem ag_22 {ι : zi} {x : Int} : zg ι 22 x = zI (ι 22 x) := zg_arr rfl
theorem au_22 {ι : zi} {x v : Int} : zup (zg ι) 22 x (zI v) = zg (iup ι 22 x v) := zg_arr_up rfl
theorem rg_23_0 {ι : zi} : zg ι 23 ((0 : Nat) : Int) = zR 24 := rfl
theorem rg_23_1 {ι : zi} : zg ι 23 ((1 : Nat) : Int) = zR 25 := rfl
theorem rg_23_2 {ι : zi} : zg ι 23 ((2 : Nat) : Int) = zR 26 := rfl
theorem rg_23_3 {ι : zi} : zg ι 23 ((3 : Nat) : Int) = zR 27 := rfl
theorem ig_23_4 {ι : zi} : zg ι 23 ((4 : Nat) : Int) = zI (ι 23 4) := rfl
theorem iu_23_4 {ι : zi} {v : Int} : zup (zg ι) 23 ((4 : Nat) : Int) (zI v) = zg (iup ι 23 4 v) := zg_up rfl (by decide)
theorem ig_23_5 {ι : zi} : zg ι 23 ((5 : Nat) : Int) = zI (ι 23 5) := rfl
theorem iu_23_5 {ι : zi} {v : Int} : zup (zg ι) 23 ((5 : Nat) : Int) (zI v) = zg (iup ι 23 5 v) := zg_up rfl (by decide)
theorem ig_23_6 {ι : zi} : zg ι 23 ((6 : Nat) : Int) = zI (ι 23 6) := rfl
theorem iu_23_6 {ι : zi} {v : Int} : zup (zg ι) 23 ((6 : Nat) : Int) (zI v) = zg (iup ι 23 6 v) := zg_up rfl (by decide)
theorem ig_23_7 {ι : zi} : zg ι 23 ((7 : Nat) : Int) = zI (ι 23 7) := rfl
theorem iu_23_7 {ι : zi} {v : Int} : zup (zg ι) 23 ((7 : Nat) : Int) (zI v) = zg (iup ι 23 7 v) := zg_up rfl (by decide)
theorem ig_23_8 {ι : zi} : zg ι 23 ((8 : Nat) : Int) = zI (ι 23 8) := rfl
theorem iu_23_8 {ι : zi} {v : Int} : zup (zg ι) 23 ((8 : Nat) : Int) (zI v) = zg (iup ι 23 8 v) := zg_up rfl (by decide)
theorem ig_23_9 {ι : zi} : zg ι 23 ((9 : Nat) : Int) = zI (ι 23 9) := rfl
theorem iu_23_9 {ι : zi} {v : Int} : zup (zg ι) 23 ((9 : Nat) : Int) (zI v) = zg (iup ι 23 9 v) := zg_up rfl (by decide)
theorem ag_24 {ι : zi} {x : Int} : zg ι 24 x = zI (ι 24 x) := zg_arr rfl
theorem au_24 {ι : zi} {x v : Int} : zup (zg ι) 24 x (zI v) = zg (iup ι 24 x v) := zg_arr_up rfl
theorem ag_25 {ι : zi} {x : Int} : zg ι 25 x = zI (ι 25 x) := zg_arr rfl
theorem au_25 {ι : zi} {x v : Int} : zup (zg ι) 25 x (zI v) = zg (iup ι 25 x v) := zg_arr_up rfl
theorem ag_26 {ι : zi} {x : Int} : zg ι 26 x = zI (ι 26 x) := zg_arr rfl
theorem au_26 {ι : zi} {x v : Int} : zup (zg ι) 26 x (zI v) = zg (iup ι 26 x v) := zg_arr_up rfl
theorem ag_27 {ι : zi} {x : Int} : zg ι 27 x = zI (ι 27 x) := zg_arr rfl
theorem au_27 {ι : zi} {x v : Int} : zup (zg ι) 27 x (zI v) = zg (iup ι 27 x v) := zg_arr_up rfl
theorem rg_28_0 {ι : zi} : zg ι 28 ((0 : Nat) : Int) = zR 29 := rfl
theorem rg_28_1 {ι : zi} : zg ι 28 ((1 : Nat) : Int) = zR 30 := rfl
theorem rg_28_2 {ι : zi} : zg ι 28 ((2 : Nat) : Int) = zR 31 := rfl
theorem rg_28_3 {ι : zi} : zg ι 28 ((3 : Nat) : Int) = zR 32 := rfl
theorem ig_28_4 {ι : zi} : zg ι 28 ((4 : Nat) : Int) = zI (ι 28 4) := rfl
theorem iu_28_4 {ι : zi} {v : Int} : zup (zg ι) 28 ((4 : Nat) : Int) (zI v) = zg (iup ι 28 4 v) := zg_up rfl (by decide)
theorem ig_28_5 {ι : zi} : zg ι 28 ((5 : Nat) : Int) = zI (ι 28 5) := rfl
theorem iu_28_5 {ι : zi} {v : Int} : zup (zg ι) 28 ((5 : Nat) : Int) (zI v) = zg (iup ι 28 5 v) := zg_up rfl (by decide)
theorem ig_28_6 {ι : zi} : zg ι 28 ((6 : Nat) : Int) = zI (ι 28 6) := rfl
theorem iu_28_6 {ι : zi} {v : Int} : zup (zg ι) 28 ((6 : Nat) : Int) (zI v) = zg (iup ι 28 6 v) := zg_up rfl (by decide)
theorem ig_28_7 {ι : zi} : zg ι 28 ((7 : Nat) : Int) = zI (ι 28 7) := rfl
theorem iu_28_7 {ι : zi} {v : Int} : zup (zg ι) 28 ((7 : Nat) : Int) (zI v) = zg (iup ι 28 7 v) := zg_up rfl (by decide)
theorem ig_28_8 {ι : zi} : zg ι 28 ((8 : Nat) : Int) = zI (ι 28 8) := rfl
theorem iu_28_8 {ι : zi} {v : Int} : zup (zg ι) 28 ((8 : Nat) : Int) (zI v) = zg (iup ι 28 8 v) := zg_up rfl (by decide)
theorem ig_28_9 {ι : zi} : zg ι 28 ((9 : Nat) : Int) = zI (ι 28 9) := rfl
theorem iu_28_9 {ι : zi} {v : Int} : zup (zg ι) 28 ((9 : Nat) : Int) (zI v) = zg (iup ι 28 9 v) := zg_up rfl (by decide)
theorem ag_29 {ι : zi} {x : Int} : zg ι 29 x = zI (ι 29 x) := zg_arr rfl
theorem au_29 {ι : zi} {x v : Int} : zup (zg ι) 29 x (zI v) = zg (iup ι 29 x v) := zg_arr_up rfl
theorem ag_30 {ι : zi} {x : Int} : zg ι 30 x = zI (ι 30 x) := zg_arr rfl
theorem au_30 {ι : zi} {x v : Int} : zup (zg ι) 30 x (zI v) = zg (iup ι 30 x v) := zg_arr_up rfl
theorem ag_31 {ι : zi} {x : Int} : zg ι 31 x = zI (ι 31 x) := zg_arr rfl
theorem au_31 {ι : zi} {x v : Int} : zup (zg ι) 31 x (zI v) = zg (iup ι 31 x v) := zg_arr_up rfl
theorem ag_32 {ι : zi} {x : Int} : zg ι 32 x = zI (ι 32 x) := zg_arr rfl
theorem au_32 {ι : zi} {x v : Int} : zup (zg ι) 32 x (zI v) = zg (iup ι 32 x v) := zg_arr_up rfl
theorem rg_33_0 {ι : zi} : zg ι 33 ((0 : Nat) : Int) = zR 34 := rfl
theorem rg_33_1 {ι : zi} : zg ι 33 ((1 : Nat) : Int) = zR 35 := rfl
theorem rg_33_2 {ι : zi} : zg ι 33 ((2 : Nat) : Int) = zR 36 := rfl
theorem rg_33_3 {ι : zi} : zg ι 33 ((3 : Nat) : Int) = zR 37 := rfl
theorem ig_33_4 {ι : zi} : zg ι 33 ((4 : Nat) : Int) = zI (ι 33 4) := rfl
theorem iu_33_4 {ι : zi} {v : Int} : zup (zg ι) 33 ((4 : Nat) : Int) (zI v) = zg (iup ι 33 4 v) := zg_up rfl (by decide)
theorem ig_33_5 {ι : zi} : zg ι 33 ((5 : Nat) : Int) = zI (ι 33 5) := rfl
theorem iu_33_5 {ι : zi} {v : Int} : zup (zg ι) 33 ((5 : Nat) : Int) (zI v) = zg (iup ι 33 5 v) := zg_up rfl (by decide)
theorem ig_33_6 {ι : zi} : zg ι 33 ((6 : Nat) : Int) = zI (ι 33 6) := rfl
theorem iu_33_6 {ι : zi} {v : Int} : zup (zg ι) 33 ((6 : Nat) : Int) (zI v) = zg (iup ι 33 6 v) := zg_up rfl (by decide)
theorem ig_33_7 {ι : zi} : zg ι 33 ((7 : Nat) : Int) = zI (ι 33 7) := rfl
theorem iu_33_7 {ι : zi} {v : Int} : zup (zg ι) 33 ((7 : Nat) : Int) (zI v) = zg (iup ι 33 7 v) := zg_up rfl (by decide)
theorem ig_33_8 {ι : zi} : zg ι 33 ((8 : Nat) : Int) = zI (ι 33 8) := rfl
theorem iu_33_8 {ι : zi} {v : Int} : zup (zg ι) 33 ((8 : Nat) : Int) (zI v) = zg (iup ι 33 8 v) := zg_up rfl (by decide)
theorem ig_33_9 {ι : zi} : zg ι 33 ((9 : Nat) : Int) = zI (ι 33 9) := rfl
theorem iu_33_9 {ι : zi} {v : Int} : zup (zg ι) 33 ((9 : Nat) : Int) (zI v) = zg (iup ι 33 9 v) := zg_up rfl (by decide)
theorem ag_34 {ι : zi} {x : Int} : zg ι 34 x = zI (ι 34 x) := zg_arr rfl
theorem au_34 {ι : zi} {x v : Int} : zup (zg ι) 34 x (zI v) = zg (iup ι 34 x v) := zg_arr_up rfl
theorem ag_35 {ι : zi} {x : Int} : zg ι 35 x = zI (ι 35 x) := zg_arr rfl
theorem au_35 {ι : zi} {x v : Int} : zup (zg ι) 35 x (zI v) = zg (iup ι 35 x v) := zg_arr_up rfl
theorem ag_36 {ι : zi} {x : Int} : zg ι 36 x = zI (ι 36 x) := zg_arr rfl
theorem au_36 {ι : zi} {x v : Int} : zup (zg ι) 36 x (zI v) = zg (iup ι 36 x v) := zg_arr_up rfl
theorem ag_37 {ι : zi} {x : Int} : zg ι 37 x = zI (ι 37 x) := zg_arr rfl
theorem au_37 {ι : zi} {x v : Int} : zup (zg ι) 37 x (zI v) = zg (iup ι 37 x v) := zg_arr_up rfl
theorem rg_38_0 {ι : zi} : zg ι 38 ((0 : Nat) : Int) = zR 39 := rfl
theorem rg_38_1 {ι : zi} : zg ι 38 ((1 : Nat) : Int) = zR 40 := rfl
theorem rg_38_2 {ι : zi} : zg ι 38 ((2 : Nat) : Int) = zR 41 := rfl
theorem rg_38_3 {ι : zi} : zg ι 38 ((3 : Nat) : Int) = zR 42 := rfl
theorem ig_38_4 {ι : zi} : zg ι 38 ((4 : Nat) : Int) = zI (ι 38 4) := rfl
theorem iu_38_4 {ι : zi} {v : Int} : zup (zg ι) 38 ((4 : Nat) : Int) (zI v) = zg (iup ι 38 4 v) := zg_up rfl (by decide)
theorem ig_38_5 {ι : zi} : zg ι 38 ((5 : Nat) : Int) = zI (ι 38 5) := rfl
theorem iu_38_5 {ι : zi} {v : Int} : zup (zg ι) 38 ((5 : Nat) : Int) (zI v) = zg (iup ι 38 5 v) := zg_up rfl (by decide)
theorem ig_38_6 {ι : zi} : zg ι 38 ((6 : Nat) : Int) = zI (ι 38 6) := rfl
theorem iu_38_6 {ι : zi} {v : Int} : zup (zg ι) 38 ((6 : Nat) : Int) (zI v) = zg (iup ι 38 6 v) := zg_up rfl (by decide)
theorem ig_38_7 {ι : zi} : zg ι 38 ((7 : Nat) : Int) = zI (ι 38 7) := rfl
theorem iu_38_7 {ι : zi} {v : Int} : zup (zg ι) 38 ((7 : Nat) : Int) (zI v) = zg (iup ι 38 7 v) := zg_up rfl (by decide)
theorem ig_38_8 {ι : zi} : zg ι 38 ((8 : Nat) : Int) = zI (ι 38 8) := rfl
theorem iu_38_8 {ι : zi} {v : Int} : zup (zg ι) 38 ((8 : Nat) : Int) (zI v) = zg (iup ι 38 8 v) := zg_up rfl (by decide)
theorem ig_38_9 {ι : zi} : zg ι 38 ((9 : Nat) : Int) = zI (ι 38 9) := rfl
theorem iu_38_9 {ι : zi} {v : Int} : zup (zg ι) 38 ((9 : Nat) : Int) (zI v) = zg (iup ι 38 9 v) := zg_up rfl (by decide)
theorem ag_39 {ι : zi} {x : Int} : zg ι 39 x = zI (ι 39 x) := zg_arr rfl
theorem au_39 {ι : zi} {x v : Int} : zup (zg ι) 39 x (zI v) = zg (iup ι 39 x v) := zg_arr_up rfl
theorem ag_40 {ι : zi} {x : Int} : zg ι 40 x = zI (ι 40 x) := zg_arr rfl
theorem au_40 {ι : zi} {x v : Int} : zup (zg ι) 40 x (zI v) = zg (iup ι 40 x v) := zg_arr_up rfl
theorem ag_41 {ι : zi} {x : Int} : zg ι 41 x = zI (ι 41 x) := zg_arr rfl
theorem au_41 {ι : zi} {x v : Int} : zup (zg ι) 41 x (zI v) = zg (iup ι 41 x v) := zg_arr_up rfl
theorem ag_42 {ι : zi} {x : Int} : zg ι 42 x = zI (ι 42 x) := zg_arr rfl
theorem au_42 {ι : zi} {x v : Int} : zup (zg ι) 42 x (zI v) = zg (iup ι 42 x v) := zg_arr_up rfl
theorem rg_43_0 {ι : zi} : zg ι 43 ((0 : Nat) : Int) = zR 44 := rfl
theorem ig_43_1 {ι : zi} : zg ι 43 ((1 : Nat) : Int) = zI (ι 43 1) := rfl
theorem iu_43_1 {ι : zi} {v : Int} : zup (zg ι) 43 ((1 : Nat) : Int) (zI v) = zg (iup ι 43 1 v) := zg_up rfl (by decide)
theorem ig_43_2 {ι : zi} : zg ι 43 ((2 : Nat) : Int) = zI (ι 43 2) := rfl
theorem iu_43_2 {ι : zi} {v : Int} : zup (zg ι) 43 ((2 : Nat) : Int) (zI v) = zg (iup ι 43 2 v) := zg_up rfl (by decide)
theorem rg_165_0 {ι : zi} : zg ι 165 ((0 : Nat) : Int) = zR 166 := rfl
theorem rg_165_1 {ι : zi} : zg ι 165 ((1 : Nat) : Int) = zR 171 := rfl
theorem rg_165_2 {ι : zi} : zg ι 165 ((2 : Nat) : Int) = zR 172 := rfl
theorem rg_165_3 {ι : zi} : zg ι 165 ((3 : Nat) : Int) = zR (ι 165 3).toNat := rfl
theorem rg_165_4 {ι : zi} : zg ι 165 ((4 : Nat) : Int) = zR (ι 165 4).toNat := rfl
theorem rg_165_5 {ι : zi} : zg ι 165 ((5 : Nat) : Int) = zR 175 := rfl
theorem ig_165_6 {ι : zi} : zg ι 165 ((6 : Nat) : Int) = zI (ι 165 6) := rfl
theorem iu_165_6 {ι : zi} {v : Int} : zup (zg ι) 165 ((6 : Nat) : Int) (zI v) = zg (iup ι 165 6 v) := zg_up rfl (by decide)
theorem ig_165_7 {ι : zi} : zg ι 165 ((7 : Nat) : Int) = zI (ι 165 7) := rfl
theorem iu_165_7 {ι : zi} {v : Int} : zup (zg ι) 165 ((7 : Nat) : Int) (zI v) = zg (iup ι 165 7 v) := zg_up rfl (by decide)
theorem ig_165_8 {ι : zi} : zg ι 165 ((8 : Nat) : Int) = zI (ι 165 8) := rfl
theorem iu_165_8 {ι : zi} {v : Int} : zup (zg ι) 165 ((8 : Nat) : Int) (zI v) = zg (iup ι 165 8 v) := zg_up rfl (by decide)
theorem rg_166_0 {ι : zi} : zg ι 166 ((0 : Nat) : Int) = zR 167 := rfl
theorem rg_166_1 {ι : zi} : zg ι 166 ((1 : Nat) : Int) = zR 168 := rfl
theorem rg_166_2 {ι : zi} : zg ι 166 ((2 : Nat) : Int) = zR 169 := rfl
theorem rg_166_3 {ι : zi} : zg ι 166 ((3 : Nat) : Int) = zR 170 := rfl
theorem ig_166_4 {ι : zi} : zg ι 166 ((4 : Nat) : Int) = zI (ι 166 4) := rfl
theorem iu_166_4 {ι : zi} {v : Int} : zup (zg ι) 166 ((4 : Nat) : Int) (zI v) = zg (iup ι 166 4 v) := zg_up rfl (by decide)
theorem ig_166_5 {ι : zi} : zg ι 166 ((5 : Nat) : Int) = zI (ι 166 5) := rfl
theorem iu_166_5 {ι : zi} {v : Int} : zup (zg ι) 166 ((5 : Nat) : Int) (zI v) = zg (iup ι 166 5 v) := zg_up rfl (by decide)
theorem ig_166_6 {ι : zi} : zg ι 166 ((6 : Nat) : Int) = zI (ι 166 6) := rfl
theorem iu_166_6 {ι : zi} {v : Int} : zup (zg ι) 166 ((6 : Nat) : Int) (zI v) = zg (iup ι 166 6 v) := zg_up rfl (by decide)
theorem ig_166_7 {ι : zi} : zg ι 166 ((7 : Nat) : Int) = zI (ι 166 7) := rfl
theorem iu_166_7 {ι : zi} {v : Int} : zup (zg ι) 166 ((7 : Nat) : Int) (zI v) = zg (iup ι 166 7 v) := zg_up rfl (by decide)
theorem ig_166_8 {ι : zi} : zg ι 166 ((8 : Nat) : Int) = zI (ι 166 8) := rfl
theorem iu_166_8 {ι : zi} {v : Int} : zup (zg ι) 166 ((8 : Nat) : Int) (zI v) = zg (iup ι 166 8 v) := zg_up rfl (by decide)
theorem ig_166_9 {ι : zi} : zg ι 166 ((9 : Nat) : Int) = zI (ι 166 9) := rfl
theorem iu_166_9 {ι : zi} {v : Int} : zup (zg ι) 166 ((9 : Nat) : Int) (zI v) = zg (iup ι 166 9 v) := zg_up rfl (by decide)
theorem ag_167 {ι : zi} {x : Int} : zg ι 167 x = zI (ι 167 x) := zg_arr rfl
theorem au_167 {ι : zi} {x v : Int} : zup (zg ι) 167 x (zI v) = zg (iup ι 167 x v) := zg_arr_up rfl
theorem ag_168 {ι : zi} {x : Int} : zg ι 168 x = zI (ι 168 x) := zg_arr rfl
theorem au_168 {ι : zi} {x v : Int} : zup (zg ι) 168 x (zI v) = zg (iup ι 168 x v) := zg_arr_up rfl
theorem ag_169 {ι : zi} {x : Int} : zg ι 169 x = zI (ι 169 x) := zg_arr rfl
theorem au_169 {ι : zi} {x v : Int} : zup (zg ι) 169 x (zI v) = zg (iup ι 169 x v) := zg_arr_up rfl
theorem ag_170 {ι : zi} {x : Int} : zg ι 170 x = zI (ι 170 x) := zg_arr rfl
theorem au_170 {ι : zi} {x v : Int} : zup (zg ι) 170 x (zI v) = zg (iup ι 170 x v) := zg_arr_up rfl
theorem ag_171 {ι : zi} {x : Int} : zg ι 171 x = zI (ι 171 x) := zg_arr rfl
theorem au_171 {ι : zi} {x v : Int} : zup (zg ι) 171 x (zI v) = zg (iup ι 171 x v) := zg_arr_up rfl
theorem ag_172 {ι : zi} {x : Int} : zg ι 172 x = zI (ι 172 x) := zg_arr rfl
theorem au_172 {ι : zi} {x v : Int} : zup (zg ι) 172 x (zI v) = zg (iup ι 172 x v) := zg_arr_up rfl
theorem ag_173 {ι : zi} {x : Int} : zg ι 173 x = zI (ι 173 x) := zg_arr rfl
theorem au_173 {ι : zi} {x v : Int} : zup (zg ι) 173 x (zI v) = zg (iup ι 173 x v) := zg_arr_up rfl
theorem ag_174 {ι : zi} {x : Int} : zg ι 174 x = zI (ι 174 x) := zg_arr rfl
theorem au_174 {ι : zi} {x v : Int} : zup (zg ι) 174 x (zI v) = zg (iup ι 174 x v) := zg_arr_up rfl
theorem ag_175 {ι : zi} {x : Int} : zg ι 175 x = zI (ι 175 x) := zg_arr rfl
theorem au_175 {ι : zi} {x v : Int} : zup (zg ι) 175 x (zI v) = zg (iup ι 175 x v) := zg_arr_up rfl
theorem rg_176_0 {ι : zi} : zg ι 176 ((0 : Nat) : Int) = zR 177 := rfl
theorem ig_176_1 {ι : zi} : zg ι 176 ((1 : Nat) : Int) = zI (ι 176 1) := rfl
theorem iu_176_1 {ι : zi} {v : Int} : zup (zg ι) 176 ((1 : Nat) : Int) (zI v) = zg (iup ι 176 1 v) := zg_up rfl (by decide)
theorem ag_177 {ι : zi} {x : Int} : zg ι 177 x = zI (ι 177 x) := zg_arr rfl
theorem au_177 {ι : zi} {x v : Int} : zup (zg ι) 177 x (zI v) = zg (iup ι 177 x v) := zg_arr_up rfl
theorem rg_178_0 {ι : zi} : zg ι 178 ((0 : Nat) : Int) = zR 179 := rfl
theorem ig_178_1 {ι : zi} : zg ι 178 ((1 : Nat) : Int) = zI (ι 178 1) := rfl
theorem iu_178_1 {ι : zi} {v : Int} : zup (zg ι) 178 ((1 : Nat) : Int) (zI v) = zg (iup ι 178 1 v) := zg_up rfl (by decide)
theorem rg_178_2 {ι : zi} : zg ι 178 ((2 : Nat) : Int) = zR 180 := rfl
theorem ig_178_3 {ι : zi} : zg ι 178 ((3 : Nat) : Int) = zI (ι 178 3) := rfl
theorem iu_178_3 {ι : zi} {v : Int} : zup (zg ι) 178 ((3 : Nat) : Int) (zI v) = zg (iup ι 178 3 v) := zg_up rfl (by decide)
theorem ig_178_4 {ι : zi} : zg ι 178 ((4 : Nat) : Int) = zI (ι 178 4) := rfl
theorem iu_178_4 {ι : zi} {v : Int} : zup (zg ι) 178 ((4 : Nat) : Int) (zI v) = zg (iup ι 178 4 v) := zg_up rfl (by decide)
theorem ig_178_5 {ι : zi} : zg ι 178 ((5 : Nat) : Int) = zI (ι 178 5) := rfl
theorem iu_178_5 {ι : zi} {v : Int} : zup (zg ι) 178 ((5 : Nat) : Int) (zI v) = zg (iup ι 178 5 v) := zg_up rfl (by decide)
theorem rg_178_6 {ι : zi} : zg ι 178 ((6 : Nat) : Int) = zR 181 := rfl
theorem rg_178_7 {ι : zi} : zg ι 178 ((7 : Nat) : Int) = zR 182 := rfl
theorem rg_178_8 {ι : zi} : zg ι 178 ((8 : Nat) : Int) = zR 183 := rfl
theorem rg_178_9 {ι : zi} : zg ι 178 ((9 : Nat) : Int) = zR 184 := rfl
theorem ig_178_10 {ι : zi} : zg ι 178 ((10 : Nat) : Int) = zI (ι 178 10) := rfl
theorem iu_178_10 {ι : zi} {v : Int} : zup (zg ι) 178 ((10 : Nat) : Int) (zI v) = zg (iup ι 178 10 v) := zg_up rfl (by decide)
theorem ig_178_11 {ι : zi} : zg ι 178 ((11 : Nat) : Int) = zI (ι 178 11) := rfl
theorem iu_178_11 {ι : zi} {v : Int} : zup (zg ι) 178 ((11 : Nat) : Int) (zI v) = zg (iup ι 178 11 v) := zg_up rfl (by decide)
theorem ig_178_12 {ι : zi} : zg ι 178 ((12 : Nat) : Int) = zI (ι 178 12) := rfl
theorem iu_178_12 {ι : zi} {v : Int} : zup (zg ι) 178 ((12 : Nat) : Int) (zI v) = zg (iup ι 178 12 v) := zg_up rfl (by decide)
theorem rg_178_13 {ι : zi} : zg ι 178 ((13 : Nat) : Int) = zR 185 := rfl
theorem rg_178_14 {ι : zi} : zg ι 178 ((14 : Nat) : Int) = zR 186 := rfl
theorem rg_178_15 {ι : zi} : zg ι 178 ((15 : Nat) : Int) = zR 187 := rfl
theorem ig_178_16 {ι : zi} : zg ι 178 ((16 : Nat) : Int) = zI (ι 178 16) := rfl
theorem iu_178_16 {ι : zi} {v : Int} : zup (zg ι) 178 ((16 : Nat) : Int) (zI v) = zg (iup ι 178 16 v) := zg_up rfl (by decide)
theorem ag_179 {ι : zi} {x : Int} : zg ι 179 x = zI (ι 179 x) := zg_arr rfl
theorem au_179 {ι : zi} {x v : Int} : zup (zg ι) 179 x (zI v) = zg (iup ι 179 x v) := zg_arr_up rfl
theorem ag_180 {ι : zi} {x : Int} : zg ι 180 x = zI (ι 180 x) := zg_arr rfl
theorem au_180 {ι : zi} {x v : Int} : zup (zg ι) 180 x (zI v) = zg (iup ι 180 x v) := zg_arr_up rfl
theorem ag_181 {ι : zi} {x : Int} : zg ι 181 x = zI (ι 181 x) := zg_arr rfl
theorem au_181 {ι : zi} {x v : Int} : zup (zg ι) 181 x (zI v) = zg (iup ι 181 x v) := zg_arr_up rfl
theorem ag_182 {ι : zi} {x : Int} : zg ι 182 x = zI (ι 182 x) := zg_arr rfl
theorem au_182 {ι : zi} {x v : Int} : zup (zg ι) 182 x (zI v) = zg (iup ι 182 x v) := zg_arr_up rfl
theorem ag_183 {ι : zi} {x : Int} : zg ι 183 x = zI (ι 183 x) := zg_arr rfl
theorem au_183 {ι : zi} {x v : Int} : zup (zg ι) 183 x (zI v) = zg (iup ι 183 x v) := zg_arr_up rfl
theorem ag_184 {ι : zi} {x : Int} : zg ι 184 x = zI (ι 184 x) := zg_arr rfl
theorem au_184 {ι : zi} {x v : Int} : zup (zg ι) 184 x (zI v) = zg (iup ι 184 x v) := zg_arr_up rfl
theorem ag_185 {ι : zi} {x : Int} : zg ι 185 x = zI (ι 185 x) := zg_arr rfl
theorem au_185 {ι : zi} {x v : Int} : zup (zg ι) 185 x (zI v) = zg (iup ι 185 x v) := zg_arr_up rfl
theorem ag_186 {ι : zi} {x : Int} : zg ι 186 x = zI (ι 186 x) := rfl
theorem au_186 {ι : zi} {x v : Int} : zup (zg ι) 186 x (zI v) = zg (iup ι 186 x v) := zg_brr_up rfl
theorem ag_187 {ι : zi} {x : Int} : zg ι 187 x = zI (ι 187 x) := zg_arr rfl
theorem au_187 {ι : zi} {x v : Int} : zup (zg ι) 187 x (zI v) = zg (iup ι 187 x v) := zg_arr_up rfl
theorem ag_0 {ι : zi} {x : Int} : zg ι 0 x = zI (ι 0 x) := rfl
theorem ag_5 {ι : zi} {x : Int} : zg ι 5 x = zI (ι 5 x) := rfl
theorem ag_10 {ι : zi} {x : Int} : zg ι 10 x = zR (11 + x.toNat) := rfl
theorem ag_44 {ι : zi} {x : Int} : zg ι 44 x = zR (45 + 5 * x.toNat) := rfl
/-- the numbers at which a town stands -/
def zTw (a : Nat) : Prop := a = 23 ∨ a = 28 ∨ a = 33 ∨ a = 38 ∨ a = 166 ∨ ∃ i, i < 24 ∧ a = 45 + 5 * i
theorem tt_23 : zTw 23 := by unfold zTw; omega
theorem tt_28 : zTw 28 := by unfold zTw; omega
theorem tt_33 : zTw 33 := by unfold zTw; omega
theorem tt_38 : zTw 38 := by unfold zTw; omega
theorem tt_166 : zTw 166 := by unfold zTw; omega
theorem zTw.sl {a : Nat} (h : zTw a) : zSl.getD a (0, 0) = (15, 10) ∧ zSl.getD (a + 1) (0, 0) = (1, 8) ∧ zSl.getD (a + 2) (0, 0) = (1, 8) ∧ zSl.getD (a + 3) (0, 0) = (1, 8) ∧ zSl.getD (a + 4) (0, 0) = (1, 8) ∧ 8 ≤ a ∧ a + 5 ≤ 188 := by
  have key : ∀ i, i < 24 → zSl.getD (45 + 5 * i) (0, 0) = (15, 10) ∧ zSl.getD (45 + 5 * i + 1) (0, 0) = (1, 8) ∧ zSl.getD (45 + 5 * i + 2) (0, 0) = (1, 8) ∧ zSl.getD (45 + 5 * i + 3) (0, 0) = (1, 8) ∧ zSl.getD (45 + 5 * i + 4) (0, 0) = (1, 8) := by decide +kernel
  rcases h with rfl | rfl | rfl | rfl | rfl | ⟨i, hi, rfl⟩
  · decide
  · decide
  · decide
  · decide
  · decide
  · obtain ⟨h1, h2, h3, h4, h5⟩ := key i hi
    exact ⟨h1, h2, h3, h4, h5, by omega, by omega⟩
theorem zTw.s0 {a : Nat} (h : zTw a) : zsh (zc D ad L z) a = (15, 10) := by
  show zS L a = _
  rw [zS, if_neg (by have := h.sl.2.2.2.2.2.1; omega)]; exact h.sl.1
theorem zTw.s1 {a : Nat} (h : zTw a) : zsh (zc D ad L z) (a + 1) = (1, 8) := by
  show zS L (a + 1) = _
  rw [zS, if_neg (by omega)]; exact h.sl.2.1
theorem zTw.ag1 {ι : zi} {a : Nat} (h : zTw a) {x : Int} : zg ι (a + 1) x = zI (ι (a + 1) x) := zg_arr h.sl.2.1
theorem zTw.au1 {ι : zi} {a : Nat} (h : zTw a) {x v : Int} : zup (zg ι) (a + 1) x (zI v) = zg (iup ι (a + 1) x v) := zg_arr_up h.sl.2.1
theorem zTw.s2 {a : Nat} (h : zTw a) : zsh (zc D ad L z) (a + 2) = (1, 8) := by
  show zS L (a + 2) = _
  rw [zS, if_neg (by omega)]; exact h.sl.2.2.1
theorem zTw.ag2 {ι : zi} {a : Nat} (h : zTw a) {x : Int} : zg ι (a + 2) x = zI (ι (a + 2) x) := zg_arr h.sl.2.2.1
theorem zTw.au2 {ι : zi} {a : Nat} (h : zTw a) {x v : Int} : zup (zg ι) (a + 2) x (zI v) = zg (iup ι (a + 2) x v) := zg_arr_up h.sl.2.2.1
theorem zTw.s3 {a : Nat} (h : zTw a) : zsh (zc D ad L z) (a + 3) = (1, 8) := by
  show zS L (a + 3) = _
  rw [zS, if_neg (by omega)]; exact h.sl.2.2.2.1
theorem zTw.ag3 {ι : zi} {a : Nat} (h : zTw a) {x : Int} : zg ι (a + 3) x = zI (ι (a + 3) x) := zg_arr h.sl.2.2.2.1
theorem zTw.au3 {ι : zi} {a : Nat} (h : zTw a) {x v : Int} : zup (zg ι) (a + 3) x (zI v) = zg (iup ι (a + 3) x v) := zg_arr_up h.sl.2.2.2.1
theorem zTw.s4 {a : Nat} (h : zTw a) : zsh (zc D ad L z) (a + 4) = (1, 8) := by
  show zS L (a + 4) = _
  rw [zS, if_neg (by omega)]; exact h.sl.2.2.2.2.1
theorem zTw.ag4 {ι : zi} {a : Nat} (h : zTw a) {x : Int} : zg ι (a + 4) x = zI (ι (a + 4) x) := zg_arr h.sl.2.2.2.2.1
theorem zTw.au4 {ι : zi} {a : Nat} (h : zTw a) {x v : Int} : zup (zg ι) (a + 4) x (zI v) = zg (iup ι (a + 4) x v) := zg_arr_up h.sl.2.2.2.2.1
theorem zTw.lo {a : Nat} (h : zTw a) : 8 ≤ a := h.sl.2.2.2.2.2.1
theorem zTw.hi {a : Nat} (h : zTw a) : a + 5 ≤ 188 := h.sl.2.2.2.2.2.2
theorem zTw.rg0 {ι : zi} {a : Nat} (h : zTw a) : zg ι a ((0 : Nat) : Int) = zR (a + 1) := by
  unfold zg zrl; rw [h.sl.1]; rfl
theorem zTw.rg1 {ι : zi} {a : Nat} (h : zTw a) : zg ι a ((1 : Nat) : Int) = zR (a + 2) := by
  unfold zg zrl; rw [h.sl.1]; rfl
theorem zTw.rg2 {ι : zi} {a : Nat} (h : zTw a) : zg ι a ((2 : Nat) : Int) = zR (a + 3) := by
  unfold zg zrl; rw [h.sl.1]; rfl
theorem zTw.rg3 {ι : zi} {a : Nat} (h : zTw a) : zg ι a ((3 : Nat) : Int) = zR (a + 4) := by
  unfold zg zrl; rw [h.sl.1]; rfl
theorem zTw.ig4 {ι : zi} {a : Nat} (h : zTw a) : zg ι a ((4 : Nat) : Int) = zI (ι a 4) := by
  unfold zg zrl; rw [h.sl.1]; rfl
theorem zTw.iu4 {ι : zi} {a : Nat} (h : zTw a) {v : Int} : zup (zg ι) a ((4 : Nat) : Int) (zI v) = zg (iup ι a 4 v) := zg_up (by unfold zrl; rw [h.sl.1]; rfl) (by rw [h.sl.1]; decide)
theorem zTw.ig5 {ι : zi} {a : Nat} (h : zTw a) : zg ι a ((5 : Nat) : Int) = zI (ι a 5) := by
  unfold zg zrl; rw [h.sl.1]; rfl
theorem zTw.iu5 {ι : zi} {a : Nat} (h : zTw a) {v : Int} : zup (zg ι) a ((5 : Nat) : Int) (zI v) = zg (iup ι a 5 v) := zg_up (by unfold zrl; rw [h.sl.1]; rfl) (by rw [h.sl.1]; decide)
theorem zTw.ig6 {ι : zi} {a : Nat} (h : zTw a) : zg ι a ((6 : Nat) : Int) = zI (ι a 6) := by
  unfold zg zrl; rw [h.sl.1]; rfl
theorem zTw.iu6 {ι : zi} {a : Nat} (h : zTw a) {v : Int} : zup (zg ι) a ((6 : Nat) : Int) (zI v) = zg (iup ι a 6 v) := zg_up (by unfold zrl; rw [h.sl.1]; rfl) (by rw [h.sl.1]; decide)
theorem zTw.ig7 {ι : zi} {a : Nat} (h : zTw a) : zg ι a ((7 : Nat) : Int) = zI (ι a 7) := by
  unfold zg zrl; rw [h.sl.1]; rfl
theorem zTw.iu7 {ι : zi} {a : Nat} (h : zTw a) {v : Int} : zup (zg ι) a ((7 : Nat) : Int) (zI v) = zg (iup ι a 7 v) := zg_up (by unfold zrl; rw [h.sl.1]; rfl) (by rw [h.sl.1]; decide)
theorem zTw.ig8 {ι : zi} {a : Nat} (h : zTw a) : zg ι a ((8 : Nat) : Int) = zI (ι a 8) := by
  unfold zg zrl; rw [h.sl.1]; rfl
theorem zTw.iu8 {ι : zi} {a : Nat} (h : zTw a) {v : Int} : zup (zg ι) a ((8 : Nat) : Int) (zI v) = zg (iup ι a 8 v) := zg_up (by unfold zrl; rw [h.sl.1]; rfl) (by rw [h.sl.1]; decide)
theorem zTw.ig9 {ι : zi} {a : Nat} (h : zTw a) : zg ι a ((9 : Nat) : Int) = zI (ι a 9) := by
  unfold zg zrl; rw [h.sl.1]; rfl
theorem zTw.iu9 {ι : zi} {a : Nat} (h : zTw a) {v : Int} : zup (zg ι) a ((9 : Nat) : Int) (zI v) = zg (iup ι a 9 v) := zg_up (by unfold zrl; rw [h.sl.1]; rfl) (by rw [h.sl.1]; decide)
/-! the judgements over int memories -/
abbrev zGi (l : Launch) (C : zC) (M : zMt) (d pc : Nat) (ls : List (Option zV)) (st : List zV) (ι : zi) (Q : Option zV → zi → Prop) : Prop := zGo l C M d 0 0 pc ls st 180 (zg ι) (fun v n σ => ∃ ι' : zi, n = 180 ∧ σ = zg ι' ∧ Q v ι')
abbrev zCi (l : Launch) (C : zC) (M : zMt) (d : Nat) (as : List zV) (ι : zi) (Q : Option zV → zi → Prop) : Prop := zCt l C M d 0 0 as 180 (zg ι) (fun v n σ => ∃ ι' : zi, n = 180 ∧ σ = zg ι' ∧ Q v ι')
abbrev zP (r : zV) (ι : zi) : Option zV → zi → Prop := fun v ι' => v = some r ∧ ι' = ι
section
variable {l : Launch} {C : zC} {M M' : zMt} {d d' pc np i : Nat} {ls : List (Option zV)} {st st' as : List zV} {ι : zi} {Q Q' : Option zV → zi → Prop}
theorem i_callS  (hm : zMS M' np) (hw : Cond.methodLink M.1.cls i M'.1 ∈ ztb) (hc : zCi l C M' d' as ι Q') (hd : d' + 1 ≤ d) (hst : st = as.reverse ++ st') (hcat : (st'.map zct).sum ≤ 8) (hn : as.length = np) (hdg : decode M.2.1 pc = .ok (.invokestatic i, 3)) (kk : ∀ (v : Option zV) (ι' : zi), Q' v ι' → zGi l C M d (pc + 3) ls (v.toList ++ st') ι' Q) : zGi l C M d pc ls st ι Q :=
  g_callS hm hw hc hd hst hcat hn rfl rfl hdg (fun v n' σ' ⟨ι', h1, h2, h3⟩ => by subst h1; subst h2; exact kk v ι' h3)
theorem i_callSp  {r : zV} (hm : zMS M' np) (hw : Cond.methodLink M.1.cls i M'.1 ∈ ztb) (hc : zCi l C M' d' as ι (zP r ι)) (hd : d' + 1 ≤ d) (hst : st = as.reverse ++ st') (hcat : (st'.map zct).sum ≤ 8) (hn : as.length = np) (hdg : decode M.2.1 pc = .ok (.invokestatic i, 3)) (kk : zGi l C M d (pc + 3) ls (r :: st') ι Q) : zGi l C M d pc ls st ι Q :=
  i_callS hm hw hc hd hst hcat hn hdg (fun v ι' h => by obtain ⟨rfl, rfl⟩ := h; exact kk)
theorem i_callV {b ci : Nat} (hm : zMV M' np) (hw : Cond.methodLink M.1.cls i M'.1 ∈ ztb) (hk : (zsh C b).1 = 10 + ci) (hcl : (vwCl[ci]?).map (fun r => r.1) = some M'.1.cls) (hb8 : b < 188) (hc : zCi l C M' d' (zR b :: as) ι Q') (hd : d' + 1 ≤ d) (hst : st = as.reverse ++ zR b :: st') (hcat : (st'.map zct).sum ≤ 8) (hn : as.length = np) (hdg : decode M.2.1 pc = .ok (.invokevirtual i, 3)) (kk : ∀ (v : Option zV) (ι' : zi), Q' v ι' → zGi l C M d (pc + 3) ls (v.toList ++ st') ι' Q) : zGi l C M d pc ls st ι Q :=
  g_callV hm hw hk hcl hb8 hc hd hst hcat hn rfl rfl hdg (fun v n' σ' ⟨ι', h1, h2, h3⟩ => by subst h1; subst h2; exact kk v ι' h3)
theorem i_callVp {b ci : Nat} {r : zV} (hm : zMV M' np) (hw : Cond.methodLink M.1.cls i M'.1 ∈ ztb) (hk : (zsh C b).1 = 10 + ci) (hcl : (vwCl[ci]?).map (fun r => r.1) = some M'.1.cls) (hb8 : b < 188) (hc : zCi l C M' d' (zR b :: as) ι (zP r ι)) (hd : d' + 1 ≤ d) (hst : st = as.reverse ++ zR b :: st') (hcat : (st'.map zct).sum ≤ 8) (hn : as.length = np) (hdg : decode M.2.1 pc = .ok (.invokevirtual i, 3)) (kk : zGi l C M d (pc + 3) ls (r :: st') ι Q) : zGi l C M d pc ls st ι Q :=
  i_callV hm hw hk hcl hb8 hc hd hst hcat hn hdg (fun v ι' h => by obtain ⟨rfl, rfl⟩ := h; exact kk)
theorem i_callT  (hm : zMV M' np) (hcls : M'.1.cls = "java/lang/String") (hw : Cond.methodLink M.1.cls i M'.1 ∈ ztb) (hc : zCi l C M' d' (zR 4 :: as) ι Q') (hd : d' + 1 ≤ d) (hst : st = as.reverse ++ zR 4 :: st') (hcat : (st'.map zct).sum ≤ 8) (hn : as.length = np) (hdg : decode M.2.1 pc = .ok (.invokevirtual i, 3)) (kk : ∀ (v : Option zV) (ι' : zi), Q' v ι' → zGi l C M d (pc + 3) ls (v.toList ++ st') ι' Q) : zGi l C M d pc ls st ι Q :=
  g_callT hm hcls hw hc hd hst hcat hn rfl rfl hdg (fun v n' σ' ⟨ι', h1, h2, h3⟩ => by subst h1; subst h2; exact kk v ι' h3)
theorem i_callTp  {r : zV} (hm : zMV M' np) (hcls : M'.1.cls = "java/lang/String") (hw : Cond.methodLink M.1.cls i M'.1 ∈ ztb) (hc : zCi l C M' d' (zR 4 :: as) ι (zP r ι)) (hd : d' + 1 ≤ d) (hst : st = as.reverse ++ zR 4 :: st') (hcat : (st'.map zct).sum ≤ 8) (hn : as.length = np) (hdg : decode M.2.1 pc = .ok (.invokevirtual i, 3)) (kk : zGi l C M d (pc + 3) ls (r :: st') ι Q) : zGi l C M d pc ls st ι Q :=
  i_callT hm hcls hw hc hd hst hcat hn hdg (fun v ι' h => by obtain ⟨rfl, rfl⟩ := h; exact kk)
theorem i_put {a ci k : Nat} {v : Int} {ι1 : zi} (hf : zFldW M.1.cls i ci k false .int) (hc1 : ∀ r, vwCl[ci]? = some r → zClsOk r) (hk : (zsh C a).1 = 10 + ci) (ha : a < 188) (h8 : 8 ≤ a) (hu : zup (zg ι) a (k : Int) (zI v) = zg ι1) (hdg : decode M.2.1 pc = .ok (.putfield i, 3)) (kk : zGi l C M d (pc + 3) ls st ι1 Q) : zGi l C M d pc ls (zI v :: zR a :: st) ι Q :=
  g_put hf hc1 hk ha h8 rfl rfl hdg (by rw [hu]; exact kk)
theorem i_iast {a N : Nat} {x y : Int} {ι1 : zi} (hk : zsh C a = (1, N)) (ha : a < 188) (h8 : 8 ≤ a) (h0 : 0 ≤ x) (h1 : x < N) (hN : N < 2147483648) (hu : zup (zg ι) a x (zI y) = zg ι1) (hdg : decode M.2.1 pc = .ok (.iastore, 1)) (kk : zGi l C M d (pc + 1) ls st ι1 Q) : zGi l C M d pc ls (zI y :: zI x :: zR a :: st) ι Q :=
  g_iast hk ha h8 h0 h1 hN hdg (by rw [hu]; exact kk)
theorem i_zast {a N : Nat} {x y : Int} {ι1 : zi} (hy : y = 0 ∨ y = 1) (hk : zsh C a = (2, N)) (ha : a < 188) (h8 : 8 ≤ a) (h0 : 0 ≤ x) (h1 : x < N) (hN : N < 2147483648) (hu : zup (zg ι) a x (zI y) = zg ι1) (hdg : decode M.2.1 pc = .ok (.bastore, 1)) (kk : zGi l C M d (pc + 1) ls st ι1 Q) : zGi l C M d pc ls (zI y :: zI x :: zR a :: st) ι Q :=
  g_zast hy hk ha h8 h0 h1 hN hdg (by rw [hu]; exact kk)
theorem i_ret (hr : M.2.2.2 = none) (hdg : decode M.2.1 pc = .ok (.return_, 1)) (hq : Q none ι) : zGi l C M d pc ls [] ι Q := g_ret hr hdg ⟨ι, rfl, rfl, hq⟩
theorem i_iret {x : Int} (hr : M.2.2.2 = some .int) (hdg : decode M.2.1 pc = .ok (.ireturn, 1)) (hq : Q (some (zI x)) ι) : zGi l C M d pc ls [zI x] ι Q := g_iret hr hdg ⟨ι, rfl, rfl, hq⟩
theorem i_zret {x : Int} (hr : M.2.2.2 = some .boolean) (hx : x = 0 ∨ x = 1) (hdg : decode M.2.1 pc = .ok (.ireturn, 1)) (hq : Q (some (zI x)) ι) : zGi l C M d pc ls [zI x] ι Q := g_zret hr hx hdg ⟨ι, rfl, rfl, hq⟩
theorem i_bret (hr : M.2.2.2 = some .byte) (hdg : decode M.2.1 pc = .ok (.ireturn, 1)) (hq : Q (some (zI 0)) ι) : zGi l C M d pc ls [zI 0] ι Q := g_bret hr hdg ⟨ι, rfl, rfl, hq⟩
theorem i_aret {a : Nat} {nm : String} (hr : M.2.2.2 = some (.object nm)) (hdg : decode M.2.1 pc = .ok (.areturn, 1)) (hq : Q (some (zR a)) ι) : zGi l C M d pc ls [zR a] ι Q := g_aret hr hdg ⟨ι, rfl, rfl, hq⟩
/-- memories that agree where there is something -/
theorem zHp.conv {n : Nat} {σ σ' : zM} {U : State} {H : Heap} (h : zHp C U n σ H) (hs : ∀ a x, a < 8 + n → 0 ≤ x → x < ((zsh C a).2 : Int) → σ' a x = σ a x) (h17 : ∀ a, a < 8 + n → 10 ≤ (zsh C a).1 → ∀ r, vwCl[(zsh C a).1 - 10]? = some r → r.2.2 ≤ (zsh C a).2) : zHp C U n σ' H := by
  refine ⟨h.1, h.2.1, fun a ha => ⟨fun q1 q2 => ?_, fun q => ?_⟩⟩
  · obtain ⟨ce, e1, e2, e3, e4, e5⟩ := (h.2.2 a ha).1 q1 q2
    exact ⟨ce, e1, e2, e3, e4, fun j hj => by rw [e5 j hj, hs a j ha (by omega) (by omega)]⟩
  · obtain ⟨r, hr, h2⟩ := (h.2.2 a ha).2 q
    have hle := h17 a ha q r hr
    exact ⟨r, hr, h2.to (fun k hk => by rw [hs a k ha (by omega) (by omega)])⟩
end
theorem zc_fit : ∀ a, a < 188 → 10 ≤ (zsh (zc D ad L z) a).1 → ∀ r, vwCl[(zsh (zc D ad L z) a).1 - 10]? = some r → r.2.2 ≤ (zsh (zc D ad L z) a).2 := by
  intro a ha h r hr
  by_cases h0 : a = 0
  · subst h0; exact absurd h (by show ¬ 10 ≤ 1; decide)
  · have e : zsh (zc D ad L z) a = zSl.getD a (0, 0) := if_neg h0
    rw [e] at h hr ⊢
    have key : ∀ a, a < 188 → 10 ≤ (zSl.getD a (0, 0)).1 → (vwCl.map (fun r => r.2.2))[(zSl.getD a (0, 0)).1 - 10]? = some (zSl.getD a (0, 0)).2 := by decide +kernel
    have h1 := key a ha h
    rw [List.getElem?_map, hr] at h1
    exact Nat.le_of_eq (Option.some.inj h1)
theorem i_conv {l : Launch} {M : zMt} {d pc : Nat} {ls : List (Option zV)} {st : List zV} {ι ι1 : zi} {Q : Option zV → zi → Prop} (hs : ∀ a x, a < 188 → 0 ≤ x → x < ((zS L a).2 : Int) → ι1 a x = ι a x) (kk : zGi l (zc D ad L z) M d pc ls st ι1 Q) : zGi l (zc D ad L z) M d pc ls st ι Q := by
  intro p e R MC MS s m args below meth c Z F E H locs cells slots la hH hL hc hs2 hl
  refine kk p e R MC MS s m args below meth c Z F E H locs cells slots la (hH.conv (fun a x ha h0 h1 => ?_) zc_fit) hL hc hs2 hl
  have := hs a x ha h0 h1
  simp only [zg]
  rw [this]
end
