section
/-! the reference's rows: 38 numbers of its long row from r on -/
def wb (r : Int) (ι : zi) : zr := fun i => if i < 0 then 0 else if i < 38 then ι 179 (r + i) else 0
def wp (r : Int) (R : zr) (ι : zi) : zi := fun b x => if b = 179 ∧ r ≤ x ∧ x < r + 38 then R (x - r) else ι b x
theorem wb_i (r : Int) (ι : zi) {i : Int} (h0 : 0 ≤ i) (h1 : i < 38) : wb r ι i = ι 179 (r + i) := by unfold wb; rw [if_neg (by omega), if_pos h1]
theorem wb_tz (r : Int) (ι : zi) : tz (wb r ι) := fun i h => by
  unfold wb
  rcases h with h | h
  · rw [if_pos h]
  · rw [if_neg (by omega), if_neg (by omega)]
theorem wp_i (r : Int) (R : zr) (ι : zi) {i : Int} (h0 : 0 ≤ i) (h1 : i < 38) : wp r R ι 179 (r + i) = R i := by unfold wp; rw [if_pos ⟨rfl, by omega, by omega⟩]; congr 1; omega
theorem wp_x (r : Int) (R : zr) (ι : zi) {x : Int} (h0 : r ≤ x) (h1 : x < r + 38) : wp r R ι 179 x = R (x - r) := by unfold wp; rw [if_pos ⟨rfl, h0, h1⟩]
theorem wp_o (r : Int) (R : zr) (ι : zi) {b : Nat} {x : Int} (h : b ≠ 179 ∨ x < r ∨ r + 38 ≤ x) : wp r R ι b x = ι b x := if_neg (by omega)
theorem wb_wp (r : Int) {R : zr} (hz : tz R) (ι : zi) : wb r (wp r R ι) = R := by
  funext i
  by_cases h : 0 ≤ i ∧ i < 38
  · rw [wb_i r _ h.1 h.2, wp_i r R ι h.1 h.2]
  · rw [wb_tz r _ i (by omega), hz i (by omega)]
theorem wb_wpo {r r' : Int} (h : r' + 38 ≤ r ∨ r + 38 ≤ r') (R : zr) (ι : zi) : wb r' (wp r R ι) = wb r' ι := by
  funext i
  by_cases g : 0 ≤ i ∧ i < 38
  · rw [wb_i r' _ g.1 g.2, wb_i r' _ g.1 g.2, wp_o r R ι (by omega)]
  · rw [wb_tz r' _ i (by omega), wb_tz r' _ i (by omega)]
theorem wp_wb (r : Int) (ι : zi) : wp r (wb r ι) ι = ι := by
  funext b x
  unfold wp
  split
  · rename_i h; rw [wb_i r ι (by omega) (by omega), h.1]; congr 1; omega
  · rfl
theorem wp_wp (r : Int) (R R' : zr) (ι : zi) : wp r R (wp r R' ι) = wp r R ι := by
  funext b x
  unfold wp
  split <;> rfl
theorem wp_up (r : Int) (R : zr) (ι : zi) {x i v : Int} (hx : x = r + i) (h0 : 0 ≤ i) (h1 : i < 38) : iup (wp r R ι) 179 x v = wp r (ru R i v) ι := by
  funext b y
  unfold iup wp ru
  (repeat' split) <;> first | rfl | (exfalso; omega)
theorem wb_up {ι : zi} {a : Nat} {x v r : Int} (h : a ≠ 179 ∨ x < r ∨ r + 38 ≤ x) : wb r (iup ι a x v) = wb r ι := by
  funext i
  by_cases g : 0 ≤ i ∧ i < 38
  · rw [wb_i r _ g.1 g.2, wb_i r _ g.1 g.2, iup_n _ (by omega)]
  · rw [wb_tz r _ i (by omega), wb_tz r _ i (by omega)]
theorem icpy_wp {ι : zi} {f t : Int} : icpy ι 179 179 f t 38 = wp t (wb f ι) ι := by
  funext b x
  unfold icpy wp
  split
  · rename_i h
    rw [wb_i f ι (by omega) (by omega)]
  · rfl
theorem icpy_0 (ι : zi) (a b : Nat) (f t : Int) : icpy ι a b f t 0 = ι := by
  funext c x
  unfold icpy
  rw [if_neg (by omega)]
theorem icpy_s {ι : zi} {a b : Nat} {f t i : Int} (h0 : 0 ≤ i) (hd : a ≠ b ∨ f + i < t ∨ t + i ≤ f + i) : iup (icpy ι a b f t i) b (t + i) (icpy ι a b f t i a (f + i)) = icpy ι a b f t (i + 1) := by
  have e : icpy ι a b f t i a (f + i) = ι a (f + i) := icpy_n _ (by omega)
  rw [e]
  funext c x
  unfold iup icpy
  by_cases h1 : c = b ∧ x = t + i
  · rw [if_pos h1, if_pos (by omega)]; congr 1; omega
  · rw [if_neg h1]
    split
    · rename_i h2; rw [if_pos (by omega)]
    · rename_i h2; rw [if_neg (by omega)]
/-- the streets of an hour, robbed not yet told -/
def paM (R : zr) (i : Int) : zr := fun j =>
  if 14 ≤ j ∧ j < 14 + i then zdeep (R (j - 8)) (R j) (zhr R (j - 14)) (R 4)
  else if 22 ≤ j ∧ j < 22 + i then R j - zstR R (j - 22)
  else R j
theorem paM_0 (R : zr) : paM R 0 = R := by
  funext j
  unfold paM
  rw [if_neg (by omega), if_neg (by omega)]
theorem paM_o {R : zr} {i j : Int} (h1 : ¬ (14 ≤ j ∧ j < 14 + i)) (h2 : ¬ (22 ≤ j ∧ j < 22 + i)) : paM R i j = R j := by
  unfold paM
  rw [if_neg h1, if_neg h2]
theorem paM_s {R : zr} {i : Int} (h0 : 0 ≤ i) (h1 : i < 8) : ru (ru (paM R i) (22 + i) (R (22 + i) - zstR R i)) (14 + i) (zdeep (R (6 + i)) (R (14 + i)) (zhr R i) (R 4)) = paM R (i + 1) := by
  funext j
  by_cases hj : j = 14 + i
  · subst hj
    rw [ru_s]
    unfold paM
    rw [if_pos (by omega), show 14 + i - 8 = 6 + i by omega, show 14 + i - 14 = i by omega]
  rw [ru_n _ hj]
  by_cases hj2 : j = 22 + i
  · subst hj2
    rw [ru_s]
    unfold paM
    rw [if_neg (by omega), if_pos (by omega), show 22 + i - 22 = i by omega]
  rw [ru_n _ hj2]
  unfold paM
  by_cases g1 : 14 ≤ j ∧ j < 14 + i
  · rw [if_pos g1, if_pos (by omega)]
  rw [if_neg g1, if_neg (show ¬ (14 ≤ j ∧ j < 14 + (i + 1)) by omega)]
  by_cases g2 : 22 ≤ j ∧ j < 22 + i
  · rw [if_pos g2, if_pos (by omega)]
  rw [if_neg g2, if_neg (show ¬ (22 ≤ j ∧ j < 22 + (i + 1)) by omega)]
theorem paM_e (R : zr) : ru (ru (paM R (R 0)) 5 (zmin (R 5 + zsum (zstR R) (R 0)) 99999)) 4 (R 4 + 1) = passR R := by
  funext j
  unfold passR
  by_cases h4 : j = 4
  · rw [h4, ru_s, ru_s]
  rw [ru_n _ h4, ru_n _ h4]
  by_cases h5 : j = 5
  · rw [h5, ru_s]
    unfold paR
    rw [if_neg (by omega), if_neg (by omega), if_pos rfl]
  rw [ru_n _ h5]
  unfold paM paR
  rw [if_neg h5]
theorem zcmp_lt {x y : Int} : zcmp x y < 0 ↔ x < y := by
  unfold zcmp
  repeat' split
  all_goals omega
theorem zcmp_gt {x y : Int} : 0 < zcmp x y ↔ y < x := by
  unfold zcmp
  repeat' split
  all_goals omega
theorem zcmp_le {x y : Int} : zcmp x y ≤ 0 ↔ x ≤ y := by
  unfold zcmp
  repeat' split
  all_goals omega
theorem zcmp_eq0 {x y : Int} : zcmp x y = 0 ↔ x = y := by
  unfold zcmp
  repeat' split
  all_goals omega
theorem zcmp_b (x y : Int) : zB (zcmp x y) := by
  unfold zcmp
  repeat' split
  all_goals decide
end
