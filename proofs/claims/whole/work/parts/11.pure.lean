section
/-! a town as a row of 38 numbers: 0 streets, 1 beats, 2 reach, 3 thieves, 4 hour, 5 robbed, 6.. kinds, 14.. deep, 22.. loot, 30.. round -/
abbrev zr : Type := Int → Int
def tb (a : Nat) (ι : zi) : zr := fun i => if i < 0 then 0 else if i < 6 then ι a (i + 4) else if i < 14 then ι (a + 1) (i - 6) else if i < 22 then ι (a + 2) (i - 14) else if i < 30 then ι (a + 3) (i - 22) else if i < 38 then ι (a + 4) (i - 30) else 0
def tp (a : Nat) (R : zr) (ι : zi) : zi := fun b x => if b = a ∧ 4 ≤ x ∧ x < 10 then R (x - 4) else if b = a + 1 ∧ 0 ≤ x ∧ x < 8 then R (6 + x) else if b = a + 2 ∧ 0 ≤ x ∧ x < 8 then R (14 + x) else if b = a + 3 ∧ 0 ≤ x ∧ x < 8 then R (22 + x) else if b = a + 4 ∧ 0 ≤ x ∧ x < 8 then R (30 + x) else ι b x
def tz (R : zr) : Prop := ∀ i, i < 0 ∨ 38 ≤ i → R i = 0
theorem tb_tz (a : Nat) (ι : zi) : tz (tb a ι) := fun i h => by
  unfold tb
  rcases h with h | h
  · rw [if_pos h]
  · rw [if_neg (by omega), if_neg (by omega), if_neg (by omega), if_neg (by omega), if_neg (by omega), if_neg (by omega)]
theorem tb_s (a : Nat) (ι : zi) {i : Int} (h0 : 0 ≤ i) (h1 : i < 6) : tb a ι i = ι a (i + 4) := by unfold tb; rw [if_neg (by omega), if_pos h1]
theorem tb_k (a : Nat) (ι : zi) {k : Int} (h0 : 0 ≤ k) (h1 : k < 8) : tb a ι (6 + k) = ι (a + 1) k := by
  unfold tb; rw [if_neg (by omega), if_neg (by omega), if_pos (by omega)]; congr 1; omega
theorem tb_d (a : Nat) (ι : zi) {k : Int} (h0 : 0 ≤ k) (h1 : k < 8) : tb a ι (14 + k) = ι (a + 2) k := by
  unfold tb; rw [if_neg (by omega), if_neg (by omega), if_neg (by omega), if_pos (by omega)]; congr 1; omega
theorem tb_l (a : Nat) (ι : zi) {k : Int} (h0 : 0 ≤ k) (h1 : k < 8) : tb a ι (22 + k) = ι (a + 3) k := by
  unfold tb; rw [if_neg (by omega), if_neg (by omega), if_neg (by omega), if_neg (by omega), if_pos (by omega)]; congr 1; omega
theorem tb_w (a : Nat) (ι : zi) {k : Int} (h0 : 0 ≤ k) (h1 : k < 8) : tb a ι (30 + k) = ι (a + 4) k := by
  unfold tb; rw [if_neg (by omega), if_neg (by omega), if_neg (by omega), if_neg (by omega), if_neg (by omega), if_pos (by omega)]; congr 1; omega
theorem tb_0 (a : Nat) (ι : zi) : tb a ι 0 = ι a 4 := tb_s a ι (by decide) (by decide)
theorem tb_1 (a : Nat) (ι : zi) : tb a ι 1 = ι a 5 := tb_s a ι (by decide) (by decide)
theorem tb_2 (a : Nat) (ι : zi) : tb a ι 2 = ι a 6 := tb_s a ι (by decide) (by decide)
theorem tb_3 (a : Nat) (ι : zi) : tb a ι 3 = ι a 7 := tb_s a ι (by decide) (by decide)
theorem tb_4 (a : Nat) (ι : zi) : tb a ι 4 = ι a 8 := tb_s a ι (by decide) (by decide)
theorem tb_5 (a : Nat) (ι : zi) : tb a ι 5 = ι a 9 := tb_s a ι (by decide) (by decide)
theorem tp_s (a : Nat) (R : zr) (ι : zi) {x : Int} (h0 : 4 ≤ x) (h1 : x < 10) : tp a R ι a x = R (x - 4) := by unfold tp; rw [if_pos ⟨rfl, h0, h1⟩]
theorem tp_k (a : Nat) (R : zr) (ι : zi) {k : Int} (h0 : 0 ≤ k) (h1 : k < 8) : tp a R ι (a + 1) k = R (6 + k) := by unfold tp; rw [if_neg (by omega), if_pos ⟨rfl, h0, h1⟩]
theorem tp_d (a : Nat) (R : zr) (ι : zi) {k : Int} (h0 : 0 ≤ k) (h1 : k < 8) : tp a R ι (a + 2) k = R (14 + k) := by unfold tp; rw [if_neg (by omega), if_neg (by omega), if_pos ⟨rfl, h0, h1⟩]
theorem tp_l (a : Nat) (R : zr) (ι : zi) {k : Int} (h0 : 0 ≤ k) (h1 : k < 8) : tp a R ι (a + 3) k = R (22 + k) := by unfold tp; rw [if_neg (by omega), if_neg (by omega), if_neg (by omega), if_pos ⟨rfl, h0, h1⟩]
theorem tp_w (a : Nat) (R : zr) (ι : zi) {k : Int} (h0 : 0 ≤ k) (h1 : k < 8) : tp a R ι (a + 4) k = R (30 + k) := by unfold tp; rw [if_neg (by omega), if_neg (by omega), if_neg (by omega), if_neg (by omega), if_pos ⟨rfl, h0, h1⟩]
theorem tp_o (a : Nat) (R : zr) (ι : zi) {b : Nat} (h : b < a ∨ a + 5 ≤ b) (x : Int) : tp a R ι b x = ι b x := by unfold tp; rw [if_neg (by omega), if_neg (by omega), if_neg (by omega), if_neg (by omega), if_neg (by omega)]
theorem tb_tp (a : Nat) {R : zr} (hz : tz R) (ι : zi) : tb a (tp a R ι) = R := by
  funext i
  by_cases h0 : i < 0
  · rw [tb_tz a _ i (Or.inl h0), hz i (Or.inl h0)]
  by_cases h1 : i < 6
  · rw [tb_s a _ (by omega) h1, tp_s a R ι (by omega) (by omega)]; congr 1; omega
  by_cases h2 : i < 14
  · rw [show i = 6 + (i - 6) by omega, tb_k a _ (by omega) (by omega), tp_k a R ι (by omega) (by omega)]
  by_cases h3 : i < 22
  · rw [show i = 14 + (i - 14) by omega, tb_d a _ (by omega) (by omega), tp_d a R ι (by omega) (by omega)]
  by_cases h4 : i < 30
  · rw [show i = 22 + (i - 22) by omega, tb_l a _ (by omega) (by omega), tp_l a R ι (by omega) (by omega)]
  by_cases h5 : i < 38
  · rw [show i = 30 + (i - 30) by omega, tb_w a _ (by omega) (by omega), tp_w a R ι (by omega) (by omega)]
  · rw [tb_tz a _ i (Or.inr (by omega)), hz i (Or.inr (by omega))]
theorem tb_tpo {a b : Nat} (h : b + 5 ≤ a ∨ a + 5 ≤ b) (R : zr) (ι : zi) : tb b (tp a R ι) = tb b ι := by
  funext i
  unfold tb
  rw [tp_o a R ι (by omega), tp_o a R ι (by omega), tp_o a R ι (by omega), tp_o a R ι (by omega), tp_o a R ι (by omega)]
theorem tp_tb (a : Nat) (ι : zi) : tp a (tb a ι) ι = ι := by
  funext b x
  unfold tp
  by_cases h : b = a ∧ 4 ≤ x ∧ x < 10
  · rw [if_pos h, tb_s a ι (by omega) (by omega), h.1]; congr 1; omega
  rw [if_neg h]
  by_cases h : b = a + 1 ∧ 0 ≤ x ∧ x < 8
  · rw [if_pos h, tb_k a ι (by omega) (by omega), h.1]
  rw [if_neg h]
  by_cases h : b = a + 2 ∧ 0 ≤ x ∧ x < 8
  · rw [if_pos h, tb_d a ι (by omega) (by omega), h.1]
  rw [if_neg h]
  by_cases h : b = a + 3 ∧ 0 ≤ x ∧ x < 8
  · rw [if_pos h, tb_l a ι (by omega) (by omega), h.1]
  rw [if_neg h]
  by_cases h : b = a + 4 ∧ 0 ≤ x ∧ x < 8
  · rw [if_pos h, tb_w a ι (by omega) (by omega), h.1]
  rw [if_neg h]
theorem tp_tp (a : Nat) (R R' : zr) (ι : zi) : tp a R (tp a R' ι) = tp a R ι := by
  funext b x
  simp only [tp]
  repeat' split
  all_goals first | rfl | (exfalso; omega)
/-- one number of a row becomes another -/
def ru (R : zr) (i v : Int) : zr := fun j => if j = i then v else R j
theorem ru_s (R : zr) (i v : Int) : ru R i v i = v := if_pos rfl
theorem ru_n (R : zr) {i j v : Int} (h : j ≠ i) : ru R i v j = R j := if_neg h
theorem ru_tz {R : zr} (h : tz R) {i v : Int} (h0 : 0 ≤ i) (h1 : i < 38) : tz (ru R i v) := fun j hj => by rw [ru_n R (by omega)]; exact h j hj
theorem iup_s (ι : zi) (a : Nat) (x v : Int) : iup ι a x v a x = v := if_pos ⟨rfl, rfl⟩
theorem iup_n (ι : zi) {a b : Nat} {x y v : Int} (h : b ≠ a ∨ y ≠ x) : iup ι a x v b y = ι b y := if_neg (by rintro ⟨h1, h2⟩; rcases h with h | h; exact h h1; exact h h2)
theorem tp_up_s (a : Nat) (ι : zi) {x v : Int} (h0 : 4 ≤ x) (h1 : x < 10) : iup ι a x v = tp a (ru (tb a ι) (x - 4) v) ι := by
  funext b y
  by_cases h : b = a ∧ y = x
  · obtain ⟨rfl, rfl⟩ := h
    rw [iup_s, tp_s _ _ _ h0 h1, ru_s]
  · rw [iup_n _ (by omega)]
    unfold tp
    split
    · rename_i h2; rw [ru_n _ (by omega), tb_s a ι (by omega) (by omega), h2.1]; congr 1; omega
    split
    · rename_i h2; rw [ru_n _ (by omega), tb_k a ι (by omega) (by omega), h2.1]
    split
    · rename_i h2; rw [ru_n _ (by omega), tb_d a ι (by omega) (by omega), h2.1]
    split
    · rename_i h2; rw [ru_n _ (by omega), tb_l a ι (by omega) (by omega), h2.1]
    split
    · rename_i h2; rw [ru_n _ (by omega), tb_w a ι (by omega) (by omega), h2.1]
    · rfl
theorem tp_up_k (a : Nat) (ι : zi) {x v : Int} (h0 : 0 ≤ x) (h1 : x < 8) : iup ι (a + 1) x v = tp a (ru (tb a ι) (6 + x) v) ι := by
  funext b y
  by_cases h : b = a + 1 ∧ y = x
  · obtain ⟨rfl, rfl⟩ := h
    rw [iup_s, tp_k _ _ _ h0 h1, ru_s]
  · rw [iup_n _ (by omega)]
    unfold tp
    split
    · rename_i h2; rw [ru_n _ (by omega), tb_s a ι (by omega) (by omega), h2.1]; congr 1; omega
    split
    · rename_i h2; rw [ru_n _ (by omega), tb_k a ι (by omega) (by omega), h2.1]
    split
    · rename_i h2; rw [ru_n _ (by omega), tb_d a ι (by omega) (by omega), h2.1]
    split
    · rename_i h2; rw [ru_n _ (by omega), tb_l a ι (by omega) (by omega), h2.1]
    split
    · rename_i h2; rw [ru_n _ (by omega), tb_w a ι (by omega) (by omega), h2.1]
    · rfl
theorem tp_up_d (a : Nat) (ι : zi) {x v : Int} (h0 : 0 ≤ x) (h1 : x < 8) : iup ι (a + 2) x v = tp a (ru (tb a ι) (14 + x) v) ι := by
  funext b y
  by_cases h : b = a + 2 ∧ y = x
  · obtain ⟨rfl, rfl⟩ := h
    rw [iup_s, tp_d _ _ _ h0 h1, ru_s]
  · rw [iup_n _ (by omega)]
    unfold tp
    split
    · rename_i h2; rw [ru_n _ (by omega), tb_s a ι (by omega) (by omega), h2.1]; congr 1; omega
    split
    · rename_i h2; rw [ru_n _ (by omega), tb_k a ι (by omega) (by omega), h2.1]
    split
    · rename_i h2; rw [ru_n _ (by omega), tb_d a ι (by omega) (by omega), h2.1]
    split
    · rename_i h2; rw [ru_n _ (by omega), tb_l a ι (by omega) (by omega), h2.1]
    split
    · rename_i h2; rw [ru_n _ (by omega), tb_w a ι (by omega) (by omega), h2.1]
    · rfl
theorem tp_up_l (a : Nat) (ι : zi) {x v : Int} (h0 : 0 ≤ x) (h1 : x < 8) : iup ι (a + 3) x v = tp a (ru (tb a ι) (22 + x) v) ι := by
  funext b y
  by_cases h : b = a + 3 ∧ y = x
  · obtain ⟨rfl, rfl⟩ := h
    rw [iup_s, tp_l _ _ _ h0 h1, ru_s]
  · rw [iup_n _ (by omega)]
    unfold tp
    split
    · rename_i h2; rw [ru_n _ (by omega), tb_s a ι (by omega) (by omega), h2.1]; congr 1; omega
    split
    · rename_i h2; rw [ru_n _ (by omega), tb_k a ι (by omega) (by omega), h2.1]
    split
    · rename_i h2; rw [ru_n _ (by omega), tb_d a ι (by omega) (by omega), h2.1]
    split
    · rename_i h2; rw [ru_n _ (by omega), tb_l a ι (by omega) (by omega), h2.1]
    split
    · rename_i h2; rw [ru_n _ (by omega), tb_w a ι (by omega) (by omega), h2.1]
    · rfl
theorem tp_up_w (a : Nat) (ι : zi) {x v : Int} (h0 : 0 ≤ x) (h1 : x < 8) : iup ι (a + 4) x v = tp a (ru (tb a ι) (30 + x) v) ι := by
  funext b y
  by_cases h : b = a + 4 ∧ y = x
  · obtain ⟨rfl, rfl⟩ := h
    rw [iup_s, tp_w _ _ _ h0 h1, ru_s]
  · rw [iup_n _ (by omega)]
    unfold tp
    split
    · rename_i h2; rw [ru_n _ (by omega), tb_s a ι (by omega) (by omega), h2.1]; congr 1; omega
    split
    · rename_i h2; rw [ru_n _ (by omega), tb_k a ι (by omega) (by omega), h2.1]
    split
    · rename_i h2; rw [ru_n _ (by omega), tb_d a ι (by omega) (by omega), h2.1]
    split
    · rename_i h2; rw [ru_n _ (by omega), tb_l a ι (by omega) (by omega), h2.1]
    split
    · rename_i h2; rw [ru_n _ (by omega), tb_w a ι (by omega) (by omega), h2.1]
    · rfl
end
