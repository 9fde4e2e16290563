section
/-! loops, sums, the pure hour -/
theorem z_loopI {N i0 : Int} {P : Int → Prop} (h : ∀ i, i0 ≤ i → i ≤ N → (i < N → P (i + 1)) → P i) : ∀ i, i0 ≤ i → i ≤ N → P i := by
  have key : ∀ (k : Nat) (i : Int), i0 ≤ i → i ≤ N → N - i ≤ k → P i := by
    intro k
    induction k with
    | zero => intro i h0 h1 h2; exact h i h0 h1 (fun q => by omega)
    | succ k ih => intro i h0 h1 h2; exact h i h0 h1 (fun q => ih (i + 1) (by omega) (by omega) (by omega))
  intro i h0 h1
  exact key (N - i).toNat i h0 h1 (by omega)
def zsumN (f : Int → Int) : Nat → Int
  | 0 => 0
  | n + 1 => zsumN f n + f n
def zsum (f : Int → Int) (i : Int) : Int := zsumN f i.toNat
theorem zsum_0 (f : Int → Int) : zsum f 0 = 0 := rfl
theorem zsum_s (f : Int → Int) {i : Int} (h : 0 ≤ i) : zsum f (i + 1) = zsum f i + f i := by
  unfold zsum
  rw [show (i + 1).toNat = i.toNat + 1 by omega, zsumN, show ((i.toNat : Nat) : Int) = i by omega]
theorem zsum_b (f : Int → Int) {i M : Int} (h0 : 0 ≤ i) (hf : ∀ k, 0 ≤ k → k < i → 0 ≤ f k ∧ f k ≤ M) : 0 ≤ zsum f i ∧ zsum f i ≤ M * i := by
  have key : ∀ n : Nat, (n : Int) ≤ i → 0 ≤ zsumN f n ∧ zsumN f n ≤ M * n := by
    intro n
    induction n with
    | zero => intro _; simp [zsumN]
    | succ n ih =>
      intro hn
      have h1 := ih (by omega)
      have h2 := hf n (by omega) (by omega)
      simp only [zsumN]
      have e : M * ((n + 1 : Nat) : Int) = M * n + M := by rw [Int.natCast_add, Int.mul_add]; simp
      rw [e]
      omega
  have h := key i.toNat (by omega)
  rw [show ((i.toNat : Nat) : Int) = i by omega] at h
  exact h
theorem zsum_c {f g : Int → Int} {i : Int} (h : ∀ k, 0 ≤ k → k < i → f k = g k) : zsum f i = zsum g i := by
  have key : ∀ n : Nat, (n : Int) ≤ i → zsumN f n = zsumN g n := by
    intro n
    induction n with
    | zero => intro _; rfl
    | succ n ih =>
      intro hn
      simp only [zsumN]
      rw [ih (by omega), h n (by omega) (by omega)]
  by_cases hi : 0 ≤ i
  · exact key i.toNat (by omega)
  · unfold zsum; rw [show i.toNat = 0 by omega]; rfl
def zawN (f : Int → Int) : Nat → Int
  | 0 => 0
  | n + 1 => zor (zawN f n) (if f n = 0 then zshl 1 n else 0)
def zaw (f : Int → Int) (i : Int) : Int := zawN f i.toNat
theorem zaw_s (f : Int → Int) {i : Int} (h : 0 ≤ i) : zaw f (i + 1) = zor (zaw f i) (if f i = 0 then zshl 1 i else 0) := by
  unfold zaw
  rw [show (i + 1).toNat = i.toNat + 1 by omega, zawN, show ((i.toNat : Nat) : Int) = i by omega]
theorem zaw_c {f g : Int → Int} {i : Int} (h : ∀ k, 0 ≤ k → k < i → f k = g k) : zaw f i = zaw g i := by
  have key : ∀ n : Nat, (n : Int) ≤ i → zawN f n = zawN g n := by
    intro n
    induction n with
    | zero => intro _; rfl
    | succ n ih =>
      intro hn
      simp only [zawN]
      rw [ih (by omega), h n (by omega) (by omega)]
  by_cases hi : 0 ≤ i
  · exact key i.toNat (by omega)
  · unfold zaw; rw [show i.toNat = 0 by omega]; rfl
def zstl (de lo th h : Int) : Int := if de = 0 ∨ h ≠ 0 then 0 else zmin lo th
def zmore (k h hr : Int) : Int := if k = 2 then (if h = 0 then -1 else if hr % 4 = 0 then 4 else 2) else if k = 3 then (if h = 0 then -3 else 2) else if k = 4 then -1 else if k = 5 then (if h = 0 then -20 else -1) else (if h = 0 then -1 else 2)
def zdeep (k de h hr : Int) : Int := zmax 0 (zmin (de + zmore k h hr) 20)
theorem zdeep_b (k de h hr : Int) : 0 ≤ zdeep k de h hr ∧ zdeep k de h hr ≤ 20 := by
  unfold zdeep zmax zmin
  repeat' split
  all_goals omega
theorem zstl_b {de lo th h : Int} (h0 : 0 ≤ lo) (h1 : 0 ≤ th) : 0 ≤ zstl de lo th h ∧ zstl de lo th h ≤ lo ∧ zstl de lo th h ≤ th := by
  unfold zstl zmin
  repeat' split
  all_goals omega
def zhf (s d r : Int) : Int := if zabs (s - d) ≤ r then 1 else 0
def zhr (R : zr) (s : Int) : Int := zhf s (R (30 + R 4 % R 1)) (R 2)
/-- one street in an hour -/
def psR (R : zr) (s h : Int) : zr := ru (ru (ru R (22 + s) (R (22 + s) - zstl (R (14 + s)) (R (22 + s)) (R 3) h)) 5 (zmin (R 5 + zstl (R (14 + s)) (R (22 + s)) (R 3) h) 99999)) (14 + s) (zdeep (R (6 + s)) (R (14 + s)) h (R 4))
def zstR (R : zr) (k : Int) : Int := zstl (R (14 + k)) (R (22 + k)) (R 3) (zhr R k)
/-- the first i streets in an hour -/
def paR (R : zr) (i : Int) : zr := fun j =>
  if 14 ≤ j ∧ j < 14 + i then zdeep (R (j - 8)) (R j) (zhr R (j - 14)) (R 4)
  else if 22 ≤ j ∧ j < 22 + i then R j - zstR R (j - 22)
  else if j = 5 then zmin (R 5 + zsum (zstR R) i) 99999
  else R j
def passR (R : zr) : zr := ru (paR R (R 0)) 4 (R 4 + 1)
def psF (R : zr) (s : Int) : zr := ru (psR R s (zhr R s)) 4 (R 4 + 1)
theorem psR_tz {R : zr} (h : tz R) {s k : Int} (h0 : 0 ≤ s) (h1 : s < 8) : tz (psR R s k) := ru_tz (ru_tz (ru_tz h (by omega) (by omega)) (by omega) (by omega)) (by omega) (by omega)
theorem paR_tz {R : zr} (h : tz R) {i : Int} (h1 : i ≤ 8) : tz (paR R i) := fun j hj => by
  unfold paR
  rw [if_neg (by omega), if_neg (by omega), if_neg (by omega)]
  exact h j hj
theorem paR_0 {R : zr} (h5 : R 5 ≤ 99999) : paR R 0 = R := by
  funext j
  unfold paR
  rw [if_neg (by omega), if_neg (by omega)]
  split
  · rename_i e
    rw [e, zsum_0]
    unfold zmin
    split <;> omega
  · rfl
theorem paR_o {R : zr} {i j : Int} (h1 : ¬ (14 ≤ j ∧ j < 14 + i)) (h2 : ¬ (22 ≤ j ∧ j < 22 + i)) (h3 : j ≠ 5) : paR R i j = R j := by
  unfold paR
  rw [if_neg h1, if_neg h2, if_neg h3]
theorem paR_s {R : zr} {i : Int} (h0 : 0 ≤ i) (h1 : i < 8) (hs : 0 ≤ zstR R i) : psR (paR R i) i (zhr R i) = paR R (i + 1) := by
  have e3 : paR R i 3 = R 3 := paR_o (by omega) (by omega) (by omega)
  have e4 : paR R i 4 = R 4 := paR_o (by omega) (by omega) (by omega)
  have e6 : paR R i (6 + i) = R (6 + i) := paR_o (by omega) (by omega) (by omega)
  have e14 : paR R i (14 + i) = R (14 + i) := paR_o (by omega) (by omega) (by omega)
  have e22 : paR R i (22 + i) = R (22 + i) := paR_o (by omega) (by omega) (by omega)
  have e5 : paR R i 5 = zmin (R 5 + zsum (zstR R) i) 99999 := by unfold paR; rw [if_neg (by omega), if_neg (by omega), if_pos rfl]
  have et : zstl (R (14 + i)) (R (22 + i)) (R 3) (zhr R i) = zstR R i := rfl
  funext j
  unfold psR
  rw [e3, e4, e6, e14, e22, e5, et]
  by_cases hj : j = 14 + i
  · subst hj
    rw [ru_s]
    unfold paR
    rw [if_pos (by omega), show 14 + i - 8 = 6 + i by omega, show 14 + i - 14 = i by omega]
  rw [ru_n _ hj]
  by_cases hj5 : j = 5
  · subst hj5
    rw [ru_s]
    unfold paR
    rw [if_neg (by omega), if_neg (by omega), if_pos rfl, zsum_s _ h0]
    unfold zmin
    repeat' split
    all_goals omega
  rw [ru_n _ hj5]
  by_cases hj2 : j = 22 + i
  · subst hj2
    rw [ru_s]
    unfold paR
    rw [if_neg (by omega), if_pos (by omega), show 22 + i - 22 = i by omega]
  rw [ru_n _ hj2]
  unfold paR
  by_cases g1 : 14 ≤ j ∧ j < 14 + i
  · rw [if_pos g1, if_pos (by omega)]
  rw [if_neg g1, if_neg (show ¬ (14 ≤ j ∧ j < 14 + (i + 1)) by omega)]
  by_cases g2 : 22 ≤ j ∧ j < 22 + i
  · rw [if_pos g2, if_pos (by omega)]
  rw [if_neg g2, if_neg (show ¬ (22 ≤ j ∧ j < 22 + (i + 1)) by omega), if_neg hj5, if_neg hj5]
/-! a town's numbers are as told -/
def zVT (R : zr) : Prop := (0 ≤ R 0 ∧ R 0 ≤ 8) ∧ (0 ≤ R 1 ∧ R 1 ≤ 8) ∧ (0 ≤ R 2 ∧ R 2 ≤ 3) ∧ (0 ≤ R 3 ∧ R 3 ≤ 9) ∧ (0 ≤ R 4 ∧ R 4 ≤ 20000) ∧ (0 ≤ R 5 ∧ R 5 ≤ 99999) ∧
  (∀ k, 0 ≤ k → k < R 0 → (1 ≤ R (6 + k) ∧ R (6 + k) ≤ 5) ∧ (0 ≤ R (14 + k) ∧ R (14 + k) ≤ 20) ∧ (0 ≤ R (22 + k) ∧ R (22 + k) ≤ 60)) ∧ (∀ b, 0 ≤ b → b < R 1 → 0 ≤ R (30 + b) ∧ R (30 + b) < R 0)
/-- writes upon a written town -/
theorem tp_ts {a : Nat} {R : zr} (hz : tz R) (ι : zi) {x v : Int} (h0 : 4 ≤ x) (h1 : x < 10) : iup (tp a R ι) a x v = tp a (ru R (x - 4) v) ι := by rw [tp_up_s a _ h0 h1, tb_tp a hz, tp_tp]
theorem tp_tk {a : Nat} {R : zr} (hz : tz R) (ι : zi) {x v : Int} (h0 : 0 ≤ x) (h1 : x < 8) : iup (tp a R ι) (a + 1) x v = tp a (ru R (6 + x) v) ι := by rw [tp_up_k a _ h0 h1, tb_tp a hz, tp_tp]
theorem tp_td {a : Nat} {R : zr} (hz : tz R) (ι : zi) {x v : Int} (h0 : 0 ≤ x) (h1 : x < 8) : iup (tp a R ι) (a + 2) x v = tp a (ru R (14 + x) v) ι := by rw [tp_up_d a _ h0 h1, tb_tp a hz, tp_tp]
theorem tp_tl {a : Nat} {R : zr} (hz : tz R) (ι : zi) {x v : Int} (h0 : 0 ≤ x) (h1 : x < 8) : iup (tp a R ι) (a + 3) x v = tp a (ru R (22 + x) v) ι := by rw [tp_up_l a _ h0 h1, tb_tp a hz, tp_tp]
theorem tp_tw {a : Nat} {R : zr} (hz : tz R) (ι : zi) {x v : Int} (h0 : 0 ≤ x) (h1 : x < 8) : iup (tp a R ι) (a + 4) x v = tp a (ru R (30 + x) v) ι := by rw [tp_up_w a _ h0 h1, tb_tp a hz, tp_tp]
end
