section
def zbi (x : Int) (j : Nat) : Bool := (Int32.ofInt x).toBitVec.getLsbD j
theorem zbi_or (x y : Int) (j : Nat) : zbi (zor x y) j = (zbi x j || zbi y j) := by
  unfold zbi zor
  rw [Int32.ofInt_toInt, Int32.toBitVec_or, BitVec.getLsbD_or]
theorem zbi_and (x y : Int) (j : Nat) : zbi (zand x y) j = (zbi x j && zbi y j) := by
  unfold zbi zand
  rw [Int32.ofInt_toInt, Int32.toBitVec_and, BitVec.getLsbD_and]
theorem zbi_sm : ∀ c : Fin 32, ((Int32.ofInt ((c.val : Nat) : Int) &&& 31).toBitVec.smod 32).toNat = c.val := by decide +kernel
theorem zbi_su : ∀ c : Fin 32, (((Int32.ofInt ((c.val : Nat) : Int)).toUInt32 &&& Int32.toUInt32 31).toBitVec % 32).toNat = c.val := by decide +kernel
theorem zbi_shl (x : Int) {c : Nat} (hc : c < 32) (j : Nat) : zbi (zshl x c) j = (decide (j < 32) && !decide (j < c) && zbi x (j - c)) := by
  unfold zbi zshl
  rw [Int32.ofInt_toInt, Int32.toBitVec_shiftLeft, BitVec.shiftLeft_eq', zbi_sm ⟨c, hc⟩, BitVec.getLsbD_shiftLeft]
theorem zbi_ushr (x : Int) {c : Nat} (hc : c < 32) (j : Nat) : zbi (zushr x c) j = zbi x (c + j) := by
  unfold zbi zushr
  rw [Int32.ofInt_toInt, UInt32.toBitVec_toInt32, UInt32.toBitVec_shiftRight, BitVec.ushiftRight_eq', zbi_su ⟨c, hc⟩, BitVec.getLsbD_ushiftRight]
  rfl
theorem zbi_shr0 (x : Int) {c : Nat} (hc : c < 32) : zbi (zshr x c) 0 = zbi x c := by
  unfold zbi zshr
  rw [Int32.ofInt_toInt, Int32.toBitVec_shiftRight, BitVec.sshiftRight_eq', zbi_sm ⟨c, hc⟩, BitVec.getLsbD_sshiftRight]
  simp [hc]
theorem zbi_ext {x y : Int} (hx : ∃ a : Int32, x = a.toInt) (hy : ∃ a : Int32, y = a.toInt) (h : ∀ j, j < 32 → zbi x j = zbi y j) : x = y := by
  obtain ⟨a, rfl⟩ := hx
  obtain ⟨b, rfl⟩ := hy
  unfold zbi at h
  simp only [Int32.ofInt_toInt] at h
  congr 1
  apply Int32.toBitVec_inj.1
  exact BitVec.eq_of_getLsbD_eq h
theorem zbi_c1 : ∀ j : Fin 32, zbi 1 j.val = decide (j.val = 0) := by decide +kernel
theorem zbi_c0 : ∀ j : Fin 32, zbi 0 j.val = false := by decide +kernel
theorem zbi_c15 : ∀ j : Fin 32, zbi 15 j.val = decide (j.val < 4) := by decide +kernel
theorem zbi_1 {j : Nat} (h : j < 32) : zbi 1 j = decide (j = 0) := zbi_c1 ⟨j, h⟩
theorem zbi_0 {j : Nat} (h : j < 32) : zbi 0 j = false := zbi_c0 ⟨j, h⟩
theorem zbi_15 {j : Nat} (h : j < 32) : zbi 15 j = decide (j < 4) := zbi_c15 ⟨j, h⟩
theorem zbit_1 (x : Int) {c : Nat} (hc : c < 32) : zand (zshr x c) 1 = if zbi x c then 1 else 0 := by
  apply zbi_ext ⟨_, rfl⟩ (by split; exact ⟨1, rfl⟩; exact ⟨0, rfl⟩)
  intro j hj
  show zbi (zand (zshr x c) 1) j = _
  rw [zbi_and, zbi_1 (j := j) (hj)]
  by_cases g : j = 0
  · rw [g, zbi_shr0 x hc]
    split <;> rename_i q
    · rw [q, zbi_1 (j := 0) (by decide)]; rfl
    · rw [zbi_0 (j := 0) (by decide)]; simp at q; rw [q]; rfl
  · rw [decide_eq_false g, Bool.and_false]
    split
    · rw [zbi_1 (j := j) (hj)]; simp [g]
    · rw [zbi_0 (j := j) (hj)]

def zq (a b c d : Bool) : Int := (if a then 1 else 0) + (if b then 2 else 0) + (if c then 4 else 0) + (if d then 8 else 0)
theorem zq_d : ∀ (a b c d : Bool) (j : Fin 32), zbi (zq a b c d) j.val = ((decide (j.val = 0) && a) || (decide (j.val = 1) && b) || (decide (j.val = 2) && c) || (decide (j.val = 3) && d)) := by decide +kernel
theorem zbi_q {a b c d : Bool} {j : Nat} (h : j < 32) : zbi (zq a b c d) j = ((decide (j = 0) && a) || (decide (j = 1) && b) || (decide (j = 2) && c) || (decide (j = 3) && d)) := zq_d a b c d ⟨j, h⟩
theorem zq_i : ∀ (a b c d : Bool), zq a b c d = (Int32.ofInt (zq a b c d)).toInt := by decide +kernel
theorem zbi_c15_v (x : Int) : zand x 15 = zq (zbi x 0) (zbi x 1) (zbi x 2) (zbi x 3) := by
  refine zbi_ext ⟨_, rfl⟩ ⟨_, zq_i _ _ _ _⟩ (fun j hj => ?_)
  show zbi (zand x 15) j = _
  rw [zbi_and, zbi_15 (j := j) (hj), zbi_q hj]
  rcases (show j = 0 ∨ j = 1 ∨ j = 2 ∨ j = 3 ∨ 4 ≤ j by omega) with g | g | g | g | g
  · rw [g]; simp
  · rw [g]; simp
  · rw [g]; simp
  · rw [g]; simp
  · rw [decide_eq_false (show ¬ j < 4 by omega), decide_eq_false (show ¬ j = 0 by omega), decide_eq_false (show ¬ j = 1 by omega), decide_eq_false (show ¬ j = 2 by omega), decide_eq_false (show ¬ j = 3 by omega)]
    simp
theorem zq_k : ∀ (a b c d : Bool), (0 ≤ zq a b c d ∧ zq a b c d ≤ 15) ∧ (d = false → zq a b c d < 8) ∧ (d = false → c = false → zq a b c d < 4) ∧ (d = false → c = false → b = false → zq a b c d < 2) := by decide +kernel
theorem zq_b : ∀ (a b c d : Bool), zand (zshr (zq a b c d) 0) 1 = (if a then 1 else 0) ∧ zand (zshr (zq a b c d) 1) 1 = (if b then 1 else 0) ∧ zand (zshr (zq a b c d) 2) 1 = (if c then 1 else 0) ∧ zand (zshr (zq a b c d) 3) 1 = (if d then 1 else 0) := by decide +kernel
theorem zgh_b {r f : Int} {n t j : Nat} (hn : n ≤ 8) (ht : t < 8) (hj : j < 4) : zbi (zgh r f n) (4 * t + j) = (decide (j = 0) && decide (t < n) && decide (zabs ((t : Int) - f) ≤ r)) := by
  induction n with
  | zero =>
    show zbi 0 (4 * t + j) = _
    rw [zbi_0 (j := 4 * t + j) (by omega), decide_eq_false (show ¬ t < 0 by omega)]
    simp
  | succ n ih =>
    unfold zgh at ih ⊢
    rw [show ((n + 1 : Nat) : Int) = (n : Int) + 1 by omega, zfd_s _ _ (by omega)]
    have e : ∀ a, zghf r f a n = zor a (if zabs ((n : Int) - f) ≤ r then zshl 1 (((4 * n : Nat)) : Int) else 0) := fun a => by
      unfold zghf
      rw [show (((4 * n : Nat)) : Int) = 4 * (n : Int) by omega]
    rw [e, zbi_or, ih (by omega)]
    by_cases g : zabs ((n : Int) - f) ≤ r
    · rw [if_pos g, zbi_shl 1 (by omega)]
      by_cases g2 : t = n ∧ j = 0
      · obtain ⟨rfl, rfl⟩ := g2
        rw [show 4 * t + 0 - 4 * t = 0 by omega, zbi_1 (j := 0) (by decide)]
        simp [g]
        omega
      · by_cases g3 : 4 * t + j < 4 * n
        · rw [decide_eq_true g3]
          have : (t < n) ↔ (t < n + 1) := by omega
          simp [this]
        · have g4 : ¬ (4 * t + j - 4 * n = 0) := by omega
          rw [zbi_1 (j := 4 * t + j - 4 * n) (by omega)]
          rw [decide_eq_false g4]
          rcases (show t = n ∨ t ≠ n by omega) with q | q
          · have : ¬ j = 0 := fun h => g2 ⟨q, h⟩
            simp [this]
          · have : (t < n) ↔ (t < n + 1) := by omega
            simp [this]
    · rw [if_neg g, zbi_0 (j := 4 * t + j) (by omega), Bool.or_false]
      rcases (show t = n ∨ t ≠ n by omega) with q | q
      · subst q
        simp [g]
      · have : (t < n) ↔ (t < n + 1) := by omega
        simp [this]
def zhdf (H : Int → Int) (N k x : Int) (a m : Int) : Int := zor a (zshl (H (zdi N x m)) (k - 1 - m))
def zhd (H : Int → Int) (N k x i : Int) : Int := zfd (zhdf H N k x) 0 i
theorem zhd_b {r : Int} {N k : Nat} {x : Int} {i t j : Nat} (hN : N ≤ 8) (hk : k ≤ 4) (hi : i ≤ k) (ht : t < 8) (hj : j < 4) : zbi (zhd (fun f => zgh r f N) N k x i) (4 * t + j) = (decide (j < k) && decide (k - 1 - j < i) && decide (t < N) && decide (zabs ((t : Int) - zdi N x ((k - 1 - j : Nat) : Int)) ≤ r)) := by
  induction i with
  | zero =>
    show zbi 0 (4 * t + j) = _
    rw [zbi_0 (j := 4 * t + j) (by omega), decide_eq_false (show ¬ k - 1 - j < 0 by omega)]
    simp
  | succ m ih =>
    unfold zhd at ih ⊢
    rw [show ((m + 1 : Nat) : Int) = (m : Int) + 1 by omega, zfd_s _ _ (by omega)]
    have e : ∀ a, zhdf (fun f => zgh r f N) N k x a m = zor a (zshl (zgh r (zdi N x m) N) ((k - 1 - m : Nat) : Int)) := fun a => by
      unfold zhdf
      rw [show ((k - 1 - m : Nat) : Int) = (k : Int) - 1 - m by omega]
    rw [e, zbi_or, ih (by omega), zbi_shl _ (by omega), decide_eq_true (show 4 * t + j < 32 by omega)]
    by_cases g : j = k - 1 - m
    · have em : k - 1 - j = m := by omega
      rw [decide_eq_false (show ¬ 4 * t + j < k - 1 - m by omega), show 4 * t + j - (k - 1 - m) = 4 * t + 0 by omega, zgh_b hN ht (by decide), em, decide_eq_false (show ¬ m < m by omega), decide_eq_true (show m < m + 1 by omega), decide_eq_true (show j < k by omega)]
      simp
    · have z9 : (!decide (4 * t + j < k - 1 - m) && zbi (zgh r (zdi N x m) N) (4 * t + j - (k - 1 - m))) = false := by
        by_cases g1 : 4 * t + j < k - 1 - m
        · rw [decide_eq_true g1]; rfl
        · rw [decide_eq_false g1]
          by_cases g2 : k - 1 - m ≤ j
          · rw [show 4 * t + j - (k - 1 - m) = 4 * t + (j - (k - 1 - m)) by omega, zgh_b hN ht (by omega), decide_eq_false (show ¬ j - (k - 1 - m) = 0 by omega)]
            rfl
          · rw [show 4 * t + j - (k - 1 - m) = 4 * (t - 1) + (4 + j - (k - 1 - m)) by omega, zgh_b hN (by omega) (by omega), decide_eq_false (show ¬ 4 + j - (k - 1 - m) = 0 by omega)]
            rfl
      rw [Bool.true_and, z9, Bool.or_false]
      by_cases g3 : j < k
      · have : (k - 1 - j < m) ↔ (k - 1 - j < m + 1) := by omega
        simp [this]
      · simp [g3]

def zpt (R : zr) (k x s : Int) : Int := zand (zushr (zhd (fun f => zgh (R 2) f (R 0)) (R 0) k x k) (4 * s)) 15
theorem zpt_v {R : zr} (hN : 0 ≤ R 0 ∧ R 0 ≤ 8) {k x s : Int} (hk : 1 ≤ k ∧ k ≤ 4) (hs : 0 ≤ s ∧ s < R 0) : (0 ≤ zpt R k x s ∧ zpt R k x s < zshl 1 k) ∧ ∀ j, 0 ≤ j → j < k → zand (zshr (zpt R k x s) j) 1 = zhf s (zdi (R 0) x (k - 1 - j)) (R 2) := by
  obtain ⟨X, hX⟩ : ∃ X, X = zhd (fun f => zgh (R 2) f (R 0)) (R 0) k x k := ⟨_, rfl⟩
  have hb : ∀ j : Nat, j < 4 → zbi X (4 * s.toNat + j) = (decide (j < k.toNat) && decide (zabs (s - zdi (R 0) x (k - 1 - j)) ≤ R 2)) := by
    intro j hj
    have h := zhd_b (r := R 2) (N := (R 0).toNat) (k := k.toNat) (x := x) (i := k.toNat) (t := s.toNat) (j := j) (by omega) (by omega) (by omega) (by omega) hj
    rw [show (((R 0).toNat : Nat) : Int) = R 0 by omega, show ((k.toNat : Nat) : Int) = k by omega, show ((s.toNat : Nat) : Int) = s by omega, ← hX] at h
    rw [h, decide_eq_true (show s.toNat < (R 0).toNat by omega)]
    by_cases g : j < k.toNat
    · rw [decide_eq_true g, decide_eq_true (show k.toNat - 1 - j < k.toNat by omega), show ((k.toNat - 1 - j : Nat) : Int) = k - 1 - j by omega]
      simp
    · rw [decide_eq_false g]
      simp
  have e : zpt R k x s = zq (zbi X (4 * s.toNat + 0)) (zbi X (4 * s.toNat + 1)) (zbi X (4 * s.toNat + 2)) (zbi X (4 * s.toNat + 3)) := by
    unfold zpt
    rw [← hX, show 4 * s = ((4 * s.toNat : Nat) : Int) by omega, zbi_c15_v, zbi_ushr X (by omega), zbi_ushr X (by omega), zbi_ushr X (by omega), zbi_ushr X (by omega)]
  have hr := zq_k (zbi X (4 * s.toNat + 0)) (zbi X (4 * s.toNat + 1)) (zbi X (4 * s.toNat + 2)) (zbi X (4 * s.toNat + 3))
  have hv := zq_b (zbi X (4 * s.toNat + 0)) (zbi X (4 * s.toNat + 1)) (zbi X (4 * s.toNat + 2)) (zbi X (4 * s.toNat + 3))
  rw [← e] at hr hv
  have hf : ∀ j : Nat, j < 4 → ¬ j < k.toNat → zbi X (4 * s.toNat + j) = false := fun j h1 h2 => by rw [hb j h1, decide_eq_false h2]; rfl
  refine ⟨⟨hr.1.1, ?_⟩, fun j j0 j1 => ?_⟩
  · rw [zshl_p (by omega) (by omega)]
    rcases (show k = 1 ∨ k = 2 ∨ k = 3 ∨ k = 4 by omega) with g | g | g | g <;> subst g
    · exact hr.2.2.2 (hf 3 (by decide) (by decide)) (hf 2 (by decide) (by decide)) (hf 1 (by decide) (by decide))
    · exact hr.2.2.1 (hf 3 (by decide) (by decide)) (hf 2 (by decide) (by decide))
    · exact hr.2.1 (hf 3 (by decide) (by decide))
    · show zpt R 4 x s < 16; omega
  · have key : ∀ m : Nat, m < 4 → m < k.toNat → zand (zshr (zpt R k x s) m) 1 = if zbi X (4 * s.toNat + m) then 1 else 0 := by
      intro m h1 h2
      rcases (show m = 0 ∨ m = 1 ∨ m = 2 ∨ m = 3 by omega) with g | g | g | g <;> subst g
      · exact hv.1
      · exact hv.2.1
      · exact hv.2.2.1
      · exact hv.2.2.2
    have := key j.toNat (by omega) (by omega)
    rw [show ((j.toNat : Nat) : Int) = j by omega, hb j.toNat (by omega), decide_eq_true (show j.toNat < k.toNat by omega), show ((j.toNat : Nat) : Int) = j by omega] at this
    rw [this]
    unfold zhf
    by_cases g : zabs (s - zdi (R 0) x (k - 1 - j)) ≤ R 2
    · rw [if_pos g, decide_eq_true g]; rfl
    · rw [if_neg g, decide_eq_false g]; rfl
end
