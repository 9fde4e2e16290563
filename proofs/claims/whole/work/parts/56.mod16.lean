section
/-! rounds as numbers: the figure of a beat, the row of a number -/
def zdi (N x m : Int) : Int := x / N ^ m.toNat % N
theorem zdi_b {N x m : Int} (h : 0 < N) : 0 ≤ zdi N x m ∧ zdi N x m < N := ⟨Int.emod_nonneg _ (by omega), Int.emod_lt_of_pos _ h⟩
/-- the row that is tried, the last i beats written -/
def zro (R : zr) (k x i : Int) : zr := fun j => if 30 + (k - i) ≤ j ∧ j < 30 + k then zdi (R 0) x (k - 1 - (j - 30)) else if j = 5 then 0 else if j = 1 then k else R j
theorem zro_0 (R : zr) (k x : Int) : zro R k x 0 = ru (ru R 5 0) 1 k := by
  funext j
  unfold zro ru
  (repeat' split) <;> first | rfl | (exfalso; omega)
theorem zro_s {R : zr} {k x i : Int} (h0 : 0 ≤ i) (h1 : i < k) : ru (zro R k x i) (30 + (k - 1 - i)) (zdi (R 0) x i) = zro R k x (i + 1) := by
  funext j
  by_cases g : j = 30 + (k - 1 - i)
  · rw [g, ru_s]
    unfold zro
    rw [if_pos (by omega)]
    congr 1
    omega
  · rw [ru_n _ (by omega)]
    unfold zro
    (repeat' split) <;> first | rfl | (exfalso; omega)
theorem zro_o {R : zr} {k x i j : Int} (h : j < 30 + (k - i) ∨ 30 + k ≤ j) (h5 : j ≠ 5) (h1 : j ≠ 1) : zro R k x i j = R j := by
  unfold zro
  rw [if_neg (by omega), if_neg h5, if_neg h1]
theorem zro_V {R : zr} (hz : tz R) (hV : zVT R) (hN : 0 < R 0) {k x : Int} (hk : 1 ≤ k ∧ k ≤ 4) : zVT (zro R k x k) ∧ tz (zro R k x k) ∧ zro R k x k 0 = R 0 ∧ zro R k x k 1 = k ∧ zro R k x k 4 = R 4 := by
  obtain ⟨hV0, hV1, hV2, hV3, hV4, hV5, hVk, hVw⟩ := hV
  have e1 : zro R k x k 1 = k := by unfold zro; rw [if_neg (by omega), if_neg (by omega), if_pos rfl]
  have e5 : zro R k x k 5 = 0 := by unfold zro; rw [if_neg (by omega), if_pos rfl]
  have e0 : zro R k x k 0 = R 0 := zro_o (by omega) (by omega) (by omega)
  refine ⟨⟨by rw [e0]; exact hV0, by rw [e1]; omega, by rw [zro_o (by omega) (by omega) (by omega)]; exact hV2, by rw [zro_o (by omega) (by omega) (by omega)]; exact hV3, by rw [zro_o (by omega) (by omega) (by omega)]; exact hV4, by rw [e5]; omega, fun j q0 q1 => ?_, fun b q0 q1 => ?_⟩, fun j hj => ?_, e0, e1, zro_o (by omega) (by omega) (by omega)⟩
  · rw [e0] at q1
    rw [zro_o (by omega) (by omega) (by omega), zro_o (by omega) (by omega) (by omega), zro_o (by omega) (by omega) (by omega)]
    exact hVk j q0 q1
  · rw [e1] at q1
    rw [e0]
    have : zro R k x k (30 + b) = zdi (R 0) x (k - 1 - (30 + b - 30)) := by unfold zro; rw [if_pos (by omega)]
    rw [this]
    exact zdi_b hN
  · rw [zro_o (by omega) (by omega) (by omega)]
    exact hz j hj
end
