section
/-! rounds as numbers: the figure of a beat, the row of a number -/
def zdi (N x m : Int) : Int := x / N ^ m.toNat % N
theorem zdi_b {N x m : Int} (h : 0 < N) : 0 ≤ zdi N x m ∧ zdi N x m < N := ⟨Int.emod_nonneg _ (by omega), Int.emod_lt_of_pos _ h⟩
/-- the row that is tried, the last i beats written -/
def zro (R : zr) (k x i : Int) : zr := fun j => if 30 + (k - i) ≤ j ∧ j < 30 + k then zdi (R 0) x (k - 1 - (j - 30)) else if j = 5 then 0 else if j = 1 then k else R j
theorem zro_0 (R : zr) (k x : Int) : zro R k x 0 = ru (ru R 5 0) 1 k := by
  funext j
  unfold zro ru
  (repeat' split) <;> first | rfl | (exfalso; omega)
theorem zro_s {R : zr} {k x i : Int} (h0 : 0 ≤ i) (h1 : i < k) : ru (zro R k x i) (30 + (k - 1 - i)) (zdi (R 0) x i) = zro R k x (i + 1) := by
  funext j
  by_cases g : j = 30 + (k - 1 - i)
  · rw [g, ru_s]
    unfold zro
    rw [if_pos (by omega)]
    congr 1
    omega
  · rw [ru_n _ (by omega)]
    unfold zro
    (repeat' split) <;> first | rfl | (exfalso; omega)
end
