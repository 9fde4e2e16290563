section
theorem tp_char {a : Nat} {R : zr} {ι ι' : zi} (hs : ∀ x, 4 ≤ x → x < 10 → ι' a x = R (x - 4)) (hk : ∀ x, 0 ≤ x → x < 8 → ι' (a + 1) x = R (6 + x)) (hd : ∀ x, 0 ≤ x → x < 8 → ι' (a + 2) x = R (14 + x)) (hl : ∀ x, 0 ≤ x → x < 8 → ι' (a + 3) x = R (22 + x)) (hw : ∀ x, 0 ≤ x → x < 8 → ι' (a + 4) x = R (30 + x))
    (ho : ∀ c y, ¬ (c = a ∧ 4 ≤ y ∧ y < 10) → ¬ (a + 1 ≤ c ∧ c ≤ a + 4 ∧ 0 ≤ y ∧ y < 8) → ι' c y = ι c y) : ι' = tp a R ι := by
  funext c y
  unfold tp
  split
  · rename_i h; rw [h.1]; exact hs y h.2.1 h.2.2
  split
  · rename_i h; rw [h.1]; exact hk y h.2.1 h.2.2
  split
  · rename_i h; rw [h.1]; exact hd y h.2.1 h.2.2
  split
  · rename_i h; rw [h.1]; exact hl y h.2.1 h.2.2
  split
  · rename_i h; rw [h.1]; exact hw y h.2.1 h.2.2
  · exact ho c y (by omega) (by omega)
theorem icpy_i (ι : zi) {a b : Nat} {sp dp k y : Int} (h0 : dp ≤ y) (h1 : y < dp + k) : icpy ι a b sp dp k b y = ι a (sp + (y - dp)) := if_pos ⟨rfl, h0, h1⟩
theorem icpy_n (ι : zi) {a b c : Nat} {sp dp k y : Int} (h : c ≠ b ∨ y < dp ∨ dp + k ≤ y) : icpy ι a b sp dp k c y = ι c y := if_neg (by omega)
theorem zmul_b {x y X Y : Int} (h0 : 0 ≤ x) (h1 : x ≤ X) (h2 : 0 ≤ y) (h3 : y ≤ Y) : 0 ≤ x * y ∧ x * y ≤ X * Y := ⟨Int.mul_nonneg h0 h2, Int.mul_le_mul h1 h3 h2 (by omega)⟩
theorem zdiv_b {x y : Int} (h0 : 0 ≤ x) (h1 : 0 < y) : 0 ≤ x / y ∧ x / y ≤ x := ⟨Int.ediv_nonneg h0 (by omega), Int.ediv_le_self _ h0⟩
/-! hours in a row -/
def pasN (R : zr) : Nat → zr
  | 0 => R
  | n + 1 => passR (pasN R n)
def pasI (R : zr) (i : Int) : zr := pasN R i.toNat
theorem pasI_0 (R : zr) : pasI R 0 = R := rfl
theorem pasI_s (R : zr) {i : Int} (h : 0 ≤ i) : pasI R (i + 1) = passR (pasI R i) := by
  unfold pasI
  rw [show (i + 1).toNat = i.toNat + 1 by omega, pasN]
theorem passR_o {R : zr} {j : Int} (h0 : ¬ (14 ≤ j ∧ j < 14 + R 0)) (h1 : ¬ (22 ≤ j ∧ j < 22 + R 0)) (h4 : j ≠ 4) (h5 : j ≠ 5) : passR R j = R j := by
  unfold passR
  rw [ru_n _ h4, paR_o h0 h1 h5]
theorem passR_4 (R : zr) : passR R 4 = R 4 + 1 := ru_s _ _ _
theorem passR_5 (R : zr) : passR R 5 = zmin (R 5 + zsum (zstR R) (R 0)) 99999 := by
  unfold passR
  rw [ru_n _ (by decide)]
  unfold paR
  rw [if_neg (by omega), if_neg (by omega), if_pos rfl]
theorem passR_d {R : zr} {k : Int} (h0 : 0 ≤ k) (h1 : k < R 0) : passR R (14 + k) = zdeep (R (6 + k)) (R (14 + k)) (zhr R k) (R 4) := by
  unfold passR
  rw [ru_n _ (by omega)]
  unfold paR
  rw [if_pos (by omega), show 14 + k - 8 = 6 + k by omega, show 14 + k - 14 = k by omega]
theorem passR_l {R : zr} {k : Int} (h0 : 0 ≤ k) (h1 : k < R 0) (h2 : R 0 ≤ 8) : passR R (22 + k) = R (22 + k) - zstR R k := by
  unfold passR
  rw [ru_n _ (by omega)]
  unfold paR
  rw [if_neg (by omega), if_pos (by omega), show 22 + k - 22 = k by omega]
theorem passR_tz {R : zr} (h : tz R) (h8 : R 0 ≤ 8) : tz (passR R) := ru_tz (paR_tz h h8) (by decide) (by decide)
theorem zstR_b {R : zr} (hV : zVT R) {k : Int} (h0 : 0 ≤ k) (h1 : k < R 0) : 0 ≤ zstR R k ∧ zstR R k ≤ R (22 + k) ∧ zstR R k ≤ 9 := by
  obtain ⟨hV0, hV1, hV2, hV3, hV4, hV5, hVk, hVw⟩ := hV
  have := zstl_b (de := R (14 + k)) (h := zhr R k) (hVk k h0 h1).2.2.1 hV3.1
  show 0 ≤ zstl _ _ _ _ ∧ zstl _ _ _ _ ≤ _ ∧ zstl _ _ _ _ ≤ 9
  omega
theorem passR_V {R : zr} (hV : zVT R) (h4 : R 4 + 1 ≤ 20000) : zVT (passR R) := by
  have hb := fun k h0 h1 => zstR_b hV (k := k) h0 h1
  obtain ⟨hV0, hV1, hV2, hV3, hV4, hV5, hVk, hVw⟩ := hV
  have e0 : passR R 0 = R 0 := passR_o (by omega) (by omega) (by decide) (by decide)
  have e1 : passR R 1 = R 1 := passR_o (by omega) (by omega) (by decide) (by decide)
  have e2 : passR R 2 = R 2 := passR_o (by omega) (by omega) (by decide) (by decide)
  have e3 : passR R 3 = R 3 := passR_o (by omega) (by omega) (by decide) (by decide)
  have hs := zsum_b (zstR R) (i := R 0) (M := 9) hV0.1 (fun k q0 q1 => ⟨(hb k q0 q1).1, (hb k q0 q1).2.2⟩)
  refine ⟨by rw [e0]; exact hV0, by rw [e1]; exact hV1, by rw [e2]; exact hV2, by rw [e3]; exact hV3, by rw [passR_4]; omega, ?_, fun k q0 q1 => ?_, fun b q0 q1 => ?_⟩
  · rw [passR_5]; unfold zmin; split <;> omega
  · rw [e0] at q1
    have ek : passR R (6 + k) = R (6 + k) := passR_o (by omega) (by omega) (by omega) (by omega)
    rw [ek, passR_d q0 q1, passR_l q0 q1 hV0.2]
    have h1 := hVk k q0 q1
    have h2 := hb k q0 q1
    have h3 := zdeep_b (R (6 + k)) (R (14 + k)) (zhr R k) (R 4)
    exact ⟨h1.1, h3, by omega⟩
  · rw [e1] at q1
    rw [passR_o (by omega) (by omega) (by omega) (by omega), e0]
    exact hVw b q0 q1
theorem pasI_V {R : zr} (hz : tz R) (hV : zVT R) {n : Int} (h0 : 0 ≤ n) (h4 : R 4 + n ≤ 20000) : zVT (pasI R n) ∧ tz (pasI R n) ∧ pasI R n 0 = R 0 ∧ pasI R n 1 = R 1 ∧ pasI R n 2 = R 2 ∧ pasI R n 3 = R 3 ∧ pasI R n 4 = R 4 + n ∧ (∀ k, 0 ≤ k → k < 8 → pasI R n (6 + k) = R (6 + k)) ∧ (∀ k, 0 ≤ k → k < 8 → pasI R n (30 + k) = R (30 + k)) := by
  have key : ∀ k : Nat, (k : Int) ≤ n → zVT (pasN R k) ∧ tz (pasN R k) ∧ pasN R k 0 = R 0 ∧ pasN R k 1 = R 1 ∧ pasN R k 2 = R 2 ∧ pasN R k 3 = R 3 ∧ pasN R k 4 = R 4 + k ∧ (∀ j, 0 ≤ j → j < 8 → pasN R k (6 + j) = R (6 + j)) ∧ (∀ j, 0 ≤ j → j < 8 → pasN R k (30 + j) = R (30 + j)) := by
    intro k
    induction k with
    | zero => intro _; exact ⟨hV, hz, rfl, rfl, rfl, rfl, by simp [pasN], fun _ _ _ => rfl, fun _ _ _ => rfl⟩
    | succ k ih =>
      intro hk
      obtain ⟨i1, i2, i3, i4, i5, i6, i7, i8, i9⟩ := ih (by omega)
      have hN := i1.1
      refine ⟨passR_V i1 (by omega), passR_tz i2 hN.2, ?_, ?_, ?_, ?_, ?_, fun j q0 q1 => ?_, fun j q0 q1 => ?_⟩
      · rw [pasN, passR_o (by omega) (by omega) (by decide) (by decide)]; exact i3
      · rw [pasN, passR_o (by omega) (by omega) (by decide) (by decide)]; exact i4
      · rw [pasN, passR_o (by omega) (by omega) (by decide) (by decide)]; exact i5
      · rw [pasN, passR_o (by omega) (by omega) (by decide) (by decide)]; exact i6
      · rw [pasN, passR_4, i7]; omega
      · rw [pasN, passR_o (by omega) (by omega) (by omega) (by omega)]; exact i8 j q0 q1
      · rw [pasN, passR_o (by omega) (by omega) (by omega) (by omega)]; exact i9 j q0 q1
  have h := key n.toNat (by omega)
  rw [show ((n.toNat : Nat) : Int) = n by omega] at h
  exact h
/-! the tax -/
def ztax (R : zr) (s n : Int) : Int :=
  let all := zsum (fun k => R (22 + k)) (R 0)
  if all < 1 ∨ R (22 + s) = 0 then 0 else n * R (22 + s) / all + (if zsum (fun k => if k < s ∧ 0 < R (22 + k) then 1 else 0) (R 0) < n - zsum (fun k => n * R (22 + k) / all) (R 0) then 1 else 0)
end
