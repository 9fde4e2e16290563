section
/-! what holds between the class and the reference, behind every call -/
def zT (X R : zr) (B : Int) : Prop := zVE X R ∧ zTM R ∧ zLo R ≤ B
def zIm (f : Int) (X R : zr) (B : Int) : Prop := (f = 0 ∧ X 0 = 0) ∨ (f = 1 ∧ zT X R B ∧ 0 < R 0)
def zRg (ι : zi) (j : Int) : Nat := 45 + 5 * ((ι 43 1 - ι 43 2 + j + 24) % 24).toNat
def zU (ι : zi) (B : Int) : Prop := (0 ≤ ι 43 1 ∧ ι 43 1 < 24) ∧ (0 ≤ ι 43 2 ∧ ι 43 2 ≤ 24) ∧ ι 178 1 = ι 43 2 ∧ ∀ j, 0 ≤ j → j < ι 43 2 → zT (tb (zRg ι j) ι) (wb (190 + 38 * j) ι) B
def zW (ι : zi) : Prop := ∀ r, 0 ≤ r → r < 8 → (-1 ≤ ι 19 r ∧ ι 19 r ≤ 2) ∧ (0 ≤ ι 20 r ∧ ι 20 r ≤ 40) ∧ ι 181 r = (if ι 19 r = -1 then -1 else ι 20 r) ∧ (ι 19 r ≠ -1 → ι 182 r = ι 19 r) ∧ zB (ι 182 r) ∧ (∀ i, 0 ≤ i → i < 40 → zB (ι (11 + r.toNat) i) ∧ zB (ι 183 (40 * r + i)) ∧ (ι 19 r ≠ -1 → ι (11 + r.toNat) i = ι 183 (40 * r + i)))
def zTa (ι : zi) : Prop := ι 21 1 = ι 178 3 ∧ (0 ≤ ι 178 3 ∧ ι 178 3 ≤ 110) ∧ (∀ p, 0 ≤ p → p < ι 178 3 → ι 22 p = ι 180 p ∧ 0 ≤ ι 180 p ∧ ι 180 p ≤ 255) ∧ ι 21 2 = ι 178 4
def zTc (ι : zi) : Prop := ι 176 1 = ι 178 16 ∧ (0 ≤ ι 178 16 ∧ ι 178 16 ≤ 16) ∧ ∀ i, 0 ≤ i → i < ι 178 16 → ι 177 i = ι 187 i
def zIg (ι : zi) (B : Int) : Prop := ∀ k, 0 ≤ k → k ≤ 1 → zIm (ι 186 k) (tb (zim2 k) ι) (wb (76 + 38 * k) ι) B
def Iv (ι : zi) (B : Int) : Prop := zPre ι ∧ zCh ι ∧ zT (tb 23 ι) (wb 0 ι) B ∧ zIg ι B ∧ zU ι B ∧ zW ι ∧ zTa ι ∧ ι 8 9 = ι 178 5 ∧ zTc ι
theorem zT_m {X R : zr} {B B' : Int} (h : zT X R B) (hb : B ≤ B') : zT X R B' := ⟨h.1, h.2.1, Int.le_trans h.2.2 hb⟩
theorem zIm_m {f : Int} {X R : zr} {B B' : Int} (h : zIm f X R B) (hb : B ≤ B') : zIm f X R B' := by
  rcases h with h | ⟨h1, h2, h3⟩
  · exact Or.inl h
  · exact Or.inr ⟨h1, zT_m h2 hb, h3⟩
theorem zU_m {ι : zi} {B B' : Int} (h : zU ι B) (hb : B ≤ B') : zU ι B' := ⟨h.1, h.2.1, h.2.2.1, fun j j0 j1 => zT_m (h.2.2.2 j j0 j1) hb⟩
theorem zIg_m {ι : zi} {B B' : Int} (h : zIg ι B) (hb : B ≤ B') : zIg ι B' := fun k k0 k1 => zIm_m (h k k0 k1) hb
theorem Iv_m {ι : zi} {B B' : Int} (h : Iv ι B) (hb : B ≤ B') : Iv ι B' := ⟨h.1, h.2.1, zT_m h.2.2.1 hb, zIg_m h.2.2.2.1 hb, zU_m h.2.2.2.2.1 hb, h.2.2.2.2.2⟩
theorem tb_fr {a : Nat} {ι ι' : zi} (h : ∀ b x, a ≤ b → b < a + 5 → ι' b x = ι b x) : tb a ι' = tb a ι := by
  funext i
  unfold tb
  rw [h a _ (by omega) (by omega), h (a + 1) _ (by omega) (by omega), h (a + 2) _ (by omega) (by omega), h (a + 3) _ (by omega) (by omega), h (a + 4) _ (by omega) (by omega)]
theorem wb_fr {r : Int} {ι ι' : zi} (h : ∀ x, r ≤ x → x < r + 38 → ι' 179 x = ι 179 x) : wb r ι' = wb r ι := by
  funext i
  by_cases g : 0 ≤ i ∧ i < 38
  · rw [wb_i r _ g.1 g.2, wb_i r _ g.1 g.2, h _ (by omega) (by omega)]
  · rw [wb_tz r ι' i (by omega), wb_tz r ι i (by omega)]
theorem zPre_fr {ι ι' : zi} (hO : zPre ι) (h : ∀ b x, b ≤ 5 → ι' b x = ι b x) : zPre ι' := by
  refine ⟨fun k k0 k1 => ?_, fun k k0 k1 => ?_⟩
  · rw [h 1 k (by omega), h 2 k (by omega), h 3 k (by omega)]; exact hO.1 k k0 k1
  · rw [h 5 k (by omega)]; exact hO.2 k k0 k1
theorem zU_fr {ι ι' : zi} {B : Int} (hU : zU ι B) (h : ∀ b x, (43 ≤ b ∧ b ≤ 164) ∨ (b = 178 ∧ x = 1) ∨ (b = 179 ∧ 190 ≤ x ∧ x < 1102) → ι' b x = ι b x) : zU ι' B := by
  obtain ⟨h1, h2, h3, h4⟩ := hU
  have e1 := h 43 1 (by omega)
  have e2 := h 43 2 (by omega)
  have e3 := h 178 1 (by omega)
  refine ⟨by rw [e1]; exact h1, by rw [e2]; exact h2, by rw [e2, e3]; exact h3, fun j j0 j1 => ?_⟩
  rw [e2] at j1
  have er : zRg ι' j = zRg ι j := by unfold zRg; rw [e1, e2]
  have hr : zRg ι j ≤ 160 ∧ 45 ≤ zRg ι j := by unfold zRg; omega
  rw [er, tb_fr (fun b x b0 b1 => h b x (by omega)), wb_fr (fun x x0 x1 => h 179 x (by omega))]
  exact h4 j j0 j1
theorem zIg_fr {ι ι' : zi} {B : Int} (hI : zIg ι B) (h : ∀ b x, (33 ≤ b ∧ b ≤ 42) ∨ b = 186 ∨ (b = 179 ∧ 76 ≤ x ∧ x < 152) → ι' b x = ι b x) : zIg ι' B := by
  intro k k0 k1
  have hz : 33 ≤ zim2 k ∧ zim2 k ≤ 38 := by unfold zim2; split <;> omega
  rw [h 186 k (by omega), tb_fr (fun b x b0 b1 => h b x (by omega)), wb_fr (fun x x0 x1 => h 179 x (by omega))]
  exact hI k k0 k1
theorem zW_fr {ι ι' : zi} (hW : zW ι) (h : ∀ b x, (11 ≤ b ∧ b ≤ 20) ∨ (181 ≤ b ∧ b ≤ 183) → ι' b x = ι b x) : zW ι' := by
  intro r r0 r1
  rw [h 19 r (by omega), h 20 r (by omega), h 181 r (by omega), h 182 r (by omega)]
  obtain ⟨a1, a2, a3, a4, a5, a6⟩ := hW r r0 r1
  refine ⟨a1, a2, a3, a4, a5, fun i i0 i1 => ?_⟩
  rw [h (11 + r.toNat) i (by omega), h 183 (40 * r + i) (by omega)]
  exact a6 i i0 i1
theorem zTa_fr {ι ι' : zi} (hT : zTa ι) (h : ∀ b x, (b = 21 ∧ (x = 1 ∨ x = 2)) ∨ b = 22 ∨ (b = 178 ∧ (x = 3 ∨ x = 4)) ∨ b = 180 → ι' b x = ι b x) : zTa ι' := by
  obtain ⟨a1, a2, a3, a4⟩ := hT
  unfold zTa
  rw [h 21 1 (by omega), h 21 2 (by omega), h 178 3 (by omega), h 178 4 (by omega)]
  refine ⟨a1, a2, fun p p0 p1 => ?_, a4⟩
  rw [h 22 p (by omega), h 180 p (by omega)]
  exact a3 p p0 p1
theorem zTc_fr {ι ι' : zi} (hT : zTc ι) (h : ∀ b x, (b = 176 ∧ x = 1) ∨ b = 177 ∨ (b = 178 ∧ x = 16) ∨ b = 187 → ι' b x = ι b x) : zTc ι' := by
  obtain ⟨a1, a2, a3⟩ := hT
  unfold zTc
  rw [h 176 1 (by omega), h 178 16 (by omega)]
  refine ⟨a1, a2, fun i i0 i1 => ?_⟩
  rw [h 177 i (by omega), h 187 i (by omega)]
  exact a3 i i0 i1
/-- what nobody sees -/
def zSx (b : Nat) (x : Int) : Prop := (165 ≤ b ∧ b ≤ 175) ∨ (28 ≤ b ∧ b ≤ 32) ∨ (b = 21 ∧ (x = 3 ∨ x = 4)) ∨ (b = 179 ∧ ((38 ≤ x ∧ x < 76) ∨ (152 ≤ x ∧ x < 190))) ∨ b = 184 ∨ b = 185 ∨ (b = 178 ∧ (x = 10 ∨ x = 11 ∨ x = 12))
theorem Iv_fr {ι ι' : zi} {B : Int} (hI : Iv ι B) (h : ∀ b x, ¬ zSx b x → ι' b x = ι b x) (hc : zCh ι') : Iv ι' B := by
  unfold zSx at h
  obtain ⟨a1, a2, a3, a4, a5, a6, a7, a8, a9⟩ := hI
  refine ⟨zPre_fr a1 (fun b x hb => h b x (by omega)), hc, ?_, zIg_fr a4 (fun b x hb => h b x (by omega)), zU_fr a5 (fun b x hb => h b x (by omega)), zW_fr a6 (fun b x hb => h b x (by omega)), zTa_fr a7 (fun b x hb => h b x (by omega)), by rw [h 8 9 (by omega), h 178 5 (by omega)]; exact a8, zTc_fr a9 (fun b x hb => h b x (by omega))⟩
  rw [tb_fr (fun b x b0 b1 => h b x (by omega)), wb_fr (fun x x0 x1 => h 179 x (by omega))]
  exact a3
theorem zT_TM {X R : zr} {B : Int} (h : zT X R B) (hB : B ≤ 90000) : zTM X := by
  obtain ⟨h1, h2, h3⟩ := h
  have hd := zVD_of h1
  have e5 : X 5 = R 5 := by rw [hd.1.2.2.2.2.2]; omega
  refine ⟨zVD_V hd (by decide) h2.1 (by have := h2.1.2.2.2.2.2.1; omega), ?_, by rw [hd.1.2.2.2.2.1]; exact h2.2.2⟩
  rw [hd.1.1, hd.1.2.1]
  exact h2.2.1
theorem zT_Rl {X R : zr} {B : Int} (h : zT X R B) (hB : B ≤ 90000) (hX : tz X) (hR : tz R) (hN : 0 < R 0) : zRl X R := by
  obtain ⟨h1, h2, h3⟩ := h
  have hd := zVD_of h1
  have e5 : X 5 = R 5 := by rw [hd.1.2.2.2.2.2]; omega
  refine ⟨hd, hX, hR, h2, hN, ?_⟩
  rw [zLo_c hd.1.1 e5 (fun k k0 k1 => (hd.2.1 k k0 k1).2.2)]
  omega
/-! one call of both -/
def zOp (l : Launch) (C : zC) (Mx Mm : zMt) (dx dm : Nat) (as : List zV) (ι : zi) (B : Int) : Prop := ∃ Qx, zCi l C Mx dx (zR 8 :: as) ι Qx ∧ ∀ v1 ι1, Qx v1 ι1 → ∃ x, v1 = some (zI x) ∧ (∀ y, ι1 0 y = ι 0 y) ∧ ∃ Qm, zCi l C Mm dm (zR 178 :: as) ι1 Qm ∧ ∀ v2 ι2, Qm v2 ι2 → v2 = some (zI x) ∧ Iv ι2 (B + 60) ∧ ∀ y, ι2 0 y = ι 0 y
theorem zFs_x {ι ι' : zi} (h : zFs ι ι') : ∀ b x, ¬ zSx b x → ι' b x = ι b x := fun b x hx => h.1 b x (by unfold zSx at hx; omega)
theorem zSc_x {ι ι' : zi} (h : zSc ι ι') : ∀ b x, ¬ zSx b x → ι' b x = ι b x := fun b x hx => by
  obtain ⟨X, rfl⟩ := h
  exact wp_o 38 X ι (by unfold zSx at hx; omega)
theorem zSc_ch {ι ι' : zi} (h : zSc ι ι') (hc : zCh ι) : zCh ι' := by
  obtain ⟨X, rfl⟩ := h
  unfold zCh at hc ⊢
  rw [wp_o 38 X ι (by omega), wp_o 38 X ι (by omega)]
  exact hc
/-- the reference sees the same behind the class's scratch -/
theorem wb_zFs {ι ι' : zi} (h : zFs ι ι') (r : Int) : wb r ι' = wb r ι := wb_fr (fun x _ _ => h.1 179 x (by omega))
section
variable {l : Launch} {D : va_G} {ad : Nat → Nat} {L z : Nat} {ι : zi}
theorem zSc_5 {ι ι' : zi} (h : zSc ι ι') : ∃ T, zSc (zt5 T ι) ι' := ⟨ι 185, by rw [zt5_r]; exact h⟩
end
end
