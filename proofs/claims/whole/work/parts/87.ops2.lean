section
variable {l : Launch} {D : va_G} {ad : Nat → Nat} {L z : Nat} {ι : zi} {B : Int}
/-- rows, the status -/
theorem Iv_w {ι' : zi} (hI : Iv ι B) (h : ∀ b x, ¬ zSx b x → ¬ ((11 ≤ b ∧ b ≤ 20) ∨ (181 ≤ b ∧ b ≤ 183)) → ¬ (b = 8 ∧ x = 9) → ¬ (b = 178 ∧ x = 5) → ι' b x = ι b x) (hc : zCh ι') (hW : zW ι') (hs : ι' 8 9 = ι' 178 5) : Iv ι' B := by
  unfold zSx at h
  obtain ⟨a1, a2, a3, a4, a5, a6, a7, a8, a9⟩ := hI
  refine ⟨zPre_fr a1 (fun b x hb => h b x (by omega) (by omega) (by omega) (by omega)), hc, ?_, zIg_fr a4 (fun b x hb => h b x (by omega) (by omega) (by omega) (by omega)), zU_fr a5 (fun b x hb => h b x (by omega) (by omega) (by omega) (by omega)), hW, zTa_fr a7 (fun b x hb => h b x (by omega) (by omega) (by omega) (by omega)), hs, zTc_fr a9 (fun b x hb => h b x (by omega) (by omega) (by omega) (by omega))⟩
  rw [tb_fr (fun b x b0 b1 => h b x (by omega) (by omega) (by omega) (by omega)), wb_fr (fun x x0 x1 => h 179 x (by omega) (by omega) (by omega) (by omega))]
  exact a3
/-- the status alone -/
theorem Iv_s {ι' : zi} {v : Int} (hI : Iv ι B) (h : ∀ b x, ¬ zSx b x → ¬ (b = 8 ∧ x = 9) → ¬ (b = 178 ∧ x = 5) → ι' b x = ι b x) (hc : zCh ι') (h1 : ι' 8 9 = v) (h2 : ι' 178 5 = v) : Iv ι' B :=
  Iv_w hI (fun b x q1 _ q3 q4 => h b x q1 q3 q4) hc (zW_fr hI.2.2.2.2.2.1 (fun b x hb => h b x (by unfold zSx; omega) (by omega) (by omega))) (h1.trans h2.symm)
theorem zCh_e {ι ι' : zi} (h : zCh ι) (h3 : ι' 165 3 = ι 165 3) (h4 : ι' 165 4 = ι 165 4) : zCh ι' := by unfold zCh at h ⊢; rw [h3, h4]; exact h
theorem wb_8 {v : Int} {r : Int} : wb r (iup ι 8 9 v) = wb r ι := wb_up (Or.inl (by decide))
/-- what is found of a row, on both sides -/
theorem zag_e (hI : Iv ι B) {r i n : Int} (r0 : 0 ≤ r) (r1 : r < 8) : zag (ι 181 r) i n = if ι 19 r = -1 then 1 else if ¬ (0 ≤ i ∧ 0 ≤ n ∧ i ≤ ι 20 r ∧ n ≤ ι 20 r - i) then 2 else 0 := by
  obtain ⟨a1, a2, a3, -⟩ := hI.2.2.2.2.2.1 r r0 r1
  rw [a3]
  unfold zag
  by_cases g : ι 19 r = -1
  · rw [if_pos g, if_pos g, if_pos (by decide)]
  · rw [if_neg g, if_neg g, if_neg (by omega)]
    by_cases g2 : 0 ≤ i ∧ 0 ≤ n ∧ i ≤ ι 20 r ∧ n ≤ ι 20 r - i
    · rw [if_neg (by omega), if_neg (by omega)]
    · rw [if_pos (by omega), if_pos g2]
theorem o_as (hI : Iv ι B) (hB : B ≤ 90000) {s k : Int} (hs : zB s) (hk : zB k) : zOp l (zc D ad L z) mX6_as mX7_as 1 2 [zI s, zI k] ι B := by
  obtain ⟨hT, hd, hM, e0, e1, e2, e3, e4, e5, hr⟩ := Iv_e hI hB
  refine ⟨_, c_xAs hT hI.1 hs hk, fun v1 ι1 q1 => ⟨_, q1.1, fun y => by
    rw [q1.2]
    (repeat' split) <;> first | rfl | simp (disch := omega) only [iup_n, ifill_n, icpy_n], _, c_mAs (ι := ι1) ?_ hs hk, fun v2 ι2 q2 => ?_⟩⟩
  · rw [q1.2]; split
    · rw [wb_8]; exact hM
    · exact hM
  · obtain ⟨-, q1⟩ := q1
    obtain ⟨q2, q3⟩ := q2
    by_cases g : (0 ≤ s ∧ s < wb 0 ι 0) ∧ (0 ≤ k ∧ k ≤ 5)
    · have b1 := (hd.2.1 s g.1.1 g.1.2).1
      rw [e0, if_pos g, b1] at q1
      have ew : wb 0 ι1 = wb 0 ι := by rw [q1, wb_8]
      rw [ew, if_pos g] at q3
      rw [ew, if_neg (fun q => q g)] at q2
      refine ⟨?_, Iv_m (Iv_s hI (v := if zia (wb 0 ι (6 + s)) k = 1 then 0 else 3) (fun b x h1 h2 h3 => ?_) (zCh_e hI.2.1 ?_ ?_) ?_ ?_) (by omega), fun y => ?_⟩
      · rw [q2, e0, if_neg (show ¬ ¬ ((0 ≤ s ∧ s < wb 0 ι 0) ∧ (0 ≤ k ∧ k ≤ 5)) from fun q => q g), b1]
      · rw [q3, iup_n _ (by omega), q1, iup_n _ (by omega)]
      · rw [q3, iup_n _ (by omega), q1, iup_n _ (by omega)]
      · rw [q3, iup_n _ (by omega), q1, iup_n _ (by omega)]
      · rw [q3, iup_n _ (by omega), q1, iup_s]
      · rw [q3, iup_s]
      · rw [q3, iup_n _ (by omega), q1, iup_n _ (by omega)]
    · rw [e0, if_neg g] at q1
      subst q1
      rw [if_neg g] at q3
      subst q3
      exact ⟨by rw [q2, e0, if_pos g, if_pos g], Iv_m hI (by omega), fun _ => rfl⟩
theorem o_fits (hI : Iv ι B) (hB : B ≤ 90000) {s r i n w : Int} (hs : zB s) (hr9 : zB r) (hi : zB i) (hn : zB n) (hw : zB w) : zOp l (zc D ad L z) mX6_fits mX7_fits 6 5 [zI s, zI r, zI i, zI n, zI w] ι B := by
  obtain ⟨hT, hd, hM, e0, e1, e2, e3, e4, e5, hr⟩ := Iv_e hI hB
  obtain ⟨l1, l2, l3, l4, l5, l6⟩ := Iv_L hI
  have hfr : ∀ ι1, zFs (if ¬ ((0 ≤ s ∧ s < tb 23 ι 0) ∧ (0 ≤ r ∧ r ≤ 7) ∧ (1 ≤ n ∧ n ≤ 12) ∧ (0 ≤ w ∧ w ≤ 3)) then ι else if ι 19 r = -1 then iup ι 8 9 1 else if ¬ (0 ≤ i ∧ 0 ≤ n ∧ i ≤ ι 20 r ∧ n ≤ ι 20 r - i) then iup ι 8 9 2 else iup ι 8 9 0) ι1 → ∀ b x, b ≠ 8 → (b < 165 ∨ 176 ≤ b) → ι1 b x = ι b x := fun ι1 h b x h8 hb => by
    rw [h.1 b x hb]
    (repeat' split) <;> first | rfl | rw [iup_n _ (by omega)]
  refine ⟨_, c_xFits hT l1 l2 hs hr9 hi hn hw l6, fun v1 ι1 q1 => ⟨_, q1.1, fun y => hfr ι1 q1.2 0 y (by decide) (by omega), _, c_mFits (ι := ι1) ?_ hs hr9 hi hn hw ?_ ?_, fun v2 ι2 q2 => ?_⟩⟩
  · rw [wb_fr (fun x _ _ => hfr ι1 q1.2 179 x (by decide) (by omega))]; exact hM
  · intro k k0 k1; rw [hfr ι1 q1.2 181 k (by decide) (by omega)]; exact l3 k k0 k1
  · intro k k0 k1; rw [hfr ι1 q1.2 183 k (by decide) (by omega)]; exact l5 k k0 k1
  · have hf := hfr ι1 q1.2
    have ew : wb 0 ι1 = wb 0 ι := wb_fr (fun x _ _ => hf 179 x (by decide) (by omega))
    obtain ⟨-, q1⟩ := q1
    obtain ⟨q2, q3⟩ := q2
    rw [ew, hf 181 r (by decide) (by omega)] at q2 q3
    by_cases g : ¬ ((0 ≤ s ∧ s < wb 0 ι 0) ∧ (0 ≤ r ∧ r ≤ 7) ∧ (1 ≤ n ∧ n ≤ 12) ∧ (0 ≤ w ∧ w ≤ 3))
    · rw [e0, if_pos g] at q1
      rw [if_pos g] at q3
      rw [e0]
      refine ⟨by rw [q2, if_pos g, if_pos g], Iv_m (Iv_fr (Iv_fr hI (zFs_x q1) (q1.2 hI.2.1)) (zSc_x q3) (zSc_ch q3 (q1.2 hI.2.1))) (by omega), fun y => ?_⟩
      rw [zSc_x q3 0 y (by unfold zSx; omega), hf 0 y (by decide) (by omega)]
    · have hz := zag_e hI (r := r) (i := i) (n := n) (by omega) (by omega)
      rw [e0, if_neg g] at q1
      rw [if_neg g, hz] at q2 q3
      rw [e0, if_neg g]
      have fin : ∀ st : Int, zFs (iup ι 8 9 st) ι1 → zSc (iup ι1 178 5 st) ι2 → Iv ι2 (B + 60) ∧ ∀ y, ι2 0 y = ι 0 y := fun st h1 h2 => by
        have hc1 : zCh ι1 := h1.2 (zCh_e hI.2.1 (iup_n _ (by omega)) (iup_n _ (by omega)))
        refine ⟨Iv_m (Iv_s hI (v := st) (fun b x k1 k2 k3 => ?_) (zSc_ch h2 (zCh_e hc1 (iup_n _ (by omega)) (iup_n _ (by omega)))) ?_ ?_) (by omega), fun y => ?_⟩
        · rw [zSc_x h2 b x k1, iup_n _ (by omega), zFs_x h1 b x k1, iup_n _ (by omega)]
        · rw [zSc_x h2 8 9 (by unfold zSx; omega), iup_n _ (by omega), zFs_x h1 8 9 (by unfold zSx; omega), iup_s]
        · rw [zSc_x h2 178 5 (by unfold zSx; omega), iup_s]
        · rw [zSc_x h2 0 y (by unfold zSx; omega), iup_n _ (by omega), zFs_x h1 0 y (by unfold zSx; omega), iup_n _ (by omega)]
      by_cases g1 : ι 19 r = -1
      · rw [if_pos g1] at q1 q2 q3
        rw [if_pos g1]
        rw [if_pos (by decide)] at q2 q3
        exact ⟨q2, fin 1 q1 q3⟩
      · rw [if_neg g1] at q1 q2 q3
        rw [if_neg g1]
        by_cases g2 : ¬ (0 ≤ i ∧ 0 ≤ n ∧ i ≤ ι 20 r ∧ n ≤ ι 20 r - i)
        · rw [if_pos g2] at q1 q2 q3
          rw [if_pos g2]
          rw [if_pos (by decide)] at q2 q3
          exact ⟨q2, fin 2 q1 q3⟩
        · rw [if_neg g2] at q1 q2 q3
          rw [if_neg g2]
          rw [if_neg (by decide)] at q2 q3
          refine ⟨?_, fin 0 q1 q3⟩
          obtain ⟨a1, a2, a3, a4, a5, a6⟩ := hI.2.2.2.2.2.1 r (by omega) (by omega)
          rw [q2, zRl_fit (hr (by omega)) (by omega) (by omega) (by omega) _ (by omega)]
          congr 2
          refine zfit_c (fun e x0 x1 => ?_)
          rw [hf 183 _ (by decide) (by omega), show 40 * r + i + e = 40 * r + (i + e) by omega]
          exact ((a6 (i + e) (by omega) (by omega)).2.2 g1).symm
/-! rows -/
theorem o_row (hI : Iv ι B) {r k n : Int} (hr : zB r) (hk : zB k) (hn : zB n) : zOp l (zc D ad L z) mX6_row mX7_row 2 2 [zI r, zI k, zI n] ι B := by
  refine ⟨_, c_xRow hr hk hn, fun v1 ι1 q1 => ⟨_, q1.1, fun y => by
    rw [q1.2]
    (repeat' split) <;> first | rfl | simp (disch := omega) only [iup_n, ifill_n, icpy_n], _, c_mRow (ι := ι1) hr hk hn, fun v2 ι2 q2 => ⟨q2.1, ?_⟩⟩⟩
  obtain ⟨-, q1⟩ := q1
  obtain ⟨-, q2⟩ := q2
  by_cases g : ¬ ((0 ≤ r ∧ r ≤ 7) ∧ (0 ≤ k ∧ k ≤ 2) ∧ n ≤ 40)
  · rw [if_pos g] at q1 q2
    subst q1; subst q2
    exact ⟨Iv_m hI (by omega), fun _ => rfl⟩
  · rw [if_neg g] at q1 q2
    by_cases g1 : n < 0
    · rw [if_pos g1] at q1 q2
      subst q1; subst q2
      exact ⟨Iv_m (Iv_s hI (v := 4) (fun b x h1 h2 h3 => by rw [iup_n _ (by omega), iup_n _ (by omega)]) (zCh_e hI.2.1 (by rw [iup_n _ (by omega), iup_n _ (by omega)]) (by rw [iup_n _ (by omega), iup_n _ (by omega)])) (by rw [iup_n _ (by omega), iup_s]) (by rw [iup_s])) (by omega), fun y => by rw [iup_n _ (by omega), iup_n _ (by omega)]⟩
    · rw [if_neg g1] at q1 q2
      have ho : ∀ b x, b ≠ 19 → b ≠ 20 → b ≠ 8 → b ≠ 178 → b ≠ 181 → b ≠ 182 → (b ≠ 11 + r.toNat ∨ x < 0 ∨ 40 ≤ x) → (b ≠ 183 ∨ x < 40 * r ∨ 40 * r + 40 ≤ x) → ι2 b x = ι b x := fun b x h1 h2 h3 h4 h5 h6 h7 h8 => by
        rw [q2]
        unfold ifl
        rw [if_neg (by omega), iup_n _ (by omega), iup_n _ (by omega), iup_n _ (by omega), q1, iup_n _ (by omega), iup_n _ (by omega), iup_n _ (by omega), ifill_n _ (by omega)]
      have e19 : ∀ x, ι2 19 x = if x = r then k else ι 19 x := fun x => by
        rw [q2]; unfold ifl; rw [if_neg (by omega), iup_n _ (by omega), iup_n _ (by omega), iup_n _ (by omega), q1, iup_n _ (by omega), iup_n _ (by omega)]
        by_cases gx : x = r
        · rw [if_pos gx, gx, iup_s]
        · rw [if_neg gx, iup_n _ (by omega), ifill_n _ (by omega)]
      have e20 : ∀ x, ι2 20 x = if x = r then n else ι 20 x := fun x => by
        rw [q2]; unfold ifl; rw [if_neg (by omega), iup_n _ (by omega), iup_n _ (by omega), iup_n _ (by omega), q1, iup_n _ (by omega)]
        by_cases gx : x = r
        · rw [if_pos gx, gx, iup_s]
        · rw [if_neg gx, iup_n _ (by omega), iup_n _ (by omega), ifill_n _ (by omega)]
      have e181 : ∀ x, ι2 181 x = if x = r then n else ι 181 x := fun x => by
        rw [q2]; unfold ifl; rw [if_neg (by omega), iup_n _ (by omega)]
        by_cases gx : x = r
        · rw [if_pos gx, gx, iup_s]
        · rw [if_neg gx, iup_n _ (by omega), iup_n _ (by omega), q1, iup_n _ (by omega), iup_n _ (by omega), iup_n _ (by omega), ifill_n _ (by omega)]
      have e182 : ∀ x, ι2 182 x = if x = r then k else ι 182 x := fun x => by
        rw [q2]; unfold ifl; rw [if_neg (by omega)]
        by_cases gx : x = r
        · rw [if_pos gx, gx, iup_s]
        · rw [if_neg gx, iup_n _ (by omega), iup_n _ (by omega), iup_n _ (by omega), q1, iup_n _ (by omega), iup_n _ (by omega), iup_n _ (by omega), ifill_n _ (by omega)]
      have e8 : ι2 8 9 = 0 := by rw [q2]; unfold ifl; rw [if_neg (by omega), iup_n _ (by omega), iup_n _ (by omega), iup_n _ (by omega), q1, iup_s]
      have e178 : ι2 178 5 = 0 := by rw [q2]; unfold ifl; rw [if_neg (by omega), iup_n _ (by omega), iup_n _ (by omega), iup_s]
      refine ⟨Iv_m (Iv_w hI (fun b x h1 h2 h3 h4 => ?_) (zCh_e hI.2.1 (ho 165 3 (by omega) (by omega) (by omega) (by omega) (by omega) (by omega) (by omega) (by omega)) (ho 165 4 (by omega) (by omega) (by omega) (by omega) (by omega) (by omega) (by omega) (by omega))) (fun r' r0 r1 => ?_) (by rw [e8, e178])) (by omega), fun y => ho 0 y (by omega) (by omega) (by omega) (by omega) (by omega) (by omega) (by omega) (by omega)⟩
      · by_cases gb : b = 8 ∨ b = 178
        · rw [q2]; unfold ifl; rw [if_neg (by omega), iup_n _ (by omega), iup_n _ (by omega), iup_n _ (by omega), q1, iup_n _ (by omega), iup_n _ (by omega), iup_n _ (by omega), ifill_n _ (by omega)]
        · exact ho b x (by omega) (by omega) (by omega) (by omega) (by omega) (by omega) (by omega) (by omega)
      · rw [e19, e20, e181, e182]
        obtain ⟨a1, a2, a3, a4, a5, a6⟩ := hI.2.2.2.2.2.1 r' r0 r1
        by_cases gr : r' = r
        · rw [if_pos gr, if_pos gr, if_pos gr, if_pos gr, gr]
          refine ⟨by omega, by omega, by rw [if_neg (by omega)], fun _ => rfl, ⟨by omega, by omega⟩, fun i i0 i1 => ?_⟩
          have z1 : ι2 (11 + r.toNat) i = 0 := by
            rw [q2]; unfold ifl; rw [if_neg (by omega), iup_n _ (by omega), iup_n _ (by omega), iup_n _ (by omega), q1, iup_n _ (by omega), iup_n _ (by omega), iup_n _ (by omega)]
            exact if_pos ⟨rfl, i0, i1⟩
          have z2 : ι2 183 (40 * r + i) = 0 := by rw [q2]; exact if_pos ⟨rfl, by omega, by omega⟩
          rw [z1, z2]
          exact ⟨by decide, by decide, fun _ => rfl⟩
        · rw [if_neg gr, if_neg gr, if_neg gr, if_neg gr]
          refine ⟨a1, a2, a3, a4, a5, fun i i0 i1 => ?_⟩
          rw [ho (11 + r'.toNat) i (by omega) (by omega) (by omega) (by omega) (by omega) (by omega) (by omega) (by omega), ho 183 (40 * r' + i) (by omega) (by omega) (by omega) (by omega) (by omega) (by omega) (by omega) (by omega)]
          exact a6 i i0 i1
end
