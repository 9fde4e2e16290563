section
variable {l : Launch} {D : va_G} {ad : Nat → Nat} {L z : Nat} {ι : zi} {B : Int}
theorem o_undo (hI : Iv ι B) : zOp l (zc D ad L z) mX6_undo mX7_undo 3 1 [] ι B := by
  obtain ⟨a1, a2, a3, a4, a5, a6, a7, a8, a9⟩ := id hI
  obtain ⟨u1, u2, u3, u4⟩ := id a5
  have hfr : ∀ ι1, (ι1 = if ι 43 2 = 0 then ι else tp 23 (tb (45 + 5 * ((ι 43 1 + 24 - 1) % 24).toNat) ι) (iup (iup ι 43 1 ((ι 43 1 + 24 - 1) % 24)) 43 2 (ι 43 2 - 1))) → ∀ b x, b < 23 ∨ 28 ≤ b → b ≠ 43 → ι1 b x = ι b x := fun ι1 h b x h1 h2 => by
    rw [h]; split
    · rfl
    · rw [tp_o 23 _ _ (by omega) x, iup_n _ (by omega), iup_n _ (by omega)]
  refine ⟨_, c_xUndo u1 u2, fun v1 ι1 q1 => ⟨_, q1.1, fun y => hfr ι1 q1.2 0 y (by omega) (by omega), _, c_mUndo (ι := ι1) ?_, fun v2 ι2 q2 => ?_⟩⟩
  · rw [hfr ι1 q1.2 178 1 (by omega) (by omega), u3]; exact u2
  · have hf := hfr ι1 q1.2
    obtain ⟨-, q1⟩ := q1
    obtain ⟨q2, q3⟩ := q2
    rw [hf 178 1 (by omega) (by omega), u3] at q2 q3
    refine ⟨q2, ?_⟩
    by_cases g : ι 43 2 = 0
    · rw [if_pos g] at q1 q3
      subst q1; subst q3
      exact ⟨Iv_m hI (by omega), fun _ => rfl⟩
    · rw [if_neg g] at q1 q3
      have hw : wb (190 + 38 * (ι 43 2 - 1)) ι1 = wb (190 + 38 * (ι 43 2 - 1)) ι := wb_fr (fun x _ _ => hf 179 x (by omega) (by omega))
      rw [hw] at q3
      have so : ∀ b x, b < 23 ∨ 28 ≤ b → b ≠ 43 → (b ≠ 178 ∨ x ≠ 1) → (b ≠ 179 ∨ 38 ≤ x) → ι2 b x = ι b x := fun b x h1 h2 h3 h4 => by rw [q3, wp_o _ _ _ (by omega), iup_n _ (by omega), hf b x h1 h2]
      have t1 : ∀ a, a ≠ 23 → (a + 5 ≤ 23 ∨ 28 ≤ a) → (a + 5 ≤ 43 ∨ 44 ≤ a) → a + 5 ≤ 178 → tb a ι2 = tb a ι := fun a h0 h1 h2 h3 => tb_fr (fun b x b0 b1 => so b x (by omega) (by omega) (by omega) (by omega))
      have c1 : ι2 43 1 = (ι 43 1 + 24 - 1) % 24 := by rw [q3, wp_o _ _ _ (Or.inl (by decide)), iup_n _ (by omega), q1, tp_o 23 _ _ (by omega) 1, iup_n _ (by omega), iup_s]
      have c2 : ι2 43 2 = ι 43 2 - 1 := by rw [q3, wp_o _ _ _ (Or.inl (by decide)), iup_n _ (by omega), q1, tp_o 23 _ _ (by omega) 2, iup_s]
      have m1 : ι2 178 1 = ι 43 2 - 1 := by rw [q3, wp_o _ _ _ (Or.inl (by decide)), iup_s]
      have hlast := u4 (ι 43 2 - 1) (by omega) (by omega)
      refine ⟨Iv_m (B := B) ⟨zPre_fr a1 (fun b x hb => so b x (by omega) (by omega) (by omega) (by omega)), zCh_e a2 (so 165 3 (by omega) (by omega) (by omega) (by omega)) (so 165 4 (by omega) (by omega) (by omega) (by omega)), ?_, zIg_fr a4 (fun b x hb => so b x (by omega) (by omega) (by omega) (by omega)), ?_, zW_fr a6 (fun b x hb => so b x (by omega) (by omega) (by omega) (by omega)), zTa_fr a7 (fun b x hb => so b x (by omega) (by omega) (by omega) (by omega)), by rw [so 8 9 (by omega) (by omega) (by omega) (by omega), so 178 5 (by omega) (by omega) (by omega) (by omega)]; exact a8, zTc_fr a9 (fun b x hb => so b x (by omega) (by omega) (by omega) (by omega))⟩ (by omega), fun y => so 0 y (by omega) (by omega) (by omega) (by omega)⟩
      · have e1 : tb 23 ι2 = tb (zRg ι (ι 43 2 - 1)) ι := by
          have e2 : tb 23 ι2 = tb 23 ι1 := tb_fr (fun b x b0 b1 => by rw [q3, wp_o _ _ _ (by omega), iup_n _ (by omega)])
          rw [e2, q1, tb_tp 23 (tb_tz _ ι)]
          unfold zRg
          rw [show (ι 43 1 + 24 - 1) % 24 = (ι 43 1 - ι 43 2 + (ι 43 2 - 1) + 24) % 24 by omega]
        have e3 : wb 0 ι2 = wb (190 + 38 * (ι 43 2 - 1)) ι := by rw [q3, wb_wp 0 (wb_tz _ ι)]
        rw [e1, e3]
        exact hlast
      · refine ⟨by rw [c1]; exact ⟨Int.emod_nonneg _ (by decide), Int.emod_lt_of_pos _ (by decide)⟩, by rw [c2]; omega, by rw [c2, m1], fun j j0 j1 => ?_⟩
        rw [c2] at j1
        have er : zRg ι2 j = zRg ι j := by
          unfold zRg
          rw [c1, c2, show ((ι 43 1 + 24 - 1) % 24 - (ι 43 2 - 1) + j + 24) % 24 = (ι 43 1 - ι 43 2 + j + 24) % 24 by omega]
        have hb : 45 ≤ zRg ι j ∧ zRg ι j ≤ 160 := by unfold zRg; omega
        rw [er, t1 _ (by omega) (by omega) (by omega) (by omega), wb_fr (fun x x0 x1 => so 179 x (by omega) (by omega) (by omega) (by omega))]
        exact u4 j j0 (by omega)
theorem o_image (hI : Iv ι B) (hB : B ≤ 90000) {k : Int} (hk : zB k) : zOp l (zc D ad L z) mX6_image mX7_image 2 1 [zI k] ι B := by
  obtain ⟨hT, hd, hM, e0, e1, e2, e3, e4, e5, hr⟩ := Iv_e hI hB
  obtain ⟨a1, a2, a3, a4, a5, a6, a7, a8, a9⟩ := id hI
  have hz : 33 ≤ zim2 k ∧ zim2 k ≤ 38 := by unfold zim2; split <;> omega
  have hfr : ∀ ι1, (ι1 = if (0 ≤ k ∧ k ≤ 1) ∧ 0 < tb 23 ι 0 then tp (zim2 k) (tb 23 ι) ι else ι) → ∀ b x, b < zim2 k ∨ zim2 k + 5 ≤ b → ι1 b x = ι b x := fun ι1 h b x h1 => by
    rw [h]; split
    · rw [tp_o _ _ _ (by omega) x]
    · rfl
  refine ⟨_, c_xImage hT hk, fun v1 ι1 q1 => ⟨_, q1.1, fun y => hfr ι1 q1.2 0 y (by omega), _, c_mImage (ι := ι1) ?_ hk, fun v2 ι2 q2 => ?_⟩⟩
  · rw [wb_fr (fun x _ _ => hfr ι1 q1.2 179 x (by omega))]; exact hM
  · have hf := hfr ι1 q1.2
    have ew : wb 0 ι1 = wb 0 ι := wb_fr (fun x _ _ => hf 179 x (by omega))
    obtain ⟨-, q1⟩ := q1
    obtain ⟨q2, q3⟩ := q2
    rw [ew] at q2 q3
    rw [e0] at q1
    refine ⟨by rw [q2, e0], ?_⟩
    by_cases g : (0 ≤ k ∧ k ≤ 1) ∧ 0 < wb 0 ι 0
    · rw [if_pos g] at q1 q3
      have so : ∀ b x, b < zim2 k ∨ zim2 k + 5 ≤ b → (b ≠ 186 ∨ x ≠ k) → (b ≠ 179 ∨ x < 76 + 38 * k ∨ 76 + 38 * k + 38 ≤ x) → ι2 b x = ι b x := fun b x h1 h2 h3 => by rw [q3, iup_n _ h2, wp_o _ _ _ h3, hf b x h1]
      refine ⟨Iv_m (B := B) ⟨zPre_fr a1 (fun b x hb => so b x (by omega) (by omega) (by omega)), zCh_e a2 (so 165 3 (by omega) (by omega) (by omega)) (so 165 4 (by omega) (by omega) (by omega)), ?_, ?_, zU_fr a5 (fun b x hb => so b x (by omega) (by omega) (by omega)), zW_fr a6 (fun b x hb => so b x (by omega) (by omega) (by omega)), zTa_fr a7 (fun b x hb => so b x (by omega) (by omega) (by omega)), by rw [so 8 9 (by omega) (by omega) (by omega), so 178 5 (by omega) (by omega) (by omega)]; exact a8, zTc_fr a9 (fun b x hb => so b x (by omega) (by omega) (by omega))⟩ (by omega), fun y => so 0 y (by omega) (by omega) (by omega)⟩
      · rw [tb_fr (fun b x b0 b1 => so b x (by omega) (by omega) (by omega)), wb_fr (fun x x0 x1 => so 179 x (by omega) (by omega) (by omega))]
        exact a3
      · intro k' k0 k1
        by_cases gk : k' = k
        · subst gk
          have f1 : ι2 186 k' = 1 := by rw [q3, iup_s]
          have f2 : tb (zim2 k') ι2 = tb 23 ι := by
            rw [tb_fr (ι := ι1) (fun b x b0 b1 => by rw [q3, iup_n _ (by omega), wp_o _ _ _ (by omega)]), q1, tb_tp _ (tb_tz 23 ι)]
          have f3 : wb (76 + 38 * k') ι2 = wb 0 ι := by rw [q3, wb_up (Or.inl (by decide)), wb_wp _ (wb_tz 0 ι)]
          rw [f1, f2, f3]
          exact Or.inr ⟨rfl, a3, g.2⟩
        · have hz' : (zim2 k = 33 ∧ zim2 k' = 38) ∨ (zim2 k = 38 ∧ zim2 k' = 33) := by unfold zim2; (repeat' split) <;> omega
          rw [so 186 k' (by omega) (by omega) (by omega), tb_fr (fun b x b0 b1 => so b x (by omega) (by omega) (by omega)), wb_fr (fun x x0 x1 => so 179 x (by omega) (by omega) (by omega))]
          exact a4 k' k0 k1
    · rw [if_neg g] at q1 q3
      subst q1; subst q3
      exact ⟨Iv_m hI (by omega), fun _ => rfl⟩
theorem o_restore (hI : Iv ι B) {k : Int} (hk : zB k) : zOp l (zc D ad L z) mX6_restore mX7_restore 2 1 [zI k] ι B := by
  obtain ⟨a1, a2, a3, a4, a5, a6, a7, a8, a9⟩ := id hI
  have hz : 33 ≤ zim2 k ∧ zim2 k ≤ 38 := by unfold zim2; split <;> omega
  have hIm : ∀ a, a = 33 ∨ a = 38 → zB (ι a 4) := fun a ha => by
    have key : ∀ k', 0 ≤ k' → k' ≤ 1 → zB (ι (zim2 k') 4) := fun k' k0 k1 => by
      rw [← tb_0 (zim2 k') ι]
      rcases a4 k' k0 k1 with ⟨-, h⟩ | ⟨-, h, -⟩
      · rw [h]; decide
      · have h1 := h.1.1 0 (by decide) (by decide)
        have h2 := h.2.1.1.1
        rw [h1]
        exact ⟨by omega, by omega⟩
    rcases ha with rfl | rfl
    · exact key 0 (by decide) (by decide)
    · exact key 1 (by decide) (by decide)
  have hfr : ∀ ι1, (ι1 = if (0 ≤ k ∧ k ≤ 1) ∧ ¬ tb (zim2 k) ι 0 = 0 then iup (tp 23 (tb (zim2 k) ι) ι) 43 2 0 else ι) → ∀ b x, b < 23 ∨ 28 ≤ b → (b ≠ 43 ∨ x ≠ 2) → ι1 b x = ι b x := fun ι1 h b x h1 h2 => by
    rw [h]; split
    · rw [iup_n _ h2, tp_o _ _ _ (by omega) x]
    · rfl
  have h01 : ∀ k', 0 ≤ k' → k' ≤ 1 → ι 186 k' = 0 ∨ ι 186 k' = 1 := fun k' k0 k1 => by
    rcases a4 k' k0 k1 with ⟨h, -⟩ | ⟨h, -⟩
    · exact Or.inl h
    · exact Or.inr h
  by_cases gk : 0 ≤ k ∧ k ≤ 1
  · have hbk : zB (ι 186 k) := by rcases h01 k gk.1 gk.2 with h | h <;> rw [h] <;> decide
    refine ⟨_, c_xRestore hk hIm, fun v1 ι1 q1 => ⟨_, q1.1, fun y => hfr ι1 q1.2 0 y (by omega) (by omega), _, c_mRestore (ι := ι1) (k := k) (by rw [hfr ι1 q1.2 186 k (by omega) (by omega)]; exact hbk) hk, fun v2 ι2 q2 => ?_⟩⟩
    have hf := hfr ι1 q1.2
    have ew : wb (76 + 38 * k) ι1 = wb (76 + 38 * k) ι := wb_fr (fun x _ _ => hf 179 x (by omega) (by omega))
    obtain ⟨-, q1⟩ := q1
    obtain ⟨q2, q3⟩ := q2
    rw [hf 186 k (by omega) (by omega), if_neg (fun q => q gk)] at q2
    rw [hf 186 k (by omega) (by omega), ew] at q3
    rw [if_neg (fun q => q gk)]
    rcases a4 k gk.1 gk.2 with ⟨f1, f2⟩ | ⟨f1, f2, f3⟩
    · rw [f1, if_pos rfl] at q2
      rw [f1, if_neg (fun q => q.2 rfl)] at q3
      rw [f2] at q1 ⊢
      rw [if_neg (fun q => q.2 rfl)] at q1
      rw [if_pos rfl]
      subst q1; subst q3
      exact ⟨q2, Iv_m hI (by omega), fun _ => rfl⟩
    · have hN := f2.1.1 0 (by decide) (by decide)
      rw [f1, if_neg (by decide)] at q2
      rw [f1, if_pos ⟨gk, by decide⟩] at q3
      rw [if_pos ⟨gk, by omega⟩] at q1
      rw [if_neg (by omega)]
      have so : ∀ b x, b < 23 ∨ 28 ≤ b → (b ≠ 43 ∨ x ≠ 2) → (b ≠ 178 ∨ x ≠ 1) → (b ≠ 179 ∨ x < 0 ∨ 38 ≤ x) → ι2 b x = ι b x := fun b x h1 h2 h3 h4 => by rw [q3, iup_n _ h3, wp_o _ _ _ (by omega), hf b x h1 h2]
      refine ⟨q2, Iv_m (B := B) ⟨zPre_fr a1 (fun b x hb => so b x (by omega) (by omega) (by omega) (by omega)), zCh_e a2 (so 165 3 (by omega) (by omega) (by omega) (by omega)) (so 165 4 (by omega) (by omega) (by omega) (by omega)), ?_, zIg_fr a4 (fun b x hb => so b x (by omega) (by omega) (by omega) (by omega)), ?_, zW_fr a6 (fun b x hb => so b x (by omega) (by omega) (by omega) (by omega)), zTa_fr a7 (fun b x hb => so b x (by omega) (by omega) (by omega) (by omega)), by rw [so 8 9 (by omega) (by omega) (by omega) (by omega), so 178 5 (by omega) (by omega) (by omega) (by omega)]; exact a8, zTc_fr a9 (fun b x hb => so b x (by omega) (by omega) (by omega) (by omega))⟩ (by omega), fun y => so 0 y (by omega) (by omega) (by omega) (by omega)⟩
      · have e1 : tb 23 ι2 = tb (zim2 k) ι := by
          rw [tb_fr (ι := ι1) (fun b x b0 b1 => by rw [q3, iup_n _ (by omega), wp_o _ _ _ (by omega)]), q1, tb_up (by omega), tb_tp 23 (tb_tz _ ι)]
        have e3 : wb 0 ι2 = wb (76 + 38 * k) ι := by rw [q3, wb_up (Or.inl (by decide)), wb_wp 0 (wb_tz _ ι)]
        rw [e1, e3]
        exact f2
      · have c1 : ι2 43 1 = ι 43 1 := so 43 1 (by omega) (by omega) (by omega) (by omega)
        have c2 : ι2 43 2 = 0 := by rw [q3, iup_n _ (by omega), wp_o _ _ _ (Or.inl (by decide)), q1, iup_s]
        have m1 : ι2 178 1 = 0 := by rw [q3, iup_s]
        exact ⟨by rw [c1]; exact a5.1, by rw [c2]; decide, by rw [c2, m1], fun j j0 j1 => by rw [c2] at j1; omega⟩
  · refine ⟨_, c_xRestore hk hIm, fun v1 ι1 q1 => ?_⟩
    obtain ⟨p1, q1⟩ := q1
    rw [if_neg (fun q => gk q.1)] at q1
    subst q1
    rw [if_pos gk] at p1
    have hbk : ∃ ιz : zi, ιz = iup ι1 186 k 0 := ⟨_, rfl⟩
    refine ⟨_, p1, fun _ => rfl, _, c_mRestoreB (ι := ι1) gk hk, fun v2 ι2 q2 => ?_⟩
    obtain ⟨q2, q3⟩ := q2
    subst q3
    exact ⟨q2, Iv_m hI (by omega), fun _ => rfl⟩
end
