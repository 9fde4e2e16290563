section
variable {l : Launch} {D : va_G} {ad : Nat → Nat} {L z : Nat} {ι : zi} {B : Int}
theorem zkp_b {k v : Int} (hv : zB v) : zB (zkp k v) := by
  unfold zkp
  split
  · exact zi32_b _
  · split
    · exact zi32_b _
    · exact hv
theorem o_set (hI : Iv ι B) {r i v : Int} (hr : zB r) (hi : zB i) (hv : zB v) : zOp l (zc D ad L z) mX6_set mX7_set 2 2 [zI r, zI i, zI v] ι B := by
  obtain ⟨l1, l2, l3, l4, l5, l6⟩ := Iv_L hI
  have hfr : ∀ ι1, (ι1 = if ¬ (0 ≤ r ∧ r ≤ 7) then ι else if ι 19 r = -1 then iup ι 8 9 1 else if ¬ (0 ≤ i ∧ 0 ≤ (1 : Int) ∧ i ≤ ι 20 r ∧ 1 ≤ ι 20 r - i) then iup ι 8 9 2 else iup (iup ι (11 + r.toNat) i (zkp (ι 19 r) v)) 8 9 0) → ∀ b x, b ≠ 8 → b ≠ 11 + r.toNat → ι1 b x = ι b x := fun ι1 h b x h8 hb => by
    rw [h]
    (repeat' split) <;> first | rfl | simp (disch := omega) only [iup_n]
  refine ⟨_, c_xSet l1 l2 hr hi, fun v1 ι1 q1 => ⟨_, q1.1, fun y => by
    rw [q1.2]
    (repeat' split) <;> first | rfl | simp (disch := omega) only [iup_n, ifill_n, icpy_n], _, c_mSet (ι := ι1) hr hi ?_ ?_, fun v2 ι2 q2 => ?_⟩⟩
  · intro k k0 k1
    by_cases g : 0 ≤ r ∧ r ≤ 7
    · rw [hfr ι1 q1.2 181 k (by decide) (by omega)]; exact l3 k k0 k1
    · obtain ⟨-, q⟩ := q1; rw [if_pos g] at q; rw [q]; exact l3 k k0 k1
  · intro k k0 k1
    by_cases g : 0 ≤ r ∧ r ≤ 7
    · rw [hfr ι1 q1.2 182 k (by decide) (by omega)]; exact l4 k k0 k1
    · obtain ⟨-, q⟩ := q1; rw [if_pos g] at q; rw [q]; exact l4 k k0 k1
  · have hf := hfr ι1 q1.2
    obtain ⟨-, q1⟩ := q1
    obtain ⟨q2, q3⟩ := q2
    by_cases g : ¬ (0 ≤ r ∧ r ≤ 7)
    · rw [if_pos g] at q1 q2 q3
      subst q1; subst q3
      exact ⟨by rw [q2, if_pos g], Iv_m hI (by omega), fun _ => rfl⟩
    · have hz := zag_e hI (r := r) (i := i) (n := 1) (by omega) (by omega)
      obtain ⟨a1, a2, a3, a4, a5, a6⟩ := hI.2.2.2.2.2.1 r (by omega) (by omega)
      rw [if_neg g] at q1 q2 q3
      rw [hf 181 r (by decide) (by omega), hz, hf 182 r (by decide) (by omega)] at q2 q3
      have fin : ∀ st : Int, ι1 = iup ι 8 9 st → ι2 = iup ι1 178 5 st → Iv ι2 (B + 60) ∧ ∀ y, ι2 0 y = ι 0 y := fun st h1 h2 => by
        subst h1; subst h2
        exact ⟨Iv_m (Iv_s hI (v := st) (fun b x h1 h2 h3 => by rw [iup_n _ (by omega), iup_n _ (by omega)]) (zCh_e hI.2.1 (by rw [iup_n _ (by omega), iup_n _ (by omega)]) (by rw [iup_n _ (by omega), iup_n _ (by omega)])) (by rw [iup_n _ (by omega), iup_s]) (by rw [iup_s])) (by omega), fun y => by rw [iup_n _ (by omega), iup_n _ (by omega)]⟩
      rw [if_neg g]
      by_cases g1 : ι 19 r = -1
      · rw [if_pos g1] at q1 q2 q3
        rw [if_pos g1]
        rw [if_pos (by decide)] at q2 q3
        exact ⟨q2, fin 1 q1 q3⟩
      · rw [if_neg g1] at q1 q2 q3
        rw [if_neg g1]
        by_cases g2 : ¬ (0 ≤ i ∧ 0 ≤ (1 : Int) ∧ i ≤ ι 20 r ∧ 1 ≤ ι 20 r - i)
        · rw [if_pos g2] at q1 q2 q3
          rw [if_pos g2]
          rw [if_pos (by decide)] at q2 q3
          exact ⟨q2, fin 2 q1 q3⟩
        · rw [if_neg g2] at q1 q2 q3
          rw [if_neg g2]
          rw [if_neg (by decide), a4 g1] at q2 q3
          have kb := zkp_b (k := ι 19 r) hv
          have ho : ∀ b x, ¬ (b = 8 ∧ x = 9) → ¬ (b = 178 ∧ x = 5) → (b ≠ 11 + r.toNat ∨ x ≠ i) → (b ≠ 183 ∨ x ≠ 40 * r + i) → ι2 b x = ι b x := fun b x h1 h2 h3 h4 => by
            rw [q3, iup_n _ (by omega), iup_n _ (by omega), q1, iup_n _ (by omega), iup_n _ (by omega)]
          refine ⟨q2, Iv_m (Iv_w hI (fun b x h1 h2 h3 h4 => ho b x h3 h4 (by omega) (by omega)) (zCh_e hI.2.1 (ho 165 3 (by omega) (by omega) (by omega) (by omega)) (ho 165 4 (by omega) (by omega) (by omega) (by omega))) (fun r' r0 r1 => ?_) ?_) (by omega), fun y => ho 0 y (by omega) (by omega) (by omega) (by omega)⟩
          · rw [ho 19 r' (by omega) (by omega) (by omega) (by omega), ho 20 r' (by omega) (by omega) (by omega) (by omega), ho 181 r' (by omega) (by omega) (by omega) (by omega), ho 182 r' (by omega) (by omega) (by omega) (by omega)]
            obtain ⟨b1, b2, b3, b4, b5, b6⟩ := hI.2.2.2.2.2.1 r' r0 r1
            refine ⟨b1, b2, b3, b4, b5, fun j j0 j1 => ?_⟩
            by_cases gr : r' = r ∧ j = i
            · obtain ⟨rfl, rfl⟩ := gr
              have z1 : ι2 (11 + r'.toNat) j = zkp (ι 19 r') v := by rw [q3, iup_n _ (by omega), iup_n _ (by omega), q1, iup_n _ (by omega), iup_s]
              have z2 : ι2 183 (40 * r' + j) = zkp (ι 19 r') v := by rw [q3, iup_s]
              rw [z1, z2]
              exact ⟨kb, kb, fun _ => rfl⟩
            · rw [ho (11 + r'.toNat) j (by omega) (by omega) (by omega) (by omega), ho 183 (40 * r' + j) (by omega) (by omega) (by omega) (by omega)]
              exact b6 j j0 j1
          · rw [q3, iup_n _ (by omega), iup_n _ (by omega), iup_n _ (by omega), iup_s, q1, iup_s]
theorem o_drop (hI : Iv ι B) {r : Int} (hr : zB r) : zOp l (zc D ad L z) mX6_drop mX7_drop 2 2 [zI r] ι B := by
  obtain ⟨l1, l2, l3, l4, l5, l6⟩ := Iv_L hI
  have hfr : ∀ ι1, (ι1 = if ¬ (0 ≤ r ∧ r ≤ 7) then ι else if ι 19 r = -1 then iup ι 8 9 1 else iup (iup (iup ι 19 r (-1)) 20 r 0) 8 9 0) → ∀ b x, b ≠ 8 → b ≠ 19 → b ≠ 20 → ι1 b x = ι b x := fun ι1 h b x h8 hb hc => by
    rw [h]
    (repeat' split) <;> first | rfl | simp (disch := omega) only [iup_n]
  refine ⟨_, c_xDrop l1 l2 hr, fun v1 ι1 q1 => ⟨_, q1.1, fun y => by
    rw [q1.2]
    (repeat' split) <;> first | rfl | simp (disch := omega) only [iup_n, ifill_n, icpy_n], _, c_mDrop (ι := ι1) hr ?_, fun v2 ι2 q2 => ?_⟩⟩
  · intro k k0 k1
    rw [hfr ι1 q1.2 181 k (by decide) (by decide) (by decide)]; exact l3 k k0 k1
  · have hf := hfr ι1 q1.2
    obtain ⟨-, q1⟩ := q1
    obtain ⟨q2, q3⟩ := q2
    rw [hf 181 r (by decide) (by decide) (by decide)] at q2 q3
    by_cases g : ¬ (0 ≤ r ∧ r ≤ 7)
    · rw [if_pos g] at q1 q2 q3
      subst q1; subst q3
      exact ⟨by rw [q2, if_pos g], Iv_m hI (by omega), fun _ => rfl⟩
    · obtain ⟨a1, a2, a3, a4, a5, a6⟩ := hI.2.2.2.2.2.1 r (by omega) (by omega)
      rw [if_neg g] at q1 q2 q3
      rw [if_neg g]
      by_cases g1 : ι 19 r = -1
      · rw [if_pos g1] at q1 a3
        rw [a3, if_pos (by decide)] at q2 q3
        rw [if_pos g1]
        subst q1; subst q3
        exact ⟨q2, Iv_m (Iv_s hI (v := 1) (fun b x h1 h2 h3 => by rw [iup_n _ (by omega), iup_n _ (by omega)]) (zCh_e hI.2.1 (by rw [iup_n _ (by omega), iup_n _ (by omega)]) (by rw [iup_n _ (by omega), iup_n _ (by omega)])) (by rw [iup_n _ (by omega), iup_s]) (by rw [iup_s])) (by omega), fun y => by rw [iup_n _ (by omega), iup_n _ (by omega)]⟩
      · rw [if_neg g1] at q1 a3
        rw [a3, if_neg (by omega)] at q2 q3
        rw [if_neg g1]
        have ho : ∀ b x, ¬ (b = 8 ∧ x = 9) → ¬ (b = 178 ∧ x = 5) → (b ≠ 19 ∨ x ≠ r) → (b ≠ 20 ∨ x ≠ r) → (b ≠ 181 ∨ x ≠ r) → ι2 b x = ι b x := fun b x h1 h2 h3 h4 h5 => by
          rw [q3, iup_n _ (by omega), iup_n _ (by omega), q1, iup_n _ (by omega), iup_n _ (by omega), iup_n _ (by omega)]
        refine ⟨q2, Iv_m (Iv_w hI (fun b x h1 h2 h3 h4 => ho b x h3 h4 (by omega) (by omega) (by omega)) (zCh_e hI.2.1 (ho 165 3 (by omega) (by omega) (by omega) (by omega) (by omega)) (ho 165 4 (by omega) (by omega) (by omega) (by omega) (by omega))) (fun r' r0 r1 => ?_) ?_) (by omega), fun y => ho 0 y (by omega) (by omega) (by omega) (by omega) (by omega)⟩
        · obtain ⟨b1, b2, b3, b4, b5, b6⟩ := hI.2.2.2.2.2.1 r' r0 r1
          by_cases gr : r' = r
          · subst gr
            have z1 : ι2 19 r' = -1 := by rw [q3, iup_n _ (by omega), iup_n _ (by omega), q1, iup_n _ (by omega), iup_n _ (by omega), iup_s]
            have z2 : ι2 20 r' = 0 := by rw [q3, iup_n _ (by omega), iup_n _ (by omega), q1, iup_n _ (by omega), iup_s]
            have z3 : ι2 181 r' = -1 := by rw [q3, iup_s]
            rw [z1, z2, z3, ho 182 r' (by omega) (by omega) (by omega) (by omega) (by omega)]
            refine ⟨by decide, by decide, rfl, fun q => absurd rfl q, b5, fun j j0 j1 => ?_⟩
            rw [ho (11 + r'.toNat) j (by omega) (by omega) (by omega) (by omega) (by omega), ho 183 (40 * r' + j) (by omega) (by omega) (by omega) (by omega) (by omega)]
            exact ⟨(b6 j j0 j1).1, (b6 j j0 j1).2.1, fun q => absurd rfl q⟩
          · rw [ho 19 r' (by omega) (by omega) (by omega) (by omega) (by omega), ho 20 r' (by omega) (by omega) (by omega) (by omega) (by omega), ho 181 r' (by omega) (by omega) (by omega) (by omega) (by omega), ho 182 r' (by omega) (by omega) (by omega) (by omega) (by omega)]
            refine ⟨b1, b2, b3, b4, b5, fun j j0 j1 => ?_⟩
            rw [ho (11 + r'.toNat) j (by omega) (by omega) (by omega) (by omega) (by omega), ho 183 (40 * r' + j) (by omega) (by omega) (by omega) (by omega) (by omega)]
            exact b6 j j0 j1
        · rw [q3, iup_n _ (by omega), iup_n _ (by omega), iup_n _ (by omega), iup_s, q1, iup_s]
end
