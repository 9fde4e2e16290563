section
variable {l : Launch} {D : va_G} {ad : Nat → Nat} {L z : Nat} {ι : zi}
/-! Foresight: what it may write -/
def zCh (ι : zi) : Prop := (ι 165 3 = 173 ∧ ι 165 4 = 174) ∨ (ι 165 3 = 174 ∧ ι 165 4 = 173)
def zFs (ι ι' : zi) : Prop := (∀ b x, b < 165 ∨ 176 ≤ b → ι' b x = ι b x) ∧ (zCh ι → zCh ι')
theorem zFs.r (ι : zi) : zFs ι ι := ⟨fun _ _ _ => rfl, id⟩
theorem zFs.t {ι ι' ι'' : zi} (h : zFs ι ι') (g : zFs ι' ι'') : zFs ι ι'' := ⟨fun b x hb => (g.1 b x hb).trans (h.1 b x hb), fun c => g.2 (h.2 c)⟩
theorem zFs_tp (X : zr) (ι : zi) : zFs ι (tp 166 X ι) := ⟨fun b x hb => tp_o 166 X ι (by omega) x, fun h => by unfold zCh at h ⊢; rw [tp_o 166 X ι (by omega) 3, tp_o 166 X ι (by omega) 4]; exact h⟩
theorem zFs.up {ι : zi} {a : Nat} {x v : Int} (h : 165 ≤ a ∧ a ≤ 175) (h2 : a ≠ 165 ∨ (x ≠ 3 ∧ x ≠ 4)) : zFs ι (iup ι a x v) := ⟨fun b y hb => iup_n ι (by omega), fun g => by unfold zCh at g ⊢; rw [iup_n ι (by omega), iup_n ι (by omega)]; exact g⟩
theorem zFs_tb {ι ι' : zi} (h : zFs ι ι') : tb 23 ι' = tb 23 ι := by
  funext i
  unfold tb
  rw [h.1 23 _ (by omega), h.1 (23 + 1) _ (by omega), h.1 (23 + 2) _ (by omega), h.1 (23 + 3) _ (by omega), h.1 (23 + 4) _ (by omega)]
theorem ru_0 {R : zr} {i v : Int} (h : i ≠ 0) : ru R i v 0 = R 0 := ru_n R (Ne.symm h)
set_option maxRecDepth 100000 in
theorem c_townIn (hT : zTM (tb 23 ι)) (hN : 0 < tb 23 ι 0) {n : Int} (hn : 0 ≤ n ∧ n ≤ 60) : zCi l (zc D ad L z) mX2_townIn 5 [zR 165, zR 23, zI n] ι (fun v ι' => v = some (zR 166) ∧ ι' = tp 166 (pasI (tb 23 ι) n) ι) := by
  refine zCt_of (by decide) (Nat.le_of_ble_eq_true rfl) 0 rfl ?_
  obtain ⟨hV, hNB, hH9⟩ := id hT
  obtain ⟨hV0, hV1, hV2, hV3, hV4, hV5, hVk, hVw⟩ := id hV
  have hB := hNB hN
  have q0 := tb_0 23 ι
  have q1 := tb_1 23 ι
  have q2 := tb_2 23 ι
  have q3 := tb_3 23 ι
  have q4 := tb_4 23 ι
  have q5 := tb_5 23 ι
  refine g_aload_n (x := 165) rfl dX2_townIn_0 ?_
  refine g_get fgX2_14 zcl_2 (congrArg Prod.fst sh_165) (by decide) rg_165_0 dX2_townIn_1 ?_
  refine g_aload_n (x := 23) rfl dX2_townIn_4 ?_
  refine i_callV mvX5_become tw_565 (ci := 5) (congrArg Prod.fst sh_166) rfl (by decide) (c_become tt_166 tt_23 (by decide)) (by decide) (st' := []) rfl (Nat.le_of_ble_eq_true rfl) rfl dX2_townIn_5 (fun v_1 ι1 hq_5 => ?_)
  obtain ⟨rfl, hι1⟩ := hq_5
  have e1 : tb 166 ι1 = tb 23 ι := by rw [hι1, tb_tp 166 (tb_tz 23 ι)]
  refine g_aload_n (x := 165) rfl dX2_townIn_8 ?_
  refine g_get fgX2_14 zcl_2 (congrArg Prod.fst sh_165) (by decide) rg_165_0 dX2_townIn_9 ?_
  refine g_iload_n (x := n) rfl dX2_townIn_12 ?_
  refine i_callV mvX5_passHours tw_566 (ci := 5) (congrArg Prod.fst sh_166) rfl (by decide) (c_passHours tt_166 (by rw [e1]; exact hV) (by rw [e1]; exact hB) (n := n) (by omega) (by rw [e1]; omega)) (by decide) (st' := []) rfl (Nat.le_of_ble_eq_true rfl) rfl dX2_townIn_13 (fun v_2 ι2 hq_13 => ?_)
  obtain ⟨rfl, hι2⟩ := hq_13
  rw [e1, hι1, tp_tp] at hι2
  refine g_aload_n (x := 165) rfl dX2_townIn_16 ?_
  refine g_get fgX2_14 zcl_2 (congrArg Prod.fst sh_165) (by decide) rg_165_0 dX2_townIn_17 ?_
  exact i_aret rfl dX2_townIn_20 (⟨rfl, hι2⟩)

set_option maxRecDepth 100000 in
theorem lp_hoursUntilAwake (hT : zTM (tb 23 ι)) (hN : 0 < tb 23 ι 0) {s : Int} (hs : 0 ≤ s ∧ s ≤ 1000) : ∀ i : Int, 0 ≤ i → i ≤ 61 → zGi l (zc D ad L z) mX2_hoursUntilAwake 4 10 [some (zR 165), some (zR 23), some (zI s), some (zI i)] [] (tp 166 (pasI (tb 23 ι) i) ι) (fun v ι' => v = some (zI (zfa (tb 23 ι) s i)) ∧ zFs ι ι') := by
  refine z_loopI (fun i h0 h1 ih => ?_)
  obtain ⟨ι1, hι1⟩ : ∃ y, y = tp 166 (pasI (tb 23 ι) i) ι := ⟨_, rfl⟩
  rw [← hι1]
  obtain ⟨hV, hNB, hH9⟩ := id hT
  obtain ⟨hV0, hV1, hV2, hV3, hV4, hV5, hVk, hVw⟩ := id hV
  have hB := hNB hN
  have q0 := tb_0 23 ι
  have q1 := tb_1 23 ι
  have q2 := tb_2 23 ι
  have q3 := tb_3 23 ι
  have q4 := tb_4 23 ι
  have q5 := tb_5 23 ι
  refine g_iload_n (x := i) rfl dX2_hoursUntilAwake_10 ?_
  refine g_bipush (x := 60) (by decide) dX2_hoursUntilAwake_11 ?_
  refine g_icmp_gt ⟨by omega, by omega⟩ (by decide) (t := 44) dX2_hoursUntilAwake_13 (by decide) (fun h13 => ?_) (fun h13 => ?_)
  · refine g_ldc (x := -1000000) tw_585 (by decide) dX2_hoursUntilAwake_44 ?_
    exact i_iret rfl dX2_hoursUntilAwake_46 (⟨by rw [show i = 61 by omega, zfa_e], by rw [hι1]; exact zFs_tp _ _⟩)
  · refine g_aload_n (x := 165) rfl dX2_hoursUntilAwake_16 ?_
    refine g_get fgX2_14 zcl_2 (congrArg Prod.fst sh_165) (by decide) rg_165_0 dX2_hoursUntilAwake_17 ?_
    obtain ⟨g1, g2, g3, g4, -⟩ := pasI_V (tb_tz 23 ι) hV h0 (by omega)
    have etb : tb 166 ι1 = pasI (tb 23 ι) i := by rw [hι1, tb_tp 166 g2]
    have t0 := tb_0 166 ι1
    have ez : zaw (ι1 168) (ι1 166 4) = zaw (fun k => pasI (tb 23 ι) i (14 + k)) (tb 23 ι 0) := by
      rw [← t0, etb, g3]
      exact zaw_c (fun k k0 k1 => by rw [← etb, tb_d 166 ι1 k0 (by omega)])
    refine i_callVp mvX5_awake tw_583 (ci := 5) (congrArg Prod.fst sh_166) rfl (by decide) (c_awake tt_166 (by rw [← t0, etb]; exact g1.1) (fun k k0 k1 => by rw [← t0, etb] at k1; have := (g1.2.2.2.2.2.2.1 k k0 k1).2.1; rw [← etb, tb_d 166 ι1 k0 (by rw [g3] at k1; omega)] at this; exact ⟨by omega, by omega⟩)) (by decide) (st' := []) rfl (Nat.le_of_ble_eq_true rfl) rfl dX2_hoursUntilAwake_20 ?_
    rw [ez]
    refine g_iload_n (x := s) rfl dX2_hoursUntilAwake_23 ?_
    refine g_iand dX2_hoursUntilAwake_24 ?_
    refine g_iload_n (x := s) rfl dX2_hoursUntilAwake_25 ?_
    refine g_icmp_ne (by first | exact zi32_b _ | exact ⟨by omega, by omega⟩) (by first | exact zi32_b _ | exact ⟨by omega, by omega⟩) (t := 31) dX2_hoursUntilAwake_26 (by decide) (fun h26 => ?_) (fun h26 => ?_)
    · refine g_aload_n (x := 165) rfl dX2_hoursUntilAwake_31 ?_
      refine g_get fgX2_14 zcl_2 (congrArg Prod.fst sh_165) (by decide) rg_165_0 dX2_hoursUntilAwake_32 ?_
      refine i_callV mvX5_passHour tw_584 (ci := 5) (congrArg Prod.fst sh_166) rfl (by decide) (c_passHour tt_166 (by rw [etb]; exact g1) (by rw [etb, g4]; exact hB)) (by decide) (st' := []) rfl (Nat.le_of_ble_eq_true rfl) rfl dX2_hoursUntilAwake_35 (fun v_1 ι2 hq_35 => ?_)
      obtain ⟨rfl, hι2⟩ := hq_35
      rw [etb, ← pasI_s _ h0, hι1, tp_tp] at hι2
      refine g_iinc (x := i) (y := i + 1) (ls' := [some (zR 165), some (zR 23), some (zI s), some (zI (i + 1))]) dX2_hoursUntilAwake_38 rfl (rfl) (by decide) rfl ?_
      refine g_goto (t := 10) dX2_hoursUntilAwake_41 (by decide) ?_
      have hh := ih (by omega)
      rw [zfa_s (by omega), if_neg (by omega), hι2]
      exact hh
    · refine g_iload_n (x := i) rfl dX2_hoursUntilAwake_29 ?_
      exact i_iret rfl dX2_hoursUntilAwake_30 (⟨by rw [zfa_s (by omega), if_pos (by omega)], by rw [hι1]; exact zFs_tp _ _⟩)

set_option maxRecDepth 100000 in
theorem c_hoursUntilAwake (hT : zTM (tb 23 ι)) (hN : 0 < tb 23 ι 0) {s : Int} (hs : 0 ≤ s ∧ s ≤ 1000) : zCi l (zc D ad L z) mX2_hoursUntilAwake 4 [zR 165, zR 23, zI s] ι (fun v ι' => v = some (zI (zfa (tb 23 ι) s 0)) ∧ zFs ι ι') := by
  refine zCt_of (by decide) (Nat.le_of_ble_eq_true rfl) 1 rfl ?_
  obtain ⟨hV, hNB, hH9⟩ := id hT
  obtain ⟨hV0, hV1, hV2, hV3, hV4, hV5, hVk, hVw⟩ := id hV
  have hB := hNB hN
  have q0 := tb_0 23 ι
  have q1 := tb_1 23 ι
  have q2 := tb_2 23 ι
  have q3 := tb_3 23 ι
  have q4 := tb_4 23 ι
  have q5 := tb_5 23 ι
  refine g_aload_n (x := 165) rfl dX2_hoursUntilAwake_0 ?_
  refine g_get fgX2_14 zcl_2 (congrArg Prod.fst sh_165) (by decide) rg_165_0 dX2_hoursUntilAwake_1 ?_
  refine g_aload_n (x := 23) rfl dX2_hoursUntilAwake_4 ?_
  refine i_callV mvX5_become tw_565 (ci := 5) (congrArg Prod.fst sh_166) rfl (by decide) (c_become tt_166 tt_23 (by decide)) (by decide) (st' := []) rfl (Nat.le_of_ble_eq_true rfl) rfl dX2_hoursUntilAwake_5 (fun v_1 ι1 hq_5 => ?_)
  obtain ⟨rfl, hι1⟩ := hq_5
  have e1 : tb 166 ι1 = tb 23 ι := by rw [hι1, tb_tp 166 (tb_tz 23 ι)]
  refine g_iconst (x := 0) rfl dX2_hoursUntilAwake_8 ?_
  refine g_istore_n (ls' := [some (zR 165), some (zR 23), some (zI s), some (zI 0)]) dX2_hoursUntilAwake_9 (by decide) rfl ?_
  have hh := lp_hoursUntilAwake (l := l) (D := D) (ad := ad) (L := L) (z := z) hT hN hs 0 (by omega) (by omega)
  rw [pasI_0, ← hι1] at hh
  exact hh

set_option maxRecDepth 100000 in
theorem lp_chancesInAll {n : Int} (hn : 0 ≤ n ∧ n ≤ 8) : ∀ i : Int, 0 ≤ i → i ≤ n → zGi l (zc D ad L z) mX2_chancesInAll 0 4 [some (zI n), some (zI (ztn i)), some (zI i)] [] ι (zP (zI (ztn n)) ι) := by
  refine z_loopI (fun i h0 h1 ih => ?_)
  refine g_iload_n (x := i) rfl dX2_chancesInAll_4 ?_
  refine g_iload_n (x := n) rfl dX2_chancesInAll_5 ?_
  refine g_icmp_ge ⟨by omega, by omega⟩ ⟨by omega, by omega⟩ (t := 20) dX2_chancesInAll_6 (by decide) (fun h6 => ?_) (fun h6 => ?_)
  · refine g_iload_n (x := (ztn i)) rfl dX2_chancesInAll_20 ?_
    exact i_iret rfl dX2_chancesInAll_21 (⟨by rw [show i = n by omega], rfl⟩)
  · refine g_iload_n (x := (ztn i)) rfl dX2_chancesInAll_9 ?_
    refine g_bipush (x := 10) (by decide) dX2_chancesInAll_10 ?_
    refine g_imul dX2_chancesInAll_12 ?_
    refine g_nm (fun x1 hx1 => ?_)
    refine g_istore_n (ls' := [some (zI n), some (zI x1), some (zI i)]) dX2_chancesInAll_13 (by decide) rfl ?_
    refine g_iinc (x := i) (y := i + 1) (ls' := [some (zI n), some (zI x1), some (zI (i + 1))]) dX2_chancesInAll_14 rfl (rfl) (by decide) rfl ?_
    refine g_goto (t := 4) dX2_chancesInAll_17 (by decide) ?_
    have hh := ih (by omega)
    rw [show ztn (i + 1) = x1 by rw [hx1]; unfold ztn; rw [zfd_s _ _ h0]] at hh
    exact hh

set_option maxRecDepth 100000 in
theorem c_chancesInAll {n : Int} (hn : 0 ≤ n ∧ n ≤ 8) : zCi l (zc D ad L z) mX2_chancesInAll 0 [zI n] ι (zP (zI (ztn n)) ι) := by
  refine zCt_of (by decide) (Nat.le_of_ble_eq_true rfl) 2 rfl ?_
  refine g_iconst (x := 1) rfl dX2_chancesInAll_0 ?_
  refine g_istore_n (ls' := [some (zI n), some (zI 1), none]) dX2_chancesInAll_1 (by decide) rfl ?_
  refine g_iconst (x := 0) rfl dX2_chancesInAll_2 ?_
  refine g_istore_n (ls' := [some (zI n), some (zI 1), some (zI 0)]) dX2_chancesInAll_3 (by decide) rfl ?_
  exact lp_chancesInAll (l := l) (D := D) (ad := ad) (L := L) (z := z) hn 0 (by omega) (by omega)

def zhalf (i : Int) : Int := zfd (fun x _ => x / 2) 10000000000000000 i
theorem zhalf_s {i : Int} (h : 0 ≤ i) : zhalf (i + 1) = zhalf i / 2 := zfd_s _ _ h
theorem zhalf_e : zhalf 99 = 0 := by decide +kernel
theorem zgl {a b : Int} (hb : 0 < b) (hab : b < a) : 2 * (b * (a % b)) ≤ a * b := by
  have h1 : 2 * (a % b) ≤ a := by
    have e := Int.emod_add_mul_ediv a b
    have q1 : 1 ≤ a / b := by
      rcases Int.lt_or_le (a / b) 1 with g | g
      · exfalso
        have : a / b ≤ 0 := by omega
        have m := Int.emod_lt_of_pos a hb
        have : b * (a / b) ≤ b * 0 := Int.mul_le_mul_of_nonneg_left this (by omega)
        omega
      · exact g
    have m := Int.emod_lt_of_pos a hb
    have : b * 1 ≤ b * (a / b) := Int.mul_le_mul_of_nonneg_left q1 (by omega)
    omega
  have h2 := Int.mul_le_mul_of_nonneg_left h1 (show 0 ≤ b by omega)
  rw [Int.mul_comm a b]
  rw [show b * (2 * (a % b)) = 2 * (b * (a % b)) by rw [← Int.mul_assoc, Int.mul_comm b 2, Int.mul_assoc]] at h2
  exact h2
set_option maxRecDepth 100000 in
theorem lp_commonDivisor {u v : Int} : ∀ i : Int, 0 ≤ i → i ≤ 100 → ∀ a b : Int, (0 ≤ a ∧ a ≤ 1000000000) → (0 ≤ b ∧ b ≤ 1000000000) → Int.gcd a b = Int.gcd u v → ((i = 0 ∧ 0 < b ∧ a ≤ 100000000 ∧ b ≤ 100000000) ∨ (1 ≤ i ∧ b < a ∧ a * b ≤ zhalf (i - 1))) → zGi l (zc D ad L z) mX2_commonDivisor 0 7 [some (zI u), some (zI v), some (zI a), some (zI b), some (zI i), none] [] ι (zP (zI ((Int.gcd u v : Nat) : Int)) ι) := by
  refine z_loopI (P := fun i => ∀ a b : Int, (0 ≤ a ∧ a ≤ 1000000000) → (0 ≤ b ∧ b ≤ 1000000000) → Int.gcd a b = Int.gcd u v → ((i = 0 ∧ 0 < b ∧ a ≤ 100000000 ∧ b ≤ 100000000) ∨ (1 ≤ i ∧ b < a ∧ a * b ≤ zhalf (i - 1))) → _) (fun i h0 h1 ih a b ha hb hg hI => ?_)
  refine g_iload (x := i) rfl dX2_commonDivisor_7 ?_
  refine g_bipush (x := 100) (by decide) dX2_commonDivisor_9 ?_
  refine g_icmp_ge ⟨by omega, by omega⟩ (by decide) (t := 34) dX2_commonDivisor_11 (by decide) (fun h11 => ?_) (fun h11 => ?_)
  · have hb0 : b = 0 := by
      first
      | omega
      | (exfalso
         have g9 : i = 100 := by omega
         rcases hI with g | ⟨g, g1, g2⟩
         · omega
         · rw [g9, show (100 : Int) - 1 = 99 by decide, zhalf_e] at g2
           have g3 : 1 * 1 ≤ a * b := Int.mul_le_mul (by omega) (by omega) (by decide) (by omega)
           omega)
      | (have g9 : i = 100 := by omega
         rcases hI with g | ⟨g, g1, g2⟩
         · omega
         · rw [g9, show (100 : Int) - 1 = 99 by decide, zhalf_e] at g2
           rcases (show b = 0 ∨ 1 ≤ b by omega) with k | k
           · exact k
           · exfalso
             have g3 : 1 * 1 ≤ a * b := Int.mul_le_mul (by omega) (by omega) (by decide) (by omega)
             omega)
    refine g_iload_n (x := a) rfl dX2_commonDivisor_34 ?_
    exact i_iret rfl dX2_commonDivisor_35 (⟨by rw [← hg, hb0, zgcd_0 ha.1], rfl⟩)
  · refine g_iload_n (x := b) rfl dX2_commonDivisor_14 ?_
    refine g_if_eq ⟨by omega, by omega⟩ (t := 34) dX2_commonDivisor_15 (by decide) (fun h15 => ?_) (fun h15 => ?_)
    · have hb0 : b = 0 := by
        first
        | omega
        | (exfalso
           have g9 : i = 100 := by omega
           rcases hI with g | ⟨g, g1, g2⟩
           · omega
           · rw [g9, show (100 : Int) - 1 = 99 by decide, zhalf_e] at g2
             have g3 : 1 * 1 ≤ a * b := Int.mul_le_mul (by omega) (by omega) (by decide) (by omega)
             omega)
        | (have g9 : i = 100 := by omega
           rcases hI with g | ⟨g, g1, g2⟩
           · omega
           · rw [g9, show (100 : Int) - 1 = 99 by decide, zhalf_e] at g2
             rcases (show b = 0 ∨ 1 ≤ b by omega) with k | k
             · exact k
             · exfalso
               have g3 : 1 * 1 ≤ a * b := Int.mul_le_mul (by omega) (by omega) (by decide) (by omega)
               omega)
      refine g_iload_n (x := a) rfl dX2_commonDivisor_34 ?_
      exact i_iret rfl dX2_commonDivisor_35 (⟨by rw [← hg, hb0, zgcd_0 ha.1], rfl⟩)
    · have m0 := Int.emod_nonneg a (show b ≠ 0 by omega)
      have m1 := Int.emod_lt_of_pos a (show 0 < b by omega)
      have m2 := Int.ediv_nonneg ha.1 (show 0 ≤ b by omega)
      refine g_iload_n (x := a) rfl dX2_commonDivisor_18 ?_
      refine g_iload_n (x := b) rfl dX2_commonDivisor_19 ?_
      refine g_irem (by omega) (by omega) (by omega) (by omega) dX2_commonDivisor_20 ?_
      refine g_istore (ls' := [some (zI u), some (zI v), some (zI a), some (zI b), some (zI i), some (zI (a % b))]) dX2_commonDivisor_21 (by decide) rfl ?_
      refine g_iload_n (x := b) rfl dX2_commonDivisor_23 ?_
      refine g_istore_n (ls' := [some (zI u), some (zI v), some (zI b), some (zI b), some (zI i), some (zI (a % b))]) dX2_commonDivisor_24 (by decide) rfl ?_
      refine g_iload (x := (a % b)) rfl dX2_commonDivisor_25 ?_
      refine g_istore_n (ls' := [some (zI u), some (zI v), some (zI b), some (zI (a % b)), some (zI i), some (zI (a % b))]) dX2_commonDivisor_27 (by decide) rfl ?_
      refine g_iinc (x := i) (y := i + 1) (ls' := [some (zI u), some (zI v), some (zI b), some (zI (a % b)), some (zI (i + 1)), some (zI (a % b))]) dX2_commonDivisor_28 rfl (rfl) (by decide) rfl ?_
      refine g_goto (t := 7) dX2_commonDivisor_31 (by decide) ?_
      have hh := ih (by omega) b (a % b) (by omega) (by omega) (by rw [zgcd_s ha.1 (by omega), hg]) (Or.inr ⟨by omega, m1, by
        rw [show i + 1 - 1 = i by omega]
        rcases hI with ⟨g, g1, g2, g3⟩ | ⟨g, g1, g2⟩
        · have := (zmul_b hb.1 g3 m0 (show a % b ≤ 100000000 by omega)).2
          rw [g]
          exact this
        · have k1 := zgl (by omega) g1
          have k2 := zhalf_s (i := i - 1) (by omega)
          rw [show i - 1 + 1 = i by omega] at k2
          omega⟩)
      exact g_drop (by repeat' constructor) hh

set_option maxRecDepth 100000 in
theorem c_commonDivisor {u v : Int} (hu : 0 ≤ u ∧ u ≤ 100000000) (hv : 0 < v ∧ v ≤ 100000000) : zCi l (zc D ad L z) mX2_commonDivisor 0 [zI u, zI v] ι (zP (zI ((Int.gcd u v : Nat) : Int)) ι) := by
  refine zCt_of (by decide) (Nat.le_of_ble_eq_true rfl) 4 rfl ?_
  refine g_iload_n (x := u) rfl dX2_commonDivisor_0 ?_
  refine g_istore_n (ls' := [some (zI u), some (zI v), some (zI u), none, none, none]) dX2_commonDivisor_1 (by decide) rfl ?_
  refine g_iload_n (x := v) rfl dX2_commonDivisor_2 ?_
  refine g_istore_n (ls' := [some (zI u), some (zI v), some (zI u), some (zI v), none, none]) dX2_commonDivisor_3 (by decide) rfl ?_
  refine g_iconst (x := 0) rfl dX2_commonDivisor_4 ?_
  refine g_istore (ls' := [some (zI u), some (zI v), some (zI u), some (zI v), some (zI 0), none]) dX2_commonDivisor_5 (by decide) rfl ?_
  exact lp_commonDivisor (l := l) (D := D) (ad := ad) (L := L) (z := z) (u := u) (v := v) 0 (by omega) (by omega) u v (by omega) (by omega) rfl (Or.inl ⟨rfl, by omega, by omega, by omega⟩)

set_option maxRecDepth 100000 in
theorem c_applyDraw (hV : zVT (tb 166 ι)) (hN : 0 < tb 166 ι 0) (hB : 0 < tb 166 ι 1) {x : Int} (hx : 0 ≤ x ∧ x < 2147483647) : zCi l (zc D ad L z) mX2_applyDraw 1 [zR 165, zI x] ι (fun v ι' => v = none ∧ ι' = tp 166 (zdw x (tb 166 ι)) ι) := by
  refine zCt_of (by decide) (Nat.le_of_ble_eq_true rfl) 1 rfl ?_
  obtain ⟨hV0, hV1, hV2, hV3, hV4, hV5, hVk, hVw⟩ := id hV
  have q0 := tb_0 166 ι
  have q1 := tb_1 166 ι
  refine g_iload_n (x := x) rfl dX2_applyDraw_0 ?_
  refine g_aload_n (x := 165) rfl dX2_applyDraw_1 ?_
  refine g_get fgX2_14 zcl_2 (congrArg Prod.fst sh_165) (by decide) rg_165_0 dX2_applyDraw_2 ?_
  refine g_get fgX2_57 zcl_5 (congrArg Prod.fst sh_166) (by decide) ig_166_4 dX2_applyDraw_5 ?_
  refine g_iconst (x := 1) rfl dX2_applyDraw_8 ?_
  refine g_mmax ⟨by omega, by omega⟩ (by decide) (by decide) (Nat.le_of_ble_eq_true rfl) tw_610 mq_max2 mq_max3 mq_max4 dX2_applyDraw_9 ?_
  rw [show zmax (ι 166 4) 1 = tb 166 ι 0 by rw [q0]; unfold zmax; split <;> omega]
  have m0 := Int.emod_nonneg x (show tb 166 ι 0 ≠ 0 by omega)
  have m1 := Int.emod_lt_of_pos x hN
  have m2 := Int.emod_nonneg x (show tb 166 ι 1 ≠ 0 by omega)
  have m3 := Int.emod_lt_of_pos x hB
  refine g_irem (by omega) (by omega) (by omega) (by omega) dX2_applyDraw_12 ?_
  refine g_istore_n (ls' := [some (zR 165), some (zI x), some (zI (x % (tb 166 ι 0)))]) dX2_applyDraw_13 (by decide) rfl ?_
  refine g_iload_n (x := x) rfl dX2_applyDraw_14 ?_
  refine g_iconst (x := 3) rfl dX2_applyDraw_15 ?_
  refine g_irem (by omega) (by omega) (by omega) (by omega) dX2_applyDraw_16 ?_
  refine g_if_ne ⟨by omega, by omega⟩ (t := 45) dX2_applyDraw_17 (by decide) (fun h17 => ?_) (fun h17 => ?_)
  · refine g_iload_n (x := x) rfl dX2_applyDraw_45 ?_
    refine g_iconst (x := 5) rfl dX2_applyDraw_46 ?_
    refine g_irem (by omega) (by omega) (by omega) (by omega) dX2_applyDraw_47 ?_
    refine g_if_ne ⟨by omega, by omega⟩ (t := 62) dX2_applyDraw_48 (by decide) (fun h48 => ?_) (fun h48 => ?_)
    · exact i_ret rfl dX2_applyDraw_62 (⟨rfl, by first | (rw [hι2, tp_up_w 166 ι (by omega) (by omega)]; unfold zdw; rw [if_pos (by omega)]) | (rw [hι2, tp_up_l 166 ι (by omega) (by omega)]; unfold zdw; rw [if_neg (by omega), if_pos (by omega)]) | (unfold zdw; rw [if_neg (by omega), if_neg (by omega), tp_tb])⟩)
    · refine g_aload_n (x := 165) rfl dX2_applyDraw_51 ?_
      refine g_get fgX2_14 zcl_2 (congrArg Prod.fst sh_165) (by decide) rg_165_0 dX2_applyDraw_52 ?_
      refine g_get fgX2_84 zcl_5 (congrArg Prod.fst sh_166) (by decide) rg_166_2 dX2_applyDraw_55 ?_
      refine g_iload_n (x := (x % (tb 166 ι 0))) rfl dX2_applyDraw_58 ?_
      refine g_bipush (x := 60) (by decide) dX2_applyDraw_59 ?_
      obtain ⟨ι2, hι2⟩ : ∃ y_, y_ = iup ι 169 (x % (tb 166 ι 0)) 60 := ⟨_, rfl⟩
      refine i_iast sh_169 (by decide) (by decide) (by omega) (by omega) (by decide) (ι1 := ι2) (by rw [hι2]; exact au_169) dX2_applyDraw_61 ?_
      exact i_ret rfl dX2_applyDraw_62 (⟨rfl, by first | (rw [hι2, tp_up_w 166 ι (by omega) (by omega)]; unfold zdw; rw [if_pos (by omega)]) | (rw [hι2, tp_up_l 166 ι (by omega) (by omega)]; unfold zdw; rw [if_neg (by omega), if_pos (by omega)]) | (unfold zdw; rw [if_neg (by omega), if_neg (by omega), tp_tb])⟩)
  · refine g_aload_n (x := 165) rfl dX2_applyDraw_20 ?_
    refine g_get fgX2_14 zcl_2 (congrArg Prod.fst sh_165) (by decide) rg_165_0 dX2_applyDraw_21 ?_
    refine g_get fgX2_122 zcl_5 (congrArg Prod.fst sh_166) (by decide) rg_166_3 dX2_applyDraw_24 ?_
    refine g_iload_n (x := x) rfl dX2_applyDraw_27 ?_
    refine g_aload_n (x := 165) rfl dX2_applyDraw_28 ?_
    refine g_get fgX2_14 zcl_2 (congrArg Prod.fst sh_165) (by decide) rg_165_0 dX2_applyDraw_29 ?_
    refine g_get fgX2_115 zcl_5 (congrArg Prod.fst sh_166) (by decide) ig_166_5 dX2_applyDraw_32 ?_
    refine g_iconst (x := 1) rfl dX2_applyDraw_35 ?_
    refine g_mmax ⟨by omega, by omega⟩ (by decide) (by decide) (Nat.le_of_ble_eq_true rfl) tw_610 mq_max2 mq_max3 mq_max4 dX2_applyDraw_36 ?_
    rw [show zmax (ι 166 5) 1 = tb 166 ι 1 by rw [q1]; unfold zmax; split <;> omega]
    refine g_irem (by omega) (by omega) (by omega) (by omega) dX2_applyDraw_39 ?_
    refine g_iload_n (x := (x % (tb 166 ι 0))) rfl dX2_applyDraw_40 ?_
    obtain ⟨ι2, hι2⟩ : ∃ y_, y_ = iup ι 170 (x % (tb 166 ι 1)) (x % (tb 166 ι 0)) := ⟨_, rfl⟩
    refine i_iast sh_170 (by decide) (by decide) (by omega) (by omega) (by decide) (ι1 := ι2) (by rw [hι2]; exact au_170) dX2_applyDraw_41 ?_
    refine g_goto (t := 62) dX2_applyDraw_42 (by decide) ?_
    exact i_ret rfl dX2_applyDraw_62 (⟨rfl, by first | (rw [hι2, tp_up_w 166 ι (by omega) (by omega)]; unfold zdw; rw [if_pos (by omega)]) | (rw [hι2, tp_up_l 166 ι (by omega) (by omega)]; unfold zdw; rw [if_neg (by omega), if_pos (by omega)]) | (unfold zdw; rw [if_neg (by omega), if_neg (by omega), tp_tb])⟩)

end
