section
variable {l : Launch} {D : va_G} {ad : Nat → Nat} {L z : Nat} {ι : zi}
theorem zfpl_b {R : zr} {s w : Int} (hs : 0 ≤ s ∧ s < 8) (hB : 0 < R 1 ∧ R 1 ≤ 8) : (0 ≤ zfpl R s w ∧ zfpl R s w < 38) ∧ zfpl R s w ≠ 0 ∧ zfpl R s w ≠ 1 ∧ zfpl R s w ≠ 4 := by
  have m0 := Int.emod_nonneg (R 4) (show R 1 ≠ 0 by omega)
  have m1 := Int.emod_lt_of_pos (R 4) hB.1
  unfold zfpl
  (repeat' split) <;> omega
theorem zfpl_W {R : zr} (hV : zVT R) (hB : 0 < R 1) {s w v : Int} (hs : 0 ≤ s ∧ s < 8) (hw : 0 ≤ w ∧ w ≤ 3) (h0 : zffr w ≤ v) (h1 : v ≤ zfto R w) : zVT (ru R (zfpl R s w) v) := by
  have hB8 := hV.2.1
  have m0 := Int.emod_nonneg (R 4) (show R 1 ≠ 0 by omega)
  have m1 := Int.emod_lt_of_pos (R 4) hB
  unfold zffr at h0
  unfold zfto at h1
  unfold zfpl
  rcases (show w = 0 ∨ w = 1 ∨ w = 2 ∨ w = 3 by omega) with g | g | g | g <;> subst g
  · simp at h0 h1 ⊢; exact zVT_k hV hs (by omega)
  · simp at h0 h1 ⊢; exact zVT_d hV hs (by omega)
  · simp at h0 h1 ⊢; exact zVT_2 hV (by omega)
  · simp at h0 h1 ⊢; exact zVT_w hV (by omega) (by omega)
theorem zfto_b {R : zr} {w : Int} (h : 0 < R 0 ∧ R 0 ≤ 8) (hw : 0 ≤ w ∧ w ≤ 3) : 0 ≤ zfto R w ∧ zfto R w ≤ 20 ∧ zffr w ≤ zfto R w ∧ 0 ≤ zffr w ∧ zffr w ≤ 1 := by
  unfold zfto zffr
  (repeat' split) <;> omega
set_option maxRecDepth 100000 in
theorem lp_guesses (hT : zTM (tb 23 ι)) (hN : 0 < tb 23 ι 0) {s w : Int} (hs0 : 0 ≤ s) (hs1 : s < tb 23 ι 0) (hw : 0 ≤ w ∧ w ≤ 3) (hn : 0 ≤ ι 165 6 ∧ ι 165 6 ≤ 12) (ht : ∀ k, 0 ≤ k → k < ι 165 6 → zB (ι 175 k)) : ∀ i : Int, zffr w ≤ i → i ≤ zfto (tb 23 ι) w + 1 → ∀ X, zGi l (zc D ad L z) mX2_guesses 5 9 [some (zR 165), some (zR 23), some (zI s), some (zI w), some (zI (zgb (fun v => zso (ru (tb 23 ι) (zfpl (tb 23 ι) s w) v) s (ι 175) (ι 165 6)) (zffr w) i)), some (zI i)] [] (tp 166 X ι) (fun v ι' => v = some (zI (zfit (tb 23 ι) s w (ι 175) (ι 165 6))) ∧ ∃ X, ι' = tp 166 X ι) := by
  refine z_loopI (P := fun i => ∀ X, _) (fun i h0 h1 ih X => ?_)
  obtain ⟨ι1, hι1⟩ : ∃ y, y = tp 166 X ι := ⟨_, rfl⟩
  rw [← hι1]
  obtain ⟨hV, hNB, hH9⟩ := id hT
  obtain ⟨hV0, hV1, hV2, hV3, hV4, hV5, hVk, hVw⟩ := id hV
  have hB := hNB hN
  have q0 := tb_0 23 ι
  have q1 := tb_1 23 ι
  have q2 := tb_2 23 ι
  have q3 := tb_3 23 ι
  have q4 := tb_4 23 ι
  have q5 := tb_5 23 ι
  have hfb := zfto_b (R := tb 23 ι) (w := w) (by omega) hw
  have t23 : tb 23 ι1 = tb 23 ι := by rw [hι1, tb_tpo (Or.inl (by decide))]
  refine g_iload (x := i) rfl dX2_guesses_9 ?_
  refine g_aload_n (x := 23) rfl dX2_guesses_11 ?_
  refine g_iload_n (x := w) rfl dX2_guesses_12 ?_
  refine i_callSp msX2_lastGuess tw_700 (c_lastGuess hw) (by decide) (st' := [zI i]) rfl (Nat.le_of_ble_eq_true rfl) rfl dX2_guesses_13 ?_
  rw [t23]
  refine g_icmp_gt ⟨by omega, by omega⟩ ⟨by omega, by omega⟩ (t := 62) dX2_guesses_16 (by decide) (fun h16 => ?_) (fun h16 => ?_)
  · refine g_iload (x := (zgb (fun v => zso (ru (tb 23 ι) (zfpl (tb 23 ι) s w) v) s (ι 175) (ι 165 6)) (zffr w) i)) rfl dX2_guesses_62 ?_
    exact i_iret rfl dX2_guesses_64 (⟨by unfold zfit; rw [show zfto (tb 23 ι) w + 1 = i by omega], X, hι1⟩)
  · refine g_aload_n (x := 165) rfl dX2_guesses_19 ?_
    refine g_get fgX2_14 zcl_2 (congrArg Prod.fst sh_165) (by decide) rg_165_0 dX2_guesses_20 ?_
    refine g_aload_n (x := 23) rfl dX2_guesses_23 ?_
    refine i_callV mvX5_become tw_565 (ci := 5) (congrArg Prod.fst sh_166) rfl (by decide) (c_become tt_166 tt_23 (by decide)) (by decide) (st' := []) rfl (Nat.le_of_ble_eq_true rfl) rfl dX2_guesses_24 (fun v_1 ι2 hq_24 => ?_)
    obtain ⟨rfl, hι2⟩ := hq_24
    rw [t23, hι1, tp_tp] at hι2
    have e1 : tb 166 ι2 = tb 23 ι := by rw [hι2, tb_tp 166 (tb_tz 23 ι)]
    have hp := zfpl_b (R := tb 23 ι) (s := s) (w := w) ⟨hs0, by omega⟩ ⟨hB, by omega⟩
    have hVf := zfpl_W hV hB (s := s) (w := w) (v := i) ⟨hs0, by omega⟩ hw h0 (by omega)
    refine g_aload_n (x := 165) rfl dX2_guesses_27 ?_
    refine g_iload_n (x := s) rfl dX2_guesses_28 ?_
    refine g_iload_n (x := w) rfl dX2_guesses_29 ?_
    refine g_iload (x := i) rfl dX2_guesses_30 ?_
    refine i_callV mvX2_suppose tw_703 (ci := 2) (congrArg Prod.fst sh_165) rfl (by decide) (c_suppose (by rw [e1]; exact hV) (by rw [e1]; exact hB) (s := s) (w := w) (v := i) ⟨hs0, by omega⟩ hw) (by decide) (st' := []) rfl (Nat.le_of_ble_eq_true rfl) rfl dX2_guesses_32 (fun v_2 ι3 hq_32 => ?_)
    obtain ⟨rfl, hι3⟩ := hq_32
    rw [e1, hι2, tp_tp] at hι3
    have e2 : tb 166 ι3 = ru (tb 23 ι) (zfpl (tb 23 ι) s w) i := by rw [hι3, tb_tp 166 (ru_tz (tb_tz 23 ι) hp.1.1 hp.1.2)]
    have o6 : ι3 165 6 = ι 165 6 := by rw [hι3, tp_o 166 _ _ (by omega) 6]
    have o5 : ι3 175 = ι 175 := by funext y; rw [hι3, tp_o 166 _ _ (by omega) y]
    refine g_iload (x := (zgb (fun v => zso (ru (tb 23 ι) (zfpl (tb 23 ι) s w) v) s (ι 175) (ι 165 6)) (zffr w) i)) rfl dX2_guesses_35 ?_
    refine g_aload_n (x := 165) rfl dX2_guesses_37 ?_
    refine g_iload_n (x := s) rfl dX2_guesses_38 ?_
    refine i_callV mvX2_sleepsAsTold tw_708 (ci := 2) (congrArg Prod.fst sh_165) rfl (by decide) (c_sleepsAsTold (by rw [e2]; exact hVf) (by rw [e2, ru_n _ (by omega)]; exact hB) hs0 (by rw [e2, ru_n _ (by omega)]; exact hs1) (by rw [e2, ru_n _ (by omega)]; omega) (by rw [o6]; exact hn) (by rw [o5, o6]; exact ht)) (by decide) (st' := [zI (zgb (fun v => zso (ru (tb 23 ι) (zfpl (tb 23 ι) s w) v) s (ι 175) (ι 165 6)) (zffr w) i)]) rfl (Nat.le_of_ble_eq_true rfl) rfl dX2_guesses_39 (fun v_3 ι4 hq_39 => ?_)
    obtain ⟨hv, X4, hX4⟩ := hq_39
    rw [e2, o5, o6] at hv
    rw [hι3, tp_tp] at hX4
    have hz01 := zso_01 (ru (tb 23 ι) (zfpl (tb 23 ι) s w) i) s (ι 175) (ι 165 6)
    obtain ⟨bb, hbb⟩ : ∃ bb, bb = zso (ru (tb 23 ι) (zfpl (tb 23 ι) s w) i) s (ι 175) (ι 165 6) := ⟨_, rfl⟩
    rw [← hbb] at hv hz01
    subst hv
    refine g_if_eq ⟨by omega, by omega⟩ (t := 52) dX2_guesses_42 (by decide) (fun h42 => ?_) (fun h42 => ?_)
    · refine g_iconst (x := 0) rfl dX2_guesses_52 ?_
      refine g_ior dX2_guesses_53 ?_
      refine g_nm (fun x4 hx4 => ?_)
      refine g_istore (ls' := [some (zR 165), some (zR 23), some (zI s), some (zI w), some (zI x4), some (zI i)]) dX2_guesses_54 (by decide) rfl ?_
      refine g_iinc (x := i) (y := i + 1) (ls' := [some (zR 165), some (zR 23), some (zI s), some (zI w), some (zI x4), some (zI (i + 1))]) dX2_guesses_56 rfl (rfl) (by decide) rfl ?_
      refine g_goto (t := 9) dX2_guesses_59 (by decide) ?_
      have hh := ih (by omega) X4
      rw [zgb_s _ h0, ← hbb] at hh
      have e7 : zor (zgb (fun v => zso (ru (tb 23 ι) (zfpl (tb 23 ι) s w) v) s (ι 175) (ι 165 6)) (zffr w) i) (if bb = 1 then zshl 1 i else 0) = x4 := by
        rw [hx4]
        first | rw [if_pos (by omega)] | rw [if_neg (by omega)]
      rw [e7, ← hX4] at hh
      exact hh
    · refine g_iconst (x := 1) rfl dX2_guesses_45 ?_
      refine g_iload (x := i) rfl dX2_guesses_46 ?_
      refine g_ishl dX2_guesses_48 ?_
      refine g_goto (t := 53) dX2_guesses_49 (by decide) ?_
      refine g_ior dX2_guesses_53 ?_
      refine g_nm (fun x4 hx4 => ?_)
      refine g_istore (ls' := [some (zR 165), some (zR 23), some (zI s), some (zI w), some (zI x4), some (zI i)]) dX2_guesses_54 (by decide) rfl ?_
      refine g_iinc (x := i) (y := i + 1) (ls' := [some (zR 165), some (zR 23), some (zI s), some (zI w), some (zI x4), some (zI (i + 1))]) dX2_guesses_56 rfl (rfl) (by decide) rfl ?_
      refine g_goto (t := 9) dX2_guesses_59 (by decide) ?_
      have hh := ih (by omega) X4
      rw [zgb_s _ h0, ← hbb] at hh
      have e7 : zor (zgb (fun v => zso (ru (tb 23 ι) (zfpl (tb 23 ι) s w) v) s (ι 175) (ι 165 6)) (zffr w) i) (if bb = 1 then zshl 1 i else 0) = x4 := by
        rw [hx4]
        first | rw [if_pos (by omega)] | rw [if_neg (by omega)]
      rw [e7, ← hX4] at hh
      exact hh

set_option maxRecDepth 100000 in
theorem c_guesses (hT : zTM (tb 23 ι)) (hN : 0 < tb 23 ι 0) {s w : Int} (hs0 : 0 ≤ s) (hs1 : s < tb 23 ι 0) (hw : 0 ≤ w ∧ w ≤ 3) (hn : 0 ≤ ι 165 6 ∧ ι 165 6 ≤ 12) (ht : ∀ k, 0 ≤ k → k < ι 165 6 → zB (ι 175 k)) : zCi l (zc D ad L z) mX2_guesses 5 [zR 165, zR 23, zI s, zI w] ι (fun v ι' => v = some (zI (zfit (tb 23 ι) s w (ι 175) (ι 165 6))) ∧ ∃ X, ι' = tp 166 X ι) := by
  refine zCt_of (by decide) (Nat.le_of_ble_eq_true rfl) 2 rfl ?_
  obtain ⟨hV, hNB, hH9⟩ := id hT
  obtain ⟨hV0, hV1, hV2, hV3, hV4, hV5, hVk, hVw⟩ := id hV
  have hB := hNB hN
  have q0 := tb_0 23 ι
  have q1 := tb_1 23 ι
  have q2 := tb_2 23 ι
  have q3 := tb_3 23 ι
  have q4 := tb_4 23 ι
  have q5 := tb_5 23 ι
  have hfb := zfto_b (R := tb 23 ι) (w := w) (by omega) hw
  refine g_iconst (x := 0) rfl dX2_guesses_0 ?_
  refine g_istore (ls' := [some (zR 165), some (zR 23), some (zI s), some (zI w), some (zI 0), none]) dX2_guesses_1 (by decide) rfl ?_
  refine g_iload_n (x := w) rfl dX2_guesses_3 ?_
  refine i_callSp msX2_firstGuess tw_697 (c_firstGuess hw) (by decide) (st' := []) rfl (Nat.le_of_ble_eq_true rfl) rfl dX2_guesses_4 ?_
  refine g_istore (ls' := [some (zR 165), some (zR 23), some (zI s), some (zI w), some (zI 0), some (zI (zffr w))]) dX2_guesses_7 (by decide) rfl ?_
  have hh := lp_guesses (l := l) (D := D) (ad := ad) (L := L) (z := z) hT hN hs0 hs1 hw hn ht (zffr w) (by omega) (by omega) (tb 166 ι)
  rw [zgb_0, tp_tb] at hh
  exact hh

set_option maxRecDepth 100000 in
theorem lp_leastReach1 (hT : zTM (tb 23 ι)) (hN : 0 < tb 23 ι 0) {s n : Int} (hs0 : 0 ≤ s) (hs1 : s < tb 23 ι 0) (hn : 1 ≤ n ∧ n ≤ 30) {v : Int} (hv : 0 ≤ v ∧ v < 4) (hk : ¬ 0 < pasI (ru (tb 23 ι) 2 v) n (14 + s) → ∀ X, zGi l (zc D ad L z) mX2_leastReach 4 3 [some (zR 165), some (zR 23), some (zI s), some (zI n), some (zI (v + 1)), none] [] (tp 166 X ι) (fun r ι' => r = some (zI (zsp (tb 23 ι) s n v)) ∧ zFs ι ι')) : ∀ i : Int, 0 ≤ i → i ≤ n → zGi l (zc D ad L z) mX2_leastReach 4 29 [some (zR 165), some (zR 23), some (zI s), some (zI n), some (zI v), some (zI i)] [] (tp 166 (zpf (ru (tb 23 ι) 2 v) s i) ι) (fun r ι' => r = some (zI (zsp (tb 23 ι) s n v)) ∧ zFs ι ι') := by
  refine z_loopI (fun i h0 h1 ih => ?_)
  obtain ⟨ι1, hι1⟩ : ∃ y, y = tp 166 (zpf (ru (tb 23 ι) 2 v) s i) ι := ⟨_, rfl⟩
  rw [← hι1]
  obtain ⟨hV, hNB, hH9⟩ := id hT
  obtain ⟨hV0, hV1, hV2, hV3, hV4, hV5, hVk, hVw⟩ := id hV
  have hB := hNB hN
  have q0 := tb_0 23 ι
  have q1 := tb_1 23 ι
  have q2 := tb_2 23 ι
  have q3 := tb_3 23 ι
  have q4 := tb_4 23 ι
  have q5 := tb_5 23 ι
  have hVf := zVT_2 hV (v := v) (by omega)
  have hzf := ru_tz (tb_tz 23 ι) (i := 2) (v := v) (by decide) (by decide)
  obtain ⟨g1, g2, g3, g4, g5, g6, g7, g8, g9, g10, g11⟩ := zpf_V hzf hVf (by rw [ru_n _ (by decide)]; exact hB) hs0 (by rw [ru_n _ (by decide)]; exact hs1) h0 (by rw [ru_n _ (by decide)]; omega)
  have etb : tb 166 ι1 = zpf (ru (tb 23 ι) 2 v) s i := by rw [hι1, tb_tp 166 g2]
  rw [ru_n _ (by decide)] at g3 g4
  refine g_iload (x := i) rfl dX2_leastReach_29 ?_
  refine g_iload_n (x := n) rfl dX2_leastReach_31 ?_
  refine g_icmp_ge ⟨by omega, by omega⟩ ⟨by omega, by omega⟩ (t := 49) dX2_leastReach_32 (by decide) (fun h32 => ?_) (fun h32 => ?_)
  · refine g_aload_n (x := 165) rfl dX2_leastReach_49 ?_
    refine g_get fgX2_14 zcl_2 (congrArg Prod.fst sh_165) (by decide) rg_165_0 dX2_leastReach_50 ?_
    refine g_get fgX2_81 zcl_5 (congrArg Prod.fst sh_166) (by decide) rg_166_1 dX2_leastReach_53 ?_
    refine g_iload_n (x := s) rfl dX2_leastReach_56 ?_
    have ei : i = n := by omega
    rw [ei] at g10
    have od : ι1 168 s = pasI (ru (tb 23 ι) 2 v) n (14 + s) := by rw [← tb_d 166 ι1 hs0 (by omega), etb, ei, g10]
    have hd0 := (g1.2.2.2.2.2.2.1 s hs0 (by omega)).2.1
    rw [ei, g10] at hd0
    refine g_iald sh_168 (by decide) (by omega) (by omega) (by decide) ag_168 dX2_leastReach_57 ?_
    rw [od]
    refine g_if_le ⟨by omega, by omega⟩ (t := 64) dX2_leastReach_58 (by decide) (fun h58 => ?_) (fun h58 => ?_)
    · refine g_iinc (x := v) (y := v + 1) (ls' := [some (zR 165), some (zR 23), some (zI s), some (zI n), some (zI (v + 1)), some (zI i)]) dX2_leastReach_64 rfl (rfl) (by decide) rfl ?_
      refine g_goto (t := 3) dX2_leastReach_67 (by decide) ?_
      rw [hι1]
      exact g_drop (by repeat' constructor) (hk (by omega) _)
    · refine g_iload (x := v) rfl dX2_leastReach_61 ?_
      exact i_iret rfl dX2_leastReach_63 (⟨by rw [zsp_s (by omega), if_pos (by omega)], by rw [hι1]; exact zFs_tp _ _⟩)
  · refine g_aload_n (x := 165) rfl dX2_leastReach_35 ?_
    refine g_get fgX2_14 zcl_2 (congrArg Prod.fst sh_165) (by decide) rg_165_0 dX2_leastReach_36 ?_
    refine g_iload_n (x := s) rfl dX2_leastReach_39 ?_
    refine i_callV mvX5_passHourFor tw_666 (ci := 5) (congrArg Prod.fst sh_166) rfl (by decide) (c_passHourFor tt_166 (by rw [etb]; exact g1) (by rw [etb, g4]; exact hB) hs0 (by rw [etb, g3]; exact hs1)) (by decide) (st' := []) rfl (Nat.le_of_ble_eq_true rfl) rfl dX2_leastReach_40 (fun v_1 ι2 hq_40 => ?_)
    obtain ⟨rfl, hι2⟩ := hq_40
    rw [etb, ← zpf_s _ _ h0, hι1, tp_tp] at hι2
    refine g_iinc (x := i) (y := i + 1) (ls' := [some (zR 165), some (zR 23), some (zI s), some (zI n), some (zI v), some (zI (i + 1))]) dX2_leastReach_43 rfl (rfl) (by decide) rfl ?_
    refine g_goto (t := 29) dX2_leastReach_46 (by decide) ?_
    rw [hι2]
    exact ih (by omega)

set_option maxRecDepth 100000 in
theorem lp_leastReach (hT : zTM (tb 23 ι)) (hN : 0 < tb 23 ι 0) {s n : Int} (hs0 : 0 ≤ s) (hs1 : s < tb 23 ι 0) (hn : 1 ≤ n ∧ n ≤ 30) : ∀ v : Int, 0 ≤ v → v ≤ 4 → ∀ X, zGi l (zc D ad L z) mX2_leastReach 4 3 [some (zR 165), some (zR 23), some (zI s), some (zI n), some (zI v), none] [] (tp 166 X ι) (fun r ι' => r = some (zI (zsp (tb 23 ι) s n v)) ∧ zFs ι ι') := by
  refine z_loopI (P := fun v => ∀ X, _) (fun v h0 h1 ih X => ?_)
  obtain ⟨ι1, hι1⟩ : ∃ y, y = tp 166 X ι := ⟨_, rfl⟩
  rw [← hι1]
  obtain ⟨hV, hNB, hH9⟩ := id hT
  obtain ⟨hV0, hV1, hV2, hV3, hV4, hV5, hVk, hVw⟩ := id hV
  have hB := hNB hN
  have q0 := tb_0 23 ι
  have q1 := tb_1 23 ι
  have q2 := tb_2 23 ι
  have q3 := tb_3 23 ι
  have q4 := tb_4 23 ι
  have q5 := tb_5 23 ι
  have t23 : tb 23 ι1 = tb 23 ι := by rw [hι1, tb_tpo (Or.inl (by decide))]
  refine g_iload (x := v) rfl dX2_leastReach_3 ?_
  refine g_iconst (x := 3) rfl dX2_leastReach_5 ?_
  refine g_icmp_gt ⟨by omega, by omega⟩ (by decide) (t := 70) dX2_leastReach_6 (by decide) (fun h6 => ?_) (fun h6 => ?_)
  · refine g_ldc (x := -1000000) tw_585 (by decide) dX2_leastReach_70 ?_
    exact i_iret rfl dX2_leastReach_72 (⟨by rw [show v = 4 by omega, zsp_e], by rw [hι1]; exact zFs_tp _ _⟩)
  · refine g_aload_n (x := 165) rfl dX2_leastReach_9 ?_
    refine g_get fgX2_14 zcl_2 (congrArg Prod.fst sh_165) (by decide) rg_165_0 dX2_leastReach_10 ?_
    refine g_aload_n (x := 23) rfl dX2_leastReach_13 ?_
    refine i_callV mvX5_become tw_565 (ci := 5) (congrArg Prod.fst sh_166) rfl (by decide) (c_become tt_166 tt_23 (by decide)) (by decide) (st' := []) rfl (Nat.le_of_ble_eq_true rfl) rfl dX2_leastReach_14 (fun v_1 ι2 hq_14 => ?_)
    obtain ⟨rfl, hι2⟩ := hq_14
    rw [t23, hι1, tp_tp] at hι2
    refine g_aload_n (x := 165) rfl dX2_leastReach_17 ?_
    refine g_get fgX2_14 zcl_2 (congrArg Prod.fst sh_165) (by decide) rg_165_0 dX2_leastReach_18 ?_
    refine g_iload (x := v) rfl dX2_leastReach_21 ?_
    obtain ⟨ι3, hι3⟩ : ∃ y_, y_ = iup ι2 166 6 v := ⟨_, rfl⟩
    refine i_put fwX2_138 zcl_5 (congrArg Prod.fst sh_166) (by decide) (by decide) (ι1 := ι3) (by rw [hι3]; exact iu_166_6) dX2_leastReach_23 ?_
    refine g_iconst (x := 0) rfl dX2_leastReach_26 ?_
    refine g_istore (ls' := [some (zR 165), some (zR 23), some (zI s), some (zI n), some (zI v), some (zI 0)]) dX2_leastReach_27 (by decide) rfl ?_
    have hh := lp_leastReach1 (l := l) (D := D) (ad := ad) (L := L) (z := z) hT hN hs0 hs1 hn (v := v) (by omega) (fun g X => by have := ih (by omega) X; rw [show zsp (tb 23 ι) s n v = zsp (tb 23 ι) s n (v + 1) by rw [zsp_s (by omega), if_neg g]]; exact this) 0 (by omega) (by omega)
    rw [zpf_0] at hh
    have e3 : ι3 = tp 166 (ru (tb 23 ι) 2 v) ι := by rw [hι3, hι2, tp_ts (tb_tz 23 ι) ι (by decide) (by decide)]; rfl
    rw [e3]
    exact hh

set_option maxRecDepth 100000 in
theorem c_leastReach (hT : zTM (tb 23 ι)) (hN : 0 < tb 23 ι 0) {s n : Int} (hs0 : 0 ≤ s) (hs1 : s < tb 23 ι 0) (hn : 1 ≤ n ∧ n ≤ 30) : zCi l (zc D ad L z) mX2_leastReach 4 [zR 165, zR 23, zI s, zI n] ι (fun r ι' => r = some (zI (zsp (tb 23 ι) s n 0)) ∧ zFs ι ι') := by
  refine zCt_of (by decide) (Nat.le_of_ble_eq_true rfl) 2 rfl ?_
  refine g_iconst (x := 0) rfl dX2_leastReach_0 ?_
  refine g_istore (ls' := [some (zR 165), some (zR 23), some (zI s), some (zI n), some (zI 0), none]) dX2_leastReach_1 (by decide) rfl ?_
  have hh := lp_leastReach (l := l) (D := D) (ad := ad) (L := L) (z := z) hT hN hs0 hs1 hn 0 (by omega) (by omega) (tb 166 ι)
  rw [tp_tb] at hh
  exact hh

set_option maxRecDepth 100000 in
theorem c_robbedIfMoved (hT : zTM (tb 23 ι)) (hN : 0 < tb 23 ι 0) {b s n : Int} (hb : 0 ≤ b ∧ b < 8) (hs : 0 ≤ s ∧ s < tb 23 ι 0) (hn : 0 ≤ n ∧ n ≤ 60) : zCi l (zc D ad L z) mX2_robbedIfMoved 5 [zR 165, zR 23, zI b, zI s, zI n] ι (fun v ι' => v = some (zI (pasI (ru (tb 23 ι) (30 + b) s) n 5 - tb 23 ι 5)) ∧ ∃ X, ι' = tp 166 X ι) := by
  refine zCt_of (by decide) (Nat.le_of_ble_eq_true rfl) 0 rfl ?_
  obtain ⟨hV, hNB, hH9⟩ := id hT
  obtain ⟨hV0, hV1, hV2, hV3, hV4, hV5, hVk, hVw⟩ := id hV
  have hB := hNB hN
  have q0 := tb_0 23 ι
  have q1 := tb_1 23 ι
  have q2 := tb_2 23 ι
  have q3 := tb_3 23 ι
  have q4 := tb_4 23 ι
  have q5 := tb_5 23 ι
  refine g_aload_n (x := 165) rfl dX2_robbedIfMoved_0 ?_
  refine g_get fgX2_14 zcl_2 (congrArg Prod.fst sh_165) (by decide) rg_165_0 dX2_robbedIfMoved_1 ?_
  refine g_aload_n (x := 23) rfl dX2_robbedIfMoved_4 ?_
  refine i_callV mvX5_become tw_565 (ci := 5) (congrArg Prod.fst sh_166) rfl (by decide) (c_become tt_166 tt_23 (by decide)) (by decide) (st' := []) rfl (Nat.le_of_ble_eq_true rfl) rfl dX2_robbedIfMoved_5 (fun v_1 ι1 hq_5 => ?_)
  obtain ⟨rfl, hι1⟩ := hq_5
  have e1 : tb 166 ι1 = tb 23 ι := by rw [hι1, tb_tp 166 (tb_tz 23 ι)]
  refine g_aload_n (x := 165) rfl dX2_robbedIfMoved_8 ?_
  refine g_get fgX2_14 zcl_2 (congrArg Prod.fst sh_165) (by decide) rg_165_0 dX2_robbedIfMoved_9 ?_
  refine g_get fgX2_122 zcl_5 (congrArg Prod.fst sh_166) (by decide) rg_166_3 dX2_robbedIfMoved_12 ?_
  refine g_iload_n (x := b) rfl dX2_robbedIfMoved_15 ?_
  refine g_iload_n (x := s) rfl dX2_robbedIfMoved_16 ?_
  have hVw2 := zVT_w hV (b := b) (v := s) hb hs
  have hz2 := ru_tz (tb_tz 23 ι) (i := 30 + b) (v := s) (by omega) (by omega)
  obtain ⟨ι2, hι2⟩ : ∃ y_, y_ = iup ι1 170 b s := ⟨_, rfl⟩
  refine i_iast sh_170 (by decide) (by decide) (by omega) (by omega) (by decide) (ι1 := ι2) (by rw [hι2]; exact au_170) dX2_robbedIfMoved_17 ?_
  have e2 : ι2 = tp 166 (ru (tb 23 ι) (30 + b) s) ι := by rw [hι2, hι1, tp_tw (tb_tz 23 ι) ι hb.1 hb.2]
  have e3 : tb 166 ι2 = ru (tb 23 ι) (30 + b) s := by rw [e2, tb_tp 166 hz2]
  refine g_aload_n (x := 165) rfl dX2_robbedIfMoved_18 ?_
  refine g_get fgX2_14 zcl_2 (congrArg Prod.fst sh_165) (by decide) rg_165_0 dX2_robbedIfMoved_19 ?_
  refine g_iload (x := n) rfl dX2_robbedIfMoved_22 ?_
  refine i_callV mvX5_passHours tw_566 (ci := 5) (congrArg Prod.fst sh_166) rfl (by decide) (c_passHours tt_166 (by rw [e3]; exact hVw2) (by rw [e3, ru_n _ (by omega)]; exact hB) (n := n) (by omega) (by rw [e3, ru_n _ (by omega)]; omega)) (by decide) (st' := []) rfl (Nat.le_of_ble_eq_true rfl) rfl dX2_robbedIfMoved_24 (fun v_2 ι3 hq_24 => ?_)
  obtain ⟨rfl, hι3⟩ := hq_24
  rw [e3, e2, tp_tp] at hι3
  refine g_aload_n (x := 165) rfl dX2_robbedIfMoved_27 ?_
  refine g_get fgX2_14 zcl_2 (congrArg Prod.fst sh_165) (by decide) rg_165_0 dX2_robbedIfMoved_28 ?_
  refine g_get fgX2_112 zcl_5 (congrArg Prod.fst sh_166) (by decide) ig_166_9 dX2_robbedIfMoved_31 ?_
  refine g_aload_n (x := 23) rfl dX2_robbedIfMoved_34 ?_
  refine g_get fgX2_112 zcl_5 (congrArg Prod.fst sh_23) (by decide) ig_23_9 dX2_robbedIfMoved_35 ?_
  refine g_isub dX2_robbedIfMoved_38 ?_
  exact i_iret rfl dX2_robbedIfMoved_39 (⟨by rw [q5, hι3, tp_s 166 _ _ (by decide) (by decide), tp_o 166 _ _ (by omega) 9]; rfl, _, hι3⟩)

end
