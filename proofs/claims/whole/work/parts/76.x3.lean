section
variable {l : Launch} {D : va_G} {ad : Nat → Nat} {L z : Nat} {ι : zi}
set_option maxRecDepth 100000 in
theorem c_xAhead (hT : zTM (tb 23 ι)) {s n w : Int} (hs : zB s) (hn : zB n) (hw : zB w) : zCi l (zc D ad L z) mX6_ahead 6 [zR 8, zI s, zI n, zI w] ι (fun v ι' => v = some (zI (if ¬ ((0 ≤ s ∧ s < tb 23 ι 0) ∧ (0 ≤ n ∧ n ≤ 60) ∧ (0 ≤ w ∧ w ≤ 1)) then -1000001 else if w = 0 then pasI (tb 23 ι) n (14 + s) else pasI (tb 23 ι) n (22 + s))) ∧ zFs ι ι') := by
  refine zCt_of (by decide) (Nat.le_of_ble_eq_true rfl) 1 rfl ?_
  obtain ⟨hV, hNB, hH9⟩ := id hT
  obtain ⟨hV0, hV1, hV2, hV3, hV4, hV5, hVk, hVw⟩ := id hV
  have q0 := tb_0 23 ι
  have q1 := tb_1 23 ι
  have q2 := tb_2 23 ι
  have q3 := tb_3 23 ι
  have q4 := tb_4 23 ι
  have q5 := tb_5 23 ι
  refine g_aload_n (x := 8) rfl dX6_ahead_0 ?_
  refine g_get fgX6_26 zcl_6 (congrArg Prod.fst sh_8) (by decide) rg_8_2 dX6_ahead_1 ?_
  refine g_iload_n (x := s) rfl dX6_ahead_4 ?_
  refine i_callVp mvX5_hasStreet tw_512 (ci := 5) (congrArg Prod.fst sh_23) rfl (by decide) (c_hasStreet tt_23 ⟨by omega, by omega⟩ ⟨by omega, by omega⟩) (by decide) (st' := []) rfl (Nat.le_of_ble_eq_true rfl) rfl dX6_ahead_5 ?_
  refine g_nm (fun b5 hq0 => ?_)
  have hb5 : ((0 ≤ s ∧ s < ι 23 4) ∧ b5 = 1) ∨ (¬ (0 ≤ s ∧ s < ι 23 4) ∧ b5 = 0) := zb_c hq0
  clear hq0
  refine g_if_eq ⟨by omega, by omega⟩ (t := 25) dX6_ahead_8 (by decide) (fun h8 => ?_) (fun h8 => ?_)
  · refine g_ldc (x := -1000001) tw_253 (by decide) dX6_ahead_25 ?_
    exact i_iret rfl dX6_ahead_27 (⟨by rw [if_pos (by omega)], zFs.r ι⟩)
  · refine g_iload_n (x := n) rfl dX6_ahead_11 ?_
    refine i_callSp msX6_isNoFarHour tw_555 (c_isNoFarHour (x := n) ⟨by omega, by omega⟩) (by decide) (st' := []) rfl (Nat.le_of_ble_eq_true rfl) rfl dX6_ahead_12 ?_
    refine g_nm (fun b12 hq0 => ?_)
    have hb12 : ((n < 0 ∨ 60 < n) ∧ b12 = 1) ∨ (¬ (n < 0 ∨ 60 < n) ∧ b12 = 0) := zb_c hq0
    clear hq0
    refine g_if_ne ⟨by omega, by omega⟩ (t := 25) dX6_ahead_15 (by decide) (fun h15 => ?_) (fun h15 => ?_)
    · refine g_ldc (x := -1000001) tw_253 (by decide) dX6_ahead_25 ?_
      exact i_iret rfl dX6_ahead_27 (⟨by rw [if_pos (by omega)], zFs.r ι⟩)
    · refine g_iload_n (x := w) rfl dX6_ahead_18 ?_
      refine i_callSp msX6_isNoHalf tw_558 (c_isNoHalf (x := w) ⟨by omega, by omega⟩) (by decide) (st' := []) rfl (Nat.le_of_ble_eq_true rfl) rfl dX6_ahead_19 ?_
      refine g_nm (fun b19 hq0 => ?_)
      have hb19 : ((w < 0 ∨ 1 < w) ∧ b19 = 1) ∨ (¬ (w < 0 ∨ 1 < w) ∧ b19 = 0) := zb_c hq0
      clear hq0
      refine g_if_eq ⟨by omega, by omega⟩ (t := 28) dX6_ahead_22 (by decide) (fun h22 => ?_) (fun h22 => ?_)
      · refine g_aload_n (x := 8) rfl dX6_ahead_28 ?_
        refine g_get fgX6_49 zcl_6 (congrArg Prod.fst sh_8) (by decide) rg_8_7 dX6_ahead_29 ?_
        refine g_aload_n (x := 8) rfl dX6_ahead_32 ?_
        refine g_get fgX6_26 zcl_6 (congrArg Prod.fst sh_8) (by decide) rg_8_2 dX6_ahead_33 ?_
        refine g_iload_n (x := n) rfl dX6_ahead_36 ?_
        refine i_callV mvX2_townIn tw_561 (ci := 2) (congrArg Prod.fst sh_165) rfl (by decide) (c_townIn hT (by omega) (n := n) (by omega)) (by decide) (st' := []) rfl (Nat.le_of_ble_eq_true rfl) rfl dX6_ahead_37 (fun v_1 ι1 hq_37 => ?_)
        obtain ⟨rfl, hι1⟩ := hq_37
        obtain ⟨g1, g2, g3, g4, -⟩ := pasI_V (tb_tz 23 ι) hV (n := n) (by omega) (by omega)
        have e1 : tb 166 ι1 = pasI (tb 23 ι) n := by rw [hι1, tb_tp 166 g2]
        refine g_astore (ls' := [some (zR 8), some (zI s), some (zI n), some (zI w), some (zR 166)]) dX6_ahead_40 (by decide) rfl ?_
        refine g_iload_n (x := w) rfl dX6_ahead_42 ?_
        refine g_if_ne ⟨by omega, by omega⟩ (t := 56) dX6_ahead_43 (by decide) (fun h43 => ?_) (fun h43 => ?_)
        · refine g_aload (x := 166) rfl dX6_ahead_56 ?_
          refine g_get fgX6_172 zcl_5 (congrArg Prod.fst sh_166) (by decide) rg_166_2 dX6_ahead_58 ?_
          refine g_iload_n (x := s) rfl dX6_ahead_61 ?_
          refine g_iald sh_169 (by decide) (by omega) (by omega) (by decide) ag_169 dX6_ahead_62 ?_
          exact i_iret rfl dX6_ahead_63 (⟨by rw [if_neg (by omega), if_neg h43, ← e1, tb_l 166 ι1 (by omega) (by omega)], by rw [hι1]; exact zFs_tp _ _⟩)
        · refine g_aload (x := 166) rfl dX6_ahead_46 ?_
          refine g_get fgX6_163 zcl_5 (congrArg Prod.fst sh_166) (by decide) rg_166_1 dX6_ahead_48 ?_
          refine g_iload_n (x := s) rfl dX6_ahead_51 ?_
          refine g_iald sh_168 (by decide) (by omega) (by omega) (by decide) ag_168 dX6_ahead_52 ?_
          refine g_goto (t := 63) dX6_ahead_53 (by decide) ?_
          exact i_iret rfl dX6_ahead_63 (⟨by rw [if_neg (by omega), if_pos h43, ← e1, tb_d 166 ι1 (by omega) (by omega)], by rw [hι1]; exact zFs_tp _ _⟩)
      · refine g_ldc (x := -1000001) tw_253 (by decide) dX6_ahead_25 ?_
        exact i_iret rfl dX6_ahead_27 (⟨by rw [if_pos (by omega)], zFs.r ι⟩)

set_option maxRecDepth 100000 in
theorem c_xLater (hT : zTM (tb 23 ι)) {n w : Int} (hn : zB n) (hw : zB w) : zCi l (zc D ad L z) mX6_later 6 [zR 8, zI n, zI w] ι (fun v ι' => v = some (zI (if ¬ (0 < tb 23 ι 0) then -1000002 else if ¬ ((0 ≤ n ∧ n ≤ 60) ∧ (0 ≤ w ∧ w ≤ 1)) then -1000001 else if w = 0 then zaw (fun k => pasI (tb 23 ι) n (14 + k)) (tb 23 ι 0) else pasI (tb 23 ι) n 5)) ∧ zFs ι ι') := by
  refine zCt_of (by decide) (Nat.le_of_ble_eq_true rfl) 1 rfl ?_
  obtain ⟨hV, hNB, hH9⟩ := id hT
  obtain ⟨hV0, hV1, hV2, hV3, hV4, hV5, hVk, hVw⟩ := id hV
  have q0 := tb_0 23 ι
  have q1 := tb_1 23 ι
  have q2 := tb_2 23 ι
  have q3 := tb_3 23 ι
  have q4 := tb_4 23 ι
  have q5 := tb_5 23 ι
  refine g_aload_n (x := 8) rfl dX6_later_0 ?_
  refine i_callVp mvX6_noTown tw_461 (ci := 6) (congrArg Prod.fst sh_8) rfl (by decide) (c_noTown ⟨by omega, by omega⟩) (by decide) (st' := []) rfl (Nat.le_of_ble_eq_true rfl) rfl dX6_later_1 ?_
  refine g_nm (fun b1 hq0 => ?_)
  have hb1 : ((ι 23 4 = 0) ∧ b1 = 1) ∨ (¬ (ι 23 4 = 0) ∧ b1 = 0) := zb_c hq0
  clear hq0
  refine g_if_eq ⟨by omega, by omega⟩ (t := 10) dX6_later_4 (by decide) (fun h4 => ?_) (fun h4 => ?_)
  · refine g_iload_n (x := n) rfl dX6_later_10 ?_
    refine i_callSp msX6_isNoFarHour tw_555 (c_isNoFarHour (x := n) ⟨by omega, by omega⟩) (by decide) (st' := []) rfl (Nat.le_of_ble_eq_true rfl) rfl dX6_later_11 ?_
    refine g_nm (fun b11 hq0 => ?_)
    have hb11 : ((n < 0 ∨ 60 < n) ∧ b11 = 1) ∨ (¬ (n < 0 ∨ 60 < n) ∧ b11 = 0) := zb_c hq0
    clear hq0
    refine g_if_ne ⟨by omega, by omega⟩ (t := 24) dX6_later_14 (by decide) (fun h14 => ?_) (fun h14 => ?_)
    · refine g_ldc (x := -1000001) tw_253 (by decide) dX6_later_24 ?_
      exact i_iret rfl dX6_later_26 (⟨by rw [if_neg (by omega), if_pos (by omega)], zFs.r ι⟩)
    · refine g_iload_n (x := w) rfl dX6_later_17 ?_
      refine i_callSp msX6_isNoHalf tw_558 (c_isNoHalf (x := w) ⟨by omega, by omega⟩) (by decide) (st' := []) rfl (Nat.le_of_ble_eq_true rfl) rfl dX6_later_18 ?_
      refine g_nm (fun b18 hq0 => ?_)
      have hb18 : ((w < 0 ∨ 1 < w) ∧ b18 = 1) ∨ (¬ (w < 0 ∨ 1 < w) ∧ b18 = 0) := zb_c hq0
      clear hq0
      refine g_if_eq ⟨by omega, by omega⟩ (t := 27) dX6_later_21 (by decide) (fun h21 => ?_) (fun h21 => ?_)
      · refine g_aload_n (x := 8) rfl dX6_later_27 ?_
        refine g_get fgX6_49 zcl_6 (congrArg Prod.fst sh_8) (by decide) rg_8_7 dX6_later_28 ?_
        refine g_aload_n (x := 8) rfl dX6_later_31 ?_
        refine g_get fgX6_26 zcl_6 (congrArg Prod.fst sh_8) (by decide) rg_8_2 dX6_later_32 ?_
        refine g_iload_n (x := n) rfl dX6_later_35 ?_
        refine i_callV mvX2_townIn tw_561 (ci := 2) (congrArg Prod.fst sh_165) rfl (by decide) (c_townIn hT (by omega) (n := n) (by omega)) (by decide) (st' := []) rfl (Nat.le_of_ble_eq_true rfl) rfl dX6_later_36 (fun v_1 ι1 hq_36 => ?_)
        obtain ⟨rfl, hι1⟩ := hq_36
        obtain ⟨g1, g2, g3, g4, -⟩ := pasI_V (tb_tz 23 ι) hV (n := n) (by omega) (by omega)
        have e1 : tb 166 ι1 = pasI (tb 23 ι) n := by rw [hι1, tb_tp 166 g2]
        refine g_astore_n (ls' := [some (zR 8), some (zI n), some (zI w), some (zR 166)]) dX6_later_39 (by decide) rfl ?_
        refine g_iload_n (x := w) rfl dX6_later_40 ?_
        refine g_if_ne ⟨by omega, by omega⟩ (t := 51) dX6_later_41 (by decide) (fun h41 => ?_) (fun h41 => ?_)
        · refine g_aload_n (x := 166) rfl dX6_later_51 ?_
          refine g_get fgX6_208 zcl_5 (congrArg Prod.fst sh_166) (by decide) ig_166_9 dX6_later_52 ?_
          exact i_iret rfl dX6_later_55 (⟨by rw [if_neg (by omega), if_neg (by omega), if_neg h41, ← e1, tb_5], by rw [hι1]; exact zFs_tp _ _⟩)
        · refine g_aload_n (x := 166) rfl dX6_later_44 ?_
          refine i_callVp mvX5_awake tw_500 (ci := 5) (congrArg Prod.fst sh_166) rfl (by decide) (c_awake tt_166 (by rw [← tb_0 166 ι1, e1]; exact g1.1) (fun k k0 k1 => by rw [← tb_0 166 ι1, e1] at k1; have := (g1.2.2.2.2.2.2.1 k k0 k1).2.1; rw [← e1, tb_d 166 ι1 k0 (by have := g1.1; omega)] at this; exact ⟨by omega, by omega⟩)) (by decide) (st' := []) rfl (Nat.le_of_ble_eq_true rfl) rfl dX6_later_45 ?_
          refine g_goto (t := 55) dX6_later_48 (by decide) ?_
          exact i_iret rfl dX6_later_55 (⟨by rw [if_neg (by omega), if_neg (by omega), if_pos h41, ← zaw_tb e1 g3 (by omega)], by rw [hι1]; exact zFs_tp _ _⟩)
      · refine g_ldc (x := -1000001) tw_253 (by decide) dX6_later_24 ?_
        exact i_iret rfl dX6_later_26 (⟨by rw [if_neg (by omega), if_pos (by omega)], zFs.r ι⟩)
  · refine g_ldc (x := -1000002) tw_465 (by decide) dX6_later_7 ?_
    exact i_iret rfl dX6_later_9 (⟨by rw [if_pos (by omega)], zFs.r ι⟩)

set_option maxRecDepth 100000 in
theorem c_xWakes (hT : zTM (tb 23 ι)) {s : Int} (hs : zB s) : zCi l (zc D ad L z) mX6_wakes 5 [zR 8, zI s] ι (fun v ι' => v = some (zI (if 0 ≤ s ∧ s < tb 23 ι 0 then zfa (tb 23 ι) (zshl 1 s) 0 else -1000001)) ∧ zFs ι ι') := by
  refine zCt_of (by decide) (Nat.le_of_ble_eq_true rfl) 0 rfl ?_
  obtain ⟨hV, hNB, hH9⟩ := id hT
  obtain ⟨hV0, hV1, hV2, hV3, hV4, hV5, hVk, hVw⟩ := id hV
  have q0 := tb_0 23 ι
  have q1 := tb_1 23 ι
  have q2 := tb_2 23 ι
  have q3 := tb_3 23 ι
  have q4 := tb_4 23 ι
  have q5 := tb_5 23 ι
  refine g_aload_n (x := 8) rfl dX6_wakes_0 ?_
  refine g_get fgX6_26 zcl_6 (congrArg Prod.fst sh_8) (by decide) rg_8_2 dX6_wakes_1 ?_
  refine g_iload_n (x := s) rfl dX6_wakes_4 ?_
  refine i_callVp mvX5_hasStreet tw_512 (ci := 5) (congrArg Prod.fst sh_23) rfl (by decide) (c_hasStreet tt_23 ⟨by omega, by omega⟩ ⟨by omega, by omega⟩) (by decide) (st' := []) rfl (Nat.le_of_ble_eq_true rfl) rfl dX6_wakes_5 ?_
  refine g_nm (fun b5 hq0 => ?_)
  have hb5 : ((0 ≤ s ∧ s < ι 23 4) ∧ b5 = 1) ∨ (¬ (0 ≤ s ∧ s < ι 23 4) ∧ b5 = 0) := zb_c hq0
  clear hq0
  refine g_if_eq ⟨by omega, by omega⟩ (t := 28) dX6_wakes_8 (by decide) (fun h8 => ?_) (fun h8 => ?_)
  · refine g_ldc (x := -1000001) tw_253 (by decide) dX6_wakes_28 ?_
    exact i_iret rfl dX6_wakes_30 (⟨by rw [if_neg (by omega)], zFs.r ι⟩)
  · refine g_aload_n (x := 8) rfl dX6_wakes_11 ?_
    refine g_get fgX6_49 zcl_6 (congrArg Prod.fst sh_8) (by decide) rg_8_7 dX6_wakes_12 ?_
    refine g_aload_n (x := 8) rfl dX6_wakes_15 ?_
    refine g_get fgX6_26 zcl_6 (congrArg Prod.fst sh_8) (by decide) rg_8_2 dX6_wakes_16 ?_
    refine g_iconst (x := 1) rfl dX6_wakes_19 ?_
    refine g_iload_n (x := s) rfl dX6_wakes_20 ?_
    refine g_ishl dX6_wakes_21 ?_
    have hzs := zshl_v (n := s) (by omega) (by omega)
    refine i_callV mvX2_hoursUntilAwake tw_579 (ci := 2) (congrArg Prod.fst sh_165) rfl (by decide) (c_hoursUntilAwake hT (by omega) (s := zshl 1 s) (by omega)) (by decide) (st' := []) rfl (Nat.le_of_ble_eq_true rfl) rfl dX6_wakes_22 (fun v_1 ι1 hq_22 => ?_)
    obtain ⟨rfl, hF⟩ := hq_22
    refine g_goto (t := 30) dX6_wakes_25 (by decide) ?_
    exact i_iret rfl dX6_wakes_30 (⟨by rw [if_pos (by omega)], hF⟩)

set_option maxRecDepth 100000 in
theorem c_xAlarm (hT : zTM (tb 23 ι)) : zCi l (zc D ad L z) mX6_alarm 5 [zR 8] ι (fun v ι' => v = some (zI (if 0 < tb 23 ι 0 then zfa (tb 23 ι) (zshl 1 (tb 23 ι 0) - 1) 0 else -1000002)) ∧ zFs ι ι') := by
  refine zCt_of (by decide) (Nat.le_of_ble_eq_true rfl) 0 rfl ?_
  obtain ⟨hV, hNB, hH9⟩ := id hT
  obtain ⟨hV0, hV1, hV2, hV3, hV4, hV5, hVk, hVw⟩ := id hV
  have q0 := tb_0 23 ι
  have q1 := tb_1 23 ι
  have q2 := tb_2 23 ι
  have q3 := tb_3 23 ι
  have q4 := tb_4 23 ι
  have q5 := tb_5 23 ι
  refine g_aload_n (x := 8) rfl dX6_alarm_0 ?_
  refine i_callVp mvX6_noTown tw_461 (ci := 6) (congrArg Prod.fst sh_8) rfl (by decide) (c_noTown ⟨by omega, by omega⟩) (by decide) (st' := []) rfl (Nat.le_of_ble_eq_true rfl) rfl dX6_alarm_1 ?_
  refine g_nm (fun b1 hq0 => ?_)
  have hb1 : ((ι 23 4 = 0) ∧ b1 = 1) ∨ (¬ (ι 23 4 = 0) ∧ b1 = 0) := zb_c hq0
  clear hq0
  refine g_if_eq ⟨by omega, by omega⟩ (t := 12) dX6_alarm_4 (by decide) (fun h4 => ?_) (fun h4 => ?_)
  · refine g_aload_n (x := 8) rfl dX6_alarm_12 ?_
    refine g_get fgX6_49 zcl_6 (congrArg Prod.fst sh_8) (by decide) rg_8_7 dX6_alarm_13 ?_
    refine g_aload_n (x := 8) rfl dX6_alarm_16 ?_
    refine g_get fgX6_26 zcl_6 (congrArg Prod.fst sh_8) (by decide) rg_8_2 dX6_alarm_17 ?_
    refine g_aload_n (x := 8) rfl dX6_alarm_20 ?_
    refine g_get fgX6_26 zcl_6 (congrArg Prod.fst sh_8) (by decide) rg_8_2 dX6_alarm_21 ?_
    refine i_callVp mvX5_allStreets tw_590 (ci := 5) (congrArg Prod.fst sh_23) rfl (by decide) (c_allStreets tt_23) (by decide) (st' := [zR 23, zR 165]) rfl (Nat.le_of_ble_eq_true rfl) rfl dX6_alarm_24 ?_
    rw [← q0]
    have hzf := zshl_f (x := tb 23 ι 0) (by omega) (by omega)
    refine i_callV mvX2_hoursUntilAwake tw_579 (ci := 2) (congrArg Prod.fst sh_165) rfl (by decide) (c_hoursUntilAwake hT (by omega) (s := zshl 1 (tb 23 ι 0) - 1) (by omega)) (by decide) (st' := []) rfl (Nat.le_of_ble_eq_true rfl) rfl dX6_alarm_27 (fun v_1 ι1 hq_27 => ?_)
    obtain ⟨rfl, hF⟩ := hq_27
    exact i_iret rfl dX6_alarm_30 (⟨by rw [if_pos (by omega)], hF⟩)
  · refine g_ldc (x := -1000002) tw_465 (by decide) dX6_alarm_7 ?_
    refine g_goto (t := 30) dX6_alarm_9 (by decide) ?_
    exact i_iret rfl dX6_alarm_30 (⟨by rw [if_neg (by omega)], zFs.r ι⟩)

set_option maxRecDepth 100000 in
theorem c_xTune (hT : zTM (tb 23 ι)) {k n j : Int} (hk : zB k) (hn : zB n) (hj : zB j) : zCi l (zc D ad L z) mX6_tune 5 [zR 8, zI k, zI n, zI j] ι (fun v ι' => v = some (zI (if ¬ (0 < tb 23 ι 0) then -1000002 else if ¬ ((1 ≤ k ∧ k ≤ 4) ∧ (1 ≤ n ∧ n ≤ 12) ∧ -1 ≤ j) then -1000001 else if j < 0 then (zft (zbu (tb 23 ι) k n) (tb 23 ι 0 ^ k.toNat - 1)).1 / 16 else if j < k then zdi (tb 23 ι 0) (zft (zbu (tb 23 ι) k n) (tb 23 ι 0 ^ k.toNat - 1)).2 (k - 1 - j) else -1000000)) ∧ zFs ι ι') := by
  refine zCt_of (by decide) (Nat.le_of_ble_eq_true rfl) 0 rfl ?_
  obtain ⟨hV, hNB, hH9⟩ := id hT
  obtain ⟨hV0, hV1, hV2, hV3, hV4, hV5, hVk, hVw⟩ := id hV
  have q0 := tb_0 23 ι
  have q1 := tb_1 23 ι
  have q2 := tb_2 23 ι
  have q3 := tb_3 23 ι
  have q4 := tb_4 23 ι
  have q5 := tb_5 23 ι
  refine g_aload_n (x := 8) rfl dX6_tune_0 ?_
  refine i_callVp mvX6_noTown tw_461 (ci := 6) (congrArg Prod.fst sh_8) rfl (by decide) (c_noTown ⟨by omega, by omega⟩) (by decide) (st' := []) rfl (Nat.le_of_ble_eq_true rfl) rfl dX6_tune_1 ?_
  refine g_nm (fun b1 hq0 => ?_)
  have hb1 : ((ι 23 4 = 0) ∧ b1 = 1) ∨ (¬ (ι 23 4 = 0) ∧ b1 = 0) := zb_c hq0
  clear hq0
  refine g_if_eq ⟨by omega, by omega⟩ (t := 10) dX6_tune_4 (by decide) (fun h4 => ?_) (fun h4 => ?_)
  · refine g_iload_n (x := k) rfl dX6_tune_10 ?_
    refine g_iconst (x := 1) rfl dX6_tune_11 ?_
    refine g_icmp_lt ⟨by omega, by omega⟩ (by decide) (t := 36) dX6_tune_12 (by decide) (fun h12 => ?_) (fun h12 => ?_)
    · refine g_ldc (x := -1000001) tw_253 (by decide) dX6_tune_36 ?_
      exact i_iret rfl dX6_tune_38 (⟨by rw [if_neg (by omega), if_pos (by omega)], zFs.r ι⟩)
    · refine g_iload_n (x := k) rfl dX6_tune_15 ?_
      refine g_iconst (x := 4) rfl dX6_tune_16 ?_
      refine g_icmp_gt ⟨by omega, by omega⟩ (by decide) (t := 36) dX6_tune_17 (by decide) (fun h17 => ?_) (fun h17 => ?_)
      · refine g_ldc (x := -1000001) tw_253 (by decide) dX6_tune_36 ?_
        exact i_iret rfl dX6_tune_38 (⟨by rw [if_neg (by omega), if_pos (by omega)], zFs.r ι⟩)
      · refine g_iload_n (x := n) rfl dX6_tune_20 ?_
        refine g_iconst (x := 1) rfl dX6_tune_21 ?_
        refine g_icmp_lt ⟨by omega, by omega⟩ (by decide) (t := 36) dX6_tune_22 (by decide) (fun h22 => ?_) (fun h22 => ?_)
        · refine g_ldc (x := -1000001) tw_253 (by decide) dX6_tune_36 ?_
          exact i_iret rfl dX6_tune_38 (⟨by rw [if_neg (by omega), if_pos (by omega)], zFs.r ι⟩)
        · refine g_iload_n (x := n) rfl dX6_tune_25 ?_
          refine g_bipush (x := 12) (by decide) dX6_tune_26 ?_
          refine g_icmp_gt ⟨by omega, by omega⟩ (by decide) (t := 36) dX6_tune_28 (by decide) (fun h28 => ?_) (fun h28 => ?_)
          · refine g_ldc (x := -1000001) tw_253 (by decide) dX6_tune_36 ?_
            exact i_iret rfl dX6_tune_38 (⟨by rw [if_neg (by omega), if_pos (by omega)], zFs.r ι⟩)
          · refine g_iload_n (x := j) rfl dX6_tune_31 ?_
            refine g_iconst (x := -1) rfl dX6_tune_32 ?_
            refine g_icmp_ge ⟨by omega, by omega⟩ (by decide) (t := 39) dX6_tune_33 (by decide) (fun h33 => ?_) (fun h33 => ?_)
            · refine g_iload_n (x := j) rfl dX6_tune_39 ?_
              refine g_iload_n (x := k) rfl dX6_tune_40 ?_
              refine g_icmp_lt ⟨by omega, by omega⟩ ⟨by omega, by omega⟩ (t := 47) dX6_tune_41 (by decide) (fun h41 => ?_) (fun h41 => ?_)
              · refine g_aload_n (x := 8) rfl dX6_tune_47 ?_
                refine g_get fgX6_49 zcl_6 (congrArg Prod.fst sh_8) (by decide) rg_8_7 dX6_tune_48 ?_
                refine g_aload_n (x := 8) rfl dX6_tune_51 ?_
                refine g_get fgX6_26 zcl_6 (congrArg Prod.fst sh_8) (by decide) rg_8_2 dX6_tune_52 ?_
                refine g_iload_n (x := k) rfl dX6_tune_55 ?_
                refine g_iload_n (x := n) rfl dX6_tune_56 ?_
                refine i_callV mvX2_findTune tw_599 (ci := 2) (congrArg Prod.fst sh_165) rfl (by decide) (c_findTune hT (by omega) (k := k) (n := n) (by omega) (by omega)) (by decide) (st' := []) rfl (Nat.le_of_ble_eq_true rfl) rfl dX6_tune_57 (fun v_1 ι1 hq_57 => ?_)
                obtain ⟨rfl, hF, h8, h7⟩ := hq_57
                have hpw := zpw_b (N := tb 23 ι 0) (k := k) (by omega) (by omega)
                have hfb : ∀ x, 0 ≤ zbu (tb 23 ι) k n x ∧ zbu (tb 23 ι) k n x ≤ 7688 := fun x => by have := zbu_b hV (k := k) (n := n) (x := x) (by omega); omega
                have hab := zft_b (f := zbu (tb 23 ι) k n) (B := 7688) hfb (m := tb 23 ι 0 ^ k.toNat - 1) (by omega)
                have p0 : ι1 23 4 = tb 23 ι 0 := by rw [← zFs_tb hF, tb_0]
                refine g_iload_n (x := j) rfl dX6_tune_60 ?_
                refine g_if_ge ⟨by omega, by omega⟩ (t := 74) dX6_tune_61 (by decide) (fun h61 => ?_) (fun h61 => ?_)
                · refine g_aload_n (x := 8) rfl dX6_tune_74 ?_
                  refine g_get fgX6_49 zcl_6 (congrArg Prod.fst sh_8) (by decide) rg_8_7 dX6_tune_75 ?_
                  refine g_aload_n (x := 8) rfl dX6_tune_78 ?_
                  refine g_get fgX6_26 zcl_6 (congrArg Prod.fst sh_8) (by decide) rg_8_2 dX6_tune_79 ?_
                  refine g_get fgX6_127 zcl_5 (congrArg Prod.fst sh_23) (by decide) ig_23_4 dX6_tune_82 ?_
                  refine g_iload_n (x := k) rfl dX6_tune_85 ?_
                  refine g_iload_n (x := j) rfl dX6_tune_86 ?_
                  rw [p0]
                  refine i_callVp mvX2_tunedBeat tw_622 (ci := 2) (congrArg Prod.fst sh_165) rfl (by decide) (c_tunedBeat (by rw [h7]; omega) (by omega) (by omega) (by omega)) (by decide) (st' := []) rfl (Nat.le_of_ble_eq_true rfl) rfl dX6_tune_87 ?_
                  exact i_iret rfl dX6_tune_90 (⟨by rw [if_neg (by omega), if_neg (by omega), if_neg (by omega), if_pos (by omega), h7], hF⟩)
                · refine g_aload_n (x := 8) rfl dX6_tune_64 ?_
                  refine g_get fgX6_49 zcl_6 (congrArg Prod.fst sh_8) (by decide) rg_8_7 dX6_tune_65 ?_
                  refine g_get fgX6_223 zcl_2 (congrArg Prod.fst sh_165) (by decide) ig_165_8 dX6_tune_68 ?_
                  refine g_goto (t := 90) dX6_tune_71 (by decide) ?_
                  exact i_iret rfl dX6_tune_90 (⟨by rw [if_neg (by omega), if_neg (by omega), if_pos (by omega), h8], hF⟩)
              · refine g_ldc (x := -1000000) tw_598 (by decide) dX6_tune_44 ?_
                exact i_iret rfl dX6_tune_46 (⟨by rw [if_neg (by omega), if_neg (by omega), if_neg (by omega), if_neg (by omega)], zFs.r ι⟩)
            · refine g_ldc (x := -1000001) tw_253 (by decide) dX6_tune_36 ?_
              exact i_iret rfl dX6_tune_38 (⟨by rw [if_neg (by omega), if_pos (by omega)], zFs.r ι⟩)
  · refine g_ldc (x := -1000002) tw_465 (by decide) dX6_tune_7 ?_
    exact i_iret rfl dX6_tune_9 (⟨by rw [if_pos (by omega)], zFs.r ι⟩)

theorem zsf_1 {f : Int → Int → Int} {c N B : Int} (hN : 0 ≤ N ∧ N ≤ 8) (hB : 0 ≤ B ∧ B ≤ 8) : -1000000 ≤ (zsf f ((-1000000, c) : Int × Int) N B).1 ∧ (zsf f ((-1000000, c) : Int × Int) N B).1 ≤ 100 := by
  refine zfd_ind (f := fun s b => zfd (zss f b) s N) (P := fun _ (a : Int × Int) => -1000000 ≤ a.1 ∧ a.1 ≤ 100) ⟨by show (-1000000 : Int) ≤ -1000000; decide, by show (-1000000 : Int) ≤ 100; decide⟩ (fun i a i0 i1 ha => ?_) hB.1
  refine zfd_ind (f := zss f i) (P := fun _ (a : Int × Int) => -1000000 ≤ a.1 ∧ a.1 ≤ 100) ha (fun j b j0 j1 hb => ?_) hN.1
  unfold zss
  split
  · show -1000000 ≤ 10 * i + j ∧ 10 * i + j ≤ 100
    omega
  · exact hb
set_option maxRecDepth 100000 in
theorem c_xShift (hT : zTM (tb 23 ι)) {n w : Int} (hn : zB n) (hw : zB w) : zCi l (zc D ad L z) mX6_shift 7 [zR 8, zI n, zI w] ι (fun v ι' => v = some (zI (if ¬ (0 < tb 23 ι 0) then -1000002 else if ¬ ((1 ≤ n ∧ n ≤ 30) ∧ (0 ≤ w ∧ w ≤ 1)) then -1000001 else if (zsf (zcm (tb 23 ι) n) ((-1000000, pasI (tb 23 ι) n 5 - tb 23 ι 5) : Int × Int) (tb 23 ι 0) (tb 23 ι 1)).1 = -1000000 ∨ w = 0 then (zsf (zcm (tb 23 ι) n) ((-1000000, pasI (tb 23 ι) n 5 - tb 23 ι 5) : Int × Int) (tb 23 ι 0) (tb 23 ι 1)).1 else (zsf (zcm (tb 23 ι) n) ((-1000000, pasI (tb 23 ι) n 5 - tb 23 ι 5) : Int × Int) (tb 23 ι 0) (tb 23 ι 1)).2)) ∧ zFs ι ι') := by
  refine zCt_of (by decide) (Nat.le_of_ble_eq_true rfl) 1 rfl ?_
  obtain ⟨hV, hNB, hH9⟩ := id hT
  obtain ⟨hV0, hV1, hV2, hV3, hV4, hV5, hVk, hVw⟩ := id hV
  have q0 := tb_0 23 ι
  have q1 := tb_1 23 ι
  have q2 := tb_2 23 ι
  have q3 := tb_3 23 ι
  have q4 := tb_4 23 ι
  have q5 := tb_5 23 ι
  refine g_aload_n (x := 8) rfl dX6_shift_0 ?_
  refine i_callVp mvX6_noTown tw_461 (ci := 6) (congrArg Prod.fst sh_8) rfl (by decide) (c_noTown ⟨by omega, by omega⟩) (by decide) (st' := []) rfl (Nat.le_of_ble_eq_true rfl) rfl dX6_shift_1 ?_
  refine g_nm (fun b1 hq0 => ?_)
  have hb1 : ((ι 23 4 = 0) ∧ b1 = 1) ∨ (¬ (ι 23 4 = 0) ∧ b1 = 0) := zb_c hq0
  clear hq0
  refine g_if_eq ⟨by omega, by omega⟩ (t := 10) dX6_shift_4 (by decide) (fun h4 => ?_) (fun h4 => ?_)
  · refine g_iload_n (x := n) rfl dX6_shift_10 ?_
    refine g_iconst (x := 1) rfl dX6_shift_11 ?_
    refine g_icmp_lt ⟨by omega, by omega⟩ (by decide) (t := 28) dX6_shift_12 (by decide) (fun h12 => ?_) (fun h12 => ?_)
    · refine g_ldc (x := -1000001) tw_253 (by decide) dX6_shift_28 ?_
      exact i_iret rfl dX6_shift_30 (⟨by rw [if_neg (by omega), if_pos (by omega)], zFs.r ι⟩)
    · refine g_iload_n (x := n) rfl dX6_shift_15 ?_
      refine g_bipush (x := 30) (by decide) dX6_shift_16 ?_
      refine g_icmp_gt ⟨by omega, by omega⟩ (by decide) (t := 28) dX6_shift_18 (by decide) (fun h18 => ?_) (fun h18 => ?_)
      · refine g_ldc (x := -1000001) tw_253 (by decide) dX6_shift_28 ?_
        exact i_iret rfl dX6_shift_30 (⟨by rw [if_neg (by omega), if_pos (by omega)], zFs.r ι⟩)
      · refine g_iload_n (x := w) rfl dX6_shift_21 ?_
        refine i_callSp msX6_isNoHalf tw_558 (c_isNoHalf (x := w) ⟨by omega, by omega⟩) (by decide) (st' := []) rfl (Nat.le_of_ble_eq_true rfl) rfl dX6_shift_22 ?_
        refine g_nm (fun b22 hq0 => ?_)
        have hb22 : ((w < 0 ∨ 1 < w) ∧ b22 = 1) ∨ (¬ (w < 0 ∨ 1 < w) ∧ b22 = 0) := zb_c hq0
        clear hq0
        refine g_if_eq ⟨by omega, by omega⟩ (t := 31) dX6_shift_25 (by decide) (fun h25 => ?_) (fun h25 => ?_)
        · refine g_aload_n (x := 8) rfl dX6_shift_31 ?_
          refine g_get fgX6_49 zcl_6 (congrArg Prod.fst sh_8) (by decide) rg_8_7 dX6_shift_32 ?_
          refine g_aload_n (x := 8) rfl dX6_shift_35 ?_
          refine g_get fgX6_26 zcl_6 (congrArg Prod.fst sh_8) (by decide) rg_8_2 dX6_shift_36 ?_
          refine g_iload_n (x := n) rfl dX6_shift_39 ?_
          refine i_callV mvX2_findShift tw_630 (ci := 2) (congrArg Prod.fst sh_165) rfl (by decide) (c_findShift hT (by omega) (n := n) (by omega)) (by decide) (st' := []) rfl (Nat.le_of_ble_eq_true rfl) rfl dX6_shift_40 (fun v_1 ι1 hq_40 => ?_)
          obtain ⟨rfl, hF, h8⟩ := hq_40
          have h1 := zsf_1 (f := zcm (tb 23 ι) n) (c := pasI (tb 23 ι) n 5 - tb 23 ι 5) hV0 hV1
          obtain ⟨Z, hZ⟩ : ∃ Z, Z = (zsf (zcm (tb 23 ι) n) ((-1000000, pasI (tb 23 ι) n 5 - tb 23 ι 5) : Int × Int) (tb 23 ι 0) (tb 23 ι 1)) := ⟨_, rfl⟩
          rw [← hZ] at h1 h8 ⊢
          refine g_istore_n (ls' := [some (zR 8), some (zI n), some (zI w), some (zI Z.1)]) dX6_shift_43 (by decide) rfl ?_
          refine g_iload_n (x := w) rfl dX6_shift_44 ?_
          refine g_if_eq ⟨by omega, by omega⟩ (t := 54) dX6_shift_45 (by decide) (fun h45 => ?_) (fun h45 => ?_)
          · refine g_iload_n (x := Z.1) rfl dX6_shift_54 ?_
            refine g_goto (t := 65) dX6_shift_55 (by decide) ?_
            exact i_iret rfl dX6_shift_65 (⟨by rw [if_neg (by omega), if_neg (by omega), if_pos (by omega)], hF⟩)
          · refine g_iload_n (x := Z.1) rfl dX6_shift_48 ?_
            refine g_ldc (x := -1000000) tw_598 (by decide) dX6_shift_49 ?_
            refine g_icmp_ne ⟨by omega, by omega⟩ (by decide) (t := 58) dX6_shift_51 (by decide) (fun h51 => ?_) (fun h51 => ?_)
            · refine g_aload_n (x := 8) rfl dX6_shift_58 ?_
              refine g_get fgX6_49 zcl_6 (congrArg Prod.fst sh_8) (by decide) rg_8_7 dX6_shift_59 ?_
              refine g_get fgX6_223 zcl_2 (congrArg Prod.fst sh_165) (by decide) ig_165_8 dX6_shift_62 ?_
              exact i_iret rfl dX6_shift_65 (⟨by rw [if_neg (by omega), if_neg (by omega), if_neg (by omega), h8], hF⟩)
            · refine g_iload_n (x := Z.1) rfl dX6_shift_54 ?_
              refine g_goto (t := 65) dX6_shift_55 (by decide) ?_
              exact i_iret rfl dX6_shift_65 (⟨by rw [if_neg (by omega), if_neg (by omega), if_pos (by omega)], hF⟩)
        · refine g_ldc (x := -1000001) tw_253 (by decide) dX6_shift_28 ?_
          exact i_iret rfl dX6_shift_30 (⟨by rw [if_neg (by omega), if_pos (by omega)], zFs.r ι⟩)
  · refine g_ldc (x := -1000002) tw_465 (by decide) dX6_shift_7 ?_
    exact i_iret rfl dX6_shift_9 (⟨by rw [if_pos (by omega)], zFs.r ι⟩)

set_option maxRecDepth 100000 in
theorem c_xCover (hT : zTM (tb 23 ι)) {w : Int} (hw : zB w) : zCi l (zc D ad L z) mX6_cover 4 [zR 8, zI w] ι (zP (zI (if ¬ (0 < tb 23 ι 0) then -1000002 else if ¬ (0 ≤ w ∧ w ≤ 1) then -1000001 else if w = 0 then zon (zfp (tb 23 ι 0) (tb 23 ι 2) (zshl 1 (tb 23 ι 0) - 1 - 1)) else (zfp (tb 23 ι 0) (tb 23 ι 2) (zshl 1 (tb 23 ι 0) - 1 - 1)))) ι) := by
  refine zCt_of (by decide) (Nat.le_of_ble_eq_true rfl) 1 rfl ?_
  obtain ⟨hV, hNB, hH9⟩ := id hT
  obtain ⟨hV0, hV1, hV2, hV3, hV4, hV5, hVk, hVw⟩ := id hV
  have q0 := tb_0 23 ι
  have q1 := tb_1 23 ι
  have q2 := tb_2 23 ι
  have q3 := tb_3 23 ι
  have q4 := tb_4 23 ι
  have q5 := tb_5 23 ι
  refine g_aload_n (x := 8) rfl dX6_cover_0 ?_
  refine i_callVp mvX6_noTown tw_461 (ci := 6) (congrArg Prod.fst sh_8) rfl (by decide) (c_noTown ⟨by omega, by omega⟩) (by decide) (st' := []) rfl (Nat.le_of_ble_eq_true rfl) rfl dX6_cover_1 ?_
  refine g_nm (fun b1 hq0 => ?_)
  have hb1 : ((ι 23 4 = 0) ∧ b1 = 1) ∨ (¬ (ι 23 4 = 0) ∧ b1 = 0) := zb_c hq0
  clear hq0
  refine g_if_eq ⟨by omega, by omega⟩ (t := 10) dX6_cover_4 (by decide) (fun h4 => ?_) (fun h4 => ?_)
  · refine g_iload_n (x := w) rfl dX6_cover_10 ?_
    refine i_callSp msX6_isNoHalf tw_558 (c_isNoHalf (x := w) ⟨by omega, by omega⟩) (by decide) (st' := []) rfl (Nat.le_of_ble_eq_true rfl) rfl dX6_cover_11 ?_
    refine g_nm (fun b11 hq0 => ?_)
    have hb11 : ((w < 0 ∨ 1 < w) ∧ b11 = 1) ∨ (¬ (w < 0 ∨ 1 < w) ∧ b11 = 0) := zb_c hq0
    clear hq0
    refine g_if_eq ⟨by omega, by omega⟩ (t := 20) dX6_cover_14 (by decide) (fun h14 => ?_) (fun h14 => ?_)
    · refine g_aload_n (x := 8) rfl dX6_cover_20 ?_
      refine g_get fgX6_49 zcl_6 (congrArg Prod.fst sh_8) (by decide) rg_8_7 dX6_cover_21 ?_
      refine g_aload_n (x := 8) rfl dX6_cover_24 ?_
      refine g_get fgX6_26 zcl_6 (congrArg Prod.fst sh_8) (by decide) rg_8_2 dX6_cover_25 ?_
      have hzf := zshl_f (x := tb 23 ι 0) (by omega) (by omega)
      have hfb := zfp_b (N := tb 23 ι 0) (r := tb 23 ι 2) (by omega) (i := zshl 1 (tb 23 ι 0) - 1 - 1) (by omega) (by omega)
      refine i_callVp mvX2_fewestPosts tw_643 (ci := 2) (congrArg Prod.fst sh_165) rfl (by decide) (c_fewestPosts hT (by omega)) (by decide) (st' := []) rfl (Nat.le_of_ble_eq_true rfl) rfl dX6_cover_28 ?_
      refine g_istore_n (ls' := [some (zR 8), some (zI w), some (zI (zfp (tb 23 ι 0) (tb 23 ι 2) (zshl 1 (tb 23 ι 0) - 1 - 1)))]) dX6_cover_31 (by decide) rfl ?_
      refine g_iload_n (x := w) rfl dX6_cover_32 ?_
      refine g_if_ne ⟨by omega, by omega⟩ (t := 43) dX6_cover_33 (by decide) (fun h33 => ?_) (fun h33 => ?_)
      · refine g_iload_n (x := (zfp (tb 23 ι 0) (tb 23 ι 2) (zshl 1 (tb 23 ι 0) - 1 - 1))) rfl dX6_cover_43 ?_
        exact i_iret rfl dX6_cover_44 (⟨by rw [if_neg (by omega), if_neg (by omega), if_neg (by omega)], rfl⟩)
      · refine g_iload_n (x := (zfp (tb 23 ι 0) (tb 23 ι 2) (zshl 1 (tb 23 ι 0) - 1 - 1))) rfl dX6_cover_36 ?_
        refine i_callSp msJ6_bitCount_0f7a4 tw_657 (c_bitCount) (by decide) (st' := []) rfl (Nat.le_of_ble_eq_true rfl) rfl dX6_cover_37 ?_
        rw [zbc_on (by omega) (by omega)]
        refine g_goto (t := 44) dX6_cover_40 (by decide) ?_
        exact i_iret rfl dX6_cover_44 (⟨by rw [if_neg (by omega), if_neg (by omega), if_pos (by omega)], rfl⟩)
    · refine g_ldc (x := -1000001) tw_253 (by decide) dX6_cover_17 ?_
      exact i_iret rfl dX6_cover_19 (⟨by rw [if_neg (by omega), if_pos (by omega)], rfl⟩)
  · refine g_ldc (x := -1000002) tw_465 (by decide) dX6_cover_7 ?_
    exact i_iret rfl dX6_cover_9 (⟨by rw [if_pos (by omega)], rfl⟩)

set_option maxRecDepth 100000 in
theorem c_xSpread (hT : zTM (tb 23 ι)) {s n : Int} (hs : zB s) (hn : zB n) : zCi l (zc D ad L z) mX6_spread 5 [zR 8, zI s, zI n] ι (fun v ι' => v = some (zI (if ¬ ((0 ≤ s ∧ s < tb 23 ι 0) ∧ (1 ≤ n ∧ n ≤ 30)) then -1000001 else zsp (tb 23 ι) s n 0)) ∧ zFs ι ι') := by
  refine zCt_of (by decide) (Nat.le_of_ble_eq_true rfl) 0 rfl ?_
  obtain ⟨hV, hNB, hH9⟩ := id hT
  obtain ⟨hV0, hV1, hV2, hV3, hV4, hV5, hVk, hVw⟩ := id hV
  have q0 := tb_0 23 ι
  have q1 := tb_1 23 ι
  have q2 := tb_2 23 ι
  have q3 := tb_3 23 ι
  have q4 := tb_4 23 ι
  have q5 := tb_5 23 ι
  refine g_aload_n (x := 8) rfl dX6_spread_0 ?_
  refine g_get fgX6_26 zcl_6 (congrArg Prod.fst sh_8) (by decide) rg_8_2 dX6_spread_1 ?_
  refine g_iload_n (x := s) rfl dX6_spread_4 ?_
  refine i_callVp mvX5_hasStreet tw_512 (ci := 5) (congrArg Prod.fst sh_23) rfl (by decide) (c_hasStreet tt_23 ⟨by omega, by omega⟩ ⟨by omega, by omega⟩) (by decide) (st' := []) rfl (Nat.le_of_ble_eq_true rfl) rfl dX6_spread_5 ?_
  refine g_nm (fun b5 hq0 => ?_)
  have hb5 : ((0 ≤ s ∧ s < ι 23 4) ∧ b5 = 1) ∨ (¬ (0 ≤ s ∧ s < ι 23 4) ∧ b5 = 0) := zb_c hq0
  clear hq0
  refine g_if_eq ⟨by omega, by omega⟩ (t := 22) dX6_spread_8 (by decide) (fun h8 => ?_) (fun h8 => ?_)
  · refine g_ldc (x := -1000001) tw_253 (by decide) dX6_spread_22 ?_
    exact i_iret rfl dX6_spread_24 (⟨by rw [if_pos (by omega)], zFs.r ι⟩)
  · refine g_iload_n (x := n) rfl dX6_spread_11 ?_
    refine g_iconst (x := 1) rfl dX6_spread_12 ?_
    refine g_icmp_lt ⟨by omega, by omega⟩ (by decide) (t := 22) dX6_spread_13 (by decide) (fun h13 => ?_) (fun h13 => ?_)
    · refine g_ldc (x := -1000001) tw_253 (by decide) dX6_spread_22 ?_
      exact i_iret rfl dX6_spread_24 (⟨by rw [if_pos (by omega)], zFs.r ι⟩)
    · refine g_iload_n (x := n) rfl dX6_spread_16 ?_
      refine g_bipush (x := 30) (by decide) dX6_spread_17 ?_
      refine g_icmp_le ⟨by omega, by omega⟩ (by decide) (t := 25) dX6_spread_19 (by decide) (fun h19 => ?_) (fun h19 => ?_)
      · refine g_aload_n (x := 8) rfl dX6_spread_25 ?_
        refine g_get fgX6_49 zcl_6 (congrArg Prod.fst sh_8) (by decide) rg_8_7 dX6_spread_26 ?_
        refine g_aload_n (x := 8) rfl dX6_spread_29 ?_
        refine g_get fgX6_26 zcl_6 (congrArg Prod.fst sh_8) (by decide) rg_8_2 dX6_spread_30 ?_
        refine g_iload_n (x := s) rfl dX6_spread_33 ?_
        refine g_iload_n (x := n) rfl dX6_spread_34 ?_
        refine i_callV mvX2_leastReach tw_662 (ci := 2) (congrArg Prod.fst sh_165) rfl (by decide) (c_leastReach hT (by omega) (s := s) (n := n) (by omega) (by omega) (by omega)) (by decide) (st' := []) rfl (Nat.le_of_ble_eq_true rfl) rfl dX6_spread_35 (fun v_1 ι1 hq_35 => ?_)
        obtain ⟨rfl, hF⟩ := hq_35
        exact i_iret rfl dX6_spread_38 (⟨by rw [if_neg (by omega)], hF⟩)
      · refine g_ldc (x := -1000001) tw_253 (by decide) dX6_spread_22 ?_
        exact i_iret rfl dX6_spread_24 (⟨by rw [if_pos (by omega)], zFs.r ι⟩)

theorem zfit_c {R : zr} {s w n : Int} {g g' : Int → Int} (h : ∀ e, 0 ≤ e → e < n → g e = g' e) : zfit R s w g n = zfit R s w g' n := by
  have e : ∀ X : zr, zso X s g n = zso X s g' n := by
    intro X
    have key : ∀ m : Nat, (m : Int) ≤ n → zsoN X s g m = zsoN X s g' m := by
      intro m
      induction m with
      | zero => intro _; rfl
      | succ m ih =>
        intro hm
        rw [zsoN, zsoN, ih (by omega), h m (by omega) (by omega)]
    unfold zso
    rcases (show n < 0 ∨ 0 ≤ n by omega) with q | q
    · rw [show n.toNat = 0 by omega]; rfl
    · exact key n.toNat (by omega)
  unfold zfit
  simp only [e]
set_option maxRecDepth 100000 in
theorem c_xFits (hT : zTM (tb 23 ι)) (hL : ∀ k, 0 ≤ k → k < 8 → -1 ≤ ι 19 k ∧ ι 19 k ≤ 2) (hM : ∀ k, 0 ≤ k → k < 8 → 0 ≤ ι 20 k ∧ ι 20 k ≤ 40) {s r i n w : Int} (hs : zB s) (hr : zB r) (hi : zB i) (hn : zB n) (hw : zB w) (hI : ∀ r : Int, 0 ≤ r → r < 8 → ∀ k, 0 ≤ k → k < 40 → zB (ι (11 + r.toNat) k)) : zCi l (zc D ad L z) mX6_fits 6 [zR 8, zI s, zI r, zI i, zI n, zI w] ι (fun (x : Option zV) (ι' : zi) => x = some (zI (if ¬ ((0 ≤ s ∧ s < tb 23 ι 0) ∧ (0 ≤ r ∧ r ≤ 7) ∧ (1 ≤ n ∧ n ≤ 12) ∧ (0 ≤ w ∧ w ≤ 3)) then -1000001 else if ι 19 r = -1 then -1000011 else if ¬ (0 ≤ i ∧ 0 ≤ n ∧ i ≤ ι 20 r ∧ n ≤ ι 20 r - i) then -1000012 else zfit (tb 23 ι) s w (fun e => ι (11 + r.toNat) (i + e)) n)) ∧ zFs (if ¬ ((0 ≤ s ∧ s < tb 23 ι 0) ∧ (0 ≤ r ∧ r ≤ 7) ∧ (1 ≤ n ∧ n ≤ 12) ∧ (0 ≤ w ∧ w ≤ 3)) then ι else if ι 19 r = -1 then iup ι 8 9 1 else if ¬ (0 ≤ i ∧ 0 ≤ n ∧ i ≤ ι 20 r ∧ n ≤ ι 20 r - i) then iup ι 8 9 2 else iup ι 8 9 0) ι') := by
  refine zCt_of (by decide) (Nat.le_of_ble_eq_true rfl) 0 rfl ?_
  obtain ⟨hV, hNB, hH9⟩ := id hT
  obtain ⟨hV0, hV1, hV2, hV3, hV4, hV5, hVk, hVw⟩ := id hV
  have q0 := tb_0 23 ι
  have q1 := tb_1 23 ι
  have q2 := tb_2 23 ι
  have q3 := tb_3 23 ι
  have q4 := tb_4 23 ι
  have q5 := tb_5 23 ι
  refine g_aload_n (x := 8) rfl dX6_fits_0 ?_
  refine g_get fgX6_26 zcl_6 (congrArg Prod.fst sh_8) (by decide) rg_8_2 dX6_fits_1 ?_
  refine g_iload_n (x := s) rfl dX6_fits_4 ?_
  refine i_callVp mvX5_hasStreet tw_512 (ci := 5) (congrArg Prod.fst sh_23) rfl (by decide) (c_hasStreet tt_23 ⟨by omega, by omega⟩ ⟨by omega, by omega⟩) (by decide) (st' := []) rfl (Nat.le_of_ble_eq_true rfl) rfl dX6_fits_5 ?_
  refine g_nm (fun b5 hq0 => ?_)
  have hb5 : ((0 ≤ s ∧ s < ι 23 4) ∧ b5 = 1) ∨ (¬ (0 ≤ s ∧ s < ι 23 4) ∧ b5 = 0) := zb_c hq0
  clear hq0
  refine g_if_eq ⟨by omega, by omega⟩ (t := 42) dX6_fits_8 (by decide) (fun h8 => ?_) (fun h8 => ?_)
  · refine g_ldc (x := -1000001) tw_253 (by decide) dX6_fits_42 ?_
    exact i_iret rfl dX6_fits_44 (⟨by rw [if_pos (by omega)], by rw [if_pos (by omega)]; exact zFs.r ι⟩)
  · refine g_iload_n (x := r) rfl dX6_fits_11 ?_
    refine i_callSp msX3_isRow tw_250 (c_isRow ⟨by omega, by omega⟩) (by decide) (st' := []) rfl (Nat.le_of_ble_eq_true rfl) rfl dX6_fits_12 ?_
    refine g_nm (fun b12 hq0 => ?_)
    have hb12 : ((0 ≤ r ∧ r < 8) ∧ b12 = 1) ∨ (¬ (0 ≤ r ∧ r < 8) ∧ b12 = 0) := zb_c hq0
    clear hq0
    refine g_if_eq ⟨by omega, by omega⟩ (t := 42) dX6_fits_15 (by decide) (fun h15 => ?_) (fun h15 => ?_)
    · refine g_ldc (x := -1000001) tw_253 (by decide) dX6_fits_42 ?_
      exact i_iret rfl dX6_fits_44 (⟨by rw [if_pos (by omega)], by rw [if_pos (by omega)]; exact zFs.r ι⟩)
    · refine g_iload (x := n) rfl dX6_fits_18 ?_
      refine g_iconst (x := 1) rfl dX6_fits_20 ?_
      refine g_icmp_lt ⟨by omega, by omega⟩ (by decide) (t := 42) dX6_fits_21 (by decide) (fun h21 => ?_) (fun h21 => ?_)
      · refine g_ldc (x := -1000001) tw_253 (by decide) dX6_fits_42 ?_
        exact i_iret rfl dX6_fits_44 (⟨by rw [if_pos (by omega)], by rw [if_pos (by omega)]; exact zFs.r ι⟩)
      · refine g_iload (x := n) rfl dX6_fits_24 ?_
        refine g_bipush (x := 12) (by decide) dX6_fits_26 ?_
        refine g_icmp_gt ⟨by omega, by omega⟩ (by decide) (t := 42) dX6_fits_28 (by decide) (fun h28 => ?_) (fun h28 => ?_)
        · refine g_ldc (x := -1000001) tw_253 (by decide) dX6_fits_42 ?_
          exact i_iret rfl dX6_fits_44 (⟨by rw [if_pos (by omega)], by rw [if_pos (by omega)]; exact zFs.r ι⟩)
        · refine g_iload (x := w) rfl dX6_fits_31 ?_
          refine g_if_lt ⟨by omega, by omega⟩ (t := 42) dX6_fits_33 (by decide) (fun h33 => ?_) (fun h33 => ?_)
          · refine g_ldc (x := -1000001) tw_253 (by decide) dX6_fits_42 ?_
            exact i_iret rfl dX6_fits_44 (⟨by rw [if_pos (by omega)], by rw [if_pos (by omega)]; exact zFs.r ι⟩)
          · refine g_iload (x := w) rfl dX6_fits_36 ?_
            refine g_iconst (x := 3) rfl dX6_fits_38 ?_
            refine g_icmp_le ⟨by omega, by omega⟩ (by decide) (t := 45) dX6_fits_39 (by decide) (fun h39 => ?_) (fun h39 => ?_)
            · refine g_aload_n (x := 8) rfl dX6_fits_45 ?_
              refine g_get fgX6_10 zcl_6 (congrArg Prod.fst sh_8) (by decide) rg_8_0 dX6_fits_46 ?_
              refine g_iload_n (x := r) rfl dX6_fits_49 ?_
              refine i_callVp mvX3_isMissing tw_271 (ci := 3) (congrArg Prod.fst sh_9) rfl (by decide) (c_isMissing (r := r) (by omega) (by omega) (by have := hL r (by omega) (by omega); exact ⟨by omega, by omega⟩)) (by decide) (st' := []) rfl (Nat.le_of_ble_eq_true rfl) rfl dX6_fits_50 ?_
              refine g_nm (fun b50 hq0 => ?_)
              have hb50 : ((ι 19 r = -1) ∧ b50 = 1) ∨ (¬ (ι 19 r = -1) ∧ b50 = 0) := zb_c hq0
              clear hq0
              refine g_if_eq ⟨by omega, by omega⟩ (t := 62) dX6_fits_53 (by decide) (fun h53 => ?_) (fun h53 => ?_)
              · refine g_aload_n (x := 8) rfl dX6_fits_62 ?_
                refine g_get fgX6_10 zcl_6 (congrArg Prod.fst sh_8) (by decide) rg_8_0 dX6_fits_63 ?_
                refine g_iload_n (x := r) rfl dX6_fits_66 ?_
                refine g_iload_n (x := i) rfl dX6_fits_67 ?_
                refine g_iload (x := n) rfl dX6_fits_68 ?_
                refine i_callVp mvX3_holds tw_275 (ci := 3) (congrArg Prod.fst sh_9) rfl (by decide) (c_holds (r := r) (by omega) (by omega) ⟨by omega, by omega⟩ ⟨by omega, by omega⟩ (hM r (by omega) (by omega))) (by decide) (st' := []) rfl (Nat.le_of_ble_eq_true rfl) rfl dX6_fits_70 ?_
                refine g_nm (fun b70 hq0 => ?_)
                have hb70 : ((0 ≤ i ∧ 0 ≤ n ∧ i ≤ ι 20 r ∧ n ≤ ι 20 r - i) ∧ b70 = 1) ∨ (¬ (0 ≤ i ∧ 0 ≤ n ∧ i ≤ ι 20 r ∧ n ≤ ι 20 r - i) ∧ b70 = 0) := zb_c hq0
                clear hq0
                refine g_if_ne ⟨by omega, by omega⟩ (t := 82) dX6_fits_73 (by decide) (fun h73 => ?_) (fun h73 => ?_)
                · refine g_aload_n (x := 8) rfl dX6_fits_82 ?_
                  refine g_get fgX6_49 zcl_6 (congrArg Prod.fst sh_8) (by decide) rg_8_7 dX6_fits_83 ?_
                  refine g_aload_n (x := 8) rfl dX6_fits_86 ?_
                  refine g_get fgX6_10 zcl_6 (congrArg Prod.fst sh_8) (by decide) rg_8_0 dX6_fits_87 ?_
                  refine g_get fgX6_91 zcl_3 (congrArg Prod.fst sh_9) (by decide) rg_9_0 dX6_fits_90 ?_
                  refine g_iload_n (x := r) rfl dX6_fits_93 ?_
                  refine g_aald sh_10 (by decide) (by decide) (by omega) (by omega) (by decide) ag_10 dX6_fits_94 ?_
                  refine g_iload_n (x := i) rfl dX6_fits_95 ?_
                  refine g_iload (x := n) rfl dX6_fits_96 ?_
                  have hM1 := hM r (by omega) (by omega)
                  refine i_callV mvX2_tell tw_687 (ci := 2) (congrArg Prod.fst sh_165) rfl (by decide) (c_tell (b := 11 + r.toNat) (zrow_sl (r := r) (by omega) (by omega)) (by omega) (by omega) (i := i) (n := n) (by omega) (by omega)) (by decide) (st' := []) rfl (Nat.le_of_ble_eq_true rfl) rfl dX6_fits_98 (fun v_1 ι1 hq_98 => ?_)
                  obtain ⟨rfl, hι1⟩ := hq_98
                  have hF1 : zFs ι ι1 := by
                    rw [hι1]
                    refine ⟨fun b x hb => ?_, fun g => ?_⟩
                    · rw [icpy_n _ (by omega), iup_n _ (by omega)]
                    · unfold zCh at g ⊢; rw [icpy_n _ (by omega), icpy_n _ (by omega), iup_n _ (by omega), iup_n _ (by omega)]; exact g
                  have t1 := zFs_tb hF1
                  have o6 : ι1 165 6 = n := by rw [hι1, icpy_n _ (by omega), iup_s]
                  have o5 : ∀ e, 0 ≤ e → e < n → ι1 175 e = ι (11 + r.toNat) (i + e) := fun e e0 e1 => by
                    rw [hι1]
                    unfold icpy
                    rw [if_pos ⟨rfl, by omega, by omega⟩, iup_n _ (by omega), show e - 0 = e by omega]
                  refine g_aload_n (x := 8) rfl dX6_fits_101 ?_
                  refine g_aload_n (x := 8) rfl dX6_fits_102 ?_
                  refine g_get fgX6_49 zcl_6 (congrArg Prod.fst sh_8) (by decide) rg_8_7 dX6_fits_103 ?_
                  refine g_aload_n (x := 8) rfl dX6_fits_106 ?_
                  refine g_get fgX6_26 zcl_6 (congrArg Prod.fst sh_8) (by decide) rg_8_2 dX6_fits_107 ?_
                  refine g_iload_n (x := s) rfl dX6_fits_110 ?_
                  refine g_iload (x := w) rfl dX6_fits_111 ?_
                  refine i_callV mvX2_guesses tw_693 (ci := 2) (congrArg Prod.fst sh_165) rfl (by decide) (c_guesses (ι := ι1) (by rw [t1]; exact hT) (by rw [t1]; omega) (s := s) (w := w) (by omega) (by rw [t1]; omega) (by omega) (by rw [o6]; omega) (fun e e0 e1 => by rw [o6] at e1; rw [o5 e e0 e1]; exact hI r (by omega) (by omega) (i + e) (by omega) (by omega))) (by decide) (st' := [zR 8]) rfl (Nat.le_of_ble_eq_true rfl) rfl dX6_fits_113 (fun v_2 ι2 hq_113 => ?_)
                  obtain ⟨rfl, Y, hY⟩ := hq_113
                  have e9 : zfit (tb 23 ι1) s w (ι1 175) (ι1 165 6) = zfit (tb 23 ι) s w (fun e => ι (11 + r.toNat) (i + e)) n := by rw [t1, o6]; exact zfit_c o5
                  rw [e9]
                  refine i_callV mvX6_fine tw_263 (ci := 6) (congrArg Prod.fst sh_8) rfl (by decide) (c_fine) (by decide) (st' := []) rfl (Nat.le_of_ble_eq_true rfl) rfl dX6_fits_116 (fun v_3 ιf hq_116 => ?_)
                  obtain ⟨rfl, hιf⟩ := hq_116
                  exact i_iret rfl dX6_fits_119 (⟨by rw [if_neg (by omega), if_neg (by omega), if_neg (by omega)], by
      rw [if_neg (by omega), if_neg (by omega), if_neg (by omega), hιf]
      have hF2 : zFs ι ι2 := zFs.t hF1 (by rw [hY]; exact zFs_tp _ _)
      refine ⟨fun b x hb => ?_, fun g => ?_⟩
      · unfold iup
        split
        · rfl
        · exact hF2.1 b x hb
      · have g2 : zCh ι := by unfold zCh at g ⊢; rw [iup_n _ (by omega), iup_n _ (by omega)] at g; exact g
        have g3 := hF2.2 g2
        unfold zCh at g3 ⊢
        rw [iup_n _ (by omega), iup_n _ (by omega)]
        exact g3⟩)
                · refine g_aload_n (x := 8) rfl dX6_fits_76 ?_
                  refine g_iconst (x := 2) rfl dX6_fits_77 ?_
                  refine i_callV mvX6_found tw_254 (ci := 6) (congrArg Prod.fst sh_8) rfl (by decide) (c_found) (by decide) (st' := []) rfl (Nat.le_of_ble_eq_true rfl) rfl dX6_fits_78 (fun v_4 ιf hq_78 => ?_)
                  obtain ⟨rfl, hιf⟩ := hq_78
                  exact i_iret rfl dX6_fits_81 (⟨by rw [if_neg (by omega), if_neg (by omega), if_pos (by omega)]; rfl, by rw [if_neg (by omega), if_neg (by omega), if_pos (by omega), hιf]; exact zFs.r _⟩)
              · refine g_aload_n (x := 8) rfl dX6_fits_56 ?_
                refine g_iconst (x := 1) rfl dX6_fits_57 ?_
                refine i_callV mvX6_found tw_254 (ci := 6) (congrArg Prod.fst sh_8) rfl (by decide) (c_found) (by decide) (st' := []) rfl (Nat.le_of_ble_eq_true rfl) rfl dX6_fits_58 (fun v_5 ιf hq_58 => ?_)
                obtain ⟨rfl, hιf⟩ := hq_58
                exact i_iret rfl dX6_fits_61 (⟨by rw [if_neg (by omega), if_pos (by omega)]; rfl, by rw [if_neg (by omega), if_pos (by omega), hιf]; exact zFs.r _⟩)
            · refine g_ldc (x := -1000001) tw_253 (by decide) dX6_fits_42 ?_
              exact i_iret rfl dX6_fits_44 (⟨by rw [if_pos (by omega)], by rw [if_pos (by omega)]; exact zFs.r ι⟩)

set_option maxRecDepth 100000 in
theorem c_xDrops (hT : zTM (tb 23 ι)) (hch : zCh ι) {s n c w : Int} (hs : zB s) (hn : zB n) (hc : zB c) (hw : zB w) (hup : 0 ≤ s → s < tb 23 ι 0 → 0 ≤ n → n ≤ 8 → 0 ≤ c → c ≤ 10 → 0 ≤ (zcA (tb 23 ι) s c n 0) ∧ (zcA (tb 23 ι) s c n 0) ≤ 100000000) : zCi l (zc D ad L z) mX6_drops 5 [zR 8, zI s, zI n, zI c, zI w] ι (fun v ι' => v = some (zI (if ¬ ((0 ≤ s ∧ s < tb 23 ι 0) ∧ (0 ≤ n ∧ n ≤ 8) ∧ (0 ≤ c ∧ c ≤ 10) ∧ (0 ≤ w ∧ w ≤ 1)) then -1000001 else if w = 0 then (zcA (tb 23 ι) s c n 0) / ((Int.gcd (zcA (tb 23 ι) s c n 0) (ztn n) : Nat) : Int) else ztn n / ((Int.gcd (zcA (tb 23 ι) s c n 0) (ztn n) : Nat) : Int))) ∧ zFs ι ι') := by
  refine zCt_of (by decide) (Nat.le_of_ble_eq_true rfl) 3 rfl ?_
  obtain ⟨hV, hNB, hH9⟩ := id hT
  obtain ⟨hV0, hV1, hV2, hV3, hV4, hV5, hVk, hVw⟩ := id hV
  have q0 := tb_0 23 ι
  have q1 := tb_1 23 ι
  have q2 := tb_2 23 ι
  have q3 := tb_3 23 ι
  have q4 := tb_4 23 ι
  have q5 := tb_5 23 ι
  refine g_aload_n (x := 8) rfl dX6_drops_0 ?_
  refine g_get fgX6_26 zcl_6 (congrArg Prod.fst sh_8) (by decide) rg_8_2 dX6_drops_1 ?_
  refine g_iload_n (x := s) rfl dX6_drops_4 ?_
  refine i_callVp mvX5_hasStreet tw_512 (ci := 5) (congrArg Prod.fst sh_23) rfl (by decide) (c_hasStreet tt_23 ⟨by omega, by omega⟩ ⟨by omega, by omega⟩) (by decide) (st' := []) rfl (Nat.le_of_ble_eq_true rfl) rfl dX6_drops_5 ?_
  refine g_nm (fun b5 hq0 => ?_)
  have hb5 : ((0 ≤ s ∧ s < ι 23 4) ∧ b5 = 1) ∨ (¬ (0 ≤ s ∧ s < ι 23 4) ∧ b5 = 0) := zb_c hq0
  clear hq0
  refine g_if_eq ⟨by omega, by omega⟩ (t := 39) dX6_drops_8 (by decide) (fun h8 => ?_) (fun h8 => ?_)
  · refine g_ldc (x := -1000001) tw_253 (by decide) dX6_drops_39 ?_
    exact i_iret rfl dX6_drops_41 (⟨by rw [if_pos (by omega)], zFs.r ι⟩)
  · refine g_iload_n (x := n) rfl dX6_drops_11 ?_
    refine g_if_lt ⟨by omega, by omega⟩ (t := 39) dX6_drops_12 (by decide) (fun h12 => ?_) (fun h12 => ?_)
    · refine g_ldc (x := -1000001) tw_253 (by decide) dX6_drops_39 ?_
      exact i_iret rfl dX6_drops_41 (⟨by rw [if_pos (by omega)], zFs.r ι⟩)
    · refine g_iload_n (x := n) rfl dX6_drops_15 ?_
      refine g_bipush (x := 8) (by decide) dX6_drops_16 ?_
      refine g_icmp_gt ⟨by omega, by omega⟩ (by decide) (t := 39) dX6_drops_18 (by decide) (fun h18 => ?_) (fun h18 => ?_)
      · refine g_ldc (x := -1000001) tw_253 (by decide) dX6_drops_39 ?_
        exact i_iret rfl dX6_drops_41 (⟨by rw [if_pos (by omega)], zFs.r ι⟩)
      · refine g_iload_n (x := c) rfl dX6_drops_21 ?_
        refine g_if_lt ⟨by omega, by omega⟩ (t := 39) dX6_drops_22 (by decide) (fun h22 => ?_) (fun h22 => ?_)
        · refine g_ldc (x := -1000001) tw_253 (by decide) dX6_drops_39 ?_
          exact i_iret rfl dX6_drops_41 (⟨by rw [if_pos (by omega)], zFs.r ι⟩)
        · refine g_iload_n (x := c) rfl dX6_drops_25 ?_
          refine g_bipush (x := 10) (by decide) dX6_drops_26 ?_
          refine g_icmp_gt ⟨by omega, by omega⟩ (by decide) (t := 39) dX6_drops_28 (by decide) (fun h28 => ?_) (fun h28 => ?_)
          · refine g_ldc (x := -1000001) tw_253 (by decide) dX6_drops_39 ?_
            exact i_iret rfl dX6_drops_41 (⟨by rw [if_pos (by omega)], zFs.r ι⟩)
          · refine g_iload (x := w) rfl dX6_drops_31 ?_
            refine i_callSp msX6_isNoHalf tw_558 (c_isNoHalf (x := w) ⟨by omega, by omega⟩) (by decide) (st' := []) rfl (Nat.le_of_ble_eq_true rfl) rfl dX6_drops_33 ?_
            refine g_nm (fun b33 hq0 => ?_)
            have hb33 : ((w < 0 ∨ 1 < w) ∧ b33 = 1) ∨ (¬ (w < 0 ∨ 1 < w) ∧ b33 = 0) := zb_c hq0
            clear hq0
            refine g_if_eq ⟨by omega, by omega⟩ (t := 42) dX6_drops_36 (by decide) (fun h36 => ?_) (fun h36 => ?_)
            · refine g_aload_n (x := 8) rfl dX6_drops_42 ?_
              refine g_get fgX6_49 zcl_6 (congrArg Prod.fst sh_8) (by decide) rg_8_7 dX6_drops_43 ?_
              refine g_aload_n (x := 8) rfl dX6_drops_46 ?_
              refine g_get fgX6_26 zcl_6 (congrArg Prod.fst sh_8) (by decide) rg_8_2 dX6_drops_47 ?_
              refine g_iload_n (x := s) rfl dX6_drops_50 ?_
              refine g_iload_n (x := n) rfl dX6_drops_51 ?_
              refine g_iload_n (x := c) rfl dX6_drops_52 ?_
              have hu := hup (by omega) (by omega) (by omega) (by omega) (by omega) (by omega)
              have htn := ztn_b (n := n) (by omega) (by omega)
              refine i_callV mvX2_chancesAwake tw_716 (ci := 2) (congrArg Prod.fst sh_165) rfl (by decide) (c_chancesAwake hT (by omega) hch (s := s) (n := n) (c := c) (by omega) (by omega) (by omega)) (by decide) (st' := []) rfl (Nat.le_of_ble_eq_true rfl) rfl dX6_drops_53 (fun v_1 ι1 hq_53 => ?_)
              obtain ⟨rfl, hC, hch1⟩ := hq_53
              have hF : zFs ι ι1 := ⟨hC, fun _ => hch1⟩
              obtain ⟨up, hupe⟩ : ∃ up, up = (zcA (tb 23 ι) s c n 0) := ⟨_, rfl⟩
              rw [← hupe] at hu ⊢
              refine g_istore (ls' := [some (zR 8), some (zI s), some (zI n), some (zI c), some (zI w), some (zI up), none, none]) dX6_drops_56 (by decide) rfl ?_
              refine g_iload_n (x := n) rfl dX6_drops_58 ?_
              refine i_callSp msX2_chancesInAll tw_726 (c_chancesInAll (by omega)) (by decide) (st' := []) rfl (Nat.le_of_ble_eq_true rfl) rfl dX6_drops_59 ?_
              refine g_istore (ls' := [some (zR 8), some (zI s), some (zI n), some (zI c), some (zI w), some (zI up), some (zI (ztn n)), none]) dX6_drops_62 (by decide) rfl ?_
              refine g_iload (x := up) rfl dX6_drops_64 ?_
              refine g_iload (x := (ztn n)) rfl dX6_drops_66 ?_
              have hg0 : 0 < ((Int.gcd up (ztn n) : Nat) : Int) := by
                have := Int.gcd_pos_of_ne_zero_right up (show ztn n ≠ 0 by omega)
                omega
              have hg1 : ((Int.gcd up (ztn n) : Nat) : Int) ≤ 100000000 := by
                have : ((Int.gcd up (ztn n) : Nat) : Int) ∣ ztn n := Int.gcd_dvd_right ..
                have := Int.le_of_dvd (by omega) this
                omega
              refine i_callSp msX2_commonDivisor tw_729 (c_commonDivisor hu (by omega)) (by decide) (st' := []) rfl (Nat.le_of_ble_eq_true rfl) rfl dX6_drops_68 ?_
              refine g_istore (ls' := [some (zR 8), some (zI s), some (zI n), some (zI c), some (zI w), some (zI up), some (zI (ztn n)), some (zI ((Int.gcd up (ztn n) : Nat) : Int))]) dX6_drops_71 (by decide) rfl ?_
              refine g_iload (x := ((Int.gcd up (ztn n) : Nat) : Int)) rfl dX6_drops_73 ?_
              refine g_iconst (x := 1) rfl dX6_drops_75 ?_
              refine g_icmp_ge ⟨by omega, by omega⟩ (by decide) (t := 83) dX6_drops_76 (by decide) (fun h76 => ?_) (fun h76 => ?_)
              · refine g_iload (x := w) rfl dX6_drops_83 ?_
                refine g_if_ne ⟨by omega, by omega⟩ (t := 93) dX6_drops_85 (by decide) (fun h85 => ?_) (fun h85 => ?_)
                · refine g_iload (x := (ztn n)) rfl dX6_drops_93 ?_
                  refine g_iload (x := ((Int.gcd up (ztn n) : Nat) : Int)) rfl dX6_drops_95 ?_
                  refine g_idiv (by omega) (by omega) (by omega) (by omega) dX6_drops_97 ?_
                  exact i_iret rfl dX6_drops_98 (⟨by rw [if_neg (by omega), if_neg (by omega)], hF⟩)
                · refine g_iload (x := up) rfl dX6_drops_88 ?_
                  refine g_goto (t := 95) dX6_drops_90 (by decide) ?_
                  refine g_iload (x := ((Int.gcd up (ztn n) : Nat) : Int)) rfl dX6_drops_95 ?_
                  refine g_idiv (by omega) (by omega) (by omega) (by omega) dX6_drops_97 ?_
                  exact i_iret rfl dX6_drops_98 (⟨by rw [if_neg (by omega), if_pos (by omega)], hF⟩)
              · refine g_iconst (x := 0) rfl dX6_drops_79 ?_
                exfalso
                omega
            · refine g_ldc (x := -1000001) tw_253 (by decide) dX6_drops_39 ?_
              exact i_iret rfl dX6_drops_41 (⟨by rw [if_pos (by omega)], zFs.r ι⟩)

set_option maxRecDepth 100000 in
theorem c_xDrawn (hT : zTM (tb 23 ι)) {n x w : Int} (hn : zB n) (hx : zB x) (hw : zB w) : zCi l (zc D ad L z) mX6_drawn 5 [zR 8, zI n, zI x, zI w] ι (fun v ι' => v = some (zI (if ¬ (0 < tb 23 ι 0) then -1000002 else if ¬ ((0 ≤ n ∧ n ≤ 60) ∧ (1 ≤ x ∧ x ≤ 999999) ∧ (0 ≤ w ∧ w ≤ 1)) then -1000001 else if w = 0 then zdr x (tb 23 ι) n 5 - tb 23 ι 5 else zon (zaw (fun k => zdr x (tb 23 ι) n (14 + k)) (tb 23 ι 0)))) ∧ zFs ι ι') := by
  refine zCt_of (by decide) (Nat.le_of_ble_eq_true rfl) 1 rfl ?_
  obtain ⟨hV, hNB, hH9⟩ := id hT
  obtain ⟨hV0, hV1, hV2, hV3, hV4, hV5, hVk, hVw⟩ := id hV
  have q0 := tb_0 23 ι
  have q1 := tb_1 23 ι
  have q2 := tb_2 23 ι
  have q3 := tb_3 23 ι
  have q4 := tb_4 23 ι
  have q5 := tb_5 23 ι
  refine g_aload_n (x := 8) rfl dX6_drawn_0 ?_
  refine i_callVp mvX6_noTown tw_461 (ci := 6) (congrArg Prod.fst sh_8) rfl (by decide) (c_noTown ⟨by omega, by omega⟩) (by decide) (st' := []) rfl (Nat.le_of_ble_eq_true rfl) rfl dX6_drawn_1 ?_
  refine g_nm (fun b1 hq0 => ?_)
  have hb1 : ((ι 23 4 = 0) ∧ b1 = 1) ∨ (¬ (ι 23 4 = 0) ∧ b1 = 0) := zb_c hq0
  clear hq0
  refine g_if_eq ⟨by omega, by omega⟩ (t := 10) dX6_drawn_4 (by decide) (fun h4 => ?_) (fun h4 => ?_)
  · refine g_iload_n (x := n) rfl dX6_drawn_10 ?_
    refine i_callSp msX6_isNoFarHour tw_555 (c_isNoFarHour (x := n) ⟨by omega, by omega⟩) (by decide) (st' := []) rfl (Nat.le_of_ble_eq_true rfl) rfl dX6_drawn_11 ?_
    refine g_nm (fun b11 hq0 => ?_)
    have hb11 : ((n < 0 ∨ 60 < n) ∧ b11 = 1) ∨ (¬ (n < 0 ∨ 60 < n) ∧ b11 = 0) := zb_c hq0
    clear hq0
    refine g_if_ne ⟨by omega, by omega⟩ (t := 36) dX6_drawn_14 (by decide) (fun h14 => ?_) (fun h14 => ?_)
    · refine g_ldc (x := -1000001) tw_253 (by decide) dX6_drawn_36 ?_
      exact i_iret rfl dX6_drawn_38 (⟨by rw [if_neg (by omega), if_pos (by omega)], zFs.r ι⟩)
    · refine g_iload_n (x := x) rfl dX6_drawn_17 ?_
      refine g_iconst (x := 1) rfl dX6_drawn_18 ?_
      refine g_icmp_lt ⟨by omega, by omega⟩ (by decide) (t := 36) dX6_drawn_19 (by decide) (fun h19 => ?_) (fun h19 => ?_)
      · refine g_ldc (x := -1000001) tw_253 (by decide) dX6_drawn_36 ?_
        exact i_iret rfl dX6_drawn_38 (⟨by rw [if_neg (by omega), if_pos (by omega)], zFs.r ι⟩)
      · refine g_iload_n (x := x) rfl dX6_drawn_22 ?_
        refine g_ldcw (x := 999999) tw_736 (by decide) dX6_drawn_23 ?_
        refine g_icmp_gt ⟨by omega, by omega⟩ (by decide) (t := 36) dX6_drawn_26 (by decide) (fun h26 => ?_) (fun h26 => ?_)
        · refine g_ldc (x := -1000001) tw_253 (by decide) dX6_drawn_36 ?_
          exact i_iret rfl dX6_drawn_38 (⟨by rw [if_neg (by omega), if_pos (by omega)], zFs.r ι⟩)
        · refine g_iload_n (x := w) rfl dX6_drawn_29 ?_
          refine i_callSp msX6_isNoHalf tw_558 (c_isNoHalf (x := w) ⟨by omega, by omega⟩) (by decide) (st' := []) rfl (Nat.le_of_ble_eq_true rfl) rfl dX6_drawn_30 ?_
          refine g_nm (fun b30 hq0 => ?_)
          have hb30 : ((w < 0 ∨ 1 < w) ∧ b30 = 1) ∨ (¬ (w < 0 ∨ 1 < w) ∧ b30 = 0) := zb_c hq0
          clear hq0
          refine g_if_eq ⟨by omega, by omega⟩ (t := 39) dX6_drawn_33 (by decide) (fun h33 => ?_) (fun h33 => ?_)
          · refine g_aload_n (x := 8) rfl dX6_drawn_39 ?_
            refine g_get fgX6_49 zcl_6 (congrArg Prod.fst sh_8) (by decide) rg_8_7 dX6_drawn_40 ?_
            refine g_aload_n (x := 8) rfl dX6_drawn_43 ?_
            refine g_get fgX6_26 zcl_6 (congrArg Prod.fst sh_8) (by decide) rg_8_2 dX6_drawn_44 ?_
            refine g_iload_n (x := n) rfl dX6_drawn_47 ?_
            refine g_iload_n (x := x) rfl dX6_drawn_48 ?_
            refine i_callV mvX2_townByDraws tw_737 (ci := 2) (congrArg Prod.fst sh_165) rfl (by decide) (c_townByDraws hT (by omega) (n := n) (x := x) (by omega) (by omega)) (by decide) (st' := []) rfl (Nat.le_of_ble_eq_true rfl) rfl dX6_drawn_49 (fun v_1 ι1 hq_49 => ?_)
            obtain ⟨rfl, hι1⟩ := hq_49
            obtain ⟨g1, g2, g3, g4, -⟩ := zdr_V (x := x) (tb_tz 23 ι) hV (by omega) (hNB (by omega)) (n := n) (by omega) (by omega)
            have e1 : tb 166 ι1 = zdr x (tb 23 ι) n := by rw [hι1, tb_tp 166 g2]
            have hF : zFs ι ι1 := by rw [hι1]; exact zFs_tp _ _
            refine g_astore (ls' := [some (zR 8), some (zI n), some (zI x), some (zI w), some (zR 166)]) dX6_drawn_52 (by decide) rfl ?_
            refine g_iload_n (x := w) rfl dX6_drawn_54 ?_
            refine g_if_ne ⟨by omega, by omega⟩ (t := 74) dX6_drawn_55 (by decide) (fun h55 => ?_) (fun h55 => ?_)
            · refine g_aload (x := 166) rfl dX6_drawn_74 ?_
              refine i_callVp mvX5_awake tw_500 (ci := 5) (congrArg Prod.fst sh_166) rfl (by decide) (c_awake tt_166 (by rw [← tb_0 166 ι1, e1]; exact g1.1) (fun k k0 k1 => by rw [← tb_0 166 ι1, e1] at k1; have := (g1.2.2.2.2.2.2.1 k k0 k1).2.1; rw [← e1, tb_d 166 ι1 k0 (by have := g1.1; omega)] at this; exact ⟨by omega, by omega⟩)) (by decide) (st' := []) rfl (Nat.le_of_ble_eq_true rfl) rfl dX6_drawn_76 ?_
              rw [show zaw (ι1 168) (ι1 166 4) = zaw (fun k => zdr x (tb 23 ι) n (14 + k)) (tb 23 ι 0) from zaw_tb e1 g3 (by omega)]
              have hzp := (zaw_p (f := fun k => zdr x (tb 23 ι) n (14 + k)) hV0.1 hV0.2).1
              have h2 : 2 ^ (tb 23 ι 0).toNat ≤ 2 ^ 8 := Nat.pow_le_pow_right (by decide) (by omega)
              refine i_callSp msJ6_bitCount_0f7a4 tw_657 (c_bitCount) (by decide) (st' := []) rfl (Nat.le_of_ble_eq_true rfl) rfl dX6_drawn_79 ?_
              exact i_iret rfl dX6_drawn_82 (⟨by rw [if_neg (by omega), if_neg (by omega), if_neg (by omega), zbc_on hzp.1 (by omega)], hF⟩)
            · refine g_aload (x := 166) rfl dX6_drawn_58 ?_
              refine g_get fgX6_208 zcl_5 (congrArg Prod.fst sh_166) (by decide) ig_166_9 dX6_drawn_60 ?_
              refine g_aload_n (x := 8) rfl dX6_drawn_63 ?_
              refine g_get fgX6_26 zcl_6 (congrArg Prod.fst sh_8) (by decide) rg_8_2 dX6_drawn_64 ?_
              refine g_get fgX6_208 zcl_5 (congrArg Prod.fst sh_23) (by decide) ig_23_9 dX6_drawn_67 ?_
              refine g_isub dX6_drawn_70 ?_
              refine g_goto (t := 82) dX6_drawn_71 (by decide) ?_
              exact i_iret rfl dX6_drawn_82 (⟨by rw [if_neg (by omega), if_neg (by omega), if_pos (by omega), ← e1, tb_5 166 ι1, ← zFs_tb hF, tb_5 23 ι1], hF⟩)
          · refine g_ldc (x := -1000001) tw_253 (by decide) dX6_drawn_36 ?_
            exact i_iret rfl dX6_drawn_38 (⟨by rw [if_neg (by omega), if_pos (by omega)], zFs.r ι⟩)
  · refine g_ldc (x := -1000002) tw_465 (by decide) dX6_drawn_7 ?_
    exact i_iret rfl dX6_drawn_9 (⟨by rw [if_pos (by omega)], zFs.r ι⟩)

end
