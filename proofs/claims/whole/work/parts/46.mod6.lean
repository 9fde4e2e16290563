section
variable {l : Launch} {D : va_G} {ad : Nat → Nat} {L z : Nat} {ι : zi}
set_option maxRecDepth 100000 in
theorem lp_allAwake (hT : zTM (wb 0 ι)) (hB : 0 < wb 0 ι 1) {s : Int} (hs : zB s) : ∀ i : Int, 0 ≤ i → i ≤ 61 → zGi l (zc D ad L z) mX7_allAwake 4 6 [some (zR 178), some (zI s), some (zI i)] [] (wp 38 (pasI (wb 0 ι) i) ι) (fun v ι' => v = some (zI (zfa (wb 0 ι) s i)) ∧ zSc ι ι') := by
  refine z_loopI (fun i h0 h1 ih => ?_)
  obtain ⟨ι1, hι1⟩ : ∃ y, y = wp 38 (pasI (wb 0 ι) i) ι := ⟨_, rfl⟩
  rw [← hι1]
  refine g_iload_n (x := i) rfl dX7_allAwake_6 ?_
  refine g_bipush (x := 60) (by decide) dX7_allAwake_7 ?_
  refine g_icmp_gt ⟨by omega, by omega⟩ (by decide) (t := 38) dX7_allAwake_9 (by decide) (fun h9 => ?_) (fun h9 => ?_)
  · refine g_ldc (x := -1000000) tw_1057 (by decide) dX7_allAwake_38 ?_
    exact i_iret rfl dX7_allAwake_40 (⟨by rw [show i = 61 by omega, zfa_e], ⟨_, hι1⟩⟩)
  · obtain ⟨hV, hNB, hH9⟩ := id hT
    obtain ⟨g1, g2, g3, g4, -⟩ := pasI_V (wb_tz 0 ι) hV h0 (by omega)
    have e1 : wb 38 ι1 = pasI (wb 0 ι) i := by rw [hι1, wb_wp 38 g2]
    have hza := zand_b (zaw (fun k => wb 38 ι1 (14 + k)) (wb 38 ι1 0)) s
    refine g_aload_n (x := 178) rfl dX7_allAwake_12 ?_
    refine g_bipush (x := 38) (by decide) dX7_allAwake_13 ?_
    refine i_callVp mvX7_awake tw_994 (ci := 7) (congrArg Prod.fst sh_178) rfl (by decide) (c_mAwake (by decide) (by rw [e1]; exact g1.1) (fun k q0 q1 => by rw [e1] at q1 ⊢; have := (g1.2.2.2.2.2.2.1 k q0 q1).2.1; exact ⟨by omega, by omega⟩)) (by decide) (st' := []) rfl (Nat.le_of_ble_eq_true rfl) rfl dX7_allAwake_15 ?_
    refine g_iload_n (x := s) rfl dX7_allAwake_18 ?_
    refine g_iand dX7_allAwake_19 ?_
    refine g_iload_n (x := s) rfl dX7_allAwake_20 ?_
    refine g_icmp_ne ⟨by omega, by omega⟩ ⟨by omega, by omega⟩ (t := 26) dX7_allAwake_21 (by decide) (fun h21 => ?_) (fun h21 => ?_)
    · refine g_aload_n (x := 178) rfl dX7_allAwake_26 ?_
      refine g_bipush (x := 38) (by decide) dX7_allAwake_27 ?_
      refine i_callV mvX7_passes tw_972 (ci := 7) (congrArg Prod.fst sh_178) rfl (by decide) (c_passes (by decide) (by rw [e1]; exact g1) (by rw [e1, g4]; exact hB)) (by decide) (st' := []) rfl (Nat.le_of_ble_eq_true rfl) rfl dX7_allAwake_29 (fun v_1 ι2 hq_29 => ?_)
      obtain ⟨rfl, hι2⟩ := hq_29
      rw [e1, ← pasI_s _ h0, hι1, wp_wp] at hι2
      refine g_iinc (x := i) (y := i + 1) (ls' := [some (zR 178), some (zI s), some (zI (i + 1))]) dX7_allAwake_32 rfl (rfl) (by decide) rfl ?_
      refine g_goto (t := 6) dX7_allAwake_35 (by decide) ?_
      rw [hι2, zfa_s (by omega), if_neg (by rw [e1, g3] at h21; omega)]
      exact ih (by omega)
    · refine g_iload_n (x := i) rfl dX7_allAwake_24 ?_
      exact i_iret rfl dX7_allAwake_25 (⟨by rw [zfa_s (by omega), if_pos (by rw [e1, g3] at h21; omega)], ⟨_, hι1⟩⟩)

set_option maxRecDepth 100000 in
theorem c_allAwake (hT : zTM (wb 0 ι)) (hB : 0 < wb 0 ι 1) {s : Int} (hs : zB s) : zCi l (zc D ad L z) mX7_allAwake 4 [zR 178, zI s] ι (fun v ι' => v = some (zI (zfa (wb 0 ι) s 0)) ∧ zSc ι ι') := by
  refine zCt_of (by decide) (Nat.le_of_ble_eq_true rfl) 1 rfl ?_
  refine g_aload_n (x := 178) rfl dX7_allAwake_0 ?_
  refine i_callV mvX7_tries tw_1037 (ci := 7) (congrArg Prod.fst sh_178) rfl (by decide) (c_tries) (by decide) (st' := []) rfl (Nat.le_of_ble_eq_true rfl) rfl dX7_allAwake_1 (fun v_1 ι1 hq_1 => ?_)
  obtain ⟨rfl, hι1⟩ := hq_1
  refine g_iconst (x := 0) rfl dX7_allAwake_4 ?_
  refine g_istore_n (ls' := [some (zR 178), some (zI s), some (zI 0)]) dX7_allAwake_5 (by decide) rfl ?_
  have hh := lp_allAwake (l := l) (D := D) (ad := ad) (L := L) (z := z) hT hB hs 0 (by omega) (by omega)
  rw [pasI_0, ← hι1] at hh
  exact hh

set_option maxRecDepth 100000 in
theorem c_mWakes (hT : zTM (wb 0 ι)) {s : Int} (hs : zB s) : zCi l (zc D ad L z) mX7_wakes 5 [zR 178, zI s] ι (fun v ι' => v = some (zI (if 0 ≤ s ∧ s < wb 0 ι 0 then zfa (wb 0 ι) (zshl 1 s) 0 else -1000001)) ∧ zSc ι ι') := by
  refine zCt_of (by decide) (Nat.le_of_ble_eq_true rfl) 0 rfl ?_
  obtain ⟨hV, hNB, hH9⟩ := id hT
  obtain ⟨hV0, hV1, hV2, hV3, hV4, hV5, hVk, hVw⟩ := id hV
  have q0 := w0 ι (i := 0) (by decide) (by decide)
  have q1 := w0 ι (i := 1) (by decide) (by decide)
  have q2 := w0 ι (i := 2) (by decide) (by decide)
  have q4 := w0 ι (i := 4) (by decide) (by decide)
  refine g_aload_n (x := 178) rfl dX7_wakes_0 ?_
  refine g_iload_n (x := s) rfl dX7_wakes_1 ?_
  refine i_callVp mvX7_isStreet tw_1002 (ci := 7) (congrArg Prod.fst sh_178) rfl (by decide) (c_isStreet ⟨by omega, by omega⟩ (by omega)) (by decide) (st' := []) rfl (Nat.le_of_ble_eq_true rfl) rfl dX7_wakes_2 ?_
  refine g_nm (fun b2 hq0 => ?_)
  have hb2 : ((0 ≤ s ∧ s ≤ ι 179 0 - 1) ∧ b2 = 1) ∨ (¬ (0 ≤ s ∧ s ≤ ι 179 0 - 1) ∧ b2 = 0) := zb_c hq0
  clear hq0
  refine g_if_eq ⟨by omega, by omega⟩ (t := 18) dX7_wakes_5 (by decide) (fun h5 => ?_) (fun h5 => ?_)
  · refine g_ldc (x := -1000001) tw_880 (by decide) dX7_wakes_18 ?_
    exact i_iret rfl dX7_wakes_20 (⟨by rw [if_neg (by omega)], zSc.r ι⟩)
  · refine g_aload_n (x := 178) rfl dX7_wakes_8 ?_
    refine g_iconst (x := 1) rfl dX7_wakes_9 ?_
    refine g_iload_n (x := s) rfl dX7_wakes_10 ?_
    refine g_ishl dX7_wakes_11 ?_
    refine i_callV mvX7_allAwake tw_1053 (ci := 7) (congrArg Prod.fst sh_178) rfl (by decide) (c_allAwake hT (by omega) (s := zshl 1 s) (zshl_b _ _)) (by decide) (st' := []) rfl (Nat.le_of_ble_eq_true rfl) rfl dX7_wakes_12 (fun v_1 ι1 hq_12 => ?_)
    obtain ⟨rfl, hι1⟩ := hq_12
    refine g_goto (t := 20) dX7_wakes_15 (by decide) ?_
    exact i_iret rfl dX7_wakes_20 (⟨by rw [if_pos (by omega)], hι1⟩)

set_option maxRecDepth 100000 in
theorem c_mAlarm (hT : zTM (wb 0 ι)) : zCi l (zc D ad L z) mX7_alarm 5 [zR 178] ι (fun v ι' => v = some (zI (if 0 < wb 0 ι 0 then zfa (wb 0 ι) (zshl 1 (wb 0 ι 0) - 1) 0 else -1000002)) ∧ zSc ι ι') := by
  refine zCt_of (by decide) (Nat.le_of_ble_eq_true rfl) 0 rfl ?_
  obtain ⟨hV, hNB, hH9⟩ := id hT
  obtain ⟨hV0, hV1, hV2, hV3, hV4, hV5, hVk, hVw⟩ := id hV
  have q0 := w0 ι (i := 0) (by decide) (by decide)
  have q1 := w0 ι (i := 1) (by decide) (by decide)
  have q2 := w0 ι (i := 2) (by decide) (by decide)
  have q4 := w0 ι (i := 4) (by decide) (by decide)
  refine g_aload_n (x := 178) rfl dX7_alarm_0 ?_
  refine i_callVp mvX7_isTown tw_962 (ci := 7) (congrArg Prod.fst sh_178) rfl (by decide) (c_isTown (by omega)) (by decide) (st' := []) rfl (Nat.le_of_ble_eq_true rfl) rfl dX7_alarm_1 ?_
  refine g_nm (fun b1 hq0 => ?_)
  have hb1 : ((0 < ι 179 0) ∧ b1 = 1) ∨ (¬ (0 < ι 179 0) ∧ b1 = 0) := zb_c hq0
  clear hq0
  refine g_if_eq ⟨by omega, by omega⟩ (t := 24) dX7_alarm_4 (by decide) (fun h4 => ?_) (fun h4 => ?_)
  · refine g_ldc (x := -1000002) tw_966 (by decide) dX7_alarm_24 ?_
    exact i_iret rfl dX7_alarm_26 (⟨by rw [if_neg (by omega)], zSc.r ι⟩)
  · refine g_aload_n (x := 178) rfl dX7_alarm_7 ?_
    refine g_iconst (x := 1) rfl dX7_alarm_8 ?_
    refine g_aload_n (x := 178) rfl dX7_alarm_9 ?_
    refine g_get fgX7_7 zcl_7 (congrArg Prod.fst sh_178) (by decide) rg_178_0 dX7_alarm_10 ?_
    refine g_iconst (x := 0) rfl dX7_alarm_13 ?_
    refine g_iald sh_179 (by decide) (by omega) (by omega) (by decide) ag_179 dX7_alarm_14 ?_
    refine g_ishl dX7_alarm_15 ?_
    refine g_iconst (x := 1) rfl dX7_alarm_16 ?_
    refine g_isub dX7_alarm_17 ?_
    rw [← q0]
    refine i_callV mvX7_allAwake tw_1053 (ci := 7) (congrArg Prod.fst sh_178) rfl (by decide) (c_allAwake hT (by omega) (s := zshl 1 (wb 0 ι 0) - 1) (zshl_8 (by omega) (by omega))) (by decide) (st' := []) rfl (Nat.le_of_ble_eq_true rfl) rfl dX7_alarm_18 (fun v_1 ι1 hq_18 => ?_)
    obtain ⟨rfl, hι1⟩ := hq_18
    refine g_goto (t := 26) dX7_alarm_21 (by decide) ?_
    exact i_iret rfl dX7_alarm_26 (⟨by rw [if_pos (by omega)], hι1⟩)

set_option maxRecDepth 100000 in
theorem lp_spread (hT : zTM (wb 0 ι)) (hB : 0 < wb 0 ι 1) {s n : Int} (hs : 0 ≤ s ∧ s < wb 0 ι 0) (hn : 1 ≤ n ∧ n ≤ 30) : ∀ i : Int, 0 ≤ i → i ≤ 4 → ∀ X, zGi l (zc D ad L z) mX7_spread 5 25 [some (zR 178), some (zI s), some (zI n), some (zI i)] [] (wp 38 X ι) (fun v ι' => v = some (zI (zsp (wb 0 ι) s n i)) ∧ zSc ι ι') := by
  refine z_loopI (P := fun i => ∀ X, _) (fun i h0 h1 ih X => ?_)
  obtain ⟨ι1, hι1⟩ : ∃ y, y = wp 38 X ι := ⟨_, rfl⟩
  rw [← hι1]
  refine g_iload_n (x := i) rfl dX7_spread_25 ?_
  refine g_iconst (x := 4) rfl dX7_spread_26 ?_
  refine g_icmp_ge ⟨by omega, by omega⟩ (by decide) (t := 67) dX7_spread_27 (by decide) (fun h27 => ?_) (fun h27 => ?_)
  · refine g_ldc (x := -1000000) tw_1057 (by decide) dX7_spread_67 ?_
    exact i_iret rfl dX7_spread_69 (⟨by rw [show i = 4 by omega, zsp_e], ⟨_, hι1⟩⟩)
  · obtain ⟨hV, hNB, hH9⟩ := id hT
    have hN8 := hV.1
    have hw0 : wb 0 ι1 = wb 0 ι := by rw [hι1, wb_wpo (Or.inl (by decide))]
    refine g_aload_n (x := 178) rfl dX7_spread_30 ?_
    refine i_callV mvX7_tries tw_1037 (ci := 7) (congrArg Prod.fst sh_178) rfl (by decide) (c_tries) (by decide) (st' := []) rfl (Nat.le_of_ble_eq_true rfl) rfl dX7_spread_31 (fun v_1 ι2 hq_31 => ?_)
    obtain ⟨rfl, hι2⟩ := hq_31
    refine g_aload_n (x := 178) rfl dX7_spread_34 ?_
    refine g_get fgX7_7 zcl_7 (congrArg Prod.fst sh_178) (by decide) rg_178_0 dX7_spread_35 ?_
    refine g_bipush (x := 40) (by decide) dX7_spread_38 ?_
    refine g_iload_n (x := i) rfl dX7_spread_40 ?_
    obtain ⟨ι3, hι3⟩ : ∃ y, y = iup ι2 179 40 i := ⟨_, rfl⟩
    refine i_iast sh_179 (by decide) (by decide) (by omega) (by omega) (by decide) (ι1 := ι3) (by rw [hι3]; exact au_179) dX7_spread_41 ?_
    have e3 : ι3 = wp 38 (ru (wb 0 ι) 2 i) ι := by rw [hι3, hι2, hι1, wp_wp, ← hι1, hw0, wp_up 38 _ _ (i := 2) (by decide) (by decide) (by decide)]
    have f1 := zVT_2 hV (v := i) (by omega)
    have f2 : tz (ru (wb 0 ι) 2 i) := ru_tz (wb_tz 0 ι) (by decide) (by decide)
    have f3 : ru (wb 0 ι) 2 i 1 = wb 0 ι 1 := ru_n _ (by decide)
    have f4 : ru (wb 0 ι) 2 i 4 = wb 0 ι 4 := ru_n _ (by decide)
    have f5 : ru (wb 0 ι) 2 i 0 = wb 0 ι 0 := ru_n _ (by decide)
    have e4 : wb 38 ι3 = ru (wb 0 ι) 2 i := by rw [e3, wb_wp 38 f2]
    obtain ⟨g1, g2, g3, g4, -⟩ := pasI_V f2 f1 (n := n) (by omega) (by omega)
    refine g_aload_n (x := 178) rfl dX7_spread_42 ?_
    refine g_iload_n (x := n) rfl dX7_spread_43 ?_
    refine i_callV mvX7_goesOn tw_1041 (ci := 7) (congrArg Prod.fst sh_178) rfl (by decide) (c_goesOn (by rw [e4]; exact f1) (by rw [e4, f3]; exact hB) (n := n) (by omega) (by rw [e4, f4]; omega)) (by decide) (st' := []) rfl (Nat.le_of_ble_eq_true rfl) rfl dX7_spread_44 (fun v_2 ι4 hq_44 => ?_)
    obtain ⟨rfl, hι4⟩ := hq_44
    rw [e4, e3, wp_wp] at hι4
    have e5 : ι4 179 (52 + s) = pasI (ru (wb 0 ι) 2 i) n (14 + s) := by rw [hι4, show 52 + s = 38 + (14 + s) by omega, wp_i 38 _ _ (by omega) (by omega)]
    have hk3 := (g1.2.2.2.2.2.2.1 s hs.1 (by rw [g3, f5]; exact hs.2)).2.1
    refine g_aload_n (x := 178) rfl dX7_spread_47 ?_
    refine g_get fgX7_7 zcl_7 (congrArg Prod.fst sh_178) (by decide) rg_178_0 dX7_spread_48 ?_
    refine g_bipush (x := 52) (by decide) dX7_spread_51 ?_
    refine g_iload_n (x := s) rfl dX7_spread_53 ?_
    refine g_iadd dX7_spread_54 ?_
    refine g_iald sh_179 (by decide) (by omega) (by omega) (by decide) ag_179 dX7_spread_55 ?_
    rw [e5]
    refine g_if_le ⟨by omega, by omega⟩ (t := 61) dX7_spread_56 (by decide) (fun h56 => ?_) (fun h56 => ?_)
    · refine g_iinc (x := i) (y := i + 1) (ls' := [some (zR 178), some (zI s), some (zI n), some (zI (i + 1))]) dX7_spread_61 rfl (rfl) (by decide) rfl ?_
      refine g_goto (t := 25) dX7_spread_64 (by decide) ?_
      rw [hι4, zsp_s (by omega), if_neg (by omega)]
      exact ih (by omega) _
    · refine g_iload_n (x := i) rfl dX7_spread_59 ?_
      exact i_iret rfl dX7_spread_60 (⟨by rw [zsp_s (by omega), if_pos (by omega)], ⟨_, hι4⟩⟩)

set_option maxRecDepth 100000 in
theorem c_mSpread (hT : zTM (wb 0 ι)) {s n : Int} (hs : zB s) (hn : zB n) : zCi l (zc D ad L z) mX7_spread 5 [zR 178, zI s, zI n] ι (fun v ι' => v = some (zI (if ¬ ((0 ≤ s ∧ s < wb 0 ι 0) ∧ (1 ≤ n ∧ n ≤ 30)) then -1000001 else zsp (wb 0 ι) s n 0)) ∧ zSc ι ι') := by
  refine zCt_of (by decide) (Nat.le_of_ble_eq_true rfl) 1 rfl ?_
  obtain ⟨hV, hNB, hH9⟩ := id hT
  obtain ⟨hV0, hV1, hV2, hV3, hV4, hV5, hVk, hVw⟩ := id hV
  have q0 := w0 ι (i := 0) (by decide) (by decide)
  have q1 := w0 ι (i := 1) (by decide) (by decide)
  have q2 := w0 ι (i := 2) (by decide) (by decide)
  have q4 := w0 ι (i := 4) (by decide) (by decide)
  refine g_aload_n (x := 178) rfl dX7_spread_0 ?_
  refine g_iload_n (x := s) rfl dX7_spread_1 ?_
  refine i_callVp mvX7_isStreet tw_1002 (ci := 7) (congrArg Prod.fst sh_178) rfl (by decide) (c_isStreet ⟨by omega, by omega⟩ (by omega)) (by decide) (st' := []) rfl (Nat.le_of_ble_eq_true rfl) rfl dX7_spread_2 ?_
  refine g_nm (fun b2 hq0 => ?_)
  have hb2 : ((0 ≤ s ∧ s ≤ ι 179 0 - 1) ∧ b2 = 1) ∨ (¬ (0 ≤ s ∧ s ≤ ι 179 0 - 1) ∧ b2 = 0) := zb_c hq0
  clear hq0
  refine g_if_eq ⟨by omega, by omega⟩ (t := 20) dX7_spread_5 (by decide) (fun h5 => ?_) (fun h5 => ?_)
  · refine g_ldc (x := -1000001) tw_880 (by decide) dX7_spread_20 ?_
    exact i_iret rfl dX7_spread_22 (⟨by rw [if_pos (by omega)], zSc.r ι⟩)
  · refine g_iload_n (x := n) rfl dX7_spread_8 ?_
    refine g_i2l ⟨by omega, by omega⟩ dX7_spread_9 ?_
    refine g_lconst (x := 1) (by decide) dX7_spread_10 ?_
    refine g_ldc2 (x := 30) tw_1076 (by decide) dX7_spread_11 ?_
    refine i_callSp msX7_in tw_876 (c_in ⟨by omega, by omega⟩ ⟨by omega, by omega⟩ ⟨by omega, by omega⟩) (by decide) (st' := []) rfl (Nat.le_of_ble_eq_true rfl) rfl dX7_spread_14 ?_
    refine g_nm (fun b14 hq0 => ?_)
    have hb14 : ((1 ≤ n ∧ n ≤ 30) ∧ b14 = 1) ∨ (¬ (1 ≤ n ∧ n ≤ 30) ∧ b14 = 0) := zb_c hq0
    clear hq0
    refine g_if_ne ⟨by omega, by omega⟩ (t := 23) dX7_spread_17 (by decide) (fun h17 => ?_) (fun h17 => ?_)
    · refine g_iconst (x := 0) rfl dX7_spread_23 ?_
      refine g_istore_n (ls' := [some (zR 178), some (zI s), some (zI n), some (zI 0)]) dX7_spread_24 (by decide) rfl ?_
      rw [if_neg (by omega)]
      have hh := lp_spread (l := l) (D := D) (ad := ad) (L := L) (z := z) hT (by omega) (s := s) (n := n) (by omega) (by omega) 0 (by omega) (by omega) (wb 38 ι)
      rw [wp_wb] at hh
      exact hh
    · refine g_ldc (x := -1000001) tw_880 (by decide) dX7_spread_20 ?_
      exact i_iret rfl dX7_spread_22 (⟨by rw [if_pos (by omega)], zSc.r ι⟩)

set_option maxRecDepth 100000 in
theorem lp_ones {x : Int} : ∀ i : Int, 0 ≤ i → i ≤ 8 → zGi l (zc D ad L z) mX7_ones 0 4 [some (zI x), some (zI (zsum (fun k => zand (zshr x k) 1) i)), some (zI i)] [] ι (zP (zI (zon x)) ι) := by
  refine z_loopI (fun i h0 h1 ih => ?_)
  refine g_iload_n (x := i) rfl dX7_ones_4 ?_
  refine g_bipush (x := 8) (by decide) dX7_ones_5 ?_
  refine g_icmp_ge ⟨by omega, by omega⟩ (by decide) (t := 24) dX7_ones_7 (by decide) (fun h7 => ?_) (fun h7 => ?_)
  · refine g_iload_n (x := (zsum (fun k => zand (zshr x k) 1) i)) rfl dX7_ones_24 ?_
    exact i_iret rfl dX7_ones_25 (⟨by unfold zon; rw [show i = 8 by omega], rfl⟩)
  · refine g_iload_n (x := (zsum (fun k => zand (zshr x k) 1) i)) rfl dX7_ones_10 ?_
    refine g_iload_n (x := x) rfl dX7_ones_11 ?_
    refine g_iload_n (x := i) rfl dX7_ones_12 ?_
    refine g_ishr dX7_ones_13 ?_
    refine g_iconst (x := 1) rfl dX7_ones_14 ?_
    refine g_iand dX7_ones_15 ?_
    refine g_iadd dX7_ones_16 ?_
    refine g_nm (fun x1 hx1 => ?_)
    refine g_istore_n (ls' := [some (zI x), some (zI x1), some (zI i)]) dX7_ones_17 (by decide) rfl ?_
    refine g_iinc (x := i) (y := i + 1) (ls' := [some (zI x), some (zI x1), some (zI (i + 1))]) dX7_ones_18 rfl (rfl) (by decide) rfl ?_
    refine g_goto (t := 4) dX7_ones_21 (by decide) ?_
    have hh := ih (by omega)
    rw [zsum_s _ h0, ← hx1] at hh
    exact hh

set_option maxRecDepth 100000 in
theorem c_ones {x : Int} : zCi l (zc D ad L z) mX7_ones 0 [zI x] ι (zP (zI (zon x)) ι) := by
  refine zCt_of (by decide) (Nat.le_of_ble_eq_true rfl) 2 rfl ?_
  refine g_iconst (x := 0) rfl dX7_ones_0 ?_
  refine g_istore_n (ls' := [some (zI x), some (zI 0), none]) dX7_ones_1 (by decide) rfl ?_
  refine g_iconst (x := 0) rfl dX7_ones_2 ?_
  refine g_istore_n (ls' := [some (zI x), some (zI 0), some (zI 0)]) dX7_ones_3 (by decide) rfl ?_
  have hh := lp_ones (l := l) (D := D) (ad := ad) (L := L) (z := z) (ι := ι) (x := x) 0 (by omega) (by omega)
  rw [zsum_0] at hh
  exact hh

set_option maxRecDepth 100000 in
theorem c_mImage (hT : zTM (wb 0 ι)) {k : Int} (hk : zB k) : zCi l (zc D ad L z) mX7_image 1 [zR 178, zI k] ι (fun v ι' => v = some (zI (if ¬ (0 ≤ k ∧ k ≤ 1) then -1000001 else if ¬ (0 < wb 0 ι 0) then -1000002 else 1)) ∧ ι' = if (0 ≤ k ∧ k ≤ 1) ∧ 0 < wb 0 ι 0 then iup (wp (76 + 38 * k) (wb 0 ι) ι) 186 k 1 else ι) := by
  refine zCt_of (by decide) (Nat.le_of_ble_eq_true rfl) 0 rfl ?_
  obtain ⟨hV, hNB, hH9⟩ := id hT
  obtain ⟨hV0, hV1, hV2, hV3, hV4, hV5, hVk, hVw⟩ := id hV
  have q0 := w0 ι (i := 0) (by decide) (by decide)
  have q1 := w0 ι (i := 1) (by decide) (by decide)
  have q2 := w0 ι (i := 2) (by decide) (by decide)
  have q4 := w0 ι (i := 4) (by decide) (by decide)
  refine g_iload_n (x := k) rfl dX7_image_0 ?_
  refine g_i2l ⟨by omega, by omega⟩ dX7_image_1 ?_
  refine g_lconst (x := 0) (by decide) dX7_image_2 ?_
  refine g_lconst (x := 1) (by decide) dX7_image_3 ?_
  refine i_callSp msX7_in tw_876 (c_in ⟨by omega, by omega⟩ ⟨by omega, by omega⟩ ⟨by omega, by omega⟩) (by decide) (st' := []) rfl (Nat.le_of_ble_eq_true rfl) rfl dX7_image_4 ?_
  refine g_nm (fun b4 hq0 => ?_)
  have hb4 : ((0 ≤ k ∧ k ≤ 1) ∧ b4 = 1) ∨ (¬ (0 ≤ k ∧ k ≤ 1) ∧ b4 = 0) := zb_c hq0
  clear hq0
  refine g_if_ne ⟨by omega, by omega⟩ (t := 13) dX7_image_7 (by decide) (fun h7 => ?_) (fun h7 => ?_)
  · refine g_aload_n (x := 178) rfl dX7_image_13 ?_
    refine i_callVp mvX7_isTown tw_962 (ci := 7) (congrArg Prod.fst sh_178) rfl (by decide) (c_isTown (by omega)) (by decide) (st' := []) rfl (Nat.le_of_ble_eq_true rfl) rfl dX7_image_14 ?_
    refine g_nm (fun b14 hq0 => ?_)
    have hb14 : ((0 < ι 179 0) ∧ b14 = 1) ∨ (¬ (0 < ι 179 0) ∧ b14 = 0) := zb_c hq0
    clear hq0
    refine g_if_ne ⟨by omega, by omega⟩ (t := 23) dX7_image_17 (by decide) (fun h17 => ?_) (fun h17 => ?_)
    · refine g_aload_n (x := 178) rfl dX7_image_23 ?_
      refine g_iconst (x := 0) rfl dX7_image_24 ?_
      refine g_bipush (x := 76) (by decide) dX7_image_25 ?_
      refine g_bipush (x := 38) (by decide) dX7_image_27 ?_
      refine g_iload_n (x := k) rfl dX7_image_29 ?_
      refine g_imul dX7_image_30 ?_
      refine g_iadd dX7_image_31 ?_
      refine i_callV mvX7_copyOf tw_950 (ci := 7) (congrArg Prod.fst sh_178) rfl (by decide) (c_copyOf (by decide) (by omega) (by omega)) (by decide) (st' := []) rfl (Nat.le_of_ble_eq_true rfl) rfl dX7_image_32 (fun v_1 ι1 hq_32 => ?_)
      obtain ⟨rfl, hι1⟩ := hq_32
      refine g_aload_n (x := 178) rfl dX7_image_35 ?_
      refine g_get fgX7_31 zcl_7 (congrArg Prod.fst sh_178) (by decide) rg_178_14 dX7_image_36 ?_
      refine g_iload_n (x := k) rfl dX7_image_39 ?_
      refine g_iconst (x := 1) rfl dX7_image_40 ?_
      obtain ⟨ι2, hι2⟩ : ∃ y, y = iup ι1 186 k 1 := ⟨_, rfl⟩
      refine i_zast (by decide) sh_186 (by decide) (by decide) (by omega) (by omega) (by decide) (ι1 := ι2) (by rw [hι2]; exact au_186) dX7_image_41 ?_
      refine g_iconst (x := 1) rfl dX7_image_42 ?_
      exact i_iret rfl dX7_image_43 (⟨(by (repeat' split) <;> first | rfl | (exfalso; omega) | (congr 2; omega)), by rw [if_pos (by omega), hι2, hι1]⟩)
    · refine g_ldc (x := -1000002) tw_966 (by decide) dX7_image_20 ?_
      exact i_iret rfl dX7_image_22 (⟨(by (repeat' split) <;> first | rfl | (exfalso; omega) | (congr 2; omega)), (by (repeat' split) <;> first | rfl | (exfalso; omega) | (congr 2; omega))⟩)
  · refine g_ldc (x := -1000001) tw_880 (by decide) dX7_image_10 ?_
    exact i_iret rfl dX7_image_12 (⟨(by (repeat' split) <;> first | rfl | (exfalso; omega) | (congr 2; omega)), (by (repeat' split) <;> first | rfl | (exfalso; omega) | (congr 2; omega))⟩)

set_option maxRecDepth 100000 in
theorem c_mRestore {k : Int} (hk1 : zB (ι 186 k)) (hk : zB k) : zCi l (zc D ad L z) mX7_restore 1 [zR 178, zI k] ι (fun v ι' => v = some (zI (if ¬ (0 ≤ k ∧ k ≤ 1) then -1000001 else if ι 186 k = 0 then -1000002 else 1)) ∧ ι' = if (0 ≤ k ∧ k ≤ 1) ∧ ι 186 k ≠ 0 then iup (wp 0 (wb (76 + 38 * k) ι) ι) 178 1 0 else ι) := by
  refine zCt_of (by decide) (Nat.le_of_ble_eq_true rfl) 0 rfl ?_
  refine g_iload_n (x := k) rfl dX7_restore_0 ?_
  refine g_i2l ⟨by omega, by omega⟩ dX7_restore_1 ?_
  refine g_lconst (x := 0) (by decide) dX7_restore_2 ?_
  refine g_lconst (x := 1) (by decide) dX7_restore_3 ?_
  refine i_callSp msX7_in tw_876 (c_in ⟨by omega, by omega⟩ ⟨by omega, by omega⟩ ⟨by omega, by omega⟩) (by decide) (st' := []) rfl (Nat.le_of_ble_eq_true rfl) rfl dX7_restore_4 ?_
  refine g_nm (fun b4 hq0 => ?_)
  have hb4 : ((0 ≤ k ∧ k ≤ 1) ∧ b4 = 1) ∨ (¬ (0 ≤ k ∧ k ≤ 1) ∧ b4 = 0) := zb_c hq0
  clear hq0
  refine g_if_ne ⟨by omega, by omega⟩ (t := 13) dX7_restore_7 (by decide) (fun h7 => ?_) (fun h7 => ?_)
  · refine g_aload_n (x := 178) rfl dX7_restore_13 ?_
    refine g_get fgX7_31 zcl_7 (congrArg Prod.fst sh_178) (by decide) rg_178_14 dX7_restore_14 ?_
    refine g_iload_n (x := k) rfl dX7_restore_17 ?_
    refine g_zald sh_186 (by decide) (by omega) (by omega) (by decide) ag_186 dX7_restore_18 ?_
    refine g_if_ne hk1 (t := 25) dX7_restore_19 (by decide) (fun h19 => ?_) (fun h19 => ?_)
    · refine g_aload_n (x := 178) rfl dX7_restore_25 ?_
      refine g_bipush (x := 76) (by decide) dX7_restore_26 ?_
      refine g_bipush (x := 38) (by decide) dX7_restore_28 ?_
      refine g_iload_n (x := k) rfl dX7_restore_30 ?_
      refine g_imul dX7_restore_31 ?_
      refine g_iadd dX7_restore_32 ?_
      refine g_iconst (x := 0) rfl dX7_restore_33 ?_
      refine i_callV mvX7_copyOf tw_950 (ci := 7) (congrArg Prod.fst sh_178) rfl (by decide) (c_copyOf (by omega) (by decide) (by omega)) (by decide) (st' := []) rfl (Nat.le_of_ble_eq_true rfl) rfl dX7_restore_34 (fun v_1 ι1 hq_34 => ?_)
      obtain ⟨rfl, hι1⟩ := hq_34
      refine g_aload_n (x := 178) rfl dX7_restore_37 ?_
      refine g_iconst (x := 0) rfl dX7_restore_38 ?_
      obtain ⟨ι2, hι2⟩ : ∃ y, y = iup ι1 178 1 0 := ⟨_, rfl⟩
      refine i_put fwX7_121 zcl_7 (congrArg Prod.fst sh_178) (by decide) (by decide) (ι1 := ι2) (by rw [hι2]; exact iu_178_1) dX7_restore_39 ?_
      refine g_iconst (x := 1) rfl dX7_restore_42 ?_
      exact i_iret rfl dX7_restore_43 (⟨(by (repeat' split) <;> first | rfl | (exfalso; omega) | (congr 2; omega)), by rw [if_pos (by omega), hι2, hι1]⟩)
    · refine g_ldc (x := -1000002) tw_966 (by decide) dX7_restore_22 ?_
      exact i_iret rfl dX7_restore_24 (⟨(by (repeat' split) <;> first | rfl | (exfalso; omega) | (congr 2; omega)), (by (repeat' split) <;> first | rfl | (exfalso; omega) | (congr 2; omega))⟩)
  · refine g_ldc (x := -1000001) tw_880 (by decide) dX7_restore_10 ?_
    exact i_iret rfl dX7_restore_12 (⟨(by (repeat' split) <;> first | rfl | (exfalso; omega) | (congr 2; omega)), (by (repeat' split) <;> first | rfl | (exfalso; omega) | (congr 2; omega))⟩)

set_option maxRecDepth 100000 in
theorem c_mKind (hT : zTM (wb 0 ι)) {s : Int} (hs : zB s) : zCi l (zc D ad L z) mX7_kind 2 [zR 178, zI s] ι (zP (zI (if 0 ≤ s ∧ s < wb 0 ι 0 then wb 0 ι (6 + s) else -1000001)) ι) := by
  refine zCt_of (by decide) (Nat.le_of_ble_eq_true rfl) 0 rfl ?_
  obtain ⟨hV, hNB, hH9⟩ := id hT
  obtain ⟨hV0, hV1, hV2, hV3, hV4, hV5, hVk, hVw⟩ := id hV
  have q0 := w0 ι (i := 0) (by decide) (by decide)
  have q1 := w0 ι (i := 1) (by decide) (by decide)
  have q2 := w0 ι (i := 2) (by decide) (by decide)
  have q4 := w0 ι (i := 4) (by decide) (by decide)
  refine g_aload_n (x := 178) rfl dX7_kind_0 ?_
  refine g_iload_n (x := s) rfl dX7_kind_1 ?_
  refine i_callVp mvX7_isStreet tw_1002 (ci := 7) (congrArg Prod.fst sh_178) rfl (by decide) (c_isStreet ⟨by omega, by omega⟩ (by omega)) (by decide) (st' := []) rfl (Nat.le_of_ble_eq_true rfl) rfl dX7_kind_2 ?_
  refine g_nm (fun b2 hq0 => ?_)
  have hb2 : ((0 ≤ s ∧ s ≤ ι 179 0 - 1) ∧ b2 = 1) ∨ (¬ (0 ≤ s ∧ s ≤ ι 179 0 - 1) ∧ b2 = 0) := zb_c hq0
  clear hq0
  refine g_if_eq ⟨by omega, by omega⟩ (t := 20) dX7_kind_5 (by decide) (fun h5 => ?_) (fun h5 => ?_)
  · refine g_ldc (x := -1000001) tw_880 (by decide) dX7_kind_20 ?_
    exact i_iret rfl dX7_kind_22 (⟨by rw [if_neg (by omega)], rfl⟩)
  · refine g_aload_n (x := 178) rfl dX7_kind_8 ?_
    refine g_get fgX7_7 zcl_7 (congrArg Prod.fst sh_178) (by decide) rg_178_0 dX7_kind_9 ?_
    refine g_bipush (x := 6) (by decide) dX7_kind_12 ?_
    refine g_iload_n (x := s) rfl dX7_kind_14 ?_
    refine g_iadd dX7_kind_15 ?_
    refine g_iald sh_179 (by decide) (by omega) (by omega) (by decide) ag_179 dX7_kind_16 ?_
    refine g_goto (t := 22) dX7_kind_17 (by decide) ?_
    exact i_iret rfl dX7_kind_22 (⟨by rw [if_pos (by omega), w0 ι (by omega) (by omega)], rfl⟩)

/-- whether a kind is one -/
def zia (o k : Int) : Int := if k = 0 ∨ k = o ∨ (k = 1 ∧ (o = 2 ∨ o = 3)) ∨ (k = 4 ∧ o = 5) then 1 else 0
set_option maxRecDepth 100000 in
theorem c_mIsA {o k : Int} (ho : zB o) (hk : zB k) : zCi l (zc D ad L z) mX7_isA 0 [zI o, zI k] ι (zP (zI (zia o k)) ι) := by
  refine zCt_of (by decide) (Nat.le_of_ble_eq_true rfl) 0 rfl ?_
  refine g_iload_n (x := k) rfl dX7_isA_0 ?_
  refine g_if_eq ⟨by omega, by omega⟩ (t := 34) dX7_isA_1 (by decide) (fun h1 => ?_) (fun h1 => ?_)
  · refine g_iconst (x := 1) rfl dX7_isA_34 ?_
    refine g_goto (t := 39) dX7_isA_35 (by decide) ?_
    exact i_zret rfl (by decide) dX7_isA_39 (⟨by unfold zia; first | (exfalso; omega) | rw [if_pos (by omega)] | rw [if_neg (by omega)], rfl⟩)
  · refine g_iload_n (x := k) rfl dX7_isA_4 ?_
    refine g_iload_n (x := o) rfl dX7_isA_5 ?_
    refine g_icmp_eq ⟨by omega, by omega⟩ ⟨by omega, by omega⟩ (t := 34) dX7_isA_6 (by decide) (fun h6 => ?_) (fun h6 => ?_)
    · refine g_iconst (x := 1) rfl dX7_isA_34 ?_
      refine g_goto (t := 39) dX7_isA_35 (by decide) ?_
      exact i_zret rfl (by decide) dX7_isA_39 (⟨by unfold zia; first | (exfalso; omega) | rw [if_pos (by omega)] | rw [if_neg (by omega)], rfl⟩)
    · refine g_iload_n (x := k) rfl dX7_isA_9 ?_
      refine g_iconst (x := 1) rfl dX7_isA_10 ?_
      refine g_icmp_ne ⟨by omega, by omega⟩ (by decide) (t := 24) dX7_isA_11 (by decide) (fun h11 => ?_) (fun h11 => ?_)
      · refine g_iload_n (x := k) rfl dX7_isA_24 ?_
        refine g_iconst (x := 4) rfl dX7_isA_25 ?_
        refine g_icmp_ne ⟨by omega, by omega⟩ (by decide) (t := 38) dX7_isA_26 (by decide) (fun h26 => ?_) (fun h26 => ?_)
        · refine g_iconst (x := 0) rfl dX7_isA_38 ?_
          exact i_zret rfl (by decide) dX7_isA_39 (⟨by unfold zia; first | (exfalso; omega) | rw [if_pos (by omega)] | rw [if_neg (by omega)], rfl⟩)
        · refine g_iload_n (x := o) rfl dX7_isA_29 ?_
          refine g_iconst (x := 5) rfl dX7_isA_30 ?_
          refine g_icmp_ne ⟨by omega, by omega⟩ (by decide) (t := 38) dX7_isA_31 (by decide) (fun h31 => ?_) (fun h31 => ?_)
          · refine g_iconst (x := 0) rfl dX7_isA_38 ?_
            exact i_zret rfl (by decide) dX7_isA_39 (⟨by unfold zia; first | (exfalso; omega) | rw [if_pos (by omega)] | rw [if_neg (by omega)], rfl⟩)
          · refine g_iconst (x := 1) rfl dX7_isA_34 ?_
            refine g_goto (t := 39) dX7_isA_35 (by decide) ?_
            exact i_zret rfl (by decide) dX7_isA_39 (⟨by unfold zia; first | (exfalso; omega) | rw [if_pos (by omega)] | rw [if_neg (by omega)], rfl⟩)
      · refine g_iload_n (x := o) rfl dX7_isA_14 ?_
        refine g_iconst (x := 2) rfl dX7_isA_15 ?_
        refine g_icmp_eq ⟨by omega, by omega⟩ (by decide) (t := 34) dX7_isA_16 (by decide) (fun h16 => ?_) (fun h16 => ?_)
        · refine g_iconst (x := 1) rfl dX7_isA_34 ?_
          refine g_goto (t := 39) dX7_isA_35 (by decide) ?_
          exact i_zret rfl (by decide) dX7_isA_39 (⟨by unfold zia; first | (exfalso; omega) | rw [if_pos (by omega)] | rw [if_neg (by omega)], rfl⟩)
        · refine g_iload_n (x := o) rfl dX7_isA_19 ?_
          refine g_iconst (x := 3) rfl dX7_isA_20 ?_
          refine g_icmp_eq ⟨by omega, by omega⟩ (by decide) (t := 34) dX7_isA_21 (by decide) (fun h21 => ?_) (fun h21 => ?_)
          · refine g_iconst (x := 1) rfl dX7_isA_34 ?_
            refine g_goto (t := 39) dX7_isA_35 (by decide) ?_
            exact i_zret rfl (by decide) dX7_isA_39 (⟨by unfold zia; first | (exfalso; omega) | rw [if_pos (by omega)] | rw [if_neg (by omega)], rfl⟩)
          · refine g_iload_n (x := k) rfl dX7_isA_24 ?_
            refine g_iconst (x := 4) rfl dX7_isA_25 ?_
            refine g_icmp_ne ⟨by omega, by omega⟩ (by decide) (t := 38) dX7_isA_26 (by decide) (fun h26 => ?_) (fun h26 => ?_)
            · refine g_iconst (x := 0) rfl dX7_isA_38 ?_
              exact i_zret rfl (by decide) dX7_isA_39 (⟨by unfold zia; first | (exfalso; omega) | rw [if_pos (by omega)] | rw [if_neg (by omega)], rfl⟩)
            · refine g_iload_n (x := o) rfl dX7_isA_29 ?_
              refine g_iconst (x := 5) rfl dX7_isA_30 ?_
              refine g_icmp_ne ⟨by omega, by omega⟩ (by decide) (t := 38) dX7_isA_31 (by decide) (fun h31 => ?_) (fun h31 => ?_)
              · refine g_iconst (x := 0) rfl dX7_isA_38 ?_
                exact i_zret rfl (by decide) dX7_isA_39 (⟨by unfold zia; first | (exfalso; omega) | rw [if_pos (by omega)] | rw [if_neg (by omega)], rfl⟩)
              · refine g_iconst (x := 1) rfl dX7_isA_34 ?_
                refine g_goto (t := 39) dX7_isA_35 (by decide) ?_
                exact i_zret rfl (by decide) dX7_isA_39 (⟨by unfold zia; first | (exfalso; omega) | rw [if_pos (by omega)] | rw [if_neg (by omega)], rfl⟩)

set_option maxRecDepth 100000 in
theorem c_mAs (hT : zTM (wb 0 ι)) {s k : Int} (hs : zB s) (hk : zB k) : zCi l (zc D ad L z) mX7_as 2 [zR 178, zI s, zI k] ι (fun v ι' => v = some (zI (if ¬ ((0 ≤ s ∧ s < wb 0 ι 0) ∧ (0 ≤ k ∧ k ≤ 5)) then -1000001 else if zia (wb 0 ι (6 + s)) k = 1 then s else -1000013)) ∧ ι' = if (0 ≤ s ∧ s < wb 0 ι 0) ∧ (0 ≤ k ∧ k ≤ 5) then iup ι 178 5 (if zia (wb 0 ι (6 + s)) k = 1 then 0 else 3) else ι) := by
  refine zCt_of (by decide) (Nat.le_of_ble_eq_true rfl) 0 rfl ?_
  obtain ⟨hV, hNB, hH9⟩ := id hT
  obtain ⟨hV0, hV1, hV2, hV3, hV4, hV5, hVk, hVw⟩ := id hV
  have q0 := w0 ι (i := 0) (by decide) (by decide)
  have q1 := w0 ι (i := 1) (by decide) (by decide)
  have q2 := w0 ι (i := 2) (by decide) (by decide)
  have q4 := w0 ι (i := 4) (by decide) (by decide)
  refine g_aload_n (x := 178) rfl dX7_as_0 ?_
  refine g_iload_n (x := s) rfl dX7_as_1 ?_
  refine i_callVp mvX7_isStreet tw_1002 (ci := 7) (congrArg Prod.fst sh_178) rfl (by decide) (c_isStreet ⟨by omega, by omega⟩ (by omega)) (by decide) (st' := []) rfl (Nat.le_of_ble_eq_true rfl) rfl dX7_as_2 ?_
  refine g_nm (fun b2 hq0 => ?_)
  have hb2 : ((0 ≤ s ∧ s ≤ ι 179 0 - 1) ∧ b2 = 1) ∨ (¬ (0 ≤ s ∧ s ≤ ι 179 0 - 1) ∧ b2 = 0) := zb_c hq0
  clear hq0
  refine g_if_eq ⟨by omega, by omega⟩ (t := 20) dX7_as_5 (by decide) (fun h5 => ?_) (fun h5 => ?_)
  · refine g_ldc (x := -1000001) tw_880 (by decide) dX7_as_20 ?_
    exact i_iret rfl dX7_as_22 (⟨by rw [if_pos (by omega)], by rw [if_neg (by omega)]⟩)
  · refine g_iload_n (x := k) rfl dX7_as_8 ?_
    refine g_i2l ⟨by omega, by omega⟩ dX7_as_9 ?_
    refine g_lconst (x := 0) (by decide) dX7_as_10 ?_
    refine g_ldc2 (x := 5) tw_1114 (by decide) dX7_as_11 ?_
    refine i_callSp msX7_in tw_876 (c_in ⟨by omega, by omega⟩ ⟨by omega, by omega⟩ ⟨by omega, by omega⟩) (by decide) (st' := []) rfl (Nat.le_of_ble_eq_true rfl) rfl dX7_as_14 ?_
    refine g_nm (fun b14 hq0 => ?_)
    have hb14 : ((0 ≤ k ∧ k ≤ 5) ∧ b14 = 1) ∨ (¬ (0 ≤ k ∧ k ≤ 5) ∧ b14 = 0) := zb_c hq0
    clear hq0
    refine g_if_ne ⟨by omega, by omega⟩ (t := 23) dX7_as_17 (by decide) (fun h17 => ?_) (fun h17 => ?_)
    · refine g_aload_n (x := 178) rfl dX7_as_23 ?_
      refine g_get fgX7_7 zcl_7 (congrArg Prod.fst sh_178) (by decide) rg_178_0 dX7_as_24 ?_
      refine g_bipush (x := 6) (by decide) dX7_as_27 ?_
      refine g_iload_n (x := s) rfl dX7_as_29 ?_
      refine g_iadd dX7_as_30 ?_
      refine g_iald sh_179 (by decide) (by omega) (by omega) (by decide) ag_179 dX7_as_31 ?_
      refine g_iload_n (x := k) rfl dX7_as_32 ?_
      have hk3 := hVk s (by omega) (by omega)
      rw [← w0 ι (i := 6 + s) (by omega) (by omega)]
      refine i_callSp msX7_isA tw_1131 (c_mIsA ⟨by omega, by omega⟩ hk) (by decide) (st' := []) rfl (Nat.le_of_ble_eq_true rfl) rfl dX7_as_33 ?_
      have hz1 : zia (wb 0 ι (6 + s)) k = 0 ∨ zia (wb 0 ι (6 + s)) k = 1 := by unfold zia; split <;> simp
      refine g_if_ne ⟨by omega, by omega⟩ (t := 45) dX7_as_36 (by decide) (fun h36 => ?_) (fun h36 => ?_)
      · refine g_aload_n (x := 178) rfl dX7_as_45 ?_
        refine g_iconst (x := 0) rfl dX7_as_46 ?_
        obtain ⟨ι1, hι1⟩ : ∃ y, y = iup ι 178 5 0 := ⟨_, rfl⟩
        refine i_put fwX7_44 zcl_7 (congrArg Prod.fst sh_178) (by decide) (by decide) (ι1 := ι1) (by rw [hι1]; exact iu_178_5) dX7_as_47 ?_
        refine g_iload_n (x := s) rfl dX7_as_50 ?_
        exact i_iret rfl dX7_as_51 (⟨by rw [if_neg (by omega), if_pos (by omega)], by rw [if_pos (by omega), if_pos (by omega), hι1]⟩)
      · refine g_aload_n (x := 178) rfl dX7_as_39 ?_
        refine g_iconst (x := 3) rfl dX7_as_40 ?_
        refine i_callV mvX7_finds tw_881 (ci := 7) (congrArg Prod.fst sh_178) rfl (by decide) (c_finds) (by decide) (st' := []) rfl (Nat.le_of_ble_eq_true rfl) rfl dX7_as_41 (fun v_1 ι1 hq_41 => ?_)
        obtain ⟨rfl, hι1⟩ := hq_41
        exact i_iret rfl dX7_as_44 (⟨by rw [if_neg (by omega), if_neg (by omega)]; rfl, by rw [if_pos (by omega), if_neg (by omega), hι1]⟩)
    · refine g_ldc (x := -1000001) tw_880 (by decide) dX7_as_20 ?_
      exact i_iret rfl dX7_as_22 (⟨by rw [if_pos (by omega)], by rw [if_neg (by omega)]⟩)

end
