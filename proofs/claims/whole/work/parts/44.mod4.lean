section
variable {l : Launch} {D : va_G} {ad : Nat → Nat} {L z : Nat} {ι : zi}
set_option maxRecDepth 100000 in
theorem c_tries  : zCi l (zc D ad L z) mX7_tries 1 [zR 178] ι (fun v ι' => v = none ∧ ι' = wp 38 (wb 0 ι) ι) := by
  refine zCt_of (by decide) (Nat.le_of_ble_eq_true rfl) 0 rfl ?_
  refine g_aload_n (x := 178) rfl dX7_tries_0 ?_
  refine g_iconst (x := 0) rfl dX7_tries_1 ?_
  refine g_bipush (x := 38) (by decide) dX7_tries_2 ?_
  refine i_callV mvX7_copyOf tw_950 (ci := 7) (congrArg Prod.fst sh_178) rfl (by decide) (c_copyOf (by decide) (by decide) (by decide)) (by decide) (st' := []) rfl (Nat.le_of_ble_eq_true rfl) rfl dX7_tries_4 (fun v_1 ι1 hq_4 => ?_)
  obtain ⟨rfl, hι1⟩ := hq_4
  exact i_ret rfl dX7_tries_7 (⟨rfl, hι1⟩)

set_option maxRecDepth 100000 in
theorem lp_goesOn (hV : zVT (wb 38 ι)) (hB : 0 < wb 38 ι 1) {n : Int} (hn : 0 ≤ n ∧ n ≤ 1000) (h4 : wb 38 ι 4 + n ≤ 20000) : ∀ i : Int, 0 ≤ i → i ≤ n → zGi l (zc D ad L z) mX7_goesOn 4 2 [some (zR 178), some (zI n), some (zI i)] [] (wp 38 (pasI (wb 38 ι) i) ι) (fun v ι' => v = none ∧ ι' = wp 38 (pasI (wb 38 ι) n) ι) := by
  refine z_loopI (fun i h0 h1 ih => ?_)
  obtain ⟨ι1, hι1⟩ : ∃ y, y = wp 38 (pasI (wb 38 ι) i) ι := ⟨_, rfl⟩
  rw [← hι1]
  refine g_iload_n (x := i) rfl dX7_goesOn_2 ?_
  refine g_iload_n (x := n) rfl dX7_goesOn_3 ?_
  refine g_icmp_ge ⟨by omega, by omega⟩ ⟨by omega, by omega⟩ (t := 19) dX7_goesOn_4 (by decide) (fun h4 => ?_) (fun h4 => ?_)
  · exact i_ret rfl dX7_goesOn_19 (⟨rfl, by rw [hι1, show i = n by omega]⟩)
  · refine g_aload_n (x := 178) rfl dX7_goesOn_7 ?_
    refine g_bipush (x := 38) (by decide) dX7_goesOn_8 ?_
    obtain ⟨g1, g2, g3, g4, -⟩ := pasI_V (wb_tz 38 ι) hV h0 (by omega)
    have etb : wb 38 ι1 = pasI (wb 38 ι) i := by rw [hι1, wb_wp 38 g2]
    refine i_callV mvX7_passes tw_972 (ci := 7) (congrArg Prod.fst sh_178) rfl (by decide) (c_passes (by decide) (by rw [etb]; exact g1) (by rw [etb, g4]; exact hB)) (by decide) (st' := []) rfl (Nat.le_of_ble_eq_true rfl) rfl dX7_goesOn_10 (fun v_1 ι2 hq_10 => ?_)
    obtain ⟨rfl, hι2⟩ := hq_10
    rw [etb, ← pasI_s _ h0, hι1, wp_wp] at hι2
    refine g_iinc (x := i) (y := i + 1) (ls' := [some (zR 178), some (zI n), some (zI (i + 1))]) dX7_goesOn_13 rfl (rfl) (by decide) rfl ?_
    refine g_goto (t := 2) dX7_goesOn_16 (by decide) ?_
    rw [hι2]
    exact ih (by omega)

set_option maxRecDepth 100000 in
theorem c_goesOn (hV : zVT (wb 38 ι)) (hB : 0 < wb 38 ι 1) {n : Int} (hn : 0 ≤ n ∧ n ≤ 1000) (h4 : wb 38 ι 4 + n ≤ 20000) : zCi l (zc D ad L z) mX7_goesOn 4 [zR 178, zI n] ι (fun v ι' => v = none ∧ ι' = wp 38 (pasI (wb 38 ι) n) ι) := by
  refine zCt_of (by decide) (Nat.le_of_ble_eq_true rfl) 1 rfl ?_
  refine g_iconst (x := 0) rfl dX7_goesOn_0 ?_
  refine g_istore_n (ls' := [some (zR 178), some (zI n), some (zI 0)]) dX7_goesOn_1 (by decide) rfl ?_
  have hh := lp_goesOn (l := l) (D := D) (ad := ad) (L := L) (z := z) hV hB hn h4 0 (by omega) (by omega)
  rw [pasI_0, wp_wb] at hh
  exact hh

set_option maxRecDepth 100000 in
theorem lp_mHours (hT : zTM (wb 0 ι)) (hB : 0 < wb 0 ι 1) (hu : 0 ≤ ι 178 1 ∧ ι 178 1 ≤ 24) {n : Int} (hn : 0 ≤ n ∧ n ≤ 24) (h4 : wb 0 ι 4 + n ≤ 9999) : ∀ i : Int, 0 ≤ i → i ≤ n → zGi l (zc D ad L z) mX7_hours 4 44 [some (zR 178), some (zI n), some (zI i)] [] (zit zhM i ι) (fun v ι' => v = some (zI (zaw (fun k => pasI (wb 0 ι) n (14 + k)) (wb 0 ι 0))) ∧ ι' = zit zhM n ι) := by
  refine z_loopI (fun i h0 h1 ih => ?_)
  obtain ⟨ι1, hι1⟩ : ∃ y, y = zit zhM i ι := ⟨_, rfl⟩
  rw [← hι1]
  refine g_iload_n (x := i) rfl dX7_hours_44 ?_
  refine g_iload_n (x := n) rfl dX7_hours_45 ?_
  refine g_icmp_ge ⟨by omega, by omega⟩ ⟨by omega, by omega⟩ (t := 64) dX7_hours_46 (by decide) (fun h46 => ?_) (fun h46 => ?_)
  · refine g_aload_n (x := 178) rfl dX7_hours_64 ?_
    refine g_iconst (x := 0) rfl dX7_hours_65 ?_
    have ei : i = n := by omega
    rw [ei] at hι1
    obtain ⟨hV, hNB, hH9⟩ := id hT
    obtain ⟨e1, e2⟩ := zhM_it hV hu hn.1 (by omega)
    obtain ⟨g1, g2, g3, g4, -⟩ := pasI_V (wb_tz 0 ι) hV hn.1 (by omega)
    rw [← hι1] at e1 e2
    refine i_callVp mvX7_awake tw_994 (ci := 7) (congrArg Prod.fst sh_178) rfl (by decide) (c_mAwake (by decide) (by rw [e1]; exact g1.1) (fun k q0 q1 => by rw [e1] at q1 ⊢; have := (g1.2.2.2.2.2.2.1 k q0 q1).2.1; exact ⟨by omega, by omega⟩)) (by decide) (st' := []) rfl (Nat.le_of_ble_eq_true rfl) rfl dX7_hours_66 ?_
    exact i_iret rfl dX7_hours_69 (⟨by rw [e1, g3], hι1⟩)
  · refine g_aload_n (x := 178) rfl dX7_hours_49 ?_
    obtain ⟨hV, hNB, hH9⟩ := id hT
    obtain ⟨e1, e2⟩ := zhM_it hV hu h0 (by omega)
    obtain ⟨g1, g2, g3, g4, -⟩ := pasI_V (wb_tz 0 ι) hV h0 (by omega)
    rw [← hι1] at e1 e2
    refine i_callV mvX7_minds tw_968 (ci := 7) (congrArg Prod.fst sh_178) rfl (by decide) (c_minds e2) (by decide) (st' := []) rfl (Nat.le_of_ble_eq_true rfl) rfl dX7_hours_50 (fun v_1 ι2 hq_50 => ?_)
    obtain ⟨rfl, hι2⟩ := hq_50
    have e3 : wb 0 ι2 = pasI (wb 0 ι) i := by rw [hι2, zmd_w e2 (by decide), e1]
    refine g_aload_n (x := 178) rfl dX7_hours_53 ?_
    refine g_iconst (x := 0) rfl dX7_hours_54 ?_
    refine i_callV mvX7_passes tw_972 (ci := 7) (congrArg Prod.fst sh_178) rfl (by decide) (c_passes (by decide) (by rw [e3]; exact g1) (by rw [e3, g4]; exact hB)) (by decide) (st' := []) rfl (Nat.le_of_ble_eq_true rfl) rfl dX7_hours_55 (fun v_2 ι3 hq_55 => ?_)
    obtain ⟨rfl, hι3⟩ := hq_55
    rw [e3, hι2] at hι3
    refine g_iinc (x := i) (y := i + 1) (ls' := [some (zR 178), some (zI n), some (zI (i + 1))]) dX7_hours_58 rfl (rfl) (by decide) rfl ?_
    refine g_goto (t := 44) dX7_hours_61 (by decide) ?_
    have hh := ih (by omega)
    rw [zit_s zhM h0, ← hι1] at hh
    have e5 : ι3 = zhM ι1 := by rw [hι3]; unfold zhM; rw [e1]
    rw [e5]
    exact hh

set_option maxRecDepth 100000 in
theorem c_mHours (hT : zTM (wb 0 ι)) (hu : 0 ≤ ι 178 1 ∧ ι 178 1 ≤ 24) {n : Int} (hn : zB n) : zCi l (zc D ad L z) mX7_hours 4 [zR 178, zI n] ι (fun v ι' => v = some (zI (if ¬ (0 < wb 0 ι 0) then -1000002 else if ¬ (1 ≤ n ∧ n ≤ 24) then -1000001 else if 9999 < wb 0 ι 4 + n then -1000003 else zaw (fun k => pasI (wb 0 ι) n (14 + k)) (wb 0 ι 0))) ∧ ι' = if 0 < wb 0 ι 0 ∧ (1 ≤ n ∧ n ≤ 24) ∧ ¬ 9999 < wb 0 ι 4 + n then zit zhM n ι else ι) := by
  refine zCt_of (by decide) (Nat.le_of_ble_eq_true rfl) 1 rfl ?_
  obtain ⟨hV, hNB, hH9⟩ := id hT
  obtain ⟨hV0, hV1, hV2, hV3, hV4, hV5, hVk, hVw⟩ := id hV
  have q0 := w0 ι (i := 0) (by decide) (by decide)
  have q1 := w0 ι (i := 1) (by decide) (by decide)
  have q2 := w0 ι (i := 2) (by decide) (by decide)
  have q4 := w0 ι (i := 4) (by decide) (by decide)
  refine g_aload_n (x := 178) rfl dX7_hours_0 ?_
  refine i_callVp mvX7_isTown tw_962 (ci := 7) (congrArg Prod.fst sh_178) rfl (by decide) (c_isTown (by omega)) (by decide) (st' := []) rfl (Nat.le_of_ble_eq_true rfl) rfl dX7_hours_1 ?_
  refine g_nm (fun b1 hq0 => ?_)
  have hb1 : ((0 < ι 179 0) ∧ b1 = 1) ∨ (¬ (0 < ι 179 0) ∧ b1 = 0) := zb_c hq0
  clear hq0
  refine g_if_ne ⟨by omega, by omega⟩ (t := 10) dX7_hours_4 (by decide) (fun h4 => ?_) (fun h4 => ?_)
  · refine g_iload_n (x := n) rfl dX7_hours_10 ?_
    refine g_i2l ⟨by omega, by omega⟩ dX7_hours_11 ?_
    refine g_lconst (x := 1) (by decide) dX7_hours_12 ?_
    refine g_ldc2 (x := 24) tw_967 (by decide) dX7_hours_13 ?_
    refine i_callSp msX7_in tw_876 (c_in ⟨by omega, by omega⟩ ⟨by omega, by omega⟩ ⟨by omega, by omega⟩) (by decide) (st' := []) rfl (Nat.le_of_ble_eq_true rfl) rfl dX7_hours_16 ?_
    refine g_nm (fun b16 hq0 => ?_)
    have hb16 : ((1 ≤ n ∧ n ≤ 24) ∧ b16 = 1) ∨ (¬ (1 ≤ n ∧ n ≤ 24) ∧ b16 = 0) := zb_c hq0
    clear hq0
    refine g_if_ne ⟨by omega, by omega⟩ (t := 25) dX7_hours_19 (by decide) (fun h19 => ?_) (fun h19 => ?_)
    · refine g_aload_n (x := 178) rfl dX7_hours_25 ?_
      refine g_get fgX7_7 zcl_7 (congrArg Prod.fst sh_178) (by decide) rg_178_0 dX7_hours_26 ?_
      refine g_iconst (x := 4) rfl dX7_hours_29 ?_
      refine g_iald sh_179 (by decide) (by omega) (by omega) (by decide) ag_179 dX7_hours_30 ?_
      refine g_iload_n (x := n) rfl dX7_hours_31 ?_
      refine g_iadd dX7_hours_32 ?_
      refine g_sipush (x := 9999) (by decide) dX7_hours_33 ?_
      refine g_icmp_le ⟨by omega, by omega⟩ (by decide) (t := 42) dX7_hours_36 (by decide) (fun h36 => ?_) (fun h36 => ?_)
      · refine g_iconst (x := 0) rfl dX7_hours_42 ?_
        refine g_istore_n (ls' := [some (zR 178), some (zI n), some (zI 0)]) dX7_hours_43 (by decide) rfl ?_
        rw [if_neg (by omega), if_neg (by omega), if_neg (by omega), if_pos (by omega)]
        have hh := lp_mHours (l := l) (D := D) (ad := ad) (L := L) (z := z) hT (by omega) hu (n := n) (by omega) (by omega) 0 (by omega) (by omega)
        rw [zit_0] at hh
        exact hh
      · refine g_ldc (x := -1000003) tw_907 (by decide) dX7_hours_39 ?_
        exact i_iret rfl dX7_hours_41 (⟨(by (repeat' split) <;> first | rfl | (exfalso; omega) | (congr 2; omega)), (by (repeat' split) <;> first | rfl | (exfalso; omega) | (congr 2; omega))⟩)
    · refine g_ldc (x := -1000001) tw_880 (by decide) dX7_hours_22 ?_
      exact i_iret rfl dX7_hours_24 (⟨(by (repeat' split) <;> first | rfl | (exfalso; omega) | (congr 2; omega)), (by (repeat' split) <;> first | rfl | (exfalso; omega) | (congr 2; omega))⟩)
  · refine g_ldc (x := -1000002) tw_966 (by decide) dX7_hours_7 ?_
    exact i_iret rfl dX7_hours_9 (⟨(by (repeat' split) <;> first | rfl | (exfalso; omega) | (congr 2; omega)), (by (repeat' split) <;> first | rfl | (exfalso; omega) | (congr 2; omega))⟩)

set_option maxRecDepth 100000 in
theorem c_mBeat (hT : zTM (wb 0 ι)) (hu : 0 ≤ ι 178 1 ∧ ι 178 1 ≤ 24) {b s : Int} (hb : zB b) (hs : zB s) : zCi l (zc D ad L z) mX7_beat 2 [zR 178, zI b, zI s] ι (fun v ι' => v = some (zI (if ¬ ((0 ≤ b ∧ b < wb 0 ι 1) ∧ (0 ≤ s ∧ s < wb 0 ι 0)) then -1000001 else if wb 0 ι (30 + b) = s then -1000002 else wb 0 ι (30 + b))) ∧ ι' = if ((0 ≤ b ∧ b < wb 0 ι 1) ∧ (0 ≤ s ∧ s < wb 0 ι 0)) ∧ ¬ wb 0 ι (30 + b) = s then wp 0 (ru (wb 0 ι) (30 + b) s) (zmd ι) else ι) := by
  refine zCt_of (by decide) (Nat.le_of_ble_eq_true rfl) 1 rfl ?_
  obtain ⟨hV, hNB, hH9⟩ := id hT
  obtain ⟨hV0, hV1, hV2, hV3, hV4, hV5, hVk, hVw⟩ := id hV
  have q0 := w0 ι (i := 0) (by decide) (by decide)
  have q1 := w0 ι (i := 1) (by decide) (by decide)
  have q2 := w0 ι (i := 2) (by decide) (by decide)
  have q4 := w0 ι (i := 4) (by decide) (by decide)
  refine g_iload_n (x := b) rfl dX7_beat_0 ?_
  refine g_i2l ⟨by omega, by omega⟩ dX7_beat_1 ?_
  refine g_lconst (x := 0) (by decide) dX7_beat_2 ?_
  refine g_aload_n (x := 178) rfl dX7_beat_3 ?_
  refine g_get fgX7_7 zcl_7 (congrArg Prod.fst sh_178) (by decide) rg_178_0 dX7_beat_4 ?_
  refine g_iconst (x := 1) rfl dX7_beat_7 ?_
  refine g_iald sh_179 (by decide) (by omega) (by omega) (by decide) ag_179 dX7_beat_8 ?_
  refine g_iconst (x := 1) rfl dX7_beat_9 ?_
  refine g_isub dX7_beat_10 ?_
  refine g_i2l ⟨by omega, by omega⟩ dX7_beat_11 ?_
  refine i_callSp msX7_in tw_876 (c_in ⟨by omega, by omega⟩ ⟨by omega, by omega⟩ ⟨by omega, by omega⟩) (by decide) (st' := []) rfl (Nat.le_of_ble_eq_true rfl) rfl dX7_beat_12 ?_
  refine g_nm (fun b12 hq0 => ?_)
  have hb12 : ((0 ≤ b ∧ b ≤ ι 179 1 - 1) ∧ b12 = 1) ∨ (¬ (0 ≤ b ∧ b ≤ ι 179 1 - 1) ∧ b12 = 0) := zb_c hq0
  clear hq0
  refine g_if_eq ⟨by omega, by omega⟩ (t := 26) dX7_beat_15 (by decide) (fun h15 => ?_) (fun h15 => ?_)
  · refine g_ldc (x := -1000001) tw_880 (by decide) dX7_beat_26 ?_
    exact i_iret rfl dX7_beat_28 (⟨(by (repeat' split) <;> first | rfl | (exfalso; omega) | (congr 2; omega)), (by (repeat' split) <;> first | rfl | (exfalso; omega) | (congr 2; omega))⟩)
  · refine g_aload_n (x := 178) rfl dX7_beat_18 ?_
    refine g_iload_n (x := s) rfl dX7_beat_19 ?_
    refine i_callVp mvX7_isStreet tw_1002 (ci := 7) (congrArg Prod.fst sh_178) rfl (by decide) (c_isStreet ⟨by omega, by omega⟩ (by omega)) (by decide) (st' := []) rfl (Nat.le_of_ble_eq_true rfl) rfl dX7_beat_20 ?_
    refine g_nm (fun b20 hq0 => ?_)
    have hb20 : ((0 ≤ s ∧ s ≤ ι 179 0 - 1) ∧ b20 = 1) ∨ (¬ (0 ≤ s ∧ s ≤ ι 179 0 - 1) ∧ b20 = 0) := zb_c hq0
    clear hq0
    refine g_if_ne ⟨by omega, by omega⟩ (t := 29) dX7_beat_23 (by decide) (fun h23 => ?_) (fun h23 => ?_)
    · refine g_aload_n (x := 178) rfl dX7_beat_29 ?_
      refine g_get fgX7_7 zcl_7 (congrArg Prod.fst sh_178) (by decide) rg_178_0 dX7_beat_30 ?_
      refine g_bipush (x := 30) (by decide) dX7_beat_33 ?_
      refine g_iload_n (x := b) rfl dX7_beat_35 ?_
      refine g_iadd dX7_beat_36 ?_
      refine g_iald sh_179 (by decide) (by omega) (by omega) (by decide) ag_179 dX7_beat_37 ?_
      have qb := w0 ι (i := 30 + b) (by omega) (by omega)
      rw [← qb]
      have hwb := hVw b (by omega) (by omega)
      refine g_istore_n (ls' := [some (zR 178), some (zI b), some (zI s), some (zI (wb 0 ι (30 + b)))]) dX7_beat_38 (by decide) rfl ?_
      refine g_iload_n (x := (wb 0 ι (30 + b))) rfl dX7_beat_39 ?_
      refine g_iload_n (x := s) rfl dX7_beat_40 ?_
      refine g_icmp_ne ⟨by omega, by omega⟩ ⟨by omega, by omega⟩ (t := 47) dX7_beat_41 (by decide) (fun h41 => ?_) (fun h41 => ?_)
      · refine g_aload_n (x := 178) rfl dX7_beat_47 ?_
        refine i_callV mvX7_minds tw_968 (ci := 7) (congrArg Prod.fst sh_178) rfl (by decide) (c_minds hu) (by decide) (st' := []) rfl (Nat.le_of_ble_eq_true rfl) rfl dX7_beat_48 (fun v_1 ιm hq_48 => ?_)
        obtain ⟨rfl, hιm⟩ := hq_48
        refine g_aload_n (x := 178) rfl dX7_beat_51 ?_
        refine g_get fgX7_7 zcl_7 (congrArg Prod.fst sh_178) (by decide) rg_178_0 dX7_beat_52 ?_
        refine g_bipush (x := 30) (by decide) dX7_beat_55 ?_
        refine g_iload_n (x := b) rfl dX7_beat_57 ?_
        refine g_iadd dX7_beat_58 ?_
        refine g_iload_n (x := s) rfl dX7_beat_59 ?_
        obtain ⟨ι2, hι2⟩ : ∃ y, y = iup ιm 179 (30 + b) s := ⟨_, rfl⟩
        refine i_iast sh_179 (by decide) (by decide) (by omega) (by omega) (by decide) (ι1 := ι2) (by rw [hι2]; exact au_179) dX7_beat_60 ?_
        refine g_iload_n (x := (wb 0 ι (30 + b))) rfl dX7_beat_61 ?_
        exact i_iret rfl dX7_beat_62 (⟨(by (repeat' split) <;> first | rfl | (exfalso; omega) | (congr 2; omega)), by rw [if_pos (by omega), hι2, hιm, ← wp_up 0 (wb 0 ι) (zmd ι) (x := 30 + b) (by omega) (by omega) (by omega), ← zmd_w hu (r := 0) (by decide), wp_wb]⟩)
      · refine g_ldc (x := -1000002) tw_966 (by decide) dX7_beat_44 ?_
        exact i_iret rfl dX7_beat_46 (⟨(by (repeat' split) <;> first | rfl | (exfalso; omega) | (congr 2; omega)), (by (repeat' split) <;> first | rfl | (exfalso; omega) | (congr 2; omega))⟩)
    · refine g_ldc (x := -1000001) tw_880 (by decide) dX7_beat_26 ?_
      exact i_iret rfl dX7_beat_28 (⟨(by (repeat' split) <;> first | rfl | (exfalso; omega) | (congr 2; omega)), (by (repeat' split) <;> first | rfl | (exfalso; omega) | (congr 2; omega))⟩)

set_option maxRecDepth 100000 in
theorem c_mReach (hT : zTM (wb 0 ι)) (hu : 0 ≤ ι 178 1 ∧ ι 178 1 ≤ 24) {n : Int} (hn : zB n) : zCi l (zc D ad L z) mX7_reach 2 [zR 178, zI n] ι (fun v ι' => v = some (zI (if ¬ (0 < wb 0 ι 0) then -1000002 else if ¬ (0 ≤ n ∧ n ≤ 3) then -1000001 else wb 0 ι 2)) ∧ ι' = if 0 < wb 0 ι 0 ∧ (0 ≤ n ∧ n ≤ 3) then wp 0 (ru (wb 0 ι) 2 n) (zmd ι) else ι) := by
  refine zCt_of (by decide) (Nat.le_of_ble_eq_true rfl) 1 rfl ?_
  obtain ⟨hV, hNB, hH9⟩ := id hT
  obtain ⟨hV0, hV1, hV2, hV3, hV4, hV5, hVk, hVw⟩ := id hV
  have q0 := w0 ι (i := 0) (by decide) (by decide)
  have q1 := w0 ι (i := 1) (by decide) (by decide)
  have q2 := w0 ι (i := 2) (by decide) (by decide)
  have q4 := w0 ι (i := 4) (by decide) (by decide)
  refine g_aload_n (x := 178) rfl dX7_reach_0 ?_
  refine i_callVp mvX7_isTown tw_962 (ci := 7) (congrArg Prod.fst sh_178) rfl (by decide) (c_isTown (by omega)) (by decide) (st' := []) rfl (Nat.le_of_ble_eq_true rfl) rfl dX7_reach_1 ?_
  refine g_nm (fun b1 hq0 => ?_)
  have hb1 : ((0 < ι 179 0) ∧ b1 = 1) ∨ (¬ (0 < ι 179 0) ∧ b1 = 0) := zb_c hq0
  clear hq0
  refine g_if_ne ⟨by omega, by omega⟩ (t := 10) dX7_reach_4 (by decide) (fun h4 => ?_) (fun h4 => ?_)
  · refine g_iload_n (x := n) rfl dX7_reach_10 ?_
    refine g_i2l ⟨by omega, by omega⟩ dX7_reach_11 ?_
    refine g_lconst (x := 0) (by decide) dX7_reach_12 ?_
    refine g_ldc2 (x := 3) tw_1010 (by decide) dX7_reach_13 ?_
    refine i_callSp msX7_in tw_876 (c_in ⟨by omega, by omega⟩ ⟨by omega, by omega⟩ ⟨by omega, by omega⟩) (by decide) (st' := []) rfl (Nat.le_of_ble_eq_true rfl) rfl dX7_reach_16 ?_
    refine g_nm (fun b16 hq0 => ?_)
    have hb16 : ((0 ≤ n ∧ n ≤ 3) ∧ b16 = 1) ∨ (¬ (0 ≤ n ∧ n ≤ 3) ∧ b16 = 0) := zb_c hq0
    clear hq0
    refine g_if_ne ⟨by omega, by omega⟩ (t := 25) dX7_reach_19 (by decide) (fun h19 => ?_) (fun h19 => ?_)
    · refine g_aload_n (x := 178) rfl dX7_reach_25 ?_
      refine i_callV mvX7_minds tw_968 (ci := 7) (congrArg Prod.fst sh_178) rfl (by decide) (c_minds hu) (by decide) (st' := []) rfl (Nat.le_of_ble_eq_true rfl) rfl dX7_reach_26 (fun v_1 ιm hq_26 => ?_)
      obtain ⟨rfl, hιm⟩ := hq_26
      refine g_aload_n (x := 178) rfl dX7_reach_29 ?_
      refine g_get fgX7_7 zcl_7 (congrArg Prod.fst sh_178) (by decide) rg_178_0 dX7_reach_30 ?_
      refine g_iconst (x := 2) rfl dX7_reach_33 ?_
      refine g_iald sh_179 (by decide) (by omega) (by omega) (by decide) ag_179 dX7_reach_34 ?_
      have qm : ιm 179 2 = wb 0 ι 2 := by rw [hιm, zmd_o hu (by omega), q2]
      rw [qm]
      refine g_istore_n (ls' := [some (zR 178), some (zI n), some (zI (wb 0 ι 2))]) dX7_reach_35 (by decide) rfl ?_
      refine g_aload_n (x := 178) rfl dX7_reach_36 ?_
      refine g_get fgX7_7 zcl_7 (congrArg Prod.fst sh_178) (by decide) rg_178_0 dX7_reach_37 ?_
      refine g_iconst (x := 2) rfl dX7_reach_40 ?_
      refine g_iload_n (x := n) rfl dX7_reach_41 ?_
      obtain ⟨ι2, hι2⟩ : ∃ y, y = iup ιm 179 2 n := ⟨_, rfl⟩
      refine i_iast sh_179 (by decide) (by decide) (by omega) (by omega) (by decide) (ι1 := ι2) (by rw [hι2]; exact au_179) dX7_reach_42 ?_
      refine g_iload_n (x := (wb 0 ι 2)) rfl dX7_reach_43 ?_
      exact i_iret rfl dX7_reach_44 (⟨(by (repeat' split) <;> first | rfl | (exfalso; omega) | (congr 2; omega)), by rw [if_pos (by omega), hι2, hιm, ← wp_up 0 (wb 0 ι) (zmd ι) (x := 2) (by omega) (by omega) (by omega), ← zmd_w hu (r := 0) (by decide), wp_wb]⟩)
    · refine g_ldc (x := -1000001) tw_880 (by decide) dX7_reach_22 ?_
      exact i_iret rfl dX7_reach_24 (⟨(by (repeat' split) <;> first | rfl | (exfalso; omega) | (congr 2; omega)), (by (repeat' split) <;> first | rfl | (exfalso; omega) | (congr 2; omega))⟩)
  · refine g_ldc (x := -1000002) tw_966 (by decide) dX7_reach_7 ?_
    exact i_iret rfl dX7_reach_9 (⟨(by (repeat' split) <;> first | rfl | (exfalso; omega) | (congr 2; omega)), (by (repeat' split) <;> first | rfl | (exfalso; omega) | (congr 2; omega))⟩)

set_option maxRecDepth 100000 in
theorem c_mLull (hT : zTM (wb 0 ι)) (hu : 0 ≤ ι 178 1 ∧ ι 178 1 ≤ 24) {s n : Int} (hs : zB s) (hn : zB n) : zCi l (zc D ad L z) mX7_lull 2 [zR 178, zI s, zI n] ι (fun v ι' => v = some (zI (if ¬ ((0 ≤ s ∧ s < wb 0 ι 0) ∧ (1 ≤ n ∧ n ≤ 20)) then -1000001 else zmin (wb 0 ι (14 + s) + n) 20)) ∧ ι' = if (0 ≤ s ∧ s < wb 0 ι 0) ∧ (1 ≤ n ∧ n ≤ 20) then wp 0 (ru (wb 0 ι) (14 + s) (zmin (wb 0 ι (14 + s) + n) 20)) (zmd ι) else ι) := by
  refine zCt_of (by decide) (Nat.le_of_ble_eq_true rfl) 0 rfl ?_
  obtain ⟨hV, hNB, hH9⟩ := id hT
  obtain ⟨hV0, hV1, hV2, hV3, hV4, hV5, hVk, hVw⟩ := id hV
  have q0 := w0 ι (i := 0) (by decide) (by decide)
  have q1 := w0 ι (i := 1) (by decide) (by decide)
  have q2 := w0 ι (i := 2) (by decide) (by decide)
  have q4 := w0 ι (i := 4) (by decide) (by decide)
  refine g_aload_n (x := 178) rfl dX7_lull_0 ?_
  refine g_iload_n (x := s) rfl dX7_lull_1 ?_
  refine i_callVp mvX7_isStreet tw_1002 (ci := 7) (congrArg Prod.fst sh_178) rfl (by decide) (c_isStreet ⟨by omega, by omega⟩ (by omega)) (by decide) (st' := []) rfl (Nat.le_of_ble_eq_true rfl) rfl dX7_lull_2 ?_
  refine g_nm (fun b2 hq0 => ?_)
  have hb2 : ((0 ≤ s ∧ s ≤ ι 179 0 - 1) ∧ b2 = 1) ∨ (¬ (0 ≤ s ∧ s ≤ ι 179 0 - 1) ∧ b2 = 0) := zb_c hq0
  clear hq0
  refine g_if_eq ⟨by omega, by omega⟩ (t := 20) dX7_lull_5 (by decide) (fun h5 => ?_) (fun h5 => ?_)
  · refine g_ldc (x := -1000001) tw_880 (by decide) dX7_lull_20 ?_
    exact i_iret rfl dX7_lull_22 (⟨(by (repeat' split) <;> first | rfl | (exfalso; omega) | (congr 2; omega)), (by (repeat' split) <;> first | rfl | (exfalso; omega) | (congr 2; omega))⟩)
  · refine g_iload_n (x := n) rfl dX7_lull_8 ?_
    refine g_i2l ⟨by omega, by omega⟩ dX7_lull_9 ?_
    refine g_lconst (x := 1) (by decide) dX7_lull_10 ?_
    refine g_ldc2 (x := 20) tw_1015 (by decide) dX7_lull_11 ?_
    refine i_callSp msX7_in tw_876 (c_in ⟨by omega, by omega⟩ ⟨by omega, by omega⟩ ⟨by omega, by omega⟩) (by decide) (st' := []) rfl (Nat.le_of_ble_eq_true rfl) rfl dX7_lull_14 ?_
    refine g_nm (fun b14 hq0 => ?_)
    have hb14 : ((1 ≤ n ∧ n ≤ 20) ∧ b14 = 1) ∨ (¬ (1 ≤ n ∧ n ≤ 20) ∧ b14 = 0) := zb_c hq0
    clear hq0
    refine g_if_ne ⟨by omega, by omega⟩ (t := 23) dX7_lull_17 (by decide) (fun h17 => ?_) (fun h17 => ?_)
    · refine g_aload_n (x := 178) rfl dX7_lull_23 ?_
      refine i_callV mvX7_minds tw_968 (ci := 7) (congrArg Prod.fst sh_178) rfl (by decide) (c_minds hu) (by decide) (st' := []) rfl (Nat.le_of_ble_eq_true rfl) rfl dX7_lull_24 (fun v_1 ιm hq_24 => ?_)
      obtain ⟨rfl, hιm⟩ := hq_24
      refine g_aload_n (x := 178) rfl dX7_lull_27 ?_
      refine g_get fgX7_7 zcl_7 (congrArg Prod.fst sh_178) (by decide) rg_178_0 dX7_lull_28 ?_
      refine g_bipush (x := 14) (by decide) dX7_lull_31 ?_
      refine g_iload_n (x := s) rfl dX7_lull_33 ?_
      refine g_iadd dX7_lull_34 ?_
      refine g_aload_n (x := 178) rfl dX7_lull_35 ?_
      refine g_get fgX7_7 zcl_7 (congrArg Prod.fst sh_178) (by decide) rg_178_0 dX7_lull_36 ?_
      refine g_bipush (x := 14) (by decide) dX7_lull_39 ?_
      refine g_iload_n (x := s) rfl dX7_lull_41 ?_
      refine g_iadd dX7_lull_42 ?_
      refine g_iald sh_179 (by decide) (by omega) (by omega) (by decide) ag_179 dX7_lull_43 ?_
      refine g_iload_n (x := n) rfl dX7_lull_44 ?_
      refine g_iadd dX7_lull_45 ?_
      have hk3 := hVk s (by omega) (by omega)
      have qd : ιm 179 (14 + s) = wb 0 ι (14 + s) := by rw [hιm, zmd_o hu (by omega), w0 ι (by omega) (by omega)]
      rw [qd]
      refine i_callSp msX7_bounded tw_990 (c_bounded ⟨by omega, by omega⟩) (by decide) (st' := [zI (14 + s), zR 179]) rfl (Nat.le_of_ble_eq_true rfl) rfl dX7_lull_46 ?_
      have ez : zmax 0 (zmin (wb 0 ι (14 + s) + n) 20) = zmin (wb 0 ι (14 + s) + n) 20 := by unfold zmax zmin; (repeat' split) <;> omega
      rw [ez]
      obtain ⟨ι2, hι2⟩ : ∃ y, y = iup ιm 179 (14 + s) (zmin (wb 0 ι (14 + s) + n) 20) := ⟨_, rfl⟩
      refine i_iast sh_179 (by decide) (by decide) (by omega) (by omega) (by decide) (ι1 := ι2) (by rw [hι2]; exact au_179) dX7_lull_49 ?_
      refine g_aload_n (x := 178) rfl dX7_lull_50 ?_
      refine g_get fgX7_7 zcl_7 (congrArg Prod.fst sh_178) (by decide) rg_178_0 dX7_lull_51 ?_
      refine g_bipush (x := 14) (by decide) dX7_lull_54 ?_
      refine g_iload_n (x := s) rfl dX7_lull_56 ?_
      refine g_iadd dX7_lull_57 ?_
      refine g_iald sh_179 (by decide) (by omega) (by omega) (by decide) ag_179 dX7_lull_58 ?_
      exact i_iret rfl dX7_lull_59 (⟨by rw [if_neg (by omega), hι2, iup_s], by rw [if_pos (by omega), hι2, hιm, ← wp_up 0 (wb 0 ι) (zmd ι) (x := 14 + s) (by omega) (by omega) (by omega), ← zmd_w hu (r := 0) (by decide), wp_wb]⟩)
    · refine g_ldc (x := -1000001) tw_880 (by decide) dX7_lull_20 ?_
      exact i_iret rfl dX7_lull_22 (⟨(by (repeat' split) <;> first | rfl | (exfalso; omega) | (congr 2; omega)), (by (repeat' split) <;> first | rfl | (exfalso; omega) | (congr 2; omega))⟩)

set_option maxRecDepth 100000 in
theorem c_mBring (hT : zTM (wb 0 ι)) (hu : 0 ≤ ι 178 1 ∧ ι 178 1 ≤ 24) {s n : Int} (hs : zB s) (hn : zB n) : zCi l (zc D ad L z) mX7_bring 2 [zR 178, zI s, zI n] ι (fun v ι' => v = some (zI (if ¬ ((0 ≤ s ∧ s < wb 0 ι 0) ∧ (1 ≤ n ∧ n ≤ 60)) then -1000001 else zmin (wb 0 ι (22 + s) + n) 60)) ∧ ι' = if (0 ≤ s ∧ s < wb 0 ι 0) ∧ (1 ≤ n ∧ n ≤ 60) then wp 0 (ru (wb 0 ι) (22 + s) (zmin (wb 0 ι (22 + s) + n) 60)) (zmd ι) else ι) := by
  refine zCt_of (by decide) (Nat.le_of_ble_eq_true rfl) 0 rfl ?_
  obtain ⟨hV, hNB, hH9⟩ := id hT
  obtain ⟨hV0, hV1, hV2, hV3, hV4, hV5, hVk, hVw⟩ := id hV
  have q0 := w0 ι (i := 0) (by decide) (by decide)
  have q1 := w0 ι (i := 1) (by decide) (by decide)
  have q2 := w0 ι (i := 2) (by decide) (by decide)
  have q4 := w0 ι (i := 4) (by decide) (by decide)
  refine g_aload_n (x := 178) rfl dX7_bring_0 ?_
  refine g_iload_n (x := s) rfl dX7_bring_1 ?_
  refine i_callVp mvX7_isStreet tw_1002 (ci := 7) (congrArg Prod.fst sh_178) rfl (by decide) (c_isStreet ⟨by omega, by omega⟩ (by omega)) (by decide) (st' := []) rfl (Nat.le_of_ble_eq_true rfl) rfl dX7_bring_2 ?_
  refine g_nm (fun b2 hq0 => ?_)
  have hb2 : ((0 ≤ s ∧ s ≤ ι 179 0 - 1) ∧ b2 = 1) ∨ (¬ (0 ≤ s ∧ s ≤ ι 179 0 - 1) ∧ b2 = 0) := zb_c hq0
  clear hq0
  refine g_if_eq ⟨by omega, by omega⟩ (t := 20) dX7_bring_5 (by decide) (fun h5 => ?_) (fun h5 => ?_)
  · refine g_ldc (x := -1000001) tw_880 (by decide) dX7_bring_20 ?_
    exact i_iret rfl dX7_bring_22 (⟨(by (repeat' split) <;> first | rfl | (exfalso; omega) | (congr 2; omega)), (by (repeat' split) <;> first | rfl | (exfalso; omega) | (congr 2; omega))⟩)
  · refine g_iload_n (x := n) rfl dX7_bring_8 ?_
    refine g_i2l ⟨by omega, by omega⟩ dX7_bring_9 ?_
    refine g_lconst (x := 1) (by decide) dX7_bring_10 ?_
    refine g_ldc2 (x := 60) tw_1020 (by decide) dX7_bring_11 ?_
    refine i_callSp msX7_in tw_876 (c_in ⟨by omega, by omega⟩ ⟨by omega, by omega⟩ ⟨by omega, by omega⟩) (by decide) (st' := []) rfl (Nat.le_of_ble_eq_true rfl) rfl dX7_bring_14 ?_
    refine g_nm (fun b14 hq0 => ?_)
    have hb14 : ((1 ≤ n ∧ n ≤ 60) ∧ b14 = 1) ∨ (¬ (1 ≤ n ∧ n ≤ 60) ∧ b14 = 0) := zb_c hq0
    clear hq0
    refine g_if_ne ⟨by omega, by omega⟩ (t := 23) dX7_bring_17 (by decide) (fun h17 => ?_) (fun h17 => ?_)
    · refine g_aload_n (x := 178) rfl dX7_bring_23 ?_
      refine i_callV mvX7_minds tw_968 (ci := 7) (congrArg Prod.fst sh_178) rfl (by decide) (c_minds hu) (by decide) (st' := []) rfl (Nat.le_of_ble_eq_true rfl) rfl dX7_bring_24 (fun v_1 ιm hq_24 => ?_)
      obtain ⟨rfl, hιm⟩ := hq_24
      refine g_aload_n (x := 178) rfl dX7_bring_27 ?_
      refine g_get fgX7_7 zcl_7 (congrArg Prod.fst sh_178) (by decide) rg_178_0 dX7_bring_28 ?_
      refine g_bipush (x := 22) (by decide) dX7_bring_31 ?_
      refine g_iload_n (x := s) rfl dX7_bring_33 ?_
      refine g_iadd dX7_bring_34 ?_
      refine g_aload_n (x := 178) rfl dX7_bring_35 ?_
      refine g_get fgX7_7 zcl_7 (congrArg Prod.fst sh_178) (by decide) rg_178_0 dX7_bring_36 ?_
      refine g_bipush (x := 22) (by decide) dX7_bring_39 ?_
      refine g_iload_n (x := s) rfl dX7_bring_41 ?_
      refine g_iadd dX7_bring_42 ?_
      refine g_iald sh_179 (by decide) (by omega) (by omega) (by decide) ag_179 dX7_bring_43 ?_
      refine g_iload_n (x := n) rfl dX7_bring_44 ?_
      refine g_iadd dX7_bring_45 ?_
      refine g_bipush (x := 60) (by decide) dX7_bring_46 ?_
      have hk3 := hVk s (by omega) (by omega)
      have qd : ιm 179 (22 + s) = wb 0 ι (22 + s) := by rw [hιm, zmd_o hu (by omega), w0 ι (by omega) (by omega)]
      rw [qd]
      refine g_icmp_le ⟨by omega, by omega⟩ (by decide) (t := 56) dX7_bring_48 (by decide) (fun h48 => ?_) (fun h48 => ?_)
      · refine g_aload_n (x := 178) rfl dX7_bring_56 ?_
        refine g_get fgX7_7 zcl_7 (congrArg Prod.fst sh_178) (by decide) rg_178_0 dX7_bring_57 ?_
        refine g_bipush (x := 22) (by decide) dX7_bring_60 ?_
        refine g_iload_n (x := s) rfl dX7_bring_62 ?_
        refine g_iadd dX7_bring_63 ?_
        refine g_iald sh_179 (by decide) (by omega) (by omega) (by decide) ag_179 dX7_bring_64 ?_
        refine g_iload_n (x := n) rfl dX7_bring_65 ?_
        refine g_iadd dX7_bring_66 ?_
        refine g_nm (fun x9 hx9 => ?_)
        have ez : x9 = zmin (wb 0 ι (22 + s) + n) 60 := by rw [hx9]; rw [qd]; unfold zmin; (repeat' split) <;> omega
        obtain ⟨ι2, hι2⟩ : ∃ y, y = iup ιm 179 (22 + s) x9 := ⟨_, rfl⟩
        refine i_iast sh_179 (by decide) (by decide) (by omega) (by omega) (by decide) (ι1 := ι2) (by rw [hι2]; exact au_179) dX7_bring_67 ?_
        refine g_aload_n (x := 178) rfl dX7_bring_68 ?_
        refine g_get fgX7_7 zcl_7 (congrArg Prod.fst sh_178) (by decide) rg_178_0 dX7_bring_69 ?_
        refine g_bipush (x := 22) (by decide) dX7_bring_72 ?_
        refine g_iload_n (x := s) rfl dX7_bring_74 ?_
        refine g_iadd dX7_bring_75 ?_
        refine g_iald sh_179 (by decide) (by omega) (by omega) (by decide) ag_179 dX7_bring_76 ?_
        exact i_iret rfl dX7_bring_77 (⟨by rw [if_neg (by omega), hι2, iup_s, ez], by rw [if_pos (by omega), hι2, hιm, ez, ← wp_up 0 (wb 0 ι) (zmd ι) (x := 22 + s) (by omega) (by omega) (by omega), ← zmd_w hu (r := 0) (by decide), wp_wb]⟩)
      · refine g_bipush (x := 60) (by decide) dX7_bring_51 ?_
        refine g_goto (t := 67) dX7_bring_53 (by decide) ?_
        refine g_nm (fun x9 hx9 => ?_)
        have ez : x9 = zmin (wb 0 ι (22 + s) + n) 60 := by rw [hx9]; unfold zmin; (repeat' split) <;> omega
        obtain ⟨ι2, hι2⟩ : ∃ y, y = iup ιm 179 (22 + s) x9 := ⟨_, rfl⟩
        refine i_iast sh_179 (by decide) (by decide) (by omega) (by omega) (by decide) (ι1 := ι2) (by rw [hι2]; exact au_179) dX7_bring_67 ?_
        refine g_aload_n (x := 178) rfl dX7_bring_68 ?_
        refine g_get fgX7_7 zcl_7 (congrArg Prod.fst sh_178) (by decide) rg_178_0 dX7_bring_69 ?_
        refine g_bipush (x := 22) (by decide) dX7_bring_72 ?_
        refine g_iload_n (x := s) rfl dX7_bring_74 ?_
        refine g_iadd dX7_bring_75 ?_
        refine g_iald sh_179 (by decide) (by omega) (by omega) (by decide) ag_179 dX7_bring_76 ?_
        exact i_iret rfl dX7_bring_77 (⟨by rw [if_neg (by omega), hι2, iup_s, ez], by rw [if_pos (by omega), hι2, hιm, ez, ← wp_up 0 (wb 0 ι) (zmd ι) (x := 22 + s) (by omega) (by omega) (by omega), ← zmd_w hu (r := 0) (by decide), wp_wb]⟩)
    · refine g_ldc (x := -1000001) tw_880 (by decide) dX7_bring_20 ?_
      exact i_iret rfl dX7_bring_22 (⟨(by (repeat' split) <;> first | rfl | (exfalso; omega) | (congr 2; omega)), (by (repeat' split) <;> first | rfl | (exfalso; omega) | (congr 2; omega))⟩)

set_option maxRecDepth 100000 in
theorem c_mUndo (hu : 0 ≤ ι 178 1 ∧ ι 178 1 ≤ 24) : zCi l (zc D ad L z) mX7_undo 1 [zR 178] ι (fun v ι' => v = some (zI (if ι 178 1 = 0 then -1000002 else ι 178 1 - 1)) ∧ ι' = if ι 178 1 = 0 then ι else wp 0 (wb (190 + 38 * (ι 178 1 - 1)) ι) (iup ι 178 1 (ι 178 1 - 1))) := by
  refine zCt_of (by decide) (Nat.le_of_ble_eq_true rfl) 0 rfl ?_
  refine g_aload_n (x := 178) rfl dX7_undo_0 ?_
  refine g_get fgX7_121 zcl_7 (congrArg Prod.fst sh_178) (by decide) ig_178_1 dX7_undo_1 ?_
  refine g_if_ne ⟨by omega, by omega⟩ (t := 10) dX7_undo_4 (by decide) (fun h4 => ?_) (fun h4 => ?_)
  · refine g_aload_n (x := 178) rfl dX7_undo_10 ?_
    refine g_dupR dX7_undo_11 ?_
    refine g_get fgX7_121 zcl_7 (congrArg Prod.fst sh_178) (by decide) ig_178_1 dX7_undo_12 ?_
    refine g_iconst (x := 1) rfl dX7_undo_15 ?_
    refine g_isub dX7_undo_16 ?_
    obtain ⟨ι1, hι1⟩ : ∃ y, y = iup ι 178 1 ((ι 178 1) - 1) := ⟨_, rfl⟩
    refine i_put fwX7_121 zcl_7 (congrArg Prod.fst sh_178) (by decide) (by decide) (ι1 := ι1) (by rw [hι1]; exact iu_178_1) dX7_undo_17 ?_
    refine g_aload_n (x := 178) rfl dX7_undo_20 ?_
    refine g_sipush (x := 190) (by decide) dX7_undo_21 ?_
    refine g_bipush (x := 38) (by decide) dX7_undo_24 ?_
    refine g_aload_n (x := 178) rfl dX7_undo_26 ?_
    refine g_get fgX7_121 zcl_7 (congrArg Prod.fst sh_178) (by decide) ig_178_1 dX7_undo_27 ?_
    have e1 : ι1 178 1 = ι 178 1 - 1 := by rw [hι1, iup_s]
    rw [e1]
    refine g_imul dX7_undo_30 ?_
    refine g_iadd dX7_undo_31 ?_
    refine g_iconst (x := 0) rfl dX7_undo_32 ?_
    refine i_callV mvX7_copyOf tw_950 (ci := 7) (congrArg Prod.fst sh_178) rfl (by decide) (c_copyOf (by omega) (by decide) (by omega)) (by decide) (st' := []) rfl (Nat.le_of_ble_eq_true rfl) rfl dX7_undo_33 (fun v_1 ι2 hq_33 => ?_)
    obtain ⟨rfl, hι2⟩ := hq_33
    have e2 : ι2 178 1 = ι 178 1 - 1 := by rw [hι2, wp_o _ _ _ (Or.inl (by decide)), e1]
    refine g_aload_n (x := 178) rfl dX7_undo_36 ?_
    refine g_get fgX7_121 zcl_7 (congrArg Prod.fst sh_178) (by decide) ig_178_1 dX7_undo_37 ?_
    exact i_iret rfl dX7_undo_40 (⟨by rw [if_neg h4, e2], by rw [if_neg h4, hι2, hι1, wb_up (Or.inl (by decide))]⟩)
  · refine g_ldc (x := -1000002) tw_966 (by decide) dX7_undo_7 ?_
    exact i_iret rfl dX7_undo_9 (⟨(by (repeat' split) <;> first | rfl | (exfalso; omega) | (congr 2; omega)), (by (repeat' split) <;> first | rfl | (exfalso; omega) | (congr 2; omega))⟩)

set_option maxRecDepth 100000 in
theorem c_mStreet (hT : zTM (wb 0 ι)) {s w : Int} (hs : zB s) (hw : zB w) : zCi l (zc D ad L z) mX7_street 3 [zR 178, zI s, zI w] ι (zP (zI (if ¬ (0 ≤ s ∧ s < wb 0 ι 0) then -1000001 else if w = 0 then wb 0 ι (14 + s) else if w = 1 then wb 0 ι (22 + s) else if w = 2 then zhr (wb 0 ι) s else if w = 3 then zdeep (wb 0 ι (6 + s)) (wb 0 ι (14 + s)) (zhr (wb 0 ι) s) (wb 0 ι 4) else if w = 4 then zstR (wb 0 ι) s else -1000001)) ι) := by
  refine zCt_of (by decide) (Nat.le_of_ble_eq_true rfl) 0 rfl ?_
  obtain ⟨hV, hNB, hH9⟩ := id hT
  obtain ⟨hV0, hV1, hV2, hV3, hV4, hV5, hVk, hVw⟩ := id hV
  have q0 := w0 ι (i := 0) (by decide) (by decide)
  have q1 := w0 ι (i := 1) (by decide) (by decide)
  have q2 := w0 ι (i := 2) (by decide) (by decide)
  have q4 := w0 ι (i := 4) (by decide) (by decide)
  refine g_aload_n (x := 178) rfl dX7_street_0 ?_
  refine g_iload_n (x := s) rfl dX7_street_1 ?_
  refine i_callVp mvX7_isStreet tw_1002 (ci := 7) (congrArg Prod.fst sh_178) rfl (by decide) (c_isStreet ⟨by omega, by omega⟩ (by omega)) (by decide) (st' := []) rfl (Nat.le_of_ble_eq_true rfl) rfl dX7_street_2 ?_
  refine g_nm (fun b2 hq0 => ?_)
  have hb2 : ((0 ≤ s ∧ s ≤ ι 179 0 - 1) ∧ b2 = 1) ∨ (¬ (0 ≤ s ∧ s ≤ ι 179 0 - 1) ∧ b2 = 0) := zb_c hq0
  clear hq0
  refine g_if_ne ⟨by omega, by omega⟩ (t := 11) dX7_street_5 (by decide) (fun h5 => ?_) (fun h5 => ?_)
  · have hk3 := hVk s (by omega) (by omega)
    have qk := w0 ι (i := 6 + s) (by omega) (by omega)
    have qd := w0 ι (i := 14 + s) (by omega) (by omega)
    have ql := w0 ι (i := 22 + s) (by omega) (by omega)
    refine g_iload_n (x := w) rfl dX7_street_11 ?_
    by_cases hsw : w < 0 ∨ 4 < w
    · refine g_tswOut ⟨by omega, by omega⟩ dX7_street_12 hsw (t := 124) (by decide) ?_
      refine g_ldc (x := -1000001) tw_880 (by decide) dX7_street_124 ?_
      exact i_iret rfl dX7_street_126 (⟨by rw [if_neg (by omega), if_neg (by omega), if_neg (by omega), if_neg (by omega), if_neg (by omega), if_neg (by omega)], rfl⟩)
    · rcases (show w = 0 ∨ w = 1 ∨ w = 2 ∨ w = 3 ∨ w = 4 by omega) with hsv | hsv | hsv | hsv | hsv
      · refine g_tswIn ⟨by omega, by omega⟩ dX7_street_12 (by omega) (by omega) (off := 36) (by rw [hsv]; rfl) (t := 48) (by decide) ?_
        refine g_aload_n (x := 178) rfl dX7_street_48 ?_
        refine g_get fgX7_7 zcl_7 (congrArg Prod.fst sh_178) (by decide) rg_178_0 dX7_street_49 ?_
        refine g_bipush (x := 14) (by decide) dX7_street_52 ?_
        refine g_iload_n (x := s) rfl dX7_street_54 ?_
        refine g_iadd dX7_street_55 ?_
        refine g_iald sh_179 (by decide) (by omega) (by omega) (by decide) ag_179 dX7_street_56 ?_
        exact i_iret rfl dX7_street_57 (⟨by rw [if_neg (by omega), if_pos hsv, qd], rfl⟩)
      · refine g_tswIn ⟨by omega, by omega⟩ dX7_street_12 (by omega) (by omega) (off := 46) (by rw [hsv]; rfl) (t := 58) (by decide) ?_
        refine g_aload_n (x := 178) rfl dX7_street_58 ?_
        refine g_get fgX7_7 zcl_7 (congrArg Prod.fst sh_178) (by decide) rg_178_0 dX7_street_59 ?_
        refine g_bipush (x := 22) (by decide) dX7_street_62 ?_
        refine g_iload_n (x := s) rfl dX7_street_64 ?_
        refine g_iadd dX7_street_65 ?_
        refine g_iald sh_179 (by decide) (by omega) (by omega) (by decide) ag_179 dX7_street_66 ?_
        exact i_iret rfl dX7_street_67 (⟨by rw [if_neg (by omega), if_neg (by omega), if_pos hsv, ql], rfl⟩)
      · refine g_tswIn ⟨by omega, by omega⟩ dX7_street_12 (by omega) (by omega) (off := 56) (by rw [hsv]; rfl) (t := 68) (by decide) ?_
        refine g_aload_n (x := 178) rfl dX7_street_68 ?_
        refine g_iconst (x := 0) rfl dX7_street_69 ?_
        refine g_iload_n (x := s) rfl dX7_street_70 ?_
        refine i_callVp mvX7_hears tw_980 (ci := 7) (congrArg Prod.fst sh_178) rfl (by decide) (c_mHears (by decide) (by omega) (by omega) (by omega) (fun b g0 g1 => by have := hVw b g0 g1; omega) ⟨by omega, by omega⟩) (by decide) (st' := []) rfl (Nat.le_of_ble_eq_true rfl) rfl dX7_street_71 ?_
        have hz1 : zhr (wb 0 ι) s = 0 ∨ zhr (wb 0 ι) s = 1 := by unfold zhr zhf; split <;> simp
        refine g_if_eq ⟨by omega, by omega⟩ (t := 81) dX7_street_74 (by decide) (fun h74 => ?_) (fun h74 => ?_)
        · refine g_iconst (x := 0) rfl dX7_street_81 ?_
          exact i_iret rfl dX7_street_82 (⟨by rw [if_neg (by omega), if_neg (by omega), if_neg (by omega), if_pos hsv]; congr 2; omega, rfl⟩)
        · refine g_iconst (x := 1) rfl dX7_street_77 ?_
          refine g_goto (t := 82) dX7_street_78 (by decide) ?_
          exact i_iret rfl dX7_street_82 (⟨by rw [if_neg (by omega), if_neg (by omega), if_neg (by omega), if_pos hsv]; congr 2; omega, rfl⟩)
      · refine g_tswIn ⟨by omega, by omega⟩ dX7_street_12 (by omega) (by omega) (off := 71) (by rw [hsv]; rfl) (t := 83) (by decide) ?_
        refine g_aload_n (x := 178) rfl dX7_street_83 ?_
        refine g_get fgX7_7 zcl_7 (congrArg Prod.fst sh_178) (by decide) rg_178_0 dX7_street_84 ?_
        refine g_bipush (x := 6) (by decide) dX7_street_87 ?_
        refine g_iload_n (x := s) rfl dX7_street_89 ?_
        refine g_iadd dX7_street_90 ?_
        refine g_iald sh_179 (by decide) (by omega) (by omega) (by decide) ag_179 dX7_street_91 ?_
        refine g_aload_n (x := 178) rfl dX7_street_92 ?_
        refine g_get fgX7_7 zcl_7 (congrArg Prod.fst sh_178) (by decide) rg_178_0 dX7_street_93 ?_
        refine g_bipush (x := 14) (by decide) dX7_street_96 ?_
        refine g_iload_n (x := s) rfl dX7_street_98 ?_
        refine g_iadd dX7_street_99 ?_
        refine g_iald sh_179 (by decide) (by omega) (by omega) (by decide) ag_179 dX7_street_100 ?_
        refine g_aload_n (x := 178) rfl dX7_street_101 ?_
        refine g_iconst (x := 0) rfl dX7_street_102 ?_
        refine g_iload_n (x := s) rfl dX7_street_103 ?_
        refine i_callVp mvX7_hears tw_980 (ci := 7) (congrArg Prod.fst sh_178) rfl (by decide) (c_mHears (by decide) (by omega) (by omega) (by omega) (fun b g0 g1 => by have := hVw b g0 g1; omega) ⟨by omega, by omega⟩) (by decide) (st' := [zI (ι 179 (14 + s)), zI (ι 179 (6 + s))]) rfl (Nat.le_of_ble_eq_true rfl) rfl dX7_street_104 ?_
        refine g_aload_n (x := 178) rfl dX7_street_107 ?_
        refine g_get fgX7_7 zcl_7 (congrArg Prod.fst sh_178) (by decide) rg_178_0 dX7_street_108 ?_
        refine g_iconst (x := 4) rfl dX7_street_111 ?_
        refine g_iald sh_179 (by decide) (by omega) (by omega) (by decide) ag_179 dX7_street_112 ?_
        rw [← qk, ← qd, ← q4]
        refine i_callSp msX7_deepBy tw_987 (c_deepBy ⟨by omega, by omega⟩ hk3.2.1 (by unfold zhr zhf; split <;> decide) (by omega)) (by decide) (st' := []) rfl (Nat.le_of_ble_eq_true rfl) rfl dX7_street_113 ?_
        exact i_iret rfl dX7_street_116 (⟨by rw [if_neg (by omega), if_neg (by omega), if_neg (by omega), if_neg (by omega), if_pos hsv], rfl⟩)
      · refine g_tswIn ⟨by omega, by omega⟩ dX7_street_12 (by omega) (by omega) (off := 105) (by rw [hsv]; rfl) (t := 117) (by decide) ?_
        refine g_aload_n (x := 178) rfl dX7_street_117 ?_
        refine g_iconst (x := 0) rfl dX7_street_118 ?_
        refine g_iload_n (x := s) rfl dX7_street_119 ?_
        refine i_callVp mvX7_robbedIn tw_976 (ci := 7) (congrArg Prod.fst sh_178) rfl (by decide) (c_robbedIn (by decide) hV (by omega) (by omega) (by omega)) (by decide) (st' := []) rfl (Nat.le_of_ble_eq_true rfl) rfl dX7_street_120 ?_
        exact i_iret rfl dX7_street_123 (⟨by rw [if_neg (by omega), if_neg (by omega), if_neg (by omega), if_neg (by omega), if_neg (by omega), if_pos hsv], rfl⟩)
  · refine g_ldc (x := -1000001) tw_880 (by decide) dX7_street_8 ?_
    exact i_iret rfl dX7_street_10 (⟨by rw [if_pos (by omega)], rfl⟩)

set_option maxRecDepth 100000 in
theorem c_mRound (hT : zTM (wb 0 ι)) {b : Int} (hb : zB b) : zCi l (zc D ad L z) mX7_round 2 [zR 178, zI b] ι (zP (zI (if 0 ≤ b ∧ b < wb 0 ι 1 then wb 0 ι (30 + b) else -1000001)) ι) := by
  refine zCt_of (by decide) (Nat.le_of_ble_eq_true rfl) 0 rfl ?_
  obtain ⟨hV, hNB, hH9⟩ := id hT
  obtain ⟨hV0, hV1, hV2, hV3, hV4, hV5, hVk, hVw⟩ := id hV
  have q0 := w0 ι (i := 0) (by decide) (by decide)
  have q1 := w0 ι (i := 1) (by decide) (by decide)
  have q2 := w0 ι (i := 2) (by decide) (by decide)
  have q4 := w0 ι (i := 4) (by decide) (by decide)
  refine g_iload_n (x := b) rfl dX7_round_0 ?_
  refine g_i2l ⟨by omega, by omega⟩ dX7_round_1 ?_
  refine g_lconst (x := 0) (by decide) dX7_round_2 ?_
  refine g_aload_n (x := 178) rfl dX7_round_3 ?_
  refine g_get fgX7_7 zcl_7 (congrArg Prod.fst sh_178) (by decide) rg_178_0 dX7_round_4 ?_
  refine g_iconst (x := 1) rfl dX7_round_7 ?_
  refine g_iald sh_179 (by decide) (by omega) (by omega) (by decide) ag_179 dX7_round_8 ?_
  refine g_iconst (x := 1) rfl dX7_round_9 ?_
  refine g_isub dX7_round_10 ?_
  refine g_i2l ⟨by omega, by omega⟩ dX7_round_11 ?_
  refine i_callSp msX7_in tw_876 (c_in ⟨by omega, by omega⟩ ⟨by omega, by omega⟩ ⟨by omega, by omega⟩) (by decide) (st' := []) rfl (Nat.le_of_ble_eq_true rfl) rfl dX7_round_12 ?_
  refine g_nm (fun b12 hq0 => ?_)
  have hb12 : ((0 ≤ b ∧ b ≤ ι 179 1 - 1) ∧ b12 = 1) ∨ (¬ (0 ≤ b ∧ b ≤ ι 179 1 - 1) ∧ b12 = 0) := zb_c hq0
  clear hq0
  refine g_if_eq ⟨by omega, by omega⟩ (t := 30) dX7_round_15 (by decide) (fun h15 => ?_) (fun h15 => ?_)
  · refine g_ldc (x := -1000001) tw_880 (by decide) dX7_round_30 ?_
    exact i_iret rfl dX7_round_32 (⟨by rw [if_neg (by omega)], rfl⟩)
  · refine g_aload_n (x := 178) rfl dX7_round_18 ?_
    refine g_get fgX7_7 zcl_7 (congrArg Prod.fst sh_178) (by decide) rg_178_0 dX7_round_19 ?_
    refine g_bipush (x := 30) (by decide) dX7_round_22 ?_
    refine g_iload_n (x := b) rfl dX7_round_24 ?_
    refine g_iadd dX7_round_25 ?_
    refine g_iald sh_179 (by decide) (by omega) (by omega) (by decide) ag_179 dX7_round_26 ?_
    refine g_goto (t := 32) dX7_round_27 (by decide) ?_
    exact i_iret rfl dX7_round_32 (⟨by rw [if_pos (by omega), w0 ι (by omega) (by omega)], rfl⟩)

set_option maxRecDepth 100000 in
theorem c_mAhead (hT : zTM (wb 0 ι)) {s n w : Int} (hs : zB s) (hn : zB n) (hw : zB w) : zCi l (zc D ad L z) mX7_ahead 5 [zR 178, zI s, zI n, zI w] ι (fun v ι' => v = some (zI (if ¬ ((0 ≤ s ∧ s < wb 0 ι 0) ∧ (0 ≤ n ∧ n ≤ 60) ∧ (0 ≤ w ∧ w ≤ 1)) then -1000001 else if w = 0 then pasI (wb 0 ι) n (14 + s) else pasI (wb 0 ι) n (22 + s))) ∧ ι' = if (0 ≤ s ∧ s < wb 0 ι 0) ∧ (0 ≤ n ∧ n ≤ 60) ∧ (0 ≤ w ∧ w ≤ 1) then wp 38 (pasI (wb 0 ι) n) ι else ι) := by
  refine zCt_of (by decide) (Nat.le_of_ble_eq_true rfl) 0 rfl ?_
  obtain ⟨hV, hNB, hH9⟩ := id hT
  obtain ⟨hV0, hV1, hV2, hV3, hV4, hV5, hVk, hVw⟩ := id hV
  have q0 := w0 ι (i := 0) (by decide) (by decide)
  have q1 := w0 ι (i := 1) (by decide) (by decide)
  have q2 := w0 ι (i := 2) (by decide) (by decide)
  have q4 := w0 ι (i := 4) (by decide) (by decide)
  refine g_aload_n (x := 178) rfl dX7_ahead_0 ?_
  refine g_iload_n (x := s) rfl dX7_ahead_1 ?_
  refine i_callVp mvX7_isStreet tw_1002 (ci := 7) (congrArg Prod.fst sh_178) rfl (by decide) (c_isStreet ⟨by omega, by omega⟩ (by omega)) (by decide) (st' := []) rfl (Nat.le_of_ble_eq_true rfl) rfl dX7_ahead_2 ?_
  refine g_nm (fun b2 hq0 => ?_)
  have hb2 : ((0 ≤ s ∧ s ≤ ι 179 0 - 1) ∧ b2 = 1) ∨ (¬ (0 ≤ s ∧ s ≤ ι 179 0 - 1) ∧ b2 = 0) := zb_c hq0
  clear hq0
  refine g_if_eq ⟨by omega, by omega⟩ (t := 30) dX7_ahead_5 (by decide) (fun h5 => ?_) (fun h5 => ?_)
  · refine g_ldc (x := -1000001) tw_880 (by decide) dX7_ahead_30 ?_
    exact i_iret rfl dX7_ahead_32 (⟨(by (repeat' split) <;> first | rfl | (exfalso; omega) | (congr 2; omega)), (by (repeat' split) <;> first | rfl | (exfalso; omega) | (congr 2; omega))⟩)
  · refine g_iload_n (x := n) rfl dX7_ahead_8 ?_
    refine g_i2l ⟨by omega, by omega⟩ dX7_ahead_9 ?_
    refine g_lconst (x := 0) (by decide) dX7_ahead_10 ?_
    refine g_ldc2 (x := 60) tw_1020 (by decide) dX7_ahead_11 ?_
    refine i_callSp msX7_in tw_876 (c_in ⟨by omega, by omega⟩ ⟨by omega, by omega⟩ ⟨by omega, by omega⟩) (by decide) (st' := []) rfl (Nat.le_of_ble_eq_true rfl) rfl dX7_ahead_14 ?_
    refine g_nm (fun b14 hq0 => ?_)
    have hb14 : ((0 ≤ n ∧ n ≤ 60) ∧ b14 = 1) ∨ (¬ (0 ≤ n ∧ n ≤ 60) ∧ b14 = 0) := zb_c hq0
    clear hq0
    refine g_if_eq ⟨by omega, by omega⟩ (t := 30) dX7_ahead_17 (by decide) (fun h17 => ?_) (fun h17 => ?_)
    · refine g_ldc (x := -1000001) tw_880 (by decide) dX7_ahead_30 ?_
      exact i_iret rfl dX7_ahead_32 (⟨(by (repeat' split) <;> first | rfl | (exfalso; omega) | (congr 2; omega)), (by (repeat' split) <;> first | rfl | (exfalso; omega) | (congr 2; omega))⟩)
    · refine g_iload_n (x := w) rfl dX7_ahead_20 ?_
      refine g_i2l ⟨by omega, by omega⟩ dX7_ahead_21 ?_
      refine g_lconst (x := 0) (by decide) dX7_ahead_22 ?_
      refine g_lconst (x := 1) (by decide) dX7_ahead_23 ?_
      refine i_callSp msX7_in tw_876 (c_in ⟨by omega, by omega⟩ ⟨by omega, by omega⟩ ⟨by omega, by omega⟩) (by decide) (st' := []) rfl (Nat.le_of_ble_eq_true rfl) rfl dX7_ahead_24 ?_
      refine g_nm (fun b24 hq0 => ?_)
      have hb24 : ((0 ≤ w ∧ w ≤ 1) ∧ b24 = 1) ∨ (¬ (0 ≤ w ∧ w ≤ 1) ∧ b24 = 0) := zb_c hq0
      clear hq0
      refine g_if_ne ⟨by omega, by omega⟩ (t := 33) dX7_ahead_27 (by decide) (fun h27 => ?_) (fun h27 => ?_)
      · refine g_aload_n (x := 178) rfl dX7_ahead_33 ?_
        refine i_callV mvX7_tries tw_1037 (ci := 7) (congrArg Prod.fst sh_178) rfl (by decide) (c_tries) (by decide) (st' := []) rfl (Nat.le_of_ble_eq_true rfl) rfl dX7_ahead_34 (fun v_1 ι1 hq_34 => ?_)
        obtain ⟨rfl, hι1⟩ := hq_34
        have e1 : wb 38 ι1 = wb 0 ι := by rw [hι1, wb_wp 38 (wb_tz 0 ι)]
        refine g_aload_n (x := 178) rfl dX7_ahead_37 ?_
        refine g_iload_n (x := n) rfl dX7_ahead_38 ?_
        refine i_callV mvX7_goesOn tw_1041 (ci := 7) (congrArg Prod.fst sh_178) rfl (by decide) (c_goesOn (by rw [e1]; exact hV) (by rw [e1]; omega) (n := n) (by omega) (by rw [e1]; omega)) (by decide) (st' := []) rfl (Nat.le_of_ble_eq_true rfl) rfl dX7_ahead_39 (fun v_2 ι2 hq_39 => ?_)
        obtain ⟨rfl, hι2⟩ := hq_39
        obtain ⟨g1, g2, g3, g4, -⟩ := pasI_V (wb_tz 0 ι) hV (n := n) (by omega) (by omega)
        rw [e1] at hι2
        have e2 : wb 38 ι2 = pasI (wb 0 ι) n := by rw [hι2, wb_wp 38 g2]
        have e3 : ι2 = wp 38 (pasI (wb 0 ι) n) ι := by rw [hι2, hι1, wp_wp]
        refine g_aload_n (x := 178) rfl dX7_ahead_42 ?_
        refine g_get fgX7_7 zcl_7 (congrArg Prod.fst sh_178) (by decide) rg_178_0 dX7_ahead_43 ?_
        refine g_bipush (x := 38) (by decide) dX7_ahead_46 ?_
        refine g_iload_n (x := w) rfl dX7_ahead_48 ?_
        refine g_if_ne ⟨by omega, by omega⟩ (t := 57) dX7_ahead_49 (by decide) (fun h49 => ?_) (fun h49 => ?_)
        · refine g_bipush (x := 22) (by decide) dX7_ahead_57 ?_
          refine g_iadd dX7_ahead_59 ?_
          refine g_iload_n (x := s) rfl dX7_ahead_60 ?_
          refine g_iadd dX7_ahead_61 ?_
          refine g_iald sh_179 (by decide) (by omega) (by omega) (by decide) ag_179 dX7_ahead_62 ?_
          exact i_iret rfl dX7_ahead_63 (⟨by rw [if_neg (by omega), if_neg h49, ← e2, w38 ι2 (by omega) (by omega)]; congr 3; omega, by rw [if_pos (by omega), e3]⟩)
        · refine g_bipush (x := 14) (by decide) dX7_ahead_52 ?_
          refine g_goto (t := 59) dX7_ahead_54 (by decide) ?_
          refine g_iadd dX7_ahead_59 ?_
          refine g_iload_n (x := s) rfl dX7_ahead_60 ?_
          refine g_iadd dX7_ahead_61 ?_
          refine g_iald sh_179 (by decide) (by omega) (by omega) (by decide) ag_179 dX7_ahead_62 ?_
          exact i_iret rfl dX7_ahead_63 (⟨by rw [if_neg (by omega), if_pos h49, ← e2, w38 ι2 (by omega) (by omega)]; congr 3; omega, by rw [if_pos (by omega), e3]⟩)
      · refine g_ldc (x := -1000001) tw_880 (by decide) dX7_ahead_30 ?_
        exact i_iret rfl dX7_ahead_32 (⟨(by (repeat' split) <;> first | rfl | (exfalso; omega) | (congr 2; omega)), (by (repeat' split) <;> first | rfl | (exfalso; omega) | (congr 2; omega))⟩)

set_option maxRecDepth 100000 in
theorem c_mLater (hT : zTM (wb 0 ι)) {n w : Int} (hn : zB n) (hw : zB w) : zCi l (zc D ad L z) mX7_later 5 [zR 178, zI n, zI w] ι (fun v ι' => v = some (zI (if ¬ (0 < wb 0 ι 0) then -1000002 else if ¬ ((0 ≤ n ∧ n ≤ 60) ∧ (0 ≤ w ∧ w ≤ 1)) then -1000001 else if w = 0 then zaw (fun k => pasI (wb 0 ι) n (14 + k)) (wb 0 ι 0) else pasI (wb 0 ι) n 5)) ∧ ι' = if 0 < wb 0 ι 0 ∧ (0 ≤ n ∧ n ≤ 60) ∧ (0 ≤ w ∧ w ≤ 1) then wp 38 (pasI (wb 0 ι) n) ι else ι) := by
  refine zCt_of (by decide) (Nat.le_of_ble_eq_true rfl) 0 rfl ?_
  obtain ⟨hV, hNB, hH9⟩ := id hT
  obtain ⟨hV0, hV1, hV2, hV3, hV4, hV5, hVk, hVw⟩ := id hV
  have q0 := w0 ι (i := 0) (by decide) (by decide)
  have q1 := w0 ι (i := 1) (by decide) (by decide)
  have q2 := w0 ι (i := 2) (by decide) (by decide)
  have q4 := w0 ι (i := 4) (by decide) (by decide)
  refine g_aload_n (x := 178) rfl dX7_later_0 ?_
  refine i_callVp mvX7_isTown tw_962 (ci := 7) (congrArg Prod.fst sh_178) rfl (by decide) (c_isTown (by omega)) (by decide) (st' := []) rfl (Nat.le_of_ble_eq_true rfl) rfl dX7_later_1 ?_
  refine g_nm (fun b1 hq0 => ?_)
  have hb1 : ((0 < ι 179 0) ∧ b1 = 1) ∨ (¬ (0 < ι 179 0) ∧ b1 = 0) := zb_c hq0
  clear hq0
  refine g_if_ne ⟨by omega, by omega⟩ (t := 10) dX7_later_4 (by decide) (fun h4 => ?_) (fun h4 => ?_)
  · refine g_iload_n (x := n) rfl dX7_later_10 ?_
    refine g_i2l ⟨by omega, by omega⟩ dX7_later_11 ?_
    refine g_lconst (x := 0) (by decide) dX7_later_12 ?_
    refine g_ldc2 (x := 60) tw_1020 (by decide) dX7_later_13 ?_
    refine i_callSp msX7_in tw_876 (c_in ⟨by omega, by omega⟩ ⟨by omega, by omega⟩ ⟨by omega, by omega⟩) (by decide) (st' := []) rfl (Nat.le_of_ble_eq_true rfl) rfl dX7_later_16 ?_
    refine g_nm (fun b16 hq0 => ?_)
    have hb16 : ((0 ≤ n ∧ n ≤ 60) ∧ b16 = 1) ∨ (¬ (0 ≤ n ∧ n ≤ 60) ∧ b16 = 0) := zb_c hq0
    clear hq0
    refine g_if_eq ⟨by omega, by omega⟩ (t := 32) dX7_later_19 (by decide) (fun h19 => ?_) (fun h19 => ?_)
    · refine g_ldc (x := -1000001) tw_880 (by decide) dX7_later_32 ?_
      exact i_iret rfl dX7_later_34 (⟨(by (repeat' split) <;> first | rfl | (exfalso; omega) | (congr 2; omega)), (by (repeat' split) <;> first | rfl | (exfalso; omega) | (congr 2; omega))⟩)
    · refine g_iload_n (x := w) rfl dX7_later_22 ?_
      refine g_i2l ⟨by omega, by omega⟩ dX7_later_23 ?_
      refine g_lconst (x := 0) (by decide) dX7_later_24 ?_
      refine g_lconst (x := 1) (by decide) dX7_later_25 ?_
      refine i_callSp msX7_in tw_876 (c_in ⟨by omega, by omega⟩ ⟨by omega, by omega⟩ ⟨by omega, by omega⟩) (by decide) (st' := []) rfl (Nat.le_of_ble_eq_true rfl) rfl dX7_later_26 ?_
      refine g_nm (fun b26 hq0 => ?_)
      have hb26 : ((0 ≤ w ∧ w ≤ 1) ∧ b26 = 1) ∨ (¬ (0 ≤ w ∧ w ≤ 1) ∧ b26 = 0) := zb_c hq0
      clear hq0
      refine g_if_ne ⟨by omega, by omega⟩ (t := 35) dX7_later_29 (by decide) (fun h29 => ?_) (fun h29 => ?_)
      · refine g_aload_n (x := 178) rfl dX7_later_35 ?_
        refine i_callV mvX7_tries tw_1037 (ci := 7) (congrArg Prod.fst sh_178) rfl (by decide) (c_tries) (by decide) (st' := []) rfl (Nat.le_of_ble_eq_true rfl) rfl dX7_later_36 (fun v_1 ι1 hq_36 => ?_)
        obtain ⟨rfl, hι1⟩ := hq_36
        have e1 : wb 38 ι1 = wb 0 ι := by rw [hι1, wb_wp 38 (wb_tz 0 ι)]
        refine g_aload_n (x := 178) rfl dX7_later_39 ?_
        refine g_iload_n (x := n) rfl dX7_later_40 ?_
        refine i_callV mvX7_goesOn tw_1041 (ci := 7) (congrArg Prod.fst sh_178) rfl (by decide) (c_goesOn (by rw [e1]; exact hV) (by rw [e1]; omega) (n := n) (by omega) (by rw [e1]; omega)) (by decide) (st' := []) rfl (Nat.le_of_ble_eq_true rfl) rfl dX7_later_41 (fun v_2 ι2 hq_41 => ?_)
        obtain ⟨rfl, hι2⟩ := hq_41
        obtain ⟨g1, g2, g3, g4, -⟩ := pasI_V (wb_tz 0 ι) hV (n := n) (by omega) (by omega)
        rw [e1] at hι2
        have e2 : wb 38 ι2 = pasI (wb 0 ι) n := by rw [hι2, wb_wp 38 g2]
        have e3 : ι2 = wp 38 (pasI (wb 0 ι) n) ι := by rw [hι2, hι1, wp_wp]
        refine g_iload_n (x := w) rfl dX7_later_44 ?_
        refine g_if_ne ⟨by omega, by omega⟩ (t := 57) dX7_later_45 (by decide) (fun h45 => ?_) (fun h45 => ?_)
        · refine g_aload_n (x := 178) rfl dX7_later_57 ?_
          refine g_get fgX7_7 zcl_7 (congrArg Prod.fst sh_178) (by decide) rg_178_0 dX7_later_58 ?_
          refine g_bipush (x := 43) (by decide) dX7_later_61 ?_
          refine g_iald sh_179 (by decide) (by omega) (by omega) (by decide) ag_179 dX7_later_63 ?_
          exact i_iret rfl dX7_later_64 (⟨by rw [if_neg (by omega), if_neg (by omega), if_neg h45, ← e2, w38 ι2 (by decide) (by decide)]; rfl, by rw [if_pos (by omega), e3]⟩)
        · refine g_aload_n (x := 178) rfl dX7_later_48 ?_
          refine g_bipush (x := 38) (by decide) dX7_later_49 ?_
          refine i_callVp mvX7_awake tw_994 (ci := 7) (congrArg Prod.fst sh_178) rfl (by decide) (c_mAwake (by decide) (by rw [e2]; exact g1.1) (fun k q0 q1 => by rw [e2] at q1 ⊢; have := (g1.2.2.2.2.2.2.1 k q0 q1).2.1; exact ⟨by omega, by omega⟩)) (by decide) (st' := []) rfl (Nat.le_of_ble_eq_true rfl) rfl dX7_later_51 ?_
          refine g_goto (t := 64) dX7_later_54 (by decide) ?_
          exact i_iret rfl dX7_later_64 (⟨by rw [if_neg (by omega), if_neg (by omega), if_pos h45, e2, g3], by rw [if_pos (by omega), e3]⟩)
      · refine g_ldc (x := -1000001) tw_880 (by decide) dX7_later_32 ?_
        exact i_iret rfl dX7_later_34 (⟨(by (repeat' split) <;> first | rfl | (exfalso; omega) | (congr 2; omega)), (by (repeat' split) <;> first | rfl | (exfalso; omega) | (congr 2; omega))⟩)
  · refine g_ldc (x := -1000002) tw_966 (by decide) dX7_later_7 ?_
    exact i_iret rfl dX7_later_9 (⟨(by (repeat' split) <;> first | rfl | (exfalso; omega) | (congr 2; omega)), (by (repeat' split) <;> first | rfl | (exfalso; omega) | (congr 2; omega))⟩)

end
