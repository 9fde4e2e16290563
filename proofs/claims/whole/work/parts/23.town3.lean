section
variable {l : Launch} {D : va_G} {ad : Nat → Nat} {L z : Nat} {ι : zi}
set_option maxRecDepth 100000 in
theorem lp_passHours {a : Nat} (ht : zTw a) (hV : zVT (tb a ι)) (hB : 0 < tb a ι 1) {n : Int} (hn : 0 ≤ n ∧ n ≤ 1000) (h4 : tb a ι 4 + n ≤ 20000) : ∀ i : Int, 0 ≤ i → i ≤ n → zGi l (zc D ad L z) mX5_passHours 4 2 [some (zR a), some (zI n), some (zI i)] [] (tp a (pasI (tb a ι) i) ι) (fun v ι' => v = none ∧ ι' = tp a (pasI (tb a ι) n) ι) := by
  refine z_loopI (fun i h0 h1 ih => ?_)
  obtain ⟨ι1, hι1⟩ : ∃ y, y = tp a (pasI (tb a ι) i) ι := ⟨_, rfl⟩
  rw [← hι1]
  refine g_iload_n (x := i) rfl dX5_passHours_2 ?_
  refine g_iload_n (x := n) rfl dX5_passHours_3 ?_
  refine g_icmp_ge ⟨by omega, by omega⟩ ⟨by omega, by omega⟩ (t := 17) dX5_passHours_4 (by decide) (fun h4 => ?_) (fun h4 => ?_)
  · exact i_ret rfl dX5_passHours_17 (⟨rfl, by rw [hι1, show i = n by omega]⟩)
  · refine g_aload_n (x := a) rfl dX5_passHours_7 ?_
    obtain ⟨g1, g2, g3, g4, -⟩ := pasI_V (tb_tz a ι) hV h0 (by omega)
    have etb : tb a ι1 = pasI (tb a ι) i := by rw [hι1, tb_tp a g2]
    refine i_callV mvX5_passHour tw_570 (ci := 5) (congrArg Prod.fst ht.s0) rfl (by have := ht.hi; omega) (c_passHour ht (by rw [etb]; exact g1) (by rw [etb, g4]; exact hB)) (by decide) (st' := []) rfl (Nat.le_of_ble_eq_true rfl) rfl dX5_passHours_8 (fun v_1 ι2 hq_8 => ?_)
    obtain ⟨rfl, hι2⟩ := hq_8
    rw [etb, ← pasI_s _ h0, hι1, tp_tp] at hι2
    refine g_iinc (x := i) (y := i + 1) (ls' := [some (zR a), some (zI n), some (zI (i + 1))]) dX5_passHours_11 rfl (rfl) (by decide) rfl ?_
    refine g_goto (t := 2) dX5_passHours_14 (by decide) ?_
    rw [hι2]
    exact ih (by omega)

set_option maxRecDepth 100000 in
theorem c_passHours {a : Nat} (ht : zTw a) (hV : zVT (tb a ι)) (hB : 0 < tb a ι 1) {n : Int} (hn : 0 ≤ n ∧ n ≤ 1000) (h4 : tb a ι 4 + n ≤ 20000) : zCi l (zc D ad L z) mX5_passHours 4 [zR a, zI n] ι (fun v ι' => v = none ∧ ι' = tp a (pasI (tb a ι) n) ι) := by
  refine zCt_of (by decide) (Nat.le_of_ble_eq_true rfl) 1 rfl ?_
  refine g_iconst (x := 0) rfl dX5_passHours_0 ?_
  refine g_istore_n (ls' := [some (zR a), some (zI n), some (zI 0)]) dX5_passHours_1 (by decide) rfl ?_
  have hh := lp_passHours (l := l) (D := D) (ad := ad) (L := L) (z := z) ht hV hB hn h4 0 (by omega) (by omega)
  rw [pasI_0, tp_tb] at hh
  exact hh

set_option maxRecDepth 100000 in
theorem c_passHourFor {a : Nat} (ht : zTw a) (hV : zVT (tb a ι)) (hB : 0 < tb a ι 1) {s : Int} (h0 : 0 ≤ s) (h1 : s < tb a ι 0) : zCi l (zc D ad L z) mX5_passHourFor 3 [zR a, zI s] ι (fun v ι' => v = none ∧ ι' = tp a (psF (tb a ι) s) ι) := by
  refine zCt_of (by decide) (Nat.le_of_ble_eq_true rfl) 0 rfl ?_
  refine g_aload_n (x := a) rfl dX5_passHourFor_0 ?_
  refine g_iload_n (x := s) rfl dX5_passHourFor_1 ?_
  refine g_aload_n (x := a) rfl dX5_passHourFor_2 ?_
  refine g_iload_n (x := s) rfl dX5_passHourFor_3 ?_
  obtain ⟨hV0, hV1, hV2, hV3, hV4, hV5, hVk, hVw⟩ := id hV
  have q1 := tb_1 a ι
  have q2 := tb_2 a ι
  have q3 := tb_3 a ι
  have q4 := tb_4 a ι
  have q5 := tb_5 a ι
  obtain ⟨hk, hd, hl⟩ := hVk s h0 h1
  rw [tb_k a ι h0 (by omega)] at hk
  rw [tb_d a ι h0 (by omega)] at hd
  rw [tb_l a ι h0 (by omega)] at hl
  refine i_callVp mvX5_hears tw_670 (ci := 5) (congrArg Prod.fst ht.s0) rfl (by have := ht.hi; omega) (c_hears ht (by omega) (by omega) (by omega) (fun b g0 g1 => by have := hVw b g0 (by omega); rw [tb_w a ι g0 (by omega)] at this; omega) ⟨by omega, by omega⟩) (by decide) (st' := [zI s, zR a]) rfl (Nat.le_of_ble_eq_true rfl) rfl dX5_passHourFor_4 ?_
  refine i_callV mvX5_passStreet tw_487 (ci := 5) (congrArg Prod.fst ht.s0) rfl (by have := ht.hi; omega) (c_passStreet ht h0 (by omega) (by unfold zhr zhf; split <;> decide) ⟨by omega, by omega⟩ hd hl (by omega) (by omega) (by omega)) (by decide) (st' := []) rfl (Nat.le_of_ble_eq_true rfl) rfl dX5_passHourFor_7 (fun v_1 ι1 hq_7 => ?_)
  obtain ⟨rfl, hι1⟩ := hq_7
  have hz := psR_tz (tb_tz a ι) (s := s) (k := zhr (tb a ι) s) h0 (by omega)
  have e8 : ι1 a 8 = tb a ι 4 := by rw [hι1, tp_s a _ _ (by decide) (by decide)]; unfold psR; rw [ru_n _ (by omega), ru_n _ (by decide), ru_n _ (by omega)]; rfl
  refine g_aload_n (x := a) rfl dX5_passHourFor_10 ?_
  refine g_dupR dX5_passHourFor_11 ?_
  refine g_get fgX5_35 zcl_5 (congrArg Prod.fst ht.s0) (by have := ht.hi; omega) ht.ig8 dX5_passHourFor_12 ?_
  refine g_iconst (x := 1) rfl dX5_passHourFor_15 ?_
  refine g_iadd dX5_passHourFor_16 ?_
  rw [e8]
  obtain ⟨ι2, hι2⟩ : ∃ y, y = iup ι1 a 8 ((tb a ι 4) + 1) := ⟨_, rfl⟩
  refine i_put fwX5_35 zcl_5 (congrArg Prod.fst ht.s0) (by have := ht.hi; omega) (by have := ht.lo; omega) (ι1 := ι2) (by rw [hι2]; exact ht.iu8) dX5_passHourFor_17 ?_
  exact i_ret rfl dX5_passHourFor_20 (⟨rfl, by rw [hι2, hι1, tp_ts hz ι (by decide) (by decide)]; rfl⟩)

set_option maxRecDepth 100000 in
theorem c_become {a b : Nat} (ht : zTw a) (hb : zTw b) (hab : a + 5 ≤ b ∨ b + 5 ≤ a) : zCi l (zc D ad L z) mX5_become 1 [zR a, zR b] ι (fun v ι' => v = none ∧ ι' = tp a (tb b ι) ι) := by
  refine zCt_of (by decide) (Nat.le_of_ble_eq_true rfl) 0 rfl ?_
  refine g_aload_n (x := b) rfl dX5_become_0 ?_
  refine g_get fgX5_9 zcl_5 (congrArg Prod.fst hb.s0) (by have := hb.hi; omega) hb.rg0 dX5_become_1 ?_
  refine g_iconst (x := 0) rfl dX5_become_4 ?_
  refine g_aload_n (x := a) rfl dX5_become_5 ?_
  refine g_get fgX5_9 zcl_5 (congrArg Prod.fst ht.s0) (by have := ht.hi; omega) ht.rg0 dX5_become_6 ?_
  refine g_iconst (x := 0) rfl dX5_become_9 ?_
  refine g_bipush (x := 8) (by decide) dX5_become_10 ?_
  obtain ⟨ι1, hι1⟩ : ∃ y, y = icpy ι (b + 1) (a + 1) 0 0 8 := ⟨_, rfl⟩
  refine g_acopy (k := 8) hb.s1 ht.s1 (by have := hb.hi; omega) (by have := ht.hi; omega) (by have := ht.lo; omega) (by decide) (by decide) (by decide) (by decide) (by decide) (by decide) (by decide) (fun y _ _ => ⟨_, zg_arr hb.sl.2.1⟩) (by decide) (Nat.le_of_ble_eq_true rfl) tw_447 tw_289 tw_288 tw_10 dX5_become_12 ?_
  rw [zg_cpy hb.sl.2.1 ht.sl.2.1, ← hι1]
  refine g_aload_n (x := b) rfl dX5_become_15 ?_
  refine g_get fgX5_13 zcl_5 (congrArg Prod.fst hb.s0) (by have := hb.hi; omega) hb.rg1 dX5_become_16 ?_
  refine g_iconst (x := 0) rfl dX5_become_19 ?_
  refine g_aload_n (x := a) rfl dX5_become_20 ?_
  refine g_get fgX5_13 zcl_5 (congrArg Prod.fst ht.s0) (by have := ht.hi; omega) ht.rg1 dX5_become_21 ?_
  refine g_iconst (x := 0) rfl dX5_become_24 ?_
  refine g_bipush (x := 8) (by decide) dX5_become_25 ?_
  obtain ⟨ι2, hι2⟩ : ∃ y, y = icpy ι1 (b + 2) (a + 2) 0 0 8 := ⟨_, rfl⟩
  refine g_acopy (k := 8) hb.s2 ht.s2 (by have := hb.hi; omega) (by have := ht.hi; omega) (by have := ht.lo; omega) (by decide) (by decide) (by decide) (by decide) (by decide) (by decide) (by decide) (fun y _ _ => ⟨_, zg_arr hb.sl.2.2.1⟩) (by decide) (Nat.le_of_ble_eq_true rfl) tw_447 tw_289 tw_288 tw_10 dX5_become_27 ?_
  rw [zg_cpy hb.sl.2.2.1 ht.sl.2.2.1, ← hι2]
  refine g_aload_n (x := b) rfl dX5_become_30 ?_
  refine g_get fgX5_16 zcl_5 (congrArg Prod.fst hb.s0) (by have := hb.hi; omega) hb.rg2 dX5_become_31 ?_
  refine g_iconst (x := 0) rfl dX5_become_34 ?_
  refine g_aload_n (x := a) rfl dX5_become_35 ?_
  refine g_get fgX5_16 zcl_5 (congrArg Prod.fst ht.s0) (by have := ht.hi; omega) ht.rg2 dX5_become_36 ?_
  refine g_iconst (x := 0) rfl dX5_become_39 ?_
  refine g_bipush (x := 8) (by decide) dX5_become_40 ?_
  obtain ⟨ι3, hι3⟩ : ∃ y, y = icpy ι2 (b + 3) (a + 3) 0 0 8 := ⟨_, rfl⟩
  refine g_acopy (k := 8) hb.s3 ht.s3 (by have := hb.hi; omega) (by have := ht.hi; omega) (by have := ht.lo; omega) (by decide) (by decide) (by decide) (by decide) (by decide) (by decide) (by decide) (fun y _ _ => ⟨_, zg_arr hb.sl.2.2.2.1⟩) (by decide) (Nat.le_of_ble_eq_true rfl) tw_447 tw_289 tw_288 tw_10 dX5_become_42 ?_
  rw [zg_cpy hb.sl.2.2.2.1 ht.sl.2.2.2.1, ← hι3]
  refine g_aload_n (x := b) rfl dX5_become_45 ?_
  refine g_get fgX5_19 zcl_5 (congrArg Prod.fst hb.s0) (by have := hb.hi; omega) hb.rg3 dX5_become_46 ?_
  refine g_iconst (x := 0) rfl dX5_become_49 ?_
  refine g_aload_n (x := a) rfl dX5_become_50 ?_
  refine g_get fgX5_19 zcl_5 (congrArg Prod.fst ht.s0) (by have := ht.hi; omega) ht.rg3 dX5_become_51 ?_
  refine g_iconst (x := 0) rfl dX5_become_54 ?_
  refine g_bipush (x := 8) (by decide) dX5_become_55 ?_
  obtain ⟨ι4, hι4⟩ : ∃ y, y = icpy ι3 (b + 4) (a + 4) 0 0 8 := ⟨_, rfl⟩
  refine g_acopy (k := 8) hb.s4 ht.s4 (by have := hb.hi; omega) (by have := ht.hi; omega) (by have := ht.lo; omega) (by decide) (by decide) (by decide) (by decide) (by decide) (by decide) (by decide) (fun y _ _ => ⟨_, zg_arr hb.sl.2.2.2.2.1⟩) (by decide) (Nat.le_of_ble_eq_true rfl) tw_447 tw_289 tw_288 tw_10 dX5_become_57 ?_
  rw [zg_cpy hb.sl.2.2.2.2.1 ht.sl.2.2.2.2.1, ← hι4]
  refine g_aload_n (x := a) rfl dX5_become_60 ?_
  refine g_aload_n (x := b) rfl dX5_become_61 ?_
  refine g_get fgX5_22 zcl_5 (congrArg Prod.fst hb.s0) (by have := hb.hi; omega) hb.ig4 dX5_become_62 ?_
  obtain ⟨ι5, hι5⟩ : ∃ y, y = iup ι4 a 4 (ι4 b 4) := ⟨_, rfl⟩
  refine i_put fwX5_22 zcl_5 (congrArg Prod.fst ht.s0) (by have := ht.hi; omega) (by have := ht.lo; omega) (ι1 := ι5) (by rw [hι5]; exact ht.iu4) dX5_become_65 ?_
  refine g_aload_n (x := a) rfl dX5_become_68 ?_
  refine g_aload_n (x := b) rfl dX5_become_69 ?_
  refine g_get fgX5_26 zcl_5 (congrArg Prod.fst hb.s0) (by have := hb.hi; omega) hb.ig5 dX5_become_70 ?_
  obtain ⟨ι6, hι6⟩ : ∃ y, y = iup ι5 a 5 (ι5 b 5) := ⟨_, rfl⟩
  refine i_put fwX5_26 zcl_5 (congrArg Prod.fst ht.s0) (by have := ht.hi; omega) (by have := ht.lo; omega) (ι1 := ι6) (by rw [hι6]; exact ht.iu5) dX5_become_73 ?_
  refine g_aload_n (x := a) rfl dX5_become_76 ?_
  refine g_aload_n (x := b) rfl dX5_become_77 ?_
  refine g_get fgX5_29 zcl_5 (congrArg Prod.fst hb.s0) (by have := hb.hi; omega) hb.ig6 dX5_become_78 ?_
  obtain ⟨ι7, hι7⟩ : ∃ y, y = iup ι6 a 6 (ι6 b 6) := ⟨_, rfl⟩
  refine i_put fwX5_29 zcl_5 (congrArg Prod.fst ht.s0) (by have := ht.hi; omega) (by have := ht.lo; omega) (ι1 := ι7) (by rw [hι7]; exact ht.iu6) dX5_become_81 ?_
  refine g_aload_n (x := a) rfl dX5_become_84 ?_
  refine g_aload_n (x := b) rfl dX5_become_85 ?_
  refine g_get fgX5_32 zcl_5 (congrArg Prod.fst hb.s0) (by have := hb.hi; omega) hb.ig7 dX5_become_86 ?_
  obtain ⟨ι8, hι8⟩ : ∃ y, y = iup ι7 a 7 (ι7 b 7) := ⟨_, rfl⟩
  refine i_put fwX5_32 zcl_5 (congrArg Prod.fst ht.s0) (by have := ht.hi; omega) (by have := ht.lo; omega) (ι1 := ι8) (by rw [hι8]; exact ht.iu7) dX5_become_89 ?_
  refine g_aload_n (x := a) rfl dX5_become_92 ?_
  refine g_aload_n (x := b) rfl dX5_become_93 ?_
  refine g_get fgX5_35 zcl_5 (congrArg Prod.fst hb.s0) (by have := hb.hi; omega) hb.ig8 dX5_become_94 ?_
  obtain ⟨ι9, hι9⟩ : ∃ y, y = iup ι8 a 8 (ι8 b 8) := ⟨_, rfl⟩
  refine i_put fwX5_35 zcl_5 (congrArg Prod.fst ht.s0) (by have := ht.hi; omega) (by have := ht.lo; omega) (ι1 := ι9) (by rw [hι9]; exact ht.iu8) dX5_become_97 ?_
  refine g_aload_n (x := a) rfl dX5_become_100 ?_
  refine g_aload_n (x := b) rfl dX5_become_101 ?_
  refine g_get fgX5_38 zcl_5 (congrArg Prod.fst hb.s0) (by have := hb.hi; omega) hb.ig9 dX5_become_102 ?_
  obtain ⟨ι10, hι10⟩ : ∃ y, y = iup ι9 a 9 (ι9 b 9) := ⟨_, rfl⟩
  refine i_put fwX5_38 zcl_5 (congrArg Prod.fst ht.s0) (by have := ht.hi; omega) (by have := ht.lo; omega) (ι1 := ι10) (by rw [hι10]; exact ht.iu9) dX5_become_105 ?_
  exact i_ret rfl dX5_become_108 (⟨rfl, by
      refine tp_char (fun x g0 g1 => ?_) (fun x g0 g1 => ?_) (fun x g0 g1 => ?_) (fun x g0 g1 => ?_) (fun x g0 g1 => ?_) (fun c y g0 g1 => ?_)
      · rw [tb_s b ι (by omega) (by omega), show x - 4 + 4 = x by omega]
        rcases (show x = 4 ∨ x = 5 ∨ x = 6 ∨ x = 7 ∨ x = 8 ∨ x = 9 by omega) with rfl | rfl | rfl | rfl | rfl | rfl <;> (rw [hι10, hι9, hι8, hι7, hι6, hι5, hι4, hι3, hι2, hι1]; simp (disch := omega) only [iup_s, iup_n, icpy_n])
      · rw [tb_k b ι g0 g1]; rw [hι10, hι9, hι8, hι7, hι6, hι5, hι4, hι3, hι2, hι1]; simp (disch := omega) only [iup_n, icpy_n, icpy_i]; first | rfl | (congr 1; omega)
      · rw [tb_d b ι g0 g1]; rw [hι10, hι9, hι8, hι7, hι6, hι5, hι4, hι3, hι2, hι1]; simp (disch := omega) only [iup_n, icpy_n, icpy_i]; first | rfl | (congr 1; omega)
      · rw [tb_l b ι g0 g1]; rw [hι10, hι9, hι8, hι7, hι6, hι5, hι4, hι3, hι2, hι1]; simp (disch := omega) only [iup_n, icpy_n, icpy_i]; first | rfl | (congr 1; omega)
      · rw [tb_w b ι g0 g1]; rw [hι10, hι9, hι8, hι7, hι6, hι5, hι4, hι3, hι2, hι1]; simp (disch := omega) only [iup_n, icpy_n, icpy_i]; first | rfl | (congr 1; omega)
      · rw [hι10, hι9, hι8, hι7, hι6, hι5, hι4, hι3, hι2, hι1]; simp (disch := omega) only [iup_n, icpy_n]⟩)

set_option maxRecDepth 100000 in
theorem c_clear {a : Nat} (ht : zTw a) : zCi l (zc D ad L z) mX5_clear 0 [zR a] ι (fun v ι' => v = none ∧ ι' = iup (iup (iup (iup (iup (iup ι a 4 0) a 5 0) a 6 0) a 7 0) a 8 0) a 9 0) := by
  refine zCt_of (by decide) (Nat.le_of_ble_eq_true rfl) 0 rfl ?_
  refine g_aload_n (x := a) rfl dX5_clear_0 ?_
  refine g_iconst (x := 0) rfl dX5_clear_1 ?_
  obtain ⟨ι1, hι1⟩ : ∃ y, y = iup ι a 4 0 := ⟨_, rfl⟩
  refine i_put fwX5_22 zcl_5 (congrArg Prod.fst ht.s0) (by have := ht.hi; omega) (by have := ht.lo; omega) (ι1 := ι1) (by rw [hι1]; exact ht.iu4) dX5_clear_2 ?_
  refine g_aload_n (x := a) rfl dX5_clear_5 ?_
  refine g_iconst (x := 0) rfl dX5_clear_6 ?_
  obtain ⟨ι2, hι2⟩ : ∃ y, y = iup ι1 a 5 0 := ⟨_, rfl⟩
  refine i_put fwX5_26 zcl_5 (congrArg Prod.fst ht.s0) (by have := ht.hi; omega) (by have := ht.lo; omega) (ι1 := ι2) (by rw [hι2]; exact ht.iu5) dX5_clear_7 ?_
  refine g_aload_n (x := a) rfl dX5_clear_10 ?_
  refine g_iconst (x := 0) rfl dX5_clear_11 ?_
  obtain ⟨ι3, hι3⟩ : ∃ y, y = iup ι2 a 6 0 := ⟨_, rfl⟩
  refine i_put fwX5_29 zcl_5 (congrArg Prod.fst ht.s0) (by have := ht.hi; omega) (by have := ht.lo; omega) (ι1 := ι3) (by rw [hι3]; exact ht.iu6) dX5_clear_12 ?_
  refine g_aload_n (x := a) rfl dX5_clear_15 ?_
  refine g_iconst (x := 0) rfl dX5_clear_16 ?_
  obtain ⟨ι4, hι4⟩ : ∃ y, y = iup ι3 a 7 0 := ⟨_, rfl⟩
  refine i_put fwX5_32 zcl_5 (congrArg Prod.fst ht.s0) (by have := ht.hi; omega) (by have := ht.lo; omega) (ι1 := ι4) (by rw [hι4]; exact ht.iu7) dX5_clear_17 ?_
  refine g_aload_n (x := a) rfl dX5_clear_20 ?_
  refine g_iconst (x := 0) rfl dX5_clear_21 ?_
  obtain ⟨ι5, hι5⟩ : ∃ y, y = iup ι4 a 8 0 := ⟨_, rfl⟩
  refine i_put fwX5_35 zcl_5 (congrArg Prod.fst ht.s0) (by have := ht.hi; omega) (by have := ht.lo; omega) (ι1 := ι5) (by rw [hι5]; exact ht.iu8) dX5_clear_22 ?_
  refine g_aload_n (x := a) rfl dX5_clear_25 ?_
  refine g_iconst (x := 0) rfl dX5_clear_26 ?_
  obtain ⟨ι6, hι6⟩ : ∃ y, y = iup ι5 a 9 0 := ⟨_, rfl⟩
  refine i_put fwX5_38 zcl_5 (congrArg Prod.fst ht.s0) (by have := ht.hi; omega) (by have := ht.lo; omega) (ι1 := ι6) (by rw [hι6]; exact ht.iu9) dX5_clear_27 ?_
  exact i_ret rfl dX5_clear_30 (⟨rfl, by rw [hι6, hι5, hι4, hι3, hι2, hι1]⟩)

end
