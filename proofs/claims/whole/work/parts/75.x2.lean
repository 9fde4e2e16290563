section
variable {l : Launch} {D : va_G} {ad : Nat → Nat} {L z : Nat} {ι : zi}
def zke (ι : zi) : zi := iup (iup (tp (45 + 5 * (ι 43 1).toNat) (tb 23 ι) ι) 43 1 ((ι 43 1 + 1) % 24)) 43 2 (zmin (ι 43 2 + 1) 24)
theorem zke_tb {ι : zi} (ha : 0 ≤ ι 43 1 ∧ ι 43 1 < 24) : tb 23 (zke ι) = tb 23 ι := by
  unfold zke
  rw [tb_up (by omega), tb_up (by omega), tb_tpo (by omega)]
theorem zke_n {ι : zi} : zke ι 43 1 = (ι 43 1 + 1) % 24 := by unfold zke; rw [iup_n _ (by omega), iup_s]
theorem zke_k {ι : zi} : zke ι 43 2 = zmin (ι 43 2 + 1) 24 := by unfold zke; rw [iup_s]
theorem zke_o {ι : zi} (ha : 0 ≤ ι 43 1 ∧ ι 43 1 < 24) {b : Nat} {x : Int} (h : b < 45 ∨ 165 ≤ b) (h2 : b ≠ 43 ∨ (x ≠ 1 ∧ x ≠ 2)) : zke ι b x = ι b x := by
  unfold zke
  rw [iup_n _ (by omega), iup_n _ (by omega), tp_o _ _ _ (by omega) x]
def zhC (ι : zi) : zi := tp 23 (passR (tb 23 ι)) (zke ι)
theorem zke_r {ι : zi} (ha : 0 ≤ ι 43 1 ∧ ι 43 1 < 24) (hk : 0 ≤ ι 43 2 ∧ ι 43 2 ≤ 24) : (0 ≤ zke ι 43 1 ∧ zke ι 43 1 < 24) ∧ (0 ≤ zke ι 43 2 ∧ zke ι 43 2 ≤ 24) := by
  rw [zke_n, zke_k]
  refine ⟨⟨Int.emod_nonneg _ (by decide), Int.emod_lt_of_pos _ (by decide)⟩, ?_⟩
  unfold zmin
  split <;> omega
theorem zhC_it {ι : zi} (hV : zVT (tb 23 ι)) (ha : 0 ≤ ι 43 1 ∧ ι 43 1 < 24) (hk : 0 ≤ ι 43 2 ∧ ι 43 2 ≤ 24) {n : Int} (h0 : 0 ≤ n) (h4 : tb 23 ι 4 + n ≤ 20000) : tb 23 (zit zhC n ι) = pasI (tb 23 ι) n ∧ (0 ≤ zit zhC n ι 43 1 ∧ zit zhC n ι 43 1 < 24) ∧ (0 ≤ zit zhC n ι 43 2 ∧ zit zhC n ι 43 2 ≤ 24) := by
  have key : ∀ m : Nat, (m : Int) ≤ n → tb 23 (zit zhC m ι) = pasI (tb 23 ι) m ∧ (0 ≤ zit zhC m ι 43 1 ∧ zit zhC m ι 43 1 < 24) ∧ (0 ≤ zit zhC m ι 43 2 ∧ zit zhC m ι 43 2 ≤ 24) := by
    intro m
    induction m with
    | zero => intro _; exact ⟨rfl, ha, hk⟩
    | succ m ih =>
      intro hm
      obtain ⟨a1, a2, a3⟩ := ih (by omega)
      obtain ⟨g1, g2, -⟩ := pasI_V (tb_tz 23 ι) hV (n := (m : Int) + 1) (by omega) (by omega)
      rw [pasI_s _ (by omega)] at g2
      rw [show ((m + 1 : Nat) : Int) = (m : Int) + 1 by omega, zit_s zhC (by omega), pasI_s _ (by omega)]
      obtain ⟨Y, hY⟩ : ∃ Y, Y = zit zhC m ι := ⟨_, rfl⟩
      rw [← hY] at a1 a2 a3 ⊢
      have hr := zke_r a2 a3
      rw [show zhC Y = tp 23 (passR (tb 23 Y)) (zke Y) from rfl, a1, tb_tp 23 g2, tp_o 23 _ _ (by omega) 1, tp_o 23 _ _ (by omega) 2]
      exact ⟨rfl, hr.1, hr.2⟩
  have := key n.toNat (by omega)
  rw [show ((n.toNat : Nat) : Int) = n by omega] at this
  exact this
theorem zaw_tb {a : Nat} {ι : zi} {R : zr} {N : Int} (h : tb a ι = R) (hN : R 0 = N) (hN8 : N ≤ 8) : zaw (ι (a + 2)) (ι a 4) = zaw (fun k => R (14 + k)) N := by
  rw [← tb_0 a ι, h, hN]
  exact zaw_c (fun k k0 k1 => by rw [← h, tb_d a ι k0 (by omega)])
set_option maxRecDepth 100000 in
theorem lp_xHours (hT : zTM (tb 23 ι)) (hB : 0 < tb 23 ι 1) (ha : 0 ≤ ι 43 1 ∧ ι 43 1 < 24) (hk : 0 ≤ ι 43 2 ∧ ι 43 2 ≤ 24) {n : Int} (hn : 0 ≤ n ∧ n ≤ 24) (h4 : tb 23 ι 4 + n ≤ 9999) : ∀ i : Int, 0 ≤ i → i ≤ n → zGi l (zc D ad L z) mX6_hours 4 44 [some (zR 8), some (zI n), some (zI i)] [] (zit zhC i ι) (fun v ι' => v = some (zI (zaw (fun k => pasI (tb 23 ι) n (14 + k)) (tb 23 ι 0))) ∧ ι' = zit zhC n ι) := by
  refine z_loopI (fun i h0 h1 ih => ?_)
  obtain ⟨ι1, hι1⟩ : ∃ y, y = zit zhC i ι := ⟨_, rfl⟩
  rw [← hι1]
  refine g_iload_n (x := i) rfl dX6_hours_44 ?_
  refine g_iload_n (x := n) rfl dX6_hours_45 ?_
  refine g_icmp_ge ⟨by omega, by omega⟩ ⟨by omega, by omega⟩ (t := 73) dX6_hours_46 (by decide) (fun h46 => ?_) (fun h46 => ?_)
  · refine g_aload_n (x := 8) rfl dX6_hours_73 ?_
    refine g_get fgX6_26 zcl_6 (congrArg Prod.fst sh_8) (by decide) rg_8_2 dX6_hours_74 ?_
    have ei : i = n := by omega
    rw [ei] at hι1
    obtain ⟨hV, hNB, hH9⟩ := id hT
    obtain ⟨e1, e2, e3⟩ := zhC_it hV ha hk hn.1 (by omega)
    obtain ⟨g1, g2, g3, g4, -⟩ := pasI_V (tb_tz 23 ι) hV hn.1 (by omega)
    rw [← hι1] at e1 e2 e3
    refine i_callVp mvX5_awake tw_500 (ci := 5) (congrArg Prod.fst sh_23) rfl (by decide) (c_awake tt_23 (by rw [← tb_0 23 ι1, e1]; exact g1.1) (fun k k0 k1 => by rw [← tb_0 23 ι1, e1] at k1; have := (g1.2.2.2.2.2.2.1 k k0 k1).2.1; rw [← e1, tb_d 23 ι1 k0 (by have := g1.1; omega)] at this; exact ⟨by omega, by omega⟩)) (by decide) (st' := []) rfl (Nat.le_of_ble_eq_true rfl) rfl dX6_hours_77 ?_
    exact i_iret rfl dX6_hours_80 (⟨by rw [← zaw_tb e1 g3 (by have := hV.1; omega)], hι1⟩)
  · refine g_aload_n (x := 8) rfl dX6_hours_49 ?_
    refine g_get fgX6_42 zcl_6 (congrArg Prod.fst sh_8) (by decide) rg_8_6 dX6_hours_50 ?_
    refine g_aload_n (x := 8) rfl dX6_hours_53 ?_
    refine g_get fgX6_26 zcl_6 (congrArg Prod.fst sh_8) (by decide) rg_8_2 dX6_hours_54 ?_
    obtain ⟨hV, hNB, hH9⟩ := id hT
    obtain ⟨e1, e2, e3⟩ := zhC_it hV ha hk h0 (by omega)
    obtain ⟨g1, g2, g3, g4, -⟩ := pasI_V (tb_tz 23 ι) hV h0 (by omega)
    rw [← hι1] at e1 e2 e3
    refine i_callV mvX0_keep tw_466 (ci := 0) (congrArg Prod.fst sh_43) rfl (by decide) (c_keep e2 e3) (by decide) (st' := []) rfl (Nat.le_of_ble_eq_true rfl) rfl dX6_hours_57 (fun v_1 ι2 hq_57 => ?_)
    obtain ⟨rfl, hι2⟩ := hq_57
    have hι2 : ι2 = zke ι1 := hι2
    have e4 : tb 23 ι2 = pasI (tb 23 ι) i := by rw [hι2, zke_tb e2, e1]
    refine g_aload_n (x := 8) rfl dX6_hours_60 ?_
    refine g_get fgX6_26 zcl_6 (congrArg Prod.fst sh_8) (by decide) rg_8_2 dX6_hours_61 ?_
    refine i_callV mvX5_passHour tw_472 (ci := 5) (congrArg Prod.fst sh_23) rfl (by decide) (c_passHour tt_23 (by rw [e4]; exact g1) (by rw [e4, g4]; exact hB)) (by decide) (st' := []) rfl (Nat.le_of_ble_eq_true rfl) rfl dX6_hours_64 (fun v_2 ι3 hq_64 => ?_)
    obtain ⟨rfl, hι3⟩ := hq_64
    rw [e4, hι2] at hι3
    refine g_iinc (x := i) (y := i + 1) (ls' := [some (zR 8), some (zI n), some (zI (i + 1))]) dX6_hours_67 rfl (rfl) (by decide) rfl ?_
    refine g_goto (t := 44) dX6_hours_70 (by decide) ?_
    have hh := ih (by omega)
    rw [zit_s zhC h0, ← hι1] at hh
    have e5 : ι3 = zhC ι1 := by rw [hι3]; unfold zhC; rw [e1]
    rw [e5]
    exact hh

set_option maxRecDepth 100000 in
theorem c_xHours (hT : zTM (tb 23 ι)) (ha : 0 ≤ ι 43 1 ∧ ι 43 1 < 24) (hk : 0 ≤ ι 43 2 ∧ ι 43 2 ≤ 24) {n : Int} (hn : zB n) : zCi l (zc D ad L z) mX6_hours 4 [zR 8, zI n] ι (fun v ι' => v = some (zI (if ¬ (0 < tb 23 ι 0) then -1000002 else if ¬ (1 ≤ n ∧ n ≤ 24) then -1000001 else if 9999 < tb 23 ι 4 + n then -1000003 else zaw (fun k => pasI (tb 23 ι) n (14 + k)) (tb 23 ι 0))) ∧ ι' = if 0 < tb 23 ι 0 ∧ (1 ≤ n ∧ n ≤ 24) ∧ ¬ 9999 < tb 23 ι 4 + n then zit zhC n ι else ι) := by
  refine zCt_of (by decide) (Nat.le_of_ble_eq_true rfl) 1 rfl ?_
  obtain ⟨hV, hNB, hH9⟩ := id hT
  obtain ⟨hV0, hV1, hV2, hV3, hV4, hV5, hVk, hVw⟩ := id hV
  have q0 := tb_0 23 ι
  have q1 := tb_1 23 ι
  have q2 := tb_2 23 ι
  have q3 := tb_3 23 ι
  have q4 := tb_4 23 ι
  have q5 := tb_5 23 ι
  refine g_aload_n (x := 8) rfl dX6_hours_0 ?_
  refine i_callVp mvX6_noTown tw_461 (ci := 6) (congrArg Prod.fst sh_8) rfl (by decide) (c_noTown ⟨by omega, by omega⟩) (by decide) (st' := []) rfl (Nat.le_of_ble_eq_true rfl) rfl dX6_hours_1 ?_
  refine g_nm (fun b1 hq0 => ?_)
  have hb1 : ((ι 23 4 = 0) ∧ b1 = 1) ∨ (¬ (ι 23 4 = 0) ∧ b1 = 0) := zb_c hq0
  clear hq0
  refine g_if_eq ⟨by omega, by omega⟩ (t := 10) dX6_hours_4 (by decide) (fun h4 => ?_) (fun h4 => ?_)
  · refine g_iload_n (x := n) rfl dX6_hours_10 ?_
    refine g_iconst (x := 1) rfl dX6_hours_11 ?_
    refine g_icmp_lt ⟨by omega, by omega⟩ (by decide) (t := 21) dX6_hours_12 (by decide) (fun h12 => ?_) (fun h12 => ?_)
    · refine g_ldc (x := -1000001) tw_253 (by decide) dX6_hours_21 ?_
      exact i_iret rfl dX6_hours_23 (⟨(by (repeat' split) <;> first | rfl | (exfalso; omega) | (congr 2; omega)), (by (repeat' split) <;> first | rfl | (exfalso; omega) | (congr 2; omega))⟩)
    · refine g_iload_n (x := n) rfl dX6_hours_15 ?_
      refine g_bipush (x := 24) (by decide) dX6_hours_16 ?_
      refine g_icmp_le ⟨by omega, by omega⟩ (by decide) (t := 24) dX6_hours_18 (by decide) (fun h18 => ?_) (fun h18 => ?_)
      · refine g_aload_n (x := 8) rfl dX6_hours_24 ?_
        refine g_get fgX6_26 zcl_6 (congrArg Prod.fst sh_8) (by decide) rg_8_2 dX6_hours_25 ?_
        refine g_get fgX6_138 zcl_5 (congrArg Prod.fst sh_23) (by decide) ig_23_8 dX6_hours_28 ?_
        refine g_iload_n (x := n) rfl dX6_hours_31 ?_
        refine g_iadd dX6_hours_32 ?_
        refine g_sipush (x := 9999) (by decide) dX6_hours_33 ?_
        refine g_icmp_le ⟨by omega, by omega⟩ (by decide) (t := 42) dX6_hours_36 (by decide) (fun h36 => ?_) (fun h36 => ?_)
        · refine g_iconst (x := 0) rfl dX6_hours_42 ?_
          refine g_istore_n (ls' := [some (zR 8), some (zI n), some (zI 0)]) dX6_hours_43 (by decide) rfl ?_
          rw [if_neg (by omega), if_neg (by omega), if_neg (by omega), if_pos (by omega)]
          have hh := lp_xHours (l := l) (D := D) (ad := ad) (L := L) (z := z) hT (by omega) ha hk (n := n) (by omega) (by omega) 0 (by omega) (by omega)
          rw [zit_0] at hh
          exact hh
        · refine g_ldc (x := -1000003) tw_306 (by decide) dX6_hours_39 ?_
          exact i_iret rfl dX6_hours_41 (⟨(by (repeat' split) <;> first | rfl | (exfalso; omega) | (congr 2; omega)), (by (repeat' split) <;> first | rfl | (exfalso; omega) | (congr 2; omega))⟩)
      · refine g_ldc (x := -1000001) tw_253 (by decide) dX6_hours_21 ?_
        exact i_iret rfl dX6_hours_23 (⟨(by (repeat' split) <;> first | rfl | (exfalso; omega) | (congr 2; omega)), (by (repeat' split) <;> first | rfl | (exfalso; omega) | (congr 2; omega))⟩)
  · refine g_ldc (x := -1000002) tw_465 (by decide) dX6_hours_7 ?_
    exact i_iret rfl dX6_hours_9 (⟨(by (repeat' split) <;> first | rfl | (exfalso; omega) | (congr 2; omega)), (by (repeat' split) <;> first | rfl | (exfalso; omega) | (congr 2; omega))⟩)

set_option maxRecDepth 100000 in
theorem c_xBeat (hT : zTM (tb 23 ι)) (ha : 0 ≤ ι 43 1 ∧ ι 43 1 < 24) (hk : 0 ≤ ι 43 2 ∧ ι 43 2 ≤ 24) {b s : Int} (hb : zB b) (hs : zB s) : zCi l (zc D ad L z) mX6_beat 3 [zR 8, zI b, zI s] ι (fun v ι' => v = some (zI (if ¬ ((0 ≤ b ∧ b < tb 23 ι 1) ∧ (0 ≤ s ∧ s < tb 23 ι 0)) then -1000001 else if tb 23 ι (30 + b) = s then -1000002 else tb 23 ι (30 + b))) ∧ ι' = if ((0 ≤ b ∧ b < tb 23 ι 1) ∧ (0 ≤ s ∧ s < tb 23 ι 0)) ∧ ¬ tb 23 ι (30 + b) = s then tp 23 (ru (tb 23 ι) (30 + b) s) (zke ι) else ι) := by
  refine zCt_of (by decide) (Nat.le_of_ble_eq_true rfl) 1 rfl ?_
  obtain ⟨hV, hNB, hH9⟩ := id hT
  obtain ⟨hV0, hV1, hV2, hV3, hV4, hV5, hVk, hVw⟩ := id hV
  have q0 := tb_0 23 ι
  have q1 := tb_1 23 ι
  have q2 := tb_2 23 ι
  have q3 := tb_3 23 ι
  have q4 := tb_4 23 ι
  have q5 := tb_5 23 ι
  refine g_aload_n (x := 8) rfl dX6_beat_0 ?_
  refine g_get fgX6_26 zcl_6 (congrArg Prod.fst sh_8) (by decide) rg_8_2 dX6_beat_1 ?_
  refine g_iload_n (x := b) rfl dX6_beat_4 ?_
  refine i_callVp mvX5_hasBeat tw_508 (ci := 5) (congrArg Prod.fst sh_23) rfl (by decide) (c_hasBeat tt_23 ⟨by omega, by omega⟩ ⟨by omega, by omega⟩) (by decide) (st' := []) rfl (Nat.le_of_ble_eq_true rfl) rfl dX6_beat_5 ?_
  refine g_nm (fun b5 hq0 => ?_)
  have hb5 : ((0 ≤ b ∧ b < ι 23 5) ∧ b5 = 1) ∨ (¬ (0 ≤ b ∧ b < ι 23 5) ∧ b5 = 0) := zb_c hq0
  clear hq0
  refine g_if_eq ⟨by omega, by omega⟩ (t := 22) dX6_beat_8 (by decide) (fun h8 => ?_) (fun h8 => ?_)
  · refine g_ldc (x := -1000001) tw_253 (by decide) dX6_beat_22 ?_
    exact i_iret rfl dX6_beat_24 (⟨(by (repeat' split) <;> first | rfl | (exfalso; omega) | (congr 2; omega)), (by (repeat' split) <;> first | rfl | (exfalso; omega) | (congr 2; omega))⟩)
  · refine g_aload_n (x := 8) rfl dX6_beat_11 ?_
    refine g_get fgX6_26 zcl_6 (congrArg Prod.fst sh_8) (by decide) rg_8_2 dX6_beat_12 ?_
    refine g_iload_n (x := s) rfl dX6_beat_15 ?_
    refine i_callVp mvX5_hasStreet tw_512 (ci := 5) (congrArg Prod.fst sh_23) rfl (by decide) (c_hasStreet tt_23 ⟨by omega, by omega⟩ ⟨by omega, by omega⟩) (by decide) (st' := []) rfl (Nat.le_of_ble_eq_true rfl) rfl dX6_beat_16 ?_
    refine g_nm (fun b16 hq0 => ?_)
    have hb16 : ((0 ≤ s ∧ s < ι 23 4) ∧ b16 = 1) ∨ (¬ (0 ≤ s ∧ s < ι 23 4) ∧ b16 = 0) := zb_c hq0
    clear hq0
    refine g_if_ne ⟨by omega, by omega⟩ (t := 25) dX6_beat_19 (by decide) (fun h19 => ?_) (fun h19 => ?_)
    · refine g_aload_n (x := 8) rfl dX6_beat_25 ?_
      refine g_get fgX6_26 zcl_6 (congrArg Prod.fst sh_8) (by decide) rg_8_2 dX6_beat_26 ?_
      refine g_get fgX6_157 zcl_5 (congrArg Prod.fst sh_23) (by decide) rg_23_3 dX6_beat_29 ?_
      refine g_iload_n (x := b) rfl dX6_beat_32 ?_
      refine g_iald sh_27 (by decide) (by omega) (by omega) (by decide) ag_27 dX6_beat_33 ?_
      have qb := tb_w 23 ι (k := b) (by omega) (by omega)
      rw [show ι 27 b = tb 23 ι (30 + b) from qb.symm]
      have hwb := hVw b (by omega) (by omega)
      refine g_istore_n (ls' := [some (zR 8), some (zI b), some (zI s), some (zI (tb 23 ι (30 + b)))]) dX6_beat_34 (by decide) rfl ?_
      refine g_iload_n (x := (tb 23 ι (30 + b))) rfl dX6_beat_35 ?_
      refine g_iload_n (x := s) rfl dX6_beat_36 ?_
      refine g_icmp_ne ⟨by omega, by omega⟩ ⟨by omega, by omega⟩ (t := 43) dX6_beat_37 (by decide) (fun h37 => ?_) (fun h37 => ?_)
      · refine g_aload_n (x := 8) rfl dX6_beat_43 ?_
        refine g_get fgX6_42 zcl_6 (congrArg Prod.fst sh_8) (by decide) rg_8_6 dX6_beat_44 ?_
        refine g_aload_n (x := 8) rfl dX6_beat_47 ?_
        refine g_get fgX6_26 zcl_6 (congrArg Prod.fst sh_8) (by decide) rg_8_2 dX6_beat_48 ?_
        refine i_callV mvX0_keep tw_466 (ci := 0) (congrArg Prod.fst sh_43) rfl (by decide) (c_keep ha hk) (by decide) (st' := []) rfl (Nat.le_of_ble_eq_true rfl) rfl dX6_beat_51 (fun v_1 ιm hq_51 => ?_)
        obtain ⟨rfl, hιm⟩ := hq_51
        have hιm : ιm = zke ι := hιm
        refine g_aload_n (x := 8) rfl dX6_beat_54 ?_
        refine g_get fgX6_26 zcl_6 (congrArg Prod.fst sh_8) (by decide) rg_8_2 dX6_beat_55 ?_
        refine g_get fgX6_157 zcl_5 (congrArg Prod.fst sh_23) (by decide) rg_23_3 dX6_beat_58 ?_
        refine g_iload_n (x := b) rfl dX6_beat_61 ?_
        refine g_iload_n (x := s) rfl dX6_beat_62 ?_
        obtain ⟨ι2, hι2⟩ : ∃ y_, y_ = iup ιm 27 b s := ⟨_, rfl⟩
        refine i_iast sh_27 (by decide) (by decide) (by omega) (by omega) (by decide) (ι1 := ι2) (by rw [hι2]; exact au_27) dX6_beat_63 ?_
        refine g_iload_n (x := (tb 23 ι (30 + b))) rfl dX6_beat_64 ?_
        exact i_iret rfl dX6_beat_65 (⟨(by (repeat' split) <;> first | rfl | (exfalso; omega) | (congr 2; omega)), by rw [if_pos (by omega), hι2, hιm, tp_up_w 23 (zke ι) (by omega) (by omega), zke_tb ha]⟩)
      · refine g_ldc (x := -1000002) tw_465 (by decide) dX6_beat_40 ?_
        exact i_iret rfl dX6_beat_42 (⟨(by (repeat' split) <;> first | rfl | (exfalso; omega) | (congr 2; omega)), (by (repeat' split) <;> first | rfl | (exfalso; omega) | (congr 2; omega))⟩)
    · refine g_ldc (x := -1000001) tw_253 (by decide) dX6_beat_22 ?_
      exact i_iret rfl dX6_beat_24 (⟨(by (repeat' split) <;> first | rfl | (exfalso; omega) | (congr 2; omega)), (by (repeat' split) <;> first | rfl | (exfalso; omega) | (congr 2; omega))⟩)

set_option maxRecDepth 100000 in
theorem c_xReach (hT : zTM (tb 23 ι)) (ha : 0 ≤ ι 43 1 ∧ ι 43 1 < 24) (hk : 0 ≤ ι 43 2 ∧ ι 43 2 ≤ 24) {n : Int} (hn : zB n) : zCi l (zc D ad L z) mX6_reach 3 [zR 8, zI n] ι (fun v ι' => v = some (zI (if ¬ (0 < tb 23 ι 0) then -1000002 else if ¬ (0 ≤ n ∧ n ≤ 3) then -1000001 else tb 23 ι 2)) ∧ ι' = if 0 < tb 23 ι 0 ∧ (0 ≤ n ∧ n ≤ 3) then tp 23 (ru (tb 23 ι) 2 n) (zke ι) else ι) := by
  refine zCt_of (by decide) (Nat.le_of_ble_eq_true rfl) 1 rfl ?_
  obtain ⟨hV, hNB, hH9⟩ := id hT
  obtain ⟨hV0, hV1, hV2, hV3, hV4, hV5, hVk, hVw⟩ := id hV
  have q0 := tb_0 23 ι
  have q1 := tb_1 23 ι
  have q2 := tb_2 23 ι
  have q3 := tb_3 23 ι
  have q4 := tb_4 23 ι
  have q5 := tb_5 23 ι
  refine g_aload_n (x := 8) rfl dX6_reach_0 ?_
  refine i_callVp mvX6_noTown tw_461 (ci := 6) (congrArg Prod.fst sh_8) rfl (by decide) (c_noTown ⟨by omega, by omega⟩) (by decide) (st' := []) rfl (Nat.le_of_ble_eq_true rfl) rfl dX6_reach_1 ?_
  refine g_nm (fun b1 hq0 => ?_)
  have hb1 : ((ι 23 4 = 0) ∧ b1 = 1) ∨ (¬ (ι 23 4 = 0) ∧ b1 = 0) := zb_c hq0
  clear hq0
  refine g_if_eq ⟨by omega, by omega⟩ (t := 10) dX6_reach_4 (by decide) (fun h4 => ?_) (fun h4 => ?_)
  · refine g_iload_n (x := n) rfl dX6_reach_10 ?_
    refine g_if_lt ⟨by omega, by omega⟩ (t := 19) dX6_reach_11 (by decide) (fun h11 => ?_) (fun h11 => ?_)
    · refine g_ldc (x := -1000001) tw_253 (by decide) dX6_reach_19 ?_
      exact i_iret rfl dX6_reach_21 (⟨(by (repeat' split) <;> first | rfl | (exfalso; omega) | (congr 2; omega)), (by (repeat' split) <;> first | rfl | (exfalso; omega) | (congr 2; omega))⟩)
    · refine g_iload_n (x := n) rfl dX6_reach_14 ?_
      refine g_iconst (x := 3) rfl dX6_reach_15 ?_
      refine g_icmp_le ⟨by omega, by omega⟩ (by decide) (t := 22) dX6_reach_16 (by decide) (fun h16 => ?_) (fun h16 => ?_)
      · refine g_aload_n (x := 8) rfl dX6_reach_22 ?_
        refine g_get fgX6_26 zcl_6 (congrArg Prod.fst sh_8) (by decide) rg_8_2 dX6_reach_23 ?_
        refine g_get fgX6_160 zcl_5 (congrArg Prod.fst sh_23) (by decide) ig_23_6 dX6_reach_26 ?_
        rw [← q2]
        refine g_istore_n (ls' := [some (zR 8), some (zI n), some (zI (tb 23 ι 2))]) dX6_reach_29 (by decide) rfl ?_
        refine g_aload_n (x := 8) rfl dX6_reach_30 ?_
        refine g_get fgX6_42 zcl_6 (congrArg Prod.fst sh_8) (by decide) rg_8_6 dX6_reach_31 ?_
        refine g_aload_n (x := 8) rfl dX6_reach_34 ?_
        refine g_get fgX6_26 zcl_6 (congrArg Prod.fst sh_8) (by decide) rg_8_2 dX6_reach_35 ?_
        refine i_callV mvX0_keep tw_466 (ci := 0) (congrArg Prod.fst sh_43) rfl (by decide) (c_keep ha hk) (by decide) (st' := []) rfl (Nat.le_of_ble_eq_true rfl) rfl dX6_reach_38 (fun v_1 ιm hq_38 => ?_)
        obtain ⟨rfl, hιm⟩ := hq_38
        have hιm : ιm = zke ι := hιm
        refine g_aload_n (x := 8) rfl dX6_reach_41 ?_
        refine g_get fgX6_26 zcl_6 (congrArg Prod.fst sh_8) (by decide) rg_8_2 dX6_reach_42 ?_
        refine g_iload_n (x := n) rfl dX6_reach_45 ?_
        obtain ⟨ι2, hι2⟩ : ∃ y_, y_ = iup ιm 23 6 n := ⟨_, rfl⟩
        refine i_put fwX6_160 zcl_5 (congrArg Prod.fst sh_23) (by decide) (by decide) (ι1 := ι2) (by rw [hι2]; exact iu_23_6) dX6_reach_46 ?_
        refine g_iload_n (x := (tb 23 ι 2)) rfl dX6_reach_49 ?_
        exact i_iret rfl dX6_reach_50 (⟨(by (repeat' split) <;> first | rfl | (exfalso; omega) | (congr 2; omega)), by rw [if_pos (by omega), hι2, hιm, tp_up_s 23 (zke ι) (by decide) (by decide), zke_tb ha]; rfl⟩)
      · refine g_ldc (x := -1000001) tw_253 (by decide) dX6_reach_19 ?_
        exact i_iret rfl dX6_reach_21 (⟨(by (repeat' split) <;> first | rfl | (exfalso; omega) | (congr 2; omega)), (by (repeat' split) <;> first | rfl | (exfalso; omega) | (congr 2; omega))⟩)
  · refine g_ldc (x := -1000002) tw_465 (by decide) dX6_reach_7 ?_
    exact i_iret rfl dX6_reach_9 (⟨(by (repeat' split) <;> first | rfl | (exfalso; omega) | (congr 2; omega)), (by (repeat' split) <;> first | rfl | (exfalso; omega) | (congr 2; omega))⟩)

set_option maxRecDepth 100000 in
theorem c_xLull (hT : zTM (tb 23 ι)) (ha : 0 ≤ ι 43 1 ∧ ι 43 1 < 24) (hk : 0 ≤ ι 43 2 ∧ ι 43 2 ≤ 24) {s n : Int} (hs : zB s) (hn : zB n) : zCi l (zc D ad L z) mX6_lull 3 [zR 8, zI s, zI n] ι (fun v ι' => v = some (zI (if ¬ ((0 ≤ s ∧ s < tb 23 ι 0) ∧ (1 ≤ n ∧ n ≤ 20)) then -1000001 else zmin (tb 23 ι (14 + s) + n) 20)) ∧ ι' = if (0 ≤ s ∧ s < tb 23 ι 0) ∧ (1 ≤ n ∧ n ≤ 20) then tp 23 (ru (tb 23 ι) (14 + s) (zmin (tb 23 ι (14 + s) + n) 20)) (zke ι) else ι) := by
  refine zCt_of (by decide) (Nat.le_of_ble_eq_true rfl) 0 rfl ?_
  obtain ⟨hV, hNB, hH9⟩ := id hT
  obtain ⟨hV0, hV1, hV2, hV3, hV4, hV5, hVk, hVw⟩ := id hV
  have q0 := tb_0 23 ι
  have q1 := tb_1 23 ι
  have q2 := tb_2 23 ι
  have q3 := tb_3 23 ι
  have q4 := tb_4 23 ι
  have q5 := tb_5 23 ι
  refine g_aload_n (x := 8) rfl dX6_lull_0 ?_
  refine g_get fgX6_26 zcl_6 (congrArg Prod.fst sh_8) (by decide) rg_8_2 dX6_lull_1 ?_
  refine g_iload_n (x := s) rfl dX6_lull_4 ?_
  refine i_callVp mvX5_hasStreet tw_512 (ci := 5) (congrArg Prod.fst sh_23) rfl (by decide) (c_hasStreet tt_23 ⟨by omega, by omega⟩ ⟨by omega, by omega⟩) (by decide) (st' := []) rfl (Nat.le_of_ble_eq_true rfl) rfl dX6_lull_5 ?_
  refine g_nm (fun b5 hq0 => ?_)
  have hb5 : ((0 ≤ s ∧ s < ι 23 4) ∧ b5 = 1) ∨ (¬ (0 ≤ s ∧ s < ι 23 4) ∧ b5 = 0) := zb_c hq0
  clear hq0
  refine g_if_eq ⟨by omega, by omega⟩ (t := 22) dX6_lull_8 (by decide) (fun h8 => ?_) (fun h8 => ?_)
  · refine g_ldc (x := -1000001) tw_253 (by decide) dX6_lull_22 ?_
    exact i_iret rfl dX6_lull_24 (⟨(by (repeat' split) <;> first | rfl | (exfalso; omega) | (congr 2; omega)), (by (repeat' split) <;> first | rfl | (exfalso; omega) | (congr 2; omega))⟩)
  · refine g_iload_n (x := n) rfl dX6_lull_11 ?_
    refine g_iconst (x := 1) rfl dX6_lull_12 ?_
    refine g_icmp_lt ⟨by omega, by omega⟩ (by decide) (t := 22) dX6_lull_13 (by decide) (fun h13 => ?_) (fun h13 => ?_)
    · refine g_ldc (x := -1000001) tw_253 (by decide) dX6_lull_22 ?_
      exact i_iret rfl dX6_lull_24 (⟨(by (repeat' split) <;> first | rfl | (exfalso; omega) | (congr 2; omega)), (by (repeat' split) <;> first | rfl | (exfalso; omega) | (congr 2; omega))⟩)
    · refine g_iload_n (x := n) rfl dX6_lull_16 ?_
      refine g_bipush (x := 20) (by decide) dX6_lull_17 ?_
      refine g_icmp_le ⟨by omega, by omega⟩ (by decide) (t := 25) dX6_lull_19 (by decide) (fun h19 => ?_) (fun h19 => ?_)
      · refine g_aload_n (x := 8) rfl dX6_lull_25 ?_
        refine g_get fgX6_42 zcl_6 (congrArg Prod.fst sh_8) (by decide) rg_8_6 dX6_lull_26 ?_
        refine g_aload_n (x := 8) rfl dX6_lull_29 ?_
        refine g_get fgX6_26 zcl_6 (congrArg Prod.fst sh_8) (by decide) rg_8_2 dX6_lull_30 ?_
        refine i_callV mvX0_keep tw_466 (ci := 0) (congrArg Prod.fst sh_43) rfl (by decide) (c_keep ha hk) (by decide) (st' := []) rfl (Nat.le_of_ble_eq_true rfl) rfl dX6_lull_33 (fun v_1 ιm hq_33 => ?_)
        obtain ⟨rfl, hιm⟩ := hq_33
        have hιm : ιm = zke ι := hιm
        refine g_aload_n (x := 8) rfl dX6_lull_36 ?_
        refine g_get fgX6_26 zcl_6 (congrArg Prod.fst sh_8) (by decide) rg_8_2 dX6_lull_37 ?_
        refine g_get fgX6_163 zcl_5 (congrArg Prod.fst sh_23) (by decide) rg_23_1 dX6_lull_40 ?_
        refine g_iload_n (x := s) rfl dX6_lull_43 ?_
        refine g_aload_n (x := 8) rfl dX6_lull_44 ?_
        refine g_get fgX6_26 zcl_6 (congrArg Prod.fst sh_8) (by decide) rg_8_2 dX6_lull_45 ?_
        refine g_get fgX6_163 zcl_5 (congrArg Prod.fst sh_23) (by decide) rg_23_1 dX6_lull_48 ?_
        refine g_iload_n (x := s) rfl dX6_lull_51 ?_
        refine g_iald sh_25 (by decide) (by omega) (by omega) (by decide) ag_25 dX6_lull_52 ?_
        have hk3 := hVk s (by omega) (by omega)
        have qd : ιm 25 s = tb 23 ι (14 + s) := by rw [← zke_tb ha, ← hιm, tb_d 23 ιm (by omega) (by omega)]
        rw [qd]
        refine g_iload_n (x := n) rfl dX6_lull_53 ?_
        refine g_iadd dX6_lull_54 ?_
        refine g_bipush (x := 20) (by decide) dX6_lull_55 ?_
        refine g_mmin ⟨by omega, by omega⟩ (by decide) (by decide) (Nat.le_of_ble_eq_true rfl) tw_524 mq_min2 mq_min3 mq_min4 dX6_lull_57 ?_
        obtain ⟨ι2, hι2⟩ : ∃ y_, y_ = iup ιm 25 s (zmin ((tb 23 ι (14 + s)) + n) 20) := ⟨_, rfl⟩
        refine i_iast sh_25 (by decide) (by decide) (by omega) (by omega) (by decide) (ι1 := ι2) (by rw [hι2]; exact au_25) dX6_lull_60 ?_
        refine g_aload_n (x := 8) rfl dX6_lull_61 ?_
        refine g_get fgX6_26 zcl_6 (congrArg Prod.fst sh_8) (by decide) rg_8_2 dX6_lull_62 ?_
        refine g_get fgX6_163 zcl_5 (congrArg Prod.fst sh_23) (by decide) rg_23_1 dX6_lull_65 ?_
        refine g_iload_n (x := s) rfl dX6_lull_68 ?_
        refine g_iald sh_25 (by decide) (by omega) (by omega) (by decide) ag_25 dX6_lull_69 ?_
        exact i_iret rfl dX6_lull_70 (⟨by rw [if_neg (by omega), hι2, iup_s], by rw [if_pos (by omega), hι2, hιm, tp_up_d 23 (zke ι) (by omega) (by omega), zke_tb ha]⟩)
      · refine g_ldc (x := -1000001) tw_253 (by decide) dX6_lull_22 ?_
        exact i_iret rfl dX6_lull_24 (⟨(by (repeat' split) <;> first | rfl | (exfalso; omega) | (congr 2; omega)), (by (repeat' split) <;> first | rfl | (exfalso; omega) | (congr 2; omega))⟩)

set_option maxRecDepth 100000 in
theorem c_xBring (hT : zTM (tb 23 ι)) (ha : 0 ≤ ι 43 1 ∧ ι 43 1 < 24) (hk : 0 ≤ ι 43 2 ∧ ι 43 2 ≤ 24) {s n : Int} (hs : zB s) (hn : zB n) : zCi l (zc D ad L z) mX6_bring 3 [zR 8, zI s, zI n] ι (fun v ι' => v = some (zI (if ¬ ((0 ≤ s ∧ s < tb 23 ι 0) ∧ (1 ≤ n ∧ n ≤ 60)) then -1000001 else zmin (tb 23 ι (22 + s) + n) 60)) ∧ ι' = if (0 ≤ s ∧ s < tb 23 ι 0) ∧ (1 ≤ n ∧ n ≤ 60) then tp 23 (ru (tb 23 ι) (22 + s) (zmin (tb 23 ι (22 + s) + n) 60)) (zke ι) else ι) := by
  refine zCt_of (by decide) (Nat.le_of_ble_eq_true rfl) 0 rfl ?_
  obtain ⟨hV, hNB, hH9⟩ := id hT
  obtain ⟨hV0, hV1, hV2, hV3, hV4, hV5, hVk, hVw⟩ := id hV
  have q0 := tb_0 23 ι
  have q1 := tb_1 23 ι
  have q2 := tb_2 23 ι
  have q3 := tb_3 23 ι
  have q4 := tb_4 23 ι
  have q5 := tb_5 23 ι
  refine g_aload_n (x := 8) rfl dX6_bring_0 ?_
  refine g_get fgX6_26 zcl_6 (congrArg Prod.fst sh_8) (by decide) rg_8_2 dX6_bring_1 ?_
  refine g_iload_n (x := s) rfl dX6_bring_4 ?_
  refine i_callVp mvX5_hasStreet tw_512 (ci := 5) (congrArg Prod.fst sh_23) rfl (by decide) (c_hasStreet tt_23 ⟨by omega, by omega⟩ ⟨by omega, by omega⟩) (by decide) (st' := []) rfl (Nat.le_of_ble_eq_true rfl) rfl dX6_bring_5 ?_
  refine g_nm (fun b5 hq0 => ?_)
  have hb5 : ((0 ≤ s ∧ s < ι 23 4) ∧ b5 = 1) ∨ (¬ (0 ≤ s ∧ s < ι 23 4) ∧ b5 = 0) := zb_c hq0
  clear hq0
  refine g_if_eq ⟨by omega, by omega⟩ (t := 22) dX6_bring_8 (by decide) (fun h8 => ?_) (fun h8 => ?_)
  · refine g_ldc (x := -1000001) tw_253 (by decide) dX6_bring_22 ?_
    exact i_iret rfl dX6_bring_24 (⟨(by (repeat' split) <;> first | rfl | (exfalso; omega) | (congr 2; omega)), (by (repeat' split) <;> first | rfl | (exfalso; omega) | (congr 2; omega))⟩)
  · refine g_iload_n (x := n) rfl dX6_bring_11 ?_
    refine g_iconst (x := 1) rfl dX6_bring_12 ?_
    refine g_icmp_lt ⟨by omega, by omega⟩ (by decide) (t := 22) dX6_bring_13 (by decide) (fun h13 => ?_) (fun h13 => ?_)
    · refine g_ldc (x := -1000001) tw_253 (by decide) dX6_bring_22 ?_
      exact i_iret rfl dX6_bring_24 (⟨(by (repeat' split) <;> first | rfl | (exfalso; omega) | (congr 2; omega)), (by (repeat' split) <;> first | rfl | (exfalso; omega) | (congr 2; omega))⟩)
    · refine g_iload_n (x := n) rfl dX6_bring_16 ?_
      refine g_bipush (x := 60) (by decide) dX6_bring_17 ?_
      refine g_icmp_le ⟨by omega, by omega⟩ (by decide) (t := 25) dX6_bring_19 (by decide) (fun h19 => ?_) (fun h19 => ?_)
      · refine g_aload_n (x := 8) rfl dX6_bring_25 ?_
        refine g_get fgX6_42 zcl_6 (congrArg Prod.fst sh_8) (by decide) rg_8_6 dX6_bring_26 ?_
        refine g_aload_n (x := 8) rfl dX6_bring_29 ?_
        refine g_get fgX6_26 zcl_6 (congrArg Prod.fst sh_8) (by decide) rg_8_2 dX6_bring_30 ?_
        refine i_callV mvX0_keep tw_466 (ci := 0) (congrArg Prod.fst sh_43) rfl (by decide) (c_keep ha hk) (by decide) (st' := []) rfl (Nat.le_of_ble_eq_true rfl) rfl dX6_bring_33 (fun v_1 ιm hq_33 => ?_)
        obtain ⟨rfl, hιm⟩ := hq_33
        have hιm : ιm = zke ι := hιm
        refine g_aload_n (x := 8) rfl dX6_bring_36 ?_
        refine g_get fgX6_26 zcl_6 (congrArg Prod.fst sh_8) (by decide) rg_8_2 dX6_bring_37 ?_
        refine g_get fgX6_172 zcl_5 (congrArg Prod.fst sh_23) (by decide) rg_23_2 dX6_bring_40 ?_
        refine g_iload_n (x := s) rfl dX6_bring_43 ?_
        refine g_aload_n (x := 8) rfl dX6_bring_44 ?_
        refine g_get fgX6_26 zcl_6 (congrArg Prod.fst sh_8) (by decide) rg_8_2 dX6_bring_45 ?_
        refine g_get fgX6_172 zcl_5 (congrArg Prod.fst sh_23) (by decide) rg_23_2 dX6_bring_48 ?_
        refine g_iload_n (x := s) rfl dX6_bring_51 ?_
        refine g_iald sh_26 (by decide) (by omega) (by omega) (by decide) ag_26 dX6_bring_52 ?_
        have hk3 := hVk s (by omega) (by omega)
        have qd : ιm 26 s = tb 23 ι (22 + s) := by rw [← zke_tb ha, ← hιm, tb_l 23 ιm (by omega) (by omega)]
        rw [qd]
        refine g_iload_n (x := n) rfl dX6_bring_53 ?_
        refine g_iadd dX6_bring_54 ?_
        refine g_bipush (x := 60) (by decide) dX6_bring_55 ?_
        refine g_mmin ⟨by omega, by omega⟩ (by decide) (by decide) (Nat.le_of_ble_eq_true rfl) tw_524 mq_min2 mq_min3 mq_min4 dX6_bring_57 ?_
        obtain ⟨ι2, hι2⟩ : ∃ y_, y_ = iup ιm 26 s (zmin ((tb 23 ι (22 + s)) + n) 60) := ⟨_, rfl⟩
        refine i_iast sh_26 (by decide) (by decide) (by omega) (by omega) (by decide) (ι1 := ι2) (by rw [hι2]; exact au_26) dX6_bring_60 ?_
        refine g_aload_n (x := 8) rfl dX6_bring_61 ?_
        refine g_get fgX6_26 zcl_6 (congrArg Prod.fst sh_8) (by decide) rg_8_2 dX6_bring_62 ?_
        refine g_get fgX6_172 zcl_5 (congrArg Prod.fst sh_23) (by decide) rg_23_2 dX6_bring_65 ?_
        refine g_iload_n (x := s) rfl dX6_bring_68 ?_
        refine g_iald sh_26 (by decide) (by omega) (by omega) (by decide) ag_26 dX6_bring_69 ?_
        exact i_iret rfl dX6_bring_70 (⟨by rw [if_neg (by omega), hι2, iup_s], by rw [if_pos (by omega), hι2, hιm, tp_up_l 23 (zke ι) (by omega) (by omega), zke_tb ha]⟩)
      · refine g_ldc (x := -1000001) tw_253 (by decide) dX6_bring_22 ?_
        exact i_iret rfl dX6_bring_24 (⟨(by (repeat' split) <;> first | rfl | (exfalso; omega) | (congr 2; omega)), (by (repeat' split) <;> first | rfl | (exfalso; omega) | (congr 2; omega))⟩)

set_option maxRecDepth 100000 in
theorem c_xUndo (ha : 0 ≤ ι 43 1 ∧ ι 43 1 < 24) (hk : 0 ≤ ι 43 2 ∧ ι 43 2 ≤ 24) : zCi l (zc D ad L z) mX6_undo 3 [zR 8] ι (fun v ι' => v = some (zI (if ι 43 2 = 0 then -1000002 else ι 43 2 - 1)) ∧ ι' = if ι 43 2 = 0 then ι else tp 23 (tb (45 + 5 * ((ι 43 1 + 24 - 1) % 24).toNat) ι) (iup (iup ι 43 1 ((ι 43 1 + 24 - 1) % 24)) 43 2 (ι 43 2 - 1))) := by
  refine zCt_of (by decide) (Nat.le_of_ble_eq_true rfl) 0 rfl ?_
  refine g_aload_n (x := 8) rfl dX6_undo_0 ?_
  refine g_get fgX6_42 zcl_6 (congrArg Prod.fst sh_8) (by decide) rg_8_6 dX6_undo_1 ?_
  refine g_aload_n (x := 8) rfl dX6_undo_4 ?_
  refine g_get fgX6_26 zcl_6 (congrArg Prod.fst sh_8) (by decide) rg_8_2 dX6_undo_5 ?_
  refine i_callV mvX0_takeBack tw_533 (ci := 0) (congrArg Prod.fst sh_43) rfl (by decide) (c_takeBack ha hk) (by decide) (st' := []) rfl (Nat.le_of_ble_eq_true rfl) rfl dX6_undo_8 (fun v_1 ι1 hq_8 => ?_)
  obtain ⟨rfl, hι1⟩ := hq_8
  obtain ⟨bb, hbb⟩ : ∃ bb, bb = (if ι 43 2 = 0 then (0 : Int) else 1) := ⟨_, rfl⟩
  have hb2 : (ι 43 2 = 0 ∧ bb = 0) ∨ (¬ ι 43 2 = 0 ∧ bb = 1) := by
    rw [hbb]
    split
    · exact Or.inl ⟨by assumption, rfl⟩
    · exact Or.inr ⟨by assumption, rfl⟩
  rw [← hbb]
  refine g_if_eq ⟨by omega, by omega⟩ (t := 24) dX6_undo_11 (by decide) (fun h11 => ?_) (fun h11 => ?_)
  · refine g_ldc (x := -1000002) tw_465 (by decide) dX6_undo_24 ?_
    exact i_iret rfl dX6_undo_26 (⟨by rw [if_pos (by omega)], hι1⟩)
  · refine g_aload_n (x := 8) rfl dX6_undo_14 ?_
    refine g_get fgX6_42 zcl_6 (congrArg Prod.fst sh_8) (by decide) rg_8_6 dX6_undo_15 ?_
    refine g_get fgX6_178 zcl_0 (congrArg Prod.fst sh_43) (by decide) ig_43_2 dX6_undo_18 ?_
    refine g_goto (t := 26) dX6_undo_21 (by decide) ?_
    exact i_iret rfl dX6_undo_26 (⟨by rw [if_neg (by omega), hι1, if_neg (by omega), tp_o 23 _ _ (by omega) 2, iup_s], hι1⟩)

set_option maxRecDepth 100000 in
theorem c_xStreet (hT : zTM (tb 23 ι)) {s w : Int} (hs : zB s) (hw : zB w) : zCi l (zc D ad L z) mX6_street 3 [zR 8, zI s, zI w] ι (zP (zI (if ¬ (0 ≤ s ∧ s < tb 23 ι 0) then -1000001 else if w = 0 then tb 23 ι (14 + s) else if w = 1 then tb 23 ι (22 + s) else if w = 2 then zhr (tb 23 ι) s else if w = 3 then zdeep (tb 23 ι (6 + s)) (tb 23 ι (14 + s)) (zhr (tb 23 ι) s) (tb 23 ι 4) else if w = 4 then zstR (tb 23 ι) s else -1000001)) ι) := by
  refine zCt_of (by decide) (Nat.le_of_ble_eq_true rfl) 0 rfl ?_
  obtain ⟨hV, hNB, hH9⟩ := id hT
  obtain ⟨hV0, hV1, hV2, hV3, hV4, hV5, hVk, hVw⟩ := id hV
  have q0 := tb_0 23 ι
  have q1 := tb_1 23 ι
  have q2 := tb_2 23 ι
  have q3 := tb_3 23 ι
  have q4 := tb_4 23 ι
  have q5 := tb_5 23 ι
  refine g_aload_n (x := 8) rfl dX6_street_0 ?_
  refine g_get fgX6_26 zcl_6 (congrArg Prod.fst sh_8) (by decide) rg_8_2 dX6_street_1 ?_
  refine g_iload_n (x := s) rfl dX6_street_4 ?_
  refine i_callVp mvX5_hasStreet tw_512 (ci := 5) (congrArg Prod.fst sh_23) rfl (by decide) (c_hasStreet tt_23 ⟨by omega, by omega⟩ ⟨by omega, by omega⟩) (by decide) (st' := []) rfl (Nat.le_of_ble_eq_true rfl) rfl dX6_street_5 ?_
  refine g_nm (fun b5 hq0 => ?_)
  have hb5 : ((0 ≤ s ∧ s < ι 23 4) ∧ b5 = 1) ∨ (¬ (0 ≤ s ∧ s < ι 23 4) ∧ b5 = 0) := zb_c hq0
  clear hq0
  refine g_if_ne ⟨by omega, by omega⟩ (t := 14) dX6_street_8 (by decide) (fun h8 => ?_) (fun h8 => ?_)
  · have hB := hNB (by omega)
    have hk3 := hVk s (by omega) (by omega)
    have qk : ι 24 s = tb 23 ι (6 + s) := (tb_k 23 ι (by omega) (by omega)).symm
    have qd : ι 25 s = tb 23 ι (14 + s) := (tb_d 23 ι (by omega) (by omega)).symm
    have ql : ι 26 s = tb 23 ι (22 + s) := (tb_l 23 ι (by omega) (by omega)).symm
    have hz1 : zhr (tb 23 ι) s = 0 ∨ zhr (tb 23 ι) s = 1 := by unfold zhr zhf; split <;> simp
    refine g_iload_n (x := w) rfl dX6_street_14 ?_
    by_cases hsw : w < 0 ∨ 4 < w
    · refine g_tswOut ⟨by omega, by omega⟩ dX6_street_15 hsw (t := 159) (by decide) ?_
      refine g_ldc (x := -1000001) tw_253 (by decide) dX6_street_159 ?_
      exact i_iret rfl dX6_street_161 (⟨by rw [if_neg (by omega), if_neg (by omega), if_neg (by omega), if_neg (by omega), if_neg (by omega), if_neg (by omega)], rfl⟩)
    · rcases (show w = 0 ∨ w = 1 ∨ w = 2 ∨ w = 3 ∨ w = 4 by omega) with hsv | hsv | hsv | hsv | hsv
      · refine g_tswIn ⟨by omega, by omega⟩ dX6_street_15 (by omega) (by omega) (off := 33) (by rw [hsv]; rfl) (t := 48) (by decide) ?_
        refine g_aload_n (x := 8) rfl dX6_street_48 ?_
        refine g_get fgX6_26 zcl_6 (congrArg Prod.fst sh_8) (by decide) rg_8_2 dX6_street_49 ?_
        refine g_get fgX6_163 zcl_5 (congrArg Prod.fst sh_23) (by decide) rg_23_1 dX6_street_52 ?_
        refine g_iload_n (x := s) rfl dX6_street_55 ?_
        refine g_iald sh_25 (by decide) (by omega) (by omega) (by decide) ag_25 dX6_street_56 ?_
        exact i_iret rfl dX6_street_57 (⟨by rw [if_neg (by omega), if_pos hsv, qd], rfl⟩)
      · refine g_tswIn ⟨by omega, by omega⟩ dX6_street_15 (by omega) (by omega) (off := 43) (by rw [hsv]; rfl) (t := 58) (by decide) ?_
        refine g_aload_n (x := 8) rfl dX6_street_58 ?_
        refine g_get fgX6_26 zcl_6 (congrArg Prod.fst sh_8) (by decide) rg_8_2 dX6_street_59 ?_
        refine g_get fgX6_172 zcl_5 (congrArg Prod.fst sh_23) (by decide) rg_23_2 dX6_street_62 ?_
        refine g_iload_n (x := s) rfl dX6_street_65 ?_
        refine g_iald sh_26 (by decide) (by omega) (by omega) (by decide) ag_26 dX6_street_66 ?_
        exact i_iret rfl dX6_street_67 (⟨by rw [if_neg (by omega), if_neg (by omega), if_pos hsv, ql], rfl⟩)
      · refine g_tswIn ⟨by omega, by omega⟩ dX6_street_15 (by omega) (by omega) (off := 53) (by rw [hsv]; rfl) (t := 68) (by decide) ?_
        refine g_aload_n (x := 8) rfl dX6_street_68 ?_
        refine g_get fgX6_26 zcl_6 (congrArg Prod.fst sh_8) (by decide) rg_8_2 dX6_street_69 ?_
        refine g_iload_n (x := s) rfl dX6_street_72 ?_
        refine i_callVp mvX5_hears tw_541 (ci := 5) (congrArg Prod.fst sh_23) rfl (by decide) (c_hears tt_23 (by omega) (by omega) (by omega) (fun b g0 g1 => by have := hVw b g0 (by omega); rw [tb_w 23 ι g0 (by omega)] at this; omega) ⟨by omega, by omega⟩) (by decide) (st' := []) rfl (Nat.le_of_ble_eq_true rfl) rfl dX6_street_73 ?_
        refine g_if_eq ⟨by omega, by omega⟩ (t := 83) dX6_street_76 (by decide) (fun h76 => ?_) (fun h76 => ?_)
        · refine g_iconst (x := 0) rfl dX6_street_83 ?_
          exact i_iret rfl dX6_street_84 (⟨by rw [if_neg (by omega), if_neg (by omega), if_neg (by omega), if_pos hsv]; congr 2; omega, rfl⟩)
        · refine g_iconst (x := 1) rfl dX6_street_79 ?_
          refine g_goto (t := 84) dX6_street_80 (by decide) ?_
          exact i_iret rfl dX6_street_84 (⟨by rw [if_neg (by omega), if_neg (by omega), if_neg (by omega), if_pos hsv]; congr 2; omega, rfl⟩)
      · refine g_tswIn ⟨by omega, by omega⟩ dX6_street_15 (by omega) (by omega) (off := 70) (by rw [hsv]; rfl) (t := 85) (by decide) ?_
        refine g_aload_n (x := 8) rfl dX6_street_85 ?_
        refine g_get fgX6_26 zcl_6 (congrArg Prod.fst sh_8) (by decide) rg_8_2 dX6_street_86 ?_
        refine g_get fgX6_184 zcl_5 (congrArg Prod.fst sh_23) (by decide) rg_23_0 dX6_street_89 ?_
        refine g_iload_n (x := s) rfl dX6_street_92 ?_
        refine g_iald sh_24 (by decide) (by omega) (by omega) (by decide) ag_24 dX6_street_93 ?_
        refine g_aload_n (x := 8) rfl dX6_street_94 ?_
        refine g_get fgX6_26 zcl_6 (congrArg Prod.fst sh_8) (by decide) rg_8_2 dX6_street_95 ?_
        refine g_get fgX6_163 zcl_5 (congrArg Prod.fst sh_23) (by decide) rg_23_1 dX6_street_98 ?_
        refine g_iload_n (x := s) rfl dX6_street_101 ?_
        refine g_iald sh_25 (by decide) (by omega) (by omega) (by decide) ag_25 dX6_street_102 ?_
        refine g_aload_n (x := 8) rfl dX6_street_103 ?_
        refine g_get fgX6_26 zcl_6 (congrArg Prod.fst sh_8) (by decide) rg_8_2 dX6_street_104 ?_
        refine g_iload_n (x := s) rfl dX6_street_107 ?_
        refine i_callVp mvX5_hears tw_541 (ci := 5) (congrArg Prod.fst sh_23) rfl (by decide) (c_hears tt_23 (by omega) (by omega) (by omega) (fun b g0 g1 => by have := hVw b g0 (by omega); rw [tb_w 23 ι g0 (by omega)] at this; omega) ⟨by omega, by omega⟩) (by decide) (st' := [zI (ι 25 s), zI (ι 24 s)]) rfl (Nat.le_of_ble_eq_true rfl) rfl dX6_street_108 ?_
        refine g_aload_n (x := 8) rfl dX6_street_111 ?_
        refine g_get fgX6_26 zcl_6 (congrArg Prod.fst sh_8) (by decide) rg_8_2 dX6_street_112 ?_
        refine g_get fgX6_138 zcl_5 (congrArg Prod.fst sh_23) (by decide) ig_23_8 dX6_street_115 ?_
        rw [qk, qd, ← q4]
        refine i_callSp msX5_deepAfter tw_545 (c_deepAfter ⟨by omega, by omega⟩ hk3.2.1 ⟨by omega, by omega⟩ (by omega)) (by decide) (st' := []) rfl (Nat.le_of_ble_eq_true rfl) rfl dX6_street_118 ?_
        exact i_iret rfl dX6_street_121 (⟨by rw [if_neg (by omega), if_neg (by omega), if_neg (by omega), if_neg (by omega), if_pos hsv], rfl⟩)
      · refine g_tswIn ⟨by omega, by omega⟩ dX6_street_15 (by omega) (by omega) (off := 107) (by rw [hsv]; rfl) (t := 122) (by decide) ?_
        refine g_aload_n (x := 8) rfl dX6_street_122 ?_
        refine g_get fgX6_26 zcl_6 (congrArg Prod.fst sh_8) (by decide) rg_8_2 dX6_street_123 ?_
        refine g_get fgX6_163 zcl_5 (congrArg Prod.fst sh_23) (by decide) rg_23_1 dX6_street_126 ?_
        refine g_iload_n (x := s) rfl dX6_street_129 ?_
        refine g_iald sh_25 (by decide) (by omega) (by omega) (by decide) ag_25 dX6_street_130 ?_
        refine g_aload_n (x := 8) rfl dX6_street_131 ?_
        refine g_get fgX6_26 zcl_6 (congrArg Prod.fst sh_8) (by decide) rg_8_2 dX6_street_132 ?_
        refine g_get fgX6_172 zcl_5 (congrArg Prod.fst sh_23) (by decide) rg_23_2 dX6_street_135 ?_
        refine g_iload_n (x := s) rfl dX6_street_138 ?_
        refine g_iald sh_26 (by decide) (by omega) (by omega) (by decide) ag_26 dX6_street_139 ?_
        refine g_aload_n (x := 8) rfl dX6_street_140 ?_
        refine g_get fgX6_26 zcl_6 (congrArg Prod.fst sh_8) (by decide) rg_8_2 dX6_street_141 ?_
        refine g_get fgX6_191 zcl_5 (congrArg Prod.fst sh_23) (by decide) ig_23_7 dX6_street_144 ?_
        refine g_aload_n (x := 8) rfl dX6_street_147 ?_
        refine g_get fgX6_26 zcl_6 (congrArg Prod.fst sh_8) (by decide) rg_8_2 dX6_street_148 ?_
        refine g_iload_n (x := s) rfl dX6_street_151 ?_
        refine i_callVp mvX5_hears tw_541 (ci := 5) (congrArg Prod.fst sh_23) rfl (by decide) (c_hears tt_23 (by omega) (by omega) (by omega) (fun b g0 g1 => by have := hVw b g0 (by omega); rw [tb_w 23 ι g0 (by omega)] at this; omega) ⟨by omega, by omega⟩) (by decide) (st' := [zI (ι 23 7), zI (ι 26 s), zI (ι 25 s)]) rfl (Nat.le_of_ble_eq_true rfl) rfl dX6_street_152 ?_
        rw [qd, ql, ← q3]
        refine i_callSp msX5_stolen tw_546 (c_stolen ⟨by omega, by omega⟩ ⟨by omega, by omega⟩ ⟨by omega, by omega⟩ ⟨by omega, by omega⟩) (by decide) (st' := []) rfl (Nat.le_of_ble_eq_true rfl) rfl dX6_street_155 ?_
        exact i_iret rfl dX6_street_158 (⟨by rw [if_neg (by omega), if_neg (by omega), if_neg (by omega), if_neg (by omega), if_neg (by omega), if_pos hsv]; rfl, rfl⟩)
  · refine g_ldc (x := -1000001) tw_253 (by decide) dX6_street_11 ?_
    exact i_iret rfl dX6_street_13 (⟨by rw [if_pos (by omega)], rfl⟩)

set_option maxRecDepth 100000 in
theorem c_xRound (hT : zTM (tb 23 ι)) {b : Int} (hb : zB b) : zCi l (zc D ad L z) mX6_round 1 [zR 8, zI b] ι (zP (zI (if 0 ≤ b ∧ b < tb 23 ι 1 then tb 23 ι (30 + b) else -1000001)) ι) := by
  refine zCt_of (by decide) (Nat.le_of_ble_eq_true rfl) 0 rfl ?_
  obtain ⟨hV, hNB, hH9⟩ := id hT
  obtain ⟨hV0, hV1, hV2, hV3, hV4, hV5, hVk, hVw⟩ := id hV
  have q0 := tb_0 23 ι
  have q1 := tb_1 23 ι
  have q2 := tb_2 23 ι
  have q3 := tb_3 23 ι
  have q4 := tb_4 23 ι
  have q5 := tb_5 23 ι
  refine g_aload_n (x := 8) rfl dX6_round_0 ?_
  refine g_get fgX6_26 zcl_6 (congrArg Prod.fst sh_8) (by decide) rg_8_2 dX6_round_1 ?_
  refine g_iload_n (x := b) rfl dX6_round_4 ?_
  refine i_callVp mvX5_hasBeat tw_508 (ci := 5) (congrArg Prod.fst sh_23) rfl (by decide) (c_hasBeat tt_23 ⟨by omega, by omega⟩ ⟨by omega, by omega⟩) (by decide) (st' := []) rfl (Nat.le_of_ble_eq_true rfl) rfl dX6_round_5 ?_
  refine g_nm (fun b5 hq0 => ?_)
  have hb5 : ((0 ≤ b ∧ b < ι 23 5) ∧ b5 = 1) ∨ (¬ (0 ≤ b ∧ b < ι 23 5) ∧ b5 = 0) := zb_c hq0
  clear hq0
  refine g_if_eq ⟨by omega, by omega⟩ (t := 23) dX6_round_8 (by decide) (fun h8 => ?_) (fun h8 => ?_)
  · refine g_ldc (x := -1000001) tw_253 (by decide) dX6_round_23 ?_
    exact i_iret rfl dX6_round_25 (⟨by rw [if_neg (by omega)], rfl⟩)
  · refine g_aload_n (x := 8) rfl dX6_round_11 ?_
    refine g_get fgX6_26 zcl_6 (congrArg Prod.fst sh_8) (by decide) rg_8_2 dX6_round_12 ?_
    refine g_get fgX6_157 zcl_5 (congrArg Prod.fst sh_23) (by decide) rg_23_3 dX6_round_15 ?_
    refine g_iload_n (x := b) rfl dX6_round_18 ?_
    refine g_iald sh_27 (by decide) (by omega) (by omega) (by decide) ag_27 dX6_round_19 ?_
    refine g_goto (t := 25) dX6_round_20 (by decide) ?_
    exact i_iret rfl dX6_round_25 (⟨by rw [if_pos (by omega), tb_w 23 ι (by omega) (by omega)], rfl⟩)

set_option maxRecDepth 100000 in
theorem c_xKind (hT : zTM (tb 23 ι)) {s : Int} (hs : zB s) : zCi l (zc D ad L z) mX6_kind 1 [zR 8, zI s] ι (zP (zI (if 0 ≤ s ∧ s < tb 23 ι 0 then tb 23 ι (6 + s) else -1000001)) ι) := by
  refine zCt_of (by decide) (Nat.le_of_ble_eq_true rfl) 0 rfl ?_
  obtain ⟨hV, hNB, hH9⟩ := id hT
  obtain ⟨hV0, hV1, hV2, hV3, hV4, hV5, hVk, hVw⟩ := id hV
  have q0 := tb_0 23 ι
  have q1 := tb_1 23 ι
  have q2 := tb_2 23 ι
  have q3 := tb_3 23 ι
  have q4 := tb_4 23 ι
  have q5 := tb_5 23 ι
  refine g_aload_n (x := 8) rfl dX6_kind_0 ?_
  refine g_get fgX6_26 zcl_6 (congrArg Prod.fst sh_8) (by decide) rg_8_2 dX6_kind_1 ?_
  refine g_iload_n (x := s) rfl dX6_kind_4 ?_
  refine i_callVp mvX5_hasStreet tw_512 (ci := 5) (congrArg Prod.fst sh_23) rfl (by decide) (c_hasStreet tt_23 ⟨by omega, by omega⟩ ⟨by omega, by omega⟩) (by decide) (st' := []) rfl (Nat.le_of_ble_eq_true rfl) rfl dX6_kind_5 ?_
  refine g_nm (fun b5 hq0 => ?_)
  have hb5 : ((0 ≤ s ∧ s < ι 23 4) ∧ b5 = 1) ∨ (¬ (0 ≤ s ∧ s < ι 23 4) ∧ b5 = 0) := zb_c hq0
  clear hq0
  refine g_if_eq ⟨by omega, by omega⟩ (t := 23) dX6_kind_8 (by decide) (fun h8 => ?_) (fun h8 => ?_)
  · refine g_ldc (x := -1000001) tw_253 (by decide) dX6_kind_23 ?_
    exact i_iret rfl dX6_kind_25 (⟨by rw [if_neg (by omega)], rfl⟩)
  · refine g_aload_n (x := 8) rfl dX6_kind_11 ?_
    refine g_get fgX6_26 zcl_6 (congrArg Prod.fst sh_8) (by decide) rg_8_2 dX6_kind_12 ?_
    refine g_get fgX6_184 zcl_5 (congrArg Prod.fst sh_23) (by decide) rg_23_0 dX6_kind_15 ?_
    refine g_iload_n (x := s) rfl dX6_kind_18 ?_
    refine g_iald sh_24 (by decide) (by omega) (by omega) (by decide) ag_24 dX6_kind_19 ?_
    refine g_goto (t := 25) dX6_kind_20 (by decide) ?_
    exact i_iret rfl dX6_kind_25 (⟨by rw [if_pos (by omega), tb_k 23 ι (by omega) (by omega)], rfl⟩)

set_option maxRecDepth 100000 in
theorem c_xAs (hT : zTM (tb 23 ι)) (hO : zPre ι) {s k : Int} (hs : zB s) (hk : zB k) : zCi l (zc D ad L z) mX6_as 1 [zR 8, zI s, zI k] ι (fun v ι' => v = some (zI (if ¬ ((0 ≤ s ∧ s < tb 23 ι 0) ∧ (0 ≤ k ∧ k ≤ 5)) then -1000001 else if zia (tb 23 ι (6 + s)) k = 1 then s else -1000013)) ∧ ι' = if (0 ≤ s ∧ s < tb 23 ι 0) ∧ (0 ≤ k ∧ k ≤ 5) then iup ι 8 9 (if zia (tb 23 ι (6 + s)) k = 1 then 0 else 3) else ι) := by
  refine zCt_of (by decide) (Nat.le_of_ble_eq_true rfl) 0 rfl ?_
  obtain ⟨hV, hNB, hH9⟩ := id hT
  obtain ⟨hV0, hV1, hV2, hV3, hV4, hV5, hVk, hVw⟩ := id hV
  have q0 := tb_0 23 ι
  have q1 := tb_1 23 ι
  have q2 := tb_2 23 ι
  have q3 := tb_3 23 ι
  have q4 := tb_4 23 ι
  have q5 := tb_5 23 ι
  refine g_aload_n (x := 8) rfl dX6_as_0 ?_
  refine g_get fgX6_26 zcl_6 (congrArg Prod.fst sh_8) (by decide) rg_8_2 dX6_as_1 ?_
  refine g_iload_n (x := s) rfl dX6_as_4 ?_
  refine i_callVp mvX5_hasStreet tw_512 (ci := 5) (congrArg Prod.fst sh_23) rfl (by decide) (c_hasStreet tt_23 ⟨by omega, by omega⟩ ⟨by omega, by omega⟩) (by decide) (st' := []) rfl (Nat.le_of_ble_eq_true rfl) rfl dX6_as_5 ?_
  refine g_nm (fun b5 hq0 => ?_)
  have hb5 : ((0 ≤ s ∧ s < ι 23 4) ∧ b5 = 1) ∨ (¬ (0 ≤ s ∧ s < ι 23 4) ∧ b5 = 0) := zb_c hq0
  clear hq0
  refine g_if_eq ⟨by omega, by omega⟩ (t := 20) dX6_as_8 (by decide) (fun h8 => ?_) (fun h8 => ?_)
  · refine g_ldc (x := -1000001) tw_253 (by decide) dX6_as_20 ?_
    exact i_iret rfl dX6_as_22 (⟨by rw [if_pos (by omega)], by rw [if_neg (by omega)]⟩)
  · refine g_iload_n (x := k) rfl dX6_as_11 ?_
    refine g_if_lt ⟨by omega, by omega⟩ (t := 20) dX6_as_12 (by decide) (fun h12 => ?_) (fun h12 => ?_)
    · refine g_ldc (x := -1000001) tw_253 (by decide) dX6_as_20 ?_
      exact i_iret rfl dX6_as_22 (⟨by rw [if_pos (by omega)], by rw [if_neg (by omega)]⟩)
    · refine g_iload_n (x := k) rfl dX6_as_15 ?_
      refine g_iconst (x := 5) rfl dX6_as_16 ?_
      refine g_icmp_le ⟨by omega, by omega⟩ (by decide) (t := 23) dX6_as_17 (by decide) (fun h17 => ?_) (fun h17 => ?_)
      · refine g_aload_n (x := 8) rfl dX6_as_23 ?_
        refine g_get fgX6_26 zcl_6 (congrArg Prod.fst sh_8) (by decide) rg_8_2 dX6_as_24 ?_
        refine g_get fgX6_184 zcl_5 (congrArg Prod.fst sh_23) (by decide) rg_23_0 dX6_as_27 ?_
        refine g_iload_n (x := s) rfl dX6_as_30 ?_
        refine g_iald sh_24 (by decide) (by omega) (by omega) (by decide) ag_24 dX6_as_31 ?_
        have hk3 := hVk s (by omega) (by omega)
        rw [show ι 24 s = tb 23 ι (6 + s) from (tb_k 23 ι (by omega) (by omega)).symm]
        have h01 := zia_01 (tb 23 ι (6 + s)) k
        refine g_iload_n (x := k) rfl dX6_as_32 ?_
        refine i_callSp msX1_isOne tw_767 (c_isOne hO hk3.1 (by omega)) (by decide) (st' := []) rfl (Nat.le_of_ble_eq_true rfl) rfl dX6_as_33 ?_
        refine g_if_eq ⟨by omega, by omega⟩ (t := 47) dX6_as_36 (by decide) (fun h36 => ?_) (fun h36 => ?_)
        · refine g_aload_n (x := 8) rfl dX6_as_47 ?_
          refine g_iconst (x := 3) rfl dX6_as_48 ?_
          refine i_callV mvX6_found tw_254 (ci := 6) (congrArg Prod.fst sh_8) rfl (by decide) (c_found) (by decide) (st' := []) rfl (Nat.le_of_ble_eq_true rfl) rfl dX6_as_49 (fun v_1 ιf hq_49 => ?_)
          obtain ⟨rfl, hιf⟩ := hq_49
          exact i_iret rfl dX6_as_52 (⟨by rw [if_neg (by omega), if_neg (by omega)]; rfl, by rw [if_pos (by omega), if_neg (by omega), hιf]⟩)
        · refine g_aload_n (x := 8) rfl dX6_as_39 ?_
          refine g_iload_n (x := s) rfl dX6_as_40 ?_
          refine i_callV mvX6_fine tw_263 (ci := 6) (congrArg Prod.fst sh_8) rfl (by decide) (c_fine) (by decide) (st' := []) rfl (Nat.le_of_ble_eq_true rfl) rfl dX6_as_41 (fun v_2 ιf hq_41 => ?_)
          obtain ⟨rfl, hιf⟩ := hq_41
          refine g_goto (t := 52) dX6_as_44 (by decide) ?_
          exact i_iret rfl dX6_as_52 (⟨by rw [if_neg (by omega), if_pos (by omega)], by rw [if_pos (by omega), if_pos (by omega), hιf]⟩)
      · refine g_ldc (x := -1000001) tw_253 (by decide) dX6_as_20 ?_
        exact i_iret rfl dX6_as_22 (⟨by rw [if_pos (by omega)], by rw [if_neg (by omega)]⟩)

set_option maxRecDepth 100000 in
theorem c_xAsk (hT : zTM (tb 23 ι)) (hO : zPre ι) {s w : Int} (hs : zB s) (hw : zB w) : zCi l (zc D ad L z) mX6_ask 8 [zR 8, zI s, zI w] ι (fun v ι' => v = some (zI (if ¬ ((0 ≤ s ∧ s < tb 23 ι 0) ∧ (0 ≤ w ∧ w ≤ 1)) then -1000001 else (zask (tb 23 ι) s w).1)) ∧ ι' = if (0 ≤ s ∧ s < tb 23 ι 0) ∧ (0 ≤ w ∧ w ≤ 1) then ztl 176 1 177 (iup ι 176 1 0) (zask (tb 23 ι) s w).2 else ι) := by
  refine zCt_of (by decide) (Nat.le_of_ble_eq_true rfl) 0 rfl ?_
  obtain ⟨hV, hNB, hH9⟩ := id hT
  obtain ⟨hV0, hV1, hV2, hV3, hV4, hV5, hVk, hVw⟩ := id hV
  have q0 := tb_0 23 ι
  have q1 := tb_1 23 ι
  have q2 := tb_2 23 ι
  have q3 := tb_3 23 ι
  have q4 := tb_4 23 ι
  have q5 := tb_5 23 ι
  refine g_aload_n (x := 8) rfl dX6_ask_0 ?_
  refine g_get fgX6_26 zcl_6 (congrArg Prod.fst sh_8) (by decide) rg_8_2 dX6_ask_1 ?_
  refine g_iload_n (x := s) rfl dX6_ask_4 ?_
  refine i_callVp mvX5_hasStreet tw_512 (ci := 5) (congrArg Prod.fst sh_23) rfl (by decide) (c_hasStreet tt_23 ⟨by omega, by omega⟩ ⟨by omega, by omega⟩) (by decide) (st' := []) rfl (Nat.le_of_ble_eq_true rfl) rfl dX6_ask_5 ?_
  refine g_nm (fun b5 hq0 => ?_)
  have hb5 : ((0 ≤ s ∧ s < ι 23 4) ∧ b5 = 1) ∨ (¬ (0 ≤ s ∧ s < ι 23 4) ∧ b5 = 0) := zb_c hq0
  clear hq0
  refine g_if_eq ⟨by omega, by omega⟩ (t := 18) dX6_ask_8 (by decide) (fun h8 => ?_) (fun h8 => ?_)
  · refine g_ldc (x := -1000001) tw_253 (by decide) dX6_ask_18 ?_
    exact i_iret rfl dX6_ask_20 (⟨by rw [if_pos (by omega)], by rw [if_neg (by omega)]⟩)
  · refine g_iload_n (x := w) rfl dX6_ask_11 ?_
    refine i_callSp msX6_isNoHalf tw_558 (c_isNoHalf (x := w) ⟨by omega, by omega⟩) (by decide) (st' := []) rfl (Nat.le_of_ble_eq_true rfl) rfl dX6_ask_12 ?_
    refine g_nm (fun b12 hq0 => ?_)
    have hb12 : ((w < 0 ∨ 1 < w) ∧ b12 = 1) ∨ (¬ (w < 0 ∨ 1 < w) ∧ b12 = 0) := zb_c hq0
    clear hq0
    refine g_if_eq ⟨by omega, by omega⟩ (t := 21) dX6_ask_15 (by decide) (fun h15 => ?_) (fun h15 => ?_)
    · refine g_aload_n (x := 8) rfl dX6_ask_21 ?_
      refine g_get fgX6_56 zcl_6 (congrArg Prod.fst sh_8) (by decide) rg_8_8 dX6_ask_22 ?_
      refine g_aload_n (x := 8) rfl dX6_ask_25 ?_
      refine g_get fgX6_26 zcl_6 (congrArg Prod.fst sh_8) (by decide) rg_8_2 dX6_ask_26 ?_
      refine g_iload_n (x := s) rfl dX6_ask_29 ?_
      refine g_iload_n (x := w) rfl dX6_ask_30 ?_
      have hk3 := hVk s (by omega) (by omega)
      refine i_callV mvX1_answerOf tw_776 (ci := 1) (congrArg Prod.fst sh_176) rfl (by decide) (c_answerOf hO (s := s) (w := w) (by omega) hk3.1 (by omega)) (by decide) (st' := []) rfl (Nat.le_of_ble_eq_true rfl) rfl dX6_ask_31 (fun v_1 ι1 hq_31 => ?_)
      obtain ⟨rfl, hι1⟩ := hq_31
      exact i_iret rfl dX6_ask_34 (⟨by rw [if_neg (by omega)], by rw [if_pos (by omega), hι1]⟩)
    · refine g_ldc (x := -1000001) tw_253 (by decide) dX6_ask_18 ?_
      exact i_iret rfl dX6_ask_20 (⟨by rw [if_pos (by omega)], by rw [if_neg (by omega)]⟩)

set_option maxRecDepth 100000 in
theorem c_xSkins (hT : zTM (tb 23 ι)) {s n : Int} (hs : zB s) (hn : zB n) : zCi l (zc D ad L z) mX6_skins 2 [zR 8, zI s, zI n] ι (zP (zI (if ¬ ((0 ≤ s ∧ s < tb 23 ι 0) ∧ (0 ≤ n ∧ n ≤ 999)) then -1000001 else ztax (tb 23 ι) s n)) ι) := by
  refine zCt_of (by decide) (Nat.le_of_ble_eq_true rfl) 0 rfl ?_
  obtain ⟨hV, hNB, hH9⟩ := id hT
  obtain ⟨hV0, hV1, hV2, hV3, hV4, hV5, hVk, hVw⟩ := id hV
  have q0 := tb_0 23 ι
  have q1 := tb_1 23 ι
  have q2 := tb_2 23 ι
  have q3 := tb_3 23 ι
  have q4 := tb_4 23 ι
  have q5 := tb_5 23 ι
  refine g_aload_n (x := 8) rfl dX6_skins_0 ?_
  refine g_get fgX6_26 zcl_6 (congrArg Prod.fst sh_8) (by decide) rg_8_2 dX6_skins_1 ?_
  refine g_iload_n (x := s) rfl dX6_skins_4 ?_
  refine i_callVp mvX5_hasStreet tw_512 (ci := 5) (congrArg Prod.fst sh_23) rfl (by decide) (c_hasStreet tt_23 ⟨by omega, by omega⟩ ⟨by omega, by omega⟩) (by decide) (st' := []) rfl (Nat.le_of_ble_eq_true rfl) rfl dX6_skins_5 ?_
  refine g_nm (fun b5 hq0 => ?_)
  have hb5 : ((0 ≤ s ∧ s < ι 23 4) ∧ b5 = 1) ∨ (¬ (0 ≤ s ∧ s < ι 23 4) ∧ b5 = 0) := zb_c hq0
  clear hq0
  refine g_if_eq ⟨by omega, by omega⟩ (t := 22) dX6_skins_8 (by decide) (fun h8 => ?_) (fun h8 => ?_)
  · refine g_ldc (x := -1000001) tw_253 (by decide) dX6_skins_22 ?_
    exact i_iret rfl dX6_skins_24 (⟨by rw [if_pos (by omega)], rfl⟩)
  · refine g_iload_n (x := n) rfl dX6_skins_11 ?_
    refine g_if_lt ⟨by omega, by omega⟩ (t := 22) dX6_skins_12 (by decide) (fun h12 => ?_) (fun h12 => ?_)
    · refine g_ldc (x := -1000001) tw_253 (by decide) dX6_skins_22 ?_
      exact i_iret rfl dX6_skins_24 (⟨by rw [if_pos (by omega)], rfl⟩)
    · refine g_iload_n (x := n) rfl dX6_skins_15 ?_
      refine g_sipush (x := 999) (by decide) dX6_skins_16 ?_
      refine g_icmp_le ⟨by omega, by omega⟩ (by decide) (t := 25) dX6_skins_19 (by decide) (fun h19 => ?_) (fun h19 => ?_)
      · refine g_aload_n (x := 8) rfl dX6_skins_25 ?_
        refine g_get fgX6_26 zcl_6 (congrArg Prod.fst sh_8) (by decide) rg_8_2 dX6_skins_26 ?_
        refine g_iload_n (x := s) rfl dX6_skins_29 ?_
        refine g_iload_n (x := n) rfl dX6_skins_30 ?_
        refine i_callVp mvX5_taxOf tw_675 (ci := 5) (congrArg Prod.fst sh_23) rfl (by decide) (c_taxOf tt_23 hV (s := s) (n := n) (by omega) (by omega) (by omega)) (by decide) (st' := []) rfl (Nat.le_of_ble_eq_true rfl) rfl dX6_skins_31 ?_
        exact i_iret rfl dX6_skins_34 (⟨by rw [if_neg (by omega)], rfl⟩)
      · refine g_ldc (x := -1000001) tw_253 (by decide) dX6_skins_22 ?_
        exact i_iret rfl dX6_skins_24 (⟨by rw [if_pos (by omega)], rfl⟩)

set_option maxRecDepth 100000 in
theorem c_xCount (hT : zTM (tb 23 ι)) (hL : ∀ k, 0 ≤ k → k < 8 → -1 ≤ ι 19 k ∧ ι 19 k ≤ 2) {x : Int} (hx : zB x) : zCi l (zc D ad L z) mX6_count 2 [zR 8, zI x] ι (zP (zI (if x = 0 then zsum (fun k => if ι 19 k = -1 then (0 : Int) else 1) 8 else if x = 1 then tb 23 ι 0 else if x = 2 then tb 23 ι 1 else if x = 3 then tb 23 ι 4 else if x = 4 then tb 23 ι 2 else if x = 5 then tb 23 ι 3 else if x = 6 then tb 23 ι 5 else if x = 7 then zaw (fun k => tb 23 ι (14 + k)) (tb 23 ι 0) else if x = 8 then ι 43 2 else if x = 9 then ι 21 1 else -1000001)) ι) := by
  refine zCt_of (by decide) (Nat.le_of_ble_eq_true rfl) 0 rfl ?_
  obtain ⟨hV, hNB, hH9⟩ := id hT
  obtain ⟨hV0, hV1, hV2, hV3, hV4, hV5, hVk, hVw⟩ := id hV
  have q0 := tb_0 23 ι
  have q1 := tb_1 23 ι
  have q2 := tb_2 23 ι
  have q3 := tb_3 23 ι
  have q4 := tb_4 23 ι
  have q5 := tb_5 23 ι
  refine g_iload_n (x := x) rfl dX6_count_0 ?_
  by_cases hsw : x < 0 ∨ 9 < x
  · refine g_tswOut ⟨by omega, by omega⟩ dX6_count_1 hsw (t := 136) (by decide) ?_
    refine g_ldc (x := -1000001) tw_253 (by decide) dX6_count_136 ?_
    exact i_iret rfl dX6_count_138 (⟨by rw [if_neg (by omega), if_neg (by omega), if_neg (by omega), if_neg (by omega), if_neg (by omega), if_neg (by omega), if_neg (by omega), if_neg (by omega), if_neg (by omega), if_neg (by omega)], rfl⟩)
  · rcases (show x = 0 ∨ x = 1 ∨ x = 2 ∨ x = 3 ∨ x = 4 ∨ x = 5 ∨ x = 6 ∨ x = 7 ∨ x = 8 ∨ x = 9 by omega) with hsv | hsv | hsv | hsv | hsv | hsv | hsv | hsv | hsv | hsv
    · refine g_tswIn ⟨by omega, by omega⟩ dX6_count_1 (by omega) (by omega) (off := 55) (by rw [hsv]; rfl) (t := 56) (by decide) ?_
      refine g_aload_n (x := 8) rfl dX6_count_56 ?_
      refine g_get fgX6_10 zcl_6 (congrArg Prod.fst sh_8) (by decide) rg_8_0 dX6_count_57 ?_
      refine i_callVp mvX3_howMany tw_800 (ci := 3) (congrArg Prod.fst sh_9) rfl (by decide) (c_howMany (fun k k0 k1 => by have := hL k k0 k1; exact ⟨by omega, by omega⟩)) (by decide) (st' := []) rfl (Nat.le_of_ble_eq_true rfl) rfl dX6_count_60 ?_
      exact i_iret rfl dX6_count_63 (⟨by rw [if_pos (by omega)], rfl⟩)
    · refine g_tswIn ⟨by omega, by omega⟩ dX6_count_1 (by omega) (by omega) (off := 63) (by rw [hsv]; rfl) (t := 64) (by decide) ?_
      refine g_aload_n (x := 8) rfl dX6_count_64 ?_
      refine g_get fgX6_26 zcl_6 (congrArg Prod.fst sh_8) (by decide) rg_8_2 dX6_count_65 ?_
      refine g_get fgX6_127 zcl_5 (congrArg Prod.fst sh_23) (by decide) ig_23_4 dX6_count_68 ?_
      exact i_iret rfl dX6_count_71 (⟨by rw [if_neg (by omega), if_pos (by omega), q0], rfl⟩)
    · refine g_tswIn ⟨by omega, by omega⟩ dX6_count_1 (by omega) (by omega) (off := 71) (by rw [hsv]; rfl) (t := 72) (by decide) ?_
      refine g_aload_n (x := 8) rfl dX6_count_72 ?_
      refine g_get fgX6_26 zcl_6 (congrArg Prod.fst sh_8) (by decide) rg_8_2 dX6_count_73 ?_
      refine g_get fgX6_290 zcl_5 (congrArg Prod.fst sh_23) (by decide) ig_23_5 dX6_count_76 ?_
      exact i_iret rfl dX6_count_79 (⟨by rw [if_neg (by omega), if_neg (by omega), if_pos (by omega), q1], rfl⟩)
    · refine g_tswIn ⟨by omega, by omega⟩ dX6_count_1 (by omega) (by omega) (off := 79) (by rw [hsv]; rfl) (t := 80) (by decide) ?_
      refine g_aload_n (x := 8) rfl dX6_count_80 ?_
      refine g_get fgX6_26 zcl_6 (congrArg Prod.fst sh_8) (by decide) rg_8_2 dX6_count_81 ?_
      refine g_get fgX6_138 zcl_5 (congrArg Prod.fst sh_23) (by decide) ig_23_8 dX6_count_84 ?_
      exact i_iret rfl dX6_count_87 (⟨by rw [if_neg (by omega), if_neg (by omega), if_neg (by omega), if_pos (by omega), q4], rfl⟩)
    · refine g_tswIn ⟨by omega, by omega⟩ dX6_count_1 (by omega) (by omega) (off := 87) (by rw [hsv]; rfl) (t := 88) (by decide) ?_
      refine g_aload_n (x := 8) rfl dX6_count_88 ?_
      refine g_get fgX6_26 zcl_6 (congrArg Prod.fst sh_8) (by decide) rg_8_2 dX6_count_89 ?_
      refine g_get fgX6_160 zcl_5 (congrArg Prod.fst sh_23) (by decide) ig_23_6 dX6_count_92 ?_
      exact i_iret rfl dX6_count_95 (⟨by rw [if_neg (by omega), if_neg (by omega), if_neg (by omega), if_neg (by omega), if_pos (by omega), q2], rfl⟩)
    · refine g_tswIn ⟨by omega, by omega⟩ dX6_count_1 (by omega) (by omega) (off := 95) (by rw [hsv]; rfl) (t := 96) (by decide) ?_
      refine g_aload_n (x := 8) rfl dX6_count_96 ?_
      refine g_get fgX6_26 zcl_6 (congrArg Prod.fst sh_8) (by decide) rg_8_2 dX6_count_97 ?_
      refine g_get fgX6_191 zcl_5 (congrArg Prod.fst sh_23) (by decide) ig_23_7 dX6_count_100 ?_
      exact i_iret rfl dX6_count_103 (⟨by rw [if_neg (by omega), if_neg (by omega), if_neg (by omega), if_neg (by omega), if_neg (by omega), if_pos (by omega), q3], rfl⟩)
    · refine g_tswIn ⟨by omega, by omega⟩ dX6_count_1 (by omega) (by omega) (off := 103) (by rw [hsv]; rfl) (t := 104) (by decide) ?_
      refine g_aload_n (x := 8) rfl dX6_count_104 ?_
      refine g_get fgX6_26 zcl_6 (congrArg Prod.fst sh_8) (by decide) rg_8_2 dX6_count_105 ?_
      refine g_get fgX6_208 zcl_5 (congrArg Prod.fst sh_23) (by decide) ig_23_9 dX6_count_108 ?_
      exact i_iret rfl dX6_count_111 (⟨by rw [if_neg (by omega), if_neg (by omega), if_neg (by omega), if_neg (by omega), if_neg (by omega), if_neg (by omega), if_pos (by omega), q5], rfl⟩)
    · refine g_tswIn ⟨by omega, by omega⟩ dX6_count_1 (by omega) (by omega) (off := 111) (by rw [hsv]; rfl) (t := 112) (by decide) ?_
      refine g_aload_n (x := 8) rfl dX6_count_112 ?_
      refine g_get fgX6_26 zcl_6 (congrArg Prod.fst sh_8) (by decide) rg_8_2 dX6_count_113 ?_
      refine i_callVp mvX5_awake tw_500 (ci := 5) (congrArg Prod.fst sh_23) rfl (by decide) (c_awake tt_23 (by rw [← tb_0 23 ι]; exact hV.1) (fun k k0 k1 => by rw [← tb_0 23 ι] at k1; have := (hV.2.2.2.2.2.2.1 k k0 k1).2.1; rw [tb_d 23 ι k0 (by have := hV.1; omega)] at this; exact ⟨by omega, by omega⟩)) (by decide) (st' := []) rfl (Nat.le_of_ble_eq_true rfl) rfl dX6_count_116 ?_
      exact i_iret rfl dX6_count_119 (⟨by rw [if_neg (by omega), if_neg (by omega), if_neg (by omega), if_neg (by omega), if_neg (by omega), if_neg (by omega), if_neg (by omega), if_pos (by omega), ← zaw_tb (a := 23) (ι := ι) rfl rfl hV0.2], rfl⟩)
    · refine g_tswIn ⟨by omega, by omega⟩ dX6_count_1 (by omega) (by omega) (off := 119) (by rw [hsv]; rfl) (t := 120) (by decide) ?_
      refine g_aload_n (x := 8) rfl dX6_count_120 ?_
      refine g_get fgX6_42 zcl_6 (congrArg Prod.fst sh_8) (by decide) rg_8_6 dX6_count_121 ?_
      refine g_get fgX6_178 zcl_0 (congrArg Prod.fst sh_43) (by decide) ig_43_2 dX6_count_124 ?_
      exact i_iret rfl dX6_count_127 (⟨by rw [if_neg (by omega), if_neg (by omega), if_neg (by omega), if_neg (by omega), if_neg (by omega), if_neg (by omega), if_neg (by omega), if_neg (by omega), if_pos (by omega)], rfl⟩)
    · refine g_tswIn ⟨by omega, by omega⟩ dX6_count_1 (by omega) (by omega) (off := 127) (by rw [hsv]; rfl) (t := 128) (by decide) ?_
      refine g_aload_n (x := 8) rfl dX6_count_128 ?_
      refine g_get fgX6_19 zcl_6 (congrArg Prod.fst sh_8) (by decide) rg_8_1 dX6_count_129 ?_
      refine g_get fgX6_107 zcl_4 (congrArg Prod.fst sh_21) (by decide) ig_21_1 dX6_count_132 ?_
      exact i_iret rfl dX6_count_135 (⟨by rw [if_neg (by omega), if_neg (by omega), if_neg (by omega), if_neg (by omega), if_neg (by omega), if_neg (by omega), if_neg (by omega), if_neg (by omega), if_neg (by omega), if_pos (by omega)], rfl⟩)

set_option maxRecDepth 100000 in
theorem c_xImage (hT : zTM (tb 23 ι)) {k : Int} (hk : zB k) : zCi l (zc D ad L z) mX6_image 2 [zR 8, zI k] ι (fun v ι' => v = some (zI (if ¬ (0 ≤ k ∧ k ≤ 1) then -1000001 else if ¬ (0 < tb 23 ι 0) then -1000002 else 1)) ∧ ι' = if (0 ≤ k ∧ k ≤ 1) ∧ 0 < tb 23 ι 0 then tp (zim2 k) (tb 23 ι) ι else ι) := by
  refine zCt_of (by decide) (Nat.le_of_ble_eq_true rfl) 0 rfl ?_
  obtain ⟨hV, hNB, hH9⟩ := id hT
  obtain ⟨hV0, hV1, hV2, hV3, hV4, hV5, hVk, hVw⟩ := id hV
  have q0 := tb_0 23 ι
  have q1 := tb_1 23 ι
  have q2 := tb_2 23 ι
  have q3 := tb_3 23 ι
  have q4 := tb_4 23 ι
  have q5 := tb_5 23 ι
  refine g_iload_n (x := k) rfl dX6_image_0 ?_
  refine i_callSp msX6_isNoHalf tw_558 (c_isNoHalf (x := k) ⟨by omega, by omega⟩) (by decide) (st' := []) rfl (Nat.le_of_ble_eq_true rfl) rfl dX6_image_1 ?_
  refine g_nm (fun b1 hq0 => ?_)
  have hb1 : ((k < 0 ∨ 1 < k) ∧ b1 = 1) ∨ (¬ (k < 0 ∨ 1 < k) ∧ b1 = 0) := zb_c hq0
  clear hq0
  refine g_if_eq ⟨by omega, by omega⟩ (t := 10) dX6_image_4 (by decide) (fun h4 => ?_) (fun h4 => ?_)
  · refine g_aload_n (x := 8) rfl dX6_image_10 ?_
    refine i_callVp mvX6_noTown tw_461 (ci := 6) (congrArg Prod.fst sh_8) rfl (by decide) (c_noTown ⟨by omega, by omega⟩) (by decide) (st' := []) rfl (Nat.le_of_ble_eq_true rfl) rfl dX6_image_11 ?_
    refine g_nm (fun b11 hq0 => ?_)
    have hb11 : ((ι 23 4 = 0) ∧ b11 = 1) ∨ (¬ (ι 23 4 = 0) ∧ b11 = 0) := zb_c hq0
    clear hq0
    refine g_if_eq ⟨by omega, by omega⟩ (t := 20) dX6_image_14 (by decide) (fun h14 => ?_) (fun h14 => ?_)
    · refine g_aload_n (x := 8) rfl dX6_image_20 ?_
      refine g_iload_n (x := k) rfl dX6_image_21 ?_
      refine i_callVp mvX6_keptImage tw_751 (ci := 6) (congrArg Prod.fst sh_8) rfl (by decide) (c_keptImage (by omega)) (by decide) (st' := []) rfl (Nat.le_of_ble_eq_true rfl) rfl dX6_image_22 ?_
      refine g_aload_n (x := 8) rfl dX6_image_25 ?_
      refine g_get fgX6_26 zcl_6 (congrArg Prod.fst sh_8) (by decide) rg_8_2 dX6_image_26 ?_
      have hz2 : zTw (zim2 k) := by unfold zim2; split; exact tt_33; exact tt_38
      have hz3 : 33 ≤ zim2 k ∧ zim2 k ≤ 38 := by unfold zim2; split <;> omega
      refine i_callV mvX5_become tw_443 (ci := 5) (congrArg Prod.fst hz2.s0) rfl (by omega) (c_become hz2 tt_23 (by omega)) (by decide) (st' := []) rfl (Nat.le_of_ble_eq_true rfl) rfl dX6_image_29 (fun v_1 ι1 hq_29 => ?_)
      obtain ⟨rfl, hι1⟩ := hq_29
      refine g_iconst (x := 1) rfl dX6_image_32 ?_
      exact i_iret rfl dX6_image_33 (⟨by rw [if_neg (by omega), if_neg (by omega)], by rw [if_pos (by omega), hι1]⟩)
    · refine g_ldc (x := -1000002) tw_465 (by decide) dX6_image_17 ?_
      exact i_iret rfl dX6_image_19 (⟨by rw [if_neg (by omega), if_pos (by omega)], by rw [if_neg (by omega)]⟩)
  · refine g_ldc (x := -1000001) tw_253 (by decide) dX6_image_7 ?_
    exact i_iret rfl dX6_image_9 (⟨by rw [if_pos (by omega)], by rw [if_neg (by omega)]⟩)

set_option maxRecDepth 100000 in
theorem c_xRestore {k : Int} (hk : zB k) (hI : ∀ a, a = 33 ∨ a = 38 → zB (ι a 4)) : zCi l (zc D ad L z) mX6_restore 2 [zR 8, zI k] ι (fun v ι' => v = some (zI (if ¬ (0 ≤ k ∧ k ≤ 1) then -1000001 else if tb (zim2 k) ι 0 = 0 then -1000002 else 1)) ∧ ι' = if (0 ≤ k ∧ k ≤ 1) ∧ ¬ tb (zim2 k) ι 0 = 0 then iup (tp 23 (tb (zim2 k) ι) ι) 43 2 0 else ι) := by
  refine zCt_of (by decide) (Nat.le_of_ble_eq_true rfl) 0 rfl ?_
  obtain ⟨a, hza⟩ : ∃ a, a = zim2 k := ⟨_, rfl⟩
  rw [← hza]
  have hz3 : a = 33 ∨ a = 38 := by rw [hza]; unfold zim2; split <;> simp
  have hz2 : zTw a := by rcases hz3 with g | g <;> rw [g]; exact tt_33; exact tt_38
  have q0 := tb_0 a ι
  have hI1 := hI a hz3
  have hI2 : -2147483648 ≤ ι a 4 ∧ ι a 4 < 2147483648 := hI1
  refine g_iload_n (x := k) rfl dX6_restore_0 ?_
  refine i_callSp msX6_isNoHalf tw_558 (c_isNoHalf (x := k) ⟨by omega, by omega⟩) (by decide) (st' := []) rfl (Nat.le_of_ble_eq_true rfl) rfl dX6_restore_1 ?_
  refine g_nm (fun b1 hq0 => ?_)
  have hb1 : ((k < 0 ∨ 1 < k) ∧ b1 = 1) ∨ (¬ (k < 0 ∨ 1 < k) ∧ b1 = 0) := zb_c hq0
  clear hq0
  refine g_if_eq ⟨by omega, by omega⟩ (t := 10) dX6_restore_4 (by decide) (fun h4 => ?_) (fun h4 => ?_)
  · refine g_aload_n (x := 8) rfl dX6_restore_10 ?_
    refine g_iload_n (x := k) rfl dX6_restore_11 ?_
    refine i_callVp mvX6_keptImage tw_751 (ci := 6) (congrArg Prod.fst sh_8) rfl (by decide) (show zCi l (zc D ad L z) mX6_keptImage 0 [zR 8, zI k] ι (zP (zR a) ι) from by rw [hza]; exact c_keptImage (by omega)) (by decide) (st' := []) rfl (Nat.le_of_ble_eq_true rfl) rfl dX6_restore_12 ?_
    refine g_get fgX6_127 zcl_5 (congrArg Prod.fst hz2.s0) (by have := hz2.hi; omega) hz2.ig4 dX6_restore_15 ?_
    refine g_if_ne hI1 (t := 24) dX6_restore_18 (by decide) (fun h18 => ?_) (fun h18 => ?_)
    · refine g_aload_n (x := 8) rfl dX6_restore_24 ?_
      refine g_get fgX6_26 zcl_6 (congrArg Prod.fst sh_8) (by decide) rg_8_2 dX6_restore_25 ?_
      refine g_aload_n (x := 8) rfl dX6_restore_28 ?_
      refine g_iload_n (x := k) rfl dX6_restore_29 ?_
      refine i_callVp mvX6_keptImage tw_751 (ci := 6) (congrArg Prod.fst sh_8) rfl (by decide) (show zCi l (zc D ad L z) mX6_keptImage 0 [zR 8, zI k] ι (zP (zR a) ι) from by rw [hza]; exact c_keptImage (by omega)) (by decide) (st' := [zR 23]) rfl (Nat.le_of_ble_eq_true rfl) rfl dX6_restore_30 ?_
      refine i_callV mvX5_become tw_443 (ci := 5) (congrArg Prod.fst sh_23) rfl (by decide) (c_become tt_23 hz2 (by omega)) (by decide) (st' := []) rfl (Nat.le_of_ble_eq_true rfl) rfl dX6_restore_33 (fun v_1 ι1 hq_33 => ?_)
      obtain ⟨rfl, hι1⟩ := hq_33
      refine g_aload_n (x := 8) rfl dX6_restore_36 ?_
      refine g_get fgX6_42 zcl_6 (congrArg Prod.fst sh_8) (by decide) rg_8_6 dX6_restore_37 ?_
      refine i_callV mvX0_forget tw_448 (ci := 0) (congrArg Prod.fst sh_43) rfl (by decide) (c_forget) (by decide) (st' := []) rfl (Nat.le_of_ble_eq_true rfl) rfl dX6_restore_40 (fun v_2 ι2 hq_40 => ?_)
      obtain ⟨rfl, hι2⟩ := hq_40
      refine g_iconst (x := 1) rfl dX6_restore_43 ?_
      exact i_iret rfl dX6_restore_44 (⟨by rw [if_neg (by omega), if_neg (by omega)], by rw [if_pos (by omega), hι2, hι1]⟩)
    · refine g_ldc (x := -1000002) tw_465 (by decide) dX6_restore_21 ?_
      exact i_iret rfl dX6_restore_23 (⟨by rw [if_neg (by omega), if_pos (by omega)], by rw [if_neg (by omega)]⟩)
  · refine g_ldc (x := -1000001) tw_253 (by decide) dX6_restore_7 ?_
    exact i_iret rfl dX6_restore_9 (⟨by rw [if_pos (by omega)], by rw [if_neg (by omega)]⟩)

end
