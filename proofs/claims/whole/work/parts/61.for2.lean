section
variable {l : Launch} {D : va_G} {ad : Nat → Nat} {L z : Nat} {ι : zi}
/-! one street followed alone -/
def zpfN (R : zr) (s : Int) : Nat → zr
  | 0 => R
  | n + 1 => psF (zpfN R s n) s
def zpf (R : zr) (s i : Int) : zr := zpfN R s i.toNat
theorem zpf_0 (R : zr) (s : Int) : zpf R s 0 = R := rfl
theorem zpf_s (R : zr) (s : Int) {i : Int} (h : 0 ≤ i) : zpf R s (i + 1) = psF (zpf R s i) s := by
  unfold zpf
  rw [show (i + 1).toNat = i.toNat + 1 by omega, zpfN]
theorem zhr_c {X Y : zr} {s : Int} (h1 : X 1 = Y 1) (h2 : X 2 = Y 2) (h4 : X 4 = Y 4) (hw : X (30 + Y 4 % Y 1) = Y (30 + Y 4 % Y 1)) : zhr X s = zhr Y s := by
  unfold zhr
  rw [h4, h1, h2, hw]
theorem zstl_c {d l t h : Int} (hl : 0 ≤ l) (ht : 0 ≤ t) : 0 ≤ zstl d l t h ∧ zstl d l t h ≤ l := by
  unfold zstl zmin
  (repeat' split) <;> omega
theorem zpf_V {R : zr} (hz : tz R) (hV : zVT R) (hB : 0 < R 1) {s : Int} (hs0 : 0 ≤ s) (hs1 : s < R 0) {n : Int} (h0 : 0 ≤ n) (h4 : R 4 + n ≤ 20000) : zVT (zpf R s n) ∧ tz (zpf R s n) ∧ zpf R s n 0 = R 0 ∧ zpf R s n 1 = R 1 ∧ zpf R s n 2 = R 2 ∧ zpf R s n 3 = R 3 ∧ zpf R s n 4 = R 4 + n ∧ (∀ k, 0 ≤ k → k < 8 → zpf R s n (6 + k) = R (6 + k)) ∧ (∀ k, 0 ≤ k → k < 8 → zpf R s n (30 + k) = R (30 + k)) ∧ zpf R s n (14 + s) = pasI R n (14 + s) ∧ zpf R s n (22 + s) = pasI R n (22 + s) := by
  have hN8 := hV.1
  have hB8 := hV.2.1
  have key : ∀ m : Nat, (m : Int) ≤ n → zVT (zpfN R s m) ∧ tz (zpfN R s m) ∧ zpfN R s m 0 = R 0 ∧ zpfN R s m 1 = R 1 ∧ zpfN R s m 2 = R 2 ∧ zpfN R s m 3 = R 3 ∧ zpfN R s m 4 = R 4 + m ∧ (∀ k, 0 ≤ k → k < 8 → zpfN R s m (6 + k) = R (6 + k)) ∧ (∀ k, 0 ≤ k → k < 8 → zpfN R s m (30 + k) = R (30 + k)) ∧ zpfN R s m (14 + s) = pasN R m (14 + s) ∧ zpfN R s m (22 + s) = pasN R m (22 + s) := by
    intro m
    induction m with
    | zero => intro _; exact ⟨hV, hz, rfl, rfl, rfl, rfl, by simp [zpfN], fun _ _ _ => rfl, fun _ _ _ => rfl, rfl, rfl⟩
    | succ m ih =>
      intro hm
      obtain ⟨c1, c2, c3, c4, c5, c6, c7, c8, c9, c10, c11⟩ := ih (by omega)
      obtain ⟨p1, p2, p3, p4, p5, p6, p7, p8, p9⟩ := pasI_V hz hV (n := (m : Int)) (by omega) (by omega)
      unfold pasI at p1 p2 p3 p4 p5 p6 p7 p8 p9
      rw [show ((m : Int)).toNat = m by omega] at p1 p2 p3 p4 p5 p6 p7 p8 p9
      rw [zpfN, pasN]
      obtain ⟨X, hX⟩ : ∃ X, X = zpfN R s m := ⟨_, rfl⟩
      obtain ⟨Y, hY⟩ : ∃ Y, Y = pasN R m := ⟨_, rfl⟩
      rw [← hX] at c1 c2 c3 c4 c5 c6 c7 c8 c9 c10 c11 ⊢
      rw [← hY] at c10 c11 p1 p2 p3 p4 p5 p6 p7 p8 p9 ⊢
      obtain ⟨v0, v1, v2, v3, v4, v5, v6, v7⟩ := id c1
      have hk := v6 s hs0 (by omega)
      have hst := zstl_c (d := X (14 + s)) (l := X (22 + s)) (t := X 3) (h := zhr X s) hk.2.2.1 v3.1
      have m0 := Int.emod_nonneg (Y 4) (show Y 1 ≠ 0 by omega)
      have m1 := Int.emod_lt_of_pos (Y 4) (show 0 < Y 1 by omega)
      have hh : zhr X s = zhr Y s := zhr_c (by omega) (by omega) (by omega) (by rw [c9 _ m0 (by omega), p9 _ m0 (by omega)])
      have k6 : X (6 + s) = Y (6 + s) := by rw [c8 s hs0 (by omega), p8 s hs0 (by omega)]
      have zd := zdeep_b (X (6 + s)) (X (14 + s)) (zhr X s) (X 4)
      have eX : ∀ j, psF X s j = if j = 4 then X 4 + 1 else if j = 14 + s then zdeep (X (6 + s)) (X (14 + s)) (zhr X s) (X 4) else if j = 5 then zmin (X 5 + zstl (X (14 + s)) (X (22 + s)) (X 3) (zhr X s)) 99999 else if j = 22 + s then X (22 + s) - zstl (X (14 + s)) (X (22 + s)) (X 3) (zhr X s) else X j := fun j => rfl
      have eo : ∀ j, j ≠ 4 → j ≠ 14 + s → j ≠ 5 → j ≠ 22 + s → psF X s j = X j := fun j a1 a2 a3 a4 => by rw [eX, if_neg a1, if_neg a2, if_neg a3, if_neg a4]
      have e4 : psF X s 4 = X 4 + 1 := by rw [eX, if_pos rfl]
      have ed : psF X s (14 + s) = zdeep (X (6 + s)) (X (14 + s)) (zhr X s) (X 4) := by rw [eX, if_neg (by omega), if_pos rfl]
      have el : psF X s (22 + s) = X (22 + s) - zstl (X (14 + s)) (X (22 + s)) (X 3) (zhr X s) := by rw [eX, if_neg (by omega), if_neg (by omega), if_neg (by omega), if_pos rfl]
      have e5 : 0 ≤ psF X s 5 ∧ psF X s 5 ≤ 99999 := by rw [eX, if_neg (by omega), if_neg (by omega), if_pos rfl]; unfold zmin; split <;> omega
      have y1 : passR Y (14 + s) = zdeep (Y (6 + s)) (Y (14 + s)) (zhr Y s) (Y 4) := by
        unfold passR
        rw [ru_n _ (by omega)]
        unfold paR
        rw [if_pos (by omega), show 14 + s - 8 = 6 + s by omega, show 14 + s - 14 = s by omega]
      have y2 : passR Y (22 + s) = Y (22 + s) - zstR Y s := by
        unfold passR
        rw [ru_n _ (by omega)]
        unfold paR
        rw [if_neg (by omega), if_pos (by omega), show 22 + s - 22 = s by omega]
      refine ⟨⟨by rw [eo 0 (by omega) (by omega) (by omega) (by omega)]; exact v0, by rw [eo 1 (by omega) (by omega) (by omega) (by omega)]; exact v1, by rw [eo 2 (by omega) (by omega) (by omega) (by omega)]; exact v2, by rw [eo 3 (by omega) (by omega) (by omega) (by omega)]; exact v3, by rw [e4]; omega, e5, fun k k0 k1 => ?_, fun b b0 b1 => ?_⟩, ?_, ?_, ?_, ?_, ?_, ?_, ?_, ?_, ?_, ?_⟩
      · rw [eo 0 (by omega) (by omega) (by omega) (by omega)] at k1
        have hq := v6 k k0 k1
        refine ⟨by rw [eo (6 + k) (by omega) (by omega) (by omega) (by omega)]; exact hq.1, ?_, ?_⟩
        · by_cases g : k = s
          · rw [g, ed]; exact zd
          · rw [eo (14 + k) (by omega) (by omega) (by omega) (by omega)]; exact hq.2.1
        · by_cases g : k = s
          · rw [g, el]; omega
          · rw [eo (22 + k) (by omega) (by omega) (by omega) (by omega)]; exact hq.2.2
      · rw [eo 1 (by omega) (by omega) (by omega) (by omega)] at b1
        rw [eo (30 + b) (by omega) (by omega) (by omega) (by omega), eo 0 (by omega) (by omega) (by omega) (by omega)]
        exact v7 b b0 b1
      · exact ru_tz (psR_tz c2 hs0 (by omega)) (by decide) (by decide)
      · rw [eo 0 (by omega) (by omega) (by omega) (by omega)]; exact c3
      · rw [eo 1 (by omega) (by omega) (by omega) (by omega)]; exact c4
      · rw [eo 2 (by omega) (by omega) (by omega) (by omega)]; exact c5
      · rw [eo 3 (by omega) (by omega) (by omega) (by omega)]; exact c6
      · rw [e4]; omega
      · intro k k0 k1; rw [eo (6 + k) (by omega) (by omega) (by omega) (by omega)]; exact c8 k k0 k1
      · intro k k0 k1; rw [eo (30 + k) (by omega) (by omega) (by omega) (by omega)]; exact c9 k k0 k1
      · rw [ed, y1, k6, c10, hh, show X 4 = Y 4 by omega]
      · rw [el, y2, zstR, c10, c11, hh, show X 3 = Y 3 by omega]
  have := key n.toNat (by omega)
  unfold zpf pasI
  rw [show R 4 + n = R 4 + ((n.toNat : Nat) : Int) by omega]
  exact this
theorem zso_z {R : zr} {s : Int} {g : Int → Int} {i n : Int} (h0 : 0 ≤ i) (h : zso R s g i = 0) (hn : i ≤ n) : zso R s g n = 0 := by
  have key : ∀ m : Nat, zso R s g (i + m) = 0 := by
    intro m
    induction m with
    | zero => rw [show i + ((0 : Nat) : Int) = i by omega]; exact h
    | succ m ih => rw [show i + ((m + 1 : Nat) : Int) = i + m + 1 by omega, zso_s _ _ _ (by omega), if_neg (by omega)]
  have := key (n - i).toNat
  rw [show i + (((n - i).toNat : Nat) : Int) = n by omega] at this
  exact this
set_option maxRecDepth 100000 in
theorem lp_townByDraws (hT : zTM (tb 23 ι)) (hN : 0 < tb 23 ι 0) {n x : Int} (hn : 0 ≤ n ∧ n ≤ 60) (hx : 1 ≤ x ∧ x ≤ 999999) : ∀ i : Int, 0 ≤ i → i ≤ n → zGi l (zc D ad L z) mX2_townByDraws 4 15 [some (zR 165), some (zR 23), some (zI n), some (zI x), some (zL (zdx x i)), none, some (zI i)] [] (tp 166 (zdr x (tb 23 ι) i) ι) (fun v ι' => v = some (zR 166) ∧ ι' = tp 166 (zdr x (tb 23 ι) n) ι) := by
  refine z_loopI (fun i h0 h1 ih => ?_)
  obtain ⟨ι1, hι1⟩ : ∃ y, y = tp 166 (zdr x (tb 23 ι) i) ι := ⟨_, rfl⟩
  rw [← hι1]
  obtain ⟨hV, hNB, hH9⟩ := id hT
  obtain ⟨hV0, hV1, hV2, hV3, hV4, hV5, hVk, hVw⟩ := id hV
  have hB := hNB hN
  have q0 := tb_0 23 ι
  have q1 := tb_1 23 ι
  have q2 := tb_2 23 ι
  have q3 := tb_3 23 ι
  have q4 := tb_4 23 ι
  have q5 := tb_5 23 ι
  have hb1 := zdx_b hx h0
  have hb2 := zdx_b hx (n := i + 1) (by omega)
  obtain ⟨g1, g2, g3, g4, g5⟩ := zdr_V (x := x) (tb_tz 23 ι) hV hN hB h0 (by omega)
  have etb : tb 166 ι1 = zdr x (tb 23 ι) i := by rw [hι1, tb_tp 166 g2]
  refine g_iload (x := i) rfl dX2_townByDraws_15 ?_
  refine g_iload_n (x := n) rfl dX2_townByDraws_17 ?_
  refine g_icmp_ge ⟨by omega, by omega⟩ ⟨by omega, by omega⟩ (t := 53) dX2_townByDraws_18 (by decide) (fun h18 => ?_) (fun h18 => ?_)
  · refine g_aload_n (x := 165) rfl dX2_townByDraws_53 ?_
    refine g_get fgX2_14 zcl_2 (congrArg Prod.fst sh_165) (by decide) rg_165_0 dX2_townByDraws_54 ?_
    exact i_aret rfl dX2_townByDraws_57 (⟨rfl, by rw [hι1, show i = n by omega]⟩)
  · refine g_lload (x := (zdx x i)) rfl dX2_townByDraws_21 ?_
    refine g_ldc2 (x := 16807) tw_741 (by decide) dX2_townByDraws_23 ?_
    refine g_lmul dX2_townByDraws_26 ?_
    refine g_ldc2 (x := 2147483647) tw_742 (by decide) dX2_townByDraws_27 ?_
    refine g_lrem (by omega) (by omega) (by omega) (by omega) dX2_townByDraws_30 ?_
    rw [← zdx_s x h0]
    refine g_lstore (ls' := [some (zR 165), some (zR 23), some (zI n), some (zI x), some (zL (zdx x (i + 1))), none, some (zI i)]) dX2_townByDraws_31 (by decide) rfl ?_
    refine g_aload_n (x := 165) rfl dX2_townByDraws_33 ?_
    refine g_lload (x := (zdx x (i + 1))) rfl dX2_townByDraws_34 ?_
    refine g_l2i dX2_townByDraws_36 ?_
    refine i_callV mvX2_applyDraw tw_743 (ci := 2) (congrArg Prod.fst sh_165) rfl (by decide) (c_applyDraw (by rw [etb]; exact g1) (by rw [etb, g3]; exact hN) (by rw [etb, g4]; exact hB) (x := zdx x (i + 1)) hb2) (by decide) (st' := []) rfl (Nat.le_of_ble_eq_true rfl) rfl dX2_townByDraws_37 (fun v_1 ι2 hq_37 => ?_)
    obtain ⟨rfl, hι2⟩ := hq_37
    rw [etb, hι1, tp_tp] at hι2
    obtain ⟨d1, d2, d3, d4, -⟩ := zdw_V (x := zdx x (i + 1)) g2 g1 (by rw [g3]; exact hN) (by rw [g4]; exact hB)
    have et2 : tb 166 ι2 = zdw (zdx x (i + 1)) (zdr x (tb 23 ι) i) := by rw [hι2, tb_tp 166 d2]
    refine g_aload_n (x := 165) rfl dX2_townByDraws_40 ?_
    refine g_get fgX2_14 zcl_2 (congrArg Prod.fst sh_165) (by decide) rg_165_0 dX2_townByDraws_41 ?_
    refine i_callV mvX5_passHour tw_584 (ci := 5) (congrArg Prod.fst sh_166) rfl (by decide) (c_passHour tt_166 (by rw [et2]; exact d1) (by rw [et2, d4, g4]; exact hB)) (by decide) (st' := []) rfl (Nat.le_of_ble_eq_true rfl) rfl dX2_townByDraws_44 (fun v_2 ι3 hq_44 => ?_)
    obtain ⟨rfl, hι3⟩ := hq_44
    rw [et2, hι2, tp_tp, ← zdr_s _ _ h0] at hι3
    refine g_iinc (x := i) (y := i + 1) (ls' := [some (zR 165), some (zR 23), some (zI n), some (zI x), some (zL (zdx x (i + 1))), none, some (zI (i + 1))]) dX2_townByDraws_47 rfl (rfl) (by decide) rfl ?_
    refine g_goto (t := 15) dX2_townByDraws_50 (by decide) ?_
    rw [hι3]
    exact ih (by omega)

set_option maxRecDepth 100000 in
theorem c_townByDraws (hT : zTM (tb 23 ι)) (hN : 0 < tb 23 ι 0) {n x : Int} (hn : 0 ≤ n ∧ n ≤ 60) (hx : 1 ≤ x ∧ x ≤ 999999) : zCi l (zc D ad L z) mX2_townByDraws 4 [zR 165, zR 23, zI n, zI x] ι (fun v ι' => v = some (zR 166) ∧ ι' = tp 166 (zdr x (tb 23 ι) n) ι) := by
  refine zCt_of (by decide) (Nat.le_of_ble_eq_true rfl) 3 rfl ?_
  obtain ⟨hV, hNB, hH9⟩ := id hT
  obtain ⟨hV0, hV1, hV2, hV3, hV4, hV5, hVk, hVw⟩ := id hV
  have hB := hNB hN
  have q0 := tb_0 23 ι
  have q1 := tb_1 23 ι
  have q2 := tb_2 23 ι
  have q3 := tb_3 23 ι
  have q4 := tb_4 23 ι
  have q5 := tb_5 23 ι
  refine g_aload_n (x := 165) rfl dX2_townByDraws_0 ?_
  refine g_get fgX2_14 zcl_2 (congrArg Prod.fst sh_165) (by decide) rg_165_0 dX2_townByDraws_1 ?_
  refine g_aload_n (x := 23) rfl dX2_townByDraws_4 ?_
  refine i_callV mvX5_become tw_565 (ci := 5) (congrArg Prod.fst sh_166) rfl (by decide) (c_become tt_166 tt_23 (by decide)) (by decide) (st' := []) rfl (Nat.le_of_ble_eq_true rfl) rfl dX2_townByDraws_5 (fun v_1 ι1 hq_5 => ?_)
  obtain ⟨rfl, hι1⟩ := hq_5
  have e1 : tb 166 ι1 = tb 23 ι := by rw [hι1, tb_tp 166 (tb_tz 23 ι)]
  refine g_iload_n (x := x) rfl dX2_townByDraws_8 ?_
  refine g_i2l ⟨by omega, by omega⟩ dX2_townByDraws_9 ?_
  refine g_lstore (ls' := [some (zR 165), some (zR 23), some (zI n), some (zI x), some (zL x), none, none]) dX2_townByDraws_10 (by decide) rfl ?_
  refine g_iconst (x := 0) rfl dX2_townByDraws_12 ?_
  refine g_istore (ls' := [some (zR 165), some (zR 23), some (zI n), some (zI x), some (zL x), none, some (zI 0)]) dX2_townByDraws_13 (by decide) rfl ?_
  have hh := lp_townByDraws (l := l) (D := D) (ad := ad) (L := L) (z := z) hT hN hn hx 0 (by omega) (by omega)
  rw [zdr_0, ← hι1] at hh
  exact hh

set_option maxRecDepth 100000 in
theorem c_tell {b : Nat} (hb : zSl.getD b (0, 0) = (1, 40)) (h8 : 8 ≤ b) (hb2 : b < 188) {i n : Int} (hn : 1 ≤ n ∧ n ≤ 12) (hi : 0 ≤ i ∧ i + n ≤ 40) : zCi l (zc D ad L z) mX2_tell 1 [zR 165, zR b, zI i, zI n] ι (fun v ι' => v = none ∧ ι' = icpy (iup ι 165 6 n) b 175 i 0 n) := by
  refine zCt_of (by decide) (Nat.le_of_ble_eq_true rfl) 0 rfl ?_
  refine g_aload_n (x := 165) rfl dX2_tell_0 ?_
  refine g_iload_n (x := n) rfl dX2_tell_1 ?_
  refine g_aload_n (x := 165) rfl dX2_tell_2 ?_
  refine g_get fgX2_31 zcl_2 (congrArg Prod.fst sh_165) (by decide) rg_165_5 dX2_tell_3 ?_
  refine g_alen sh_175 (by decide) (by decide) (by decide) dX2_tell_6 ?_
  refine g_mmin ⟨by omega, by omega⟩ (by decide) (by decide) (Nat.le_of_ble_eq_true rfl) tw_691 mq_min2 mq_min3 mq_min4 dX2_tell_7 ?_
  rw [show zmin n ((12 : Nat) : Int) = n by unfold zmin; split <;> omega]
  obtain ⟨ι1, hι1⟩ : ∃ y_, y_ = iup ι 165 6 n := ⟨_, rfl⟩
  refine i_put fwX2_147 zcl_2 (congrArg Prod.fst sh_165) (by decide) (by decide) (ι1 := ι1) (by rw [hι1]; exact iu_165_6) dX2_tell_10 ?_
  refine g_aload_n (x := b) rfl dX2_tell_13 ?_
  refine g_iload_n (x := i) rfl dX2_tell_14 ?_
  refine g_aload_n (x := 165) rfl dX2_tell_15 ?_
  refine g_get fgX2_31 zcl_2 (congrArg Prod.fst sh_165) (by decide) rg_165_5 dX2_tell_16 ?_
  refine g_iconst (x := 0) rfl dX2_tell_19 ?_
  refine g_aload_n (x := 165) rfl dX2_tell_20 ?_
  refine g_get fgX2_147 zcl_2 (congrArg Prod.fst sh_165) (by decide) ig_165_6 dX2_tell_21 ?_
  rw [show ι1 165 6 = n by rw [hι1, iup_s]]
  obtain ⟨ι2, hι2⟩ : ∃ y_, y_ = icpy ι1 b 175 i 0 n := ⟨_, rfl⟩
  refine g_acopy (k := n) (sh_arr hb h8) sh_175 hb2 (by decide) (by decide) (by omega) (by decide) (by omega) (by omega) (by omega) (by decide) (by decide) (fun y _ _ => ⟨_, zg_arr hb⟩) (by decide) (Nat.le_of_ble_eq_true rfl) tw_692 tw_289 tw_288 tw_10 dX2_tell_24 ?_
  rw [zg_cpy hb (rfl : zSl.getD 175 (0, 0) = (1, 12)), ← hι2]
  exact i_ret rfl dX2_tell_27 (⟨rfl, by rw [hι2, hι1]⟩)

set_option maxRecDepth 100000 in
theorem c_firstGuess {w : Int} (hw : 0 ≤ w ∧ w ≤ 3) : zCi l (zc D ad L z) mX2_firstGuess 0 [zI w] ι (zP (zI (zffr w)) ι) := by
  refine zCt_of (by decide) (Nat.le_of_ble_eq_true rfl) 0 rfl ?_
  refine g_iload_n (x := w) rfl dX2_firstGuess_0 ?_
  refine g_if_ne ⟨by omega, by omega⟩ (t := 8) dX2_firstGuess_1 (by decide) (fun h1 => ?_) (fun h1 => ?_)
  · refine g_iconst (x := 0) rfl dX2_firstGuess_8 ?_
    exact i_iret rfl dX2_firstGuess_9 (⟨by unfold zffr; rw [if_neg (by omega)], rfl⟩)
  · refine g_iconst (x := 1) rfl dX2_firstGuess_4 ?_
    refine g_goto (t := 9) dX2_firstGuess_5 (by decide) ?_
    exact i_iret rfl dX2_firstGuess_9 (⟨by unfold zffr; rw [if_pos (by omega)], rfl⟩)

set_option maxRecDepth 100000 in
theorem c_lastGuess {w : Int} (hw : 0 ≤ w ∧ w ≤ 3) : zCi l (zc D ad L z) mX2_lastGuess 0 [zR 23, zI w] ι (zP (zI (zfto (tb 23 ι) w)) ι) := by
  refine zCt_of (by decide) (Nat.le_of_ble_eq_true rfl) 0 rfl ?_
  refine g_iload_n (x := w) rfl dX2_lastGuess_0 ?_
  by_cases hsw : w < 0 ∨ 2 < w
  · refine g_tswOut ⟨by omega, by omega⟩ dX2_lastGuess_1 hsw (t := 35) (by decide) ?_
    refine g_aload_n (x := 23) rfl dX2_lastGuess_35 ?_
    refine g_get fgX2_57 zcl_5 (congrArg Prod.fst sh_23) (by decide) ig_23_4 dX2_lastGuess_36 ?_
    refine g_iconst (x := 1) rfl dX2_lastGuess_39 ?_
    refine g_isub dX2_lastGuess_40 ?_
    exact i_iret rfl dX2_lastGuess_41 (⟨by unfold zfto; rw [if_neg (by omega), if_neg (by omega), if_neg (by omega), tb_0], rfl⟩)
  · rcases (show w = 0 ∨ w = 1 ∨ w = 2 by omega) with hsv | hsv | hsv
    · refine g_tswIn ⟨by omega, by omega⟩ dX2_lastGuess_1 (by omega) (by omega) (off := 27) (by rw [hsv]; rfl) (t := 28) (by decide) ?_
      refine g_iconst (x := 5) rfl dX2_lastGuess_28 ?_
      exact i_iret rfl dX2_lastGuess_29 (⟨by unfold zfto; rw [if_pos (by omega)], rfl⟩)
    · refine g_tswIn ⟨by omega, by omega⟩ dX2_lastGuess_1 (by omega) (by omega) (off := 29) (by rw [hsv]; rfl) (t := 30) (by decide) ?_
      refine g_bipush (x := 20) (by decide) dX2_lastGuess_30 ?_
      exact i_iret rfl dX2_lastGuess_32 (⟨by unfold zfto; rw [if_neg (by omega), if_pos (by omega)], rfl⟩)
    · refine g_tswIn ⟨by omega, by omega⟩ dX2_lastGuess_1 (by omega) (by omega) (off := 32) (by rw [hsv]; rfl) (t := 33) (by decide) ?_
      refine g_iconst (x := 3) rfl dX2_lastGuess_33 ?_
      exact i_iret rfl dX2_lastGuess_34 (⟨by unfold zfto; rw [if_neg (by omega), if_neg (by omega), if_pos (by omega)], rfl⟩)

set_option maxRecDepth 100000 in
theorem c_suppose (hV : zVT (tb 166 ι)) (hB : 0 < tb 166 ι 1) {s w v : Int} (hs : 0 ≤ s ∧ s < 8) (hw : 0 ≤ w ∧ w ≤ 3) : zCi l (zc D ad L z) mX2_suppose 1 [zR 165, zI s, zI w, zI v] ι (fun r ι' => r = none ∧ ι' = tp 166 (ru (tb 166 ι) (zfpl (tb 166 ι) s w) v) ι) := by
  refine zCt_of (by decide) (Nat.le_of_ble_eq_true rfl) 0 rfl ?_
  obtain ⟨hV0, hV1, hV2, hV3, hV4, hV5, hVk, hVw⟩ := id hV
  have q0 := tb_0 166 ι
  have q1 := tb_1 166 ι
  have q4 := tb_4 166 ι
  refine g_iload_n (x := w) rfl dX2_suppose_0 ?_
  by_cases hsw : w < 0 ∨ 2 < w
  · refine g_tswOut ⟨by omega, by omega⟩ dX2_suppose_1 hsw (t := 65) (by decide) ?_
    refine g_aload_n (x := 165) rfl dX2_suppose_65 ?_
    refine g_get fgX2_14 zcl_2 (congrArg Prod.fst sh_165) (by decide) rg_165_0 dX2_suppose_66 ?_
    refine g_get fgX2_122 zcl_5 (congrArg Prod.fst sh_166) (by decide) rg_166_3 dX2_suppose_69 ?_
    refine g_aload_n (x := 165) rfl dX2_suppose_72 ?_
    refine g_get fgX2_14 zcl_2 (congrArg Prod.fst sh_165) (by decide) rg_165_0 dX2_suppose_73 ?_
    refine i_callVp mvX5_beatNow tw_707 (ci := 5) (congrArg Prod.fst sh_166) rfl (by decide) (c_beatNow tt_166 (by omega) (by omega)) (by decide) (st' := [zR 170]) rfl (Nat.le_of_ble_eq_true rfl) rfl dX2_suppose_76 ?_
    refine g_iload_n (x := v) rfl dX2_suppose_79 ?_
    have m0 := Int.emod_nonneg (ι 166 8) (show ι 166 5 ≠ 0 by omega)
    have m1 := Int.emod_lt_of_pos (ι 166 8) (show 0 < ι 166 5 by omega)
    have eb : (if ι 166 5 < 1 then 0 else ι 166 8 % ι 166 5) = ι 166 8 % ι 166 5 := if_neg (by omega)
    rw [eb]
    obtain ⟨ι1, hι1⟩ : ∃ y_, y_ = iup ι 170 (ι 166 8 % ι 166 5) v := ⟨_, rfl⟩
    refine i_iast sh_170 (by decide) (by decide) (by omega) (by omega) (by decide) (ι1 := ι1) (by rw [hι1]; exact au_170) dX2_suppose_80 ?_
    exact i_ret rfl dX2_suppose_81 (⟨rfl, by first | (rw [hι1, tp_up_k 166 ι (by omega) (by omega), zfpl, if_pos (by omega)]) | (rw [hι1, tp_up_d 166 ι (by omega) (by omega), zfpl, if_neg (by omega), if_pos (by omega)]) | (rw [hι1, tp_up_s 166 ι (by omega) (by omega), zfpl, if_neg (by omega), if_neg (by omega), if_pos (by omega)]; rfl) | (rw [hι1, tp_up_w 166 ι (by omega) (by omega), zfpl, if_neg (by omega), if_neg (by omega), if_neg (by omega), q4, q1])⟩)
  · rcases (show w = 0 ∨ w = 1 ∨ w = 2 by omega) with hsv | hsv | hsv
    · refine g_tswIn ⟨by omega, by omega⟩ dX2_suppose_1 (by omega) (by omega) (off := 27) (by rw [hsv]; rfl) (t := 28) (by decide) ?_
      refine g_aload_n (x := 165) rfl dX2_suppose_28 ?_
      refine g_get fgX2_14 zcl_2 (congrArg Prod.fst sh_165) (by decide) rg_165_0 dX2_suppose_29 ?_
      refine g_get fgX2_97 zcl_5 (congrArg Prod.fst sh_166) (by decide) rg_166_0 dX2_suppose_32 ?_
      refine g_iload_n (x := s) rfl dX2_suppose_35 ?_
      refine g_iload_n (x := v) rfl dX2_suppose_36 ?_
      obtain ⟨ι1, hι1⟩ : ∃ y_, y_ = iup ι 167 s v := ⟨_, rfl⟩
      refine i_iast sh_167 (by decide) (by decide) (by omega) (by omega) (by decide) (ι1 := ι1) (by rw [hι1]; exact au_167) dX2_suppose_37 ?_
      refine g_goto (t := 81) dX2_suppose_38 (by decide) ?_
      exact i_ret rfl dX2_suppose_81 (⟨rfl, by first | (rw [hι1, tp_up_k 166 ι (by omega) (by omega), zfpl, if_pos (by omega)]) | (rw [hι1, tp_up_d 166 ι (by omega) (by omega), zfpl, if_neg (by omega), if_pos (by omega)]) | (rw [hι1, tp_up_s 166 ι (by omega) (by omega), zfpl, if_neg (by omega), if_neg (by omega), if_pos (by omega)]; rfl) | (rw [hι1, tp_up_w 166 ι (by omega) (by omega), zfpl, if_neg (by omega), if_neg (by omega), if_neg (by omega), q4, q1])⟩)
    · refine g_tswIn ⟨by omega, by omega⟩ dX2_suppose_1 (by omega) (by omega) (off := 40) (by rw [hsv]; rfl) (t := 41) (by decide) ?_
      refine g_aload_n (x := 165) rfl dX2_suppose_41 ?_
      refine g_get fgX2_14 zcl_2 (congrArg Prod.fst sh_165) (by decide) rg_165_0 dX2_suppose_42 ?_
      refine g_get fgX2_81 zcl_5 (congrArg Prod.fst sh_166) (by decide) rg_166_1 dX2_suppose_45 ?_
      refine g_iload_n (x := s) rfl dX2_suppose_48 ?_
      refine g_iload_n (x := v) rfl dX2_suppose_49 ?_
      obtain ⟨ι1, hι1⟩ : ∃ y_, y_ = iup ι 168 s v := ⟨_, rfl⟩
      refine i_iast sh_168 (by decide) (by decide) (by omega) (by omega) (by decide) (ι1 := ι1) (by rw [hι1]; exact au_168) dX2_suppose_50 ?_
      refine g_goto (t := 81) dX2_suppose_51 (by decide) ?_
      exact i_ret rfl dX2_suppose_81 (⟨rfl, by first | (rw [hι1, tp_up_k 166 ι (by omega) (by omega), zfpl, if_pos (by omega)]) | (rw [hι1, tp_up_d 166 ι (by omega) (by omega), zfpl, if_neg (by omega), if_pos (by omega)]) | (rw [hι1, tp_up_s 166 ι (by omega) (by omega), zfpl, if_neg (by omega), if_neg (by omega), if_pos (by omega)]; rfl) | (rw [hι1, tp_up_w 166 ι (by omega) (by omega), zfpl, if_neg (by omega), if_neg (by omega), if_neg (by omega), q4, q1])⟩)
    · refine g_tswIn ⟨by omega, by omega⟩ dX2_suppose_1 (by omega) (by omega) (off := 53) (by rw [hsv]; rfl) (t := 54) (by decide) ?_
      refine g_aload_n (x := 165) rfl dX2_suppose_54 ?_
      refine g_get fgX2_14 zcl_2 (congrArg Prod.fst sh_165) (by decide) rg_165_0 dX2_suppose_55 ?_
      refine g_iload_n (x := v) rfl dX2_suppose_58 ?_
      obtain ⟨ι1, hι1⟩ : ∃ y_, y_ = iup ι 166 6 v := ⟨_, rfl⟩
      refine i_put fwX2_138 zcl_5 (congrArg Prod.fst sh_166) (by decide) (by decide) (ι1 := ι1) (by rw [hι1]; exact iu_166_6) dX2_suppose_59 ?_
      refine g_goto (t := 81) dX2_suppose_62 (by decide) ?_
      exact i_ret rfl dX2_suppose_81 (⟨rfl, by first | (rw [hι1, tp_up_k 166 ι (by omega) (by omega), zfpl, if_pos (by omega)]) | (rw [hι1, tp_up_d 166 ι (by omega) (by omega), zfpl, if_neg (by omega), if_pos (by omega)]) | (rw [hι1, tp_up_s 166 ι (by omega) (by omega), zfpl, if_neg (by omega), if_neg (by omega), if_pos (by omega)]; rfl) | (rw [hι1, tp_up_w 166 ι (by omega) (by omega), zfpl, if_neg (by omega), if_neg (by omega), if_neg (by omega), q4, q1])⟩)

set_option maxRecDepth 100000 in
theorem lp_sleepsAsTold (hV : zVT (tb 166 ι)) (hB : 0 < tb 166 ι 1) {s : Int} (hs0 : 0 ≤ s) (hs1 : s < tb 166 ι 0) (h4 : tb 166 ι 4 ≤ 10000) (hn : 0 ≤ ι 165 6 ∧ ι 165 6 ≤ 12) (ht : ∀ k, 0 ≤ k → k < ι 165 6 → zB (ι 175 k)) : ∀ i : Int, 0 ≤ i → i ≤ ι 165 6 → zso (tb 166 ι) s (ι 175) i = 1 → zGi l (zc D ad L z) mX2_sleepsAsTold 4 2 [some (zR 165), some (zI s), some (zI i)] [] (tp 166 (zpf (tb 166 ι) s i) ι) (fun v ι' => v = some (zI (zso (tb 166 ι) s (ι 175) (ι 165 6))) ∧ ∃ X, ι' = tp 166 X ι) := by
  refine z_loopI (P := fun i => zso (tb 166 ι) s (ι 175) i = 1 → _) (fun i h0 h1 ih hso => ?_)
  obtain ⟨ι1, hι1⟩ : ∃ y, y = tp 166 (zpf (tb 166 ι) s i) ι := ⟨_, rfl⟩
  rw [← hι1]
  have hN8 := hV.1
  obtain ⟨g1, g2, g3, g4, g5, g6, g7, g8, g9, g10, g11⟩ := zpf_V (tb_tz 166 ι) hV hB hs0 hs1 h0 (by omega)
  have etb : tb 166 ι1 = zpf (tb 166 ι) s i := by rw [hι1, tb_tp 166 g2]
  have o6 : ι1 165 6 = ι 165 6 := by rw [hι1, tp_o 166 _ _ (by omega) 6]
  refine g_iload_n (x := i) rfl dX2_sleepsAsTold_2 ?_
  refine g_aload_n (x := 165) rfl dX2_sleepsAsTold_3 ?_
  refine g_get fgX2_147 zcl_2 (congrArg Prod.fst sh_165) (by decide) ig_165_6 dX2_sleepsAsTold_4 ?_
  rw [o6]
  refine g_icmp_ge ⟨by omega, by omega⟩ ⟨by omega, by omega⟩ (t := 44) dX2_sleepsAsTold_7 (by decide) (fun h7 => ?_) (fun h7 => ?_)
  · refine g_iconst (x := 1) rfl dX2_sleepsAsTold_44 ?_
    exact i_zret rfl (by decide) dX2_sleepsAsTold_45 (⟨by rw [show ι 165 6 = i by omega, hso], _, hι1⟩)
  · obtain ⟨k1, k2, k3, k4, k5, k6, k7, k8, k9, k10, k11⟩ := zpf_V (tb_tz 166 ι) hV hB hs0 hs1 (n := i + 1) (by omega) (by omega)
    refine g_aload_n (x := 165) rfl dX2_sleepsAsTold_10 ?_
    refine g_get fgX2_14 zcl_2 (congrArg Prod.fst sh_165) (by decide) rg_165_0 dX2_sleepsAsTold_11 ?_
    refine g_iload_n (x := s) rfl dX2_sleepsAsTold_14 ?_
    refine i_callV mvX5_passHourFor tw_666 (ci := 5) (congrArg Prod.fst sh_166) rfl (by decide) (c_passHourFor tt_166 (by rw [etb]; exact g1) (by rw [etb, g4]; exact hB) hs0 (by rw [etb, g3]; exact hs1)) (by decide) (st' := []) rfl (Nat.le_of_ble_eq_true rfl) rfl dX2_sleepsAsTold_15 (fun v_1 ι2 hq_15 => ?_)
    obtain ⟨rfl, hι2⟩ := hq_15
    rw [etb, ← zpf_s _ _ h0, hι1, tp_tp] at hι2
    have od : ι2 168 s = pasI (tb 166 ι) (i + 1) (14 + s) := by rw [← tb_d 166 ι2 hs0 (by omega), hι2, tb_tp 166 k2, k10]
    have ot : ι2 175 i = ι 175 i := by rw [hι2, tp_o 166 _ _ (by omega) i]
    have hd0 := (k1.2.2.2.2.2.2.1 s hs0 (by omega)).2.1
    rw [k10] at hd0
    have ht1 := ht i h0 (by omega)
    have hzs := zso_s (tb 166 ι) s (ι 175) h0
    refine g_aload_n (x := 165) rfl dX2_sleepsAsTold_18 ?_
    refine g_get fgX2_14 zcl_2 (congrArg Prod.fst sh_165) (by decide) rg_165_0 dX2_sleepsAsTold_19 ?_
    refine g_get fgX2_81 zcl_5 (congrArg Prod.fst sh_166) (by decide) rg_166_1 dX2_sleepsAsTold_22 ?_
    refine g_iload_n (x := s) rfl dX2_sleepsAsTold_25 ?_
    refine g_iald sh_168 (by decide) (by omega) (by omega) (by decide) ag_168 dX2_sleepsAsTold_26 ?_
    refine g_aload_n (x := 165) rfl dX2_sleepsAsTold_27 ?_
    refine g_get fgX2_31 zcl_2 (congrArg Prod.fst sh_165) (by decide) rg_165_5 dX2_sleepsAsTold_28 ?_
    refine g_iload_n (x := i) rfl dX2_sleepsAsTold_31 ?_
    refine g_iald sh_175 (by decide) (by omega) (by omega) (by decide) ag_175 dX2_sleepsAsTold_32 ?_
    rw [od, ot]
    refine g_icmp_eq ⟨by omega, by omega⟩ ⟨by omega, by omega⟩ (t := 38) dX2_sleepsAsTold_33 (by decide) (fun h33 => ?_) (fun h33 => ?_)
    · refine g_iinc (x := i) (y := i + 1) (ls' := [some (zR 165), some (zI s), some (zI (i + 1))]) dX2_sleepsAsTold_38 rfl (rfl) (by decide) rfl ?_
      refine g_goto (t := 2) dX2_sleepsAsTold_41 (by decide) ?_
      have hh := ih (by omega) (by rw [hzs, if_pos ⟨hso, by omega⟩])
      rw [← hι2] at hh
      exact hh
    · refine g_iconst (x := 0) rfl dX2_sleepsAsTold_36 ?_
      exact i_zret rfl (by decide) dX2_sleepsAsTold_37 (⟨by rw [zso_z (i := i + 1) (by omega) (by rw [hzs, if_neg (by omega)]) (by omega)], _, hι2⟩)

set_option maxRecDepth 100000 in
theorem c_sleepsAsTold (hV : zVT (tb 166 ι)) (hB : 0 < tb 166 ι 1) {s : Int} (hs0 : 0 ≤ s) (hs1 : s < tb 166 ι 0) (h4 : tb 166 ι 4 ≤ 10000) (hn : 0 ≤ ι 165 6 ∧ ι 165 6 ≤ 12) (ht : ∀ k, 0 ≤ k → k < ι 165 6 → zB (ι 175 k)) : zCi l (zc D ad L z) mX2_sleepsAsTold 4 [zR 165, zI s] ι (fun v ι' => v = some (zI (zso (tb 166 ι) s (ι 175) (ι 165 6))) ∧ ∃ X, ι' = tp 166 X ι) := by
  refine zCt_of (by decide) (Nat.le_of_ble_eq_true rfl) 1 rfl ?_
  refine g_iconst (x := 0) rfl dX2_sleepsAsTold_0 ?_
  refine g_istore_n (ls' := [some (zR 165), some (zI s), some (zI 0)]) dX2_sleepsAsTold_1 (by decide) rfl ?_
  have hh := lp_sleepsAsTold (l := l) (D := D) (ad := ad) (L := L) (z := z) hV hB hs0 hs1 h4 hn ht 0 (by omega) (by omega) (zso_0 _ _ _)
  rw [zpf_0, tp_tb] at hh
  exact hh

end
