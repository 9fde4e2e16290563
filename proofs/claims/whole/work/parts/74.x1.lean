section
variable {l : Launch} {D : va_G} {ad : Nat → Nat} {L z : Nat} {ι : zi}
set_option maxRecDepth 100000 in
theorem c_found {n : Int} : zCi l (zc D ad L z) mX6_found 0 [zR 8, zI n] ι (fun v ι' => v = some (zI (-1000010 - n)) ∧ ι' = iup ι 8 9 n) := by
  refine zCt_of (by decide) (Nat.le_of_ble_eq_true rfl) 0 rfl ?_
  refine g_aload_n (x := 8) rfl dX6_found_0 ?_
  refine g_iload_n (x := n) rfl dX6_found_1 ?_
  obtain ⟨ι1, hι1⟩ : ∃ y_, y_ = iup ι 8 9 n := ⟨_, rfl⟩
  refine i_put fwX6_293 zcl_6 (congrArg Prod.fst sh_8) (by decide) (by decide) (ι1 := ι1) (by rw [hι1]; exact iu_8_9) dX6_found_2 ?_
  refine g_ldcw (x := -1000010) tw_258 (by decide) dX6_found_5 ?_
  refine g_iload_n (x := n) rfl dX6_found_8 ?_
  refine g_isub dX6_found_9 ?_
  exact i_iret rfl dX6_found_10 (⟨rfl, hι1⟩)

set_option maxRecDepth 100000 in
theorem c_fine {n : Int} : zCi l (zc D ad L z) mX6_fine 0 [zR 8, zI n] ι (fun v ι' => v = some (zI n) ∧ ι' = iup ι 8 9 0) := by
  refine zCt_of (by decide) (Nat.le_of_ble_eq_true rfl) 0 rfl ?_
  refine g_aload_n (x := 8) rfl dX6_fine_0 ?_
  refine g_iconst (x := 0) rfl dX6_fine_1 ?_
  obtain ⟨ι1, hι1⟩ : ∃ y_, y_ = iup ι 8 9 0 := ⟨_, rfl⟩
  refine i_put fwX6_293 zcl_6 (congrArg Prod.fst sh_8) (by decide) (by decide) (ι1 := ι1) (by rw [hι1]; exact iu_8_9) dX6_fine_2 ?_
  refine g_iload_n (x := n) rfl dX6_fine_5 ?_
  exact i_iret rfl dX6_fine_6 (⟨rfl, hι1⟩)

set_option maxRecDepth 100000 in
theorem c_noTown (hN : zB (ι 23 4)) : zCi l (zc D ad L z) mX6_noTown 0 [zR 8] ι (zP (zI (if ι 23 4 = 0 then 1 else 0)) ι) := by
  refine zCt_of (by decide) (Nat.le_of_ble_eq_true rfl) 0 rfl ?_
  refine g_aload_n (x := 8) rfl dX6_noTown_0 ?_
  refine g_get fgX6_26 zcl_6 (congrArg Prod.fst sh_8) (by decide) rg_8_2 dX6_noTown_1 ?_
  refine g_get fgX6_127 zcl_5 (congrArg Prod.fst sh_23) (by decide) ig_23_4 dX6_noTown_4 ?_
  refine g_if_ne ⟨by omega, by omega⟩ (t := 14) dX6_noTown_7 (by decide) (fun h7 => ?_) (fun h7 => ?_)
  · refine g_iconst (x := 0) rfl dX6_noTown_14 ?_
    exact i_zret rfl (by decide) dX6_noTown_15 (⟨by rw [if_neg (by omega)], rfl⟩)
  · refine g_iconst (x := 1) rfl dX6_noTown_10 ?_
    refine g_goto (t := 15) dX6_noTown_11 (by decide) ?_
    exact i_zret rfl (by decide) dX6_noTown_15 (⟨by rw [if_pos (by omega)], rfl⟩)

set_option maxRecDepth 100000 in
theorem c_isNoHalf {x : Int} (hx : zB x) : zCi l (zc D ad L z) mX6_isNoHalf 0 [zI x] ι (zP (zI (if x < 0 ∨ 1 < x then 1 else 0)) ι) := by
  refine zCt_of (by decide) (Nat.le_of_ble_eq_true rfl) 0 rfl ?_
  refine g_iload_n (x := x) rfl dX6_isNoHalf_0 ?_
  refine g_if_lt ⟨by omega, by omega⟩ (t := 9) dX6_isNoHalf_1 (by decide) (fun h1 => ?_) (fun h1 => ?_)
  · refine g_iconst (x := 1) rfl dX6_isNoHalf_9 ?_
    refine g_goto (t := 14) dX6_isNoHalf_10 (by decide) ?_
    exact i_zret rfl (by decide) dX6_isNoHalf_14 (⟨by rw [if_pos (by omega)], rfl⟩)
  · refine g_iload_n (x := x) rfl dX6_isNoHalf_4 ?_
    refine g_iconst (x := 1) rfl dX6_isNoHalf_5 ?_
    refine g_icmp_le ⟨by omega, by omega⟩ (by decide) (t := 13) dX6_isNoHalf_6 (by decide) (fun h6 => ?_) (fun h6 => ?_)
    · refine g_iconst (x := 0) rfl dX6_isNoHalf_13 ?_
      exact i_zret rfl (by decide) dX6_isNoHalf_14 (⟨by rw [if_neg (by omega)], rfl⟩)
    · refine g_iconst (x := 1) rfl dX6_isNoHalf_9 ?_
      refine g_goto (t := 14) dX6_isNoHalf_10 (by decide) ?_
      exact i_zret rfl (by decide) dX6_isNoHalf_14 (⟨by rw [if_pos (by omega)], rfl⟩)

set_option maxRecDepth 100000 in
theorem c_isNoFarHour {x : Int} (hx : zB x) : zCi l (zc D ad L z) mX6_isNoFarHour 0 [zI x] ι (zP (zI (if x < 0 ∨ 60 < x then 1 else 0)) ι) := by
  refine zCt_of (by decide) (Nat.le_of_ble_eq_true rfl) 0 rfl ?_
  refine g_iload_n (x := x) rfl dX6_isNoFarHour_0 ?_
  refine g_if_lt ⟨by omega, by omega⟩ (t := 10) dX6_isNoFarHour_1 (by decide) (fun h1 => ?_) (fun h1 => ?_)
  · refine g_iconst (x := 1) rfl dX6_isNoFarHour_10 ?_
    refine g_goto (t := 15) dX6_isNoFarHour_11 (by decide) ?_
    exact i_zret rfl (by decide) dX6_isNoFarHour_15 (⟨by rw [if_pos (by omega)], rfl⟩)
  · refine g_iload_n (x := x) rfl dX6_isNoFarHour_4 ?_
    refine g_bipush (x := 60) (by decide) dX6_isNoFarHour_5 ?_
    refine g_icmp_le ⟨by omega, by omega⟩ (by decide) (t := 14) dX6_isNoFarHour_7 (by decide) (fun h7 => ?_) (fun h7 => ?_)
    · refine g_iconst (x := 0) rfl dX6_isNoFarHour_14 ?_
      exact i_zret rfl (by decide) dX6_isNoFarHour_15 (⟨by rw [if_neg (by omega)], rfl⟩)
    · refine g_iconst (x := 1) rfl dX6_isNoFarHour_10 ?_
      refine g_goto (t := 15) dX6_isNoFarHour_11 (by decide) ?_
      exact i_zret rfl (by decide) dX6_isNoFarHour_15 (⟨by rw [if_pos (by omega)], rfl⟩)

def zim2 (k : Int) : Nat := if k = 0 then 33 else 38
set_option maxRecDepth 100000 in
theorem c_keptImage {k : Int} (hk : 0 ≤ k ∧ k ≤ 1) : zCi l (zc D ad L z) mX6_keptImage 0 [zR 8, zI k] ι (zP (zR (zim2 k)) ι) := by
  refine zCt_of (by decide) (Nat.le_of_ble_eq_true rfl) 0 rfl ?_
  refine g_iload_n (x := k) rfl dX6_keptImage_0 ?_
  refine g_if_ne ⟨by omega, by omega⟩ (t := 11) dX6_keptImage_1 (by decide) (fun h1 => ?_) (fun h1 => ?_)
  · refine g_aload_n (x := 8) rfl dX6_keptImage_11 ?_
    refine g_get fgX6_36 zcl_6 (congrArg Prod.fst sh_8) (by decide) rg_8_5 dX6_keptImage_12 ?_
    exact i_aret rfl dX6_keptImage_15 (⟨by unfold zim2; rw [if_neg (by omega)], rfl⟩)
  · refine g_aload_n (x := 8) rfl dX6_keptImage_4 ?_
    refine g_get fgX6_33 zcl_6 (congrArg Prod.fst sh_8) (by decide) rg_8_4 dX6_keptImage_5 ?_
    refine g_goto (t := 15) dX6_keptImage_8 (by decide) ?_
    exact i_aret rfl dX6_keptImage_15 (⟨by unfold zim2; rw [if_pos (by omega)], rfl⟩)

set_option maxRecDepth 100000 in
theorem c_xRow {r k n : Int} (hr : zB r) (hk : zB k) (hn : zB n) : zCi l (zc D ad L z) mX6_row 2 [zR 8, zI r, zI k, zI n] ι (fun v ι' => v = some (zI (if ¬ ((0 ≤ r ∧ r ≤ 7) ∧ (0 ≤ k ∧ k ≤ 2) ∧ n ≤ 40) then -1000001 else if n < 0 then -1000014 else n)) ∧ ι' = if ¬ ((0 ≤ r ∧ r ≤ 7) ∧ (0 ≤ k ∧ k ≤ 2) ∧ n ≤ 40) then ι else if n < 0 then iup ι 8 9 4 else iup (iup (iup (ifill ι (11 + r.toNat) 0 40) 19 r k) 20 r n) 8 9 0) := by
  refine zCt_of (by decide) (Nat.le_of_ble_eq_true rfl) 0 rfl ?_
  refine g_iload_n (x := r) rfl dX6_row_0 ?_
  refine i_callSp msX3_isRow tw_250 (c_isRow ⟨by omega, by omega⟩) (by decide) (st' := []) rfl (Nat.le_of_ble_eq_true rfl) rfl dX6_row_1 ?_
  refine g_nm (fun b1 hq0 => ?_)
  have hb1 : ((0 ≤ r ∧ r < 8) ∧ b1 = 1) ∨ (¬ (0 ≤ r ∧ r < 8) ∧ b1 = 0) := zb_c hq0
  clear hq0
  refine g_if_eq ⟨by omega, by omega⟩ (t := 22) dX6_row_4 (by decide) (fun h4 => ?_) (fun h4 => ?_)
  · refine g_ldc (x := -1000001) tw_253 (by decide) dX6_row_22 ?_
    exact i_iret rfl dX6_row_24 (⟨by rw [if_pos (by omega)], by rw [if_pos (by omega)]⟩)
  · refine g_iload_n (x := k) rfl dX6_row_7 ?_
    refine g_if_lt ⟨by omega, by omega⟩ (t := 22) dX6_row_8 (by decide) (fun h8 => ?_) (fun h8 => ?_)
    · refine g_ldc (x := -1000001) tw_253 (by decide) dX6_row_22 ?_
      exact i_iret rfl dX6_row_24 (⟨by rw [if_pos (by omega)], by rw [if_pos (by omega)]⟩)
    · refine g_iload_n (x := k) rfl dX6_row_11 ?_
      refine g_iconst (x := 2) rfl dX6_row_12 ?_
      refine g_icmp_gt ⟨by omega, by omega⟩ (by decide) (t := 22) dX6_row_13 (by decide) (fun h13 => ?_) (fun h13 => ?_)
      · refine g_ldc (x := -1000001) tw_253 (by decide) dX6_row_22 ?_
        exact i_iret rfl dX6_row_24 (⟨by rw [if_pos (by omega)], by rw [if_pos (by omega)]⟩)
      · refine g_iload_n (x := n) rfl dX6_row_16 ?_
        refine g_bipush (x := 40) (by decide) dX6_row_17 ?_
        refine g_icmp_le ⟨by omega, by omega⟩ (by decide) (t := 25) dX6_row_19 (by decide) (fun h19 => ?_) (fun h19 => ?_)
        · refine g_iload_n (x := n) rfl dX6_row_25 ?_
          refine g_if_ge ⟨by omega, by omega⟩ (t := 35) dX6_row_26 (by decide) (fun h26 => ?_) (fun h26 => ?_)
          · refine g_aload_n (x := 8) rfl dX6_row_35 ?_
            refine g_get fgX6_10 zcl_6 (congrArg Prod.fst sh_8) (by decide) rg_8_0 dX6_row_36 ?_
            refine g_iload_n (x := r) rfl dX6_row_39 ?_
            refine g_iload_n (x := k) rfl dX6_row_40 ?_
            refine g_iload_n (x := n) rfl dX6_row_41 ?_
            refine i_callV mvX3_lay tw_259 (ci := 3) (congrArg Prod.fst sh_9) rfl (by decide) (c_lay (r := r) (k := k) (n := n) (by omega) (by omega)) (by decide) (st' := []) rfl (Nat.le_of_ble_eq_true rfl) rfl dX6_row_42 (fun v_1 ι1 hq_42 => ?_)
            obtain ⟨rfl, hι1⟩ := hq_42
            refine g_aload_n (x := 8) rfl dX6_row_45 ?_
            refine g_iload_n (x := n) rfl dX6_row_46 ?_
            refine i_callV mvX6_fine tw_263 (ci := 6) (congrArg Prod.fst sh_8) rfl (by decide) (c_fine) (by decide) (st' := []) rfl (Nat.le_of_ble_eq_true rfl) rfl dX6_row_47 (fun v_2 ιf hq_47 => ?_)
            obtain ⟨rfl, hιf⟩ := hq_47
            exact i_iret rfl dX6_row_50 (⟨by rw [if_neg (by omega), if_neg (by omega)], by rw [if_neg (by omega), if_neg (by omega), hιf, hι1]⟩)
          · refine g_aload_n (x := 8) rfl dX6_row_29 ?_
            refine g_iconst (x := 4) rfl dX6_row_30 ?_
            refine i_callV mvX6_found tw_254 (ci := 6) (congrArg Prod.fst sh_8) rfl (by decide) (c_found) (by decide) (st' := []) rfl (Nat.le_of_ble_eq_true rfl) rfl dX6_row_31 (fun v_3 ιf hq_31 => ?_)
            obtain ⟨rfl, hιf⟩ := hq_31
            exact i_iret rfl dX6_row_34 (⟨by rw [if_neg (by omega), if_pos (by omega)]; rfl, by rw [if_neg (by omega), if_pos (by omega), hιf]⟩)
        · refine g_ldc (x := -1000001) tw_253 (by decide) dX6_row_22 ?_
          exact i_iret rfl dX6_row_24 (⟨by rw [if_pos (by omega)], by rw [if_pos (by omega)]⟩)

set_option maxRecDepth 100000 in
theorem c_xSet (hL : ∀ k, 0 ≤ k → k < 8 → -1 ≤ ι 19 k ∧ ι 19 k ≤ 2) (hM : ∀ k, 0 ≤ k → k < 8 → 0 ≤ ι 20 k ∧ ι 20 k ≤ 40) {r i v : Int} (hr : zB r) (hi : zB i) : zCi l (zc D ad L z) mX6_set 2 [zR 8, zI r, zI i, zI v] ι (fun x ι' => x = some (zI (if ¬ (0 ≤ r ∧ r ≤ 7) then -1000001 else if ι 19 r = -1 then -1000011 else if ¬ (0 ≤ i ∧ 0 ≤ (1 : Int) ∧ i ≤ ι 20 r ∧ 1 ≤ ι 20 r - i) then -1000012 else zkp (ι 19 r) v)) ∧ ι' = if ¬ (0 ≤ r ∧ r ≤ 7) then ι else if ι 19 r = -1 then iup ι 8 9 1 else if ¬ (0 ≤ i ∧ 0 ≤ (1 : Int) ∧ i ≤ ι 20 r ∧ 1 ≤ ι 20 r - i) then iup ι 8 9 2 else iup (iup ι (11 + r.toNat) i (zkp (ι 19 r) v)) 8 9 0) := by
  refine zCt_of (by decide) (Nat.le_of_ble_eq_true rfl) 0 rfl ?_
  refine g_iload_n (x := r) rfl dX6_set_0 ?_
  refine i_callSp msX3_isRow tw_250 (c_isRow ⟨by omega, by omega⟩) (by decide) (st' := []) rfl (Nat.le_of_ble_eq_true rfl) rfl dX6_set_1 ?_
  refine g_nm (fun b1 hq0 => ?_)
  have hb1 : ((0 ≤ r ∧ r < 8) ∧ b1 = 1) ∨ (¬ (0 ≤ r ∧ r < 8) ∧ b1 = 0) := zb_c hq0
  clear hq0
  refine g_if_ne ⟨by omega, by omega⟩ (t := 10) dX6_set_4 (by decide) (fun h4 => ?_) (fun h4 => ?_)
  · refine g_aload_n (x := 8) rfl dX6_set_10 ?_
    refine g_get fgX6_10 zcl_6 (congrArg Prod.fst sh_8) (by decide) rg_8_0 dX6_set_11 ?_
    refine g_iload_n (x := r) rfl dX6_set_14 ?_
    refine i_callVp mvX3_isMissing tw_271 (ci := 3) (congrArg Prod.fst sh_9) rfl (by decide) (c_isMissing (r := r) (by omega) (by omega) (by have := hL r (by omega) (by omega); exact ⟨by omega, by omega⟩)) (by decide) (st' := []) rfl (Nat.le_of_ble_eq_true rfl) rfl dX6_set_15 ?_
    refine g_nm (fun b15 hq0 => ?_)
    have hb15 : ((ι 19 r = -1) ∧ b15 = 1) ∨ (¬ (ι 19 r = -1) ∧ b15 = 0) := zb_c hq0
    clear hq0
    refine g_if_eq ⟨by omega, by omega⟩ (t := 27) dX6_set_18 (by decide) (fun h18 => ?_) (fun h18 => ?_)
    · refine g_aload_n (x := 8) rfl dX6_set_27 ?_
      refine g_get fgX6_10 zcl_6 (congrArg Prod.fst sh_8) (by decide) rg_8_0 dX6_set_28 ?_
      refine g_iload_n (x := r) rfl dX6_set_31 ?_
      refine g_iload_n (x := i) rfl dX6_set_32 ?_
      refine g_iconst (x := 1) rfl dX6_set_33 ?_
      refine i_callVp mvX3_holds tw_275 (ci := 3) (congrArg Prod.fst sh_9) rfl (by decide) (c_holds (r := r) (by omega) (by omega) ⟨by omega, by omega⟩ ⟨by omega, by omega⟩ (hM r (by omega) (by omega))) (by decide) (st' := []) rfl (Nat.le_of_ble_eq_true rfl) rfl dX6_set_34 ?_
      refine g_nm (fun b34 hq0 => ?_)
      have hb34 : ((0 ≤ i ∧ 0 ≤ (1 : Int) ∧ i ≤ ι 20 r ∧ (1 : Int) ≤ ι 20 r - i) ∧ b34 = 1) ∨ (¬ (0 ≤ i ∧ 0 ≤ (1 : Int) ∧ i ≤ ι 20 r ∧ (1 : Int) ≤ ι 20 r - i) ∧ b34 = 0) := zb_c hq0
      clear hq0
      refine g_if_ne ⟨by omega, by omega⟩ (t := 46) dX6_set_37 (by decide) (fun h37 => ?_) (fun h37 => ?_)
      · refine g_aload_n (x := 8) rfl dX6_set_46 ?_
        refine g_aload_n (x := 8) rfl dX6_set_47 ?_
        refine g_get fgX6_10 zcl_6 (congrArg Prod.fst sh_8) (by decide) rg_8_0 dX6_set_48 ?_
        refine g_iload_n (x := r) rfl dX6_set_51 ?_
        refine g_iload_n (x := i) rfl dX6_set_52 ?_
        refine g_iload_n (x := v) rfl dX6_set_53 ?_
        have hM1 := hM r (by omega) (by omega)
        have hL1 := hL r (by omega) (by omega)
        refine i_callV mvX3_put tw_279 (ci := 3) (congrArg Prod.fst sh_9) rfl (by decide) (c_put (r := r) (i := i) (v := v) (by omega) (by omega) (by omega) ⟨by omega, by omega⟩) (by decide) (st' := [zR 8]) rfl (Nat.le_of_ble_eq_true rfl) rfl dX6_set_54 (fun v_1 ι1 hq_54 => ?_)
        obtain ⟨rfl, hι1⟩ := hq_54
        refine i_callV mvX6_fine tw_263 (ci := 6) (congrArg Prod.fst sh_8) rfl (by decide) (c_fine) (by decide) (st' := []) rfl (Nat.le_of_ble_eq_true rfl) rfl dX6_set_57 (fun v_2 ιf hq_57 => ?_)
        obtain ⟨rfl, hιf⟩ := hq_57
        exact i_iret rfl dX6_set_60 (⟨by rw [if_neg (by omega), if_neg (by omega), if_neg (by omega)], by rw [if_neg (by omega), if_neg (by omega), if_neg (by omega), hιf, hι1]⟩)
      · refine g_aload_n (x := 8) rfl dX6_set_40 ?_
        refine g_iconst (x := 2) rfl dX6_set_41 ?_
        refine i_callV mvX6_found tw_254 (ci := 6) (congrArg Prod.fst sh_8) rfl (by decide) (c_found) (by decide) (st' := []) rfl (Nat.le_of_ble_eq_true rfl) rfl dX6_set_42 (fun v_3 ιf hq_42 => ?_)
        obtain ⟨rfl, hιf⟩ := hq_42
        exact i_iret rfl dX6_set_45 (⟨by rw [if_neg (by omega), if_neg (by omega), if_pos (by omega)]; rfl, by rw [if_neg (by omega), if_neg (by omega), if_pos (by omega), hιf]⟩)
    · refine g_aload_n (x := 8) rfl dX6_set_21 ?_
      refine g_iconst (x := 1) rfl dX6_set_22 ?_
      refine i_callV mvX6_found tw_254 (ci := 6) (congrArg Prod.fst sh_8) rfl (by decide) (c_found) (by decide) (st' := []) rfl (Nat.le_of_ble_eq_true rfl) rfl dX6_set_23 (fun v_4 ιf hq_23 => ?_)
      obtain ⟨rfl, hιf⟩ := hq_23
      exact i_iret rfl dX6_set_26 (⟨by rw [if_neg (by omega), if_pos (by omega)]; rfl, by rw [if_neg (by omega), if_pos (by omega), hιf]⟩)
  · refine g_ldc (x := -1000001) tw_253 (by decide) dX6_set_7 ?_
    exact i_iret rfl dX6_set_9 (⟨by rw [if_pos (by omega)], by rw [if_pos (by omega)]⟩)

set_option maxRecDepth 100000 in
theorem c_xCopy (hL : ∀ k, 0 ≤ k → k < 8 → -1 ≤ ι 19 k ∧ ι 19 k ≤ 2) (hM : ∀ k, 0 ≤ k → k < 8 → 0 ≤ ι 20 k ∧ ι 20 k ≤ 40) {a i b j n : Int} (ha : zB a) (hi : zB i) (hb : zB b) (hj : zB j) (hn : zB n) : zCi l (zc D ad L z) mX6_copy 2 [zR 8, zI a, zI i, zI b, zI j, zI n] ι (fun (v : Option zV) (ι' : zi) => v = some (zI (if ¬ ((0 ≤ a ∧ a ≤ 7) ∧ (0 ≤ b ∧ b ≤ 7)) then -1000001 else if ι 19 a = -1 ∨ ι 19 b = -1 then -1000011 else if ¬ ι 19 a = ι 19 b then -1000015 else if ¬ (0 ≤ i ∧ 0 ≤ n ∧ i ≤ ι 20 a ∧ n ≤ ι 20 a - i) ∨ ¬ (0 ≤ j ∧ 0 ≤ n ∧ j ≤ ι 20 b ∧ n ≤ ι 20 b - j) then -1000012 else n)) ∧ ι' = if ¬ ((0 ≤ a ∧ a ≤ 7) ∧ (0 ≤ b ∧ b ≤ 7)) then ι else if ι 19 a = -1 ∨ ι 19 b = -1 then iup ι 8 9 1 else if ¬ ι 19 a = ι 19 b then iup ι 8 9 5 else if ¬ (0 ≤ i ∧ 0 ≤ n ∧ i ≤ ι 20 a ∧ n ≤ ι 20 a - i) ∨ ¬ (0 ≤ j ∧ 0 ≤ n ∧ j ≤ ι 20 b ∧ n ≤ ι 20 b - j) then iup ι 8 9 2 else iup (icpy ι (11 + a.toNat) (11 + b.toNat) i j n) 8 9 0) := by
  refine zCt_of (by decide) (Nat.le_of_ble_eq_true rfl) 0 rfl ?_
  refine g_iload_n (x := a) rfl dX6_copy_0 ?_
  refine i_callSp msX3_isRow tw_250 (c_isRow ⟨by omega, by omega⟩) (by decide) (st' := []) rfl (Nat.le_of_ble_eq_true rfl) rfl dX6_copy_1 ?_
  refine g_nm (fun b1 hq0 => ?_)
  have hb1 : ((0 ≤ a ∧ a < 8) ∧ b1 = 1) ∨ (¬ (0 ≤ a ∧ a < 8) ∧ b1 = 0) := zb_c hq0
  clear hq0
  refine g_if_eq ⟨by omega, by omega⟩ (t := 14) dX6_copy_4 (by decide) (fun h4 => ?_) (fun h4 => ?_)
  · refine g_ldc (x := -1000001) tw_253 (by decide) dX6_copy_14 ?_
    exact i_iret rfl dX6_copy_16 (⟨by rw [if_pos (by omega)], by rw [if_pos (by omega)]⟩)
  · refine g_iload_n (x := b) rfl dX6_copy_7 ?_
    refine i_callSp msX3_isRow tw_250 (c_isRow ⟨by omega, by omega⟩) (by decide) (st' := []) rfl (Nat.le_of_ble_eq_true rfl) rfl dX6_copy_8 ?_
    refine g_nm (fun b8 hq0 => ?_)
    have hb8 : ((0 ≤ b ∧ b < 8) ∧ b8 = 1) ∨ (¬ (0 ≤ b ∧ b < 8) ∧ b8 = 0) := zb_c hq0
    clear hq0
    refine g_if_ne ⟨by omega, by omega⟩ (t := 17) dX6_copy_11 (by decide) (fun h11 => ?_) (fun h11 => ?_)
    · refine g_aload_n (x := 8) rfl dX6_copy_17 ?_
      refine g_get fgX6_10 zcl_6 (congrArg Prod.fst sh_8) (by decide) rg_8_0 dX6_copy_18 ?_
      refine g_iload_n (x := a) rfl dX6_copy_21 ?_
      refine i_callVp mvX3_isMissing tw_271 (ci := 3) (congrArg Prod.fst sh_9) rfl (by decide) (c_isMissing (r := a) (by omega) (by omega) (by have := hL a (by omega) (by omega); exact ⟨by omega, by omega⟩)) (by decide) (st' := []) rfl (Nat.le_of_ble_eq_true rfl) rfl dX6_copy_22 ?_
      refine g_nm (fun b22 hq0 => ?_)
      have hb22 : ((ι 19 a = -1) ∧ b22 = 1) ∨ (¬ (ι 19 a = -1) ∧ b22 = 0) := zb_c hq0
      clear hq0
      refine g_if_ne ⟨by omega, by omega⟩ (t := 39) dX6_copy_25 (by decide) (fun h25 => ?_) (fun h25 => ?_)
      · refine g_aload_n (x := 8) rfl dX6_copy_39 ?_
        refine g_iconst (x := 1) rfl dX6_copy_40 ?_
        refine i_callV mvX6_found tw_254 (ci := 6) (congrArg Prod.fst sh_8) rfl (by decide) (c_found) (by decide) (st' := []) rfl (Nat.le_of_ble_eq_true rfl) rfl dX6_copy_41 (fun v_1 ιf hq_41 => ?_)
        obtain ⟨rfl, hιf⟩ := hq_41
        exact i_iret rfl dX6_copy_44 (⟨by rw [if_neg (by omega), if_pos (by omega)]; rfl, by rw [if_neg (by omega), if_pos (by omega), hιf]⟩)
      · refine g_aload_n (x := 8) rfl dX6_copy_28 ?_
        refine g_get fgX6_10 zcl_6 (congrArg Prod.fst sh_8) (by decide) rg_8_0 dX6_copy_29 ?_
        refine g_iload_n (x := b) rfl dX6_copy_32 ?_
        refine i_callVp mvX3_isMissing tw_271 (ci := 3) (congrArg Prod.fst sh_9) rfl (by decide) (c_isMissing (r := b) (by omega) (by omega) (by have := hL b (by omega) (by omega); exact ⟨by omega, by omega⟩)) (by decide) (st' := []) rfl (Nat.le_of_ble_eq_true rfl) rfl dX6_copy_33 ?_
        refine g_nm (fun b33 hq0 => ?_)
        have hb33 : ((ι 19 b = -1) ∧ b33 = 1) ∨ (¬ (ι 19 b = -1) ∧ b33 = 0) := zb_c hq0
        clear hq0
        refine g_if_eq ⟨by omega, by omega⟩ (t := 45) dX6_copy_36 (by decide) (fun h36 => ?_) (fun h36 => ?_)
        · refine g_aload_n (x := 8) rfl dX6_copy_45 ?_
          refine g_get fgX6_10 zcl_6 (congrArg Prod.fst sh_8) (by decide) rg_8_0 dX6_copy_46 ?_
          refine g_get fgX6_87 zcl_3 (congrArg Prod.fst sh_9) (by decide) rg_9_1 dX6_copy_49 ?_
          refine g_iload_n (x := a) rfl dX6_copy_52 ?_
          refine g_iald sh_19 (by decide) (by omega) (by omega) (by decide) ag_19 dX6_copy_53 ?_
          refine g_aload_n (x := 8) rfl dX6_copy_54 ?_
          refine g_get fgX6_10 zcl_6 (congrArg Prod.fst sh_8) (by decide) rg_8_0 dX6_copy_55 ?_
          refine g_get fgX6_87 zcl_3 (congrArg Prod.fst sh_9) (by decide) rg_9_1 dX6_copy_58 ?_
          refine g_iload_n (x := b) rfl dX6_copy_61 ?_
          refine g_iald sh_19 (by decide) (by omega) (by omega) (by decide) ag_19 dX6_copy_62 ?_
          have hLa := hL a (by omega) (by omega)
          have hLb := hL b (by omega) (by omega)
          have hMa := hM a (by omega) (by omega)
          have hMb := hM b (by omega) (by omega)
          refine g_icmp_eq ⟨by omega, by omega⟩ ⟨by omega, by omega⟩ (t := 72) dX6_copy_63 (by decide) (fun h63 => ?_) (fun h63 => ?_)
          · refine g_aload_n (x := 8) rfl dX6_copy_72 ?_
            refine g_get fgX6_10 zcl_6 (congrArg Prod.fst sh_8) (by decide) rg_8_0 dX6_copy_73 ?_
            refine g_iload_n (x := a) rfl dX6_copy_76 ?_
            refine g_iload_n (x := i) rfl dX6_copy_77 ?_
            refine g_iload (x := n) rfl dX6_copy_78 ?_
            refine i_callVp mvX3_holds tw_275 (ci := 3) (congrArg Prod.fst sh_9) rfl (by decide) (c_holds (r := a) (by omega) (by omega) ⟨by omega, by omega⟩ ⟨by omega, by omega⟩ (hM a (by omega) (by omega))) (by decide) (st' := []) rfl (Nat.le_of_ble_eq_true rfl) rfl dX6_copy_80 ?_
            refine g_nm (fun b80 hq0 => ?_)
            have hb80 : ((0 ≤ i ∧ 0 ≤ n ∧ i ≤ ι 20 a ∧ n ≤ ι 20 a - i) ∧ b80 = 1) ∨ (¬ (0 ≤ i ∧ 0 ≤ n ∧ i ≤ ι 20 a ∧ n ≤ ι 20 a - i) ∧ b80 = 0) := zb_c hq0
            clear hq0
            refine g_if_eq ⟨by omega, by omega⟩ (t := 101) dX6_copy_83 (by decide) (fun h83 => ?_) (fun h83 => ?_)
            · refine g_aload_n (x := 8) rfl dX6_copy_101 ?_
              refine g_iconst (x := 2) rfl dX6_copy_102 ?_
              refine i_callV mvX6_found tw_254 (ci := 6) (congrArg Prod.fst sh_8) rfl (by decide) (c_found) (by decide) (st' := []) rfl (Nat.le_of_ble_eq_true rfl) rfl dX6_copy_103 (fun v_2 ιf hq_103 => ?_)
              obtain ⟨rfl, hιf⟩ := hq_103
              exact i_iret rfl dX6_copy_106 (⟨by rw [if_neg (by omega), if_neg (by omega), if_neg (by omega), if_pos (by omega)]; rfl, by rw [if_neg (by omega), if_neg (by omega), if_neg (by omega), if_pos (by omega), hιf]⟩)
            · refine g_aload_n (x := 8) rfl dX6_copy_86 ?_
              refine g_get fgX6_10 zcl_6 (congrArg Prod.fst sh_8) (by decide) rg_8_0 dX6_copy_87 ?_
              refine g_iload_n (x := b) rfl dX6_copy_90 ?_
              refine g_iload (x := j) rfl dX6_copy_91 ?_
              refine g_iload (x := n) rfl dX6_copy_93 ?_
              refine i_callVp mvX3_holds tw_275 (ci := 3) (congrArg Prod.fst sh_9) rfl (by decide) (c_holds (r := b) (by omega) (by omega) ⟨by omega, by omega⟩ ⟨by omega, by omega⟩ (hM b (by omega) (by omega))) (by decide) (st' := []) rfl (Nat.le_of_ble_eq_true rfl) rfl dX6_copy_95 ?_
              refine g_nm (fun b95 hq0 => ?_)
              have hb95 : ((0 ≤ j ∧ 0 ≤ n ∧ j ≤ ι 20 b ∧ n ≤ ι 20 b - j) ∧ b95 = 1) ∨ (¬ (0 ≤ j ∧ 0 ≤ n ∧ j ≤ ι 20 b ∧ n ≤ ι 20 b - j) ∧ b95 = 0) := zb_c hq0
              clear hq0
              refine g_if_ne ⟨by omega, by omega⟩ (t := 107) dX6_copy_98 (by decide) (fun h98 => ?_) (fun h98 => ?_)
              · refine g_aload_n (x := 8) rfl dX6_copy_107 ?_
                refine g_get fgX6_10 zcl_6 (congrArg Prod.fst sh_8) (by decide) rg_8_0 dX6_copy_108 ?_
                refine g_get fgX6_91 zcl_3 (congrArg Prod.fst sh_9) (by decide) rg_9_0 dX6_copy_111 ?_
                refine g_iload_n (x := a) rfl dX6_copy_114 ?_
                refine g_aald sh_10 (by decide) (by decide) (by omega) (by omega) (by decide) ag_10 dX6_copy_115 ?_
                refine g_iload_n (x := i) rfl dX6_copy_116 ?_
                refine g_aload_n (x := 8) rfl dX6_copy_117 ?_
                refine g_get fgX6_10 zcl_6 (congrArg Prod.fst sh_8) (by decide) rg_8_0 dX6_copy_118 ?_
                refine g_get fgX6_91 zcl_3 (congrArg Prod.fst sh_9) (by decide) rg_9_0 dX6_copy_121 ?_
                refine g_iload_n (x := b) rfl dX6_copy_124 ?_
                refine g_aald sh_10 (by decide) (by decide) (by omega) (by omega) (by decide) ag_10 dX6_copy_125 ?_
                refine g_iload (x := j) rfl dX6_copy_126 ?_
                refine g_iload (x := n) rfl dX6_copy_128 ?_
                obtain ⟨ι1, hι1⟩ : ∃ y_, y_ = icpy ι (11 + (a).toNat) (11 + (b).toNat) i j n := ⟨_, rfl⟩
                refine g_acopy (k := n) (sh_arr (zrow_sl (r := a) (by omega) (by omega)) (by omega)) (sh_arr (zrow_sl (r := b) (by omega) (by omega)) (by omega)) (by omega) (by omega) (by omega) (by omega) (by omega) (by omega) (by omega) (by omega) (by decide) (by decide) (fun y _ _ => ⟨_, zg_arr (zrow_sl (r := a) (by omega) (by omega))⟩) (by decide) (Nat.le_of_ble_eq_true rfl) tw_287 tw_289 tw_288 tw_10 dX6_copy_130 ?_
                rw [zg_cpy (zrow_sl (r := a) (by omega) (by omega)) (zrow_sl (r := b) (by omega) (by omega)), ← hι1]
                refine g_aload_n (x := 8) rfl dX6_copy_133 ?_
                refine g_iload (x := n) rfl dX6_copy_134 ?_
                refine i_callV mvX6_fine tw_263 (ci := 6) (congrArg Prod.fst sh_8) rfl (by decide) (c_fine) (by decide) (st' := []) rfl (Nat.le_of_ble_eq_true rfl) rfl dX6_copy_136 (fun v_3 ιf hq_136 => ?_)
                obtain ⟨rfl, hιf⟩ := hq_136
                exact i_iret rfl dX6_copy_139 (⟨by rw [if_neg (by omega), if_neg (by omega), if_neg (by omega), if_neg (by omega)], by rw [if_neg (by omega), if_neg (by omega), if_neg (by omega), if_neg (by omega), hιf, hι1]⟩)
              · refine g_aload_n (x := 8) rfl dX6_copy_101 ?_
                refine g_iconst (x := 2) rfl dX6_copy_102 ?_
                refine i_callV mvX6_found tw_254 (ci := 6) (congrArg Prod.fst sh_8) rfl (by decide) (c_found) (by decide) (st' := []) rfl (Nat.le_of_ble_eq_true rfl) rfl dX6_copy_103 (fun v_4 ιf hq_103 => ?_)
                obtain ⟨rfl, hιf⟩ := hq_103
                exact i_iret rfl dX6_copy_106 (⟨by rw [if_neg (by omega), if_neg (by omega), if_neg (by omega), if_pos (by omega)]; rfl, by rw [if_neg (by omega), if_neg (by omega), if_neg (by omega), if_pos (by omega), hιf]⟩)
          · refine g_aload_n (x := 8) rfl dX6_copy_66 ?_
            refine g_iconst (x := 5) rfl dX6_copy_67 ?_
            refine i_callV mvX6_found tw_254 (ci := 6) (congrArg Prod.fst sh_8) rfl (by decide) (c_found) (by decide) (st' := []) rfl (Nat.le_of_ble_eq_true rfl) rfl dX6_copy_68 (fun v_5 ιf hq_68 => ?_)
            obtain ⟨rfl, hιf⟩ := hq_68
            exact i_iret rfl dX6_copy_71 (⟨by rw [if_neg (by omega), if_neg (by omega), if_pos (by omega)]; rfl, by rw [if_neg (by omega), if_neg (by omega), if_pos (by omega), hιf]⟩)
        · refine g_aload_n (x := 8) rfl dX6_copy_39 ?_
          refine g_iconst (x := 1) rfl dX6_copy_40 ?_
          refine i_callV mvX6_found tw_254 (ci := 6) (congrArg Prod.fst sh_8) rfl (by decide) (c_found) (by decide) (st' := []) rfl (Nat.le_of_ble_eq_true rfl) rfl dX6_copy_41 (fun v_6 ιf hq_41 => ?_)
          obtain ⟨rfl, hιf⟩ := hq_41
          exact i_iret rfl dX6_copy_44 (⟨by rw [if_neg (by omega), if_pos (by omega)]; rfl, by rw [if_neg (by omega), if_pos (by omega), hιf]⟩)
    · refine g_ldc (x := -1000001) tw_253 (by decide) dX6_copy_14 ?_
      exact i_iret rfl dX6_copy_16 (⟨by rw [if_pos (by omega)], by rw [if_pos (by omega)]⟩)

set_option maxRecDepth 100000 in
theorem c_xDrop (hL : ∀ k, 0 ≤ k → k < 8 → -1 ≤ ι 19 k ∧ ι 19 k ≤ 2) (hM : ∀ k, 0 ≤ k → k < 8 → 0 ≤ ι 20 k ∧ ι 20 k ≤ 40) {r : Int} (hr : zB r) : zCi l (zc D ad L z) mX6_drop 2 [zR 8, zI r] ι (fun x ι' => x = some (zI (if ¬ (0 ≤ r ∧ r ≤ 7) then -1000001 else if ι 19 r = -1 then -1000011 else ι 20 r)) ∧ ι' = if ¬ (0 ≤ r ∧ r ≤ 7) then ι else if ι 19 r = -1 then iup ι 8 9 1 else iup (iup (iup ι 19 r (-1)) 20 r 0) 8 9 0) := by
  refine zCt_of (by decide) (Nat.le_of_ble_eq_true rfl) 0 rfl ?_
  refine g_iload_n (x := r) rfl dX6_drop_0 ?_
  refine i_callSp msX3_isRow tw_250 (c_isRow ⟨by omega, by omega⟩) (by decide) (st' := []) rfl (Nat.le_of_ble_eq_true rfl) rfl dX6_drop_1 ?_
  refine g_nm (fun b1 hq0 => ?_)
  have hb1 : ((0 ≤ r ∧ r < 8) ∧ b1 = 1) ∨ (¬ (0 ≤ r ∧ r < 8) ∧ b1 = 0) := zb_c hq0
  clear hq0
  refine g_if_ne ⟨by omega, by omega⟩ (t := 10) dX6_drop_4 (by decide) (fun h4 => ?_) (fun h4 => ?_)
  · refine g_aload_n (x := 8) rfl dX6_drop_10 ?_
    refine g_get fgX6_10 zcl_6 (congrArg Prod.fst sh_8) (by decide) rg_8_0 dX6_drop_11 ?_
    refine g_iload_n (x := r) rfl dX6_drop_14 ?_
    refine i_callVp mvX3_isMissing tw_271 (ci := 3) (congrArg Prod.fst sh_9) rfl (by decide) (c_isMissing (r := r) (by omega) (by omega) (by have := hL r (by omega) (by omega); exact ⟨by omega, by omega⟩)) (by decide) (st' := []) rfl (Nat.le_of_ble_eq_true rfl) rfl dX6_drop_15 ?_
    refine g_nm (fun b15 hq0 => ?_)
    have hb15 : ((ι 19 r = -1) ∧ b15 = 1) ∨ (¬ (ι 19 r = -1) ∧ b15 = 0) := zb_c hq0
    clear hq0
    refine g_if_eq ⟨by omega, by omega⟩ (t := 27) dX6_drop_18 (by decide) (fun h18 => ?_) (fun h18 => ?_)
    · refine g_aload_n (x := 8) rfl dX6_drop_27 ?_
      refine g_aload_n (x := 8) rfl dX6_drop_28 ?_
      refine g_get fgX6_10 zcl_6 (congrArg Prod.fst sh_8) (by decide) rg_8_0 dX6_drop_29 ?_
      refine g_iload_n (x := r) rfl dX6_drop_32 ?_
      refine i_callV mvX3_takeAway tw_294 (ci := 3) (congrArg Prod.fst sh_9) rfl (by decide) (c_takeAway (r := r) (by omega) (by omega)) (by decide) (st' := [zR 8]) rfl (Nat.le_of_ble_eq_true rfl) rfl dX6_drop_33 (fun v_1 ι1 hq_33 => ?_)
      obtain ⟨rfl, hι1⟩ := hq_33
      refine i_callV mvX6_fine tw_263 (ci := 6) (congrArg Prod.fst sh_8) rfl (by decide) (c_fine) (by decide) (st' := []) rfl (Nat.le_of_ble_eq_true rfl) rfl dX6_drop_36 (fun v_2 ιf hq_36 => ?_)
      obtain ⟨rfl, hιf⟩ := hq_36
      exact i_iret rfl dX6_drop_39 (⟨by rw [if_neg (by omega), if_neg (by omega)], by rw [if_neg (by omega), if_neg (by omega), hιf, hι1]⟩)
    · refine g_aload_n (x := 8) rfl dX6_drop_21 ?_
      refine g_iconst (x := 1) rfl dX6_drop_22 ?_
      refine i_callV mvX6_found tw_254 (ci := 6) (congrArg Prod.fst sh_8) rfl (by decide) (c_found) (by decide) (st' := []) rfl (Nat.le_of_ble_eq_true rfl) rfl dX6_drop_23 (fun v_3 ιf hq_23 => ?_)
      obtain ⟨rfl, hιf⟩ := hq_23
      exact i_iret rfl dX6_drop_26 (⟨by rw [if_neg (by omega), if_pos (by omega)]; rfl, by rw [if_neg (by omega), if_pos (by omega), hιf]⟩)
  · refine g_ldc (x := -1000001) tw_253 (by decide) dX6_drop_7 ?_
    exact i_iret rfl dX6_drop_9 (⟨by rw [if_pos (by omega)], by rw [if_pos (by omega)]⟩)

set_option maxRecDepth 100000 in
theorem c_xFeed (hl : 0 ≤ ι 21 1 ∧ ι 21 1 ≤ 110) {x : Int} (hx : zB x) : zCi l (zc D ad L z) mX6_feed 1 [zR 8, zI x] ι (fun v ι' => v = some (zI (if ¬ (0 ≤ x ∧ x ≤ 255) then -1000001 else if ι 21 1 = 110 then -1000003 else ι 21 1 + 1)) ∧ ι' = if (0 ≤ x ∧ x ≤ 255) ∧ ¬ ι 21 1 = 110 then iup (iup ι 22 (ι 21 1) x) 21 1 (ι 21 1 + 1) else ι) := by
  refine zCt_of (by decide) (Nat.le_of_ble_eq_true rfl) 0 rfl ?_
  refine g_iload_n (x := x) rfl dX6_feed_0 ?_
  refine g_if_lt ⟨by omega, by omega⟩ (t := 11) dX6_feed_1 (by decide) (fun h1 => ?_) (fun h1 => ?_)
  · refine g_ldc (x := -1000001) tw_253 (by decide) dX6_feed_11 ?_
    exact i_iret rfl dX6_feed_13 (⟨by rw [if_pos (by omega)], by rw [if_neg (by omega)]⟩)
  · refine g_iload_n (x := x) rfl dX6_feed_4 ?_
    refine g_sipush (x := 255) (by decide) dX6_feed_5 ?_
    refine g_icmp_le ⟨by omega, by omega⟩ (by decide) (t := 14) dX6_feed_8 (by decide) (fun h8 => ?_) (fun h8 => ?_)
    · refine g_aload_n (x := 8) rfl dX6_feed_14 ?_
      refine g_get fgX6_19 zcl_6 (congrArg Prod.fst sh_8) (by decide) rg_8_1 dX6_feed_15 ?_
      refine g_iload_n (x := x) rfl dX6_feed_18 ?_
      refine i_callV mvX4_append tw_302 (ci := 4) (congrArg Prod.fst sh_21) rfl (by decide) (c_append hl) (by decide) (st' := []) rfl (Nat.le_of_ble_eq_true rfl) rfl dX6_feed_19 (fun v_1 ι1 hq_19 => ?_)
      obtain ⟨rfl, hι1⟩ := hq_19
      obtain ⟨bb, hbb⟩ : ∃ bb, bb = (if ι 21 1 = 110 then (0 : Int) else 1) := ⟨_, rfl⟩
      have hb2 : (ι 21 1 = 110 ∧ bb = 0) ∨ (¬ ι 21 1 = 110 ∧ bb = 1) := by
        rw [hbb]
        split
        · exact Or.inl ⟨by assumption, rfl⟩
        · exact Or.inr ⟨by assumption, rfl⟩
      rw [← hbb]
      refine g_if_eq ⟨by omega, by omega⟩ (t := 35) dX6_feed_22 (by decide) (fun h22 => ?_) (fun h22 => ?_)
      · refine g_ldc (x := -1000003) tw_306 (by decide) dX6_feed_35 ?_
        exact i_iret rfl dX6_feed_37 (⟨by rw [if_neg (by omega), if_pos (by omega)], by rw [if_neg (by omega), hι1, if_pos (by omega)]⟩)
      · refine g_aload_n (x := 8) rfl dX6_feed_25 ?_
        refine g_get fgX6_19 zcl_6 (congrArg Prod.fst sh_8) (by decide) rg_8_1 dX6_feed_26 ?_
        refine g_get fgX6_107 zcl_4 (congrArg Prod.fst sh_21) (by decide) ig_21_1 dX6_feed_29 ?_
        refine g_goto (t := 37) dX6_feed_32 (by decide) ?_
        exact i_iret rfl dX6_feed_37 (⟨by rw [if_neg (by omega), if_neg (by omega), hι1, if_neg (by omega), iup_s], by rw [if_pos (by omega), hι1, if_neg (by omega)]⟩)
    · refine g_ldc (x := -1000001) tw_253 (by decide) dX6_feed_11 ?_
      exact i_iret rfl dX6_feed_13 (⟨by rw [if_pos (by omega)], by rw [if_neg (by omega)]⟩)

set_option maxRecDepth 100000 in
theorem c_xFault  : zCi l (zc D ad L z) mX6_fault 0 [zR 8] ι (zP (zI (ι 21 2)) ι) := by
  refine zCt_of (by decide) (Nat.le_of_ble_eq_true rfl) 0 rfl ?_
  refine g_aload_n (x := 8) rfl dX6_fault_0 ?_
  refine g_get fgX6_19 zcl_6 (congrArg Prod.fst sh_8) (by decide) rg_8_1 dX6_fault_1 ?_
  refine g_get fgX6_130 zcl_4 (congrArg Prod.fst sh_21) (by decide) ig_21_2 dX6_fault_4 ?_
  exact i_iret rfl dX6_fault_7 (⟨rfl, rfl⟩)

set_option maxRecDepth 100000 in
theorem c_xStatus  : zCi l (zc D ad L z) mX6_status 0 [zR 8] ι (zP (zI (ι 8 9)) ι) := by
  refine zCt_of (by decide) (Nat.le_of_ble_eq_true rfl) 0 rfl ?_
  refine g_aload_n (x := 8) rfl dX6_status_0 ?_
  refine g_get fgX6_293 zcl_6 (congrArg Prod.fst sh_8) (by decide) ig_8_9 dX6_status_1 ?_
  exact i_iret rfl dX6_status_4 (⟨rfl, rfl⟩)

set_option maxRecDepth 100000 in
theorem c_xTrace {x : Int} (hx : zB x) (ht : 0 ≤ ι 176 1 ∧ ι 176 1 ≤ 16) : zCi l (zc D ad L z) mX6_trace 0 [zR 8, zI x] ι (zP (zI (if 0 ≤ x ∧ x ≤ ι 176 1 - 1 then ι 177 x else -1000000)) ι) := by
  refine zCt_of (by decide) (Nat.le_of_ble_eq_true rfl) 0 rfl ?_
  refine g_iload_n (x := x) rfl dX6_trace_0 ?_
  refine g_if_lt ⟨by omega, by omega⟩ (t := 15) dX6_trace_1 (by decide) (fun h1 => ?_) (fun h1 => ?_)
  · refine g_ldc (x := -1000000) tw_598 (by decide) dX6_trace_15 ?_
    refine g_goto (t := 29) dX6_trace_17 (by decide) ?_
    exact i_iret rfl dX6_trace_29 (⟨by rw [if_neg (by omega)], rfl⟩)
  · refine g_iload_n (x := x) rfl dX6_trace_4 ?_
    refine g_aload_n (x := 8) rfl dX6_trace_5 ?_
    refine g_get fgX6_56 zcl_6 (congrArg Prod.fst sh_8) (by decide) rg_8_8 dX6_trace_6 ?_
    refine g_get fgX6_281 zcl_1 (congrArg Prod.fst sh_176) (by decide) ig_176_1 dX6_trace_9 ?_
    refine g_icmp_lt ⟨by omega, by omega⟩ ⟨by omega, by omega⟩ (t := 20) dX6_trace_12 (by decide) (fun h12 => ?_) (fun h12 => ?_)
    · refine g_aload_n (x := 8) rfl dX6_trace_20 ?_
      refine g_get fgX6_56 zcl_6 (congrArg Prod.fst sh_8) (by decide) rg_8_8 dX6_trace_21 ?_
      refine g_get fgX6_284 zcl_1 (congrArg Prod.fst sh_176) (by decide) rg_176_0 dX6_trace_24 ?_
      refine g_iload_n (x := x) rfl dX6_trace_27 ?_
      refine g_iald sh_177 (by decide) (by omega) (by omega) (by decide) ag_177 dX6_trace_28 ?_
      exact i_iret rfl dX6_trace_29 (⟨by rw [if_pos (by omega)], rfl⟩)
    · refine g_ldc (x := -1000000) tw_598 (by decide) dX6_trace_15 ?_
      refine g_goto (t := 29) dX6_trace_17 (by decide) ?_
      exact i_iret rfl dX6_trace_29 (⟨by rw [if_neg (by omega)], rfl⟩)

set_option maxRecDepth 100000 in
theorem c_xTown (hO : zPre ι) {h : Int → Int} {L' : Int} (hq : zqC h L' ι) : zCi l (zc D ad L z) mX6_town 7 [zR 8] ι (fun v ι' => (∀ b x, (b < 21 ∨ 33 ≤ b ∨ b = 22) → (b ≠ 43 ∨ x ≠ 2) → ι' b x = ι b x) ∧ ι' 21 1 = 0 ∧ ((∃ w q, pAl h L' (fun _ => 0) = .error (w, q) ∧ v = some (zI (-1000100 - q)) ∧ ι' 21 2 = w ∧ ι' 43 2 = ι 43 2 ∧ tb 23 ι' = tb 23 ι) ∨ (∃ p R, pAl h L' (fun _ => 0) = .ok (p, R) ∧ v = some (zI (R 0)) ∧ ι' 21 2 = ι 21 2 ∧ ι' 43 2 = 0 ∧ zVE (tb 23 ι') R))) := by
  refine zCt_of (by decide) (Nat.le_of_ble_eq_true rfl) 1 rfl ?_
  refine g_aload_n (x := 8) rfl dX6_town_0 ?_
  refine g_get fgX6_19 zcl_6 (congrArg Prod.fst sh_8) (by decide) rg_8_1 dX6_town_1 ?_
  refine g_aload_n (x := 8) rfl dX6_town_4 ?_
  refine g_get fgX6_30 zcl_6 (congrArg Prod.fst sh_8) (by decide) rg_8_3 dX6_town_5 ?_
  refine i_callV mvX4_readInto tw_311 (ci := 4) (congrArg Prod.fst sh_21) rfl (by decide) (c_readInto hO hq) (by decide) (st' := []) rfl (Nat.le_of_ble_eq_true rfl) rfl dX6_town_8 (fun v_1 ι1 hq_8 => ?_)
  obtain ⟨b, rfl, f1, hb⟩ := hq_8
  refine g_istore_n (ls' := [some (zR 8), some (zI b)]) dX6_town_11 (by decide) rfl ?_
  refine g_aload_n (x := 8) rfl dX6_town_12 ?_
  refine g_get fgX6_19 zcl_6 (congrArg Prod.fst sh_8) (by decide) rg_8_1 dX6_town_13 ?_
  refine g_iconst (x := 0) rfl dX6_town_16 ?_
  obtain ⟨ι2, hι2⟩ : ∃ y_, y_ = iup ι1 21 1 0 := ⟨_, rfl⟩
  refine i_put fwX6_107 zcl_4 (congrArg Prod.fst sh_21) (by decide) (by decide) (ι1 := ι2) (by rw [hι2]; exact iu_21_1) dX6_town_17 ?_
  refine g_iload_n (x := b) rfl dX6_town_20 ?_
  refine g_if_ne ⟨by omega, by omega⟩ (t := 35) dX6_town_21 (by decide) (fun h21 => ?_) (fun h21 => ?_)
  · obtain ⟨-, p, R, hE, z1, a1, V1⟩ := hb.resolve_left (fun g => by omega)
    refine g_aload_n (x := 8) rfl dX6_town_35 ?_
    refine g_get fgX6_26 zcl_6 (congrArg Prod.fst sh_8) (by decide) rg_8_2 dX6_town_36 ?_
    refine g_aload_n (x := 8) rfl dX6_town_39 ?_
    refine g_get fgX6_30 zcl_6 (congrArg Prod.fst sh_8) (by decide) rg_8_3 dX6_town_40 ?_
    refine i_callV mvX5_become tw_443 (ci := 5) (congrArg Prod.fst sh_23) rfl (by decide) (c_become tt_23 tt_28 (by decide)) (by decide) (st' := []) rfl (Nat.le_of_ble_eq_true rfl) rfl dX6_town_43 (fun v_2 ι3 hq_43 => ?_)
    obtain ⟨rfl, hι3⟩ := hq_43
    have e3 : tb 23 ι3 = tb 28 ι1 := by rw [hι3, tb_tp 23 (tb_tz 28 ι2), hι2, tb_up (by omega)]
    refine g_aload_n (x := 8) rfl dX6_town_46 ?_
    refine g_get fgX6_42 zcl_6 (congrArg Prod.fst sh_8) (by decide) rg_8_6 dX6_town_47 ?_
    refine i_callV mvX0_forget tw_448 (ci := 0) (congrArg Prod.fst sh_43) rfl (by decide) (c_forget) (by decide) (st' := []) rfl (Nat.le_of_ble_eq_true rfl) rfl dX6_town_50 (fun v_3 ι4 hq_50 => ?_)
    obtain ⟨rfl, hι4⟩ := hq_50
    have e4 : tb 23 ι4 = tb 28 ι1 := by rw [hι4, tb_up (by omega), e3]
    refine g_aload_n (x := 8) rfl dX6_town_53 ?_
    refine g_get fgX6_26 zcl_6 (congrArg Prod.fst sh_8) (by decide) rg_8_2 dX6_town_54 ?_
    refine g_get fgX6_127 zcl_5 (congrArg Prod.fst sh_23) (by decide) ig_23_4 dX6_town_57 ?_
    exact i_iret rfl dX6_town_60 (⟨fun b x h1 h2 => by rw [hι4, iup_n _ (by omega), hι3, tp_o 23 _ _ (by omega) x, hι2, iup_n _ (by omega)]; exact f1 b x (by omega) (by omega), by rw [hι4, iup_n _ (by omega), hι3, tp_o 23 _ _ (by omega) 1, hι2, iup_s], Or.inr ⟨p, R, hE, by rw [← V1.1 0 (by decide) (by decide), ← e4, tb_0], by rw [hι4, iup_n _ (by omega), hι3, tp_o 23 _ _ (by omega) 2, hι2, iup_n _ (by omega), z1], by rw [hι4, iup_s], by rw [e4]; exact V1⟩⟩)
  · obtain ⟨-, w, q, hE, c1, c2⟩ := hb.resolve_right (fun g => by omega)
    refine g_ldc (x := -1000100) tw_442 (by decide) dX6_town_24 ?_
    refine g_aload_n (x := 8) rfl dX6_town_26 ?_
    refine g_get fgX6_19 zcl_6 (congrArg Prod.fst sh_8) (by decide) rg_8_1 dX6_town_27 ?_
    refine g_get fgX6_117 zcl_4 (congrArg Prod.fst sh_21) (by decide) ig_21_3 dX6_town_30 ?_
    refine g_isub dX6_town_33 ?_
    exact i_iret rfl dX6_town_34 (⟨fun b x h1 h2 => by rw [hι2, iup_n _ (by omega)]; exact f1 b x (by omega) (by omega), by rw [hι2, iup_s], Or.inl ⟨w, q, hE, by rw [hι2, iup_n _ (by omega), c2], by rw [hι2, iup_n _ (by omega), c1], by rw [hι2, iup_n _ (by omega)]; exact f1 43 2 (by omega) (by omega), by rw [hι2, tb_up (by omega)]; funext i; unfold tb; rw [f1 23 _ (by omega) (by omega), f1 (23 + 1) _ (by omega) (by omega), f1 (23 + 2) _ (by omega) (by omega), f1 (23 + 3) _ (by omega) (by omega), f1 (23 + 4) _ (by omega) (by omega)]⟩⟩)

end
