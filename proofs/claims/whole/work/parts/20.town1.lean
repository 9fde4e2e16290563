section
variable {l : Launch} {D : va_G} {ad : Nat → Nat} {L z : Nat} {ι : zi}
set_option maxRecDepth 100000 in
theorem c_hasStreet {a : Nat} (ht : zTw a) {s : Int} (hs : zB s) (hN : zB (ι a 4)) : zCi l (zc D ad L z) mX5_hasStreet 0 [zR a, zI s] ι (zP (zI (if 0 ≤ s ∧ s < ι a 4 then 1 else 0)) ι) := by
  refine zCt_of (by decide) (Nat.le_of_ble_eq_true rfl) 0 rfl ?_
  refine g_iload_n (x := s) rfl dX5_hasStreet_0 ?_
  refine g_if_lt ⟨by omega, by omega⟩ (t := 16) dX5_hasStreet_1 (by decide) (fun h1 => ?_) (fun h1 => ?_)
  · refine g_iconst (x := 0) rfl dX5_hasStreet_16 ?_
    exact i_zret rfl (by decide) dX5_hasStreet_17 (⟨(by (repeat' split) <;> first | rfl | (exfalso; omega) | (congr 2; omega)), rfl⟩)
  · refine g_iload_n (x := s) rfl dX5_hasStreet_4 ?_
    refine g_aload_n (x := a) rfl dX5_hasStreet_5 ?_
    refine g_get fgX5_22 zcl_5 (congrArg Prod.fst ht.s0) (by have := ht.hi; omega) ht.ig4 dX5_hasStreet_6 ?_
    refine g_icmp_ge ⟨by omega, by omega⟩ ⟨by omega, by omega⟩ (t := 16) dX5_hasStreet_9 (by decide) (fun h9 => ?_) (fun h9 => ?_)
    · refine g_iconst (x := 0) rfl dX5_hasStreet_16 ?_
      exact i_zret rfl (by decide) dX5_hasStreet_17 (⟨(by (repeat' split) <;> first | rfl | (exfalso; omega) | (congr 2; omega)), rfl⟩)
    · refine g_iconst (x := 1) rfl dX5_hasStreet_12 ?_
      refine g_goto (t := 17) dX5_hasStreet_13 (by decide) ?_
      exact i_zret rfl (by decide) dX5_hasStreet_17 (⟨(by (repeat' split) <;> first | rfl | (exfalso; omega) | (congr 2; omega)), rfl⟩)

set_option maxRecDepth 100000 in
theorem c_hasBeat {a : Nat} (ht : zTw a) {s : Int} (hs : zB s) (hN : zB (ι a 5)) : zCi l (zc D ad L z) mX5_hasBeat 0 [zR a, zI s] ι (zP (zI (if 0 ≤ s ∧ s < ι a 5 then 1 else 0)) ι) := by
  refine zCt_of (by decide) (Nat.le_of_ble_eq_true rfl) 0 rfl ?_
  refine g_iload_n (x := s) rfl dX5_hasBeat_0 ?_
  refine g_if_lt ⟨by omega, by omega⟩ (t := 16) dX5_hasBeat_1 (by decide) (fun h1 => ?_) (fun h1 => ?_)
  · refine g_iconst (x := 0) rfl dX5_hasBeat_16 ?_
    exact i_zret rfl (by decide) dX5_hasBeat_17 (⟨(by (repeat' split) <;> first | rfl | (exfalso; omega) | (congr 2; omega)), rfl⟩)
  · refine g_iload_n (x := s) rfl dX5_hasBeat_4 ?_
    refine g_aload_n (x := a) rfl dX5_hasBeat_5 ?_
    refine g_get fgX5_26 zcl_5 (congrArg Prod.fst ht.s0) (by have := ht.hi; omega) ht.ig5 dX5_hasBeat_6 ?_
    refine g_icmp_ge ⟨by omega, by omega⟩ ⟨by omega, by omega⟩ (t := 16) dX5_hasBeat_9 (by decide) (fun h9 => ?_) (fun h9 => ?_)
    · refine g_iconst (x := 0) rfl dX5_hasBeat_16 ?_
      exact i_zret rfl (by decide) dX5_hasBeat_17 (⟨(by (repeat' split) <;> first | rfl | (exfalso; omega) | (congr 2; omega)), rfl⟩)
    · refine g_iconst (x := 1) rfl dX5_hasBeat_12 ?_
      refine g_goto (t := 17) dX5_hasBeat_13 (by decide) ?_
      exact i_zret rfl (by decide) dX5_hasBeat_17 (⟨(by (repeat' split) <;> first | rfl | (exfalso; omega) | (congr 2; omega)), rfl⟩)

set_option maxRecDepth 100000 in
theorem c_allStreets {a : Nat} (ht : zTw a) : zCi l (zc D ad L z) mX5_allStreets 0 [zR a] ι (zP (zI (zshl 1 (ι a 4) - 1)) ι) := by
  refine zCt_of (by decide) (Nat.le_of_ble_eq_true rfl) 0 rfl ?_
  refine g_iconst (x := 1) rfl dX5_allStreets_0 ?_
  refine g_aload_n (x := a) rfl dX5_allStreets_1 ?_
  refine g_get fgX5_22 zcl_5 (congrArg Prod.fst ht.s0) (by have := ht.hi; omega) ht.ig4 dX5_allStreets_2 ?_
  refine g_ishl dX5_allStreets_5 ?_
  refine g_iconst (x := 1) rfl dX5_allStreets_6 ?_
  refine g_isub dX5_allStreets_7 ?_
  exact i_iret rfl dX5_allStreets_8 (⟨rfl, rfl⟩)

set_option maxRecDepth 100000 in
theorem c_beatNow {a : Nat} (ht : zTw a) (hB : 0 ≤ ι a 5 ∧ ι a 5 < 2147483648) (hH : 0 ≤ ι a 8 ∧ ι a 8 < 2147483648) : zCi l (zc D ad L z) mX5_beatNow 0 [zR a] ι (zP (zI (if ι a 5 < 1 then 0 else ι a 8 % ι a 5)) ι) := by
  refine zCt_of (by decide) (Nat.le_of_ble_eq_true rfl) 0 rfl ?_
  refine g_aload_n (x := a) rfl dX5_beatNow_0 ?_
  refine g_get fgX5_26 zcl_5 (congrArg Prod.fst ht.s0) (by have := ht.hi; omega) ht.ig5 dX5_beatNow_1 ?_
  refine g_iconst (x := 1) rfl dX5_beatNow_4 ?_
  refine g_icmp_ge ⟨by omega, by omega⟩ (by decide) (t := 12) dX5_beatNow_5 (by decide) (fun h5 => ?_) (fun h5 => ?_)
  · refine g_aload_n (x := a) rfl dX5_beatNow_12 ?_
    refine g_get fgX5_35 zcl_5 (congrArg Prod.fst ht.s0) (by have := ht.hi; omega) ht.ig8 dX5_beatNow_13 ?_
    refine g_aload_n (x := a) rfl dX5_beatNow_16 ?_
    refine g_get fgX5_26 zcl_5 (congrArg Prod.fst ht.s0) (by have := ht.hi; omega) ht.ig5 dX5_beatNow_17 ?_
    refine g_irem (by omega) (by omega) (by omega) (by omega) dX5_beatNow_20 ?_
    exact i_iret rfl dX5_beatNow_21 (⟨(by (repeat' split) <;> first | rfl | (exfalso; omega) | (congr 2; omega)), rfl⟩)
  · refine g_iconst (x := 0) rfl dX5_beatNow_8 ?_
    refine g_goto (t := 21) dX5_beatNow_9 (by decide) ?_
    exact i_iret rfl dX5_beatNow_21 (⟨(by (repeat' split) <;> first | rfl | (exfalso; omega) | (congr 2; omega)), rfl⟩)

set_option maxRecDepth 100000 in
theorem c_hearsFrom {a : Nat} (ht : zTw a) {s d : Int} (hs : -100 ≤ s ∧ s ≤ 100) (hd : -100 ≤ d ∧ d ≤ 100) (hR : zB (ι a 6)) : zCi l (zc D ad L z) mX5_hearsFrom 1 [zR a, zI s, zI d] ι (zP (zI (zhf s d (ι a 6))) ι) := by
  refine zCt_of (by decide) (Nat.le_of_ble_eq_true rfl) 0 rfl ?_
  refine g_iload_n (x := s) rfl dX5_hearsFrom_0 ?_
  refine g_iload_n (x := d) rfl dX5_hearsFrom_1 ?_
  refine g_isub dX5_hearsFrom_2 ?_
  refine g_mabs ⟨by omega, by omega⟩ (by decide) (Nat.le_of_ble_eq_true rfl) tw_484 mq_abs2 mq_abs3 mq_abs4 dX5_hearsFrom_3 ?_
  refine g_aload_n (x := a) rfl dX5_hearsFrom_6 ?_
  refine g_get fgX5_29 zcl_5 (congrArg Prod.fst ht.s0) (by have := ht.hi; omega) ht.ig6 dX5_hearsFrom_7 ?_
  have hab : zB (zabs (s - d)) := by unfold zabs; split <;> constructor <;> omega
  refine g_icmp_gt hab ⟨by omega, by omega⟩ (t := 17) dX5_hearsFrom_10 (by decide) (fun h10 => ?_) (fun h10 => ?_)
  · refine g_iconst (x := 0) rfl dX5_hearsFrom_17 ?_
    exact i_zret rfl (by decide) dX5_hearsFrom_18 (⟨by unfold zhf; first | rw [if_pos (by omega)] | rw [if_neg (by omega)], rfl⟩)
  · refine g_iconst (x := 1) rfl dX5_hearsFrom_13 ?_
    refine g_goto (t := 18) dX5_hearsFrom_14 (by decide) ?_
    exact i_zret rfl (by decide) dX5_hearsFrom_18 (⟨by unfold zhf; first | rw [if_pos (by omega)] | rw [if_neg (by omega)], rfl⟩)

set_option maxRecDepth 100000 in
theorem c_hears {a : Nat} (ht : zTw a) {s : Int} (hs : -100 ≤ s ∧ s ≤ 100) (hB : 0 < ι a 5 ∧ ι a 5 ≤ 8) (hH : 0 ≤ ι a 8 ∧ ι a 8 < 2147483648) (hW : ∀ b, 0 ≤ b → b < ι a 5 → -100 ≤ ι (a + 4) b ∧ ι (a + 4) b ≤ 100) (hR : zB (ι a 6)) : zCi l (zc D ad L z) mX5_hears 2 [zR a, zI s] ι (zP (zI (zhr (tb a ι) s)) ι) := by
  refine zCt_of (by decide) (Nat.le_of_ble_eq_true rfl) 0 rfl ?_
  refine g_aload_n (x := a) rfl dX5_hears_0 ?_
  refine g_iload_n (x := s) rfl dX5_hears_1 ?_
  refine g_aload_n (x := a) rfl dX5_hears_2 ?_
  refine g_get fgX5_19 zcl_5 (congrArg Prod.fst ht.s0) (by have := ht.hi; omega) ht.rg3 dX5_hears_3 ?_
  refine g_aload_n (x := a) rfl dX5_hears_6 ?_
  refine i_callVp mvX5_beatNow tw_476 (ci := 5) (congrArg Prod.fst ht.s0) rfl (by have := ht.hi; omega) (c_beatNow ht (by omega) hH) (by decide) (st' := [zR (a + 4), zI s, zR a]) rfl (Nat.le_of_ble_eq_true rfl) rfl dX5_hears_7 ?_
  rw [if_neg (by omega)]
  have hm0 := Int.emod_nonneg (ι a 8) (show ι a 5 ≠ 0 by omega)
  have hm1 := Int.emod_lt_of_pos (ι a 8) (show 0 < ι a 5 by omega)
  refine g_iald ht.s4 (by have := ht.hi; omega) (by omega) (by omega) (by decide) ht.ag4 dX5_hears_10 ?_
  refine i_callVp mvX5_hearsFrom tw_480 (ci := 5) (congrArg Prod.fst ht.s0) rfl (by have := ht.hi; omega) (c_hearsFrom ht hs (hW _ hm0 hm1) hR) (by decide) (st' := []) rfl (Nat.le_of_ble_eq_true rfl) rfl dX5_hears_11 ?_
  exact i_zret rfl (by unfold zhf; split <;> simp) dX5_hears_14 (⟨by unfold zhr; rw [tb_4, tb_1, tb_2, tb_w a ι hm0 (by omega)], rfl⟩)

end
