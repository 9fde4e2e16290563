section
variable {l : Launch} {D : va_G} {ad : Nat → Nat} {L z : Nat} {ι : zi}
set_option maxRecDepth 100000 in
theorem lp_awake {a : Nat} (ht : zTw a) (hN : 0 ≤ ι a 4 ∧ ι a 4 ≤ 8) (hD : ∀ k, 0 ≤ k → k < ι a 4 → zB (ι (a + 2) k)) : ∀ i : Int, 0 ≤ i → i ≤ ι a 4 → zGi l (zc D ad L z) mX5_awake 0 4 [some (zR a), some (zI (zaw (ι (a + 2)) i)), some (zI i)] [] ι (zP (zI (zaw (ι (a + 2)) (ι a 4))) ι) := by
  refine z_loopI (fun i h0 h1 ih => ?_)
  refine g_iload_n (x := i) rfl dX5_awake_4 ?_
  refine g_aload_n (x := a) rfl dX5_awake_5 ?_
  refine g_get fgX5_22 zcl_5 (congrArg Prod.fst ht.s0) (by have := ht.hi; omega) ht.ig4 dX5_awake_6 ?_
  refine g_icmp_ge ⟨by omega, by omega⟩ ⟨by omega, by omega⟩ (t := 37) dX5_awake_9 (by decide) (fun h9 => ?_) (fun h9 => ?_)
  · refine g_iload_n (x := (zaw (ι (a + 2)) i)) rfl dX5_awake_37 ?_
    exact i_iret rfl dX5_awake_38 (⟨by rw [show i = ι a 4 by omega], rfl⟩)
  · have hd := hD i h0 (by omega)
    refine g_iload_n (x := (zaw (ι (a + 2)) i)) rfl dX5_awake_12 ?_
    refine g_aload_n (x := a) rfl dX5_awake_13 ?_
    refine g_get fgX5_13 zcl_5 (congrArg Prod.fst ht.s0) (by have := ht.hi; omega) ht.rg1 dX5_awake_14 ?_
    refine g_iload_n (x := i) rfl dX5_awake_17 ?_
    refine g_iald ht.s2 (by have := ht.hi; omega) (by omega) (by omega) (by decide) ht.ag2 dX5_awake_18 ?_
    refine g_if_ne hd (t := 28) dX5_awake_19 (by decide) (fun h19 => ?_) (fun h19 => ?_)
    · refine g_iconst (x := 0) rfl dX5_awake_28 ?_
      refine g_ior dX5_awake_29 ?_
      refine g_nm (fun x1 hx1 => ?_)
      refine g_istore_n (ls' := [some (zR a), some (zI x1), some (zI i)]) dX5_awake_30 (by decide) rfl ?_
      refine g_iinc (x := i) (y := i + 1) (ls' := [some (zR a), some (zI x1), some (zI (i + 1))]) dX5_awake_31 rfl (rfl) (by decide) rfl ?_
      refine g_goto (t := 4) dX5_awake_34 (by decide) ?_
      have hh := ih (by omega)
      rw [zaw_s _ h0, if_neg h19, ← hx1] at hh
      exact hh
    · refine g_iconst (x := 1) rfl dX5_awake_22 ?_
      refine g_iload_n (x := i) rfl dX5_awake_23 ?_
      refine g_ishl dX5_awake_24 ?_
      refine g_goto (t := 29) dX5_awake_25 (by decide) ?_
      refine g_ior dX5_awake_29 ?_
      refine g_nm (fun x1 hx1 => ?_)
      refine g_istore_n (ls' := [some (zR a), some (zI x1), some (zI i)]) dX5_awake_30 (by decide) rfl ?_
      refine g_iinc (x := i) (y := i + 1) (ls' := [some (zR a), some (zI x1), some (zI (i + 1))]) dX5_awake_31 rfl (rfl) (by decide) rfl ?_
      refine g_goto (t := 4) dX5_awake_34 (by decide) ?_
      have hh := ih (by omega)
      rw [zaw_s _ h0, if_pos h19, ← hx1] at hh
      exact hh

set_option maxRecDepth 100000 in
theorem c_awake {a : Nat} (ht : zTw a) (hN : 0 ≤ ι a 4 ∧ ι a 4 ≤ 8) (hD : ∀ k, 0 ≤ k → k < ι a 4 → zB (ι (a + 2) k)) : zCi l (zc D ad L z) mX5_awake 0 [zR a] ι (zP (zI (zaw (ι (a + 2)) (ι a 4))) ι) := by
  refine zCt_of (by decide) (Nat.le_of_ble_eq_true rfl) 2 rfl ?_
  refine g_iconst (x := 0) rfl dX5_awake_0 ?_
  refine g_istore_n (ls' := [some (zR a), some (zI 0), none]) dX5_awake_1 (by decide) rfl ?_
  refine g_iconst (x := 0) rfl dX5_awake_2 ?_
  refine g_istore_n (ls' := [some (zR a), some (zI 0), some (zI 0)]) dX5_awake_3 (by decide) rfl ?_
  exact lp_awake ht hN hD 0 (by omega) (by omega)

set_option maxRecDepth 100000 in
theorem lp_lootOfAll {a : Nat} (ht : zTw a) (hN : 0 ≤ ι a 4 ∧ ι a 4 ≤ 8) : ∀ i : Int, 0 ≤ i → i ≤ ι a 4 → zGi l (zc D ad L z) mX5_lootOfAll 0 4 [some (zR a), some (zI (zsum (ι (a + 3)) i)), some (zI i)] [] ι (zP (zI (zsum (ι (a + 3)) (ι a 4))) ι) := by
  refine z_loopI (fun i h0 h1 ih => ?_)
  refine g_iload_n (x := i) rfl dX5_lootOfAll_4 ?_
  refine g_aload_n (x := a) rfl dX5_lootOfAll_5 ?_
  refine g_get fgX5_22 zcl_5 (congrArg Prod.fst ht.s0) (by have := ht.hi; omega) ht.ig4 dX5_lootOfAll_6 ?_
  refine g_icmp_ge ⟨by omega, by omega⟩ ⟨by omega, by omega⟩ (t := 27) dX5_lootOfAll_9 (by decide) (fun h9 => ?_) (fun h9 => ?_)
  · refine g_iload_n (x := (zsum (ι (a + 3)) i)) rfl dX5_lootOfAll_27 ?_
    exact i_iret rfl dX5_lootOfAll_28 (⟨by rw [show i = ι a 4 by omega], rfl⟩)
  · refine g_iload_n (x := (zsum (ι (a + 3)) i)) rfl dX5_lootOfAll_12 ?_
    refine g_aload_n (x := a) rfl dX5_lootOfAll_13 ?_
    refine g_get fgX5_16 zcl_5 (congrArg Prod.fst ht.s0) (by have := ht.hi; omega) ht.rg2 dX5_lootOfAll_14 ?_
    refine g_iload_n (x := i) rfl dX5_lootOfAll_17 ?_
    refine g_iald ht.s3 (by have := ht.hi; omega) (by omega) (by omega) (by decide) ht.ag3 dX5_lootOfAll_18 ?_
    refine g_iadd dX5_lootOfAll_19 ?_
    refine g_nm (fun x1 hx1 => ?_)
    refine g_istore_n (ls' := [some (zR a), some (zI x1), some (zI i)]) dX5_lootOfAll_20 (by decide) rfl ?_
    refine g_iinc (x := i) (y := i + 1) (ls' := [some (zR a), some (zI x1), some (zI (i + 1))]) dX5_lootOfAll_21 rfl (rfl) (by decide) rfl ?_
    refine g_goto (t := 4) dX5_lootOfAll_24 (by decide) ?_
    have hh := ih (by omega)
    rw [zsum_s _ h0, ← hx1] at hh
    exact hh

set_option maxRecDepth 100000 in
theorem c_lootOfAll {a : Nat} (ht : zTw a) (hN : 0 ≤ ι a 4 ∧ ι a 4 ≤ 8) : zCi l (zc D ad L z) mX5_lootOfAll 0 [zR a] ι (zP (zI (zsum (ι (a + 3)) (ι a 4))) ι) := by
  refine zCt_of (by decide) (Nat.le_of_ble_eq_true rfl) 2 rfl ?_
  refine g_iconst (x := 0) rfl dX5_lootOfAll_0 ?_
  refine g_istore_n (ls' := [some (zR a), some (zI 0), none]) dX5_lootOfAll_1 (by decide) rfl ?_
  refine g_iconst (x := 0) rfl dX5_lootOfAll_2 ?_
  refine g_istore_n (ls' := [some (zR a), some (zI 0), some (zI 0)]) dX5_lootOfAll_3 (by decide) rfl ?_
  exact lp_lootOfAll ht hN 0 (by omega) (by omega)

set_option maxRecDepth 100000 in
theorem c_stolen {de lo th h : Int} (hd : zB de) (hl : zB lo) (ht : zB th) (hh : zB h) : zCi l (zc D ad L z) mX5_stolen 1 [zI de, zI lo, zI th, zI h] ι (zP (zI (zstl de lo th h)) ι) := by
  refine zCt_of (by decide) (Nat.le_of_ble_eq_true rfl) 0 rfl ?_
  refine g_iload_n (x := de) rfl dX5_stolen_0 ?_
  refine g_if_eq ⟨by omega, by omega⟩ (t := 8) dX5_stolen_1 (by decide) (fun h1 => ?_) (fun h1 => ?_)
  · refine g_iconst (x := 0) rfl dX5_stolen_8 ?_
    refine g_goto (t := 17) dX5_stolen_9 (by decide) ?_
    exact i_iret rfl dX5_stolen_17 (⟨by unfold zstl; first | rw [if_pos (by omega)] | rw [if_neg (by omega)], rfl⟩)
  · refine g_iload_n (x := h) rfl dX5_stolen_4 ?_
    refine g_if_eq ⟨by omega, by omega⟩ (t := 12) dX5_stolen_5 (by decide) (fun h5 => ?_) (fun h5 => ?_)
    · refine g_iload_n (x := lo) rfl dX5_stolen_12 ?_
      refine g_iload_n (x := th) rfl dX5_stolen_13 ?_
      refine g_mmin ⟨by omega, by omega⟩ ⟨by omega, by omega⟩ (by decide) (Nat.le_of_ble_eq_true rfl) tw_494 mq_min2 mq_min3 mq_min4 dX5_stolen_14 ?_
      exact i_iret rfl dX5_stolen_17 (⟨by unfold zstl; first | rw [if_pos (by omega)] | rw [if_neg (by omega)], rfl⟩)
    · refine g_iconst (x := 0) rfl dX5_stolen_8 ?_
      refine g_goto (t := 17) dX5_stolen_9 (by decide) ?_
      exact i_iret rfl dX5_stolen_17 (⟨by unfold zstl; first | rw [if_pos (by omega)] | rw [if_neg (by omega)], rfl⟩)

set_option maxRecDepth 100000 in
theorem lp_deepAfter {k de h hr m : Int} (hd : 0 ≤ de ∧ de ≤ 20) (hm : -20 ≤ m ∧ m ≤ 4) : zGi l (zc D ad L z) mX5_deepAfter 1 103 [some (zI k), some (zI de), some (zI h), some (zI hr), some (zI m)] [] ι (zP (zI (zmax 0 (zmin (de + m) 20))) ι) := by
  refine g_iconst (x := 0) rfl dX5_deepAfter_103 ?_
  refine g_iload_n (x := de) rfl dX5_deepAfter_104 ?_
  refine g_iload (x := m) rfl dX5_deepAfter_105 ?_
  refine g_iadd dX5_deepAfter_107 ?_
  refine g_bipush (x := 20) (by decide) dX5_deepAfter_108 ?_
  refine g_mmin ⟨by omega, by omega⟩ (by decide) (by decide) (Nat.le_of_ble_eq_true rfl) tw_494 mq_min2 mq_min3 mq_min4 dX5_deepAfter_110 ?_
  refine g_mmax (by decide) (by unfold zmin; split <;> constructor <;> omega) (by decide) (Nat.le_of_ble_eq_true rfl) tw_499 mq_max2 mq_max3 mq_max4 dX5_deepAfter_113 ?_
  exact i_iret rfl dX5_deepAfter_116 (⟨rfl, rfl⟩)

set_option maxRecDepth 100000 in
theorem c_deepAfter {k de h hr : Int} (hk : zB k) (hd : 0 ≤ de ∧ de ≤ 20) (hh : zB h) (hr0 : 0 ≤ hr ∧ hr < 2147483648) : zCi l (zc D ad L z) mX5_deepAfter 1 [zI k, zI de, zI h, zI hr] ι (zP (zI (zdeep k de h hr)) ι) := by
  refine zCt_of (by decide) (Nat.le_of_ble_eq_true rfl) 1 rfl ?_
  refine g_iload_n (x := k) rfl dX5_deepAfter_0 ?_
  by_cases hsw : k < 2 ∨ 5 < k
  · refine g_tswOut ⟨by omega, by omega⟩ dX5_deepAfter_1 hsw (t := 92) (by decide) ?_
    refine g_iload_n (x := h) rfl dX5_deepAfter_92 ?_
    refine g_if_eq ⟨by omega, by omega⟩ (t := 100) dX5_deepAfter_93 (by decide) (fun h93 => ?_) (fun h93 => ?_)
    · refine g_iconst (x := -1) rfl dX5_deepAfter_100 ?_
      refine g_istore (ls' := [some (zI k), some (zI de), some (zI h), some (zI hr), some (zI (-1))]) dX5_deepAfter_101 (by decide) rfl ?_
      have e : zmore k h hr = -1 := by
        unfold zmore
        (repeat' split) <;> first | rfl | (exfalso; omega)
      unfold zdeep
      rw [e]
      exact lp_deepAfter hd (by decide)
    · refine g_iconst (x := 2) rfl dX5_deepAfter_96 ?_
      refine g_goto (t := 101) dX5_deepAfter_97 (by decide) ?_
      refine g_istore (ls' := [some (zI k), some (zI de), some (zI h), some (zI hr), some (zI 2)]) dX5_deepAfter_101 (by decide) rfl ?_
      have e : zmore k h hr = 2 := by
        unfold zmore
        (repeat' split) <;> first | rfl | (exfalso; omega)
      unfold zdeep
      rw [e]
      exact lp_deepAfter hd (by decide)
  · rcases (show k = 2 ∨ k = 3 ∨ k = 4 ∨ k = 5 by omega) with hsv | hsv | hsv | hsv
    · refine g_tswIn ⟨by omega, by omega⟩ dX5_deepAfter_1 (by omega) (by omega) (off := 31) (by rw [hsv]; rfl) (t := 32) (by decide) ?_
      refine g_iload_n (x := h) rfl dX5_deepAfter_32 ?_
      refine g_if_ne ⟨by omega, by omega⟩ (t := 40) dX5_deepAfter_33 (by decide) (fun h33 => ?_) (fun h33 => ?_)
      · refine g_iload_n (x := hr) rfl dX5_deepAfter_40 ?_
        refine g_iconst (x := 4) rfl dX5_deepAfter_41 ?_
        refine g_irem (by omega) (by omega) (by omega) (by omega) dX5_deepAfter_42 ?_
        refine g_if_ne ⟨by omega, by omega⟩ (t := 50) dX5_deepAfter_43 (by decide) (fun h43 => ?_) (fun h43 => ?_)
        · refine g_iconst (x := 2) rfl dX5_deepAfter_50 ?_
          refine g_istore (ls' := [some (zI k), some (zI de), some (zI h), some (zI hr), some (zI 2)]) dX5_deepAfter_51 (by decide) rfl ?_
          refine g_goto (t := 103) dX5_deepAfter_53 (by decide) ?_
          have e : zmore k h hr = 2 := by
            unfold zmore
            (repeat' split) <;> first | rfl | (exfalso; omega)
          unfold zdeep
          rw [e]
          exact lp_deepAfter hd (by decide)
        · refine g_iconst (x := 4) rfl dX5_deepAfter_46 ?_
          refine g_goto (t := 51) dX5_deepAfter_47 (by decide) ?_
          refine g_istore (ls' := [some (zI k), some (zI de), some (zI h), some (zI hr), some (zI 4)]) dX5_deepAfter_51 (by decide) rfl ?_
          refine g_goto (t := 103) dX5_deepAfter_53 (by decide) ?_
          have e : zmore k h hr = 4 := by
            unfold zmore
            (repeat' split) <;> first | rfl | (exfalso; omega)
          unfold zdeep
          rw [e]
          exact lp_deepAfter hd (by decide)
      · refine g_iconst (x := -1) rfl dX5_deepAfter_36 ?_
        refine g_goto (t := 51) dX5_deepAfter_37 (by decide) ?_
        refine g_istore (ls' := [some (zI k), some (zI de), some (zI h), some (zI hr), some (zI (-1))]) dX5_deepAfter_51 (by decide) rfl ?_
        refine g_goto (t := 103) dX5_deepAfter_53 (by decide) ?_
        have e : zmore k h hr = -1 := by
          unfold zmore
          (repeat' split) <;> first | rfl | (exfalso; omega)
        unfold zdeep
        rw [e]
        exact lp_deepAfter hd (by decide)
    · refine g_tswIn ⟨by omega, by omega⟩ dX5_deepAfter_1 (by omega) (by omega) (off := 55) (by rw [hsv]; rfl) (t := 56) (by decide) ?_
      refine g_iload_n (x := h) rfl dX5_deepAfter_56 ?_
      refine g_if_eq ⟨by omega, by omega⟩ (t := 64) dX5_deepAfter_57 (by decide) (fun h57 => ?_) (fun h57 => ?_)
      · refine g_bipush (x := -3) (by decide) dX5_deepAfter_64 ?_
        refine g_istore (ls' := [some (zI k), some (zI de), some (zI h), some (zI hr), some (zI (-3))]) dX5_deepAfter_66 (by decide) rfl ?_
        refine g_goto (t := 103) dX5_deepAfter_68 (by decide) ?_
        have e : zmore k h hr = -3 := by
          unfold zmore
          (repeat' split) <;> first | rfl | (exfalso; omega)
        unfold zdeep
        rw [e]
        exact lp_deepAfter hd (by decide)
      · refine g_iconst (x := 2) rfl dX5_deepAfter_60 ?_
        refine g_goto (t := 66) dX5_deepAfter_61 (by decide) ?_
        refine g_istore (ls' := [some (zI k), some (zI de), some (zI h), some (zI hr), some (zI 2)]) dX5_deepAfter_66 (by decide) rfl ?_
        refine g_goto (t := 103) dX5_deepAfter_68 (by decide) ?_
        have e : zmore k h hr = 2 := by
          unfold zmore
          (repeat' split) <;> first | rfl | (exfalso; omega)
        unfold zdeep
        rw [e]
        exact lp_deepAfter hd (by decide)
    · refine g_tswIn ⟨by omega, by omega⟩ dX5_deepAfter_1 (by omega) (by omega) (off := 70) (by rw [hsv]; rfl) (t := 71) (by decide) ?_
      refine g_iconst (x := -1) rfl dX5_deepAfter_71 ?_
      refine g_istore (ls' := [some (zI k), some (zI de), some (zI h), some (zI hr), some (zI (-1))]) dX5_deepAfter_72 (by decide) rfl ?_
      refine g_goto (t := 103) dX5_deepAfter_74 (by decide) ?_
      have e : zmore k h hr = -1 := by
        unfold zmore
        (repeat' split) <;> first | rfl | (exfalso; omega)
      unfold zdeep
      rw [e]
      exact lp_deepAfter hd (by decide)
    · refine g_tswIn ⟨by omega, by omega⟩ dX5_deepAfter_1 (by omega) (by omega) (off := 76) (by rw [hsv]; rfl) (t := 77) (by decide) ?_
      refine g_iload_n (x := h) rfl dX5_deepAfter_77 ?_
      refine g_if_eq ⟨by omega, by omega⟩ (t := 85) dX5_deepAfter_78 (by decide) (fun h78 => ?_) (fun h78 => ?_)
      · refine g_bipush (x := -20) (by decide) dX5_deepAfter_85 ?_
        refine g_istore (ls' := [some (zI k), some (zI de), some (zI h), some (zI hr), some (zI (-20))]) dX5_deepAfter_87 (by decide) rfl ?_
        refine g_goto (t := 103) dX5_deepAfter_89 (by decide) ?_
        have e : zmore k h hr = -20 := by
          unfold zmore
          (repeat' split) <;> first | rfl | (exfalso; omega)
        unfold zdeep
        rw [e]
        exact lp_deepAfter hd (by decide)
      · refine g_iconst (x := -1) rfl dX5_deepAfter_81 ?_
        refine g_goto (t := 87) dX5_deepAfter_82 (by decide) ?_
        refine g_istore (ls' := [some (zI k), some (zI de), some (zI h), some (zI hr), some (zI (-1))]) dX5_deepAfter_87 (by decide) rfl ?_
        refine g_goto (t := 103) dX5_deepAfter_89 (by decide) ?_
        have e : zmore k h hr = -1 := by
          unfold zmore
          (repeat' split) <;> first | rfl | (exfalso; omega)
        unfold zdeep
        rw [e]
        exact lp_deepAfter hd (by decide)

set_option maxRecDepth 100000 in
theorem c_passStreet {a : Nat} (ht : zTw a) {s h : Int} (h0 : 0 ≤ s) (h1 : s < 8) (hh : zB h) (hk : zB (ι (a + 1) s)) (hd : 0 ≤ ι (a + 2) s ∧ ι (a + 2) s ≤ 20) (hl : 0 ≤ ι (a + 3) s ∧ ι (a + 3) s ≤ 60) (hth : 0 ≤ ι a 7 ∧ ι a 7 ≤ 9) (hr : 0 ≤ ι a 9 ∧ ι a 9 ≤ 99999) (hH : 0 ≤ ι a 8 ∧ ι a 8 < 2147483648) : zCi l (zc D ad L z) mX5_passStreet 2 [zR a, zI s, zI h] ι (fun v ι' => v = none ∧ ι' = tp a (psR (tb a ι) s h) ι) := by
  refine zCt_of (by decide) (Nat.le_of_ble_eq_true rfl) 1 rfl ?_
  refine g_aload_n (x := a) rfl dX5_passStreet_0 ?_
  refine g_get fgX5_13 zcl_5 (congrArg Prod.fst ht.s0) (by have := ht.hi; omega) ht.rg1 dX5_passStreet_1 ?_
  refine g_iload_n (x := s) rfl dX5_passStreet_4 ?_
  refine g_iald ht.s2 (by have := ht.hi; omega) (by omega) (by omega) (by decide) ht.ag2 dX5_passStreet_5 ?_
  refine g_aload_n (x := a) rfl dX5_passStreet_6 ?_
  refine g_get fgX5_16 zcl_5 (congrArg Prod.fst ht.s0) (by have := ht.hi; omega) ht.rg2 dX5_passStreet_7 ?_
  refine g_iload_n (x := s) rfl dX5_passStreet_10 ?_
  refine g_iald ht.s3 (by have := ht.hi; omega) (by omega) (by omega) (by decide) ht.ag3 dX5_passStreet_11 ?_
  refine g_aload_n (x := a) rfl dX5_passStreet_12 ?_
  refine g_get fgX5_32 zcl_5 (congrArg Prod.fst ht.s0) (by have := ht.hi; omega) ht.ig7 dX5_passStreet_13 ?_
  refine g_iload_n (x := h) rfl dX5_passStreet_16 ?_
  refine i_callSp msX5_stolen tw_491 (c_stolen ⟨by omega, by omega⟩ ⟨by omega, by omega⟩ ⟨by omega, by omega⟩ hh) (by decide) (st' := []) rfl (Nat.le_of_ble_eq_true rfl) rfl dX5_passStreet_17 ?_
  refine g_nm (fun t1 ht1 => ?_)
  refine g_istore_n (ls' := [some (zR a), some (zI s), some (zI h), some (zI t1)]) dX5_passStreet_20 (by decide) rfl ?_
  have hb := zstl_b (de := ι (a + 2) s) (h := h) hl.1 hth.1
  rw [← ht1] at hb
  refine g_aload_n (x := a) rfl dX5_passStreet_21 ?_
  refine g_get fgX5_16 zcl_5 (congrArg Prod.fst ht.s0) (by have := ht.hi; omega) ht.rg2 dX5_passStreet_22 ?_
  refine g_iload_n (x := s) rfl dX5_passStreet_25 ?_
  refine g_dup2 dX5_passStreet_26 ?_
  refine g_iald ht.s3 (by have := ht.hi; omega) (by omega) (by omega) (by decide) ht.ag3 dX5_passStreet_27 ?_
  refine g_iload_n (x := t1) rfl dX5_passStreet_28 ?_
  refine g_isub dX5_passStreet_29 ?_
  obtain ⟨ι1, hι1⟩ : ∃ y, y = iup ι (a + 3) s ((ι (a + 3) s) - t1) := ⟨_, rfl⟩
  refine i_iast ht.s3 (by have := ht.hi; omega) (by have := ht.lo; omega) (by omega) (by omega) (by decide) (ι1 := ι1) (by rw [hι1]; exact ht.au3) dX5_passStreet_30 ?_
  have e9 : ι1 a 9 = ι a 9 := by rw [hι1]; exact iup_n _ (Or.inl (by omega))
  refine g_aload_n (x := a) rfl dX5_passStreet_31 ?_
  refine g_aload_n (x := a) rfl dX5_passStreet_32 ?_
  refine g_get fgX5_38 zcl_5 (congrArg Prod.fst ht.s0) (by have := ht.hi; omega) ht.ig9 dX5_passStreet_33 ?_
  refine g_iload_n (x := t1) rfl dX5_passStreet_36 ?_
  refine g_iadd dX5_passStreet_37 ?_
  refine g_ldc (x := 99999) tw_495 (by decide) dX5_passStreet_38 ?_
  refine g_mmin ⟨by omega, by omega⟩ (by decide) (by decide) (Nat.le_of_ble_eq_true rfl) tw_494 mq_min2 mq_min3 mq_min4 dX5_passStreet_40 ?_
  rw [e9]
  obtain ⟨ι2, hι2⟩ : ∃ y, y = iup ι1 a 9 (zmin ((ι a 9) + t1) 99999) := ⟨_, rfl⟩
  refine i_put fwX5_38 zcl_5 (congrArg Prod.fst ht.s0) (by have := ht.hi; omega) (by have := ht.lo; omega) (ι1 := ι2) (by rw [hι2]; exact ht.iu9) dX5_passStreet_43 ?_
  refine g_aload_n (x := a) rfl dX5_passStreet_46 ?_
  refine g_get fgX5_13 zcl_5 (congrArg Prod.fst ht.s0) (by have := ht.hi; omega) ht.rg1 dX5_passStreet_47 ?_
  refine g_iload_n (x := s) rfl dX5_passStreet_50 ?_
  refine g_aload_n (x := a) rfl dX5_passStreet_51 ?_
  refine g_get fgX5_9 zcl_5 (congrArg Prod.fst ht.s0) (by have := ht.hi; omega) ht.rg0 dX5_passStreet_52 ?_
  refine g_iload_n (x := s) rfl dX5_passStreet_55 ?_
  refine g_iald ht.s1 (by have := ht.hi; omega) (by omega) (by omega) (by decide) ht.ag1 dX5_passStreet_56 ?_
  refine g_aload_n (x := a) rfl dX5_passStreet_57 ?_
  refine g_get fgX5_13 zcl_5 (congrArg Prod.fst ht.s0) (by have := ht.hi; omega) ht.rg1 dX5_passStreet_58 ?_
  refine g_iload_n (x := s) rfl dX5_passStreet_61 ?_
  refine g_iald ht.s2 (by have := ht.hi; omega) (by omega) (by omega) (by decide) ht.ag2 dX5_passStreet_62 ?_
  refine g_iload_n (x := h) rfl dX5_passStreet_63 ?_
  refine g_aload_n (x := a) rfl dX5_passStreet_64 ?_
  refine g_get fgX5_35 zcl_5 (congrArg Prod.fst ht.s0) (by have := ht.hi; omega) ht.ig8 dX5_passStreet_65 ?_
  have ek : ι2 (a + 1) s = ι (a + 1) s := by rw [hι2, iup_n _ (Or.inl (by omega)), hι1, iup_n _ (Or.inl (by omega))]
  have ed : ι2 (a + 2) s = ι (a + 2) s := by rw [hι2, iup_n _ (Or.inl (by omega)), hι1, iup_n _ (Or.inl (by omega))]
  have eh : ι2 a 8 = ι a 8 := by rw [hι2, iup_n _ (Or.inr (by decide)), hι1, iup_n _ (Or.inl (by omega))]
  rw [ek, ed, eh]
  refine i_callSp msX5_deepAfter tw_496 (c_deepAfter hk hd hh hH) (by decide) (st' := [zI s, zR (a + 2)]) rfl (Nat.le_of_ble_eq_true rfl) rfl dX5_passStreet_68 ?_
  obtain ⟨ι3, hι3⟩ : ∃ y, y = iup ι2 (a + 2) s (zdeep (ι (a + 1) s) (ι (a + 2) s) h (ι a 8)) := ⟨_, rfl⟩
  refine i_iast ht.s2 (by have := ht.hi; omega) (by have := ht.lo; omega) (by omega) (by omega) (by decide) (ι1 := ι3) (by rw [hι3]; exact ht.au2) dX5_passStreet_71 ?_
  exact i_ret rfl dX5_passStreet_72 (⟨rfl, by
      have hz := tb_tz a ι
      rw [hι3, hι2, hι1, tp_up_l a ι h0 h1, tp_ts (ru_tz hz (by omega) (by omega)) ι (by decide) (by decide), tp_td (ru_tz (ru_tz hz (by omega) (by omega)) (by decide) (by decide)) ι h0 h1]
      unfold psR
      rw [tb_k a ι h0 h1, tb_d a ι h0 h1, tb_l a ι h0 h1, tb_3, tb_4, tb_5, ht1]
      rfl⟩)

set_option maxRecDepth 100000 in
theorem lp_passHour {a : Nat} (ht : zTw a) (hV : zVT (tb a ι)) (hB : 0 < tb a ι 1) : ∀ i : Int, 0 ≤ i → i ≤ tb a ι 0 → zGi l (zc D ad L z) mX5_passHour 3 12 [some (zR a), some (zI (tb a ι (30 + tb a ι 4 % tb a ι 1))), some (zI i)] [] (tp a (paR (tb a ι) i) ι) (fun v ι' => v = none ∧ ι' = tp a (passR (tb a ι)) ι) := by
  refine z_loopI (fun i h0 h1 ih => ?_)
  obtain ⟨ι1, hι1⟩ : ∃ y, y = tp a (paR (tb a ι) i) ι := ⟨_, rfl⟩
  rw [← hι1]
  refine g_iload_n (x := i) rfl dX5_passHour_12 ?_
  obtain ⟨hV0, hV1, hV2, hV3, hV4, hV5, hVk, hVw⟩ := id hV
  have hz := paR_tz (tb_tz a ι) (i := i) (by omega)
  have e4 : ι1 a 4 = tb a ι 0 := by rw [hι1, tp_s a _ _ (by decide) (by decide)]; exact paR_o (by omega) (by omega) (by decide)
  have e8 : ι1 a 8 = tb a ι 4 := by rw [hι1, tp_s a _ _ (by decide) (by decide)]; exact paR_o (by omega) (by omega) (by decide)
  refine g_aload_n (x := a) rfl dX5_passHour_13 ?_
  refine g_get fgX5_22 zcl_5 (congrArg Prod.fst ht.s0) (by have := ht.hi; omega) ht.ig4 dX5_passHour_14 ?_
  refine g_icmp_ge ⟨by omega, by omega⟩ ⟨by omega, by omega⟩ (t := 37) dX5_passHour_17 (by decide) (fun h17 => ?_) (fun h17 => ?_)
  · refine g_aload_n (x := a) rfl dX5_passHour_37 ?_
    refine g_dupR dX5_passHour_38 ?_
    refine g_get fgX5_35 zcl_5 (congrArg Prod.fst ht.s0) (by have := ht.hi; omega) ht.ig8 dX5_passHour_39 ?_
    refine g_iconst (x := 1) rfl dX5_passHour_42 ?_
    refine g_iadd dX5_passHour_43 ?_
    rw [e8]
    obtain ⟨ι3, hι3⟩ : ∃ y, y = iup ι1 a 8 ((tb a ι 4) + 1) := ⟨_, rfl⟩
    refine i_put fwX5_35 zcl_5 (congrArg Prod.fst ht.s0) (by have := ht.hi; omega) (by have := ht.lo; omega) (ι1 := ι3) (by rw [hι3]; exact ht.iu8) dX5_passHour_44 ?_
    exact i_ret rfl dX5_passHour_47 (⟨rfl, by
      rw [hι3, hι1, show i = tb a ι 0 by omega, tp_ts (paR_tz (tb_tz a ι) (by omega)) ι (by decide) (by decide)]
      rfl⟩)
  · have hm0 := Int.emod_nonneg (tb a ι 4) (show tb a ι 1 ≠ 0 by omega)
    have hm1 := Int.emod_lt_of_pos (tb a ι 4) (show 0 < tb a ι 1 by omega)
    have hdr := hVw _ hm0 hm1
    obtain ⟨hk, hd, hl⟩ := hVk i h0 (by omega)
    have hb5 := zsum_b (zstR (tb a ι)) (i := i) (M := 9) h0 (fun k q0 q1 => by have := zstl_b (de := tb a ι (14 + k)) (h := zhr (tb a ι) k) (hVk k q0 (by omega)).2.2.1 hV3.1; exact ⟨this.1, by show zstl _ _ _ _ ≤ 9; omega⟩)
    have e6 : ι1 a 6 = tb a ι 2 := by rw [hι1, tp_s a _ _ (by decide) (by decide)]; exact paR_o (by omega) (by omega) (by decide)
    have e7 : ι1 a 7 = tb a ι 3 := by rw [hι1, tp_s a _ _ (by decide) (by decide)]; exact paR_o (by omega) (by omega) (by decide)
    have e9 : ι1 a 9 = zmin (tb a ι 5 + zsum (zstR (tb a ι)) i) 99999 := by rw [hι1, tp_s a _ _ (by decide) (by decide)]; unfold paR; rw [if_neg (by omega), if_neg (by omega), if_pos (by decide)]
    have e9b : 0 ≤ ι1 a 9 ∧ ι1 a 9 ≤ 99999 := by rw [e9]; unfold zmin; split <;> omega
    have ek : ι1 (a + 1) i = tb a ι (6 + i) := by rw [hι1, tp_k a _ _ h0 (by omega)]; exact paR_o (by omega) (by omega) (by omega)
    have ed : ι1 (a + 2) i = tb a ι (14 + i) := by rw [hι1, tp_d a _ _ h0 (by omega)]; exact paR_o (by omega) (by omega) (by omega)
    have el : ι1 (a + 3) i = tb a ι (22 + i) := by rw [hι1, tp_l a _ _ h0 (by omega)]; exact paR_o (by omega) (by omega) (by omega)
    refine g_aload_n (x := a) rfl dX5_passHour_20 ?_
    refine g_iload_n (x := i) rfl dX5_passHour_21 ?_
    refine g_aload_n (x := a) rfl dX5_passHour_22 ?_
    refine g_iload_n (x := i) rfl dX5_passHour_23 ?_
    refine g_iload_n (x := (tb a ι (30 + tb a ι 4 % tb a ι 1))) rfl dX5_passHour_24 ?_
    refine i_callVp mvX5_hearsFrom tw_480 (ci := 5) (congrArg Prod.fst ht.s0) rfl (by have := ht.hi; omega) (c_hearsFrom ht (by omega) (by omega) (by rw [e6]; exact ⟨by omega, by omega⟩)) (by decide) (st' := [zI i, zR a]) rfl (Nat.le_of_ble_eq_true rfl) rfl dX5_passHour_25 ?_
    rw [e6]
    refine i_callV mvX5_passStreet tw_487 (ci := 5) (congrArg Prod.fst ht.s0) rfl (by have := ht.hi; omega) (c_passStreet ht h0 (by omega) (by unfold zhf; split <;> decide) (by rw [ek]; exact ⟨by omega, by omega⟩) (by rw [ed]; exact hd) (by rw [el]; exact hl) (by rw [e7]; exact hV3) e9b (by rw [e8]; omega)) (by decide) (st' := []) rfl (Nat.le_of_ble_eq_true rfl) rfl dX5_passHour_28 (fun v_1 ι2 hq_28 => ?_)
    obtain ⟨rfl, hι2⟩ := hq_28
    rw [hι1, tb_tp a hz] at hι2
    have hst : 0 ≤ zstR (tb a ι) i := (zstl_b hl.1 hV3.1).1
    rw [show zhf i (tb a ι (30 + tb a ι 4 % tb a ι 1)) (tb a ι 2) = zhr (tb a ι) i from rfl, paR_s h0 (by omega) hst, tp_tp] at hι2
    refine g_iinc (x := i) (y := i + 1) (ls' := [some (zR a), some (zI (tb a ι (30 + tb a ι 4 % tb a ι 1))), some (zI (i + 1))]) dX5_passHour_31 rfl (rfl) (by decide) rfl ?_
    refine g_goto (t := 12) dX5_passHour_34 (by decide) ?_
    rw [hι2]
    exact ih (by omega)

set_option maxRecDepth 100000 in
theorem c_passHour {a : Nat} (ht : zTw a) (hV : zVT (tb a ι)) (hB : 0 < tb a ι 1) : zCi l (zc D ad L z) mX5_passHour 3 [zR a] ι (fun v ι' => v = none ∧ ι' = tp a (passR (tb a ι)) ι) := by
  refine zCt_of (by decide) (Nat.le_of_ble_eq_true rfl) 2 rfl ?_
  refine g_aload_n (x := a) rfl dX5_passHour_0 ?_
  refine g_get fgX5_19 zcl_5 (congrArg Prod.fst ht.s0) (by have := ht.hi; omega) ht.rg3 dX5_passHour_1 ?_
  refine g_aload_n (x := a) rfl dX5_passHour_4 ?_
  obtain ⟨hV0, hV1, hV2, hV3, hV4, hV5, hVk, hVw⟩ := id hV
  have q1 := tb_1 a ι
  have q4 := tb_4 a ι
  refine i_callVp mvX5_beatNow tw_476 (ci := 5) (congrArg Prod.fst ht.s0) rfl (by have := ht.hi; omega) (c_beatNow ht (by omega) (by omega)) (by decide) (st' := [zR (a + 4)]) rfl (Nat.le_of_ble_eq_true rfl) rfl dX5_passHour_5 ?_
  rw [if_neg (by omega), ← q1, ← q4]
  have hm0 := Int.emod_nonneg (tb a ι 4) (show tb a ι 1 ≠ 0 by omega)
  have hm1 := Int.emod_lt_of_pos (tb a ι 4) (show 0 < tb a ι 1 by omega)
  refine g_iald ht.s4 (by have := ht.hi; omega) (by omega) (by omega) (by decide) ht.ag4 dX5_passHour_8 ?_
  rw [← tb_w a ι hm0 (by omega)]
  refine g_istore_n (ls' := [some (zR a), some (zI (tb a ι (30 + tb a ι 4 % tb a ι 1))), none]) dX5_passHour_9 (by decide) rfl ?_
  refine g_iconst (x := 0) rfl dX5_passHour_10 ?_
  refine g_istore_n (ls' := [some (zR a), some (zI (tb a ι (30 + tb a ι 4 % tb a ι 1))), some (zI 0)]) dX5_passHour_11 (by decide) rfl ?_
  have hh := lp_passHour (l := l) (D := D) (ad := ad) (L := L) (z := z) ht hV hB 0 (by omega) (by omega)
  rw [paR_0 hV5.2, tp_tb] at hh
  exact hh

end
