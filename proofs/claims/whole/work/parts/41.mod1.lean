section
theorem zand_b (x y : Int) : zB (zand x y) := by
  unfold zand
  have h1 := Int32.minValue_le_toInt (Int32.ofInt x &&& Int32.ofInt y)
  have h2 := Int32.toInt_lt (Int32.ofInt x &&& Int32.ofInt y)
  have h3 := Int32.le_toInt (Int32.ofInt x &&& Int32.ofInt y)
  exact ⟨by omega, by omega⟩
variable {l : Launch} {D : va_G} {ad : Nat → Nat} {L z : Nat} {ι : zi}
set_option maxRecDepth 100000 in
theorem c_in {x lo hi : Int} (hx : zB8 x) (hl : zB8 lo) (hh : zB8 hi) : zCi l (zc D ad L z) mX7_in 0 [zL x, zL lo, zL hi] ι (zP (zI (if lo ≤ x ∧ x ≤ hi then 1 else 0)) ι) := by
  refine zCt_of (by decide) (Nat.le_of_ble_eq_true rfl) 0 rfl ?_
  refine g_lload_n (x := x) rfl dX7_in_0 ?_
  refine g_lload_n (x := lo) rfl dX7_in_1 ?_
  refine g_lcmp ⟨by omega, by omega⟩ ⟨by omega, by omega⟩ dX7_in_2 ?_
  refine g_if_lt (zcmp_b _ _) (t := 17) dX7_in_3 (by decide) (fun h3 => ?_) (fun h3 => ?_)
  · rw [zcmp_lt] at h3
    refine g_iconst (x := 0) rfl dX7_in_17 ?_
    exact i_zret rfl (by decide) dX7_in_18 (⟨(by (repeat' split) <;> first | rfl | (exfalso; omega) | (congr 2; omega)), rfl⟩)
  · rw [zcmp_lt] at h3
    refine g_lload_n (x := x) rfl dX7_in_6 ?_
    refine g_lload (x := hi) rfl dX7_in_7 ?_
    refine g_lcmp ⟨by omega, by omega⟩ ⟨by omega, by omega⟩ dX7_in_9 ?_
    refine g_if_gt (zcmp_b _ _) (t := 17) dX7_in_10 (by decide) (fun h10 => ?_) (fun h10 => ?_)
    · rw [zcmp_gt] at h10
      refine g_iconst (x := 0) rfl dX7_in_17 ?_
      exact i_zret rfl (by decide) dX7_in_18 (⟨(by (repeat' split) <;> first | rfl | (exfalso; omega) | (congr 2; omega)), rfl⟩)
    · rw [zcmp_gt] at h10
      refine g_iconst (x := 1) rfl dX7_in_13 ?_
      refine g_goto (t := 18) dX7_in_14 (by decide) ?_
      exact i_zret rfl (by decide) dX7_in_18 (⟨(by (repeat' split) <;> first | rfl | (exfalso; omega) | (congr 2; omega)), rfl⟩)

set_option maxRecDepth 100000 in
theorem c_has {x k : Int} : zCi l (zc D ad L z) mX7_has 0 [zI x, zI k] ι (zP (zI (if zand (zshr x k) 1 = 1 then 1 else 0)) ι) := by
  refine zCt_of (by decide) (Nat.le_of_ble_eq_true rfl) 0 rfl ?_
  refine g_iload_n (x := x) rfl dX7_has_0 ?_
  refine g_iload_n (x := k) rfl dX7_has_1 ?_
  refine g_ishr dX7_has_2 ?_
  refine g_iconst (x := 1) rfl dX7_has_3 ?_
  refine g_iand dX7_has_4 ?_
  refine g_iconst (x := 1) rfl dX7_has_5 ?_
  have hb : zB (zand (zshr x k) 1) := zand_b _ _
  refine g_icmp_ne hb (by decide) (t := 13) dX7_has_6 (by decide) (fun h6 => ?_) (fun h6 => ?_)
  · refine g_iconst (x := 0) rfl dX7_has_13 ?_
    exact i_zret rfl (by decide) dX7_has_14 (⟨(by (repeat' split) <;> first | rfl | (exfalso; omega) | (congr 2; omega)), rfl⟩)
  · refine g_iconst (x := 1) rfl dX7_has_9 ?_
    refine g_goto (t := 14) dX7_has_10 (by decide) ?_
    exact i_zret rfl (by decide) dX7_has_14 (⟨(by (repeat' split) <;> first | rfl | (exfalso; omega) | (congr 2; omega)), rfl⟩)

set_option maxRecDepth 100000 in
theorem c_isStreet {k : Int} (hk : zB k) (hN : 0 ≤ ι 179 0 ∧ ι 179 0 ≤ 8) : zCi l (zc D ad L z) mX7_isStreet 1 [zR 178, zI k] ι (zP (zI (if 0 ≤ k ∧ k ≤ ι 179 0 - 1 then 1 else 0)) ι) := by
  refine zCt_of (by decide) (Nat.le_of_ble_eq_true rfl) 0 rfl ?_
  refine g_iload_n (x := k) rfl dX7_isStreet_0 ?_
  refine g_i2l ⟨by omega, by omega⟩ dX7_isStreet_1 ?_
  refine g_lconst (x := 0) (by decide) dX7_isStreet_2 ?_
  refine g_aload_n (x := 178) rfl dX7_isStreet_3 ?_
  refine g_get fgX7_7 zcl_7 (congrArg Prod.fst sh_178) (by decide) rg_178_0 dX7_isStreet_4 ?_
  refine g_iconst (x := 0) rfl dX7_isStreet_7 ?_
  refine g_iald sh_179 (by decide) (by omega) (by omega) (by decide) ag_179 dX7_isStreet_8 ?_
  refine g_iconst (x := 1) rfl dX7_isStreet_9 ?_
  refine g_isub dX7_isStreet_10 ?_
  refine g_i2l ⟨by omega, by omega⟩ dX7_isStreet_11 ?_
  refine i_callSp msX7_in tw_876 (c_in ⟨by omega, by omega⟩ ⟨by omega, by omega⟩ ⟨by omega, by omega⟩) (by decide) (st' := []) rfl (Nat.le_of_ble_eq_true rfl) rfl dX7_isStreet_12 ?_
  exact i_zret rfl (by split <;> simp) dX7_isStreet_15 (⟨rfl, rfl⟩)

set_option maxRecDepth 100000 in
theorem c_isTown (hN : 0 ≤ ι 179 0 ∧ ι 179 0 ≤ 8) : zCi l (zc D ad L z) mX7_isTown 0 [zR 178] ι (zP (zI (if 0 < ι 179 0 then 1 else 0)) ι) := by
  refine zCt_of (by decide) (Nat.le_of_ble_eq_true rfl) 0 rfl ?_
  refine g_aload_n (x := 178) rfl dX7_isTown_0 ?_
  refine g_get fgX7_7 zcl_7 (congrArg Prod.fst sh_178) (by decide) rg_178_0 dX7_isTown_1 ?_
  refine g_iconst (x := 0) rfl dX7_isTown_4 ?_
  refine g_iald sh_179 (by decide) (by omega) (by omega) (by decide) ag_179 dX7_isTown_5 ?_
  refine g_if_le ⟨by omega, by omega⟩ (t := 13) dX7_isTown_6 (by decide) (fun h6 => ?_) (fun h6 => ?_)
  · refine g_iconst (x := 0) rfl dX7_isTown_13 ?_
    exact i_zret rfl (by decide) dX7_isTown_14 (⟨(by (repeat' split) <;> first | rfl | (exfalso; omega) | (congr 2; omega)), rfl⟩)
  · refine g_iconst (x := 1) rfl dX7_isTown_9 ?_
    refine g_goto (t := 14) dX7_isTown_10 (by decide) ?_
    exact i_zret rfl (by decide) dX7_isTown_14 (⟨(by (repeat' split) <;> first | rfl | (exfalso; omega) | (congr 2; omega)), rfl⟩)

set_option maxRecDepth 100000 in
theorem c_mIsRow {k : Int} (hk : zB k) : zCi l (zc D ad L z) mX7_isRow 1 [zI k] ι (zP (zI (if 0 ≤ k ∧ k ≤ 7 then 1 else 0)) ι) := by
  refine zCt_of (by decide) (Nat.le_of_ble_eq_true rfl) 0 rfl ?_
  refine g_iload_n (x := k) rfl dX7_isRow_0 ?_
  refine g_i2l ⟨by omega, by omega⟩ dX7_isRow_1 ?_
  refine g_lconst (x := 0) (by decide) dX7_isRow_2 ?_
  refine g_ldc2 (x := 7) tw_875 (by decide) dX7_isRow_3 ?_
  refine i_callSp msX7_in tw_876 (c_in ⟨by omega, by omega⟩ ⟨by omega, by omega⟩ ⟨by omega, by omega⟩) (by decide) (st' := []) rfl (Nat.le_of_ble_eq_true rfl) rfl dX7_isRow_6 ?_
  exact i_zret rfl (by split <;> simp) dX7_isRow_9 (⟨rfl, rfl⟩)

set_option maxRecDepth 100000 in
theorem c_finds {k : Int} : zCi l (zc D ad L z) mX7_finds 0 [zR 178, zI k] ι (fun v ι' => v = some (zI (-1000010 - k)) ∧ ι' = iup ι 178 5 k) := by
  refine zCt_of (by decide) (Nat.le_of_ble_eq_true rfl) 0 rfl ?_
  refine g_aload_n (x := 178) rfl dX7_finds_0 ?_
  refine g_iload_n (x := k) rfl dX7_finds_1 ?_
  obtain ⟨ι1, hι1⟩ : ∃ y, y = iup ι 178 5 k := ⟨_, rfl⟩
  refine i_put fwX7_44 zcl_7 (congrArg Prod.fst sh_178) (by decide) (by decide) (ι1 := ι1) (by rw [hι1]; exact iu_178_5) dX7_finds_2 ?_
  refine g_ldc (x := -1000010) tw_885 (by decide) dX7_finds_5 ?_
  refine g_iload_n (x := k) rfl dX7_finds_7 ?_
  refine g_isub dX7_finds_8 ?_
  exact i_iret rfl dX7_finds_9 (⟨rfl, hι1⟩)

set_option maxRecDepth 100000 in
theorem c_against {r i n : Int} (h0 : 0 ≤ r) (h1 : r < 8) (hi : zB i) (hn : zB n) (hm : -1 ≤ ι 181 r ∧ ι 181 r ≤ 40) : zCi l (zc D ad L z) mX7_against 0 [zR 178, zI r, zI i, zI n] ι (zP (zI (if ι 181 r < 0 then 1 else if i < 0 ∨ n < 0 ∨ ι 181 r < i + n then 2 else 0)) ι) := by
  refine zCt_of (by decide) (Nat.le_of_ble_eq_true rfl) 0 rfl ?_
  refine g_aload_n (x := 178) rfl dX7_against_0 ?_
  refine g_get fgX7_16 zcl_7 (congrArg Prod.fst sh_178) (by decide) rg_178_6 dX7_against_1 ?_
  refine g_iload_n (x := r) rfl dX7_against_4 ?_
  refine g_iald sh_181 (by decide) (by omega) (by omega) (by decide) ag_181 dX7_against_5 ?_
  refine g_if_ge ⟨by omega, by omega⟩ (t := 13) dX7_against_6 (by decide) (fun h6 => ?_) (fun h6 => ?_)
  · refine g_iload_n (x := i) rfl dX7_against_13 ?_
    refine g_if_lt ⟨by omega, by omega⟩ (t := 37) dX7_against_14 (by decide) (fun h14 => ?_) (fun h14 => ?_)
    · refine g_iconst (x := 2) rfl dX7_against_37 ?_
      refine g_goto (t := 42) dX7_against_38 (by decide) ?_
      exact i_iret rfl dX7_against_42 (⟨(by (repeat' split) <;> first | rfl | (exfalso; omega) | (congr 2; omega)), rfl⟩)
    · refine g_iload_n (x := n) rfl dX7_against_17 ?_
      refine g_if_lt ⟨by omega, by omega⟩ (t := 37) dX7_against_18 (by decide) (fun h18 => ?_) (fun h18 => ?_)
      · refine g_iconst (x := 2) rfl dX7_against_37 ?_
        refine g_goto (t := 42) dX7_against_38 (by decide) ?_
        exact i_iret rfl dX7_against_42 (⟨(by (repeat' split) <;> first | rfl | (exfalso; omega) | (congr 2; omega)), rfl⟩)
      · refine g_iload_n (x := i) rfl dX7_against_21 ?_
        refine g_i2l ⟨by omega, by omega⟩ dX7_against_22 ?_
        refine g_iload_n (x := n) rfl dX7_against_23 ?_
        refine g_i2l ⟨by omega, by omega⟩ dX7_against_24 ?_
        refine g_ladd dX7_against_25 ?_
        refine g_aload_n (x := 178) rfl dX7_against_26 ?_
        refine g_get fgX7_16 zcl_7 (congrArg Prod.fst sh_178) (by decide) rg_178_6 dX7_against_27 ?_
        refine g_iload_n (x := r) rfl dX7_against_30 ?_
        refine g_iald sh_181 (by decide) (by omega) (by omega) (by decide) ag_181 dX7_against_31 ?_
        refine g_i2l ⟨by omega, by omega⟩ dX7_against_32 ?_
        refine g_lcmp ⟨by omega, by omega⟩ ⟨by omega, by omega⟩ dX7_against_33 ?_
        refine g_if_le (zcmp_b _ _) (t := 41) dX7_against_34 (by decide) (fun h34 => ?_) (fun h34 => ?_)
        · rw [zcmp_le] at h34
          refine g_iconst (x := 0) rfl dX7_against_41 ?_
          exact i_iret rfl dX7_against_42 (⟨(by (repeat' split) <;> first | rfl | (exfalso; omega) | (congr 2; omega)), rfl⟩)
        · rw [zcmp_le] at h34
          refine g_iconst (x := 2) rfl dX7_against_37 ?_
          refine g_goto (t := 42) dX7_against_38 (by decide) ?_
          exact i_iret rfl dX7_against_42 (⟨(by (repeat' split) <;> first | rfl | (exfalso; omega) | (congr 2; omega)), rfl⟩)
  · refine g_iconst (x := 1) rfl dX7_against_9 ?_
    refine g_goto (t := 42) dX7_against_10 (by decide) ?_
    exact i_iret rfl dX7_against_42 (⟨(by (repeat' split) <;> first | rfl | (exfalso; omega) | (congr 2; omega)), rfl⟩)

set_option maxRecDepth 100000 in
theorem c_gap {x y : Int} (hx : zB x) (hy : zB y) : zCi l (zc D ad L z) mX7_gap 0 [zI x, zI y] ι (zP (zI (zabs (x - y))) ι) := by
  refine zCt_of (by decide) (Nat.le_of_ble_eq_true rfl) 0 rfl ?_
  refine g_iload_n (x := x) rfl dX7_gap_0 ?_
  refine g_iload_n (x := y) rfl dX7_gap_1 ?_
  refine g_icmp_ge ⟨by omega, by omega⟩ ⟨by omega, by omega⟩ (t := 11) dX7_gap_2 (by decide) (fun h2 => ?_) (fun h2 => ?_)
  · refine g_iload_n (x := x) rfl dX7_gap_11 ?_
    refine g_iload_n (x := y) rfl dX7_gap_12 ?_
    refine g_isub dX7_gap_13 ?_
    exact i_iret rfl dX7_gap_14 (⟨by unfold zabs; (repeat' split) <;> first | rfl | (exfalso; omega) | (congr 2; omega), rfl⟩)
  · refine g_iload_n (x := y) rfl dX7_gap_5 ?_
    refine g_iload_n (x := x) rfl dX7_gap_6 ?_
    refine g_isub dX7_gap_7 ?_
    refine g_goto (t := 14) dX7_gap_8 (by decide) ?_
    exact i_iret rfl dX7_gap_14 (⟨by unfold zabs; (repeat' split) <;> first | rfl | (exfalso; omega) | (congr 2; omega), rfl⟩)

set_option maxRecDepth 100000 in
theorem c_mHears {r k : Int} (hr : 0 ≤ r ∧ r + 38 ≤ 1102) (hk : -100 ≤ k ∧ k ≤ 100) (hB : 0 < wb r ι 1 ∧ wb r ι 1 ≤ 8) (hH : 0 ≤ wb r ι 4 ∧ wb r ι 4 ≤ 100000) (hW : ∀ b, 0 ≤ b → b < wb r ι 1 → -100 ≤ wb r ι (30 + b) ∧ wb r ι (30 + b) ≤ 100) (hR : zB (wb r ι 2)) : zCi l (zc D ad L z) mX7_hears 1 [zR 178, zI r, zI k] ι (zP (zI (zhr (wb r ι) k)) ι) := by
  refine zCt_of (by decide) (Nat.le_of_ble_eq_true rfl) 0 rfl ?_
  have q1 := wb_i r ι (i := 1) (by decide) (by decide)
  have q2 := wb_i r ι (i := 2) (by decide) (by decide)
  have q4 := wb_i r ι (i := 4) (by decide) (by decide)
  have hm0 := Int.emod_nonneg (wb r ι 4) (show wb r ι 1 ≠ 0 by omega)
  have hm1 := Int.emod_lt_of_pos (wb r ι 4) hB.1
  have hw := hW _ hm0 hm1
  refine g_iload_n (x := k) rfl dX7_hears_0 ?_
  refine g_aload_n (x := 178) rfl dX7_hears_1 ?_
  refine g_get fgX7_7 zcl_7 (congrArg Prod.fst sh_178) (by decide) rg_178_0 dX7_hears_2 ?_
  refine g_iload_n (x := r) rfl dX7_hears_5 ?_
  refine g_bipush (x := 30) (by decide) dX7_hears_6 ?_
  refine g_iadd dX7_hears_8 ?_
  refine g_aload_n (x := 178) rfl dX7_hears_9 ?_
  refine g_get fgX7_7 zcl_7 (congrArg Prod.fst sh_178) (by decide) rg_178_0 dX7_hears_10 ?_
  refine g_iload_n (x := r) rfl dX7_hears_13 ?_
  refine g_iconst (x := 4) rfl dX7_hears_14 ?_
  refine g_iadd dX7_hears_15 ?_
  refine g_iald sh_179 (by decide) (by omega) (by omega) (by decide) ag_179 dX7_hears_16 ?_
  refine g_aload_n (x := 178) rfl dX7_hears_17 ?_
  refine g_get fgX7_7 zcl_7 (congrArg Prod.fst sh_178) (by decide) rg_178_0 dX7_hears_18 ?_
  refine g_iload_n (x := r) rfl dX7_hears_21 ?_
  refine g_iconst (x := 1) rfl dX7_hears_22 ?_
  refine g_iadd dX7_hears_23 ?_
  refine g_iald sh_179 (by decide) (by omega) (by omega) (by decide) ag_179 dX7_hears_24 ?_
  rw [← q4, ← q1]
  refine g_irem (by omega) (by omega) (by omega) (by omega) dX7_hears_25 ?_
  refine g_iadd dX7_hears_26 ?_
  refine g_iald sh_179 (by decide) (by omega) (by omega) (by decide) ag_179 dX7_hears_27 ?_
  have qw := wb_i r ι (i := 30 + wb r ι 4 % wb r ι 1) (by omega) (by omega)
  rw [show r + 30 + wb r ι 4 % wb r ι 1 = r + (30 + wb r ι 4 % wb r ι 1) by omega, ← qw]
  refine i_callSp msX7_gap tw_984 (c_gap ⟨by omega, by omega⟩ ⟨by omega, by omega⟩) (by decide) (st' := []) rfl (Nat.le_of_ble_eq_true rfl) rfl dX7_hears_28 ?_
  refine g_aload_n (x := 178) rfl dX7_hears_31 ?_
  refine g_get fgX7_7 zcl_7 (congrArg Prod.fst sh_178) (by decide) rg_178_0 dX7_hears_32 ?_
  refine g_iload_n (x := r) rfl dX7_hears_35 ?_
  refine g_iconst (x := 2) rfl dX7_hears_36 ?_
  refine g_iadd dX7_hears_37 ?_
  refine g_iald sh_179 (by decide) (by omega) (by omega) (by decide) ag_179 dX7_hears_38 ?_
  have hab : zB (zabs (k - wb r ι (30 + wb r ι 4 % wb r ι 1))) := by unfold zabs; split <;> constructor <;> omega
  rw [← q2]
  refine g_icmp_gt hab hR (t := 46) dX7_hears_39 (by decide) (fun h39 => ?_) (fun h39 => ?_)
  · refine g_iconst (x := 0) rfl dX7_hears_46 ?_
    exact i_zret rfl (by decide) dX7_hears_47 (⟨by unfold zhr zhf; first | rw [if_pos (by omega)] | rw [if_neg (by omega)], rfl⟩)
  · refine g_iconst (x := 1) rfl dX7_hears_42 ?_
    refine g_goto (t := 47) dX7_hears_43 (by decide) ?_
    exact i_zret rfl (by decide) dX7_hears_47 (⟨by unfold zhr zhf; first | rw [if_pos (by omega)] | rw [if_neg (by omega)], rfl⟩)

set_option maxRecDepth 100000 in
theorem c_bounded {v : Int} (hv : zB v) : zCi l (zc D ad L z) mX7_bounded 0 [zI v] ι (zP (zI (zmax 0 (zmin v 20))) ι) := by
  refine zCt_of (by decide) (Nat.le_of_ble_eq_true rfl) 0 rfl ?_
  refine g_iload_n (x := v) rfl dX7_bounded_0 ?_
  refine g_if_ge ⟨by omega, by omega⟩ (t := 8) dX7_bounded_1 (by decide) (fun h1 => ?_) (fun h1 => ?_)
  · refine g_iload_n (x := v) rfl dX7_bounded_8 ?_
    refine g_bipush (x := 20) (by decide) dX7_bounded_9 ?_
    refine g_icmp_le ⟨by omega, by omega⟩ (by decide) (t := 19) dX7_bounded_11 (by decide) (fun h11 => ?_) (fun h11 => ?_)
    · refine g_iload_n (x := v) rfl dX7_bounded_19 ?_
      exact i_iret rfl dX7_bounded_20 (⟨by unfold zmax zmin; (repeat' split) <;> first | rfl | (exfalso; omega) | (congr 2; omega), rfl⟩)
    · refine g_bipush (x := 20) (by decide) dX7_bounded_14 ?_
      refine g_goto (t := 20) dX7_bounded_16 (by decide) ?_
      exact i_iret rfl dX7_bounded_20 (⟨by unfold zmax zmin; (repeat' split) <;> first | rfl | (exfalso; omega) | (congr 2; omega), rfl⟩)
  · refine g_iconst (x := 0) rfl dX7_bounded_4 ?_
    refine g_goto (t := 20) dX7_bounded_5 (by decide) ?_
    exact i_iret rfl dX7_bounded_20 (⟨by unfold zmax zmin; (repeat' split) <;> first | rfl | (exfalso; omega) | (congr 2; omega), rfl⟩)

set_option maxRecDepth 100000 in
theorem c_deepBy {k de h hr : Int} (hk : zB k) (hd : 0 ≤ de ∧ de ≤ 20) (hh : zB h) (hr0 : 0 ≤ hr ∧ hr < 2147483648) : zCi l (zc D ad L z) mX7_deepBy 1 [zI k, zI de, zI h, zI hr] ι (zP (zI (zdeep k de h hr)) ι) := by
  refine zCt_of (by decide) (Nat.le_of_ble_eq_true rfl) 0 rfl ?_
  refine g_iload_n (x := k) rfl dX7_deepBy_0 ?_
  by_cases hsw : k < 2 ∨ 5 < k
  · refine g_tswOut ⟨by omega, by omega⟩ dX7_deepBy_1 hsw (t := 100) (by decide) ?_
    refine g_iload_n (x := h) rfl dX7_deepBy_100 ?_
    refine g_if_eq ⟨by omega, by omega⟩ (t := 110) dX7_deepBy_101 (by decide) (fun h101 => ?_) (fun h101 => ?_)
    · refine g_iload_n (x := de) rfl dX7_deepBy_110 ?_
      refine g_iconst (x := 1) rfl dX7_deepBy_111 ?_
      refine g_isub dX7_deepBy_112 ?_
      refine i_callSp msX7_bounded tw_990 (c_bounded ⟨by omega, by omega⟩) (by decide) (st' := []) rfl (Nat.le_of_ble_eq_true rfl) rfl dX7_deepBy_113 ?_
      exact i_iret rfl dX7_deepBy_116 (⟨by unfold zdeep; rw [show zmore k h hr = -1 by (unfold zmore; (repeat' split) <;> first | rfl | (exfalso; omega))]; try rfl, rfl⟩)
    · refine g_iload_n (x := de) rfl dX7_deepBy_104 ?_
      refine g_iconst (x := 2) rfl dX7_deepBy_105 ?_
      refine g_iadd dX7_deepBy_106 ?_
      refine g_goto (t := 113) dX7_deepBy_107 (by decide) ?_
      refine i_callSp msX7_bounded tw_990 (c_bounded ⟨by omega, by omega⟩) (by decide) (st' := []) rfl (Nat.le_of_ble_eq_true rfl) rfl dX7_deepBy_113 ?_
      exact i_iret rfl dX7_deepBy_116 (⟨by unfold zdeep; rw [show zmore k h hr = 2 by (unfold zmore; (repeat' split) <;> first | rfl | (exfalso; omega))]; try rfl, rfl⟩)
  · rcases (show k = 2 ∨ k = 3 ∨ k = 4 ∨ k = 5 by omega) with hsv | hsv | hsv | hsv
    · refine g_tswIn ⟨by omega, by omega⟩ dX7_deepBy_1 (by omega) (by omega) (off := 31) (by rw [hsv]; rfl) (t := 32) (by decide) ?_
      refine g_iload_n (x := h) rfl dX7_deepBy_32 ?_
      refine g_if_eq ⟨by omega, by omega⟩ (t := 54) dX7_deepBy_33 (by decide) (fun h33 => ?_) (fun h33 => ?_)
      · refine g_iload_n (x := de) rfl dX7_deepBy_54 ?_
        refine g_iconst (x := 1) rfl dX7_deepBy_55 ?_
        refine g_isub dX7_deepBy_56 ?_
        refine i_callSp msX7_bounded tw_990 (c_bounded ⟨by omega, by omega⟩) (by decide) (st' := []) rfl (Nat.le_of_ble_eq_true rfl) rfl dX7_deepBy_57 ?_
        exact i_iret rfl dX7_deepBy_60 (⟨by unfold zdeep; rw [show zmore k h hr = -1 by (unfold zmore; (repeat' split) <;> first | rfl | (exfalso; omega))]; try rfl, rfl⟩)
      · refine g_iload_n (x := hr) rfl dX7_deepBy_36 ?_
        refine g_iconst (x := 4) rfl dX7_deepBy_37 ?_
        refine g_irem (by omega) (by omega) (by omega) (by omega) dX7_deepBy_38 ?_
        refine g_if_ne ⟨by omega, by omega⟩ (t := 48) dX7_deepBy_39 (by decide) (fun h39 => ?_) (fun h39 => ?_)
        · refine g_iload_n (x := de) rfl dX7_deepBy_48 ?_
          refine g_iconst (x := 2) rfl dX7_deepBy_49 ?_
          refine g_iadd dX7_deepBy_50 ?_
          refine g_goto (t := 57) dX7_deepBy_51 (by decide) ?_
          refine i_callSp msX7_bounded tw_990 (c_bounded ⟨by omega, by omega⟩) (by decide) (st' := []) rfl (Nat.le_of_ble_eq_true rfl) rfl dX7_deepBy_57 ?_
          exact i_iret rfl dX7_deepBy_60 (⟨by unfold zdeep; rw [show zmore k h hr = 2 by (unfold zmore; (repeat' split) <;> first | rfl | (exfalso; omega))]; try rfl, rfl⟩)
        · refine g_iload_n (x := de) rfl dX7_deepBy_42 ?_
          refine g_iconst (x := 4) rfl dX7_deepBy_43 ?_
          refine g_iadd dX7_deepBy_44 ?_
          refine g_goto (t := 57) dX7_deepBy_45 (by decide) ?_
          refine i_callSp msX7_bounded tw_990 (c_bounded ⟨by omega, by omega⟩) (by decide) (st' := []) rfl (Nat.le_of_ble_eq_true rfl) rfl dX7_deepBy_57 ?_
          exact i_iret rfl dX7_deepBy_60 (⟨by unfold zdeep; rw [show zmore k h hr = 4 by (unfold zmore; (repeat' split) <;> first | rfl | (exfalso; omega))]; try rfl, rfl⟩)
    · refine g_tswIn ⟨by omega, by omega⟩ dX7_deepBy_1 (by omega) (by omega) (off := 60) (by rw [hsv]; rfl) (t := 61) (by decide) ?_
      refine g_iload_n (x := h) rfl dX7_deepBy_61 ?_
      refine g_if_eq ⟨by omega, by omega⟩ (t := 71) dX7_deepBy_62 (by decide) (fun h62 => ?_) (fun h62 => ?_)
      · refine g_iload_n (x := de) rfl dX7_deepBy_71 ?_
        refine g_iconst (x := 3) rfl dX7_deepBy_72 ?_
        refine g_isub dX7_deepBy_73 ?_
        refine i_callSp msX7_bounded tw_990 (c_bounded ⟨by omega, by omega⟩) (by decide) (st' := []) rfl (Nat.le_of_ble_eq_true rfl) rfl dX7_deepBy_74 ?_
        exact i_iret rfl dX7_deepBy_77 (⟨by unfold zdeep; rw [show zmore k h hr = -3 by (unfold zmore; (repeat' split) <;> first | rfl | (exfalso; omega))]; try rfl, rfl⟩)
      · refine g_iload_n (x := de) rfl dX7_deepBy_65 ?_
        refine g_iconst (x := 2) rfl dX7_deepBy_66 ?_
        refine g_iadd dX7_deepBy_67 ?_
        refine g_goto (t := 74) dX7_deepBy_68 (by decide) ?_
        refine i_callSp msX7_bounded tw_990 (c_bounded ⟨by omega, by omega⟩) (by decide) (st' := []) rfl (Nat.le_of_ble_eq_true rfl) rfl dX7_deepBy_74 ?_
        exact i_iret rfl dX7_deepBy_77 (⟨by unfold zdeep; rw [show zmore k h hr = 2 by (unfold zmore; (repeat' split) <;> first | rfl | (exfalso; omega))]; try rfl, rfl⟩)
    · refine g_tswIn ⟨by omega, by omega⟩ dX7_deepBy_1 (by omega) (by omega) (off := 77) (by rw [hsv]; rfl) (t := 78) (by decide) ?_
      refine g_iload_n (x := de) rfl dX7_deepBy_78 ?_
      refine g_iconst (x := 1) rfl dX7_deepBy_79 ?_
      refine g_isub dX7_deepBy_80 ?_
      refine i_callSp msX7_bounded tw_990 (c_bounded ⟨by omega, by omega⟩) (by decide) (st' := []) rfl (Nat.le_of_ble_eq_true rfl) rfl dX7_deepBy_81 ?_
      exact i_iret rfl dX7_deepBy_84 (⟨by unfold zdeep; rw [show zmore k h hr = -1 by (unfold zmore; (repeat' split) <;> first | rfl | (exfalso; omega))]; try rfl, rfl⟩)
    · refine g_tswIn ⟨by omega, by omega⟩ dX7_deepBy_1 (by omega) (by omega) (off := 84) (by rw [hsv]; rfl) (t := 85) (by decide) ?_
      refine g_iload_n (x := h) rfl dX7_deepBy_85 ?_
      refine g_if_eq ⟨by omega, by omega⟩ (t := 98) dX7_deepBy_86 (by decide) (fun h86 => ?_) (fun h86 => ?_)
      · refine g_iconst (x := 0) rfl dX7_deepBy_98 ?_
        exact i_iret rfl dX7_deepBy_99 (⟨by unfold zdeep; rw [show zmore k h hr = -20 by (unfold zmore; (repeat' split) <;> first | rfl | (exfalso; omega))]; unfold zmax zmin; (repeat' split) <;> first | rfl | (congr 2; omega) | (exfalso; omega), rfl⟩)
      · refine g_iload_n (x := de) rfl dX7_deepBy_89 ?_
        refine g_iconst (x := 1) rfl dX7_deepBy_90 ?_
        refine g_isub dX7_deepBy_91 ?_
        refine i_callSp msX7_bounded tw_990 (c_bounded ⟨by omega, by omega⟩) (by decide) (st' := []) rfl (Nat.le_of_ble_eq_true rfl) rfl dX7_deepBy_92 ?_
        refine g_goto (t := 99) dX7_deepBy_95 (by decide) ?_
        exact i_iret rfl dX7_deepBy_99 (⟨by unfold zdeep; rw [show zmore k h hr = -1 by (unfold zmore; (repeat' split) <;> first | rfl | (exfalso; omega))]; try rfl, rfl⟩)

set_option maxRecDepth 100000 in
theorem c_robbedIn {r k : Int} (hr : 0 ≤ r ∧ r + 38 ≤ 1102) (hV : zVT (wb r ι)) (hB : 0 < wb r ι 1) (h0 : 0 ≤ k) (h1 : k < wb r ι 0) : zCi l (zc D ad L z) mX7_robbedIn 2 [zR 178, zI r, zI k] ι (zP (zI (zstR (wb r ι) k)) ι) := by
  refine zCt_of (by decide) (Nat.le_of_ble_eq_true rfl) 0 rfl ?_
  obtain ⟨hV0, hV1, hV2, hV3, hV4, hV5, hVk, hVw⟩ := id hV
  have hk3 := hVk k h0 h1
  have qd := wb_i r ι (i := 14 + k) (by omega) (by omega)
  have ql := wb_i r ι (i := 22 + k) (by omega) (by omega)
  have q3 := wb_i r ι (i := 3) (by omega) (by omega)
  refine g_aload_n (x := 178) rfl dX7_robbedIn_0 ?_
  refine g_get fgX7_7 zcl_7 (congrArg Prod.fst sh_178) (by decide) rg_178_0 dX7_robbedIn_1 ?_
  refine g_iload_n (x := r) rfl dX7_robbedIn_4 ?_
  refine g_bipush (x := 14) (by decide) dX7_robbedIn_5 ?_
  refine g_iadd dX7_robbedIn_7 ?_
  refine g_iload_n (x := k) rfl dX7_robbedIn_8 ?_
  refine g_iadd dX7_robbedIn_9 ?_
  refine g_iald sh_179 (by decide) (by omega) (by omega) (by decide) ag_179 dX7_robbedIn_10 ?_
  rw [show r + 14 + k = r + (14 + k) by omega, ← qd]
  refine g_if_eq ⟨by omega, by omega⟩ (t := 23) dX7_robbedIn_11 (by decide) (fun h11 => ?_) (fun h11 => ?_)
  · refine g_iconst (x := 0) rfl dX7_robbedIn_23 ?_
    exact i_iret rfl dX7_robbedIn_24 (⟨by unfold zstR zstl; rw [if_pos (by omega)], rfl⟩)
  · refine g_aload_n (x := 178) rfl dX7_robbedIn_14 ?_
    refine g_iload_n (x := r) rfl dX7_robbedIn_15 ?_
    refine g_iload_n (x := k) rfl dX7_robbedIn_16 ?_
    refine i_callVp mvX7_hears tw_980 (ci := 7) (congrArg Prod.fst sh_178) rfl (by decide) (c_mHears hr (by omega) (by omega) (by omega) (fun b g0 g1 => by have := hVw b g0 g1; omega) ⟨by omega, by omega⟩) (by decide) (st' := []) rfl (Nat.le_of_ble_eq_true rfl) rfl dX7_robbedIn_17 ?_
    have hz1 : zB (zhr (wb r ι) k) := by unfold zhr zhf; split <;> decide
    refine g_if_eq hz1 (t := 25) dX7_robbedIn_20 (by decide) (fun h20 => ?_) (fun h20 => ?_)
    · refine g_aload_n (x := 178) rfl dX7_robbedIn_25 ?_
      refine g_get fgX7_7 zcl_7 (congrArg Prod.fst sh_178) (by decide) rg_178_0 dX7_robbedIn_26 ?_
      refine g_iload_n (x := r) rfl dX7_robbedIn_29 ?_
      refine g_bipush (x := 22) (by decide) dX7_robbedIn_30 ?_
      refine g_iadd dX7_robbedIn_32 ?_
      refine g_iload_n (x := k) rfl dX7_robbedIn_33 ?_
      refine g_iadd dX7_robbedIn_34 ?_
      refine g_iald sh_179 (by decide) (by omega) (by omega) (by decide) ag_179 dX7_robbedIn_35 ?_
      refine g_aload_n (x := 178) rfl dX7_robbedIn_36 ?_
      refine g_get fgX7_7 zcl_7 (congrArg Prod.fst sh_178) (by decide) rg_178_0 dX7_robbedIn_37 ?_
      refine g_iload_n (x := r) rfl dX7_robbedIn_40 ?_
      refine g_iconst (x := 3) rfl dX7_robbedIn_41 ?_
      refine g_iadd dX7_robbedIn_42 ?_
      refine g_iald sh_179 (by decide) (by omega) (by omega) (by decide) ag_179 dX7_robbedIn_43 ?_
      rw [show r + 22 + k = r + (22 + k) by omega, ← ql, ← q3]
      refine g_icmp_ge ⟨by omega, by omega⟩ ⟨by omega, by omega⟩ (t := 61) dX7_robbedIn_44 (by decide) (fun h44 => ?_) (fun h44 => ?_)
      · refine g_aload_n (x := 178) rfl dX7_robbedIn_61 ?_
        refine g_get fgX7_7 zcl_7 (congrArg Prod.fst sh_178) (by decide) rg_178_0 dX7_robbedIn_62 ?_
        refine g_iload_n (x := r) rfl dX7_robbedIn_65 ?_
        refine g_iconst (x := 3) rfl dX7_robbedIn_66 ?_
        refine g_iadd dX7_robbedIn_67 ?_
        refine g_iald sh_179 (by decide) (by omega) (by omega) (by decide) ag_179 dX7_robbedIn_68 ?_
        exact i_iret rfl dX7_robbedIn_69 (⟨by unfold zstR zstl zmin; rw [if_neg (by omega), ql, q3]; split <;> first | rfl | (congr 2; omega) | (congr 3; omega) | (exfalso; omega), rfl⟩)
      · refine g_aload_n (x := 178) rfl dX7_robbedIn_47 ?_
        refine g_get fgX7_7 zcl_7 (congrArg Prod.fst sh_178) (by decide) rg_178_0 dX7_robbedIn_48 ?_
        refine g_iload_n (x := r) rfl dX7_robbedIn_51 ?_
        refine g_bipush (x := 22) (by decide) dX7_robbedIn_52 ?_
        refine g_iadd dX7_robbedIn_54 ?_
        refine g_iload_n (x := k) rfl dX7_robbedIn_55 ?_
        refine g_iadd dX7_robbedIn_56 ?_
        refine g_iald sh_179 (by decide) (by omega) (by omega) (by decide) ag_179 dX7_robbedIn_57 ?_
        refine g_goto (t := 69) dX7_robbedIn_58 (by decide) ?_
        exact i_iret rfl dX7_robbedIn_69 (⟨by unfold zstR zstl zmin; rw [if_neg (by omega), ql, q3]; split <;> first | rfl | (congr 2; omega) | (congr 3; omega) | (exfalso; omega), rfl⟩)
    · refine g_iconst (x := 0) rfl dX7_robbedIn_23 ?_
      exact i_iret rfl dX7_robbedIn_24 (⟨by unfold zstR zstl; rw [if_pos (by omega)], rfl⟩)

set_option maxRecDepth 100000 in
theorem lp_mAwake {r : Int} (hr : 0 ≤ r ∧ r + 38 ≤ 1102) (hN : 0 ≤ wb r ι 0 ∧ wb r ι 0 ≤ 8) (hD : ∀ k, 0 ≤ k → k < wb r ι 0 → zB (wb r ι (14 + k))) : ∀ i : Int, 0 ≤ i → i ≤ wb r ι 0 → zGi l (zc D ad L z) mX7_awake 0 4 [some (zR 178), some (zI r), some (zI (zaw (fun k => wb r ι (14 + k)) i)), some (zI i)] [] ι (zP (zI (zaw (fun k => wb r ι (14 + k)) (wb r ι 0))) ι) := by
  refine z_loopI (fun i h0 h1 ih => ?_)
  have q0 := wb_i r ι (i := 0) (by decide) (by decide)
  refine g_iload_n (x := i) rfl dX7_awake_4 ?_
  refine g_aload_n (x := 178) rfl dX7_awake_5 ?_
  refine g_get fgX7_7 zcl_7 (congrArg Prod.fst sh_178) (by decide) rg_178_0 dX7_awake_6 ?_
  refine g_iload_n (x := r) rfl dX7_awake_9 ?_
  refine g_iconst (x := 0) rfl dX7_awake_10 ?_
  refine g_iadd dX7_awake_11 ?_
  refine g_iald sh_179 (by decide) (by omega) (by omega) (by decide) ag_179 dX7_awake_12 ?_
  rw [← q0]
  refine g_icmp_ge ⟨by omega, by omega⟩ ⟨by omega, by omega⟩ (t := 46) dX7_awake_13 (by decide) (fun h13 => ?_) (fun h13 => ?_)
  · refine g_iload_n (x := (zaw (fun k => wb r ι (14 + k)) i)) rfl dX7_awake_46 ?_
    exact i_iret rfl dX7_awake_47 (⟨by rw [show i = wb r ι 0 by omega], rfl⟩)
  · have hd := hD i h0 (by omega)
    have qd := wb_i r ι (i := 14 + i) (by omega) (by omega)
    refine g_iload_n (x := (zaw (fun k => wb r ι (14 + k)) i)) rfl dX7_awake_16 ?_
    refine g_aload_n (x := 178) rfl dX7_awake_17 ?_
    refine g_get fgX7_7 zcl_7 (congrArg Prod.fst sh_178) (by decide) rg_178_0 dX7_awake_18 ?_
    refine g_iload_n (x := r) rfl dX7_awake_21 ?_
    refine g_bipush (x := 14) (by decide) dX7_awake_22 ?_
    refine g_iadd dX7_awake_24 ?_
    refine g_iload_n (x := i) rfl dX7_awake_25 ?_
    refine g_iadd dX7_awake_26 ?_
    refine g_iald sh_179 (by decide) (by omega) (by omega) (by decide) ag_179 dX7_awake_27 ?_
    rw [show r + 14 + i = r + (14 + i) by omega, ← qd]
    refine g_if_ne hd (t := 37) dX7_awake_28 (by decide) (fun h28 => ?_) (fun h28 => ?_)
    · refine g_iconst (x := 0) rfl dX7_awake_37 ?_
      refine g_ior dX7_awake_38 ?_
      refine g_nm (fun x1 hx1 => ?_)
      refine g_istore_n (ls' := [some (zR 178), some (zI r), some (zI x1), some (zI i)]) dX7_awake_39 (by decide) rfl ?_
      refine g_iinc (x := i) (y := i + 1) (ls' := [some (zR 178), some (zI r), some (zI x1), some (zI (i + 1))]) dX7_awake_40 rfl (rfl) (by decide) rfl ?_
      refine g_goto (t := 4) dX7_awake_43 (by decide) ?_
      have hh := ih (by omega)
      rw [zaw_s _ h0, if_neg h28, ← hx1] at hh
      exact hh
    · refine g_iconst (x := 1) rfl dX7_awake_31 ?_
      refine g_iload_n (x := i) rfl dX7_awake_32 ?_
      refine g_ishl dX7_awake_33 ?_
      refine g_goto (t := 38) dX7_awake_34 (by decide) ?_
      refine g_ior dX7_awake_38 ?_
      refine g_nm (fun x1 hx1 => ?_)
      refine g_istore_n (ls' := [some (zR 178), some (zI r), some (zI x1), some (zI i)]) dX7_awake_39 (by decide) rfl ?_
      refine g_iinc (x := i) (y := i + 1) (ls' := [some (zR 178), some (zI r), some (zI x1), some (zI (i + 1))]) dX7_awake_40 rfl (rfl) (by decide) rfl ?_
      refine g_goto (t := 4) dX7_awake_43 (by decide) ?_
      have hh := ih (by omega)
      rw [zaw_s _ h0, if_pos h28, ← hx1] at hh
      exact hh

set_option maxRecDepth 100000 in
theorem c_mAwake {r : Int} (hr : 0 ≤ r ∧ r + 38 ≤ 1102) (hN : 0 ≤ wb r ι 0 ∧ wb r ι 0 ≤ 8) (hD : ∀ k, 0 ≤ k → k < wb r ι 0 → zB (wb r ι (14 + k))) : zCi l (zc D ad L z) mX7_awake 0 [zR 178, zI r] ι (zP (zI (zaw (fun k => wb r ι (14 + k)) (wb r ι 0))) ι) := by
  refine zCt_of (by decide) (Nat.le_of_ble_eq_true rfl) 2 rfl ?_
  refine g_iconst (x := 0) rfl dX7_awake_0 ?_
  refine g_istore_n (ls' := [some (zR 178), some (zI r), some (zI 0), none]) dX7_awake_1 (by decide) rfl ?_
  refine g_iconst (x := 0) rfl dX7_awake_2 ?_
  refine g_istore_n (ls' := [some (zR 178), some (zI r), some (zI 0), some (zI 0)]) dX7_awake_3 (by decide) rfl ?_
  exact lp_mAwake hr hN hD 0 (by omega) (by omega)

set_option maxRecDepth 100000 in
theorem lp_copyOf {f t : Int} (hf : 0 ≤ f ∧ f + 38 ≤ 1102) (ht : 0 ≤ t ∧ t + 38 ≤ 1102) (hd : f + 38 ≤ t ∨ t + 38 ≤ f) : ∀ i : Int, 0 ≤ i → i ≤ 38 → zGi l (zc D ad L z) mX7_copyOf 0 2 [some (zR 178), some (zI f), some (zI t), some (zI i)] [] (icpy ι 179 179 f t i) (fun v ι' => v = none ∧ ι' = wp t (wb f ι) ι) := by
  refine z_loopI (fun i h0 h1 ih => ?_)
  obtain ⟨ι1, hι1⟩ : ∃ y, y = icpy ι 179 179 f t i := ⟨_, rfl⟩
  rw [← hι1]
  refine g_iload_n (x := i) rfl dX7_copyOf_2 ?_
  refine g_bipush (x := 38) (by decide) dX7_copyOf_3 ?_
  refine g_icmp_ge ⟨by omega, by omega⟩ (by decide) (t := 30) dX7_copyOf_5 (by decide) (fun h5 => ?_) (fun h5 => ?_)
  · exact i_ret rfl dX7_copyOf_30 (⟨rfl, by rw [hι1, show i = 38 by omega, icpy_wp]⟩)
  · refine g_aload_n (x := 178) rfl dX7_copyOf_8 ?_
    refine g_get fgX7_7 zcl_7 (congrArg Prod.fst sh_178) (by decide) rg_178_0 dX7_copyOf_9 ?_
    refine g_iload_n (x := t) rfl dX7_copyOf_12 ?_
    refine g_iload_n (x := i) rfl dX7_copyOf_13 ?_
    refine g_iadd dX7_copyOf_14 ?_
    refine g_aload_n (x := 178) rfl dX7_copyOf_15 ?_
    refine g_get fgX7_7 zcl_7 (congrArg Prod.fst sh_178) (by decide) rg_178_0 dX7_copyOf_16 ?_
    refine g_iload_n (x := f) rfl dX7_copyOf_19 ?_
    refine g_iload_n (x := i) rfl dX7_copyOf_20 ?_
    refine g_iadd dX7_copyOf_21 ?_
    refine g_iald sh_179 (by decide) (by omega) (by omega) (by decide) ag_179 dX7_copyOf_22 ?_
    obtain ⟨ι2, hι2⟩ : ∃ y, y = iup ι1 179 (t + i) (ι1 179 (f + i)) := ⟨_, rfl⟩
    refine i_iast sh_179 (by decide) (by decide) (by omega) (by omega) (by decide) (ι1 := ι2) (by rw [hι2]; exact au_179) dX7_copyOf_23 ?_
    refine g_iinc (x := i) (y := i + 1) (ls' := [some (zR 178), some (zI f), some (zI t), some (zI (i + 1))]) dX7_copyOf_24 rfl (rfl) (by decide) rfl ?_
    refine g_goto (t := 2) dX7_copyOf_27 (by decide) ?_
    rw [hι2, hι1, icpy_s h0 (by omega)]
    exact ih (by omega)

set_option maxRecDepth 100000 in
theorem c_copyOf {f t : Int} (hf : 0 ≤ f ∧ f + 38 ≤ 1102) (ht : 0 ≤ t ∧ t + 38 ≤ 1102) (hd : f + 38 ≤ t ∨ t + 38 ≤ f) : zCi l (zc D ad L z) mX7_copyOf 0 [zR 178, zI f, zI t] ι (fun v ι' => v = none ∧ ι' = wp t (wb f ι) ι) := by
  refine zCt_of (by decide) (Nat.le_of_ble_eq_true rfl) 1 rfl ?_
  refine g_iconst (x := 0) rfl dX7_copyOf_0 ?_
  refine g_istore_n (ls' := [some (zR 178), some (zI f), some (zI t), some (zI 0)]) dX7_copyOf_1 (by decide) rfl ?_
  have hh := lp_copyOf (l := l) (D := D) (ad := ad) (L := L) (z := z) (ι := ι) hf ht hd 0 (by omega) (by omega)
  rw [icpy_0] at hh
  exact hh

end
