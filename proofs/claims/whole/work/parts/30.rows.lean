section
variable {l : Launch} {D : va_G} {ad : Nat → Nat} {L z : Nat} {ι : zi}
theorem sh_arr {b N : Nat} (hb : zSl.getD b (0, 0) = (1, N)) (h8 : 8 ≤ b) : zsh (zc D ad L z) b = (1, N) := by
  show zS L b = _
  rw [zS, if_neg (by omega)]
  exact hb
theorem zrow_sl {r : Int} (h0 : 0 ≤ r) (h1 : r < 8) : zSl.getD (11 + r.toNat) (0, 0) = (1, 40) := by
  have key : ∀ k, k < 8 → zSl.getD (11 + k) (0, 0) = (1, 40) := by decide +kernel
  exact key r.toNat (by omega)
def ifill (ι : zi) (b : Nat) (v N : Int) : zi := fun c y => if c = b ∧ 0 ≤ y ∧ y < N then v else ι c y
theorem ifill_0 (ι : zi) (b : Nat) (v : Int) : ifill ι b v 0 = ι := by
  funext c y
  unfold ifill
  rw [if_neg (by omega)]
theorem ifill_s (ι : zi) (b : Nat) (v : Int) {i : Int} (h : 0 ≤ i) : iup (ifill ι b v i) b i v = ifill ι b v (i + 1) := by
  funext c y
  unfold iup ifill
  (repeat' split) <;> first | rfl | (exfalso; omega)
theorem ifill_i (ι : zi) (b : Nat) {v N y : Int} (h0 : 0 ≤ y) (h1 : y < N) : ifill ι b v N b y = v := if_pos ⟨rfl, h0, h1⟩
theorem ifill_n (ι : zi) {b c : Nat} {v N y : Int} (h : c ≠ b ∨ y < 0 ∨ N ≤ y) : ifill ι b v N c y = ι c y := if_neg (by omega)
def zkp (lane v : Int) : Int := if lane = 0 then zi2b v else if lane = 1 then zi2s v else v
set_option maxRecDepth 100000 in
theorem lp_fill {b N : Nat} (hb : zSl.getD b (0, 0) = (1, N)) (h8 : 8 ≤ b) (hb2 : b < 188) (hN : N < 100000) {v : Int} : ∀ i : Int, 0 ≤ i → i ≤ (N : Int) → zGi l (zc D ad L z) mJ7_fill_53178 0 5 [some (zR b), some (zI v), some (zI i), some (zI (N : Int))] [] (ifill ι b v i) (fun r ι' => r = none ∧ ι' = ifill ι b v N) := by
  refine z_loopI (fun i h0 h1 ih => ?_)
  obtain ⟨ι1, hι1⟩ : ∃ y, y = ifill ι b v i := ⟨_, rfl⟩
  rw [← hι1]
  refine g_iload_n (x := i) rfl dJ7_fill_53178_5 ?_
  refine g_iload_n (x := (N : Int)) rfl dJ7_fill_53178_6 ?_
  refine g_icmp_ge ⟨by omega, by omega⟩ ⟨by omega, by omega⟩ (t := 20) dJ7_fill_53178_7 (by decide) (fun h7 => ?_) (fun h7 => ?_)
  · exact i_ret rfl dJ7_fill_53178_20 (⟨rfl, by rw [hι1, show i = (N : Int) by omega]⟩)
  · refine g_aload_n (x := b) rfl dJ7_fill_53178_10 ?_
    refine g_iload_n (x := i) rfl dJ7_fill_53178_11 ?_
    refine g_iload_n (x := v) rfl dJ7_fill_53178_12 ?_
    obtain ⟨ι2, hι2⟩ : ∃ y, y = iup ι1 b i v := ⟨_, rfl⟩
    refine i_iast (sh_arr hb h8) hb2 h8 (by omega) (by omega) (by omega) (ι1 := ι2) (by rw [hι2]; exact (zg_arr_up hb)) dJ7_fill_53178_13 ?_
    refine g_iinc (x := i) (y := i + 1) (ls' := [some (zR b), some (zI v), some (zI (i + 1)), some (zI (N : Int))]) dJ7_fill_53178_14 rfl (rfl) (by decide) rfl ?_
    refine g_goto (t := 5) dJ7_fill_53178_17 (by decide) ?_
    rw [hι2, hι1, ifill_s ι b v h0]
    exact ih (by omega)

set_option maxRecDepth 100000 in
theorem c_fill {b N : Nat} (hb : zSl.getD b (0, 0) = (1, N)) (h8 : 8 ≤ b) (hb2 : b < 188) (hN : N < 100000) {v : Int} : zCi l (zc D ad L z) mJ7_fill_53178 0 [zR b, zI v] ι (fun r ι' => r = none ∧ ι' = ifill ι b v N) := by
  refine zCt_of (by decide) (Nat.le_of_ble_eq_true rfl) 2 rfl ?_
  refine g_iconst (x := 0) rfl dJ7_fill_53178_0 ?_
  refine g_istore_n (ls' := [some (zR b), some (zI v), some (zI 0), none]) dJ7_fill_53178_1 (by decide) rfl ?_
  refine g_aload_n (x := b) rfl dJ7_fill_53178_2 ?_
  refine g_alen (sh_arr hb h8) (by decide) (by decide) hb2 dJ7_fill_53178_3 ?_
  refine g_istore_n (ls' := [some (zR b), some (zI v), some (zI 0), some (zI (N : Int))]) dJ7_fill_53178_4 (by decide) rfl ?_
  have hh := lp_fill (l := l) (D := D) (ad := ad) (L := L) (z := z) (ι := ι) (v := v) hb h8 hb2 hN 0 (by omega) (by omega)
  rw [ifill_0] at hh
  exact hh

set_option maxRecDepth 100000 in
theorem c_isRow {r : Int} (hr : zB r) : zCi l (zc D ad L z) mX3_isRow 0 [zI r] ι (zP (zI (if 0 ≤ r ∧ r < 8 then 1 else 0)) ι) := by
  refine zCt_of (by decide) (Nat.le_of_ble_eq_true rfl) 0 rfl ?_
  refine g_iload_n (x := r) rfl dX3_isRow_0 ?_
  refine g_if_lt ⟨by omega, by omega⟩ (t := 14) dX3_isRow_1 (by decide) (fun h1 => ?_) (fun h1 => ?_)
  · refine g_iconst (x := 0) rfl dX3_isRow_14 ?_
    exact i_zret rfl (by decide) dX3_isRow_15 (⟨(by (repeat' split) <;> first | rfl | (exfalso; omega) | (congr 2; omega)), rfl⟩)
  · refine g_iload_n (x := r) rfl dX3_isRow_4 ?_
    refine g_bipush (x := 8) (by decide) dX3_isRow_5 ?_
    refine g_icmp_ge ⟨by omega, by omega⟩ (by decide) (t := 14) dX3_isRow_7 (by decide) (fun h7 => ?_) (fun h7 => ?_)
    · refine g_iconst (x := 0) rfl dX3_isRow_14 ?_
      exact i_zret rfl (by decide) dX3_isRow_15 (⟨(by (repeat' split) <;> first | rfl | (exfalso; omega) | (congr 2; omega)), rfl⟩)
    · refine g_iconst (x := 1) rfl dX3_isRow_10 ?_
      refine g_goto (t := 15) dX3_isRow_11 (by decide) ?_
      exact i_zret rfl (by decide) dX3_isRow_15 (⟨(by (repeat' split) <;> first | rfl | (exfalso; omega) | (congr 2; omega)), rfl⟩)

set_option maxRecDepth 100000 in
theorem c_isMissing {r : Int} (h0 : 0 ≤ r) (h1 : r < 8) (hl : zB (ι 19 r)) : zCi l (zc D ad L z) mX3_isMissing 0 [zR 9, zI r] ι (zP (zI (if ι 19 r = -1 then 1 else 0)) ι) := by
  refine zCt_of (by decide) (Nat.le_of_ble_eq_true rfl) 0 rfl ?_
  refine g_aload_n (x := 9) rfl dX3_isMissing_0 ?_
  refine g_get fgX3_14 zcl_3 (congrArg Prod.fst sh_9) (by decide) rg_9_1 dX3_isMissing_1 ?_
  refine g_iload_n (x := r) rfl dX3_isMissing_4 ?_
  refine g_iald sh_19 (by decide) (by omega) (by omega) (by decide) ag_19 dX3_isMissing_5 ?_
  refine g_iconst (x := -1) rfl dX3_isMissing_6 ?_
  refine g_icmp_ne ⟨by omega, by omega⟩ (by decide) (t := 14) dX3_isMissing_7 (by decide) (fun h7 => ?_) (fun h7 => ?_)
  · refine g_iconst (x := 0) rfl dX3_isMissing_14 ?_
    exact i_zret rfl (by decide) dX3_isMissing_15 (⟨(by (repeat' split) <;> first | rfl | (exfalso; omega) | (congr 2; omega)), rfl⟩)
  · refine g_iconst (x := 1) rfl dX3_isMissing_10 ?_
    refine g_goto (t := 15) dX3_isMissing_11 (by decide) ?_
    exact i_zret rfl (by decide) dX3_isMissing_15 (⟨(by (repeat' split) <;> first | rfl | (exfalso; omega) | (congr 2; omega)), rfl⟩)

set_option maxRecDepth 100000 in
theorem c_holds {r : Int} (h0 : 0 ≤ r) (h1 : r < 8) {i n : Int} (hi : zB i) (hn : zB n) (hl : 0 ≤ ι 20 r ∧ ι 20 r ≤ 40) : zCi l (zc D ad L z) mX3_holds 0 [zR 9, zI r, zI i, zI n] ι (zP (zI (if 0 ≤ i ∧ 0 ≤ n ∧ i ≤ ι 20 r ∧ n ≤ ι 20 r - i then 1 else 0)) ι) := by
  refine zCt_of (by decide) (Nat.le_of_ble_eq_true rfl) 0 rfl ?_
  refine g_iload_n (x := i) rfl dX3_holds_0 ?_
  refine g_if_lt ⟨by omega, by omega⟩ (t := 34) dX3_holds_1 (by decide) (fun h1 => ?_) (fun h1 => ?_)
  · refine g_iconst (x := 0) rfl dX3_holds_34 ?_
    exact i_zret rfl (by decide) dX3_holds_35 (⟨(by (repeat' split) <;> first | rfl | (exfalso; omega) | (congr 2; omega)), rfl⟩)
  · refine g_iload_n (x := n) rfl dX3_holds_4 ?_
    refine g_if_lt ⟨by omega, by omega⟩ (t := 34) dX3_holds_5 (by decide) (fun h5 => ?_) (fun h5 => ?_)
    · refine g_iconst (x := 0) rfl dX3_holds_34 ?_
      exact i_zret rfl (by decide) dX3_holds_35 (⟨(by (repeat' split) <;> first | rfl | (exfalso; omega) | (congr 2; omega)), rfl⟩)
    · refine g_iload_n (x := i) rfl dX3_holds_8 ?_
      refine g_aload_n (x := 9) rfl dX3_holds_9 ?_
      refine g_get fgX3_18 zcl_3 (congrArg Prod.fst sh_9) (by decide) rg_9_2 dX3_holds_10 ?_
      refine g_iload_n (x := r) rfl dX3_holds_13 ?_
      refine g_iald sh_20 (by decide) (by omega) (by omega) (by decide) ag_20 dX3_holds_14 ?_
      refine g_icmp_gt ⟨by omega, by omega⟩ ⟨by omega, by omega⟩ (t := 34) dX3_holds_15 (by decide) (fun h15 => ?_) (fun h15 => ?_)
      · refine g_iconst (x := 0) rfl dX3_holds_34 ?_
        exact i_zret rfl (by decide) dX3_holds_35 (⟨(by (repeat' split) <;> first | rfl | (exfalso; omega) | (congr 2; omega)), rfl⟩)
      · refine g_iload_n (x := n) rfl dX3_holds_18 ?_
        refine g_aload_n (x := 9) rfl dX3_holds_19 ?_
        refine g_get fgX3_18 zcl_3 (congrArg Prod.fst sh_9) (by decide) rg_9_2 dX3_holds_20 ?_
        refine g_iload_n (x := r) rfl dX3_holds_23 ?_
        refine g_iald sh_20 (by decide) (by omega) (by omega) (by decide) ag_20 dX3_holds_24 ?_
        refine g_iload_n (x := i) rfl dX3_holds_25 ?_
        refine g_isub dX3_holds_26 ?_
        refine g_icmp_gt ⟨by omega, by omega⟩ ⟨by omega, by omega⟩ (t := 34) dX3_holds_27 (by decide) (fun h27 => ?_) (fun h27 => ?_)
        · refine g_iconst (x := 0) rfl dX3_holds_34 ?_
          exact i_zret rfl (by decide) dX3_holds_35 (⟨(by (repeat' split) <;> first | rfl | (exfalso; omega) | (congr 2; omega)), rfl⟩)
        · refine g_iconst (x := 1) rfl dX3_holds_30 ?_
          refine g_goto (t := 35) dX3_holds_31 (by decide) ?_
          exact i_zret rfl (by decide) dX3_holds_35 (⟨(by (repeat' split) <;> first | rfl | (exfalso; omega) | (congr 2; omega)), rfl⟩)

set_option maxRecDepth 100000 in
theorem c_lay {r : Int} (h0 : 0 ≤ r) (h1 : r < 8) {k n : Int} : zCi l (zc D ad L z) mX3_lay 1 [zR 9, zI r, zI k, zI n] ι (fun v ι' => v = none ∧ ι' = iup (iup (ifill ι (11 + r.toNat) 0 40) 19 r k) 20 r n) := by
  refine zCt_of (by decide) (Nat.le_of_ble_eq_true rfl) 0 rfl ?_
  refine g_aload_n (x := 9) rfl dX3_lay_0 ?_
  refine g_get fgX3_11 zcl_3 (congrArg Prod.fst sh_9) (by decide) rg_9_0 dX3_lay_1 ?_
  refine g_iload_n (x := r) rfl dX3_lay_4 ?_
  refine g_aald sh_10 (by decide) (by decide) (by omega) (by omega) (by decide) ag_10 dX3_lay_5 ?_
  refine g_iconst (x := 0) rfl dX3_lay_6 ?_
  refine i_callS msJ7_fill_53178 tw_34 (c_fill (zrow_sl h0 h1) (by omega) (by omega) (by decide)) (by decide) (st' := []) rfl (Nat.le_of_ble_eq_true rfl) rfl dX3_lay_7 (fun v_1 ι1 hq_7 => ?_)
  obtain ⟨rfl, hι1⟩ := hq_7
  refine g_aload_n (x := 9) rfl dX3_lay_10 ?_
  refine g_get fgX3_14 zcl_3 (congrArg Prod.fst sh_9) (by decide) rg_9_1 dX3_lay_11 ?_
  refine g_iload_n (x := r) rfl dX3_lay_14 ?_
  refine g_iload_n (x := k) rfl dX3_lay_15 ?_
  obtain ⟨ι2, hι2⟩ : ∃ y, y = iup ι1 19 r k := ⟨_, rfl⟩
  refine i_iast sh_19 (by decide) (by decide) (by omega) (by omega) (by decide) (ι1 := ι2) (by rw [hι2]; exact au_19) dX3_lay_16 ?_
  refine g_aload_n (x := 9) rfl dX3_lay_17 ?_
  refine g_get fgX3_18 zcl_3 (congrArg Prod.fst sh_9) (by decide) rg_9_2 dX3_lay_18 ?_
  refine g_iload_n (x := r) rfl dX3_lay_21 ?_
  refine g_iload_n (x := n) rfl dX3_lay_22 ?_
  obtain ⟨ι3, hι3⟩ : ∃ y, y = iup ι2 20 r n := ⟨_, rfl⟩
  refine i_iast sh_20 (by decide) (by decide) (by omega) (by omega) (by decide) (ι1 := ι3) (by rw [hι3]; exact au_20) dX3_lay_23 ?_
  exact i_ret rfl dX3_lay_24 (⟨rfl, by rw [hι3, hι2, hι1]; rfl⟩)

set_option maxRecDepth 100000 in
theorem c_put {r : Int} (h0 : 0 ≤ r) (h1 : r < 8) {i v : Int} (hi : 0 ≤ i ∧ i < 40) (hl : zB (ι 19 r)) : zCi l (zc D ad L z) mX3_put 0 [zR 9, zI r, zI i, zI v] ι (fun x ι' => x = some (zI (zkp (ι 19 r) v)) ∧ ι' = iup ι (11 + r.toNat) i (zkp (ι 19 r) v)) := by
  refine zCt_of (by decide) (Nat.le_of_ble_eq_true rfl) 1 rfl ?_
  refine g_aload_n (x := 9) rfl dX3_put_0 ?_
  refine g_get fgX3_14 zcl_3 (congrArg Prod.fst sh_9) (by decide) rg_9_1 dX3_put_1 ?_
  refine g_iload_n (x := r) rfl dX3_put_4 ?_
  refine g_iald sh_19 (by decide) (by omega) (by omega) (by decide) ag_19 dX3_put_5 ?_
  refine g_if_ne ⟨by omega, by omega⟩ (t := 14) dX3_put_6 (by decide) (fun h6 => ?_) (fun h6 => ?_)
  · refine g_aload_n (x := 9) rfl dX3_put_14 ?_
    refine g_get fgX3_14 zcl_3 (congrArg Prod.fst sh_9) (by decide) rg_9_1 dX3_put_15 ?_
    refine g_iload_n (x := r) rfl dX3_put_18 ?_
    refine g_iald sh_19 (by decide) (by omega) (by omega) (by decide) ag_19 dX3_put_19 ?_
    refine g_iconst (x := 1) rfl dX3_put_20 ?_
    refine g_icmp_ne ⟨by omega, by omega⟩ (by decide) (t := 29) dX3_put_21 (by decide) (fun h21 => ?_) (fun h21 => ?_)
    · refine g_iload_n (x := v) rfl dX3_put_29 ?_
      have ek : v = zkp (ι 19 r) v := by unfold zkp; (repeat' split) <;> first | rfl | (exfalso; omega)
      refine g_istore (ls' := [some (zR 9), some (zI r), some (zI i), some (zI v), some (zI v)]) dX3_put_30 (by decide) rfl ?_
      refine g_aload_n (x := 9) rfl dX3_put_32 ?_
      refine g_get fgX3_11 zcl_3 (congrArg Prod.fst sh_9) (by decide) rg_9_0 dX3_put_33 ?_
      refine g_iload_n (x := r) rfl dX3_put_36 ?_
      refine g_aald sh_10 (by decide) (by decide) (by omega) (by omega) (by decide) ag_10 dX3_put_37 ?_
      refine g_iload_n (x := i) rfl dX3_put_38 ?_
      refine g_iload (x := v) rfl dX3_put_39 ?_
      obtain ⟨ι1, hι1⟩ : ∃ y, y = iup ι (11 + r.toNat) i v := ⟨_, rfl⟩
      refine i_iast (sh_arr (zrow_sl h0 h1) (by omega)) (by omega) (by omega) (by omega) (by omega) (by decide) (ι1 := ι1) (by rw [hι1]; exact (zg_arr_up (zrow_sl h0 h1))) dX3_put_41 ?_
      refine g_iload (x := v) rfl dX3_put_42 ?_
      exact i_iret rfl dX3_put_44 (⟨by rw [← ek], by rw [hι1, ← ek]⟩)
    · refine g_iload_n (x := v) rfl dX3_put_24 ?_
      refine g_i2s dX3_put_25 ?_
      refine g_goto (t := 30) dX3_put_26 (by decide) ?_
      have ek : zi2s v = zkp (ι 19 r) v := by unfold zkp; (repeat' split) <;> first | rfl | (exfalso; omega)
      refine g_istore (ls' := [some (zR 9), some (zI r), some (zI i), some (zI v), some (zI (zi2s v))]) dX3_put_30 (by decide) rfl ?_
      refine g_aload_n (x := 9) rfl dX3_put_32 ?_
      refine g_get fgX3_11 zcl_3 (congrArg Prod.fst sh_9) (by decide) rg_9_0 dX3_put_33 ?_
      refine g_iload_n (x := r) rfl dX3_put_36 ?_
      refine g_aald sh_10 (by decide) (by decide) (by omega) (by omega) (by decide) ag_10 dX3_put_37 ?_
      refine g_iload_n (x := i) rfl dX3_put_38 ?_
      refine g_iload (x := (zi2s v)) rfl dX3_put_39 ?_
      obtain ⟨ι1, hι1⟩ : ∃ y, y = iup ι (11 + r.toNat) i (zi2s v) := ⟨_, rfl⟩
      refine i_iast (sh_arr (zrow_sl h0 h1) (by omega)) (by omega) (by omega) (by omega) (by omega) (by decide) (ι1 := ι1) (by rw [hι1]; exact (zg_arr_up (zrow_sl h0 h1))) dX3_put_41 ?_
      refine g_iload (x := (zi2s v)) rfl dX3_put_42 ?_
      exact i_iret rfl dX3_put_44 (⟨by rw [← ek], by rw [hι1, ← ek]⟩)
  · refine g_iload_n (x := v) rfl dX3_put_9 ?_
    refine g_i2b dX3_put_10 ?_
    refine g_goto (t := 30) dX3_put_11 (by decide) ?_
    have ek : zi2b v = zkp (ι 19 r) v := by unfold zkp; (repeat' split) <;> first | rfl | (exfalso; omega)
    refine g_istore (ls' := [some (zR 9), some (zI r), some (zI i), some (zI v), some (zI (zi2b v))]) dX3_put_30 (by decide) rfl ?_
    refine g_aload_n (x := 9) rfl dX3_put_32 ?_
    refine g_get fgX3_11 zcl_3 (congrArg Prod.fst sh_9) (by decide) rg_9_0 dX3_put_33 ?_
    refine g_iload_n (x := r) rfl dX3_put_36 ?_
    refine g_aald sh_10 (by decide) (by decide) (by omega) (by omega) (by decide) ag_10 dX3_put_37 ?_
    refine g_iload_n (x := i) rfl dX3_put_38 ?_
    refine g_iload (x := (zi2b v)) rfl dX3_put_39 ?_
    obtain ⟨ι1, hι1⟩ : ∃ y, y = iup ι (11 + r.toNat) i (zi2b v) := ⟨_, rfl⟩
    refine i_iast (sh_arr (zrow_sl h0 h1) (by omega)) (by omega) (by omega) (by omega) (by omega) (by decide) (ι1 := ι1) (by rw [hι1]; exact (zg_arr_up (zrow_sl h0 h1))) dX3_put_41 ?_
    refine g_iload (x := (zi2b v)) rfl dX3_put_42 ?_
    exact i_iret rfl dX3_put_44 (⟨by rw [← ek], by rw [hι1, ← ek]⟩)

set_option maxRecDepth 100000 in
theorem c_takeAway {r : Int} (h0 : 0 ≤ r) (h1 : r < 8) : zCi l (zc D ad L z) mX3_takeAway 0 [zR 9, zI r] ι (fun x ι' => x = some (zI (ι 20 r)) ∧ ι' = iup (iup ι 19 r (-1)) 20 r 0) := by
  refine zCt_of (by decide) (Nat.le_of_ble_eq_true rfl) 1 rfl ?_
  refine g_aload_n (x := 9) rfl dX3_takeAway_0 ?_
  refine g_get fgX3_18 zcl_3 (congrArg Prod.fst sh_9) (by decide) rg_9_2 dX3_takeAway_1 ?_
  refine g_iload_n (x := r) rfl dX3_takeAway_4 ?_
  refine g_iald sh_20 (by decide) (by omega) (by omega) (by decide) ag_20 dX3_takeAway_5 ?_
  refine g_istore_n (ls' := [some (zR 9), some (zI r), some (zI (ι 20 r))]) dX3_takeAway_6 (by decide) rfl ?_
  refine g_aload_n (x := 9) rfl dX3_takeAway_7 ?_
  refine g_get fgX3_14 zcl_3 (congrArg Prod.fst sh_9) (by decide) rg_9_1 dX3_takeAway_8 ?_
  refine g_iload_n (x := r) rfl dX3_takeAway_11 ?_
  refine g_iconst (x := -1) rfl dX3_takeAway_12 ?_
  obtain ⟨ι1, hι1⟩ : ∃ y, y = iup ι 19 r (-1) := ⟨_, rfl⟩
  refine i_iast sh_19 (by decide) (by decide) (by omega) (by omega) (by decide) (ι1 := ι1) (by rw [hι1]; exact au_19) dX3_takeAway_13 ?_
  refine g_aload_n (x := 9) rfl dX3_takeAway_14 ?_
  refine g_get fgX3_18 zcl_3 (congrArg Prod.fst sh_9) (by decide) rg_9_2 dX3_takeAway_15 ?_
  refine g_iload_n (x := r) rfl dX3_takeAway_18 ?_
  refine g_iconst (x := 0) rfl dX3_takeAway_19 ?_
  obtain ⟨ι2, hι2⟩ : ∃ y, y = iup ι1 20 r 0 := ⟨_, rfl⟩
  refine i_iast sh_20 (by decide) (by decide) (by omega) (by omega) (by decide) (ι1 := ι2) (by rw [hι2]; exact au_20) dX3_takeAway_20 ?_
  refine g_iload_n (x := (ι 20 r)) rfl dX3_takeAway_21 ?_
  exact i_iret rfl dX3_takeAway_22 (⟨rfl, by rw [hι2, hι1]⟩)

set_option maxRecDepth 100000 in
theorem lp_howMany (hl : ∀ k, 0 ≤ k → k < 8 → zB (ι 19 k)) : ∀ i : Int, 0 ≤ i → i ≤ 8 → zGi l (zc D ad L z) mX3_howMany 1 4 [some (zR 9), some (zI (zsum (fun k => if ι 19 k = -1 then (0 : Int) else 1) i)), some (zI i)] [] ι (zP (zI (zsum (fun k => if ι 19 k = -1 then (0 : Int) else 1) 8)) ι) := by
  refine z_loopI (fun i h0 h1 ih => ?_)
  refine g_iload_n (x := i) rfl dX3_howMany_4 ?_
  refine g_bipush (x := 8) (by decide) dX3_howMany_5 ?_
  refine g_icmp_ge ⟨by omega, by omega⟩ (by decide) (t := 32) dX3_howMany_7 (by decide) (fun h7 => ?_) (fun h7 => ?_)
  · refine g_iload_n (x := (zsum (fun k => if ι 19 k = -1 then (0 : Int) else 1) i)) rfl dX3_howMany_32 ?_
    exact i_iret rfl dX3_howMany_33 (⟨by rw [show i = 8 by omega], rfl⟩)
  · refine g_iload_n (x := (zsum (fun k => if ι 19 k = -1 then (0 : Int) else 1) i)) rfl dX3_howMany_10 ?_
    refine g_aload_n (x := 9) rfl dX3_howMany_11 ?_
    refine g_iload_n (x := i) rfl dX3_howMany_12 ?_
    refine i_callVp mvX3_isMissing tw_804 (ci := 3) (congrArg Prod.fst sh_9) rfl (by decide) (c_isMissing h0 (by omega) (hl i h0 (by omega))) (by decide) (st' := [zI (zsum (fun k => if ι 19 k = -1 then (0 : Int) else 1) i)]) rfl (Nat.le_of_ble_eq_true rfl) rfl dX3_howMany_13 ?_
    have hbm : zB (if ι 19 i = -1 then (1 : Int) else 0) := by split <;> decide
    refine g_if_eq hbm (t := 23) dX3_howMany_16 (by decide) (fun h16 => ?_) (fun h16 => ?_)
    · refine g_iconst (x := 1) rfl dX3_howMany_23 ?_
      refine g_iadd dX3_howMany_24 ?_
      refine g_nm (fun x1 hx1 => ?_)
      refine g_istore_n (ls' := [some (zR 9), some (zI x1), some (zI i)]) dX3_howMany_25 (by decide) rfl ?_
      refine g_iinc (x := i) (y := i + 1) (ls' := [some (zR 9), some (zI x1), some (zI (i + 1))]) dX3_howMany_26 rfl (rfl) (by decide) rfl ?_
      refine g_goto (t := 4) dX3_howMany_29 (by decide) ?_
      have hh := ih (by omega)
      have e1 : zsum (fun k => if ι 19 k = -1 then (0 : Int) else 1) (i + 1) = x1 := by
        rw [zsum_s _ h0, hx1]
        by_cases q : ι 19 i = -1
        · rw [if_pos q] at h16 ⊢
          try omega
        · rw [if_neg q] at h16 ⊢
          try omega
      rw [e1] at hh
      exact hh
    · refine g_iconst (x := 0) rfl dX3_howMany_19 ?_
      refine g_goto (t := 24) dX3_howMany_20 (by decide) ?_
      refine g_iadd dX3_howMany_24 ?_
      refine g_nm (fun x1 hx1 => ?_)
      refine g_istore_n (ls' := [some (zR 9), some (zI x1), some (zI i)]) dX3_howMany_25 (by decide) rfl ?_
      refine g_iinc (x := i) (y := i + 1) (ls' := [some (zR 9), some (zI x1), some (zI (i + 1))]) dX3_howMany_26 rfl (rfl) (by decide) rfl ?_
      refine g_goto (t := 4) dX3_howMany_29 (by decide) ?_
      have hh := ih (by omega)
      have e1 : zsum (fun k => if ι 19 k = -1 then (0 : Int) else 1) (i + 1) = x1 := by
        rw [zsum_s _ h0, hx1]
        by_cases q : ι 19 i = -1
        · rw [if_pos q] at h16 ⊢
          try omega
        · rw [if_neg q] at h16 ⊢
          try omega
      rw [e1] at hh
      exact hh

set_option maxRecDepth 100000 in
theorem c_howMany (hl : ∀ k, 0 ≤ k → k < 8 → zB (ι 19 k)) : zCi l (zc D ad L z) mX3_howMany 1 [zR 9] ι (zP (zI (zsum (fun k => if ι 19 k = -1 then (0 : Int) else 1) 8)) ι) := by
  refine zCt_of (by decide) (Nat.le_of_ble_eq_true rfl) 2 rfl ?_
  refine g_iconst (x := 0) rfl dX3_howMany_0 ?_
  refine g_istore_n (ls' := [some (zR 9), some (zI 0), none]) dX3_howMany_1 (by decide) rfl ?_
  refine g_iconst (x := 0) rfl dX3_howMany_2 ?_
  refine g_istore_n (ls' := [some (zR 9), some (zI 0), some (zI 0)]) dX3_howMany_3 (by decide) rfl ?_
  exact lp_howMany hl 0 (by omega) (by omega)

theorem zTw_ring {x : Int} (h0 : 0 ≤ x) (h1 : x < 24) : zTw (45 + 5 * x.toNat) := Or.inr (Or.inr (Or.inr (Or.inr (Or.inr ⟨x.toNat, by omega, rfl⟩))))
set_option maxRecDepth 100000 in
theorem c_keep (hn : 0 ≤ ι 43 1 ∧ ι 43 1 < 24) (hk : 0 ≤ ι 43 2 ∧ ι 43 2 ≤ 24) : zCi l (zc D ad L z) mX0_keep 2 [zR 43, zR 23] ι (fun v ι' => v = none ∧ ι' = iup (iup (tp (45 + 5 * (ι 43 1).toNat) (tb 23 ι) ι) 43 1 ((ι 43 1 + 1) % 24)) 43 2 (zmin (ι 43 2 + 1) 24)) := by
  refine zCt_of (by decide) (Nat.le_of_ble_eq_true rfl) 0 rfl ?_
  refine g_aload_n (x := 43) rfl dX0_keep_0 ?_
  refine g_get fgX0_11 zcl_0 (congrArg Prod.fst sh_43) (by decide) rg_43_0 dX0_keep_1 ?_
  refine g_aload_n (x := 43) rfl dX0_keep_4 ?_
  refine g_get fgX0_16 zcl_0 (congrArg Prod.fst sh_43) (by decide) ig_43_1 dX0_keep_5 ?_
  have hr := zTw_ring hn.1 hn.2
  refine g_aald sh_44 (by decide) (by decide) (by omega) (by omega) (by decide) ag_44 dX0_keep_8 ?_
  refine g_aload_n (x := 23) rfl dX0_keep_9 ?_
  refine i_callV mvX5_become tw_470 (ci := 5) (congrArg Prod.fst hr.s0) rfl (by have := hr.hi; omega) (c_become hr tt_23 (by omega)) (by decide) (st' := []) rfl (Nat.le_of_ble_eq_true rfl) rfl dX0_keep_10 (fun v_1 ι1 hq_10 => ?_)
  obtain ⟨rfl, hι1⟩ := hq_10
  have e1 : ι1 43 1 = ι 43 1 := by rw [hι1, tp_o _ _ _ (by omega)]
  have e2 : ι1 43 2 = ι 43 2 := by rw [hι1, tp_o _ _ _ (by omega)]
  refine g_aload_n (x := 43) rfl dX0_keep_13 ?_
  refine g_aload_n (x := 43) rfl dX0_keep_14 ?_
  refine g_get fgX0_16 zcl_0 (congrArg Prod.fst sh_43) (by decide) ig_43_1 dX0_keep_15 ?_
  refine g_iconst (x := 1) rfl dX0_keep_18 ?_
  refine g_iadd dX0_keep_19 ?_
  refine g_bipush (x := 24) (by decide) dX0_keep_20 ?_
  rw [e1]
  refine g_irem (by omega) (by omega) (by omega) (by omega) dX0_keep_22 ?_
  obtain ⟨ι2, hι2⟩ : ∃ y, y = iup ι1 43 1 (((ι 43 1) + 1) % 24) := ⟨_, rfl⟩
  refine i_put fwX0_16 zcl_0 (congrArg Prod.fst sh_43) (by decide) (by decide) (ι1 := ι2) (by rw [hι2]; exact iu_43_1) dX0_keep_23 ?_
  refine g_aload_n (x := 43) rfl dX0_keep_26 ?_
  refine g_aload_n (x := 43) rfl dX0_keep_27 ?_
  refine g_get fgX0_24 zcl_0 (congrArg Prod.fst sh_43) (by decide) ig_43_2 dX0_keep_28 ?_
  refine g_iconst (x := 1) rfl dX0_keep_31 ?_
  refine g_iadd dX0_keep_32 ?_
  refine g_bipush (x := 24) (by decide) dX0_keep_33 ?_
  have e3 : ι2 43 2 = ι 43 2 := by rw [hι2, iup_n _ (Or.inr (by decide)), e2]
  rw [e3]
  refine g_mmin ⟨by omega, by omega⟩ (by decide) (by decide) (Nat.le_of_ble_eq_true rfl) tw_471 mq_min2 mq_min3 mq_min4 dX0_keep_35 ?_
  obtain ⟨ι3, hι3⟩ : ∃ y, y = iup ι2 43 2 (zmin ((ι 43 2) + 1) 24) := ⟨_, rfl⟩
  refine i_put fwX0_24 zcl_0 (congrArg Prod.fst sh_43) (by decide) (by decide) (ι1 := ι3) (by rw [hι3]; exact iu_43_2) dX0_keep_38 ?_
  exact i_ret rfl dX0_keep_41 (⟨rfl, by rw [hι3, hι2, hι1]⟩)

set_option maxRecDepth 100000 in
theorem c_takeBack (hn : 0 ≤ ι 43 1 ∧ ι 43 1 < 24) (hk : 0 ≤ ι 43 2 ∧ ι 43 2 ≤ 24) : zCi l (zc D ad L z) mX0_takeBack 2 [zR 43, zR 23] ι (fun v ι' => v = some (zI (if ι 43 2 = 0 then 0 else 1)) ∧ ι' = if ι 43 2 = 0 then ι else tp 23 (tb (45 + 5 * ((ι 43 1 + 24 - 1) % 24).toNat) ι) (iup (iup ι 43 1 ((ι 43 1 + 24 - 1) % 24)) 43 2 (ι 43 2 - 1))) := by
  refine zCt_of (by decide) (Nat.le_of_ble_eq_true rfl) 0 rfl ?_
  refine g_aload_n (x := 43) rfl dX0_takeBack_0 ?_
  refine g_get fgX0_24 zcl_0 (congrArg Prod.fst sh_43) (by decide) ig_43_2 dX0_takeBack_1 ?_
  refine g_if_ne ⟨by omega, by omega⟩ (t := 9) dX0_takeBack_4 (by decide) (fun h4 => ?_) (fun h4 => ?_)
  · refine g_aload_n (x := 43) rfl dX0_takeBack_9 ?_
    refine g_aload_n (x := 43) rfl dX0_takeBack_10 ?_
    refine g_get fgX0_16 zcl_0 (congrArg Prod.fst sh_43) (by decide) ig_43_1 dX0_takeBack_11 ?_
    refine g_bipush (x := 24) (by decide) dX0_takeBack_14 ?_
    refine g_iadd dX0_takeBack_16 ?_
    refine g_iconst (x := 1) rfl dX0_takeBack_17 ?_
    refine g_isub dX0_takeBack_18 ?_
    refine g_bipush (x := 24) (by decide) dX0_takeBack_19 ?_
    refine g_irem (by omega) (by omega) (by omega) (by omega) dX0_takeBack_21 ?_
    obtain ⟨ι1, hι1⟩ : ∃ y, y = iup ι 43 1 ((((ι 43 1) + 24) - 1) % 24) := ⟨_, rfl⟩
    refine i_put fwX0_16 zcl_0 (congrArg Prod.fst sh_43) (by decide) (by decide) (ι1 := ι1) (by rw [hι1]; exact iu_43_1) dX0_takeBack_22 ?_
    refine g_aload_n (x := 43) rfl dX0_takeBack_25 ?_
    refine g_dupR dX0_takeBack_26 ?_
    refine g_get fgX0_24 zcl_0 (congrArg Prod.fst sh_43) (by decide) ig_43_2 dX0_takeBack_27 ?_
    refine g_iconst (x := 1) rfl dX0_takeBack_30 ?_
    refine g_isub dX0_takeBack_31 ?_
    have e2 : ι1 43 2 = ι 43 2 := by rw [hι1, iup_n _ (Or.inr (by decide))]
    rw [e2]
    obtain ⟨ι2, hι2⟩ : ∃ y, y = iup ι1 43 2 ((ι 43 2) - 1) := ⟨_, rfl⟩
    refine i_put fwX0_24 zcl_0 (congrArg Prod.fst sh_43) (by decide) (by decide) (ι1 := ι2) (by rw [hι2]; exact iu_43_2) dX0_takeBack_32 ?_
    refine g_aload_n (x := 23) rfl dX0_takeBack_35 ?_
    refine g_aload_n (x := 43) rfl dX0_takeBack_36 ?_
    refine g_get fgX0_11 zcl_0 (congrArg Prod.fst sh_43) (by decide) rg_43_0 dX0_takeBack_37 ?_
    refine g_aload_n (x := 43) rfl dX0_takeBack_40 ?_
    refine g_get fgX0_16 zcl_0 (congrArg Prod.fst sh_43) (by decide) ig_43_1 dX0_takeBack_41 ?_
    have e1 : ι2 43 1 = (ι 43 1 + 24 - 1) % 24 := by rw [hι2, iup_n _ (Or.inr (by decide)), hι1, iup_s]
    rw [e1]
    have hr := zTw_ring (x := (ι 43 1 + 24 - 1) % 24) (by omega) (by omega)
    refine g_aald sh_44 (by decide) (by decide) (by omega) (by omega) (by decide) ag_44 dX0_takeBack_44 ?_
    refine i_callV mvX5_become tw_470 (ci := 5) (congrArg Prod.fst sh_23) rfl (by decide) (c_become tt_23 hr (by omega)) (by decide) (st' := []) rfl (Nat.le_of_ble_eq_true rfl) rfl dX0_takeBack_45 (fun v_1 ι3 hq_45 => ?_)
    obtain ⟨rfl, hι3⟩ := hq_45
    have etb : tb (45 + 5 * ((ι 43 1 + 24 - 1) % 24).toNat) ι2 = tb (45 + 5 * ((ι 43 1 + 24 - 1) % 24).toNat) ι := by
      funext j
      unfold tb
      rw [hι2, hι1]
      simp (disch := omega) only [iup_n]
    refine g_iconst (x := 1) rfl dX0_takeBack_48 ?_
    exact i_zret rfl (by decide) dX0_takeBack_49 (⟨by rw [if_neg h4], by rw [if_neg h4, hι3, etb, hι2, hι1]⟩)
  · refine g_iconst (x := 0) rfl dX0_takeBack_7 ?_
    exact i_zret rfl (by decide) dX0_takeBack_8 (⟨by rw [if_pos h4], by rw [if_pos h4]⟩)

set_option maxRecDepth 100000 in
theorem c_forget  : zCi l (zc D ad L z) mX0_forget 0 [zR 43] ι (fun v ι' => v = none ∧ ι' = iup ι 43 2 0) := by
  refine zCt_of (by decide) (Nat.le_of_ble_eq_true rfl) 0 rfl ?_
  refine g_aload_n (x := 43) rfl dX0_forget_0 ?_
  refine g_iconst (x := 0) rfl dX0_forget_1 ?_
  obtain ⟨ι1, hι1⟩ : ∃ y, y = iup ι 43 2 0 := ⟨_, rfl⟩
  refine i_put fwX0_24 zcl_0 (congrArg Prod.fst sh_43) (by decide) (by decide) (ι1 := ι1) (by rw [hι1]; exact iu_43_2) dX0_forget_2 ?_
  exact i_ret rfl dX0_forget_5 (⟨rfl, hι1⟩)

end
