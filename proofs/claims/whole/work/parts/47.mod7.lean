section
variable {l : Launch} {D : va_G} {ad : Nat → Nat} {L z : Nat} {ι : zi}
def ifl (ι : zi) (b : Nat) (x n : Int) : zi := fun c y => if c = b ∧ x ≤ y ∧ y < x + n then 0 else ι c y
theorem ifl_0 (ι : zi) (b : Nat) (x : Int) : ifl ι b x 0 = ι := by
  funext c y
  unfold ifl
  rw [if_neg (by omega)]
theorem ifl_s (ι : zi) (b : Nat) (x : Int) {i : Int} (h : 0 ≤ i) : iup (ifl ι b x i) b (x + i) 0 = ifl ι b x (i + 1) := by
  funext c y
  simp only [ifl, iup]
  (repeat' split) <;> first | rfl | (exfalso; omega)
set_option maxRecDepth 100000 in
theorem lp_mRow {r k n : Int} (hr : 0 ≤ r ∧ r ≤ 7) {ι0 : zi} : ∀ i : Int, 0 ≤ i → i ≤ 40 → zGi l (zc D ad L z) mX7_row 2 60 [some (zR 178), some (zI r), some (zI k), some (zI n), some (zI i)] [] (ifl ι0 183 (40 * r) i) (fun v ι' => v = some (zI n) ∧ ι' = ifl ι0 183 (40 * r) 40) := by
  refine z_loopI (fun i h0 h1 ih => ?_)
  obtain ⟨ι1, hι1⟩ : ∃ y, y = ifl ι0 183 (40 * r) i := ⟨_, rfl⟩
  rw [← hι1]
  refine g_iload (x := i) rfl dX7_row_60 ?_
  refine g_bipush (x := 40) (by decide) dX7_row_62 ?_
  refine g_icmp_ge ⟨by omega, by omega⟩ (by decide) (t := 86) dX7_row_64 (by decide) (fun h64 => ?_) (fun h64 => ?_)
  · refine g_iload_n (x := n) rfl dX7_row_86 ?_
    exact i_iret rfl dX7_row_87 (⟨rfl, by rw [hι1, show i = 40 by omega]⟩)
  · refine g_aload_n (x := 178) rfl dX7_row_67 ?_
    refine g_get fgX7_22 zcl_7 (congrArg Prod.fst sh_178) (by decide) rg_178_8 dX7_row_68 ?_
    refine g_bipush (x := 40) (by decide) dX7_row_71 ?_
    refine g_iload_n (x := r) rfl dX7_row_73 ?_
    refine g_imul dX7_row_74 ?_
    refine g_iload (x := i) rfl dX7_row_75 ?_
    refine g_iadd dX7_row_77 ?_
    refine g_iconst (x := 0) rfl dX7_row_78 ?_
    obtain ⟨ι2, hι2⟩ : ∃ y, y = iup ι1 183 ((40 * r) + i) 0 := ⟨_, rfl⟩
    refine i_iast sh_183 (by decide) (by decide) (by omega) (by omega) (by decide) (ι1 := ι2) (by rw [hι2]; exact au_183) dX7_row_79 ?_
    refine g_iinc (x := i) (y := i + 1) (ls' := [some (zR 178), some (zI r), some (zI k), some (zI n), some (zI (i + 1))]) dX7_row_80 rfl (rfl) (by decide) rfl ?_
    refine g_goto (t := 60) dX7_row_83 (by decide) ?_
    rw [hι2, hι1, ifl_s _ _ _ h0]
    exact ih (by omega)

set_option maxRecDepth 100000 in
theorem c_mRow {r k n : Int} (hr : zB r) (hk : zB k) (hn : zB n) : zCi l (zc D ad L z) mX7_row 2 [zR 178, zI r, zI k, zI n] ι (fun v ι' => v = some (zI (if ¬ ((0 ≤ r ∧ r ≤ 7) ∧ (0 ≤ k ∧ k ≤ 2) ∧ n ≤ 40) then -1000001 else if n < 0 then -1000014 else n)) ∧ ι' = if ¬ ((0 ≤ r ∧ r ≤ 7) ∧ (0 ≤ k ∧ k ≤ 2) ∧ n ≤ 40) then ι else if n < 0 then iup ι 178 5 4 else ifl (iup (iup (iup ι 178 5 0) 181 r n) 182 r k) 183 (40 * r) 40) := by
  refine zCt_of (by decide) (Nat.le_of_ble_eq_true rfl) 1 rfl ?_
  refine g_iload_n (x := r) rfl dX7_row_0 ?_
  refine i_callSp msX7_isRow tw_872 (c_mIsRow ⟨by omega, by omega⟩) (by decide) (st' := []) rfl (Nat.le_of_ble_eq_true rfl) rfl dX7_row_1 ?_
  refine g_nm (fun b1 hq0 => ?_)
  have hb1 : ((0 ≤ r ∧ r ≤ 7) ∧ b1 = 1) ∨ (¬ (0 ≤ r ∧ r ≤ 7) ∧ b1 = 0) := zb_c hq0
  clear hq0
  refine g_if_eq ⟨by omega, by omega⟩ (t := 25) dX7_row_4 (by decide) (fun h4 => ?_) (fun h4 => ?_)
  · refine g_ldc (x := -1000001) tw_880 (by decide) dX7_row_25 ?_
    exact i_iret rfl dX7_row_27 (⟨by rw [if_pos (by omega)], by rw [if_pos (by omega)]⟩)
  · refine g_iload_n (x := k) rfl dX7_row_7 ?_
    refine g_i2l ⟨by omega, by omega⟩ dX7_row_8 ?_
    refine g_lconst (x := 0) (by decide) dX7_row_9 ?_
    refine g_ldc2 (x := 2) tw_879 (by decide) dX7_row_10 ?_
    refine i_callSp msX7_in tw_876 (c_in ⟨by omega, by omega⟩ ⟨by omega, by omega⟩ ⟨by omega, by omega⟩) (by decide) (st' := []) rfl (Nat.le_of_ble_eq_true rfl) rfl dX7_row_13 ?_
    refine g_nm (fun b13 hq0 => ?_)
    have hb13 : ((0 ≤ k ∧ k ≤ 2) ∧ b13 = 1) ∨ (¬ (0 ≤ k ∧ k ≤ 2) ∧ b13 = 0) := zb_c hq0
    clear hq0
    refine g_if_eq ⟨by omega, by omega⟩ (t := 25) dX7_row_16 (by decide) (fun h16 => ?_) (fun h16 => ?_)
    · refine g_ldc (x := -1000001) tw_880 (by decide) dX7_row_25 ?_
      exact i_iret rfl dX7_row_27 (⟨by rw [if_pos (by omega)], by rw [if_pos (by omega)]⟩)
    · refine g_iload_n (x := n) rfl dX7_row_19 ?_
      refine g_bipush (x := 40) (by decide) dX7_row_20 ?_
      refine g_icmp_le ⟨by omega, by omega⟩ (by decide) (t := 28) dX7_row_22 (by decide) (fun h22 => ?_) (fun h22 => ?_)
      · refine g_iload_n (x := n) rfl dX7_row_28 ?_
        refine g_if_ge ⟨by omega, by omega⟩ (t := 38) dX7_row_29 (by decide) (fun h29 => ?_) (fun h29 => ?_)
        · refine g_aload_n (x := 178) rfl dX7_row_38 ?_
          refine g_iconst (x := 0) rfl dX7_row_39 ?_
          obtain ⟨ι1, hι1⟩ : ∃ y, y = iup ι 178 5 0 := ⟨_, rfl⟩
          refine i_put fwX7_44 zcl_7 (congrArg Prod.fst sh_178) (by decide) (by decide) (ι1 := ι1) (by rw [hι1]; exact iu_178_5) dX7_row_40 ?_
          refine g_aload_n (x := 178) rfl dX7_row_43 ?_
          refine g_get fgX7_16 zcl_7 (congrArg Prod.fst sh_178) (by decide) rg_178_6 dX7_row_44 ?_
          refine g_iload_n (x := r) rfl dX7_row_47 ?_
          refine g_iload_n (x := n) rfl dX7_row_48 ?_
          obtain ⟨ι2, hι2⟩ : ∃ y, y = iup ι1 181 r n := ⟨_, rfl⟩
          refine i_iast sh_181 (by decide) (by decide) (by omega) (by omega) (by decide) (ι1 := ι2) (by rw [hι2]; exact au_181) dX7_row_49 ?_
          refine g_aload_n (x := 178) rfl dX7_row_50 ?_
          refine g_get fgX7_19 zcl_7 (congrArg Prod.fst sh_178) (by decide) rg_178_7 dX7_row_51 ?_
          refine g_iload_n (x := r) rfl dX7_row_54 ?_
          refine g_iload_n (x := k) rfl dX7_row_55 ?_
          obtain ⟨ι3, hι3⟩ : ∃ y, y = iup ι2 182 r k := ⟨_, rfl⟩
          refine i_iast sh_182 (by decide) (by decide) (by omega) (by omega) (by decide) (ι1 := ι3) (by rw [hι3]; exact au_182) dX7_row_56 ?_
          refine g_iconst (x := 0) rfl dX7_row_57 ?_
          refine g_istore (ls' := [some (zR 178), some (zI r), some (zI k), some (zI n), some (zI 0)]) dX7_row_58 (by decide) rfl ?_
          have e : (fun (v : Option zV) (ι' : zi) => v = some (zI (if ¬ ((0 ≤ r ∧ r ≤ 7) ∧ (0 ≤ k ∧ k ≤ 2) ∧ n ≤ 40) then -1000001 else if n < 0 then -1000014 else n)) ∧ ι' = if ¬ ((0 ≤ r ∧ r ≤ 7) ∧ (0 ≤ k ∧ k ≤ 2) ∧ n ≤ 40) then ι else if n < 0 then iup ι 178 5 4 else ifl (iup (iup (iup ι 178 5 0) 181 r n) 182 r k) 183 (40 * r) 40) = (fun v ι' => v = some (zI n) ∧ ι' = ifl ι3 183 (40 * r) 40) := by
            rw [if_neg (by omega), if_neg (by omega)]
            funext v y
            rw [if_neg (by omega), if_neg (by omega), hι3, hι2, hι1]
          have hh := lp_mRow (l := l) (D := D) (ad := ad) (L := L) (z := z) (k := k) (n := n) (r := r) (by omega) (ι0 := ι3) 0 (by omega) (by omega)
          rw [ifl_0] at hh
          rw [e]
          exact hh
        · refine g_aload_n (x := 178) rfl dX7_row_32 ?_
          refine g_iconst (x := 4) rfl dX7_row_33 ?_
          refine i_callV mvX7_finds tw_881 (ci := 7) (congrArg Prod.fst sh_178) rfl (by decide) (c_finds) (by decide) (st' := []) rfl (Nat.le_of_ble_eq_true rfl) rfl dX7_row_34 (fun v_1 ι9 hq_34 => ?_)
          obtain ⟨rfl, hι9⟩ := hq_34
          exact i_iret rfl dX7_row_37 (⟨by rw [if_neg (by omega), if_pos (by omega)]; rfl, by rw [if_neg (by omega), if_pos (by omega), hι9]⟩)
      · refine g_ldc (x := -1000001) tw_880 (by decide) dX7_row_25 ?_
        exact i_iret rfl dX7_row_27 (⟨by rw [if_pos (by omega)], by rw [if_pos (by omega)]⟩)

def zag (m i n : Int) : Int := if m < 0 then 1 else if i < 0 ∨ n < 0 ∨ m < i + n then 2 else 0
theorem zag_b (m i n : Int) : 0 ≤ zag m i n ∧ zag m i n ≤ 2 := by unfold zag; (repeat' split) <;> omega
theorem c_ag {r i n : Int} (h0 : 0 ≤ r) (h1 : r < 8) (hi : zB i) (hn : zB n) (hm : -1 ≤ ι 181 r ∧ ι 181 r ≤ 40) : zCi l (zc D ad L z) mX7_against 0 [zR 178, zI r, zI i, zI n] ι (zP (zI (zag (ι 181 r) i n)) ι) := c_against h0 h1 hi hn hm
set_option maxRecDepth 100000 in
theorem c_mSet {r i v : Int} (hr : zB r) (hi : zB i) (hM : ∀ k, 0 ≤ k → k < 8 → -1 ≤ ι 181 k ∧ ι 181 k ≤ 40) (hL : ∀ k, 0 ≤ k → k < 8 → zB (ι 182 k)) : zCi l (zc D ad L z) mX7_set 2 [zR 178, zI r, zI i, zI v] ι (fun x ι' => x = some (zI (if ¬ (0 ≤ r ∧ r ≤ 7) then -1000001 else if 0 < zag (ι 181 r) i 1 then -1000010 - zag (ι 181 r) i 1 else zkp (ι 182 r) v)) ∧ ι' = if ¬ (0 ≤ r ∧ r ≤ 7) then ι else if 0 < zag (ι 181 r) i 1 then iup ι 178 5 (zag (ι 181 r) i 1) else iup (iup ι 178 5 0) 183 (40 * r + i) (zkp (ι 182 r) v)) := by
  refine zCt_of (by decide) (Nat.le_of_ble_eq_true rfl) 1 rfl ?_
  refine g_iload_n (x := r) rfl dX7_set_0 ?_
  refine i_callSp msX7_isRow tw_872 (c_mIsRow ⟨by omega, by omega⟩) (by decide) (st' := []) rfl (Nat.le_of_ble_eq_true rfl) rfl dX7_set_1 ?_
  refine g_nm (fun b1 hq0 => ?_)
  have hb1 : ((0 ≤ r ∧ r ≤ 7) ∧ b1 = 1) ∨ (¬ (0 ≤ r ∧ r ≤ 7) ∧ b1 = 0) := zb_c hq0
  clear hq0
  refine g_if_ne ⟨by omega, by omega⟩ (t := 10) dX7_set_4 (by decide) (fun h4 => ?_) (fun h4 => ?_)
  · refine g_aload_n (x := 178) rfl dX7_set_10 ?_
    refine g_iload_n (x := r) rfl dX7_set_11 ?_
    refine g_iload_n (x := i) rfl dX7_set_12 ?_
    refine g_iconst (x := 1) rfl dX7_set_13 ?_
    refine i_callVp mvX7_against tw_890 (ci := 7) (congrArg Prod.fst sh_178) rfl (by decide) (c_ag (r := r) (by omega) (by omega) ⟨by omega, by omega⟩ ⟨by omega, by omega⟩ (hM r (by omega) (by omega))) (by decide) (st' := []) rfl (Nat.le_of_ble_eq_true rfl) rfl dX7_set_14 ?_
    refine g_nm (fun q hq => ?_)
    refine g_istore (ls' := [some (zR 178), some (zI r), some (zI i), some (zI v), some (zI q)]) dX7_set_17 (by decide) rfl ?_
    have hz := zag_b (ι 181 r) i 1
    have hlr := hL r (by omega) (by omega)
    refine g_iload (x := q) rfl dX7_set_19 ?_
    refine g_if_le ⟨by omega, by omega⟩ (t := 31) dX7_set_21 (by decide) (fun h21 => ?_) (fun h21 => ?_)
    · refine g_aload_n (x := 178) rfl dX7_set_31 ?_
      refine g_iconst (x := 0) rfl dX7_set_32 ?_
      obtain ⟨ι1, hι1⟩ : ∃ y, y = iup ι 178 5 0 := ⟨_, rfl⟩
      refine i_put fwX7_44 zcl_7 (congrArg Prod.fst sh_178) (by decide) (by decide) (ι1 := ι1) (by rw [hι1]; exact iu_178_5) dX7_set_33 ?_
      have hmr := hM r (by omega) (by omega)
      have hb : 0 ≤ i ∧ i < 40 := by
        have hq2 : zag (ι 181 r) i 1 = 0 := by omega
        unfold zag at hq2
        (repeat' split at hq2) <;> omega
      have e1 : ι1 182 r = ι 182 r := by rw [hι1, iup_n _ (Or.inl (by decide))]
      refine g_aload_n (x := 178) rfl dX7_set_36 ?_
      refine g_get fgX7_22 zcl_7 (congrArg Prod.fst sh_178) (by decide) rg_178_8 dX7_set_37 ?_
      refine g_bipush (x := 40) (by decide) dX7_set_40 ?_
      refine g_iload_n (x := r) rfl dX7_set_42 ?_
      refine g_imul dX7_set_43 ?_
      refine g_iload_n (x := i) rfl dX7_set_44 ?_
      refine g_iadd dX7_set_45 ?_
      refine g_aload_n (x := 178) rfl dX7_set_46 ?_
      refine g_get fgX7_19 zcl_7 (congrArg Prod.fst sh_178) (by decide) rg_178_7 dX7_set_47 ?_
      refine g_iload_n (x := r) rfl dX7_set_50 ?_
      refine g_iald sh_182 (by decide) (by omega) (by omega) (by decide) ag_182 dX7_set_51 ?_
      rw [e1]
      refine g_if_ne ⟨by omega, by omega⟩ (t := 60) dX7_set_52 (by decide) (fun h52 => ?_) (fun h52 => ?_)
      · refine g_aload_n (x := 178) rfl dX7_set_60 ?_
        refine g_get fgX7_19 zcl_7 (congrArg Prod.fst sh_178) (by decide) rg_178_7 dX7_set_61 ?_
        refine g_iload_n (x := r) rfl dX7_set_64 ?_
        refine g_iald sh_182 (by decide) (by omega) (by omega) (by decide) ag_182 dX7_set_65 ?_
        refine g_iconst (x := 1) rfl dX7_set_66 ?_
        rw [e1]
        refine g_icmp_ne ⟨by omega, by omega⟩ (by decide) (t := 75) dX7_set_67 (by decide) (fun h67 => ?_) (fun h67 => ?_)
        · refine g_iload_n (x := v) rfl dX7_set_75 ?_
          refine g_nm (fun yv hy => ?_)
          have ez : yv = zkp (ι 182 r) v := by rw [hy]; unfold zkp; rw [if_neg (by omega), if_neg (by omega)]
          obtain ⟨ι2, hι2⟩ : ∃ y, y = iup ι1 183 ((40 * r) + i) yv := ⟨_, rfl⟩
          refine i_iast sh_183 (by decide) (by decide) (by omega) (by omega) (by decide) (ι1 := ι2) (by rw [hι2]; exact au_183) dX7_set_76 ?_
          refine g_aload_n (x := 178) rfl dX7_set_77 ?_
          refine g_get fgX7_22 zcl_7 (congrArg Prod.fst sh_178) (by decide) rg_178_8 dX7_set_78 ?_
          refine g_bipush (x := 40) (by decide) dX7_set_81 ?_
          refine g_iload_n (x := r) rfl dX7_set_83 ?_
          refine g_imul dX7_set_84 ?_
          refine g_iload_n (x := i) rfl dX7_set_85 ?_
          refine g_iadd dX7_set_86 ?_
          refine g_iald sh_183 (by decide) (by omega) (by omega) (by decide) ag_183 dX7_set_87 ?_
          exact i_iret rfl dX7_set_88 (⟨by rw [if_neg (by omega), if_neg (by omega), hι2, iup_s, ez], by rw [if_neg (by omega), if_neg (by omega), hι2, hι1, ez]⟩)
        · refine g_iload_n (x := v) rfl dX7_set_70 ?_
          refine g_i2s dX7_set_71 ?_
          refine g_goto (t := 76) dX7_set_72 (by decide) ?_
          refine g_nm (fun yv hy => ?_)
          have ez : yv = zkp (ι 182 r) v := by rw [hy]; unfold zkp; rw [if_neg (by omega), if_pos (by omega)]
          obtain ⟨ι2, hι2⟩ : ∃ y, y = iup ι1 183 ((40 * r) + i) yv := ⟨_, rfl⟩
          refine i_iast sh_183 (by decide) (by decide) (by omega) (by omega) (by decide) (ι1 := ι2) (by rw [hι2]; exact au_183) dX7_set_76 ?_
          refine g_aload_n (x := 178) rfl dX7_set_77 ?_
          refine g_get fgX7_22 zcl_7 (congrArg Prod.fst sh_178) (by decide) rg_178_8 dX7_set_78 ?_
          refine g_bipush (x := 40) (by decide) dX7_set_81 ?_
          refine g_iload_n (x := r) rfl dX7_set_83 ?_
          refine g_imul dX7_set_84 ?_
          refine g_iload_n (x := i) rfl dX7_set_85 ?_
          refine g_iadd dX7_set_86 ?_
          refine g_iald sh_183 (by decide) (by omega) (by omega) (by decide) ag_183 dX7_set_87 ?_
          exact i_iret rfl dX7_set_88 (⟨by rw [if_neg (by omega), if_neg (by omega), hι2, iup_s, ez], by rw [if_neg (by omega), if_neg (by omega), hι2, hι1, ez]⟩)
      · refine g_iload_n (x := v) rfl dX7_set_55 ?_
        refine g_i2b dX7_set_56 ?_
        refine g_goto (t := 76) dX7_set_57 (by decide) ?_
        refine g_nm (fun yv hy => ?_)
        have ez : yv = zkp (ι 182 r) v := by rw [hy]; unfold zkp; rw [if_pos (by omega)]
        obtain ⟨ι2, hι2⟩ : ∃ y, y = iup ι1 183 ((40 * r) + i) yv := ⟨_, rfl⟩
        refine i_iast sh_183 (by decide) (by decide) (by omega) (by omega) (by decide) (ι1 := ι2) (by rw [hι2]; exact au_183) dX7_set_76 ?_
        refine g_aload_n (x := 178) rfl dX7_set_77 ?_
        refine g_get fgX7_22 zcl_7 (congrArg Prod.fst sh_178) (by decide) rg_178_8 dX7_set_78 ?_
        refine g_bipush (x := 40) (by decide) dX7_set_81 ?_
        refine g_iload_n (x := r) rfl dX7_set_83 ?_
        refine g_imul dX7_set_84 ?_
        refine g_iload_n (x := i) rfl dX7_set_85 ?_
        refine g_iadd dX7_set_86 ?_
        refine g_iald sh_183 (by decide) (by omega) (by omega) (by decide) ag_183 dX7_set_87 ?_
        exact i_iret rfl dX7_set_88 (⟨by rw [if_neg (by omega), if_neg (by omega), hι2, iup_s, ez], by rw [if_neg (by omega), if_neg (by omega), hι2, hι1, ez]⟩)
    · refine g_aload_n (x := 178) rfl dX7_set_24 ?_
      refine g_iload (x := q) rfl dX7_set_25 ?_
      refine i_callV mvX7_finds tw_881 (ci := 7) (congrArg Prod.fst sh_178) rfl (by decide) (c_finds) (by decide) (st' := []) rfl (Nat.le_of_ble_eq_true rfl) rfl dX7_set_27 (fun v_1 ι9 hq_27 => ?_)
      obtain ⟨rfl, hι9⟩ := hq_27
      exact i_iret rfl dX7_set_30 (⟨by rw [if_neg (by omega), if_pos (by omega), hq], by rw [if_neg (by omega), if_pos (by omega), hι9, hq]⟩)
  · refine g_ldc (x := -1000001) tw_880 (by decide) dX7_set_7 ?_
    exact i_iret rfl dX7_set_9 (⟨by rw [if_pos (by omega)], by rw [if_pos (by omega)]⟩)

set_option maxRecDepth 100000 in
theorem lp_mCopy2 {a i b j n : Int} (hn : 0 ≤ n) (hb : 0 ≤ b ∧ b ≤ 7) (hj : 0 ≤ j ∧ j + n ≤ 40) {ι0 : zi} : ∀ k : Int, 0 ≤ k → k ≤ n → zGi l (zc D ad L z) mX7_copy 2 136 [some (zR 178), some (zI a), some (zI i), some (zI b), some (zI j), some (zI n), some (zI k)] [] (icpy ι0 184 183 0 (40 * b + j) k) (fun v ι' => v = some (zI n) ∧ ι' = icpy ι0 184 183 0 (40 * b + j) n) := by
  refine z_loopI (fun k h0 h1 ih => ?_)
  obtain ⟨ι1, hι1⟩ : ∃ y, y = icpy ι0 184 183 0 (40 * b + j) k := ⟨_, rfl⟩
  rw [← hι1]
  refine g_iload (x := k) rfl dX7_copy_136 ?_
  refine g_iload (x := n) rfl dX7_copy_138 ?_
  refine g_icmp_ge ⟨by omega, by omega⟩ ⟨by omega, by omega⟩ (t := 171) dX7_copy_140 (by decide) (fun h140 => ?_) (fun h140 => ?_)
  · refine g_iload (x := n) rfl dX7_copy_171 ?_
    exact i_iret rfl dX7_copy_173 (⟨rfl, by rw [hι1, show k = n by omega]⟩)
  · refine g_aload_n (x := 178) rfl dX7_copy_143 ?_
    refine g_get fgX7_22 zcl_7 (congrArg Prod.fst sh_178) (by decide) rg_178_8 dX7_copy_144 ?_
    refine g_bipush (x := 40) (by decide) dX7_copy_147 ?_
    refine g_iload_n (x := b) rfl dX7_copy_149 ?_
    refine g_imul dX7_copy_150 ?_
    refine g_iload (x := j) rfl dX7_copy_151 ?_
    refine g_iadd dX7_copy_153 ?_
    refine g_iload (x := k) rfl dX7_copy_154 ?_
    refine g_iadd dX7_copy_156 ?_
    refine g_aload_n (x := 178) rfl dX7_copy_157 ?_
    refine g_get fgX7_25 zcl_7 (congrArg Prod.fst sh_178) (by decide) rg_178_9 dX7_copy_158 ?_
    refine g_iload (x := k) rfl dX7_copy_161 ?_
    refine g_iald sh_184 (by decide) (by omega) (by omega) (by decide) ag_184 dX7_copy_163 ?_
    obtain ⟨ι2, hι2⟩ : ∃ y, y = iup ι1 183 (((40 * b) + j) + k) (ι1 184 k) := ⟨_, rfl⟩
    refine i_iast sh_183 (by decide) (by decide) (by omega) (by omega) (by decide) (ι1 := ι2) (by rw [hι2]; exact au_183) dX7_copy_164 ?_
    refine g_iinc (x := k) (y := k + 1) (ls' := [some (zR 178), some (zI a), some (zI i), some (zI b), some (zI j), some (zI n), some (zI (k + 1))]) dX7_copy_165 rfl (rfl) (by decide) rfl ?_
    refine g_goto (t := 136) dX7_copy_168 (by decide) ?_
    have e2 : ι2 = icpy ι0 184 183 0 (40 * b + j) (k + 1) := by rw [hι2, ← icpy_s h0 (Or.inl (by decide)), ← hι1, Int.zero_add]
    rw [e2]
    exact ih (by omega)

set_option maxRecDepth 100000 in
theorem lp_mCopy1 {a i b j n : Int} (hn : 0 ≤ n) (ha : 0 ≤ a ∧ a ≤ 7) (hi : 0 ≤ i ∧ i + n ≤ 40) (hb : 0 ≤ b ∧ b ≤ 7) (hj : 0 ≤ j ∧ j + n ≤ 40) {ι0 : zi} : ∀ k : Int, 0 ≤ k → k ≤ n → zGi l (zc D ad L z) mX7_copy 2 99 [some (zR 178), some (zI a), some (zI i), some (zI b), some (zI j), some (zI n), some (zI k)] [] (icpy ι0 183 184 (40 * a + i) 0 k) (fun v ι' => v = some (zI n) ∧ ι' = icpy (icpy ι0 183 184 (40 * a + i) 0 n) 184 183 0 (40 * b + j) n) := by
  refine z_loopI (fun k h0 h1 ih => ?_)
  obtain ⟨ι1, hι1⟩ : ∃ y, y = icpy ι0 183 184 (40 * a + i) 0 k := ⟨_, rfl⟩
  rw [← hι1]
  refine g_iload (x := k) rfl dX7_copy_99 ?_
  refine g_iload (x := n) rfl dX7_copy_101 ?_
  refine g_icmp_ge ⟨by omega, by omega⟩ ⟨by omega, by omega⟩ (t := 133) dX7_copy_103 (by decide) (fun h103 => ?_) (fun h103 => ?_)
  · refine g_iconst (x := 0) rfl dX7_copy_133 ?_
    refine g_istore (ls' := [some (zR 178), some (zI a), some (zI i), some (zI b), some (zI j), some (zI n), some (zI 0)]) dX7_copy_134 (by decide) rfl ?_
    have hh := lp_mCopy2 (l := l) (D := D) (ad := ad) (L := L) (z := z) (a := a) (i := i) (n := n) hn hb hj (ι0 := ι1) 0 (by omega) (by omega)
    rw [icpy_0] at hh
    have ek : k = n := by omega
    rw [show icpy ι0 183 184 (40 * a + i) 0 n = ι1 by rw [hι1, ek]]
    exact hh
  · refine g_aload_n (x := 178) rfl dX7_copy_106 ?_
    refine g_get fgX7_25 zcl_7 (congrArg Prod.fst sh_178) (by decide) rg_178_9 dX7_copy_107 ?_
    refine g_iload (x := k) rfl dX7_copy_110 ?_
    refine g_aload_n (x := 178) rfl dX7_copy_112 ?_
    refine g_get fgX7_22 zcl_7 (congrArg Prod.fst sh_178) (by decide) rg_178_8 dX7_copy_113 ?_
    refine g_bipush (x := 40) (by decide) dX7_copy_116 ?_
    refine g_iload_n (x := a) rfl dX7_copy_118 ?_
    refine g_imul dX7_copy_119 ?_
    refine g_iload_n (x := i) rfl dX7_copy_120 ?_
    refine g_iadd dX7_copy_121 ?_
    refine g_iload (x := k) rfl dX7_copy_122 ?_
    refine g_iadd dX7_copy_124 ?_
    refine g_iald sh_183 (by decide) (by omega) (by omega) (by decide) ag_183 dX7_copy_125 ?_
    obtain ⟨ι2, hι2⟩ : ∃ y, y = iup ι1 184 k (ι1 183 (((40 * a) + i) + k)) := ⟨_, rfl⟩
    refine i_iast sh_184 (by decide) (by decide) (by omega) (by omega) (by decide) (ι1 := ι2) (by rw [hι2]; exact au_184) dX7_copy_126 ?_
    refine g_iinc (x := k) (y := k + 1) (ls' := [some (zR 178), some (zI a), some (zI i), some (zI b), some (zI j), some (zI n), some (zI (k + 1))]) dX7_copy_127 rfl (rfl) (by decide) rfl ?_
    refine g_goto (t := 99) dX7_copy_130 (by decide) ?_
    have e2 : ι2 = icpy ι0 183 184 (40 * a + i) 0 (k + 1) := by rw [hι2, ← icpy_s h0 (Or.inl (by decide)), ← hι1, Int.zero_add]
    rw [e2]
    exact ih (by omega)

set_option maxRecDepth 100000 in
theorem c_mCopy {a i b j n : Int} (ha : zB a) (hi : zB i) (hb : zB b) (hj : zB j) (hn : zB n) (hM : ∀ k, 0 ≤ k → k < 8 → -1 ≤ ι 181 k ∧ ι 181 k ≤ 40) (hL : ∀ k, 0 ≤ k → k < 8 → zB (ι 182 k)) : zCi l (zc D ad L z) mX7_copy 2 [zR 178, zI a, zI i, zI b, zI j, zI n] ι (fun (v : Option zV) (ι' : zi) => v = some (zI (if ¬ ((0 ≤ a ∧ a ≤ 7) ∧ (0 ≤ b ∧ b ≤ 7)) then -1000001 else if ι 181 a < 0 ∨ ι 181 b < 0 then -1000011 else if ¬ (ι 182 a = ι 182 b) then -1000015 else if 0 < zag (ι 181 a) i n ∨ 0 < zag (ι 181 b) j n then -1000012 else n)) ∧ ι' = if ¬ ((0 ≤ a ∧ a ≤ 7) ∧ (0 ≤ b ∧ b ≤ 7)) then ι else if ι 181 a < 0 ∨ ι 181 b < 0 then iup ι 178 5 1 else if ¬ (ι 182 a = ι 182 b) then iup ι 178 5 5 else if 0 < zag (ι 181 a) i n ∨ 0 < zag (ι 181 b) j n then iup ι 178 5 2 else icpy (icpy (iup ι 178 5 0) 183 184 (40 * a + i) 0 n) 184 183 0 (40 * b + j) n) := by
  refine zCt_of (by decide) (Nat.le_of_ble_eq_true rfl) 1 rfl ?_
  refine g_iload_n (x := a) rfl dX7_copy_0 ?_
  refine i_callSp msX7_isRow tw_872 (c_mIsRow ⟨by omega, by omega⟩) (by decide) (st' := []) rfl (Nat.le_of_ble_eq_true rfl) rfl dX7_copy_1 ?_
  refine g_nm (fun b1 hq0 => ?_)
  have hb1 : ((0 ≤ a ∧ a ≤ 7) ∧ b1 = 1) ∨ (¬ (0 ≤ a ∧ a ≤ 7) ∧ b1 = 0) := zb_c hq0
  clear hq0
  refine g_if_eq ⟨by omega, by omega⟩ (t := 14) dX7_copy_4 (by decide) (fun h4 => ?_) (fun h4 => ?_)
  · refine g_ldc (x := -1000001) tw_880 (by decide) dX7_copy_14 ?_
    exact i_iret rfl dX7_copy_16 (⟨by rw [if_pos (by omega)], by rw [if_pos (by omega)]⟩)
  · refine g_iload_n (x := b) rfl dX7_copy_7 ?_
    refine i_callSp msX7_isRow tw_872 (c_mIsRow ⟨by omega, by omega⟩) (by decide) (st' := []) rfl (Nat.le_of_ble_eq_true rfl) rfl dX7_copy_8 ?_
    refine g_nm (fun b8 hq0 => ?_)
    have hb8 : ((0 ≤ b ∧ b ≤ 7) ∧ b8 = 1) ∨ (¬ (0 ≤ b ∧ b ≤ 7) ∧ b8 = 0) := zb_c hq0
    clear hq0
    refine g_if_ne ⟨by omega, by omega⟩ (t := 17) dX7_copy_11 (by decide) (fun h11 => ?_) (fun h11 => ?_)
    · have hma := hM a (by omega) (by omega)
      have hmb := hM b (by omega) (by omega)
      have hla := hL a (by omega) (by omega)
      have hlb := hL b (by omega) (by omega)
      have hza := zag_b (ι 181 a) i n
      have hzb := zag_b (ι 181 b) j n
      refine g_aload_n (x := 178) rfl dX7_copy_17 ?_
      refine g_get fgX7_16 zcl_7 (congrArg Prod.fst sh_178) (by decide) rg_178_6 dX7_copy_18 ?_
      refine g_iload_n (x := a) rfl dX7_copy_21 ?_
      refine g_iald sh_181 (by decide) (by omega) (by omega) (by decide) ag_181 dX7_copy_22 ?_
      refine g_if_lt ⟨by omega, by omega⟩ (t := 35) dX7_copy_23 (by decide) (fun h23 => ?_) (fun h23 => ?_)
      · refine g_aload_n (x := 178) rfl dX7_copy_35 ?_
        refine g_iconst (x := 1) rfl dX7_copy_36 ?_
        refine i_callV mvX7_finds tw_881 (ci := 7) (congrArg Prod.fst sh_178) rfl (by decide) (c_finds) (by decide) (st' := []) rfl (Nat.le_of_ble_eq_true rfl) rfl dX7_copy_37 (fun v_1 ι9 hq_37 => ?_)
        obtain ⟨rfl, hι9⟩ := hq_37
        exact i_iret rfl dX7_copy_40 (⟨by rw [if_neg (by omega), if_pos (by omega)]; try rfl, by rw [if_neg (by omega), if_pos (by omega), hι9]⟩)
      · refine g_aload_n (x := 178) rfl dX7_copy_26 ?_
        refine g_get fgX7_16 zcl_7 (congrArg Prod.fst sh_178) (by decide) rg_178_6 dX7_copy_27 ?_
        refine g_iload_n (x := b) rfl dX7_copy_30 ?_
        refine g_iald sh_181 (by decide) (by omega) (by omega) (by decide) ag_181 dX7_copy_31 ?_
        refine g_if_ge ⟨by omega, by omega⟩ (t := 41) dX7_copy_32 (by decide) (fun h32 => ?_) (fun h32 => ?_)
        · refine g_aload_n (x := 178) rfl dX7_copy_41 ?_
          refine g_get fgX7_19 zcl_7 (congrArg Prod.fst sh_178) (by decide) rg_178_7 dX7_copy_42 ?_
          refine g_iload_n (x := a) rfl dX7_copy_45 ?_
          refine g_iald sh_182 (by decide) (by omega) (by omega) (by decide) ag_182 dX7_copy_46 ?_
          refine g_aload_n (x := 178) rfl dX7_copy_47 ?_
          refine g_get fgX7_19 zcl_7 (congrArg Prod.fst sh_178) (by decide) rg_178_7 dX7_copy_48 ?_
          refine g_iload_n (x := b) rfl dX7_copy_51 ?_
          refine g_iald sh_182 (by decide) (by omega) (by omega) (by decide) ag_182 dX7_copy_52 ?_
          refine g_icmp_eq ⟨by omega, by omega⟩ ⟨by omega, by omega⟩ (t := 62) dX7_copy_53 (by decide) (fun h53 => ?_) (fun h53 => ?_)
          · refine g_aload_n (x := 178) rfl dX7_copy_62 ?_
            refine g_iload_n (x := a) rfl dX7_copy_63 ?_
            refine g_iload_n (x := i) rfl dX7_copy_64 ?_
            refine g_iload (x := n) rfl dX7_copy_65 ?_
            refine i_callVp mvX7_against tw_890 (ci := 7) (congrArg Prod.fst sh_178) rfl (by decide) (c_ag (r := a) (by omega) (by omega) ⟨by omega, by omega⟩ ⟨by omega, by omega⟩ (hM a (by omega) (by omega))) (by decide) (st' := []) rfl (Nat.le_of_ble_eq_true rfl) rfl dX7_copy_67 ?_
            refine g_if_gt ⟨by omega, by omega⟩ (t := 85) dX7_copy_70 (by decide) (fun h70 => ?_) (fun h70 => ?_)
            · refine g_aload_n (x := 178) rfl dX7_copy_85 ?_
              refine g_iconst (x := 2) rfl dX7_copy_86 ?_
              refine i_callV mvX7_finds tw_881 (ci := 7) (congrArg Prod.fst sh_178) rfl (by decide) (c_finds) (by decide) (st' := []) rfl (Nat.le_of_ble_eq_true rfl) rfl dX7_copy_87 (fun v_2 ι9 hq_87 => ?_)
              obtain ⟨rfl, hι9⟩ := hq_87
              exact i_iret rfl dX7_copy_90 (⟨by rw [if_neg (by omega), if_neg (by omega), if_neg (by omega), if_pos (by omega)]; try rfl, by rw [if_neg (by omega), if_neg (by omega), if_neg (by omega), if_pos (by omega), hι9]⟩)
            · refine g_aload_n (x := 178) rfl dX7_copy_73 ?_
              refine g_iload_n (x := b) rfl dX7_copy_74 ?_
              refine g_iload (x := j) rfl dX7_copy_75 ?_
              refine g_iload (x := n) rfl dX7_copy_77 ?_
              refine i_callVp mvX7_against tw_890 (ci := 7) (congrArg Prod.fst sh_178) rfl (by decide) (c_ag (r := b) (by omega) (by omega) ⟨by omega, by omega⟩ ⟨by omega, by omega⟩ (hM b (by omega) (by omega))) (by decide) (st' := []) rfl (Nat.le_of_ble_eq_true rfl) rfl dX7_copy_79 ?_
              refine g_if_le ⟨by omega, by omega⟩ (t := 91) dX7_copy_82 (by decide) (fun h82 => ?_) (fun h82 => ?_)
              · refine g_aload_n (x := 178) rfl dX7_copy_91 ?_
                refine g_iconst (x := 0) rfl dX7_copy_92 ?_
                obtain ⟨ι1, hι1⟩ : ∃ y, y = iup ι 178 5 0 := ⟨_, rfl⟩
                refine i_put fwX7_44 zcl_7 (congrArg Prod.fst sh_178) (by decide) (by decide) (ι1 := ι1) (by rw [hι1]; exact iu_178_5) dX7_copy_93 ?_
                refine g_iconst (x := 0) rfl dX7_copy_96 ?_
                refine g_istore (ls' := [some (zR 178), some (zI a), some (zI i), some (zI b), some (zI j), some (zI n), some (zI 0)]) dX7_copy_97 (by decide) rfl ?_
                have gi : 0 ≤ n ∧ 0 ≤ i ∧ i + n ≤ 40 := by
                  have hq2 : zag (ι 181 a) i n = 0 := by omega
                  unfold zag at hq2
                  (repeat' split at hq2) <;> omega
                have gj : 0 ≤ j ∧ j + n ≤ 40 := by
                  have hq2 : zag (ι 181 b) j n = 0 := by omega
                  unfold zag at hq2
                  (repeat' split at hq2) <;> omega
                have hh := lp_mCopy1 (l := l) (D := D) (ad := ad) (L := L) (z := z) (a := a) (i := i) (b := b) (j := j) (n := n) (by omega) (by omega) (by omega) (by omega) (by omega) (ι0 := ι1) 0 (by omega) (by omega)
                rw [icpy_0] at hh
                have e : (fun (v : Option zV) (ι' : zi) => v = some (zI (if ¬ ((0 ≤ a ∧ a ≤ 7) ∧ (0 ≤ b ∧ b ≤ 7)) then -1000001 else if ι 181 a < 0 ∨ ι 181 b < 0 then -1000011 else if ¬ (ι 182 a = ι 182 b) then -1000015 else if 0 < zag (ι 181 a) i n ∨ 0 < zag (ι 181 b) j n then -1000012 else n)) ∧ ι' = if ¬ ((0 ≤ a ∧ a ≤ 7) ∧ (0 ≤ b ∧ b ≤ 7)) then ι else if ι 181 a < 0 ∨ ι 181 b < 0 then iup ι 178 5 1 else if ¬ (ι 182 a = ι 182 b) then iup ι 178 5 5 else if 0 < zag (ι 181 a) i n ∨ 0 < zag (ι 181 b) j n then iup ι 178 5 2 else icpy (icpy (iup ι 178 5 0) 183 184 (40 * a + i) 0 n) 184 183 0 (40 * b + j) n) = (fun v ι' => v = some (zI n) ∧ ι' = icpy (icpy ι1 183 184 (40 * a + i) 0 n) 184 183 0 (40 * b + j) n) := by
                  funext v y
                  rw [if_neg (by omega), if_neg (by omega), if_neg (by omega), if_neg (by omega), if_neg (by omega), if_neg (by omega), if_neg (by omega), if_neg (by omega), hι1]
                rw [e]
                exact hh
              · refine g_aload_n (x := 178) rfl dX7_copy_85 ?_
                refine g_iconst (x := 2) rfl dX7_copy_86 ?_
                refine i_callV mvX7_finds tw_881 (ci := 7) (congrArg Prod.fst sh_178) rfl (by decide) (c_finds) (by decide) (st' := []) rfl (Nat.le_of_ble_eq_true rfl) rfl dX7_copy_87 (fun v_3 ι9 hq_87 => ?_)
                obtain ⟨rfl, hι9⟩ := hq_87
                exact i_iret rfl dX7_copy_90 (⟨by rw [if_neg (by omega), if_neg (by omega), if_neg (by omega), if_pos (by omega)]; try rfl, by rw [if_neg (by omega), if_neg (by omega), if_neg (by omega), if_pos (by omega), hι9]⟩)
          · refine g_aload_n (x := 178) rfl dX7_copy_56 ?_
            refine g_iconst (x := 5) rfl dX7_copy_57 ?_
            refine i_callV mvX7_finds tw_881 (ci := 7) (congrArg Prod.fst sh_178) rfl (by decide) (c_finds) (by decide) (st' := []) rfl (Nat.le_of_ble_eq_true rfl) rfl dX7_copy_58 (fun v_4 ι9 hq_58 => ?_)
            obtain ⟨rfl, hι9⟩ := hq_58
            exact i_iret rfl dX7_copy_61 (⟨by rw [if_neg (by omega), if_neg (by omega), if_pos (by omega)]; try rfl, by rw [if_neg (by omega), if_neg (by omega), if_pos (by omega), hι9]⟩)
        · refine g_aload_n (x := 178) rfl dX7_copy_35 ?_
          refine g_iconst (x := 1) rfl dX7_copy_36 ?_
          refine i_callV mvX7_finds tw_881 (ci := 7) (congrArg Prod.fst sh_178) rfl (by decide) (c_finds) (by decide) (st' := []) rfl (Nat.le_of_ble_eq_true rfl) rfl dX7_copy_37 (fun v_5 ι9 hq_37 => ?_)
          obtain ⟨rfl, hι9⟩ := hq_37
          exact i_iret rfl dX7_copy_40 (⟨by rw [if_neg (by omega), if_pos (by omega)]; try rfl, by rw [if_neg (by omega), if_pos (by omega), hι9]⟩)
    · refine g_ldc (x := -1000001) tw_880 (by decide) dX7_copy_14 ?_
      exact i_iret rfl dX7_copy_16 (⟨by rw [if_pos (by omega)], by rw [if_pos (by omega)]⟩)

set_option maxRecDepth 100000 in
theorem c_mDrop {r : Int} (hr : zB r) (hM : ∀ k, 0 ≤ k → k < 8 → -1 ≤ ι 181 k ∧ ι 181 k ≤ 40) : zCi l (zc D ad L z) mX7_drop 2 [zR 178, zI r] ι (fun v ι' => v = some (zI (if ¬ (0 ≤ r ∧ r ≤ 7) then -1000001 else if ι 181 r < 0 then -1000011 else ι 181 r)) ∧ ι' = if ¬ (0 ≤ r ∧ r ≤ 7) then ι else if ι 181 r < 0 then iup ι 178 5 1 else iup (iup ι 178 5 0) 181 r (-1)) := by
  refine zCt_of (by decide) (Nat.le_of_ble_eq_true rfl) 1 rfl ?_
  refine g_iload_n (x := r) rfl dX7_drop_0 ?_
  refine i_callSp msX7_isRow tw_872 (c_mIsRow ⟨by omega, by omega⟩) (by decide) (st' := []) rfl (Nat.le_of_ble_eq_true rfl) rfl dX7_drop_1 ?_
  refine g_nm (fun b1 hq0 => ?_)
  have hb1 : ((0 ≤ r ∧ r ≤ 7) ∧ b1 = 1) ∨ (¬ (0 ≤ r ∧ r ≤ 7) ∧ b1 = 0) := zb_c hq0
  clear hq0
  refine g_if_ne ⟨by omega, by omega⟩ (t := 10) dX7_drop_4 (by decide) (fun h4 => ?_) (fun h4 => ?_)
  · have hmr := hM r (by omega) (by omega)
    refine g_aload_n (x := 178) rfl dX7_drop_10 ?_
    refine g_get fgX7_16 zcl_7 (congrArg Prod.fst sh_178) (by decide) rg_178_6 dX7_drop_11 ?_
    refine g_iload_n (x := r) rfl dX7_drop_14 ?_
    refine g_iald sh_181 (by decide) (by omega) (by omega) (by decide) ag_181 dX7_drop_15 ?_
    refine g_if_ge ⟨by omega, by omega⟩ (t := 25) dX7_drop_16 (by decide) (fun h16 => ?_) (fun h16 => ?_)
    · refine g_aload_n (x := 178) rfl dX7_drop_25 ?_
      refine g_iconst (x := 0) rfl dX7_drop_26 ?_
      obtain ⟨ι1, hι1⟩ : ∃ y, y = iup ι 178 5 0 := ⟨_, rfl⟩
      refine i_put fwX7_44 zcl_7 (congrArg Prod.fst sh_178) (by decide) (by decide) (ι1 := ι1) (by rw [hι1]; exact iu_178_5) dX7_drop_27 ?_
      refine g_aload_n (x := 178) rfl dX7_drop_30 ?_
      refine g_get fgX7_16 zcl_7 (congrArg Prod.fst sh_178) (by decide) rg_178_6 dX7_drop_31 ?_
      refine g_iload_n (x := r) rfl dX7_drop_34 ?_
      refine g_iald sh_181 (by decide) (by omega) (by omega) (by decide) ag_181 dX7_drop_35 ?_
      rw [show ι1 181 r = ι 181 r by rw [hι1, iup_n _ (Or.inl (by decide))]]
      refine g_istore_n (ls' := [some (zR 178), some (zI r), some (zI (ι 181 r))]) dX7_drop_36 (by decide) rfl ?_
      refine g_aload_n (x := 178) rfl dX7_drop_37 ?_
      refine g_get fgX7_16 zcl_7 (congrArg Prod.fst sh_178) (by decide) rg_178_6 dX7_drop_38 ?_
      refine g_iload_n (x := r) rfl dX7_drop_41 ?_
      refine g_iconst (x := -1) rfl dX7_drop_42 ?_
      obtain ⟨ι2, hι2⟩ : ∃ y, y = iup ι1 181 r (-1) := ⟨_, rfl⟩
      refine i_iast sh_181 (by decide) (by decide) (by omega) (by omega) (by decide) (ι1 := ι2) (by rw [hι2]; exact au_181) dX7_drop_43 ?_
      refine g_iload_n (x := (ι 181 r)) rfl dX7_drop_44 ?_
      exact i_iret rfl dX7_drop_45 (⟨by rw [if_neg (by omega), if_neg (by omega)], by rw [if_neg (by omega), if_neg (by omega), hι2, hι1]⟩)
    · refine g_aload_n (x := 178) rfl dX7_drop_19 ?_
      refine g_iconst (x := 1) rfl dX7_drop_20 ?_
      refine i_callV mvX7_finds tw_881 (ci := 7) (congrArg Prod.fst sh_178) rfl (by decide) (c_finds) (by decide) (st' := []) rfl (Nat.le_of_ble_eq_true rfl) rfl dX7_drop_21 (fun v_1 ι9 hq_21 => ?_)
      obtain ⟨rfl, hι9⟩ := hq_21
      exact i_iret rfl dX7_drop_24 (⟨by rw [if_neg (by omega), if_pos (by omega)]; try rfl, by rw [if_neg (by omega), if_pos (by omega), hι9]⟩)
  · refine g_ldc (x := -1000001) tw_880 (by decide) dX7_drop_7 ?_
    exact i_iret rfl dX7_drop_9 (⟨by rw [if_pos (by omega)], by rw [if_pos (by omega)]⟩)

set_option maxRecDepth 100000 in
theorem c_mFeed {x : Int} (hx : zB x) (ht : 0 ≤ ι 178 3 ∧ ι 178 3 ≤ 110) : zCi l (zc D ad L z) mX7_feed 1 [zR 178, zI x] ι (fun v ι' => v = some (zI (if ¬ (0 ≤ x ∧ x ≤ 255) then -1000001 else if ι 178 3 = 110 then -1000003 else ι 178 3 + 1)) ∧ ι' = if (0 ≤ x ∧ x ≤ 255) ∧ ¬ ι 178 3 = 110 then iup (iup ι 180 (ι 178 3) x) 178 3 (ι 178 3 + 1) else ι) := by
  refine zCt_of (by decide) (Nat.le_of_ble_eq_true rfl) 0 rfl ?_
  refine g_iload_n (x := x) rfl dX7_feed_0 ?_
  refine g_i2l ⟨by omega, by omega⟩ dX7_feed_1 ?_
  refine g_lconst (x := 0) (by decide) dX7_feed_2 ?_
  refine g_ldc2 (x := 255) tw_906 (by decide) dX7_feed_3 ?_
  refine i_callSp msX7_in tw_876 (c_in ⟨by omega, by omega⟩ ⟨by omega, by omega⟩ ⟨by omega, by omega⟩) (by decide) (st' := []) rfl (Nat.le_of_ble_eq_true rfl) rfl dX7_feed_6 ?_
  refine g_nm (fun b6 hq0 => ?_)
  have hb6 : ((0 ≤ x ∧ x ≤ 255) ∧ b6 = 1) ∨ (¬ (0 ≤ x ∧ x ≤ 255) ∧ b6 = 0) := zb_c hq0
  clear hq0
  refine g_if_ne ⟨by omega, by omega⟩ (t := 15) dX7_feed_9 (by decide) (fun h9 => ?_) (fun h9 => ?_)
  · refine g_aload_n (x := 178) rfl dX7_feed_15 ?_
    refine g_get fgX7_66 zcl_7 (congrArg Prod.fst sh_178) (by decide) ig_178_3 dX7_feed_16 ?_
    refine g_bipush (x := 110) (by decide) dX7_feed_19 ?_
    refine g_icmp_ne ⟨by omega, by omega⟩ (by decide) (t := 27) dX7_feed_21 (by decide) (fun h21 => ?_) (fun h21 => ?_)
    · refine g_aload_n (x := 178) rfl dX7_feed_27 ?_
      refine g_get fgX7_13 zcl_7 (congrArg Prod.fst sh_178) (by decide) rg_178_2 dX7_feed_28 ?_
      refine g_aload_n (x := 178) rfl dX7_feed_31 ?_
      refine g_get fgX7_66 zcl_7 (congrArg Prod.fst sh_178) (by decide) ig_178_3 dX7_feed_32 ?_
      refine g_iload_n (x := x) rfl dX7_feed_35 ?_
      obtain ⟨ι1, hι1⟩ : ∃ y, y = iup ι 180 (ι 178 3) x := ⟨_, rfl⟩
      refine i_iast sh_180 (by decide) (by decide) (by omega) (by omega) (by decide) (ι1 := ι1) (by rw [hι1]; exact au_180) dX7_feed_36 ?_
      refine g_aload_n (x := 178) rfl dX7_feed_37 ?_
      refine g_dupR dX7_feed_38 ?_
      refine g_get fgX7_66 zcl_7 (congrArg Prod.fst sh_178) (by decide) ig_178_3 dX7_feed_39 ?_
      refine g_iconst (x := 1) rfl dX7_feed_42 ?_
      refine g_iadd dX7_feed_43 ?_
      rw [show ι1 178 3 = ι 178 3 by rw [hι1, iup_n _ (Or.inl (by decide))]]
      obtain ⟨ι2, hι2⟩ : ∃ y, y = iup ι1 178 3 ((ι 178 3) + 1) := ⟨_, rfl⟩
      refine i_put fwX7_66 zcl_7 (congrArg Prod.fst sh_178) (by decide) (by decide) (ι1 := ι2) (by rw [hι2]; exact iu_178_3) dX7_feed_44 ?_
      refine g_aload_n (x := 178) rfl dX7_feed_47 ?_
      refine g_get fgX7_66 zcl_7 (congrArg Prod.fst sh_178) (by decide) ig_178_3 dX7_feed_48 ?_
      exact i_iret rfl dX7_feed_51 (⟨by rw [if_neg (by omega), if_neg (by omega), hι2, iup_s], by rw [if_pos (by omega), hι2, hι1]⟩)
    · refine g_ldc (x := -1000003) tw_907 (by decide) dX7_feed_24 ?_
      exact i_iret rfl dX7_feed_26 (⟨(by (repeat' split) <;> first | rfl | (exfalso; omega) | (congr 2; omega)), (by (repeat' split) <;> first | rfl | (exfalso; omega) | (congr 2; omega))⟩)
  · refine g_ldc (x := -1000001) tw_880 (by decide) dX7_feed_12 ?_
    exact i_iret rfl dX7_feed_14 (⟨(by (repeat' split) <;> first | rfl | (exfalso; omega) | (congr 2; omega)), (by (repeat' split) <;> first | rfl | (exfalso; omega) | (congr 2; omega))⟩)

set_option maxRecDepth 100000 in
theorem c_mFault  : zCi l (zc D ad L z) mX7_fault 0 [zR 178] ι (zP (zI (ι 178 4)) ι) := by
  refine zCt_of (by decide) (Nat.le_of_ble_eq_true rfl) 0 rfl ?_
  refine g_aload_n (x := 178) rfl dX7_fault_0 ?_
  refine g_get fgX7_73 zcl_7 (congrArg Prod.fst sh_178) (by decide) ig_178_4 dX7_fault_1 ?_
  exact i_iret rfl dX7_fault_4 (⟨rfl, rfl⟩)

set_option maxRecDepth 100000 in
theorem c_mStatus  : zCi l (zc D ad L z) mX7_status 0 [zR 178] ι (zP (zI (ι 178 5)) ι) := by
  refine zCt_of (by decide) (Nat.le_of_ble_eq_true rfl) 0 rfl ?_
  refine g_aload_n (x := 178) rfl dX7_status_0 ?_
  refine g_get fgX7_44 zcl_7 (congrArg Prod.fst sh_178) (by decide) ig_178_5 dX7_status_1 ?_
  exact i_iret rfl dX7_status_4 (⟨rfl, rfl⟩)

set_option maxRecDepth 100000 in
theorem c_mTrace {x : Int} (hx : zB x) (ht : 0 ≤ ι 178 16 ∧ ι 178 16 ≤ 16) : zCi l (zc D ad L z) mX7_trace 1 [zR 178, zI x] ι (zP (zI (if 0 ≤ x ∧ x ≤ ι 178 16 - 1 then ι 187 x else -1000000)) ι) := by
  refine zCt_of (by decide) (Nat.le_of_ble_eq_true rfl) 0 rfl ?_
  refine g_iload_n (x := x) rfl dX7_trace_0 ?_
  refine g_i2l ⟨by omega, by omega⟩ dX7_trace_1 ?_
  refine g_lconst (x := 0) (by decide) dX7_trace_2 ?_
  refine g_aload_n (x := 178) rfl dX7_trace_3 ?_
  refine g_get fgX7_211 zcl_7 (congrArg Prod.fst sh_178) (by decide) ig_178_16 dX7_trace_4 ?_
  refine g_iconst (x := 1) rfl dX7_trace_7 ?_
  refine g_isub dX7_trace_8 ?_
  refine g_i2l ⟨by omega, by omega⟩ dX7_trace_9 ?_
  refine i_callSp msX7_in tw_876 (c_in ⟨by omega, by omega⟩ ⟨by omega, by omega⟩ ⟨by omega, by omega⟩) (by decide) (st' := []) rfl (Nat.le_of_ble_eq_true rfl) rfl dX7_trace_10 ?_
  refine g_nm (fun b10 hq0 => ?_)
  have hb10 : ((0 ≤ x ∧ x ≤ ι 178 16 - 1) ∧ b10 = 1) ∨ (¬ (0 ≤ x ∧ x ≤ ι 178 16 - 1) ∧ b10 = 0) := zb_c hq0
  clear hq0
  refine g_if_eq ⟨by omega, by omega⟩ (t := 25) dX7_trace_13 (by decide) (fun h13 => ?_) (fun h13 => ?_)
  · refine g_ldc (x := -1000000) tw_1057 (by decide) dX7_trace_25 ?_
    exact i_iret rfl dX7_trace_27 (⟨(by (repeat' split) <;> first | rfl | (exfalso; omega) | (congr 2; omega)), rfl⟩)
  · refine g_aload_n (x := 178) rfl dX7_trace_16 ?_
    refine g_get fgX7_35 zcl_7 (congrArg Prod.fst sh_178) (by decide) rg_178_15 dX7_trace_17 ?_
    refine g_iload_n (x := x) rfl dX7_trace_20 ?_
    refine g_iald sh_187 (by decide) (by omega) (by omega) (by decide) ag_187 dX7_trace_21 ?_
    refine g_goto (t := 27) dX7_trace_22 (by decide) ?_
    exact i_iret rfl dX7_trace_27 (⟨(by (repeat' split) <;> first | rfl | (exfalso; omega) | (congr 2; omega)), rfl⟩)

set_option maxRecDepth 100000 in
theorem lp_rowsThere (hM : ∀ k, 0 ≤ k → k < 8 → -1 ≤ ι 181 k ∧ ι 181 k ≤ 40) : ∀ i : Int, 0 ≤ i → i ≤ 8 → zGi l (zc D ad L z) mX7_rowsThere 0 4 [some (zR 178), some (zI (zsum (fun k => if 0 ≤ ι 181 k then (1 : Int) else 0) i)), some (zI i)] [] ι (zP (zI (zsum (fun k => if 0 ≤ ι 181 k then (1 : Int) else 0) 8)) ι) := by
  refine z_loopI (fun i h0 h1 ih => ?_)
  refine g_iload_n (x := i) rfl dX7_rowsThere_4 ?_
  refine g_bipush (x := 8) (by decide) dX7_rowsThere_5 ?_
  refine g_icmp_ge ⟨by omega, by omega⟩ (by decide) (t := 33) dX7_rowsThere_7 (by decide) (fun h7 => ?_) (fun h7 => ?_)
  · refine g_iload_n (x := (zsum (fun k => if 0 ≤ ι 181 k then (1 : Int) else 0) i)) rfl dX7_rowsThere_33 ?_
    exact i_iret rfl dX7_rowsThere_34 (⟨by rw [show i = 8 by omega], rfl⟩)
  · have hmi := hM i (by omega) (by omega)
    refine g_iload_n (x := (zsum (fun k => if 0 ≤ ι 181 k then (1 : Int) else 0) i)) rfl dX7_rowsThere_10 ?_
    refine g_aload_n (x := 178) rfl dX7_rowsThere_11 ?_
    refine g_get fgX7_16 zcl_7 (congrArg Prod.fst sh_178) (by decide) rg_178_6 dX7_rowsThere_12 ?_
    refine g_iload_n (x := i) rfl dX7_rowsThere_15 ?_
    refine g_iald sh_181 (by decide) (by omega) (by omega) (by decide) ag_181 dX7_rowsThere_16 ?_
    refine g_if_lt ⟨by omega, by omega⟩ (t := 24) dX7_rowsThere_17 (by decide) (fun h17 => ?_) (fun h17 => ?_)
    · refine g_iconst (x := 0) rfl dX7_rowsThere_24 ?_
      refine g_iadd dX7_rowsThere_25 ?_
      refine g_nm (fun x1 hx1 => ?_)
      refine g_istore_n (ls' := [some (zR 178), some (zI x1), some (zI i)]) dX7_rowsThere_26 (by decide) rfl ?_
      refine g_iinc (x := i) (y := i + 1) (ls' := [some (zR 178), some (zI x1), some (zI (i + 1))]) dX7_rowsThere_27 rfl (rfl) (by decide) rfl ?_
      refine g_goto (t := 4) dX7_rowsThere_30 (by decide) ?_
      have hh := ih (by omega)
      rw [show zsum (fun k => if 0 ≤ ι 181 k then (1 : Int) else 0) (i + 1) = x1 by rw [zsum_s _ h0]; first | rw [if_pos (by omega), hx1] | rw [if_neg (by omega), hx1]] at hh
      exact hh
    · refine g_iconst (x := 1) rfl dX7_rowsThere_20 ?_
      refine g_goto (t := 25) dX7_rowsThere_21 (by decide) ?_
      refine g_iadd dX7_rowsThere_25 ?_
      refine g_nm (fun x1 hx1 => ?_)
      refine g_istore_n (ls' := [some (zR 178), some (zI x1), some (zI i)]) dX7_rowsThere_26 (by decide) rfl ?_
      refine g_iinc (x := i) (y := i + 1) (ls' := [some (zR 178), some (zI x1), some (zI (i + 1))]) dX7_rowsThere_27 rfl (rfl) (by decide) rfl ?_
      refine g_goto (t := 4) dX7_rowsThere_30 (by decide) ?_
      have hh := ih (by omega)
      rw [show zsum (fun k => if 0 ≤ ι 181 k then (1 : Int) else 0) (i + 1) = x1 by rw [zsum_s _ h0]; first | rw [if_pos (by omega), hx1] | rw [if_neg (by omega), hx1]] at hh
      exact hh

set_option maxRecDepth 100000 in
theorem c_rowsThere (hM : ∀ k, 0 ≤ k → k < 8 → -1 ≤ ι 181 k ∧ ι 181 k ≤ 40) : zCi l (zc D ad L z) mX7_rowsThere 0 [zR 178] ι (zP (zI (zsum (fun k => if 0 ≤ ι 181 k then (1 : Int) else 0) 8)) ι) := by
  refine zCt_of (by decide) (Nat.le_of_ble_eq_true rfl) 2 rfl ?_
  refine g_iconst (x := 0) rfl dX7_rowsThere_0 ?_
  refine g_istore_n (ls' := [some (zR 178), some (zI 0), none]) dX7_rowsThere_1 (by decide) rfl ?_
  refine g_iconst (x := 0) rfl dX7_rowsThere_2 ?_
  refine g_istore_n (ls' := [some (zR 178), some (zI 0), some (zI 0)]) dX7_rowsThere_3 (by decide) rfl ?_
  have hh := lp_rowsThere (l := l) (D := D) (ad := ad) (L := L) (z := z) hM 0 (by omega) (by omega)
  rw [zsum_0] at hh
  exact hh

set_option maxRecDepth 100000 in
theorem c_mCount (hT : zTM (wb 0 ι)) (hM : ∀ k, 0 ≤ k → k < 8 → -1 ≤ ι 181 k ∧ ι 181 k ≤ 40) {x : Int} (hx : zB x) : zCi l (zc D ad L z) mX7_count 1 [zR 178, zI x] ι (zP (zI (if x = 0 then zsum (fun k => if 0 ≤ ι 181 k then (1 : Int) else 0) 8 else if x = 1 then wb 0 ι 0 else if x = 2 then wb 0 ι 1 else if x = 3 then wb 0 ι 4 else if x = 4 then wb 0 ι 2 else if x = 5 then wb 0 ι 3 else if x = 6 then wb 0 ι 5 else if x = 7 then zaw (fun k => wb 0 ι (14 + k)) (wb 0 ι 0) else if x = 8 then ι 178 1 else if x = 9 then ι 178 3 else -1000001)) ι) := by
  refine zCt_of (by decide) (Nat.le_of_ble_eq_true rfl) 0 rfl ?_
  obtain ⟨hV, hNB, hH9⟩ := id hT
  obtain ⟨hV0, hV1, hV2, hV3, hV4, hV5, hVk, hVw⟩ := id hV
  have q0 := w0 ι (i := 0) (by decide) (by decide)
  have q1 := w0 ι (i := 1) (by decide) (by decide)
  have q2 := w0 ι (i := 2) (by decide) (by decide)
  have q4 := w0 ι (i := 4) (by decide) (by decide)
  have q3 := w0 ι (i := 3) (by decide) (by decide)
  have q5 := w0 ι (i := 5) (by decide) (by decide)
  refine g_iload_n (x := x) rfl dX7_count_0 ?_
  by_cases hsw : x < 0 ∨ 9 < x
  · refine g_tswOut ⟨by omega, by omega⟩ dX7_count_1 hsw (t := 119) (by decide) ?_
    refine g_ldc (x := -1000001) tw_880 (by decide) dX7_count_119 ?_
    exact i_iret rfl dX7_count_121 (⟨by (repeat' split) <;> first | rfl | (exfalso; omega) | (congr 1; omega), rfl⟩)
  · rcases (show x = 0 ∨ x = 1 ∨ x = 2 ∨ x = 3 ∨ x = 4 ∨ x = 5 ∨ x = 6 ∨ x = 7 ∨ x = 8 ∨ x = 9 by omega) with hsv | hsv | hsv | hsv | hsv | hsv | hsv | hsv | hsv | hsv
    · refine g_tswIn ⟨by omega, by omega⟩ dX7_count_1 (by omega) (by omega) (off := 55) (by rw [hsv]; rfl) (t := 56) (by decide) ?_
      refine g_aload_n (x := 178) rfl dX7_count_56 ?_
      refine i_callVp mvX7_rowsThere tw_1182 (ci := 7) (congrArg Prod.fst sh_178) rfl (by decide) (c_rowsThere hM) (by decide) (st' := []) rfl (Nat.le_of_ble_eq_true rfl) rfl dX7_count_57 ?_
      exact i_iret rfl dX7_count_60 (⟨by (repeat' split) <;> first | rfl | (exfalso; omega) | (congr 1; omega), rfl⟩)
    · refine g_tswIn ⟨by omega, by omega⟩ dX7_count_1 (by omega) (by omega) (off := 60) (by rw [hsv]; rfl) (t := 61) (by decide) ?_
      refine g_aload_n (x := 178) rfl dX7_count_61 ?_
      refine g_get fgX7_7 zcl_7 (congrArg Prod.fst sh_178) (by decide) rg_178_0 dX7_count_62 ?_
      refine g_iconst (x := 0) rfl dX7_count_65 ?_
      refine g_iald sh_179 (by decide) (by omega) (by omega) (by decide) ag_179 dX7_count_66 ?_
      exact i_iret rfl dX7_count_67 (⟨by (repeat' split) <;> first | rfl | (exfalso; omega) | (congr 1; omega), rfl⟩)
    · refine g_tswIn ⟨by omega, by omega⟩ dX7_count_1 (by omega) (by omega) (off := 67) (by rw [hsv]; rfl) (t := 68) (by decide) ?_
      refine g_aload_n (x := 178) rfl dX7_count_68 ?_
      refine g_get fgX7_7 zcl_7 (congrArg Prod.fst sh_178) (by decide) rg_178_0 dX7_count_69 ?_
      refine g_iconst (x := 1) rfl dX7_count_72 ?_
      refine g_iald sh_179 (by decide) (by omega) (by omega) (by decide) ag_179 dX7_count_73 ?_
      exact i_iret rfl dX7_count_74 (⟨by (repeat' split) <;> first | rfl | (exfalso; omega) | (congr 1; omega), rfl⟩)
    · refine g_tswIn ⟨by omega, by omega⟩ dX7_count_1 (by omega) (by omega) (off := 74) (by rw [hsv]; rfl) (t := 75) (by decide) ?_
      refine g_aload_n (x := 178) rfl dX7_count_75 ?_
      refine g_get fgX7_7 zcl_7 (congrArg Prod.fst sh_178) (by decide) rg_178_0 dX7_count_76 ?_
      refine g_iconst (x := 4) rfl dX7_count_79 ?_
      refine g_iald sh_179 (by decide) (by omega) (by omega) (by decide) ag_179 dX7_count_80 ?_
      exact i_iret rfl dX7_count_81 (⟨by (repeat' split) <;> first | rfl | (exfalso; omega) | (congr 1; omega), rfl⟩)
    · refine g_tswIn ⟨by omega, by omega⟩ dX7_count_1 (by omega) (by omega) (off := 81) (by rw [hsv]; rfl) (t := 82) (by decide) ?_
      refine g_aload_n (x := 178) rfl dX7_count_82 ?_
      refine g_get fgX7_7 zcl_7 (congrArg Prod.fst sh_178) (by decide) rg_178_0 dX7_count_83 ?_
      refine g_iconst (x := 2) rfl dX7_count_86 ?_
      refine g_iald sh_179 (by decide) (by omega) (by omega) (by decide) ag_179 dX7_count_87 ?_
      exact i_iret rfl dX7_count_88 (⟨by (repeat' split) <;> first | rfl | (exfalso; omega) | (congr 1; omega), rfl⟩)
    · refine g_tswIn ⟨by omega, by omega⟩ dX7_count_1 (by omega) (by omega) (off := 88) (by rw [hsv]; rfl) (t := 89) (by decide) ?_
      refine g_aload_n (x := 178) rfl dX7_count_89 ?_
      refine g_get fgX7_7 zcl_7 (congrArg Prod.fst sh_178) (by decide) rg_178_0 dX7_count_90 ?_
      refine g_iconst (x := 3) rfl dX7_count_93 ?_
      refine g_iald sh_179 (by decide) (by omega) (by omega) (by decide) ag_179 dX7_count_94 ?_
      exact i_iret rfl dX7_count_95 (⟨by (repeat' split) <;> first | rfl | (exfalso; omega) | (congr 1; omega), rfl⟩)
    · refine g_tswIn ⟨by omega, by omega⟩ dX7_count_1 (by omega) (by omega) (off := 95) (by rw [hsv]; rfl) (t := 96) (by decide) ?_
      refine g_aload_n (x := 178) rfl dX7_count_96 ?_
      refine g_get fgX7_7 zcl_7 (congrArg Prod.fst sh_178) (by decide) rg_178_0 dX7_count_97 ?_
      refine g_iconst (x := 5) rfl dX7_count_100 ?_
      refine g_iald sh_179 (by decide) (by omega) (by omega) (by decide) ag_179 dX7_count_101 ?_
      exact i_iret rfl dX7_count_102 (⟨by (repeat' split) <;> first | rfl | (exfalso; omega) | (congr 1; omega), rfl⟩)
    · refine g_tswIn ⟨by omega, by omega⟩ dX7_count_1 (by omega) (by omega) (off := 102) (by rw [hsv]; rfl) (t := 103) (by decide) ?_
      refine g_aload_n (x := 178) rfl dX7_count_103 ?_
      refine g_iconst (x := 0) rfl dX7_count_104 ?_
      refine i_callVp mvX7_awake tw_994 (ci := 7) (congrArg Prod.fst sh_178) rfl (by decide) (c_mAwake (by decide) hV.1 (fun k q0 q1 => by have := (hVk k q0 q1).2.1; exact ⟨by omega, by omega⟩)) (by decide) (st' := []) rfl (Nat.le_of_ble_eq_true rfl) rfl dX7_count_105 ?_
      exact i_iret rfl dX7_count_108 (⟨by (repeat' split) <;> first | rfl | (exfalso; omega) | (congr 1; omega), rfl⟩)
    · refine g_tswIn ⟨by omega, by omega⟩ dX7_count_1 (by omega) (by omega) (off := 108) (by rw [hsv]; rfl) (t := 109) (by decide) ?_
      refine g_aload_n (x := 178) rfl dX7_count_109 ?_
      refine g_get fgX7_121 zcl_7 (congrArg Prod.fst sh_178) (by decide) ig_178_1 dX7_count_110 ?_
      exact i_iret rfl dX7_count_113 (⟨by (repeat' split) <;> first | rfl | (exfalso; omega) | (congr 1; omega), rfl⟩)
    · refine g_tswIn ⟨by omega, by omega⟩ dX7_count_1 (by omega) (by omega) (off := 113) (by rw [hsv]; rfl) (t := 114) (by decide) ?_
      refine g_aload_n (x := 178) rfl dX7_count_114 ?_
      refine g_get fgX7_66 zcl_7 (congrArg Prod.fst sh_178) (by decide) ig_178_3 dX7_count_115 ?_
      exact i_iret rfl dX7_count_118 (⟨by (repeat' split) <;> first | rfl | (exfalso; omega) | (congr 1; omega), rfl⟩)

def ztr (o : Nat) (f : Int) (a : Nat) (ι : zi) (v : Int) : zi := if ι o f < 16 then iup (iup ι a (ι o f) v) o f (ι o f + 1) else ι
def ztl (o : Nat) (f : Int) (a : Nat) (ι : zi) (vs : List Int) : zi := vs.foldl (ztr o f a) ι
theorem ztr_o {o : Nat} {f : Int} {a : Nat} {ι : zi} {v : Int} {b : Nat} {x : Int} (h1 : b ≠ o ∨ x ≠ f) (h2 : b ≠ a) : ztr o f a ι v b x = ι b x := by
  unfold ztr
  split
  · rw [iup_n _ (by omega), iup_n _ (by omega)]
  · rfl
theorem ztr_b {o : Nat} {f : Int} {a : Nat} {ι : zi} {v : Int} (h : o ≠ a) (h0 : 0 ≤ ι o f ∧ ι o f ≤ 16) : 0 ≤ ztr o f a ι v o f ∧ ztr o f a ι v o f ≤ 16 := by
  unfold ztr
  split
  · rw [iup_s]; omega
  · exact h0
theorem ztl_o {o : Nat} {f : Int} {a : Nat} {b : Nat} {x : Int} (h1 : b ≠ o ∨ x ≠ f) (h2 : b ≠ a) : ∀ (vs : List Int) (ι : zi), ztl o f a ι vs b x = ι b x
  | [], _ => rfl
  | v :: vs, ι => by
    show ztl o f a (ztr o f a ι v) vs b x = _
    rw [ztl_o h1 h2 vs, ztr_o h1 h2]
theorem ztl_b {o : Nat} {f : Int} {a : Nat} (h : o ≠ a) : ∀ (vs : List Int) (ι : zi), (0 ≤ ι o f ∧ ι o f ≤ 16) → 0 ≤ ztl o f a ι vs o f ∧ ztl o f a ι vs o f ≤ 16
  | [], _, h0 => h0
  | v :: vs, ι, h0 => ztl_b h vs _ (ztr_b h h0)
theorem ztl_app {o : Nat} {f : Int} {a : Nat} (us vs : List Int) (ι : zi) : ztl o f a (ztl o f a ι us) vs = ztl o f a ι (us ++ vs) := by
  unfold ztl
  rw [List.foldl_append]
theorem ztl_w {o : Nat} {f : Int} {a : Nat} (h1 : 179 ≠ o) (h2 : 179 ≠ a) (vs : List Int) (ι : zi) (r : Int) : wb r (ztl o f a ι vs) = wb r ι := by
  funext j
  by_cases g : 0 ≤ j ∧ j < 38
  · rw [wb_i _ _ g.1 g.2, wb_i _ _ g.1 g.2, ztl_o (Or.inl h1) h2]
  · rw [wb_tz _ _ j (by omega), wb_tz _ _ j (by omega)]
/-! what a street gives, and the bodies that begin -/
def zmk (R : zr) (s : Int) : Int × List Int := if R (6 + s) = 2 then (2 * (s + R (14 + s)), [24, 21, 20]) else if R (6 + s) = 3 then (s + R (14 + s) - 1000, [22, 21, 20]) else (s + R (14 + s), [21, 20])
def zs11 (R : zr) (s : Int) : Int × List Int := (R (22 + s) + (zmk R s).1, [11, 10] ++ (zmk R s).2)
def zsz (R : zr) (s : Int) : Int × List Int := if R (6 + s) = 2 then (-(zs11 R s).1, [12] ++ (zs11 R s).2) else if R (6 + s) = 4 then (R (22 + s) - 100, [13, 10]) else if R (6 + s) = 5 then (2 * (R (22 + s) - 100), [14, 13, 10]) else zs11 R s
def zm23 (R : zr) (s : Int) : Int × List Int := (s - (zsz R s).1, [23, 20] ++ (zsz R s).2)
def zask (R : zr) (s w : Int) : Int × List Int := if w = 0 then zsz R s else if 4 ≤ R (6 + s) then zm23 R s else zmk R s
set_option maxRecDepth 100000 in
theorem c_traces (ht : 0 ≤ ι 178 16 ∧ ι 178 16 ≤ 16) {x : Int} : zCi l (zc D ad L z) mX7_traces 0 [zR 178, zI x] ι (fun v ι' => v = none ∧ ι' = ztl 178 16 187 ι [x]) := by
  refine zCt_of (by decide) (Nat.le_of_ble_eq_true rfl) 0 rfl ?_
  refine g_aload_n (x := 178) rfl dX7_traces_0 ?_
  refine g_get fgX7_211 zcl_7 (congrArg Prod.fst sh_178) (by decide) ig_178_16 dX7_traces_1 ?_
  refine g_bipush (x := 16) (by decide) dX7_traces_4 ?_
  refine g_icmp_ge ⟨by omega, by omega⟩ (by decide) (t := 29) dX7_traces_6 (by decide) (fun h6 => ?_) (fun h6 => ?_)
  · exact i_ret rfl dX7_traces_29 (⟨rfl, by unfold ztl; simp only [List.foldl]; unfold ztr; rw [if_neg (by omega)]⟩)
  · refine g_aload_n (x := 178) rfl dX7_traces_9 ?_
    refine g_get fgX7_35 zcl_7 (congrArg Prod.fst sh_178) (by decide) rg_178_15 dX7_traces_10 ?_
    refine g_aload_n (x := 178) rfl dX7_traces_13 ?_
    refine g_get fgX7_211 zcl_7 (congrArg Prod.fst sh_178) (by decide) ig_178_16 dX7_traces_14 ?_
    refine g_iload_n (x := x) rfl dX7_traces_17 ?_
    obtain ⟨ι1, hι1⟩ : ∃ y, y = iup ι 187 (ι 178 16) x := ⟨_, rfl⟩
    refine i_iast sh_187 (by decide) (by decide) (by omega) (by omega) (by decide) (ι1 := ι1) (by rw [hι1]; exact au_187) dX7_traces_18 ?_
    refine g_aload_n (x := 178) rfl dX7_traces_19 ?_
    refine g_dupR dX7_traces_20 ?_
    refine g_get fgX7_211 zcl_7 (congrArg Prod.fst sh_178) (by decide) ig_178_16 dX7_traces_21 ?_
    refine g_iconst (x := 1) rfl dX7_traces_24 ?_
    refine g_iadd dX7_traces_25 ?_
    rw [show ι1 178 16 = ι 178 16 by rw [hι1, iup_n _ (Or.inl (by decide))]]
    obtain ⟨ι2, hι2⟩ : ∃ y, y = iup ι1 178 16 ((ι 178 16) + 1) := ⟨_, rfl⟩
    refine i_put fwX7_211 zcl_7 (congrArg Prod.fst sh_178) (by decide) (by decide) (ι1 := ι2) (by rw [hι2]; exact iu_178_16) dX7_traces_26 ?_
    exact i_ret rfl dX7_traces_29 (⟨rfl, by unfold ztl; simp only [List.foldl]; unfold ztr; rw [if_pos (by omega), hι2, hι1]⟩)

set_option maxRecDepth 100000 in
theorem c_size10 (ht : 0 ≤ ι 178 16 ∧ ι 178 16 ≤ 16) {s : Int} (hs : 0 ≤ s ∧ s < 8) : zCi l (zc D ad L z) mX7_size10 1 [zR 178, zI s] ι (fun v ι' => v = some (zI (wb 0 ι (22 + s))) ∧ ι' = ztl 178 16 187 ι [10]) := by
  refine zCt_of (by decide) (Nat.le_of_ble_eq_true rfl) 0 rfl ?_
  refine g_aload_n (x := 178) rfl dX7_size10_0 ?_
  refine g_bipush (x := 10) (by decide) dX7_size10_1 ?_
  refine i_callV mvX7_traces tw_1142 (ci := 7) (congrArg Prod.fst sh_178) rfl (by decide) (c_traces ht) (by decide) (st' := []) rfl (Nat.le_of_ble_eq_true rfl) rfl dX7_size10_3 (fun v_1 ι1 hq_3 => ?_)
  obtain ⟨rfl, hι1⟩ := hq_3
  have g1 := ztl_b (o := 178) (f := 16) (a := 187) (by decide) [10] ι ht
  rw [← hι1] at g1
  refine g_aload_n (x := 178) rfl dX7_size10_6 ?_
  refine g_get fgX7_7 zcl_7 (congrArg Prod.fst sh_178) (by decide) rg_178_0 dX7_size10_7 ?_
  refine g_bipush (x := 22) (by decide) dX7_size10_10 ?_
  refine g_iload_n (x := s) rfl dX7_size10_12 ?_
  refine g_iadd dX7_size10_13 ?_
  refine g_iald sh_179 (by decide) (by omega) (by omega) (by decide) ag_179 dX7_size10_14 ?_
  exact i_iret rfl dX7_size10_15 (⟨by rw [hι1, ztl_o (Or.inl (by decide)) (by decide), w0 ι (by omega) (by omega)], hι1⟩)

set_option maxRecDepth 100000 in
theorem c_mark20 (ht : 0 ≤ ι 178 16 ∧ ι 178 16 ≤ 16) {s : Int} (hs : 0 ≤ s ∧ s < 8) : zCi l (zc D ad L z) mX7_mark20 1 [zR 178, zI s] ι (fun v ι' => v = some (zI s) ∧ ι' = ztl 178 16 187 ι [20]) := by
  refine zCt_of (by decide) (Nat.le_of_ble_eq_true rfl) 0 rfl ?_
  refine g_aload_n (x := 178) rfl dX7_mark20_0 ?_
  refine g_bipush (x := 20) (by decide) dX7_mark20_1 ?_
  refine i_callV mvX7_traces tw_1142 (ci := 7) (congrArg Prod.fst sh_178) rfl (by decide) (c_traces ht) (by decide) (st' := []) rfl (Nat.le_of_ble_eq_true rfl) rfl dX7_mark20_3 (fun v_1 ι1 hq_3 => ?_)
  obtain ⟨rfl, hι1⟩ := hq_3
  have g1 := ztl_b (o := 178) (f := 16) (a := 187) (by decide) [20] ι ht
  rw [← hι1] at g1
  refine g_iload_n (x := s) rfl dX7_mark20_6 ?_
  exact i_iret rfl dX7_mark20_7 (⟨rfl, hι1⟩)

set_option maxRecDepth 100000 in
theorem c_mark21 (ht : 0 ≤ ι 178 16 ∧ ι 178 16 ≤ 16) {s : Int} (hs : 0 ≤ s ∧ s < 8) : zCi l (zc D ad L z) mX7_mark21 2 [zR 178, zI s] ι (fun v ι' => v = some (zI (s + wb 0 ι (14 + s))) ∧ ι' = ztl 178 16 187 ι [21, 20]) := by
  refine zCt_of (by decide) (Nat.le_of_ble_eq_true rfl) 0 rfl ?_
  refine g_aload_n (x := 178) rfl dX7_mark21_0 ?_
  refine g_bipush (x := 21) (by decide) dX7_mark21_1 ?_
  refine i_callV mvX7_traces tw_1142 (ci := 7) (congrArg Prod.fst sh_178) rfl (by decide) (c_traces ht) (by decide) (st' := []) rfl (Nat.le_of_ble_eq_true rfl) rfl dX7_mark21_3 (fun v_1 ι1 hq_3 => ?_)
  obtain ⟨rfl, hι1⟩ := hq_3
  have g1 := ztl_b (o := 178) (f := 16) (a := 187) (by decide) [21] ι ht
  rw [← hι1] at g1
  refine g_aload_n (x := 178) rfl dX7_mark21_6 ?_
  refine g_iload_n (x := s) rfl dX7_mark21_7 ?_
  refine i_callV mvX7_mark20 tw_1162 (ci := 7) (congrArg Prod.fst sh_178) rfl (by decide) (c_mark20 g1 hs) (by decide) (st' := []) rfl (Nat.le_of_ble_eq_true rfl) rfl dX7_mark21_8 (fun v_2 ι2 hq_8 => ?_)
  obtain ⟨rfl, hι2⟩ := hq_8
  refine g_aload_n (x := 178) rfl dX7_mark21_11 ?_
  refine g_get fgX7_7 zcl_7 (congrArg Prod.fst sh_178) (by decide) rg_178_0 dX7_mark21_12 ?_
  refine g_bipush (x := 14) (by decide) dX7_mark21_15 ?_
  refine g_iload_n (x := s) rfl dX7_mark21_17 ?_
  refine g_iadd dX7_mark21_18 ?_
  refine g_iald sh_179 (by decide) (by omega) (by omega) (by decide) ag_179 dX7_mark21_19 ?_
  refine g_iadd dX7_mark21_20 ?_
  exact i_iret rfl dX7_mark21_21 (⟨by rw [hι2, hι1, ztl_app, ztl_o (Or.inl (by decide)) (by decide), w0 ι (by omega) (by omega)], by rw [hι2, hι1, ztl_app]; rfl⟩)

set_option maxRecDepth 100000 in
theorem c_markOf (ht : 0 ≤ ι 178 16 ∧ ι 178 16 ≤ 16) {s : Int} (hs : 0 ≤ s ∧ s < 8) (hk : 1 ≤ wb 0 ι (6 + s) ∧ wb 0 ι (6 + s) ≤ 5) : zCi l (zc D ad L z) mX7_markOf 3 [zR 178, zI s] ι (fun v ι' => v = some (zI (zmk (wb 0 ι) s).1) ∧ ι' = ztl 178 16 187 ι (zmk (wb 0 ι) s).2) := by
  refine zCt_of (by decide) (Nat.le_of_ble_eq_true rfl) 0 rfl ?_
  refine g_aload_n (x := 178) rfl dX7_markOf_0 ?_
  refine g_get fgX7_7 zcl_7 (congrArg Prod.fst sh_178) (by decide) rg_178_0 dX7_markOf_1 ?_
  refine g_bipush (x := 6) (by decide) dX7_markOf_4 ?_
  refine g_iload_n (x := s) rfl dX7_markOf_6 ?_
  refine g_iadd dX7_markOf_7 ?_
  refine g_iald sh_179 (by decide) (by omega) (by omega) (by decide) ag_179 dX7_markOf_8 ?_
  rw [← w0 ι (i := 6 + s) (by omega) (by omega)]
  by_cases hsv2 : (wb 0 ι (6 + s)) = 2
  · refine g_lsw ⟨by omega, by omega⟩ dX7_markOf_9 rfl (off := 27) (by rw [hsv2]; rfl) (t := 36) (by decide) ?_
    refine g_aload_n (x := 178) rfl dX7_markOf_36 ?_
    refine g_bipush (x := 24) (by decide) dX7_markOf_37 ?_
    refine i_callV mvX7_traces tw_1142 (ci := 7) (congrArg Prod.fst sh_178) rfl (by decide) (c_traces ht) (by decide) (st' := []) rfl (Nat.le_of_ble_eq_true rfl) rfl dX7_markOf_39 (fun v_1 ι1 hq_39 => ?_)
    obtain ⟨rfl, hι1⟩ := hq_39
    have g1 := ztl_b (o := 178) (f := 16) (a := 187) (by decide) [24] ι ht
    rw [← hι1] at g1
    refine g_iconst (x := 2) rfl dX7_markOf_42 ?_
    refine g_aload_n (x := 178) rfl dX7_markOf_43 ?_
    refine g_iload_n (x := s) rfl dX7_markOf_44 ?_
    refine i_callV mvX7_mark21 tw_1158 (ci := 7) (congrArg Prod.fst sh_178) rfl (by decide) (c_mark21 g1 hs) (by decide) (st' := [zI 2]) rfl (Nat.le_of_ble_eq_true rfl) rfl dX7_markOf_45 (fun v_2 ι2 hq_45 => ?_)
    obtain ⟨rfl, hι2⟩ := hq_45
    refine g_imul dX7_markOf_48 ?_
    exact i_iret rfl dX7_markOf_49 (⟨by unfold zmk; rw [if_pos hsv2, hι1, ztl_w (by decide) (by decide)], by unfold zmk; rw [if_pos hsv2, hι2, hι1, ztl_app]; rfl⟩)
  by_cases hsv3 : (wb 0 ι (6 + s)) = 3
  · refine g_lsw ⟨by omega, by omega⟩ dX7_markOf_9 rfl (off := 41) (by rw [hsv3]; rfl) (t := 50) (by decide) ?_
    refine g_aload_n (x := 178) rfl dX7_markOf_50 ?_
    refine g_bipush (x := 22) (by decide) dX7_markOf_51 ?_
    refine i_callV mvX7_traces tw_1142 (ci := 7) (congrArg Prod.fst sh_178) rfl (by decide) (c_traces ht) (by decide) (st' := []) rfl (Nat.le_of_ble_eq_true rfl) rfl dX7_markOf_53 (fun v_3 ι1 hq_53 => ?_)
    obtain ⟨rfl, hι1⟩ := hq_53
    have g1 := ztl_b (o := 178) (f := 16) (a := 187) (by decide) [22] ι ht
    rw [← hι1] at g1
    refine g_aload_n (x := 178) rfl dX7_markOf_56 ?_
    refine g_iload_n (x := s) rfl dX7_markOf_57 ?_
    refine i_callV mvX7_mark21 tw_1158 (ci := 7) (congrArg Prod.fst sh_178) rfl (by decide) (c_mark21 g1 hs) (by decide) (st' := []) rfl (Nat.le_of_ble_eq_true rfl) rfl dX7_markOf_58 (fun v_4 ι2 hq_58 => ?_)
    obtain ⟨rfl, hι2⟩ := hq_58
    refine g_sipush (x := 1000) (by decide) dX7_markOf_61 ?_
    refine g_isub dX7_markOf_64 ?_
    exact i_iret rfl dX7_markOf_65 (⟨by unfold zmk; rw [if_neg hsv2, if_pos hsv3, hι1, ztl_w (by decide) (by decide)], by unfold zmk; rw [if_neg hsv2, if_pos hsv3, hι2, hι1, ztl_app]; rfl⟩)
  refine g_lsw ⟨by omega, by omega⟩ dX7_markOf_9 rfl (off := 57) (by simp [Op.lookupswitch.offset, hsv2, hsv3, Ne.symm hsv2, Ne.symm hsv3]) (t := 66) (by decide) ?_
  refine g_aload_n (x := 178) rfl dX7_markOf_66 ?_
  refine g_iload_n (x := s) rfl dX7_markOf_67 ?_
  refine i_callV mvX7_mark21 tw_1158 (ci := 7) (congrArg Prod.fst sh_178) rfl (by decide) (c_mark21 ht hs) (by decide) (st' := []) rfl (Nat.le_of_ble_eq_true rfl) rfl dX7_markOf_68 (fun v_5 ι2 hq_68 => ?_)
  obtain ⟨rfl, hι2⟩ := hq_68
  exact i_iret rfl dX7_markOf_71 (⟨by unfold zmk; rw [if_neg hsv2, if_neg hsv3], by unfold zmk; rw [if_neg hsv2, if_neg hsv3, hι2]⟩)

set_option maxRecDepth 100000 in
theorem c_size11 (ht : 0 ≤ ι 178 16 ∧ ι 178 16 ≤ 16) {s : Int} (hs : 0 ≤ s ∧ s < 8) (hk : 1 ≤ wb 0 ι (6 + s) ∧ wb 0 ι (6 + s) ≤ 5) : zCi l (zc D ad L z) mX7_size11 4 [zR 178, zI s] ι (fun v ι' => v = some (zI (zs11 (wb 0 ι) s).1) ∧ ι' = ztl 178 16 187 ι (zs11 (wb 0 ι) s).2) := by
  refine zCt_of (by decide) (Nat.le_of_ble_eq_true rfl) 1 rfl ?_
  refine g_aload_n (x := 178) rfl dX7_size11_0 ?_
  refine g_bipush (x := 11) (by decide) dX7_size11_1 ?_
  refine i_callV mvX7_traces tw_1142 (ci := 7) (congrArg Prod.fst sh_178) rfl (by decide) (c_traces ht) (by decide) (st' := []) rfl (Nat.le_of_ble_eq_true rfl) rfl dX7_size11_3 (fun v_1 ι1 hq_3 => ?_)
  obtain ⟨rfl, hι1⟩ := hq_3
  have g1 := ztl_b (o := 178) (f := 16) (a := 187) (by decide) [11] ι ht
  rw [← hι1] at g1
  refine g_aload_n (x := 178) rfl dX7_size11_6 ?_
  refine g_iload_n (x := s) rfl dX7_size11_7 ?_
  refine i_callV mvX7_size10 tw_1150 (ci := 7) (congrArg Prod.fst sh_178) rfl (by decide) (c_size10 g1 hs) (by decide) (st' := []) rfl (Nat.le_of_ble_eq_true rfl) rfl dX7_size11_8 (fun v_2 ι2 hq_8 => ?_)
  obtain ⟨rfl, hι2⟩ := hq_8
  have g2 := ztl_b (o := 178) (f := 16) (a := 187) (by decide) [10] ι1 g1
  rw [← hι2] at g2
  have ew : wb 0 ι2 = wb 0 ι := by rw [hι2, hι1, ztl_w (by decide) (by decide), ztl_w (by decide) (by decide)]
  have ew1 : wb 0 ι1 = wb 0 ι := by rw [hι1, ztl_w (by decide) (by decide)]
  refine g_istore_n (ls' := [some (zR 178), some (zI s), some (zI (wb 0 ι1 (22 + s)))]) dX7_size11_11 (by decide) rfl ?_
  refine g_iload_n (x := (wb 0 ι1 (22 + s))) rfl dX7_size11_12 ?_
  refine g_aload_n (x := 178) rfl dX7_size11_13 ?_
  refine g_iload_n (x := s) rfl dX7_size11_14 ?_
  refine i_callV mvX7_markOf tw_1154 (ci := 7) (congrArg Prod.fst sh_178) rfl (by decide) (c_markOf g2 hs (by rw [ew]; exact hk)) (by decide) (st' := [zI (wb 0 ι1 (22 + s))]) rfl (Nat.le_of_ble_eq_true rfl) rfl dX7_size11_15 (fun v_3 ι3 hq_15 => ?_)
  obtain ⟨rfl, hι3⟩ := hq_15
  refine g_iadd dX7_size11_18 ?_
  exact i_iret rfl dX7_size11_19 (⟨by unfold zs11; rw [ew, ew1], by rw [hι3, ew, hι2, hι1, ztl_app, ztl_app]; rfl⟩)

set_option maxRecDepth 100000 in
theorem c_size13 (ht : 0 ≤ ι 178 16 ∧ ι 178 16 ≤ 16) {s : Int} (hs : 0 ≤ s ∧ s < 8) : zCi l (zc D ad L z) mX7_size13 2 [zR 178, zI s] ι (fun v ι' => v = some (zI (wb 0 ι (22 + s) - 100)) ∧ ι' = ztl 178 16 187 ι [13, 10]) := by
  refine zCt_of (by decide) (Nat.le_of_ble_eq_true rfl) 0 rfl ?_
  refine g_aload_n (x := 178) rfl dX7_size13_0 ?_
  refine g_bipush (x := 13) (by decide) dX7_size13_1 ?_
  refine i_callV mvX7_traces tw_1142 (ci := 7) (congrArg Prod.fst sh_178) rfl (by decide) (c_traces ht) (by decide) (st' := []) rfl (Nat.le_of_ble_eq_true rfl) rfl dX7_size13_3 (fun v_1 ι1 hq_3 => ?_)
  obtain ⟨rfl, hι1⟩ := hq_3
  have g1 := ztl_b (o := 178) (f := 16) (a := 187) (by decide) [13] ι ht
  rw [← hι1] at g1
  refine g_aload_n (x := 178) rfl dX7_size13_6 ?_
  refine g_iload_n (x := s) rfl dX7_size13_7 ?_
  refine i_callV mvX7_size10 tw_1150 (ci := 7) (congrArg Prod.fst sh_178) rfl (by decide) (c_size10 g1 hs) (by decide) (st' := []) rfl (Nat.le_of_ble_eq_true rfl) rfl dX7_size13_8 (fun v_2 ι2 hq_8 => ?_)
  obtain ⟨rfl, hι2⟩ := hq_8
  have ew1 : wb 0 ι1 = wb 0 ι := by rw [hι1, ztl_w (by decide) (by decide)]
  refine g_bipush (x := 100) (by decide) dX7_size13_11 ?_
  refine g_isub dX7_size13_13 ?_
  exact i_iret rfl dX7_size13_14 (⟨by rw [ew1], by rw [hι2, hι1, ztl_app]; rfl⟩)

set_option maxRecDepth 100000 in
theorem c_sizeOf (ht : 0 ≤ ι 178 16 ∧ ι 178 16 ≤ 16) {s : Int} (hs : 0 ≤ s ∧ s < 8) (hk : 1 ≤ wb 0 ι (6 + s) ∧ wb 0 ι (6 + s) ≤ 5) : zCi l (zc D ad L z) mX7_sizeOf 5 [zR 178, zI s] ι (fun v ι' => v = some (zI (zsz (wb 0 ι) s).1) ∧ ι' = ztl 178 16 187 ι (zsz (wb 0 ι) s).2) := by
  refine zCt_of (by decide) (Nat.le_of_ble_eq_true rfl) 0 rfl ?_
  refine g_aload_n (x := 178) rfl dX7_sizeOf_0 ?_
  refine g_get fgX7_7 zcl_7 (congrArg Prod.fst sh_178) (by decide) rg_178_0 dX7_sizeOf_1 ?_
  refine g_bipush (x := 6) (by decide) dX7_sizeOf_4 ?_
  refine g_iload_n (x := s) rfl dX7_sizeOf_6 ?_
  refine g_iadd dX7_sizeOf_7 ?_
  refine g_iald sh_179 (by decide) (by omega) (by omega) (by decide) ag_179 dX7_sizeOf_8 ?_
  rw [← w0 ι (i := 6 + s) (by omega) (by omega)]
  by_cases hsw : (wb 0 ι (6 + s)) < 2 ∨ 5 < (wb 0 ι (6 + s))
  · refine g_tswOut ⟨by omega, by omega⟩ dX7_sizeOf_9 hsw (t := 73) (by decide) ?_
    refine g_aload_n (x := 178) rfl dX7_sizeOf_73 ?_
    refine g_iload_n (x := s) rfl dX7_sizeOf_74 ?_
    refine i_callV mvX7_size11 tw_1146 (ci := 7) (congrArg Prod.fst sh_178) rfl (by decide) (c_size11 ht hs hk) (by decide) (st' := []) rfl (Nat.le_of_ble_eq_true rfl) rfl dX7_sizeOf_75 (fun v_1 ι2 hq_75 => ?_)
    obtain ⟨rfl, hι2⟩ := hq_75
    exact i_iret rfl dX7_sizeOf_78 (⟨by unfold zsz; rw [if_neg (by omega), if_neg (by omega), if_neg (by omega)], by unfold zsz; rw [if_neg (by omega), if_neg (by omega), if_neg (by omega), hι2]⟩)
  · rcases (show (wb 0 ι (6 + s)) = 2 ∨ (wb 0 ι (6 + s)) = 3 ∨ (wb 0 ι (6 + s)) = 4 ∨ (wb 0 ι (6 + s)) = 5 by omega) with hsv | hsv | hsv | hsv
    · refine g_tswIn ⟨by omega, by omega⟩ dX7_sizeOf_9 (by omega) (by omega) (off := 31) (by rw [hsv]; rfl) (t := 40) (by decide) ?_
      refine g_aload_n (x := 178) rfl dX7_sizeOf_40 ?_
      refine g_bipush (x := 12) (by decide) dX7_sizeOf_41 ?_
      refine i_callV mvX7_traces tw_1142 (ci := 7) (congrArg Prod.fst sh_178) rfl (by decide) (c_traces ht) (by decide) (st' := []) rfl (Nat.le_of_ble_eq_true rfl) rfl dX7_sizeOf_43 (fun v_2 ι1 hq_43 => ?_)
      obtain ⟨rfl, hι1⟩ := hq_43
      have g1 := ztl_b (o := 178) (f := 16) (a := 187) (by decide) [12] ι ht
      rw [← hι1] at g1
      have ew1 : wb 0 ι1 = wb 0 ι := by rw [hι1, ztl_w (by decide) (by decide)]
      refine g_aload_n (x := 178) rfl dX7_sizeOf_46 ?_
      refine g_iload_n (x := s) rfl dX7_sizeOf_47 ?_
      refine i_callV mvX7_size11 tw_1146 (ci := 7) (congrArg Prod.fst sh_178) rfl (by decide) (c_size11 g1 hs (by rw [ew1]; exact hk)) (by decide) (st' := []) rfl (Nat.le_of_ble_eq_true rfl) rfl dX7_sizeOf_48 (fun v_3 ι2 hq_48 => ?_)
      obtain ⟨rfl, hι2⟩ := hq_48
      refine g_ineg dX7_sizeOf_51 ?_
      exact i_iret rfl dX7_sizeOf_52 (⟨by unfold zsz; rw [if_pos hsv, ew1], by unfold zsz; rw [if_pos hsv, hι2, ew1, hι1, ztl_app]⟩)
    · refine g_tswIn ⟨by omega, by omega⟩ dX7_sizeOf_9 (by omega) (by omega) (off := 64) (by rw [hsv]; rfl) (t := 73) (by decide) ?_
      refine g_aload_n (x := 178) rfl dX7_sizeOf_73 ?_
      refine g_iload_n (x := s) rfl dX7_sizeOf_74 ?_
      refine i_callV mvX7_size11 tw_1146 (ci := 7) (congrArg Prod.fst sh_178) rfl (by decide) (c_size11 ht hs hk) (by decide) (st' := []) rfl (Nat.le_of_ble_eq_true rfl) rfl dX7_sizeOf_75 (fun v_4 ι2 hq_75 => ?_)
      obtain ⟨rfl, hι2⟩ := hq_75
      exact i_iret rfl dX7_sizeOf_78 (⟨by unfold zsz; rw [if_neg (by omega), if_neg (by omega), if_neg (by omega)], by unfold zsz; rw [if_neg (by omega), if_neg (by omega), if_neg (by omega), hι2]⟩)
    · refine g_tswIn ⟨by omega, by omega⟩ dX7_sizeOf_9 (by omega) (by omega) (off := 44) (by rw [hsv]; rfl) (t := 53) (by decide) ?_
      refine g_aload_n (x := 178) rfl dX7_sizeOf_53 ?_
      refine g_iload_n (x := s) rfl dX7_sizeOf_54 ?_
      refine i_callV mvX7_size13 tw_1166 (ci := 7) (congrArg Prod.fst sh_178) rfl (by decide) (c_size13 ht hs) (by decide) (st' := []) rfl (Nat.le_of_ble_eq_true rfl) rfl dX7_sizeOf_55 (fun v_5 ι2 hq_55 => ?_)
      obtain ⟨rfl, hι2⟩ := hq_55
      exact i_iret rfl dX7_sizeOf_58 (⟨by unfold zsz; rw [if_neg (by omega), if_pos hsv], by unfold zsz; rw [if_neg (by omega), if_pos hsv, hι2]⟩)
    · refine g_tswIn ⟨by omega, by omega⟩ dX7_sizeOf_9 (by omega) (by omega) (off := 50) (by rw [hsv]; rfl) (t := 59) (by decide) ?_
      refine g_aload_n (x := 178) rfl dX7_sizeOf_59 ?_
      refine g_bipush (x := 14) (by decide) dX7_sizeOf_60 ?_
      refine i_callV mvX7_traces tw_1142 (ci := 7) (congrArg Prod.fst sh_178) rfl (by decide) (c_traces ht) (by decide) (st' := []) rfl (Nat.le_of_ble_eq_true rfl) rfl dX7_sizeOf_62 (fun v_6 ι1 hq_62 => ?_)
      obtain ⟨rfl, hι1⟩ := hq_62
      have g1 := ztl_b (o := 178) (f := 16) (a := 187) (by decide) [14] ι ht
      rw [← hι1] at g1
      have ew1 : wb 0 ι1 = wb 0 ι := by rw [hι1, ztl_w (by decide) (by decide)]
      refine g_iconst (x := 2) rfl dX7_sizeOf_65 ?_
      refine g_aload_n (x := 178) rfl dX7_sizeOf_66 ?_
      refine g_iload_n (x := s) rfl dX7_sizeOf_67 ?_
      refine i_callV mvX7_size13 tw_1166 (ci := 7) (congrArg Prod.fst sh_178) rfl (by decide) (c_size13 g1 hs) (by decide) (st' := [zI 2]) rfl (Nat.le_of_ble_eq_true rfl) rfl dX7_sizeOf_68 (fun v_7 ι2 hq_68 => ?_)
      obtain ⟨rfl, hι2⟩ := hq_68
      refine g_imul dX7_sizeOf_71 ?_
      exact i_iret rfl dX7_sizeOf_72 (⟨by unfold zsz; rw [if_neg (by omega), if_neg (by omega), if_pos hsv, ew1], by unfold zsz; rw [if_neg (by omega), if_neg (by omega), if_pos hsv, hι2, hι1, ztl_app]; rfl⟩)

set_option maxRecDepth 100000 in
theorem c_mark23 (ht : 0 ≤ ι 178 16 ∧ ι 178 16 ≤ 16) {s : Int} (hs : 0 ≤ s ∧ s < 8) (hk : 1 ≤ wb 0 ι (6 + s) ∧ wb 0 ι (6 + s) ≤ 5) : zCi l (zc D ad L z) mX7_mark23 6 [zR 178, zI s] ι (fun v ι' => v = some (zI (zm23 (wb 0 ι) s).1) ∧ ι' = ztl 178 16 187 ι (zm23 (wb 0 ι) s).2) := by
  refine zCt_of (by decide) (Nat.le_of_ble_eq_true rfl) 1 rfl ?_
  refine g_aload_n (x := 178) rfl dX7_mark23_0 ?_
  refine g_bipush (x := 23) (by decide) dX7_mark23_1 ?_
  refine i_callV mvX7_traces tw_1142 (ci := 7) (congrArg Prod.fst sh_178) rfl (by decide) (c_traces ht) (by decide) (st' := []) rfl (Nat.le_of_ble_eq_true rfl) rfl dX7_mark23_3 (fun v_1 ι1 hq_3 => ?_)
  obtain ⟨rfl, hι1⟩ := hq_3
  have g1 := ztl_b (o := 178) (f := 16) (a := 187) (by decide) [23] ι ht
  rw [← hι1] at g1
  refine g_aload_n (x := 178) rfl dX7_mark23_6 ?_
  refine g_iload_n (x := s) rfl dX7_mark23_7 ?_
  refine i_callV mvX7_mark20 tw_1162 (ci := 7) (congrArg Prod.fst sh_178) rfl (by decide) (c_mark20 g1 hs) (by decide) (st' := []) rfl (Nat.le_of_ble_eq_true rfl) rfl dX7_mark23_8 (fun v_2 ι2 hq_8 => ?_)
  obtain ⟨rfl, hι2⟩ := hq_8
  have g2 := ztl_b (o := 178) (f := 16) (a := 187) (by decide) [20] ι1 g1
  rw [← hι2] at g2
  have ew : wb 0 ι2 = wb 0 ι := by rw [hι2, hι1, ztl_w (by decide) (by decide), ztl_w (by decide) (by decide)]
  refine g_istore_n (ls' := [some (zR 178), some (zI s), some (zI s)]) dX7_mark23_11 (by decide) rfl ?_
  refine g_iload_n (x := s) rfl dX7_mark23_12 ?_
  refine g_aload_n (x := 178) rfl dX7_mark23_13 ?_
  refine g_iload_n (x := s) rfl dX7_mark23_14 ?_
  refine i_callV mvX7_sizeOf tw_1138 (ci := 7) (congrArg Prod.fst sh_178) rfl (by decide) (c_sizeOf g2 hs (by rw [ew]; exact hk)) (by decide) (st' := [zI s]) rfl (Nat.le_of_ble_eq_true rfl) rfl dX7_mark23_15 (fun v_3 ι3 hq_15 => ?_)
  obtain ⟨rfl, hι3⟩ := hq_15
  refine g_isub dX7_mark23_18 ?_
  exact i_iret rfl dX7_mark23_19 (⟨by unfold zm23; rw [ew], by rw [hι3, ew, hι2, hι1, ztl_app, ztl_app]; rfl⟩)

set_option maxRecDepth 100000 in
theorem c_mAsk (hT : zTM (wb 0 ι)) {s w : Int} (hs : zB s) (hw : zB w) : zCi l (zc D ad L z) mX7_ask 7 [zR 178, zI s, zI w] ι (fun v ι' => v = some (zI (if ¬ ((0 ≤ s ∧ s < wb 0 ι 0) ∧ (0 ≤ w ∧ w ≤ 1)) then -1000001 else (zask (wb 0 ι) s w).1)) ∧ ι' = if (0 ≤ s ∧ s < wb 0 ι 0) ∧ (0 ≤ w ∧ w ≤ 1) then ztl 178 16 187 (iup ι 178 16 0) (zask (wb 0 ι) s w).2 else ι) := by
  refine zCt_of (by decide) (Nat.le_of_ble_eq_true rfl) 0 rfl ?_
  obtain ⟨hV, hNB, hH9⟩ := id hT
  obtain ⟨hV0, hV1, hV2, hV3, hV4, hV5, hVk, hVw⟩ := id hV
  have q0 := w0 ι (i := 0) (by decide) (by decide)
  have q1 := w0 ι (i := 1) (by decide) (by decide)
  have q2 := w0 ι (i := 2) (by decide) (by decide)
  have q4 := w0 ι (i := 4) (by decide) (by decide)
  refine g_aload_n (x := 178) rfl dX7_ask_0 ?_
  refine g_iload_n (x := s) rfl dX7_ask_1 ?_
  refine i_callVp mvX7_isStreet tw_1002 (ci := 7) (congrArg Prod.fst sh_178) rfl (by decide) (c_isStreet ⟨by omega, by omega⟩ (by omega)) (by decide) (st' := []) rfl (Nat.le_of_ble_eq_true rfl) rfl dX7_ask_2 ?_
  refine g_nm (fun b2 hq0 => ?_)
  have hb2 : ((0 ≤ s ∧ s ≤ ι 179 0 - 1) ∧ b2 = 1) ∨ (¬ (0 ≤ s ∧ s ≤ ι 179 0 - 1) ∧ b2 = 0) := zb_c hq0
  clear hq0
  refine g_if_eq ⟨by omega, by omega⟩ (t := 18) dX7_ask_5 (by decide) (fun h5 => ?_) (fun h5 => ?_)
  · refine g_ldc (x := -1000001) tw_880 (by decide) dX7_ask_18 ?_
    exact i_iret rfl dX7_ask_20 (⟨by rw [if_pos (by omega)], by rw [if_neg (by omega)]⟩)
  · refine g_iload_n (x := w) rfl dX7_ask_8 ?_
    refine g_i2l ⟨by omega, by omega⟩ dX7_ask_9 ?_
    refine g_lconst (x := 0) (by decide) dX7_ask_10 ?_
    refine g_lconst (x := 1) (by decide) dX7_ask_11 ?_
    refine i_callSp msX7_in tw_876 (c_in ⟨by omega, by omega⟩ ⟨by omega, by omega⟩ ⟨by omega, by omega⟩) (by decide) (st' := []) rfl (Nat.le_of_ble_eq_true rfl) rfl dX7_ask_12 ?_
    refine g_nm (fun b12 hq0 => ?_)
    have hb12 : ((0 ≤ w ∧ w ≤ 1) ∧ b12 = 1) ∨ (¬ (0 ≤ w ∧ w ≤ 1) ∧ b12 = 0) := zb_c hq0
    clear hq0
    refine g_if_ne ⟨by omega, by omega⟩ (t := 21) dX7_ask_15 (by decide) (fun h15 => ?_) (fun h15 => ?_)
    · refine g_aload_n (x := 178) rfl dX7_ask_21 ?_
      refine g_iconst (x := 0) rfl dX7_ask_22 ?_
      obtain ⟨ι1, hι1⟩ : ∃ y, y = iup ι 178 16 0 := ⟨_, rfl⟩
      refine i_put fwX7_211 zcl_7 (congrArg Prod.fst sh_178) (by decide) (by decide) (ι1 := ι1) (by rw [hι1]; exact iu_178_16) dX7_ask_23 ?_
      have hk3 := (hVk s (by omega) (by omega)).1
      have g1 : 0 ≤ ι1 178 16 ∧ ι1 178 16 ≤ 16 := by rw [hι1, iup_s]; decide
      have ew1 : wb 0 ι1 = wb 0 ι := by rw [hι1, wb_up (Or.inl (by decide))]
      refine g_iload_n (x := w) rfl dX7_ask_26 ?_
      refine g_if_ne ⟨by omega, by omega⟩ (t := 38) dX7_ask_27 (by decide) (fun h27 => ?_) (fun h27 => ?_)
      · refine g_aload_n (x := 178) rfl dX7_ask_38 ?_
        refine g_get fgX7_7 zcl_7 (congrArg Prod.fst sh_178) (by decide) rg_178_0 dX7_ask_39 ?_
        refine g_bipush (x := 6) (by decide) dX7_ask_42 ?_
        refine g_iload_n (x := s) rfl dX7_ask_44 ?_
        refine g_iadd dX7_ask_45 ?_
        refine g_iald sh_179 (by decide) (by omega) (by omega) (by decide) ag_179 dX7_ask_46 ?_
        refine g_iconst (x := 4) rfl dX7_ask_47 ?_
        rw [show ι1 179 (6 + s) = wb 0 ι (6 + s) by rw [← ew1, w0 ι1 (by omega) (by omega)]]
        refine g_icmp_lt ⟨by omega, by omega⟩ (by decide) (t := 59) dX7_ask_48 (by decide) (fun h48 => ?_) (fun h48 => ?_)
        · refine g_aload_n (x := 178) rfl dX7_ask_59 ?_
          refine g_iload_n (x := s) rfl dX7_ask_60 ?_
          refine i_callV mvX7_markOf tw_1154 (ci := 7) (congrArg Prod.fst sh_178) rfl (by decide) (c_markOf g1 (by omega) (by rw [ew1]; exact hk3)) (by decide) (st' := []) rfl (Nat.le_of_ble_eq_true rfl) rfl dX7_ask_61 (fun v_1 ι2 hq_61 => ?_)
          obtain ⟨rfl, hι2⟩ := hq_61
          rw [ew1, hι1] at hι2
          exact i_iret rfl dX7_ask_64 (⟨by unfold zask; rw [if_neg (by omega), if_neg h27, if_neg (by omega), ew1], by unfold zask; rw [if_pos (by omega), if_neg h27, if_neg (by omega), hι2]⟩)
        · refine g_aload_n (x := 178) rfl dX7_ask_51 ?_
          refine g_iload_n (x := s) rfl dX7_ask_52 ?_
          refine i_callV mvX7_mark23 tw_1170 (ci := 7) (congrArg Prod.fst sh_178) rfl (by decide) (c_mark23 g1 (by omega) (by rw [ew1]; exact hk3)) (by decide) (st' := []) rfl (Nat.le_of_ble_eq_true rfl) rfl dX7_ask_53 (fun v_2 ι2 hq_53 => ?_)
          obtain ⟨rfl, hι2⟩ := hq_53
          rw [ew1, hι1] at hι2
          refine g_goto (t := 64) dX7_ask_56 (by decide) ?_
          exact i_iret rfl dX7_ask_64 (⟨by unfold zask; rw [if_neg (by omega), if_neg h27, if_pos (by omega), ew1], by unfold zask; rw [if_pos (by omega), if_neg h27, if_pos (by omega), hι2]⟩)
      · refine g_aload_n (x := 178) rfl dX7_ask_30 ?_
        refine g_iload_n (x := s) rfl dX7_ask_31 ?_
        refine i_callV mvX7_sizeOf tw_1138 (ci := 7) (congrArg Prod.fst sh_178) rfl (by decide) (c_sizeOf g1 (by omega) (by rw [ew1]; exact hk3)) (by decide) (st' := []) rfl (Nat.le_of_ble_eq_true rfl) rfl dX7_ask_32 (fun v_3 ι2 hq_32 => ?_)
        obtain ⟨rfl, hι2⟩ := hq_32
        rw [ew1, hι1] at hι2
        refine g_goto (t := 64) dX7_ask_35 (by decide) ?_
        exact i_iret rfl dX7_ask_64 (⟨by unfold zask; rw [if_neg (by omega), if_pos h27, ew1], by unfold zask; rw [if_pos (by omega), if_pos h27, hι2]⟩)
    · refine g_ldc (x := -1000001) tw_880 (by decide) dX7_ask_18 ?_
      exact i_iret rfl dX7_ask_20 (⟨by rw [if_pos (by omega)], by rw [if_neg (by omega)]⟩)

end
