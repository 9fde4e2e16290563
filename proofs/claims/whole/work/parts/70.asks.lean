section
variable {l : Launch} {D : va_G} {ad : Nat → Nat} {L z : Nat} {ι : zi}
/-! what is there before: tables, the text -/
def zt1 (k : Int) : Int := if k = 0 then 1 else if k = 1 then 3 else if k = 2 then 7 else if k = 3 then 11 else if k = 4 then 17 else 49
def zt2 (k : Int) : Int := if k = 0 then 10 else if k = 1 then 11 else if k = 2 then 12 else if k = 3 then 11 else if k = 4 then 13 else 14
def zt3 (k : Int) : Int := if k = 0 then 20 else if k = 1 then 21 else if k = 2 then 24 else if k = 3 then 22 else 23
def ztt (k : Int) : Int := if k = 0 then 97 else if k = 1 then 110 else if k = 2 then 103 else if k = 3 then 116 else 112
def zPre (ι : zi) : Prop := (∀ k, 0 ≤ k → k < 6 → ι 1 k = zt1 k ∧ ι 2 k = zt2 k ∧ ι 3 k = zt3 k) ∧ (∀ k, 0 ≤ k → k < 5 → ι 5 k = ztt k)
theorem zia_d : ∀ (o : Fin 6) (k : Fin 6), 1 ≤ o.val → (zand (zshr (zt1 ((o.val : Nat) : Int)) ((k.val : Nat) : Int)) 1 = zia ((o.val : Nat) : Int) ((k.val : Nat) : Int)) := by decide +kernel
theorem zia_t {o k : Int} (ho : 1 ≤ o ∧ o ≤ 5) (hk : 0 ≤ k ∧ k ≤ 5) : zand (zshr (zt1 o) k) 1 = zia o k := by
  have := zia_d ⟨o.toNat, by omega⟩ ⟨k.toNat, by omega⟩ (by show 1 ≤ o.toNat; omega)
  simp only [] at this
  rw [show ((o.toNat : Nat) : Int) = o by omega, show ((k.toNat : Nat) : Int) = k by omega] at this
  exact this
theorem zia_01 (o k : Int) : zia o k = 0 ∨ zia o k = 1 := by unfold zia; split <;> simp
theorem ztl_tb (vs : List Int) (ι : zi) : tb 23 (ztl 176 1 177 ι vs) = tb 23 ι := by
  funext i
  unfold tb
  simp (disch := first | decide | (left; decide)) only [ztl_o]
theorem ztl_old {ι : zi} (h : zPre ι) (vs : List Int) : zPre (ztl 176 1 177 ι vs) := by
  refine ⟨fun k k0 k1 => ?_, fun k k0 k1 => ?_⟩
  · rw [ztl_o (Or.inl (by decide)) (by decide), ztl_o (Or.inl (by decide)) (by decide), ztl_o (Or.inl (by decide)) (by decide)]; exact h.1 k k0 k1
  · rw [ztl_o (Or.inl (by decide)) (by decide)]; exact h.2 k k0 k1
set_option maxRecDepth 100000 in
theorem c_isOne (hO : zPre ι) {o k : Int} (ho : 1 ≤ o ∧ o ≤ 5) (hk : 0 ≤ k ∧ k ≤ 5) : zCi l (zc D ad L z) mX1_isOne 0 [zI o, zI k] ι (zP (zI (zia o k)) ι) := by
  refine zCt_of (by decide) (Nat.le_of_ble_eq_true rfl) 0 rfl ?_
  refine g_gets1 tw_770 dX1_isOne_0 ?_
  refine g_iload_n (x := o) rfl dX1_isOne_3 ?_
  refine g_iald sh_1 (by decide) (by omega) (by omega) (by decide) ag_1 dX1_isOne_4 ?_
  rw [(hO.1 o (by omega) (by omega)).1]
  refine g_iload_n (x := k) rfl dX1_isOne_5 ?_
  refine g_ishr dX1_isOne_6 ?_
  refine g_iconst (x := 1) rfl dX1_isOne_7 ?_
  refine g_iand dX1_isOne_8 ?_
  rw [zia_t ho hk]
  have h01 := zia_01 o k
  refine g_iconst (x := 1) rfl dX1_isOne_9 ?_
  refine g_icmp_ne ⟨by omega, by omega⟩ (by decide) (t := 17) dX1_isOne_10 (by decide) (fun h10 => ?_) (fun h10 => ?_)
  · refine g_iconst (x := 0) rfl dX1_isOne_17 ?_
    exact i_zret rfl (by decide) dX1_isOne_18 (⟨by rw [show zia o k = 0 by omega], rfl⟩)
  · refine g_iconst (x := 1) rfl dX1_isOne_13 ?_
    refine g_goto (t := 18) dX1_isOne_14 (by decide) ?_
    exact i_zret rfl (by decide) dX1_isOne_18 (⟨by rw [show zia o k = 1 by omega], rfl⟩)

set_option maxRecDepth 100000 in
theorem c_leaveTrace (ht : 0 ≤ ι 176 1 ∧ ι 176 1 ≤ 16) {v : Int} : zCi l (zc D ad L z) mX1_leaveTrace 0 [zR 176, zI v] ι (fun r ι' => r = none ∧ ι' = ztl 176 1 177 ι [v]) := by
  refine zCt_of (by decide) (Nat.le_of_ble_eq_true rfl) 0 rfl ?_
  refine g_aload_n (x := 176) rfl dX1_leaveTrace_0 ?_
  refine g_get fgX1_16 zcl_1 (congrArg Prod.fst sh_176) (by decide) ig_176_1 dX1_leaveTrace_1 ?_
  refine g_bipush (x := 16) (by decide) dX1_leaveTrace_4 ?_
  refine g_icmp_ge ⟨by omega, by omega⟩ (by decide) (t := 29) dX1_leaveTrace_6 (by decide) (fun h6 => ?_) (fun h6 => ?_)
  · exact i_ret rfl dX1_leaveTrace_29 (⟨rfl, by unfold ztl; simp only [List.foldl]; unfold ztr; rw [if_neg (by omega)]⟩)
  · refine g_aload_n (x := 176) rfl dX1_leaveTrace_9 ?_
    refine g_get fgX1_9 zcl_1 (congrArg Prod.fst sh_176) (by decide) rg_176_0 dX1_leaveTrace_10 ?_
    refine g_aload_n (x := 176) rfl dX1_leaveTrace_13 ?_
    refine g_get fgX1_16 zcl_1 (congrArg Prod.fst sh_176) (by decide) ig_176_1 dX1_leaveTrace_14 ?_
    refine g_iload_n (x := v) rfl dX1_leaveTrace_17 ?_
    obtain ⟨ι1, hι1⟩ : ∃ y_, y_ = iup ι 177 (ι 176 1) v := ⟨_, rfl⟩
    refine i_iast sh_177 (by decide) (by decide) (by omega) (by omega) (by decide) (ι1 := ι1) (by rw [hι1]; exact au_177) dX1_leaveTrace_18 ?_
    refine g_aload_n (x := 176) rfl dX1_leaveTrace_19 ?_
    refine g_dupR dX1_leaveTrace_20 ?_
    refine g_get fgX1_16 zcl_1 (congrArg Prod.fst sh_176) (by decide) ig_176_1 dX1_leaveTrace_21 ?_
    refine g_iconst (x := 1) rfl dX1_leaveTrace_24 ?_
    refine g_iadd dX1_leaveTrace_25 ?_
    have e1 : ι1 176 1 = ι 176 1 := by rw [hι1, iup_n _ (by omega)]
    rw [e1]
    obtain ⟨ι2, hι2⟩ : ∃ y_, y_ = iup ι1 176 1 ((ι 176 1) + 1) := ⟨_, rfl⟩
    refine i_put fwX1_16 zcl_1 (congrArg Prod.fst sh_176) (by decide) (by decide) (ι1 := ι2) (by rw [hι2]; exact iu_176_1) dX1_leaveTrace_26 ?_
    exact i_ret rfl dX1_leaveTrace_29 (⟨rfl, by unfold ztl; simp only [List.foldl]; unfold ztr; rw [if_pos (by omega), hι2, hι1]⟩)

set_option maxRecDepth 100000 in
theorem c_give10 {dp : Nat} (hdp : 1 ≤ dp) (ht : 0 ≤ ι 176 1 ∧ ι 176 1 ≤ 16) {s d : Int} (hs : 0 ≤ s ∧ s < 8) (hd : 0 ≤ d ∧ d ≤ 8) : zCi l (zc D ad L z) mX1_give dp [zR 176, zR 23, zI s, zI 10, zI d] ι (fun v ι' => v = some (zI ((tb 23 ι) (22 + s))) ∧ ι' = ztl 176 1 177 ι [10]) := by
  refine zCt_of (by decide) (Nat.le_of_ble_eq_true rfl) 1 rfl ?_
  refine g_iload (x := d) rfl dX1_give_0 ?_
  refine g_bipush (x := 8) (by decide) dX1_give_2 ?_
  refine g_icmp_le ⟨by omega, by omega⟩ (by decide) (t := 9) dX1_give_4 (by decide) (fun h4 => ?_) (fun h4 => ?_)
  · refine g_aload_n (x := 176) rfl dX1_give_9 ?_
    refine g_iload_n (x := 10) rfl dX1_give_10 ?_
    refine i_callV mvX1_leaveTrace tw_788 (ci := 1) (congrArg Prod.fst sh_176) rfl (by decide) (c_leaveTrace ht) (by omega) (st' := []) rfl (Nat.le_of_ble_eq_true rfl) rfl dX1_give_11 (fun v_1 ι1 hq_11 => ?_)
    obtain ⟨rfl, hι1⟩ := hq_11
    have g1 := ztl_b (o := 176) (f := 1) (a := 177) (by decide) [10] ι ht
    rw [← hι1] at g1
    have ew1 : tb 23 ι1 = tb 23 ι := by rw [hι1, ztl_tb]
    refine g_aload_n (x := 23) rfl dX1_give_14 ?_
    refine g_get fgX1_20 zcl_5 (congrArg Prod.fst sh_23) (by decide) rg_23_0 dX1_give_15 ?_
    refine g_iload_n (x := s) rfl dX1_give_18 ?_
    refine g_iald sh_24 (by decide) (by omega) (by omega) (by decide) ag_24 dX1_give_19 ?_
    refine g_istore (ls' := [some (zR 176), some (zR 23), some (zI s), some (zI 10), some (zI d), some (zI (ι1 24 s))]) dX1_give_20 (by decide) rfl ?_
    refine g_iload_n (x := 10) rfl dX1_give_22 ?_
    refine g_tswIn (by decide) dX1_give_23 (by decide) (by decide) (off := 73) rfl (t := 96) (by decide) ?_
    refine g_aload_n (x := 23) rfl dX1_give_96 ?_
    refine g_get fgX1_39 zcl_5 (congrArg Prod.fst sh_23) (by decide) rg_23_2 dX1_give_97 ?_
    refine g_iload_n (x := s) rfl dX1_give_100 ?_
    refine g_iald sh_26 (by decide) (by omega) (by omega) (by decide) ag_26 dX1_give_101 ?_
    exact i_iret rfl dX1_give_102 (⟨by rw [← ew1, tb_l 23 ι1 hs.1 hs.2], hι1⟩)
  · exfalso
    omega

set_option maxRecDepth 100000 in
theorem c_give20 {dp : Nat} (hdp : 1 ≤ dp) (ht : 0 ≤ ι 176 1 ∧ ι 176 1 ≤ 16) {s d : Int} (hs : 0 ≤ s ∧ s < 8) (hd : 0 ≤ d ∧ d ≤ 8) : zCi l (zc D ad L z) mX1_give dp [zR 176, zR 23, zI s, zI 20, zI d] ι (fun v ι' => v = some (zI (s)) ∧ ι' = ztl 176 1 177 ι [20]) := by
  refine zCt_of (by decide) (Nat.le_of_ble_eq_true rfl) 1 rfl ?_
  refine g_iload (x := d) rfl dX1_give_0 ?_
  refine g_bipush (x := 8) (by decide) dX1_give_2 ?_
  refine g_icmp_le ⟨by omega, by omega⟩ (by decide) (t := 9) dX1_give_4 (by decide) (fun h4 => ?_) (fun h4 => ?_)
  · refine g_aload_n (x := 176) rfl dX1_give_9 ?_
    refine g_iload_n (x := 20) rfl dX1_give_10 ?_
    refine i_callV mvX1_leaveTrace tw_788 (ci := 1) (congrArg Prod.fst sh_176) rfl (by decide) (c_leaveTrace ht) (by omega) (st' := []) rfl (Nat.le_of_ble_eq_true rfl) rfl dX1_give_11 (fun v_1 ι1 hq_11 => ?_)
    obtain ⟨rfl, hι1⟩ := hq_11
    have g1 := ztl_b (o := 176) (f := 1) (a := 177) (by decide) [20] ι ht
    rw [← hι1] at g1
    have ew1 : tb 23 ι1 = tb 23 ι := by rw [hι1, ztl_tb]
    refine g_aload_n (x := 23) rfl dX1_give_14 ?_
    refine g_get fgX1_20 zcl_5 (congrArg Prod.fst sh_23) (by decide) rg_23_0 dX1_give_15 ?_
    refine g_iload_n (x := s) rfl dX1_give_18 ?_
    refine g_iald sh_24 (by decide) (by omega) (by omega) (by decide) ag_24 dX1_give_19 ?_
    refine g_istore (ls' := [some (zR 176), some (zR 23), some (zI s), some (zI 20), some (zI d), some (zI (ι1 24 s))]) dX1_give_20 (by decide) rfl ?_
    refine g_iload_n (x := 20) rfl dX1_give_22 ?_
    refine g_tswIn (by decide) dX1_give_23 (by decide) (by decide) (off := 155) rfl (t := 178) (by decide) ?_
    refine g_iload_n (x := s) rfl dX1_give_178 ?_
    exact i_iret rfl dX1_give_179 (⟨rfl, hι1⟩)
  · exfalso
    omega

set_option maxRecDepth 100000 in
theorem c_give13 {dp : Nat} (hdp : 2 ≤ dp) (ht : 0 ≤ ι 176 1 ∧ ι 176 1 ≤ 16) {s d : Int} (hs : 0 ≤ s ∧ s < 8) (hd : 0 ≤ d ∧ d ≤ 7) : zCi l (zc D ad L z) mX1_give dp [zR 176, zR 23, zI s, zI 13, zI d] ι (fun v ι' => v = some (zI ((tb 23 ι) (22 + s) - 100)) ∧ ι' = ztl 176 1 177 ι [13, 10]) := by
  refine zCt_of (by decide) (Nat.le_of_ble_eq_true rfl) 1 rfl ?_
  refine g_iload (x := d) rfl dX1_give_0 ?_
  refine g_bipush (x := 8) (by decide) dX1_give_2 ?_
  refine g_icmp_le ⟨by omega, by omega⟩ (by decide) (t := 9) dX1_give_4 (by decide) (fun h4 => ?_) (fun h4 => ?_)
  · refine g_aload_n (x := 176) rfl dX1_give_9 ?_
    refine g_iload_n (x := 13) rfl dX1_give_10 ?_
    refine i_callV mvX1_leaveTrace tw_788 (ci := 1) (congrArg Prod.fst sh_176) rfl (by decide) (c_leaveTrace ht) (by omega) (st' := []) rfl (Nat.le_of_ble_eq_true rfl) rfl dX1_give_11 (fun v_1 ι1 hq_11 => ?_)
    obtain ⟨rfl, hι1⟩ := hq_11
    have g1 := ztl_b (o := 176) (f := 1) (a := 177) (by decide) [13] ι ht
    rw [← hι1] at g1
    have ew1 : tb 23 ι1 = tb 23 ι := by rw [hι1, ztl_tb]
    refine g_aload_n (x := 23) rfl dX1_give_14 ?_
    refine g_get fgX1_20 zcl_5 (congrArg Prod.fst sh_23) (by decide) rg_23_0 dX1_give_15 ?_
    refine g_iload_n (x := s) rfl dX1_give_18 ?_
    refine g_iald sh_24 (by decide) (by omega) (by omega) (by decide) ag_24 dX1_give_19 ?_
    refine g_istore (ls' := [some (zR 176), some (zR 23), some (zI s), some (zI 13), some (zI d), some (zI (ι1 24 s))]) dX1_give_20 (by decide) rfl ?_
    refine g_iload_n (x := 13) rfl dX1_give_22 ?_
    refine g_tswIn (by decide) dX1_give_23 (by decide) (by decide) (off := 124) rfl (t := 147) (by decide) ?_
    refine g_aload_n (x := 176) rfl dX1_give_147 ?_
    refine g_aload_n (x := 23) rfl dX1_give_148 ?_
    refine g_iload_n (x := s) rfl dX1_give_149 ?_
    refine g_bipush (x := 10) (by decide) dX1_give_150 ?_
    refine g_iload (x := d) rfl dX1_give_152 ?_
    refine g_iconst (x := 1) rfl dX1_give_154 ?_
    refine g_iadd dX1_give_155 ?_
    refine i_callV mvX1_give tw_784 (ci := 1) (congrArg Prod.fst sh_176) rfl (by decide) (c_give10 (dp := 1) (by decide) g1 hs (d := d + 1) (by omega)) (by omega) (st' := []) rfl (Nat.le_of_ble_eq_true rfl) rfl dX1_give_156 (fun v_2 ι2 hq_156 => ?_)
    obtain ⟨rfl, hι2⟩ := hq_156
    refine g_bipush (x := 100) (by decide) dX1_give_159 ?_
    refine g_isub dX1_give_161 ?_
    exact i_iret rfl dX1_give_162 (⟨by rw [ew1], by rw [hι2, hι1, ztl_app]; rfl⟩)
  · exfalso
    omega

set_option maxRecDepth 100000 in
theorem c_give21 {dp : Nat} (hdp : 2 ≤ dp) (ht : 0 ≤ ι 176 1 ∧ ι 176 1 ≤ 16) {s d : Int} (hs : 0 ≤ s ∧ s < 8) (hd : 0 ≤ d ∧ d ≤ 7) : zCi l (zc D ad L z) mX1_give dp [zR 176, zR 23, zI s, zI 21, zI d] ι (fun v ι' => v = some (zI (s + (tb 23 ι) (14 + s))) ∧ ι' = ztl 176 1 177 ι [21, 20]) := by
  refine zCt_of (by decide) (Nat.le_of_ble_eq_true rfl) 1 rfl ?_
  refine g_iload (x := d) rfl dX1_give_0 ?_
  refine g_bipush (x := 8) (by decide) dX1_give_2 ?_
  refine g_icmp_le ⟨by omega, by omega⟩ (by decide) (t := 9) dX1_give_4 (by decide) (fun h4 => ?_) (fun h4 => ?_)
  · refine g_aload_n (x := 176) rfl dX1_give_9 ?_
    refine g_iload_n (x := 21) rfl dX1_give_10 ?_
    refine i_callV mvX1_leaveTrace tw_788 (ci := 1) (congrArg Prod.fst sh_176) rfl (by decide) (c_leaveTrace ht) (by omega) (st' := []) rfl (Nat.le_of_ble_eq_true rfl) rfl dX1_give_11 (fun v_1 ι1 hq_11 => ?_)
    obtain ⟨rfl, hι1⟩ := hq_11
    have g1 := ztl_b (o := 176) (f := 1) (a := 177) (by decide) [21] ι ht
    rw [← hι1] at g1
    have ew1 : tb 23 ι1 = tb 23 ι := by rw [hι1, ztl_tb]
    refine g_aload_n (x := 23) rfl dX1_give_14 ?_
    refine g_get fgX1_20 zcl_5 (congrArg Prod.fst sh_23) (by decide) rg_23_0 dX1_give_15 ?_
    refine g_iload_n (x := s) rfl dX1_give_18 ?_
    refine g_iald sh_24 (by decide) (by omega) (by omega) (by decide) ag_24 dX1_give_19 ?_
    refine g_istore (ls' := [some (zR 176), some (zR 23), some (zI s), some (zI 21), some (zI d), some (zI (ι1 24 s))]) dX1_give_20 (by decide) rfl ?_
    refine g_iload_n (x := 21) rfl dX1_give_22 ?_
    refine g_tswIn (by decide) dX1_give_23 (by decide) (by decide) (off := 157) rfl (t := 180) (by decide) ?_
    refine g_aload_n (x := 176) rfl dX1_give_180 ?_
    refine g_aload_n (x := 23) rfl dX1_give_181 ?_
    refine g_iload_n (x := s) rfl dX1_give_182 ?_
    refine g_bipush (x := 20) (by decide) dX1_give_183 ?_
    refine g_iload (x := d) rfl dX1_give_185 ?_
    refine g_iconst (x := 1) rfl dX1_give_187 ?_
    refine g_iadd dX1_give_188 ?_
    refine i_callV mvX1_give tw_784 (ci := 1) (congrArg Prod.fst sh_176) rfl (by decide) (c_give20 (dp := 1) (by decide) g1 hs (d := d + 1) (by omega)) (by omega) (st' := []) rfl (Nat.le_of_ble_eq_true rfl) rfl dX1_give_189 (fun v_2 ι2 hq_189 => ?_)
    obtain ⟨rfl, hι2⟩ := hq_189
    have ew2 : tb 23 ι2 = tb 23 ι := by rw [hι2, ztl_tb, ew1]
    refine g_aload_n (x := 23) rfl dX1_give_192 ?_
    refine g_get fgX1_42 zcl_5 (congrArg Prod.fst sh_23) (by decide) rg_23_1 dX1_give_193 ?_
    refine g_iload_n (x := s) rfl dX1_give_196 ?_
    refine g_iald sh_25 (by decide) (by omega) (by omega) (by decide) ag_25 dX1_give_197 ?_
    refine g_iadd dX1_give_198 ?_
    exact i_iret rfl dX1_give_199 (⟨by rw [← ew2, tb_d 23 ι2 hs.1 hs.2], by rw [hι2, hι1, ztl_app]; rfl⟩)
  · exfalso
    omega

set_option maxRecDepth 100000 in
theorem c_give14 {dp : Nat} (hdp : 3 ≤ dp) (ht : 0 ≤ ι 176 1 ∧ ι 176 1 ≤ 16) {s d : Int} (hs : 0 ≤ s ∧ s < 8) (hd : 0 ≤ d ∧ d ≤ 6) : zCi l (zc D ad L z) mX1_give dp [zR 176, zR 23, zI s, zI 14, zI d] ι (fun v ι' => v = some (zI (2 * ((tb 23 ι) (22 + s) - 100))) ∧ ι' = ztl 176 1 177 ι [14, 13, 10]) := by
  refine zCt_of (by decide) (Nat.le_of_ble_eq_true rfl) 1 rfl ?_
  refine g_iload (x := d) rfl dX1_give_0 ?_
  refine g_bipush (x := 8) (by decide) dX1_give_2 ?_
  refine g_icmp_le ⟨by omega, by omega⟩ (by decide) (t := 9) dX1_give_4 (by decide) (fun h4 => ?_) (fun h4 => ?_)
  · refine g_aload_n (x := 176) rfl dX1_give_9 ?_
    refine g_iload_n (x := 14) rfl dX1_give_10 ?_
    refine i_callV mvX1_leaveTrace tw_788 (ci := 1) (congrArg Prod.fst sh_176) rfl (by decide) (c_leaveTrace ht) (by omega) (st' := []) rfl (Nat.le_of_ble_eq_true rfl) rfl dX1_give_11 (fun v_1 ι1 hq_11 => ?_)
    obtain ⟨rfl, hι1⟩ := hq_11
    have g1 := ztl_b (o := 176) (f := 1) (a := 177) (by decide) [14] ι ht
    rw [← hι1] at g1
    have ew1 : tb 23 ι1 = tb 23 ι := by rw [hι1, ztl_tb]
    refine g_aload_n (x := 23) rfl dX1_give_14 ?_
    refine g_get fgX1_20 zcl_5 (congrArg Prod.fst sh_23) (by decide) rg_23_0 dX1_give_15 ?_
    refine g_iload_n (x := s) rfl dX1_give_18 ?_
    refine g_iald sh_24 (by decide) (by omega) (by omega) (by decide) ag_24 dX1_give_19 ?_
    refine g_istore (ls' := [some (zR 176), some (zR 23), some (zI s), some (zI 14), some (zI d), some (zI (ι1 24 s))]) dX1_give_20 (by decide) rfl ?_
    refine g_iload_n (x := 14) rfl dX1_give_22 ?_
    refine g_tswIn (by decide) dX1_give_23 (by decide) (by decide) (off := 140) rfl (t := 163) (by decide) ?_
    refine g_iconst (x := 2) rfl dX1_give_163 ?_
    refine g_aload_n (x := 176) rfl dX1_give_164 ?_
    refine g_aload_n (x := 23) rfl dX1_give_165 ?_
    refine g_iload_n (x := s) rfl dX1_give_166 ?_
    refine g_bipush (x := 13) (by decide) dX1_give_167 ?_
    refine g_iload (x := d) rfl dX1_give_169 ?_
    refine g_iconst (x := 1) rfl dX1_give_171 ?_
    refine g_iadd dX1_give_172 ?_
    refine i_callV mvX1_give tw_784 (ci := 1) (congrArg Prod.fst sh_176) rfl (by decide) (c_give13 (dp := 2) (by decide) g1 hs (d := d + 1) (by omega)) (by omega) (st' := [zI 2]) rfl (Nat.le_of_ble_eq_true rfl) rfl dX1_give_173 (fun v_2 ι2 hq_173 => ?_)
    obtain ⟨rfl, hι2⟩ := hq_173
    refine g_imul dX1_give_176 ?_
    exact i_iret rfl dX1_give_177 (⟨by rw [ew1], by rw [hι2, hι1, ztl_app]; rfl⟩)
  · exfalso
    omega

set_option maxRecDepth 100000 in
theorem c_give22 {dp : Nat} (hdp : 3 ≤ dp) (ht : 0 ≤ ι 176 1 ∧ ι 176 1 ≤ 16) {s d : Int} (hs : 0 ≤ s ∧ s < 8) (hd : 0 ≤ d ∧ d ≤ 6) : zCi l (zc D ad L z) mX1_give dp [zR 176, zR 23, zI s, zI 22, zI d] ι (fun v ι' => v = some (zI (s + (tb 23 ι) (14 + s) - 1000)) ∧ ι' = ztl 176 1 177 ι [22, 21, 20]) := by
  refine zCt_of (by decide) (Nat.le_of_ble_eq_true rfl) 1 rfl ?_
  refine g_iload (x := d) rfl dX1_give_0 ?_
  refine g_bipush (x := 8) (by decide) dX1_give_2 ?_
  refine g_icmp_le ⟨by omega, by omega⟩ (by decide) (t := 9) dX1_give_4 (by decide) (fun h4 => ?_) (fun h4 => ?_)
  · refine g_aload_n (x := 176) rfl dX1_give_9 ?_
    refine g_iload_n (x := 22) rfl dX1_give_10 ?_
    refine i_callV mvX1_leaveTrace tw_788 (ci := 1) (congrArg Prod.fst sh_176) rfl (by decide) (c_leaveTrace ht) (by omega) (st' := []) rfl (Nat.le_of_ble_eq_true rfl) rfl dX1_give_11 (fun v_1 ι1 hq_11 => ?_)
    obtain ⟨rfl, hι1⟩ := hq_11
    have g1 := ztl_b (o := 176) (f := 1) (a := 177) (by decide) [22] ι ht
    rw [← hι1] at g1
    have ew1 : tb 23 ι1 = tb 23 ι := by rw [hι1, ztl_tb]
    refine g_aload_n (x := 23) rfl dX1_give_14 ?_
    refine g_get fgX1_20 zcl_5 (congrArg Prod.fst sh_23) (by decide) rg_23_0 dX1_give_15 ?_
    refine g_iload_n (x := s) rfl dX1_give_18 ?_
    refine g_iald sh_24 (by decide) (by omega) (by omega) (by decide) ag_24 dX1_give_19 ?_
    refine g_istore (ls' := [some (zR 176), some (zR 23), some (zI s), some (zI 22), some (zI d), some (zI (ι1 24 s))]) dX1_give_20 (by decide) rfl ?_
    refine g_iload_n (x := 22) rfl dX1_give_22 ?_
    refine g_tswIn (by decide) dX1_give_23 (by decide) (by decide) (off := 177) rfl (t := 200) (by decide) ?_
    refine g_aload_n (x := 176) rfl dX1_give_200 ?_
    refine g_aload_n (x := 23) rfl dX1_give_201 ?_
    refine g_iload_n (x := s) rfl dX1_give_202 ?_
    refine g_bipush (x := 21) (by decide) dX1_give_203 ?_
    refine g_iload (x := d) rfl dX1_give_205 ?_
    refine g_iconst (x := 1) rfl dX1_give_207 ?_
    refine g_iadd dX1_give_208 ?_
    refine i_callV mvX1_give tw_784 (ci := 1) (congrArg Prod.fst sh_176) rfl (by decide) (c_give21 (dp := 2) (by decide) g1 hs (d := d + 1) (by omega)) (by omega) (st' := []) rfl (Nat.le_of_ble_eq_true rfl) rfl dX1_give_209 (fun v_2 ι2 hq_209 => ?_)
    obtain ⟨rfl, hι2⟩ := hq_209
    refine g_sipush (x := 1000) (by decide) dX1_give_212 ?_
    refine g_isub dX1_give_215 ?_
    exact i_iret rfl dX1_give_216 (⟨by rw [ew1], by rw [hι2, hι1, ztl_app]; rfl⟩)
  · exfalso
    omega

set_option maxRecDepth 100000 in
theorem c_give24 {dp : Nat} (hdp : 3 ≤ dp) (ht : 0 ≤ ι 176 1 ∧ ι 176 1 ≤ 16) {s d : Int} (hs : 0 ≤ s ∧ s < 8) (hd : 0 ≤ d ∧ d ≤ 6) : zCi l (zc D ad L z) mX1_give dp [zR 176, zR 23, zI s, zI 24, zI d] ι (fun v ι' => v = some (zI (2 * (s + (tb 23 ι) (14 + s)))) ∧ ι' = ztl 176 1 177 ι [24, 21, 20]) := by
  refine zCt_of (by decide) (Nat.le_of_ble_eq_true rfl) 1 rfl ?_
  refine g_iload (x := d) rfl dX1_give_0 ?_
  refine g_bipush (x := 8) (by decide) dX1_give_2 ?_
  refine g_icmp_le ⟨by omega, by omega⟩ (by decide) (t := 9) dX1_give_4 (by decide) (fun h4 => ?_) (fun h4 => ?_)
  · refine g_aload_n (x := 176) rfl dX1_give_9 ?_
    refine g_iload_n (x := 24) rfl dX1_give_10 ?_
    refine i_callV mvX1_leaveTrace tw_788 (ci := 1) (congrArg Prod.fst sh_176) rfl (by decide) (c_leaveTrace ht) (by omega) (st' := []) rfl (Nat.le_of_ble_eq_true rfl) rfl dX1_give_11 (fun v_1 ι1 hq_11 => ?_)
    obtain ⟨rfl, hι1⟩ := hq_11
    have g1 := ztl_b (o := 176) (f := 1) (a := 177) (by decide) [24] ι ht
    rw [← hι1] at g1
    have ew1 : tb 23 ι1 = tb 23 ι := by rw [hι1, ztl_tb]
    refine g_aload_n (x := 23) rfl dX1_give_14 ?_
    refine g_get fgX1_20 zcl_5 (congrArg Prod.fst sh_23) (by decide) rg_23_0 dX1_give_15 ?_
    refine g_iload_n (x := s) rfl dX1_give_18 ?_
    refine g_iald sh_24 (by decide) (by omega) (by omega) (by decide) ag_24 dX1_give_19 ?_
    refine g_istore (ls' := [some (zR 176), some (zR 23), some (zI s), some (zI 24), some (zI d), some (zI (ι1 24 s))]) dX1_give_20 (by decide) rfl ?_
    refine g_iload_n (x := 24) rfl dX1_give_22 ?_
    refine g_tswIn (by decide) dX1_give_23 (by decide) (by decide) (off := 224) rfl (t := 247) (by decide) ?_
    refine g_iconst (x := 2) rfl dX1_give_247 ?_
    refine g_aload_n (x := 176) rfl dX1_give_248 ?_
    refine g_aload_n (x := 23) rfl dX1_give_249 ?_
    refine g_iload_n (x := s) rfl dX1_give_250 ?_
    refine g_bipush (x := 21) (by decide) dX1_give_251 ?_
    refine g_iload (x := d) rfl dX1_give_253 ?_
    refine g_iconst (x := 1) rfl dX1_give_255 ?_
    refine g_iadd dX1_give_256 ?_
    refine i_callV mvX1_give tw_784 (ci := 1) (congrArg Prod.fst sh_176) rfl (by decide) (c_give21 (dp := 2) (by decide) g1 hs (d := d + 1) (by omega)) (by omega) (st' := [zI 2]) rfl (Nat.le_of_ble_eq_true rfl) rfl dX1_give_257 (fun v_2 ι2 hq_257 => ?_)
    obtain ⟨rfl, hι2⟩ := hq_257
    refine g_imul dX1_give_260 ?_
    exact i_iret rfl dX1_give_261 (⟨by rw [ew1], by rw [hι2, hι1, ztl_app]; rfl⟩)
  · exfalso
    omega

theorem c_giveM {dp : Nat} (hdp : 3 ≤ dp) (ht : 0 ≤ ι 176 1 ∧ ι 176 1 ≤ 16) {s d : Int} (hs : 0 ≤ s ∧ s < 8) (hd : 0 ≤ d ∧ d ≤ 6) (hk : 1 ≤ tb 23 ι (6 + s) ∧ tb 23 ι (6 + s) ≤ 3) : zCi l (zc D ad L z) mX1_give dp [zR 176, zR 23, zI s, zI (zt3 (tb 23 ι (6 + s))), zI d] ι (fun v ι' => v = some (zI (zmk (tb 23 ι) s).1) ∧ ι' = ztl 176 1 177 ι (zmk (tb 23 ι) s).2) := by
  unfold zmk
  rcases (show tb 23 ι (6 + s) = 1 ∨ tb 23 ι (6 + s) = 2 ∨ tb 23 ι (6 + s) = 3 by omega) with g | g | g
  · rw [g, if_neg (by decide), if_neg (by decide)]
    exact (c_give21 (by omega) ht hs (by omega))
  · rw [g, if_pos rfl]
    exact c_give24 hdp ht hs hd
  · rw [g, if_neg (by decide), if_pos rfl]
    exact c_give22 hdp ht hs hd
set_option maxRecDepth 100000 in
theorem c_give11 {dp : Nat} (hdp : 4 ≤ dp) (ht : 0 ≤ ι 176 1 ∧ ι 176 1 ≤ 16) (hO : zPre ι) {s d : Int} (hs : 0 ≤ s ∧ s < 8) (hd : 0 ≤ d ∧ d ≤ 5) (hk : 1 ≤ tb 23 ι (6 + s) ∧ tb 23 ι (6 + s) ≤ 3) : zCi l (zc D ad L z) mX1_give dp [zR 176, zR 23, zI s, zI 11, zI d] ι (fun v ι' => v = some (zI ((zs11 (tb 23 ι) s).1)) ∧ ι' = ztl 176 1 177 ι (zs11 (tb 23 ι) s).2) := by
  refine zCt_of (by decide) (Nat.le_of_ble_eq_true rfl) 1 rfl ?_
  refine g_iload (x := d) rfl dX1_give_0 ?_
  refine g_bipush (x := 8) (by decide) dX1_give_2 ?_
  refine g_icmp_le ⟨by omega, by omega⟩ (by decide) (t := 9) dX1_give_4 (by decide) (fun h4 => ?_) (fun h4 => ?_)
  · refine g_aload_n (x := 176) rfl dX1_give_9 ?_
    refine g_iload_n (x := 11) rfl dX1_give_10 ?_
    refine i_callV mvX1_leaveTrace tw_788 (ci := 1) (congrArg Prod.fst sh_176) rfl (by decide) (c_leaveTrace ht) (by omega) (st' := []) rfl (Nat.le_of_ble_eq_true rfl) rfl dX1_give_11 (fun v_1 ι1 hq_11 => ?_)
    obtain ⟨rfl, hι1⟩ := hq_11
    have g1 := ztl_b (o := 176) (f := 1) (a := 177) (by decide) [11] ι ht
    rw [← hι1] at g1
    have ew1 : tb 23 ι1 = tb 23 ι := by rw [hι1, ztl_tb]
    refine g_aload_n (x := 23) rfl dX1_give_14 ?_
    refine g_get fgX1_20 zcl_5 (congrArg Prod.fst sh_23) (by decide) rg_23_0 dX1_give_15 ?_
    refine g_iload_n (x := s) rfl dX1_give_18 ?_
    refine g_iald sh_24 (by decide) (by omega) (by omega) (by decide) ag_24 dX1_give_19 ?_
    have o5 : ι1 24 s = tb 23 ι (6 + s) := by rw [← ew1, tb_k 23 ι1 hs.1 hs.2]
    rw [o5]
    refine g_istore (ls' := [some (zR 176), some (zR 23), some (zI s), some (zI 11), some (zI d), some (zI (tb 23 ι (6 + s)))]) dX1_give_20 (by decide) rfl ?_
    refine g_iload_n (x := 11) rfl dX1_give_22 ?_
    refine g_tswIn (by decide) dX1_give_23 (by decide) (by decide) (off := 80) rfl (t := 103) (by decide) ?_
    refine g_aload_n (x := 176) rfl dX1_give_103 ?_
    refine g_aload_n (x := 23) rfl dX1_give_104 ?_
    refine g_iload_n (x := s) rfl dX1_give_105 ?_
    refine g_bipush (x := 10) (by decide) dX1_give_106 ?_
    refine g_iload (x := d) rfl dX1_give_108 ?_
    refine g_iconst (x := 1) rfl dX1_give_110 ?_
    refine g_iadd dX1_give_111 ?_
    refine i_callV mvX1_give tw_784 (ci := 1) (congrArg Prod.fst sh_176) rfl (by decide) (c_give10 (dp := 1) (by decide) g1 hs (d := d + 1) (by omega)) (by omega) (st' := []) rfl (Nat.le_of_ble_eq_true rfl) rfl dX1_give_112 (fun v_2 ι2 hq_112 => ?_)
    obtain ⟨rfl, hι2⟩ := hq_112
    have g2 := ztl_b (o := 176) (f := 1) (a := 177) (by decide) [10] ι1 g1
    rw [← hι2] at g2
    have ew2 : tb 23 ι2 = tb 23 ι := by rw [hι2, ztl_tb, ew1]
    have hO2 : zPre ι2 := by rw [hι2, hι1]; exact ztl_old (ztl_old hO _) _
    refine g_aload_n (x := 176) rfl dX1_give_115 ?_
    refine g_aload_n (x := 23) rfl dX1_give_116 ?_
    refine g_iload_n (x := s) rfl dX1_give_117 ?_
    refine g_gets3 tw_782 dX1_give_118 ?_
    refine g_iload (x := (tb 23 ι (6 + s))) rfl dX1_give_121 ?_
    refine g_iald sh_3 (by decide) (by omega) (by omega) (by decide) ag_3 dX1_give_123 ?_
    rw [(hO2.1 (tb 23 ι (6 + s)) (by omega) (by omega)).2.2]
    refine g_iload (x := d) rfl dX1_give_124 ?_
    refine g_iconst (x := 1) rfl dX1_give_126 ?_
    refine g_iadd dX1_give_127 ?_
    rw [show tb 23 ι (6 + s) = tb 23 ι2 (6 + s) by rw [ew2]]
    refine i_callV mvX1_give tw_784 (ci := 1) (congrArg Prod.fst sh_176) rfl (by decide) (c_giveM (dp := 3) (by decide) g2 hs (d := d + 1) (by omega) (by rw [ew2]; exact hk)) (by omega) (st' := [zI (tb 23 ι1 (22 + s))]) rfl (Nat.le_of_ble_eq_true rfl) rfl dX1_give_128 (fun v_3 ι3 hq_128 => ?_)
    obtain ⟨rfl, hι3⟩ := hq_128
    refine g_iadd dX1_give_131 ?_
    exact i_iret rfl dX1_give_132 (⟨by unfold zs11; rw [ew2, ew1], by rw [hι3, ew2, hι2, hι1, ztl_app, ztl_app]; rfl⟩)
  · exfalso
    omega

set_option maxRecDepth 100000 in
theorem c_give12 {dp : Nat} (hdp : 5 ≤ dp) (ht : 0 ≤ ι 176 1 ∧ ι 176 1 ≤ 16) (hO : zPre ι) {s d : Int} (hs : 0 ≤ s ∧ s < 8) (hd : 0 ≤ d ∧ d ≤ 4) (hk : 1 ≤ tb 23 ι (6 + s) ∧ tb 23 ι (6 + s) ≤ 3) : zCi l (zc D ad L z) mX1_give dp [zR 176, zR 23, zI s, zI 12, zI d] ι (fun v ι' => v = some (zI (-(zs11 (tb 23 ι) s).1)) ∧ ι' = ztl 176 1 177 ι ([12] ++ (zs11 (tb 23 ι) s).2)) := by
  refine zCt_of (by decide) (Nat.le_of_ble_eq_true rfl) 1 rfl ?_
  refine g_iload (x := d) rfl dX1_give_0 ?_
  refine g_bipush (x := 8) (by decide) dX1_give_2 ?_
  refine g_icmp_le ⟨by omega, by omega⟩ (by decide) (t := 9) dX1_give_4 (by decide) (fun h4 => ?_) (fun h4 => ?_)
  · refine g_aload_n (x := 176) rfl dX1_give_9 ?_
    refine g_iload_n (x := 12) rfl dX1_give_10 ?_
    refine i_callV mvX1_leaveTrace tw_788 (ci := 1) (congrArg Prod.fst sh_176) rfl (by decide) (c_leaveTrace ht) (by omega) (st' := []) rfl (Nat.le_of_ble_eq_true rfl) rfl dX1_give_11 (fun v_1 ι1 hq_11 => ?_)
    obtain ⟨rfl, hι1⟩ := hq_11
    have g1 := ztl_b (o := 176) (f := 1) (a := 177) (by decide) [12] ι ht
    rw [← hι1] at g1
    have ew1 : tb 23 ι1 = tb 23 ι := by rw [hι1, ztl_tb]
    refine g_aload_n (x := 23) rfl dX1_give_14 ?_
    refine g_get fgX1_20 zcl_5 (congrArg Prod.fst sh_23) (by decide) rg_23_0 dX1_give_15 ?_
    refine g_iload_n (x := s) rfl dX1_give_18 ?_
    refine g_iald sh_24 (by decide) (by omega) (by omega) (by decide) ag_24 dX1_give_19 ?_
    refine g_istore (ls' := [some (zR 176), some (zR 23), some (zI s), some (zI 12), some (zI d), some (zI (ι1 24 s))]) dX1_give_20 (by decide) rfl ?_
    refine g_iload_n (x := 12) rfl dX1_give_22 ?_
    refine g_tswIn (by decide) dX1_give_23 (by decide) (by decide) (off := 110) rfl (t := 133) (by decide) ?_
    refine g_aload_n (x := 176) rfl dX1_give_133 ?_
    refine g_aload_n (x := 23) rfl dX1_give_134 ?_
    refine g_iload_n (x := s) rfl dX1_give_135 ?_
    refine g_bipush (x := 11) (by decide) dX1_give_136 ?_
    refine g_iload (x := d) rfl dX1_give_138 ?_
    refine g_iconst (x := 1) rfl dX1_give_140 ?_
    refine g_iadd dX1_give_141 ?_
    refine i_callV mvX1_give tw_784 (ci := 1) (congrArg Prod.fst sh_176) rfl (by decide) (c_give11 (dp := 4) (by decide) g1 (by rw [hι1]; exact ztl_old hO _) hs (d := d + 1) (by omega) (by rw [ew1]; exact hk)) (by omega) (st' := []) rfl (Nat.le_of_ble_eq_true rfl) rfl dX1_give_142 (fun v_2 ι2 hq_142 => ?_)
    obtain ⟨rfl, hι2⟩ := hq_142
    refine g_ineg dX1_give_145 ?_
    exact i_iret rfl dX1_give_146 (⟨by rw [ew1], by rw [hι2, ew1, hι1, ztl_app]⟩)
  · exfalso
    omega

theorem c_giveS {dp : Nat} (hdp : 5 ≤ dp) (ht : 0 ≤ ι 176 1 ∧ ι 176 1 ≤ 16) (hO : zPre ι) {s d : Int} (hs : 0 ≤ s ∧ s < 8) (hd : 0 ≤ d ∧ d ≤ 4) (hk : 1 ≤ tb 23 ι (6 + s) ∧ tb 23 ι (6 + s) ≤ 5) : zCi l (zc D ad L z) mX1_give dp [zR 176, zR 23, zI s, zI (zt2 (tb 23 ι (6 + s))), zI d] ι (fun v ι' => v = some (zI (zsz (tb 23 ι) s).1) ∧ ι' = ztl 176 1 177 ι (zsz (tb 23 ι) s).2) := by
  have hk0 := hk
  unfold zsz
  rcases (show tb 23 ι (6 + s) = 1 ∨ tb 23 ι (6 + s) = 2 ∨ tb 23 ι (6 + s) = 3 ∨ tb 23 ι (6 + s) = 4 ∨ tb 23 ι (6 + s) = 5 by omega) with g | g | g | g | g
  · rw [g, if_neg (by decide), if_neg (by decide), if_neg (by decide)]
    exact (c_give11 (by omega) ht hO hs (by omega) (by omega))
  · rw [g, if_pos rfl]
    exact c_give12 hdp ht hO hs hd (by omega)
  · rw [g, if_neg (by decide), if_neg (by decide), if_neg (by decide)]
    exact (c_give11 (by omega) ht hO hs (by omega) (by omega))
  · rw [g, if_neg (by decide), if_pos rfl]
    exact (c_give13 (by omega) ht hs (by omega))
  · rw [g, if_neg (by decide), if_neg (by decide), if_pos rfl]
    exact (c_give14 (by omega) ht hs (by omega))
set_option maxRecDepth 100000 in
theorem c_give23 {dp : Nat} (hdp : 6 ≤ dp) (ht : 0 ≤ ι 176 1 ∧ ι 176 1 ≤ 16) (hO : zPre ι) {s d : Int} (hs : 0 ≤ s ∧ s < 8) (hd : 0 ≤ d ∧ d ≤ 3) (hk : 1 ≤ tb 23 ι (6 + s) ∧ tb 23 ι (6 + s) ≤ 5) : zCi l (zc D ad L z) mX1_give dp [zR 176, zR 23, zI s, zI 23, zI d] ι (fun v ι' => v = some (zI ((zm23 (tb 23 ι) s).1)) ∧ ι' = ztl 176 1 177 ι (zm23 (tb 23 ι) s).2) := by
  refine zCt_of (by decide) (Nat.le_of_ble_eq_true rfl) 1 rfl ?_
  refine g_iload (x := d) rfl dX1_give_0 ?_
  refine g_bipush (x := 8) (by decide) dX1_give_2 ?_
  refine g_icmp_le ⟨by omega, by omega⟩ (by decide) (t := 9) dX1_give_4 (by decide) (fun h4 => ?_) (fun h4 => ?_)
  · refine g_aload_n (x := 176) rfl dX1_give_9 ?_
    refine g_iload_n (x := 23) rfl dX1_give_10 ?_
    refine i_callV mvX1_leaveTrace tw_788 (ci := 1) (congrArg Prod.fst sh_176) rfl (by decide) (c_leaveTrace ht) (by omega) (st' := []) rfl (Nat.le_of_ble_eq_true rfl) rfl dX1_give_11 (fun v_1 ι1 hq_11 => ?_)
    obtain ⟨rfl, hι1⟩ := hq_11
    have g1 := ztl_b (o := 176) (f := 1) (a := 177) (by decide) [23] ι ht
    rw [← hι1] at g1
    have ew1 : tb 23 ι1 = tb 23 ι := by rw [hι1, ztl_tb]
    refine g_aload_n (x := 23) rfl dX1_give_14 ?_
    refine g_get fgX1_20 zcl_5 (congrArg Prod.fst sh_23) (by decide) rg_23_0 dX1_give_15 ?_
    refine g_iload_n (x := s) rfl dX1_give_18 ?_
    refine g_iald sh_24 (by decide) (by omega) (by omega) (by decide) ag_24 dX1_give_19 ?_
    have o5 : ι1 24 s = tb 23 ι (6 + s) := by rw [← ew1, tb_k 23 ι1 hs.1 hs.2]
    rw [o5]
    refine g_istore (ls' := [some (zR 176), some (zR 23), some (zI s), some (zI 23), some (zI d), some (zI (tb 23 ι (6 + s)))]) dX1_give_20 (by decide) rfl ?_
    refine g_iload_n (x := 23) rfl dX1_give_22 ?_
    refine g_tswIn (by decide) dX1_give_23 (by decide) (by decide) (off := 194) rfl (t := 217) (by decide) ?_
    refine g_aload_n (x := 176) rfl dX1_give_217 ?_
    refine g_aload_n (x := 23) rfl dX1_give_218 ?_
    refine g_iload_n (x := s) rfl dX1_give_219 ?_
    refine g_bipush (x := 20) (by decide) dX1_give_220 ?_
    refine g_iload (x := d) rfl dX1_give_222 ?_
    refine g_iconst (x := 1) rfl dX1_give_224 ?_
    refine g_iadd dX1_give_225 ?_
    refine i_callV mvX1_give tw_784 (ci := 1) (congrArg Prod.fst sh_176) rfl (by decide) (c_give20 (dp := 1) (by decide) g1 hs (d := d + 1) (by omega)) (by omega) (st' := []) rfl (Nat.le_of_ble_eq_true rfl) rfl dX1_give_226 (fun v_2 ι2 hq_226 => ?_)
    obtain ⟨rfl, hι2⟩ := hq_226
    have g2 := ztl_b (o := 176) (f := 1) (a := 177) (by decide) [20] ι1 g1
    rw [← hι2] at g2
    have ew2 : tb 23 ι2 = tb 23 ι := by rw [hι2, ztl_tb, ew1]
    have hO2 : zPre ι2 := by rw [hι2, hι1]; exact ztl_old (ztl_old hO _) _
    refine g_aload_n (x := 176) rfl dX1_give_229 ?_
    refine g_aload_n (x := 23) rfl dX1_give_230 ?_
    refine g_iload_n (x := s) rfl dX1_give_231 ?_
    refine g_gets2 tw_780 dX1_give_232 ?_
    refine g_iload (x := (tb 23 ι (6 + s))) rfl dX1_give_235 ?_
    refine g_iald sh_2 (by decide) (by omega) (by omega) (by decide) ag_2 dX1_give_237 ?_
    rw [(hO2.1 (tb 23 ι (6 + s)) (by omega) (by omega)).2.1]
    refine g_iload (x := d) rfl dX1_give_238 ?_
    refine g_iconst (x := 1) rfl dX1_give_240 ?_
    refine g_iadd dX1_give_241 ?_
    rw [show tb 23 ι (6 + s) = tb 23 ι2 (6 + s) by rw [ew2]]
    refine i_callV mvX1_give tw_784 (ci := 1) (congrArg Prod.fst sh_176) rfl (by decide) (c_giveS (dp := 5) (by decide) g2 hO2 hs (d := d + 1) (by omega) (by rw [ew2]; exact hk)) (by omega) (st' := [zI s]) rfl (Nat.le_of_ble_eq_true rfl) rfl dX1_give_242 (fun v_3 ι3 hq_242 => ?_)
    obtain ⟨rfl, hι3⟩ := hq_242
    refine g_isub dX1_give_245 ?_
    exact i_iret rfl dX1_give_246 (⟨by unfold zm23; rw [ew2], by rw [hι3, ew2, hι2, hι1, ztl_app, ztl_app]; rfl⟩)
  · exfalso
    omega

theorem c_giveQ (ht : 0 ≤ ι 176 1 ∧ ι 176 1 ≤ 16) (hO : zPre ι) {s d : Int} (hs : 0 ≤ s ∧ s < 8) (hd : 0 ≤ d ∧ d ≤ 3) (hk : 1 ≤ tb 23 ι (6 + s) ∧ tb 23 ι (6 + s) ≤ 5) : zCi l (zc D ad L z) mX1_give 6 [zR 176, zR 23, zI s, zI (zt3 (tb 23 ι (6 + s))), zI d] ι (fun v ι' => v = some (zI (if 4 ≤ tb 23 ι (6 + s) then zm23 (tb 23 ι) s else zmk (tb 23 ι) s).1) ∧ ι' = ztl 176 1 177 ι (if 4 ≤ tb 23 ι (6 + s) then zm23 (tb 23 ι) s else zmk (tb 23 ι) s).2) := by
  by_cases g : 4 ≤ tb 23 ι (6 + s)
  · rw [if_pos g, show zt3 (tb 23 ι (6 + s)) = 23 by unfold zt3; rw [if_neg (by omega), if_neg (by omega), if_neg (by omega), if_neg (by omega)]]
    exact c_give23 (by decide) ht hO hs hd hk
  · rw [if_neg g]
    exact (c_giveM (by omega) ht hs (by omega) (by omega))
set_option maxRecDepth 100000 in
theorem c_answerOf (hO : zPre ι) {s w : Int} (hs : 0 ≤ s ∧ s < 8) (hk : 1 ≤ tb 23 ι (6 + s) ∧ tb 23 ι (6 + s) ≤ 5) (hw : 0 ≤ w ∧ w ≤ 1) : zCi l (zc D ad L z) mX1_answerOf 7 [zR 176, zR 23, zI s, zI w] ι (fun v ι' => v = some (zI (zask (tb 23 ι) s w).1) ∧ ι' = ztl 176 1 177 (iup ι 176 1 0) (zask (tb 23 ι) s w).2) := by
  refine zCt_of (by decide) (Nat.le_of_ble_eq_true rfl) 1 rfl ?_
  refine g_aload_n (x := 176) rfl dX1_answerOf_0 ?_
  refine g_iconst (x := 0) rfl dX1_answerOf_1 ?_
  obtain ⟨ι1, hι1⟩ : ∃ y_, y_ = iup ι 176 1 0 := ⟨_, rfl⟩
  refine i_put fwX1_16 zcl_1 (congrArg Prod.fst sh_176) (by decide) (by decide) (ι1 := ι1) (by rw [hι1]; exact iu_176_1) dX1_answerOf_2 ?_
  have ew1 : tb 23 ι1 = tb 23 ι := by
    funext y
    unfold tb
    simp (disch := omega) only [hι1, iup_n]
  have hO1 : zPre ι1 := by
    refine ⟨fun k k0 k1 => ?_, fun k k0 k1 => ?_⟩
    · rw [hι1, iup_n _ (by omega), iup_n _ (by omega), iup_n _ (by omega)]; exact hO.1 k k0 k1
    · rw [hι1, iup_n _ (by omega)]; exact hO.2 k k0 k1
  have o5 : ι1 24 s = tb 23 ι1 (6 + s) := by rw [tb_k 23 ι1 hs.1 hs.2]
  have g1 : 0 ≤ ι1 176 1 ∧ ι1 176 1 ≤ 16 := by rw [hι1, iup_s]; decide
  have hk1 : 1 ≤ tb 23 ι1 (6 + s) ∧ tb 23 ι1 (6 + s) ≤ 5 := by rw [ew1]; exact hk
  refine g_aload_n (x := 23) rfl dX1_answerOf_5 ?_
  refine g_get fgX1_20 zcl_5 (congrArg Prod.fst sh_23) (by decide) rg_23_0 dX1_answerOf_6 ?_
  refine g_iload_n (x := s) rfl dX1_answerOf_9 ?_
  refine g_iald sh_24 (by decide) (by omega) (by omega) (by decide) ag_24 dX1_answerOf_10 ?_
  rw [o5]
  refine g_istore (ls' := [some (zR 176), some (zR 23), some (zI s), some (zI w), some (zI (tb 23 ι1 (6 + s)))]) dX1_answerOf_11 (by decide) rfl ?_
  refine g_aload_n (x := 176) rfl dX1_answerOf_13 ?_
  refine g_aload_n (x := 23) rfl dX1_answerOf_14 ?_
  refine g_iload_n (x := s) rfl dX1_answerOf_15 ?_
  refine g_iload_n (x := w) rfl dX1_answerOf_16 ?_
  refine g_if_ne ⟨by omega, by omega⟩ (t := 29) dX1_answerOf_17 (by decide) (fun h17 => ?_) (fun h17 => ?_)
  · refine g_gets3 tw_782 dX1_answerOf_29 ?_
    refine g_iload (x := (tb 23 ι1 (6 + s))) rfl dX1_answerOf_32 ?_
    refine g_iald sh_3 (by decide) (by omega) (by omega) (by decide) ag_3 dX1_answerOf_34 ?_
    rw [(hO1.1 (tb 23 ι1 (6 + s)) (by omega) (by omega)).2.2]
    refine g_iconst (x := 0) rfl dX1_answerOf_35 ?_
    refine i_callV mvX1_give tw_784 (ci := 1) (congrArg Prod.fst sh_176) rfl (by decide) (c_giveQ g1 hO1 hs (d := 0) (by omega) hk1) (by decide) (st' := []) rfl (Nat.le_of_ble_eq_true rfl) rfl dX1_answerOf_36 (fun v_1 ι2 hq_36 => ?_)
    obtain ⟨rfl, hι2⟩ := hq_36
    exact i_iret rfl dX1_answerOf_39 (⟨by unfold zask; rw [if_neg (show ¬ w = 0 by omega), ew1], by unfold zask; rw [if_neg (show ¬ w = 0 by omega), hι2, ew1, hι1]⟩)
  · refine g_gets2 tw_780 dX1_answerOf_20 ?_
    refine g_iload (x := (tb 23 ι1 (6 + s))) rfl dX1_answerOf_23 ?_
    refine g_iald sh_2 (by decide) (by omega) (by omega) (by decide) ag_2 dX1_answerOf_25 ?_
    rw [(hO1.1 (tb 23 ι1 (6 + s)) (by omega) (by omega)).2.1]
    refine g_goto (t := 35) dX1_answerOf_26 (by decide) ?_
    refine g_iconst (x := 0) rfl dX1_answerOf_35 ?_
    refine i_callV mvX1_give tw_784 (ci := 1) (congrArg Prod.fst sh_176) rfl (by decide) (c_giveS (dp := 6) (by decide) g1 hO1 hs (d := 0) (by omega) hk1) (by decide) (st' := []) rfl (Nat.le_of_ble_eq_true rfl) rfl dX1_answerOf_36 (fun v_2 ι2 hq_36 => ?_)
    obtain ⟨rfl, hι2⟩ := hq_36
    exact i_iret rfl dX1_answerOf_39 (⟨by unfold zask; rw [if_pos (show w = 0 by omega), ew1], by unfold zask; rw [if_pos (show w = 0 by omega), hι2, hι1, ← hι1, ew1]⟩)

end
