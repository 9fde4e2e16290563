section
variable {l : Launch} {D : va_G} {ad : Nat → Nat} {L z : Nat} {ι : zi}
/-! the text of the sorts -/
theorem zi2b_d : ∀ (c : Fin 256) (i : Fin 5), (zi2b ((c.val : Nat) : Int) = ztt ((i.val : Nat) : Int)) ↔ (((c.val : Nat) : Int) = ztt ((i.val : Nat) : Int)) := by decide +kernel
theorem zi2b_t {c i : Int} (hc : 0 ≤ c ∧ c ≤ 255) (hi : 0 ≤ i ∧ i < 5) : zi2b c = ztt i ↔ c = ztt i := by
  have := zi2b_d ⟨c.toNat, by omega⟩ ⟨i.toNat, by omega⟩
  simp only [] at this
  rw [show ((c.toNat : Nat) : Int) = c by omega, show ((i.toNat : Nat) : Int) = i by omega] at this
  exact this
theorem zi2b_r : ∀ c : Fin 256, -128 ≤ zi2b ((c.val : Nat) : Int) ∧ zi2b ((c.val : Nat) : Int) ≤ 127 := by decide +kernel
theorem zi2b_b {c : Int} (hc : 0 ≤ c ∧ c ≤ 255) : zB (zi2b c) := by
  have := zi2b_r ⟨c.toNat, by omega⟩
  simp only [] at this
  rw [show ((c.toNat : Nat) : Int) = c by omega] at this
  exact ⟨by omega, by omega⟩
theorem ztt_b (i : Int) : 97 ≤ ztt i ∧ ztt i ≤ 116 := by unfold ztt; (repeat' split) <;> omega
theorem zkd_i {c i : Int} (hi : 0 ≤ i ∧ i < 5) (h : c = ztt i) : i = zkd c - 1 := by
  rcases (show i = 0 ∨ i = 1 ∨ i = 2 ∨ i = 3 ∨ i = 4 by omega) with g | g | g | g | g <;> subst g <;> subst h <;> decide
theorem zkd_n {c : Int} (h : ∀ k, 0 ≤ k → k < 5 → c ≠ ztt k) : zkd c - 1 = -1 := by
  have h0 : c ≠ 97 := h 0 (by decide) (by decide)
  have h1 : c ≠ 110 := h 1 (by decide) (by decide)
  have h2 : c ≠ 103 := h 2 (by decide) (by decide)
  have h3 : c ≠ 116 := h 3 (by decide) (by decide)
  have h4 : c ≠ 112 := h 4 (by decide) (by decide)
  unfold zkd
  rw [if_neg h0, if_neg h1, if_neg h2, if_neg h3, if_neg h4]
  decide
set_option maxRecDepth 100000 in
theorem c_coder  : zCi l (zc D ad L z) mJ0_coder_7d493 0 [zR 4] ι (zP (zI 0) ι) := by
  refine zCt_of (by decide) (Nat.le_of_ble_eq_true rfl) 0 rfl ?_
  refine g_getsC tw_360 dJ0_coder_7d493_0 ?_
  refine g_if_eq (by decide) (t := 13) dJ0_coder_7d493_3 (by decide) (fun h3 => ?_) (fun h3 => ?_)
  · exact absurd h3 (by decide)
  · refine g_aload_n (x := 4) rfl dJ0_coder_7d493_6 ?_
    refine g_getSc tw_1190 dJ0_coder_7d493_7 ?_
    refine g_goto (t := 14) dJ0_coder_7d493_10 (by decide) ?_
    exact i_bret rfl dJ0_coder_7d493_14 (⟨rfl, rfl⟩)

set_option maxRecDepth 100000 in
theorem c_isLatin1  : zCi l (zc D ad L z) mJ0_isLatin1_aae02 0 [zR 4] ι (zP (zI 1) ι) := by
  refine zCt_of (by decide) (Nat.le_of_ble_eq_true rfl) 0 rfl ?_
  refine g_getsC tw_360 dJ0_isLatin1_aae02_0 ?_
  refine g_if_eq (by decide) (t := 17) dJ0_isLatin1_aae02_3 (by decide) (fun h3 => ?_) (fun h3 => ?_)
  · exact absurd h3 (by decide)
  · refine g_aload_n (x := 4) rfl dJ0_isLatin1_aae02_6 ?_
    refine g_getSc tw_1190 dJ0_isLatin1_aae02_7 ?_
    refine g_if_ne (by decide) (t := 17) dJ0_isLatin1_aae02_10 (by decide) (fun h10 => ?_) (fun h10 => ?_)
    · exact absurd rfl h10
    · refine g_iconst (x := 1) rfl dJ0_isLatin1_aae02_13 ?_
      refine g_goto (t := 18) dJ0_isLatin1_aae02_14 (by decide) ?_
      exact i_zret rfl (by decide) dJ0_isLatin1_aae02_18 (⟨rfl, rfl⟩)

set_option maxRecDepth 100000 in
theorem c_slength  : zCi l (zc D ad L z) mJ0_length_8abf5 1 [zR 4] ι (zP (zI 5) ι) := by
  refine zCt_of (by decide) (Nat.le_of_ble_eq_true rfl) 0 rfl ?_
  refine g_aload_n (x := 4) rfl dJ0_length_8abf5_0 ?_
  refine g_getSv tw_1191 dJ0_length_8abf5_1 ?_
  refine g_alen sh_5 (by decide) (by decide) (by decide) dJ0_length_8abf5_4 ?_
  refine g_aload_n (x := 4) rfl dJ0_length_8abf5_5 ?_
  refine i_callTp mvJ0_coder_7d493 rfl tw_366 (c_coder) (by decide) (st' := [zI 5]) rfl (Nat.le_of_ble_eq_true rfl) rfl dJ0_length_8abf5_6 ?_
  refine g_ishr dJ0_length_8abf5_9 ?_
  exact i_iret rfl dJ0_length_8abf5_10 (⟨by decide, rfl⟩)

set_option maxRecDepth 100000 in
theorem c_canEncode {c : Int} (hc : 0 ≤ c ∧ c ≤ 255) : zCi l (zc D ad L z) mJ1_canEncode_9a6ad 0 [zI c] ι (zP (zI 1) ι) := by
  refine zCt_of (by decide) (Nat.le_of_ble_eq_true rfl) 0 rfl ?_
  refine g_iload_n (x := c) rfl dJ1_canEncode_9a6ad_0 ?_
  refine g_if_lt ⟨by omega, by omega⟩ (t := 15) dJ1_canEncode_9a6ad_1 (by decide) (fun h1 => ?_) (fun h1 => ?_)
  · exfalso; omega
  · refine g_iload_n (x := c) rfl dJ1_canEncode_9a6ad_4 ?_
    refine g_sipush (x := 255) (by decide) dJ1_canEncode_9a6ad_5 ?_
    refine g_icmp_gt ⟨by omega, by omega⟩ (by decide) (t := 15) dJ1_canEncode_9a6ad_8 (by decide) (fun h8 => ?_) (fun h8 => ?_)
    · exfalso; omega
    · refine g_iconst (x := 1) rfl dJ1_canEncode_9a6ad_11 ?_
      refine g_goto (t := 16) dJ1_canEncode_9a6ad_12 (by decide) ?_
      exact i_zret rfl (by decide) dJ1_canEncode_9a6ad_16 (⟨rfl, rfl⟩)

set_option maxRecDepth 100000 in
theorem lp_indexOfChar (hO : zPre ι) {c : Int} (hc : 0 ≤ c ∧ c ≤ 255) : ∀ i : Int, 0 ≤ i → i ≤ 5 → (∀ k, 0 ≤ k → k < i → c ≠ ztt k) → zGi l (zc D ad L z) mJ1_indexOfChar_4cfef 0 7 [some (zR 5), some (zI c), some (zI 0), some (zI 5), some (zI (zi2b c)), some (zI i)] [] ι (zP (zI (zkd c - 1)) ι) := by
  refine z_loopI (P := fun i => (∀ k, 0 ≤ k → k < i → c ≠ ztt k) → _) (fun i h0 h1 ih hne => ?_)
  have htb := ztt_b i
  have hcb := zi2b_b hc
  refine g_iload (x := i) rfl dJ1_indexOfChar_4cfef_7 ?_
  refine g_iload_n (x := 5) rfl dJ1_indexOfChar_4cfef_9 ?_
  refine g_icmp_ge ⟨by omega, by omega⟩ (by decide) (t := 31) dJ1_indexOfChar_4cfef_10 (by decide) (fun h10 => ?_) (fun h10 => ?_)
  · refine g_iconst (x := -1) rfl dJ1_indexOfChar_4cfef_31 ?_
    exact i_iret rfl dJ1_indexOfChar_4cfef_32 (⟨by rw [zkd_n (fun k k0 k1 => hne k k0 (by omega))], rfl⟩)
  · refine g_aload_n (x := 5) rfl dJ1_indexOfChar_4cfef_13 ?_
    refine g_iload (x := i) rfl dJ1_indexOfChar_4cfef_14 ?_
    refine g_bald sh_5 (by decide) (by omega) (by omega) (by decide) ag_5 dJ1_indexOfChar_4cfef_16 ?_
    rw [hO.2 i h0 (by omega)]
    have hci := zi2b_t hc (i := i) ⟨h0, by omega⟩
    refine g_iload (x := (zi2b c)) rfl dJ1_indexOfChar_4cfef_17 ?_
    refine g_icmp_ne (by first | exact hcb | exact ⟨by omega, by omega⟩) (by first | exact hcb | exact ⟨by omega, by omega⟩) (t := 25) dJ1_indexOfChar_4cfef_19 (by decide) (fun h19 => ?_) (fun h19 => ?_)
    · refine g_iinc (x := i) (y := i + 1) (ls' := [some (zR 5), some (zI c), some (zI 0), some (zI 5), some (zI (zi2b c)), some (zI (i + 1))]) dJ1_indexOfChar_4cfef_25 rfl (rfl) (by decide) rfl ?_
      refine g_goto (t := 7) dJ1_indexOfChar_4cfef_28 (by decide) ?_
      refine ih (by omega) (fun k k0 k1 => ?_)
      by_cases g : k = i
      · rw [g]
        exact fun q => absurd (hci.2 q) (by omega)
      · exact hne k k0 (by omega)
    · refine g_iload (x := i) rfl dJ1_indexOfChar_4cfef_22 ?_
      exact i_iret rfl dJ1_indexOfChar_4cfef_24 (⟨by rw [← zkd_i ⟨h0, by omega⟩ (hci.1 (by omega))], rfl⟩)

set_option maxRecDepth 100000 in
theorem c_indexOfChar (hO : zPre ι) {c : Int} (hc : 0 ≤ c ∧ c ≤ 255) : zCi l (zc D ad L z) mJ1_indexOfChar_4cfef 0 [zR 5, zI c, zI 0, zI 5] ι (zP (zI (zkd c - 1)) ι) := by
  refine zCt_of (by decide) (Nat.le_of_ble_eq_true rfl) 2 rfl ?_
  refine g_iload_n (x := c) rfl dJ1_indexOfChar_4cfef_0 ?_
  refine g_i2b dJ1_indexOfChar_4cfef_1 ?_
  refine g_istore (ls' := [some (zR 5), some (zI c), some (zI 0), some (zI 5), some (zI (zi2b c)), none]) dJ1_indexOfChar_4cfef_2 (by decide) rfl ?_
  refine g_iload_n (x := 0) rfl dJ1_indexOfChar_4cfef_4 ?_
  refine g_istore (ls' := [some (zR 5), some (zI c), some (zI 0), some (zI 5), some (zI (zi2b c)), some (zI 0)]) dJ1_indexOfChar_4cfef_5 (by decide) rfl ?_
  exact lp_indexOfChar (l := l) (D := D) (ad := ad) (L := L) (z := z) hO hc 0 (by omega) (by omega) (fun k k0 k1 => by omega)

set_option maxRecDepth 100000 in
theorem c_latinIndexOf (hO : zPre ι) {c : Int} (hc : 0 ≤ c ∧ c ≤ 255) : zCi l (zc D ad L z) mJ1_indexOf_4cfef 1 [zR 5, zI c, zI 0, zI 5] ι (zP (zI (zkd c - 1)) ι) := by
  refine zCt_of (by decide) (Nat.le_of_ble_eq_true rfl) 0 rfl ?_
  refine g_iload_n (x := c) rfl dJ1_indexOf_4cfef_0 ?_
  refine i_callSp msJ1_canEncode_9a6ad tw_373 (c_canEncode hc) (by decide) (st' := []) rfl (Nat.le_of_ble_eq_true rfl) rfl dJ1_indexOf_4cfef_1 ?_
  refine g_if_ne (by decide) (t := 9) dJ1_indexOf_4cfef_4 (by decide) (fun h4 => ?_) (fun h4 => ?_)
  · refine g_iload_n (x := 0) rfl dJ1_indexOf_4cfef_9 ?_
    refine g_iconst (x := 0) rfl dJ1_indexOf_4cfef_10 ?_
    refine g_mmax (by decide) (by decide) (by decide) (Nat.le_of_ble_eq_true rfl) tw_376 mq_max2 mq_max3 mq_max4 dJ1_indexOf_4cfef_11 ?_
    rw [show zmax 0 0 = 0 by decide]
    refine g_istore_n (ls' := [some (zR 5), some (zI c), some (zI 0), some (zI 5)]) dJ1_indexOf_4cfef_14 (by decide) rfl ?_
    refine g_iload_n (x := 5) rfl dJ1_indexOf_4cfef_15 ?_
    refine g_aload_n (x := 5) rfl dJ1_indexOf_4cfef_16 ?_
    refine g_alen sh_5 (by decide) (by decide) (by decide) dJ1_indexOf_4cfef_17 ?_
    refine g_mmin (by decide) (by decide) (by decide) (Nat.le_of_ble_eq_true rfl) tw_379 mq_min2 mq_min3 mq_min4 dJ1_indexOf_4cfef_18 ?_
    rw [show zmin 5 ((5 : Nat) : Int) = 5 by decide]
    refine g_istore_n (ls' := [some (zR 5), some (zI c), some (zI 0), some (zI 5)]) dJ1_indexOf_4cfef_21 (by decide) rfl ?_
    refine g_iload_n (x := 0) rfl dJ1_indexOf_4cfef_22 ?_
    refine g_iload_n (x := 5) rfl dJ1_indexOf_4cfef_23 ?_
    refine g_icmp_lt (by decide) (by decide) (t := 29) dJ1_indexOf_4cfef_24 (by decide) (fun h24 => ?_) (fun h24 => ?_)
    · refine g_aload_n (x := 5) rfl dJ1_indexOf_4cfef_29 ?_
      refine g_iload_n (x := c) rfl dJ1_indexOf_4cfef_30 ?_
      refine g_iload_n (x := 0) rfl dJ1_indexOf_4cfef_31 ?_
      refine g_iload_n (x := 5) rfl dJ1_indexOf_4cfef_32 ?_
      refine i_callSp msJ1_indexOfChar_4cfef tw_382 (c_indexOfChar hO hc) (by decide) (st' := []) rfl (Nat.le_of_ble_eq_true rfl) rfl dJ1_indexOf_4cfef_33 ?_
      exact i_iret rfl dJ1_indexOf_4cfef_36 (⟨rfl, rfl⟩)
    · exact absurd h24 (by decide)
  · exact absurd h4 (by decide)

set_option maxRecDepth 100000 in
theorem c_indexOf2 (hO : zPre ι) {c : Int} (hc : 0 ≤ c ∧ c ≤ 255) : zCi l (zc D ad L z) mJ0_indexOf_7cf53 2 [zR 4, zI c, zI 0] ι (zP (zI (zkd c - 1)) ι) := by
  refine zCt_of (by decide) (Nat.le_of_ble_eq_true rfl) 0 rfl ?_
  refine g_aload_n (x := 4) rfl dJ0_indexOf_7cf53_0 ?_
  refine i_callTp mvJ0_isLatin1_aae02 rfl tw_356 (c_isLatin1) (by decide) (st' := []) rfl (Nat.le_of_ble_eq_true rfl) rfl dJ0_indexOf_7cf53_1 ?_
  refine g_if_eq (by decide) (t := 23) dJ0_indexOf_7cf53_4 (by decide) (fun h4 => ?_) (fun h4 => ?_)
  · exact absurd h4 (by decide)
  · refine g_aload_n (x := 4) rfl dJ0_indexOf_7cf53_7 ?_
    refine g_getSv tw_1191 dJ0_indexOf_7cf53_8 ?_
    refine g_iload_n (x := c) rfl dJ0_indexOf_7cf53_11 ?_
    refine g_iload_n (x := 0) rfl dJ0_indexOf_7cf53_12 ?_
    refine g_aload_n (x := 4) rfl dJ0_indexOf_7cf53_13 ?_
    refine i_callTp mvJ0_length_8abf5 rfl tw_362 (c_slength) (by decide) (st' := [zI 0, zI c, zR 5]) rfl (Nat.le_of_ble_eq_true rfl) rfl dJ0_indexOf_7cf53_14 ?_
    refine i_callSp msJ1_indexOf_4cfef tw_370 (c_latinIndexOf hO hc) (by decide) (st' := []) rfl (Nat.le_of_ble_eq_true rfl) rfl dJ0_indexOf_7cf53_17 ?_
    refine g_goto (t := 36) dJ0_indexOf_7cf53_20 (by decide) ?_
    exact i_iret rfl dJ0_indexOf_7cf53_36 (⟨rfl, rfl⟩)

set_option maxRecDepth 100000 in
theorem c_indexOf (hO : zPre ι) {c : Int} (hc : 0 ≤ c ∧ c ≤ 255) : zCi l (zc D ad L z) mJ0_indexOf_0f7a4 3 [zR 4, zI c] ι (zP (zI (zkd c - 1)) ι) := by
  refine zCt_of (by decide) (Nat.le_of_ble_eq_true rfl) 0 rfl ?_
  refine g_aload_n (x := 4) rfl dJ0_indexOf_0f7a4_0 ?_
  refine g_iload_n (x := c) rfl dJ0_indexOf_0f7a4_1 ?_
  refine g_iconst (x := 0) rfl dJ0_indexOf_0f7a4_2 ?_
  refine i_callTp mvJ0_indexOf_7cf53 rfl tw_352 (c_indexOf2 hO hc) (by decide) (st' := []) rfl (Nat.le_of_ble_eq_true rfl) rfl dJ0_indexOf_0f7a4_3 ?_
  exact i_iret rfl dJ0_indexOf_0f7a4_6 (⟨rfl, rfl⟩)

/-! the tape of the class -/
def zqC (h : Int → Int) (L' : Int) (ι : zi) : Prop := ι 21 1 = L' ∧ (0 ≤ L' ∧ L' ≤ 110) ∧ (∀ p, 0 ≤ p → p < L' → h p = ι 22 p ∧ 0 ≤ h p ∧ h p ≤ 255) ∧ (∀ p, L' ≤ p → h p = -1)
theorem zqC_up {h : Int → Int} {L' : Int} {ι : zi} (hq : zqC h L' ι) {a : Nat} {x v : Int} (ha : (a ≠ 21 ∨ x ≠ 1) ∧ a ≠ 22) : zqC h L' (iup ι a x v) := by
  obtain ⟨h1, h2, h3, h4⟩ := hq
  refine ⟨by rw [iup_n _ (by omega)]; exact h1, h2, fun p p0 p1 => by rw [iup_n _ (by omega)]; exact h3 p p0 p1, h4⟩
def zFc (ι ι' : zi) : Prop := ∀ b x, (b ≠ 21 ∨ (x ≠ 2 ∧ x ≠ 3 ∧ x ≠ 4)) → (b < 28 ∨ 33 ≤ b) → ι' b x = ι b x
theorem zFc.r (ι : zi) : zFc ι ι := fun _ _ _ _ => rfl
theorem zFc.t {ι ι' ι'' : zi} (h : zFc ι ι') (g : zFc ι' ι'') : zFc ι ι'' := fun b x h1 h2 => (g b x h1 h2).trans (h b x h1 h2)
theorem zFc.up {ι : zi} {a : Nat} {x v : Int} (h : (a = 21 ∧ (x = 2 ∨ x = 3 ∨ x = 4)) ∨ (28 ≤ a ∧ a ≤ 32)) : zFc ι (iup ι a x v) := fun b y h1 h2 => iup_n ι (by omega)
theorem zqC_fc {h : Int → Int} {L' : Int} {ι ι' : zi} (hq : zqC h L' ι) (hf : zFc ι ι') : zqC h L' ι' := by
  obtain ⟨h1, h2, h3, h4⟩ := hq
  refine ⟨by rw [hf 21 1 (by omega) (by omega)]; exact h1, h2, fun p p0 p1 => by rw [hf 22 p (by omega) (by omega)]; exact h3 p p0 p1, h4⟩
theorem zPre_fc {ι ι' : zi} (hO : zPre ι) (hf : zFc ι ι') : zPre ι' := by
  refine ⟨fun k k0 k1 => ?_, fun k k0 k1 => ?_⟩
  · rw [hf 1 k (by omega) (by omega), hf 2 k (by omega) (by omega), hf 3 k (by omega) (by omega)]; exact hO.1 k k0 k1
  · rw [hf 5 k (by omega) (by omega)]; exact hO.2 k k0 k1
/-- the value of the first figures -/
def zvv (h : Int → Int) (p i : Int) : Int := if i ≤ 0 then 0 else if i = 1 then h p - 48 else if i = 2 then 10 * (h p - 48) + h (p + 1) - 48 else 10 * (10 * (h p - 48) + h (p + 1) - 48) + h (p + 2) - 48
theorem pNm_bad {h : Int → Int} {hi p i : Int} (hd : ∀ k, 0 ≤ k → k < i → zdg h (p + k)) (hi3 : (i < 1 ∧ ¬ zdg h (p + i) ∧ 0 ≤ i) ∨ 3 ≤ i) : pNm h hi p = .error (1, p) := by
  unfold pNm
  rcases hi3 with ⟨g, g1, g2⟩ | g
  · have : i = 0 := by omega
    subst this
    rw [Int.add_zero] at g1
    rw [if_pos g1]
  · have a0 := hd 0 (by omega) (by omega)
    rw [Int.add_zero] at a0
    have a1 := hd 1 (by omega) (by omega)
    have a2 := hd 2 (by omega) (by omega)
    rw [if_neg (fun q => q a0), if_neg (fun q => q a1), if_neg (fun q => q a2)]
theorem pNm_good {h : Int → Int} {hi p i : Int} (hd : ∀ k, 0 ≤ k → k < i → zdg h (p + k)) (hi3 : 1 ≤ i ∧ i ≤ 2) (hn : ¬ zdg h (p + i)) : pNm h hi p = if zvv h p i ≤ hi then .ok (zvv h p i, p + i) else .error (2, p) := by
  unfold pNm
  have a0 := hd 0 (by omega) (by omega)
  rw [Int.add_zero] at a0
  rw [if_neg (fun q => q a0)]
  rcases (show i = 1 ∨ i = 2 by omega) with g | g <;> subst g
  · rw [if_pos hn]; rfl
  · have a1 := hd 1 (by omega) (by omega)
    rw [if_neg (fun q => q a1), if_pos hn]; rfl
theorem zvv_b {h : Int → Int} {p i : Int} (hd : ∀ k, 0 ≤ k → k < i → zdg h (p + k)) (hi : 0 ≤ i ∧ i ≤ 3) : 0 ≤ zvv h p i ∧ zvv h p i ≤ 999 := by
  unfold zvv
  rcases (show i = 0 ∨ i = 1 ∨ i = 2 ∨ i = 3 by omega) with g | g | g | g <;> subst g
  · show (0 : Int) ≤ 0 ∧ (0 : Int) ≤ 999; decide
  · have a0 := hd 0 (by omega) (by omega)
    rw [Int.add_zero] at a0
    rw [if_neg (by decide), if_pos rfl]; omega
  · have a0 := hd 0 (by omega) (by omega)
    rw [Int.add_zero] at a0
    have a1 := hd 1 (by omega) (by omega)
    rw [if_neg (by decide), if_neg (by decide), if_pos rfl]; omega
  · have a0 := hd 0 (by omega) (by omega)
    rw [Int.add_zero] at a0
    have a1 := hd 1 (by omega) (by omega)
    have a2 := hd 2 (by omega) (by omega)
    rw [if_neg (by decide), if_neg (by decide), if_neg (by decide)]; omega
theorem zvv_s {h : Int → Int} {p i : Int} (hi : 0 ≤ i ∧ i ≤ 2) : zvv h p (i + 1) = 10 * zvv h p i + h (p + i) - 48 := by
  unfold zvv
  rcases (show i = 0 ∨ i = 1 ∨ i = 2 by omega) with g | g | g <;> subst g
  · rw [if_neg (by decide), if_pos (by decide), if_pos (by decide), Int.add_zero]; omega
  · rw [if_neg (by decide), if_neg (by decide), if_pos (by decide), if_neg (by decide), if_pos (by decide)]
  · rw [if_neg (by decide), if_neg (by decide), if_neg (by decide), if_neg (by decide), if_neg (by decide), if_pos (by decide)]
set_option maxRecDepth 100000 in
theorem c_fails {w : Int} : zCi l (zc D ad L z) mX4_fails 0 [zR 21, zI w] ι (fun v ι' => v = some (zI 0) ∧ ι' = iup (iup ι 21 2 w) 21 3 (ι 21 4)) := by
  refine zCt_of (by decide) (Nat.le_of_ble_eq_true rfl) 0 rfl ?_
  refine g_aload_n (x := 21) rfl dX4_fails_0 ?_
  refine g_iload_n (x := w) rfl dX4_fails_1 ?_
  obtain ⟨ι1, hι1⟩ : ∃ y_, y_ = iup ι 21 2 w := ⟨_, rfl⟩
  refine i_put fwX4_86 zcl_4 (congrArg Prod.fst sh_21) (by decide) (by decide) (ι1 := ι1) (by rw [hι1]; exact iu_21_2) dX4_fails_2 ?_
  refine g_aload_n (x := 21) rfl dX4_fails_5 ?_
  refine g_aload_n (x := 21) rfl dX4_fails_6 ?_
  refine g_get fgX4_17 zcl_4 (congrArg Prod.fst sh_21) (by decide) ig_21_4 dX4_fails_7 ?_
  rw [show ι1 21 4 = ι 21 4 by rw [hι1, iup_n _ (by omega)]]
  obtain ⟨ι2, hι2⟩ : ∃ y_, y_ = iup ι1 21 3 (ι 21 4) := ⟨_, rfl⟩
  refine i_put fwX4_89 zcl_4 (congrArg Prod.fst sh_21) (by decide) (by decide) (ι1 := ι2) (by rw [hι2]; exact iu_21_3) dX4_fails_10 ?_
  refine g_iconst (x := 0) rfl dX4_fails_13 ?_
  exact i_zret rfl (by decide) dX4_fails_14 (⟨rfl, by rw [hι2, hι1]⟩)

set_option maxRecDepth 100000 in
theorem c_isFigure {h : Int → Int} {L' p : Int} (hq : zqC h L' ι) (hp : 0 ≤ p ∧ p ≤ 300) : zCi l (zc D ad L z) mX4_isFigure 0 [zR 21, zI p] ι (zP (zI (if zdg h p then 1 else 0)) ι) := by
  refine zCt_of (by decide) (Nat.le_of_ble_eq_true rfl) 0 rfl ?_
  obtain ⟨hl, hL, hin, hout⟩ := id hq
  refine g_iload_n (x := p) rfl dX4_isFigure_0 ?_
  refine g_aload_n (x := 21) rfl dX4_isFigure_1 ?_
  refine g_get fgX4_13 zcl_4 (congrArg Prod.fst sh_21) (by decide) ig_21_1 dX4_isFigure_2 ?_
  rw [hl]
  refine g_icmp_ge ⟨by omega, by omega⟩ ⟨by omega, by omega⟩ (t := 34) dX4_isFigure_5 (by decide) (fun h5 => ?_) (fun h5 => ?_)
  · refine g_iconst (x := 0) rfl dX4_isFigure_34 ?_
    exact i_zret rfl (by decide) dX4_isFigure_35 (⟨by rw [if_neg (fun g => by first | omega | (have := hout p (by omega); omega))], rfl⟩)
  · obtain ⟨e1, e2, e3⟩ := hin p hp.1 (by omega)
    refine g_aload_n (x := 21) rfl dX4_isFigure_8 ?_
    refine g_get fgX4_9 zcl_4 (congrArg Prod.fst sh_21) (by decide) rg_21_0 dX4_isFigure_9 ?_
    refine g_iload_n (x := p) rfl dX4_isFigure_12 ?_
    refine g_iald sh_22 (by decide) (by omega) (by omega) (by decide) ag_22 dX4_isFigure_13 ?_
    rw [← e1]
    refine g_bipush (x := 48) (by decide) dX4_isFigure_14 ?_
    refine g_icmp_lt ⟨by omega, by omega⟩ (by decide) (t := 34) dX4_isFigure_16 (by decide) (fun h16 => ?_) (fun h16 => ?_)
    · refine g_iconst (x := 0) rfl dX4_isFigure_34 ?_
      exact i_zret rfl (by decide) dX4_isFigure_35 (⟨by rw [if_neg (fun g => by first | omega | (have := hout p (by omega); omega))], rfl⟩)
    · refine g_aload_n (x := 21) rfl dX4_isFigure_19 ?_
      refine g_get fgX4_9 zcl_4 (congrArg Prod.fst sh_21) (by decide) rg_21_0 dX4_isFigure_20 ?_
      refine g_iload_n (x := p) rfl dX4_isFigure_23 ?_
      refine g_iald sh_22 (by decide) (by omega) (by omega) (by decide) ag_22 dX4_isFigure_24 ?_
      rw [← e1]
      refine g_bipush (x := 57) (by decide) dX4_isFigure_25 ?_
      refine g_icmp_gt ⟨by omega, by omega⟩ (by decide) (t := 34) dX4_isFigure_27 (by decide) (fun h27 => ?_) (fun h27 => ?_)
      · refine g_iconst (x := 0) rfl dX4_isFigure_34 ?_
        exact i_zret rfl (by decide) dX4_isFigure_35 (⟨by rw [if_neg (fun g => by first | omega | (have := hout p (by omega); omega))], rfl⟩)
      · refine g_iconst (x := 1) rfl dX4_isFigure_30 ?_
        refine g_goto (t := 35) dX4_isFigure_31 (by decide) ?_
        exact i_zret rfl (by decide) dX4_isFigure_35 (⟨by rw [if_pos ⟨by omega, by omega⟩], rfl⟩)

set_option maxRecDepth 100000 in
theorem c_append (hl : 0 ≤ ι 21 1 ∧ ι 21 1 ≤ 110) {c : Int} : zCi l (zc D ad L z) mX4_append 0 [zR 21, zI c] ι (fun v ι' => v = some (zI (if ι 21 1 = 110 then 0 else 1)) ∧ ι' = if ι 21 1 = 110 then ι else iup (iup ι 22 (ι 21 1) c) 21 1 (ι 21 1 + 1)) := by
  refine zCt_of (by decide) (Nat.le_of_ble_eq_true rfl) 0 rfl ?_
  refine g_aload_n (x := 21) rfl dX4_append_0 ?_
  refine g_get fgX4_13 zcl_4 (congrArg Prod.fst sh_21) (by decide) ig_21_1 dX4_append_1 ?_
  refine g_bipush (x := 110) (by decide) dX4_append_4 ?_
  refine g_icmp_lt ⟨by omega, by omega⟩ (by decide) (t := 11) dX4_append_6 (by decide) (fun h6 => ?_) (fun h6 => ?_)
  · refine g_aload_n (x := 21) rfl dX4_append_11 ?_
    refine g_get fgX4_9 zcl_4 (congrArg Prod.fst sh_21) (by decide) rg_21_0 dX4_append_12 ?_
    refine g_aload_n (x := 21) rfl dX4_append_15 ?_
    refine g_get fgX4_13 zcl_4 (congrArg Prod.fst sh_21) (by decide) ig_21_1 dX4_append_16 ?_
    refine g_iload_n (x := c) rfl dX4_append_19 ?_
    obtain ⟨ι1, hι1⟩ : ∃ y_, y_ = iup ι 22 (ι 21 1) c := ⟨_, rfl⟩
    refine i_iast sh_22 (by decide) (by decide) (by omega) (by omega) (by decide) (ι1 := ι1) (by rw [hι1]; exact au_22) dX4_append_20 ?_
    refine g_aload_n (x := 21) rfl dX4_append_21 ?_
    refine g_dupR dX4_append_22 ?_
    refine g_get fgX4_13 zcl_4 (congrArg Prod.fst sh_21) (by decide) ig_21_1 dX4_append_23 ?_
    refine g_iconst (x := 1) rfl dX4_append_26 ?_
    refine g_iadd dX4_append_27 ?_
    rw [show ι1 21 1 = ι 21 1 by rw [hι1, iup_n _ (by omega)]]
    obtain ⟨ι2, hι2⟩ : ∃ y_, y_ = iup ι1 21 1 ((ι 21 1) + 1) := ⟨_, rfl⟩
    refine i_put fwX4_13 zcl_4 (congrArg Prod.fst sh_21) (by decide) (by decide) (ι1 := ι2) (by rw [hι2]; exact iu_21_1) dX4_append_28 ?_
    refine g_iconst (x := 1) rfl dX4_append_31 ?_
    exact i_zret rfl (by decide) dX4_append_32 (⟨by rw [if_neg (by omega)], by rw [if_neg (by omega), hι2, hι1]⟩)
  · refine g_iconst (x := 0) rfl dX4_append_9 ?_
    exact i_zret rfl (by decide) dX4_append_10 (⟨by rw [if_pos (by omega)], by rw [if_pos (by omega)]⟩)

set_option maxRecDepth 100000 in
theorem c_readSign {h : Int → Int} {L' p : Int} (hq : zqC h L' ι) (hat : ι 21 4 = p) (hp : 0 ≤ p ∧ p ≤ 200) {c : Int} (hc : 0 ≤ c ∧ c ≤ 255) : zCi l (zc D ad L z) mX4_readSign 1 [zR 21, zI c] ι (fun v ι' => ∃ b, v = some (zI b) ∧ ((b = 0 ∧ ∃ w q, pSg h c p = .error (w, q) ∧ ι' = iup (iup ι 21 2 w) 21 3 q) ∨ (b = 1 ∧ ∃ q, pSg h c p = .ok q ∧ ι' = iup ι 21 4 q))) := by
  refine zCt_of (by decide) (Nat.le_of_ble_eq_true rfl) 0 rfl ?_
  obtain ⟨hl, hL, hin, hout⟩ := id hq
  refine g_aload_n (x := 21) rfl dX4_readSign_0 ?_
  refine g_get fgX4_17 zcl_4 (congrArg Prod.fst sh_21) (by decide) ig_21_4 dX4_readSign_1 ?_
  refine g_aload_n (x := 21) rfl dX4_readSign_4 ?_
  refine g_get fgX4_13 zcl_4 (congrArg Prod.fst sh_21) (by decide) ig_21_1 dX4_readSign_5 ?_
  rw [hat, hl]
  refine g_icmp_ge ⟨by omega, by omega⟩ ⟨by omega, by omega⟩ (t := 24) dX4_readSign_8 (by decide) (fun h8 => ?_) (fun h8 => ?_)
  · refine g_aload_n (x := 21) rfl dX4_readSign_24 ?_
    refine g_iconst (x := 1) rfl dX4_readSign_25 ?_
    refine i_callV mvX4_fails tw_327 (ci := 4) (congrArg Prod.fst sh_21) rfl (by decide) (c_fails) (by decide) (st' := []) rfl (Nat.le_of_ble_eq_true rfl) rfl dX4_readSign_26 (fun v_1 ι1 hq_26 => ?_)
    obtain ⟨rfl, hι1⟩ := hq_26
    rw [hat] at hι1
    have hne : h p ≠ c := by first | omega | (have := hout p (by omega); omega)
    exact i_zret rfl (by decide) dX4_readSign_29 (⟨0, rfl, Or.inl ⟨rfl, 1, p, if_neg hne, hι1⟩⟩)
  · refine g_aload_n (x := 21) rfl dX4_readSign_11 ?_
    refine g_get fgX4_9 zcl_4 (congrArg Prod.fst sh_21) (by decide) rg_21_0 dX4_readSign_12 ?_
    refine g_aload_n (x := 21) rfl dX4_readSign_15 ?_
    refine g_get fgX4_17 zcl_4 (congrArg Prod.fst sh_21) (by decide) ig_21_4 dX4_readSign_16 ?_
    rw [hat]
    obtain ⟨e1, e2, e3⟩ := hin p hp.1 (by omega)
    refine g_iald sh_22 (by decide) (by omega) (by omega) (by decide) ag_22 dX4_readSign_19 ?_
    rw [← e1]
    refine g_iload_n (x := c) rfl dX4_readSign_20 ?_
    refine g_icmp_eq ⟨by omega, by omega⟩ ⟨by omega, by omega⟩ (t := 30) dX4_readSign_21 (by decide) (fun h21 => ?_) (fun h21 => ?_)
    · refine g_aload_n (x := 21) rfl dX4_readSign_30 ?_
      refine g_dupR dX4_readSign_31 ?_
      refine g_get fgX4_17 zcl_4 (congrArg Prod.fst sh_21) (by decide) ig_21_4 dX4_readSign_32 ?_
      refine g_iconst (x := 1) rfl dX4_readSign_35 ?_
      refine g_iadd dX4_readSign_36 ?_
      rw [hat]
      obtain ⟨ι1, hι1⟩ : ∃ y_, y_ = iup ι 21 4 ((p) + 1) := ⟨_, rfl⟩
      refine i_put fwX4_17 zcl_4 (congrArg Prod.fst sh_21) (by decide) (by decide) (ι1 := ι1) (by rw [hι1]; exact iu_21_4) dX4_readSign_37 ?_
      refine g_iconst (x := 1) rfl dX4_readSign_40 ?_
      exact i_zret rfl (by decide) dX4_readSign_41 (⟨1, rfl, Or.inr ⟨rfl, p + 1, if_pos (by omega), hι1⟩⟩)
    · refine g_aload_n (x := 21) rfl dX4_readSign_24 ?_
      refine g_iconst (x := 1) rfl dX4_readSign_25 ?_
      refine i_callV mvX4_fails tw_327 (ci := 4) (congrArg Prod.fst sh_21) rfl (by decide) (c_fails) (by decide) (st' := []) rfl (Nat.le_of_ble_eq_true rfl) rfl dX4_readSign_26 (fun v_2 ι1 hq_26 => ?_)
      obtain ⟨rfl, hι1⟩ := hq_26
      rw [hat] at hι1
      have hne : h p ≠ c := by first | omega | (have := hout p (by omega); omega)
      exact i_zret rfl (by decide) dX4_readSign_29 (⟨0, rfl, Or.inl ⟨rfl, 1, p, if_neg hne, hι1⟩⟩)

set_option maxRecDepth 100000 in
theorem lp_readNumber {h : Int → Int} {L' p : Int} (hq : zqC h L' ι) (hat : ι 21 4 = p) (hp : 0 ≤ p ∧ p ≤ 200) {m : Int} (hm : 0 ≤ m ∧ m ≤ 100) : ∀ i : Int, 0 ≤ i → i ≤ 3 → (∀ k, 0 ≤ k → k < i → zdg h (p + k)) → zGi l (zc D ad L z) mX4_readNumber 1 4 [some (zR 21), some (zI m), some (zI i), some (zI (zvv h p i))] [] ι (fun v ι' => ∃ b, v = some (zI b) ∧ ((b = -1 ∧ ∃ w q, pNm h m p = .error (w, q) ∧ ι' = iup (iup ι 21 2 w) 21 3 q) ∨ (0 ≤ b ∧ ∃ q, pNm h m p = .ok (b, q) ∧ ι' = iup ι 21 4 q))) := by
  refine z_loopI (P := fun i => (∀ k, 0 ≤ k → k < i → zdg h (p + k)) → _) (fun i h0 h1 ih hdg => ?_)
  obtain ⟨hl, hL, hin, hout⟩ := id hq
  have hvb := zvv_b hdg ⟨h0, h1⟩
  refine g_iload_n (x := i) rfl dX4_readNumber_4 ?_
  refine g_iconst (x := 3) rfl dX4_readNumber_5 ?_
  refine g_icmp_ge ⟨by omega, by omega⟩ (by decide) (t := 48) dX4_readNumber_6 (by decide) (fun h6 => ?_) (fun h6 => ?_)
  · refine g_iload_n (x := i) rfl dX4_readNumber_48 ?_
    refine g_iconst (x := 1) rfl dX4_readNumber_49 ?_
    refine g_icmp_lt ⟨by omega, by omega⟩ (by decide) (t := 58) dX4_readNumber_50 (by decide) (fun h50 => ?_) (fun h50 => ?_)
    · refine g_aload_n (x := 21) rfl dX4_readNumber_58 ?_
      refine g_iconst (x := 1) rfl dX4_readNumber_59 ?_
      refine i_callV mvX4_fails tw_327 (ci := 4) (congrArg Prod.fst sh_21) rfl (by decide) (c_fails) (by decide) (st' := []) rfl (Nat.le_of_ble_eq_true rfl) rfl dX4_readNumber_60 (fun v_1 ι1 hq_60 => ?_)
      obtain ⟨rfl, hι1⟩ := hq_60
      rw [hat] at hι1
      refine g_popI dX4_readNumber_63 ?_
      refine g_iconst (x := -1) rfl dX4_readNumber_64 ?_
      exact i_iret rfl dX4_readNumber_65 (⟨-1, rfl, Or.inl ⟨rfl, 1, p, pNm_bad (i := i) hdg (by first | (left; exact ⟨by omega, by omega, by omega⟩) | (right; omega)), hι1⟩⟩)
    · refine g_iload_n (x := i) rfl dX4_readNumber_53 ?_
      refine g_iconst (x := 2) rfl dX4_readNumber_54 ?_
      refine g_icmp_le ⟨by omega, by omega⟩ (by decide) (t := 66) dX4_readNumber_55 (by decide) (fun h55 => ?_) (fun h55 => ?_)
      · refine g_iload_n (x := (zvv h p i)) rfl dX4_readNumber_66 ?_
        refine g_iload_n (x := m) rfl dX4_readNumber_67 ?_
        refine g_icmp_le ⟨by omega, by omega⟩ ⟨by omega, by omega⟩ (t := 79) dX4_readNumber_68 (by decide) (fun h68 => ?_) (fun h68 => ?_)
        · refine g_aload_n (x := 21) rfl dX4_readNumber_79 ?_
          refine g_dupR dX4_readNumber_80 ?_
          refine g_get fgX4_17 zcl_4 (congrArg Prod.fst sh_21) (by decide) ig_21_4 dX4_readNumber_81 ?_
          refine g_iload_n (x := i) rfl dX4_readNumber_84 ?_
          refine g_iadd dX4_readNumber_85 ?_
          rw [hat]
          obtain ⟨ι1, hι1⟩ : ∃ y_, y_ = iup ι 21 4 ((p) + i) := ⟨_, rfl⟩
          refine i_put fwX4_17 zcl_4 (congrArg Prod.fst sh_21) (by decide) (by decide) (ι1 := ι1) (by rw [hι1]; exact iu_21_4) dX4_readNumber_86 ?_
          refine g_iload_n (x := (zvv h p i)) rfl dX4_readNumber_89 ?_
          exact i_iret rfl dX4_readNumber_90 (⟨_, rfl, Or.inr ⟨hvb.1, p + i, by rw [pNm_good (i := i) hdg ⟨by omega, by omega⟩ (by omega), if_pos (by omega)], hι1⟩⟩)
        · refine g_aload_n (x := 21) rfl dX4_readNumber_71 ?_
          refine g_iconst (x := 2) rfl dX4_readNumber_72 ?_
          refine i_callV mvX4_fails tw_327 (ci := 4) (congrArg Prod.fst sh_21) rfl (by decide) (c_fails) (by decide) (st' := []) rfl (Nat.le_of_ble_eq_true rfl) rfl dX4_readNumber_73 (fun v_2 ι1 hq_73 => ?_)
          obtain ⟨rfl, hι1⟩ := hq_73
          rw [hat] at hι1
          refine g_popI dX4_readNumber_76 ?_
          refine g_iconst (x := -1) rfl dX4_readNumber_77 ?_
          exact i_iret rfl dX4_readNumber_78 (⟨-1, rfl, Or.inl ⟨rfl, 2, p, by rw [pNm_good (i := i) hdg ⟨by omega, by omega⟩ (by omega), if_neg (by omega)], hι1⟩⟩)
      · refine g_aload_n (x := 21) rfl dX4_readNumber_58 ?_
        refine g_iconst (x := 1) rfl dX4_readNumber_59 ?_
        refine i_callV mvX4_fails tw_327 (ci := 4) (congrArg Prod.fst sh_21) rfl (by decide) (c_fails) (by decide) (st' := []) rfl (Nat.le_of_ble_eq_true rfl) rfl dX4_readNumber_60 (fun v_3 ι1 hq_60 => ?_)
        obtain ⟨rfl, hι1⟩ := hq_60
        rw [hat] at hι1
        refine g_popI dX4_readNumber_63 ?_
        refine g_iconst (x := -1) rfl dX4_readNumber_64 ?_
        exact i_iret rfl dX4_readNumber_65 (⟨-1, rfl, Or.inl ⟨rfl, 1, p, pNm_bad (i := i) hdg (by first | (left; exact ⟨by omega, by omega, by omega⟩) | (right; omega)), hι1⟩⟩)
  · refine g_aload_n (x := 21) rfl dX4_readNumber_9 ?_
    refine g_aload_n (x := 21) rfl dX4_readNumber_10 ?_
    refine g_get fgX4_17 zcl_4 (congrArg Prod.fst sh_21) (by decide) ig_21_4 dX4_readNumber_11 ?_
    refine g_iload_n (x := i) rfl dX4_readNumber_14 ?_
    refine g_iadd dX4_readNumber_15 ?_
    rw [hat]
    refine i_callVp mvX4_isFigure tw_335 (ci := 4) (congrArg Prod.fst sh_21) rfl (by decide) (c_isFigure (p := p + i) hq (by omega)) (by decide) (st' := []) rfl (Nat.le_of_ble_eq_true rfl) rfl dX4_readNumber_16 ?_
    refine g_nm (fun b16 hq0 => ?_)
    have hb16 : ((zdg h (p + i)) ∧ b16 = 1) ∨ (¬ (zdg h (p + i)) ∧ b16 = 0) := zb_c hq0
    clear hq0
    refine g_if_eq ⟨by omega, by omega⟩ (t := 48) dX4_readNumber_19 (by decide) (fun h19 => ?_) (fun h19 => ?_)
    · refine g_iload_n (x := i) rfl dX4_readNumber_48 ?_
      refine g_iconst (x := 1) rfl dX4_readNumber_49 ?_
      refine g_icmp_lt ⟨by omega, by omega⟩ (by decide) (t := 58) dX4_readNumber_50 (by decide) (fun h50 => ?_) (fun h50 => ?_)
      · refine g_aload_n (x := 21) rfl dX4_readNumber_58 ?_
        refine g_iconst (x := 1) rfl dX4_readNumber_59 ?_
        refine i_callV mvX4_fails tw_327 (ci := 4) (congrArg Prod.fst sh_21) rfl (by decide) (c_fails) (by decide) (st' := []) rfl (Nat.le_of_ble_eq_true rfl) rfl dX4_readNumber_60 (fun v_4 ι1 hq_60 => ?_)
        obtain ⟨rfl, hι1⟩ := hq_60
        rw [hat] at hι1
        refine g_popI dX4_readNumber_63 ?_
        refine g_iconst (x := -1) rfl dX4_readNumber_64 ?_
        exact i_iret rfl dX4_readNumber_65 (⟨-1, rfl, Or.inl ⟨rfl, 1, p, pNm_bad (i := i) hdg (by first | (left; exact ⟨by omega, by omega, by omega⟩) | (right; omega)), hι1⟩⟩)
      · refine g_iload_n (x := i) rfl dX4_readNumber_53 ?_
        refine g_iconst (x := 2) rfl dX4_readNumber_54 ?_
        refine g_icmp_le ⟨by omega, by omega⟩ (by decide) (t := 66) dX4_readNumber_55 (by decide) (fun h55 => ?_) (fun h55 => ?_)
        · refine g_iload_n (x := (zvv h p i)) rfl dX4_readNumber_66 ?_
          refine g_iload_n (x := m) rfl dX4_readNumber_67 ?_
          refine g_icmp_le ⟨by omega, by omega⟩ ⟨by omega, by omega⟩ (t := 79) dX4_readNumber_68 (by decide) (fun h68 => ?_) (fun h68 => ?_)
          · refine g_aload_n (x := 21) rfl dX4_readNumber_79 ?_
            refine g_dupR dX4_readNumber_80 ?_
            refine g_get fgX4_17 zcl_4 (congrArg Prod.fst sh_21) (by decide) ig_21_4 dX4_readNumber_81 ?_
            refine g_iload_n (x := i) rfl dX4_readNumber_84 ?_
            refine g_iadd dX4_readNumber_85 ?_
            rw [hat]
            obtain ⟨ι1, hι1⟩ : ∃ y_, y_ = iup ι 21 4 ((p) + i) := ⟨_, rfl⟩
            refine i_put fwX4_17 zcl_4 (congrArg Prod.fst sh_21) (by decide) (by decide) (ι1 := ι1) (by rw [hι1]; exact iu_21_4) dX4_readNumber_86 ?_
            refine g_iload_n (x := (zvv h p i)) rfl dX4_readNumber_89 ?_
            exact i_iret rfl dX4_readNumber_90 (⟨_, rfl, Or.inr ⟨hvb.1, p + i, by rw [pNm_good (i := i) hdg ⟨by omega, by omega⟩ (by omega), if_pos (by omega)], hι1⟩⟩)
          · refine g_aload_n (x := 21) rfl dX4_readNumber_71 ?_
            refine g_iconst (x := 2) rfl dX4_readNumber_72 ?_
            refine i_callV mvX4_fails tw_327 (ci := 4) (congrArg Prod.fst sh_21) rfl (by decide) (c_fails) (by decide) (st' := []) rfl (Nat.le_of_ble_eq_true rfl) rfl dX4_readNumber_73 (fun v_5 ι1 hq_73 => ?_)
            obtain ⟨rfl, hι1⟩ := hq_73
            rw [hat] at hι1
            refine g_popI dX4_readNumber_76 ?_
            refine g_iconst (x := -1) rfl dX4_readNumber_77 ?_
            exact i_iret rfl dX4_readNumber_78 (⟨-1, rfl, Or.inl ⟨rfl, 2, p, by rw [pNm_good (i := i) hdg ⟨by omega, by omega⟩ (by omega), if_neg (by omega)], hι1⟩⟩)
        · refine g_aload_n (x := 21) rfl dX4_readNumber_58 ?_
          refine g_iconst (x := 1) rfl dX4_readNumber_59 ?_
          refine i_callV mvX4_fails tw_327 (ci := 4) (congrArg Prod.fst sh_21) rfl (by decide) (c_fails) (by decide) (st' := []) rfl (Nat.le_of_ble_eq_true rfl) rfl dX4_readNumber_60 (fun v_6 ι1 hq_60 => ?_)
          obtain ⟨rfl, hι1⟩ := hq_60
          rw [hat] at hι1
          refine g_popI dX4_readNumber_63 ?_
          refine g_iconst (x := -1) rfl dX4_readNumber_64 ?_
          exact i_iret rfl dX4_readNumber_65 (⟨-1, rfl, Or.inl ⟨rfl, 1, p, pNm_bad (i := i) hdg (by first | (left; exact ⟨by omega, by omega, by omega⟩) | (right; omega)), hι1⟩⟩)
    · refine g_bipush (x := 10) (by decide) dX4_readNumber_22 ?_
      refine g_iload_n (x := (zvv h p i)) rfl dX4_readNumber_24 ?_
      refine g_imul dX4_readNumber_25 ?_
      refine g_aload_n (x := 21) rfl dX4_readNumber_26 ?_
      refine g_get fgX4_9 zcl_4 (congrArg Prod.fst sh_21) (by decide) rg_21_0 dX4_readNumber_27 ?_
      refine g_aload_n (x := 21) rfl dX4_readNumber_30 ?_
      refine g_get fgX4_17 zcl_4 (congrArg Prod.fst sh_21) (by decide) ig_21_4 dX4_readNumber_31 ?_
      refine g_iload_n (x := i) rfl dX4_readNumber_34 ?_
      refine g_iadd dX4_readNumber_35 ?_
      rw [hat]
      refine g_iald sh_22 (by decide) (by omega) (by first | omega | (rcases (show p + i < L' ∨ L' ≤ p + i by omega) with g | g; omega; have := hout (p + i) g; omega)) (by decide) ag_22 dX4_readNumber_36 ?_
      refine g_iadd dX4_readNumber_37 ?_
      refine g_bipush (x := 48) (by decide) dX4_readNumber_38 ?_
      refine g_isub dX4_readNumber_40 ?_
      have e1 : h (p + i) = ι 22 (p + i) := by
        rcases (show p + i < L' ∨ L' ≤ p + i by omega) with g | g
        · exact (hin (p + i) (by omega) g).1
        · have := hout (p + i) g; omega
      rw [← e1]
      refine g_nm (fun x3 hx3 => ?_)
      refine g_istore_n (ls' := [some (zR 21), some (zI m), some (zI i), some (zI x3)]) dX4_readNumber_41 (by decide) rfl ?_
      refine g_iinc (x := i) (y := i + 1) (ls' := [some (zR 21), some (zI m), some (zI (i + 1)), some (zI x3)]) dX4_readNumber_42 rfl (rfl) (by decide) rfl ?_
      refine g_goto (t := 4) dX4_readNumber_45 (by decide) ?_
      have hh := ih (by omega) (fun k k0 k1 => by
        by_cases g : k = i
        · rw [g]; omega
        · exact hdg k k0 (by omega))
      rw [zvv_s ⟨h0, by omega⟩, ← hx3] at hh
      exact hh

set_option maxRecDepth 100000 in
theorem c_readNumber {h : Int → Int} {L' p : Int} (hq : zqC h L' ι) (hat : ι 21 4 = p) (hp : 0 ≤ p ∧ p ≤ 200) {m : Int} (hm : 0 ≤ m ∧ m ≤ 100) : zCi l (zc D ad L z) mX4_readNumber 1 [zR 21, zI m] ι (fun v ι' => ∃ b, v = some (zI b) ∧ ((b = -1 ∧ ∃ w q, pNm h m p = .error (w, q) ∧ ι' = iup (iup ι 21 2 w) 21 3 q) ∨ (0 ≤ b ∧ ∃ q, pNm h m p = .ok (b, q) ∧ ι' = iup ι 21 4 q))) := by
  refine zCt_of (by decide) (Nat.le_of_ble_eq_true rfl) 2 rfl ?_
  refine g_iconst (x := 0) rfl dX4_readNumber_0 ?_
  refine g_istore_n (ls' := [some (zR 21), some (zI m), some (zI 0), none]) dX4_readNumber_1 (by decide) rfl ?_
  refine g_iconst (x := 0) rfl dX4_readNumber_2 ?_
  refine g_istore_n (ls' := [some (zR 21), some (zI m), some (zI 0), some (zI 0)]) dX4_readNumber_3 (by decide) rfl ?_
  exact lp_readNumber (l := l) (D := D) (ad := ad) (L := L) (z := z) hq hat hp hm 0 (by omega) (by omega) (fun k k0 k1 => by omega)

end
