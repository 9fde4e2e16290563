section
variable {l : Launch} {D : va_G} {ad : Nat → Nat} {L z : Nat} {ι : zi}
theorem pSs_s {h : Int → Int} {p i : Int} {R : zr} (hi : 0 ≤ i ∧ i ≤ 9) : pSs h (10 - i).toNat p R = if R 0 ≠ 0 ∧ h p = 114 then .ok (p, R) else (pSt h p R >>= fun x => pSs h (10 - (i + 1)).toNat x.1 x.2) := by
  rw [show (10 - i).toNat = (10 - (i + 1)).toNat + 1 by omega, pSs]
theorem pBs_s {h : Int → Int} {L' p i : Int} {R : zr} (hi : 0 ≤ i ∧ i ≤ 9) : pBs h L' (10 - i).toNat p R = if R 1 ≠ 0 ∧ L' ≤ p then .ok (p, R) else (pBt h p R >>= fun x => pBs h L' (10 - (i + 1)).toNat x.1 x.2) := by
  rw [show (10 - i).toNat = (10 - (i + 1)).toNat + 1 by omega, pBs]
def zRs (ι : zi) (L' : Int) (E : zE (Int × zr)) (v : Option zV) (ι' : zi) : Prop := ∃ b, v = some (zI b) ∧ zFc ι ι' ∧ ((b = 0 ∧ ∃ w q, E = .error (w, q) ∧ ι' 21 2 = w ∧ ι' 21 3 = q) ∨ (b = 1 ∧ ∃ q S, (E = .ok (q, S) ∨ (E = .error (1, q) ∧ L' ≤ q)) ∧ ι' 21 2 = ι 21 2 ∧ ι' 21 4 = q ∧ zVE (tb 28 ι') S ∧ (1 ≤ S 0 ∧ S 0 ≤ 8) ∧ S 1 = 0 ∧ (0 ≤ q ∧ q ≤ 110)))
theorem h59_b {h : Int → Int} {L' : Int} (hout : ∀ p, L' ≤ p → h p = -1) {p q : Int} (e : ∃ r, p ≤ r ∧ h r = 59 ∧ q = r + 1) : p < q ∧ q ≤ L' := by
  obtain ⟨r, a, b, c⟩ := e
  rcases (show r < L' ∨ L' ≤ r by omega) with g | g
  · omega
  · have := hout r g; omega
theorem zFc_2 {ι ι' : zi} (h : zFc ι ι') : ι' 21 1 = ι 21 1 := h 21 1 (by omega) (by omega)
set_option maxRecDepth 100000 in
theorem lp_readStreets (hO : zPre ι) {h : Int → Int} {L' : Int} (hq : zqC h L' ι) : ∀ i : Int, 0 ≤ i → i ≤ 9 → ∀ (ι1 : zi) (p : Int) (R : zr), zFc ι ι1 → ι1 21 2 = ι 21 2 → ι1 21 4 = p → (0 ≤ p ∧ p ≤ 110) → zVE (tb 28 ι1) R → R 0 = i → i ≤ 8 → R 1 = 0 → zGi l (zc D ad L z) mX4_readStreets 5 2 [some (zR 21), some (zR 28), some (zI i)] [] ι1 (zRs ι L' (pSs h (10 - i).toNat p R)) := by
  refine z_loopI (P := fun i => ∀ (ι1 : zi) (p : Int) (R : zr), zFc ι ι1 → ι1 21 2 = ι 21 2 → ι1 21 4 = p → (0 ≤ p ∧ p ≤ 110) → zVE (tb 28 ι1) R → R 0 = i → i ≤ 8 → R 1 = 0 → _) (fun i h0 h1 ih ι1 p R hF hz hat hp hV hR0 hi8 hR1 => ?_)
  have hq1 := zqC_fc hq hF
  obtain ⟨hl, hL, hin, hout⟩ := id hq1
  refine g_iload_n (x := i) rfl dX4_readStreets_2 ?_
  refine g_bipush (x := 8) (by decide) dX4_readStreets_3 ?_
  refine g_icmp_gt ⟨by omega, by omega⟩ (by decide) (t := 55) dX4_readStreets_5 (by decide) (fun h5 => ?_) (fun h5 => ?_)
  · exfalso; omega
  · refine g_iload_n (x := i) rfl dX4_readStreets_8 ?_
    refine g_if_le ⟨by omega, by omega⟩ (t := 39) dX4_readStreets_9 (by decide) (fun h9 => ?_) (fun h9 => ?_)
    · refine g_aload_n (x := 21) rfl dX4_readStreets_39 ?_
      refine g_aload_n (x := 28) rfl dX4_readStreets_40 ?_
      have hnc : ¬ (R 0 ≠ 0 ∧ h p = 114) := by rintro ⟨g1, g2⟩; omega
      refine i_callV mvX4_readStreet tw_343 (ci := 4) (congrArg Prod.fst sh_21) rfl (by decide) (c_readStreet (zPre_fc hO hF) hq1 hat hp hV (by omega) (by omega)) (by decide) (st' := []) rfl (Nat.le_of_ble_eq_true rfl) rfl dX4_readStreets_41 (fun v_1 ι2 hq_41 => ?_)
      obtain ⟨b, rfl, f2, hb⟩ := hq_41
      refine g_if_ne ⟨by omega, by omega⟩ (t := 49) dX4_readStreets_44 (by decide) (fun h44 => ?_) (fun h44 => ?_)
      · obtain ⟨-, q, S, hE, z2, a2, V2⟩ := hb.resolve_left (fun g => by omega)
        refine g_iinc (x := i) (y := i + 1) (ls' := [some (zR 21), some (zR 28), some (zI (i + 1))]) dX4_readStreets_49 rfl (rfl) (by decide) rfl ?_
        refine g_goto (t := 2) dX4_readStreets_52 (by decide) ?_
        obtain ⟨s1, s2, k, a, b', s3, -⟩ := pSt_ok hE
        obtain ⟨s4, s5⟩ := h59_b hout s1
        have hh := ih (by omega) ι2 q S (zFc.t hF f2) (z2.trans hz) a2 (by omega) V2 (by rw [s3, ru_s]; omega) (by omega) (by rw [s3]; simp (disch := omega) only [ru_n]; exact hR1)
        rw [pSs_s ⟨h0, h1⟩, if_neg hnc, zE_k hE]
        exact hh
      · obtain ⟨-, w, q, hE, c1, c2⟩ := hb.resolve_right (fun g => by omega)
        refine g_iconst (x := 0) rfl dX4_readStreets_47 ?_
        exact i_zret rfl (by decide) dX4_readStreets_48 (⟨0, rfl, zFc.t hF f2, Or.inl ⟨rfl, w, q, by rw [pSs_s ⟨h0, h1⟩, if_neg hnc]; exact zE_e hE, c1, c2⟩⟩)
    · refine g_aload_n (x := 21) rfl dX4_readStreets_12 ?_
      refine g_get fgX4_17 zcl_4 (congrArg Prod.fst sh_21) (by decide) ig_21_4 dX4_readStreets_13 ?_
      refine g_aload_n (x := 21) rfl dX4_readStreets_16 ?_
      refine g_get fgX4_13 zcl_4 (congrArg Prod.fst sh_21) (by decide) ig_21_1 dX4_readStreets_17 ?_
      rw [hat, hl]
      refine g_icmp_ge ⟨by omega, by omega⟩ ⟨by omega, by omega⟩ (t := 37) dX4_readStreets_20 (by decide) (fun h20 => ?_) (fun h20 => ?_)
      · have hE : pSs h (10 - i).toNat p R = .error (1, p) := by
          have hm1 := hout p (by omega)
          rw [pSs_s ⟨h0, h1⟩, if_neg (by omega)]
          exact zE_e (by unfold pSt; rw [hm1]; rfl)
        refine g_iconst (x := 1) rfl dX4_readStreets_37 ?_
        exact i_zret rfl (by decide) dX4_readStreets_38 (⟨1, rfl, hF, Or.inr ⟨rfl, p, R, (by first | exact Or.inr ⟨hE, by omega⟩ | exact Or.inl (by rw [pSs_s ⟨h0, h1⟩, if_pos ⟨by omega, by omega⟩])), hz, hat, hV, by omega, hR1, hp⟩⟩)
      · refine g_aload_n (x := 21) rfl dX4_readStreets_23 ?_
        refine g_get fgX4_9 zcl_4 (congrArg Prod.fst sh_21) (by decide) rg_21_0 dX4_readStreets_24 ?_
        refine g_aload_n (x := 21) rfl dX4_readStreets_27 ?_
        refine g_get fgX4_17 zcl_4 (congrArg Prod.fst sh_21) (by decide) ig_21_4 dX4_readStreets_28 ?_
        rw [hat]
        obtain ⟨e1, e2, e3⟩ := hin p hp.1 (by omega)
        refine g_iald sh_22 (by decide) (by omega) (by omega) (by decide) ag_22 dX4_readStreets_31 ?_
        rw [← e1]
        refine g_bipush (x := 114) (by decide) dX4_readStreets_32 ?_
        refine g_icmp_ne ⟨by omega, by omega⟩ (by decide) (t := 39) dX4_readStreets_34 (by decide) (fun h34 => ?_) (fun h34 => ?_)
        · refine g_aload_n (x := 21) rfl dX4_readStreets_39 ?_
          refine g_aload_n (x := 28) rfl dX4_readStreets_40 ?_
          have hnc : ¬ (R 0 ≠ 0 ∧ h p = 114) := by rintro ⟨g1, g2⟩; omega
          refine i_callV mvX4_readStreet tw_343 (ci := 4) (congrArg Prod.fst sh_21) rfl (by decide) (c_readStreet (zPre_fc hO hF) hq1 hat hp hV (by omega) (by omega)) (by decide) (st' := []) rfl (Nat.le_of_ble_eq_true rfl) rfl dX4_readStreets_41 (fun v_2 ι2 hq_41 => ?_)
          obtain ⟨b, rfl, f2, hb⟩ := hq_41
          refine g_if_ne ⟨by omega, by omega⟩ (t := 49) dX4_readStreets_44 (by decide) (fun h44 => ?_) (fun h44 => ?_)
          · obtain ⟨-, q, S, hE, z2, a2, V2⟩ := hb.resolve_left (fun g => by omega)
            refine g_iinc (x := i) (y := i + 1) (ls' := [some (zR 21), some (zR 28), some (zI (i + 1))]) dX4_readStreets_49 rfl (rfl) (by decide) rfl ?_
            refine g_goto (t := 2) dX4_readStreets_52 (by decide) ?_
            obtain ⟨s1, s2, k, a, b', s3, -⟩ := pSt_ok hE
            obtain ⟨s4, s5⟩ := h59_b hout s1
            have hh := ih (by omega) ι2 q S (zFc.t hF f2) (z2.trans hz) a2 (by omega) V2 (by rw [s3, ru_s]; omega) (by omega) (by rw [s3]; simp (disch := omega) only [ru_n]; exact hR1)
            rw [pSs_s ⟨h0, h1⟩, if_neg hnc, zE_k hE]
            exact hh
          · obtain ⟨-, w, q, hE, c1, c2⟩ := hb.resolve_right (fun g => by omega)
            refine g_iconst (x := 0) rfl dX4_readStreets_47 ?_
            exact i_zret rfl (by decide) dX4_readStreets_48 (⟨0, rfl, zFc.t hF f2, Or.inl ⟨rfl, w, q, by rw [pSs_s ⟨h0, h1⟩, if_neg hnc]; exact zE_e hE, c1, c2⟩⟩)
        · refine g_iconst (x := 1) rfl dX4_readStreets_37 ?_
          exact i_zret rfl (by decide) dX4_readStreets_38 (⟨1, rfl, hF, Or.inr ⟨rfl, p, R, (by first | exact Or.inr ⟨hE, by omega⟩ | exact Or.inl (by rw [pSs_s ⟨h0, h1⟩, if_pos ⟨by omega, by omega⟩])), hz, hat, hV, by omega, hR1, hp⟩⟩)

set_option maxRecDepth 100000 in
theorem c_readStreets (hO : zPre ι) {h : Int → Int} {L' : Int} (hq : zqC h L' ι) {p : Int} (hat : ι 21 4 = p) (hp : 0 ≤ p ∧ p ≤ 110) {R : zr} (hV : zVE (tb 28 ι) R) (h0 : R 0 = 0) (h1 : R 1 = 0) : zCi l (zc D ad L z) mX4_readStreets 5 [zR 21, zR 28] ι (zRs ι L' (pSs h 10 p R)) := by
  refine zCt_of (by decide) (Nat.le_of_ble_eq_true rfl) 1 rfl ?_
  refine g_iconst (x := 0) rfl dX4_readStreets_0 ?_
  refine g_istore_n (ls' := [some (zR 21), some (zR 28), some (zI 0)]) dX4_readStreets_1 (by decide) rfl ?_
  exact lp_readStreets (l := l) (D := D) (ad := ad) (L := L) (z := z) hO hq 0 (by omega) (by omega) ι p R (zFc.r ι) rfl hat hp hV h0 (by omega) h1

set_option maxRecDepth 100000 in
theorem lp_readBeats {h : Int → Int} {L' : Int} (hq : zqC h L' ι) : ∀ i : Int, 0 ≤ i → i ≤ 9 → ∀ (ι1 : zi) (p : Int) (R : zr), zFc ι ι1 → ι1 21 2 = ι 21 2 → ι1 21 4 = p → (0 ≤ p ∧ p ≤ 110) → zVE (tb 28 ι1) R → (1 ≤ R 0 ∧ R 0 ≤ 8) → R 1 = i → i ≤ 8 → zGi l (zc D ad L z) mX4_readBeats 3 2 [some (zR 21), some (zR 28), some (zI i)] [] ι1 (zRd ι (pBs h L' (10 - i).toNat p R)) := by
  refine z_loopI (P := fun i => ∀ (ι1 : zi) (p : Int) (R : zr), zFc ι ι1 → ι1 21 2 = ι 21 2 → ι1 21 4 = p → (0 ≤ p ∧ p ≤ 110) → zVE (tb 28 ι1) R → (1 ≤ R 0 ∧ R 0 ≤ 8) → R 1 = i → i ≤ 8 → _) (fun i h0 h1 ih ι1 p R hF hz hat hp hV hR0 hR1 hi8 => ?_)
  have hq1 := zqC_fc hq hF
  obtain ⟨hl, hL, hin, hout⟩ := id hq1
  refine g_iload_n (x := i) rfl dX4_readBeats_2 ?_
  refine g_bipush (x := 8) (by decide) dX4_readBeats_3 ?_
  refine g_icmp_gt ⟨by omega, by omega⟩ (by decide) (t := 41) dX4_readBeats_5 (by decide) (fun h5 => ?_) (fun h5 => ?_)
  · exfalso; omega
  · refine g_iload_n (x := i) rfl dX4_readBeats_8 ?_
    refine g_if_le ⟨by omega, by omega⟩ (t := 25) dX4_readBeats_9 (by decide) (fun h9 => ?_) (fun h9 => ?_)
    · refine g_aload_n (x := 21) rfl dX4_readBeats_25 ?_
      refine g_aload_n (x := 28) rfl dX4_readBeats_26 ?_
      have hnc : ¬ (R 1 ≠ 0 ∧ L' ≤ p) := by rintro ⟨g1, g2⟩; omega
      refine i_callV mvX4_readBeat tw_438 (ci := 4) (congrArg Prod.fst sh_21) rfl (by decide) (c_readBeat hq1 hat hp hV (by omega) (by omega)) (by decide) (st' := []) rfl (Nat.le_of_ble_eq_true rfl) rfl dX4_readBeats_27 (fun v_1 ι2 hq_27 => ?_)
      obtain ⟨b, rfl, f2, hb⟩ := hq_27
      refine g_if_ne ⟨by omega, by omega⟩ (t := 35) dX4_readBeats_30 (by decide) (fun h30 => ?_) (fun h30 => ?_)
      · obtain ⟨-, q, S, hE, z2, a2, V2⟩ := hb.resolve_left (fun g => by omega)
        refine g_iinc (x := i) (y := i + 1) (ls' := [some (zR 21), some (zR 28), some (zI (i + 1))]) dX4_readBeats_35 rfl (rfl) (by decide) rfl ?_
        refine g_goto (t := 2) dX4_readBeats_38 (by decide) ?_
        obtain ⟨s1, s2, a, s3, -⟩ := pBt_ok hE
        obtain ⟨s4, s5⟩ := h59_b hout s1
        have hh := ih (by omega) ι2 q S (zFc.t hF f2) (z2.trans hz) a2 (by omega) V2 (by rw [s3]; simp (disch := omega) only [ru_n]; exact hR0) (by rw [s3, ru_s]; omega) (by omega)
        rw [pBs_s ⟨h0, h1⟩, if_neg hnc, zE_k hE]
        exact hh
      · obtain ⟨-, w, q, hE, c1, c2⟩ := hb.resolve_right (fun g => by omega)
        refine g_iconst (x := 0) rfl dX4_readBeats_33 ?_
        exact i_zret rfl (by decide) dX4_readBeats_34 (⟨0, rfl, zFc.t hF f2, Or.inl ⟨rfl, w, q, by rw [pBs_s ⟨h0, h1⟩, if_neg hnc]; exact zE_e hE, c1, c2⟩⟩)
    · refine g_aload_n (x := 21) rfl dX4_readBeats_12 ?_
      refine g_get fgX4_17 zcl_4 (congrArg Prod.fst sh_21) (by decide) ig_21_4 dX4_readBeats_13 ?_
      refine g_aload_n (x := 21) rfl dX4_readBeats_16 ?_
      refine g_get fgX4_13 zcl_4 (congrArg Prod.fst sh_21) (by decide) ig_21_1 dX4_readBeats_17 ?_
      rw [hat, hl]
      refine g_icmp_lt ⟨by omega, by omega⟩ ⟨by omega, by omega⟩ (t := 25) dX4_readBeats_20 (by decide) (fun h20 => ?_) (fun h20 => ?_)
      · refine g_aload_n (x := 21) rfl dX4_readBeats_25 ?_
        refine g_aload_n (x := 28) rfl dX4_readBeats_26 ?_
        have hnc : ¬ (R 1 ≠ 0 ∧ L' ≤ p) := by rintro ⟨g1, g2⟩; omega
        refine i_callV mvX4_readBeat tw_438 (ci := 4) (congrArg Prod.fst sh_21) rfl (by decide) (c_readBeat hq1 hat hp hV (by omega) (by omega)) (by decide) (st' := []) rfl (Nat.le_of_ble_eq_true rfl) rfl dX4_readBeats_27 (fun v_2 ι2 hq_27 => ?_)
        obtain ⟨b, rfl, f2, hb⟩ := hq_27
        refine g_if_ne ⟨by omega, by omega⟩ (t := 35) dX4_readBeats_30 (by decide) (fun h30 => ?_) (fun h30 => ?_)
        · obtain ⟨-, q, S, hE, z2, a2, V2⟩ := hb.resolve_left (fun g => by omega)
          refine g_iinc (x := i) (y := i + 1) (ls' := [some (zR 21), some (zR 28), some (zI (i + 1))]) dX4_readBeats_35 rfl (rfl) (by decide) rfl ?_
          refine g_goto (t := 2) dX4_readBeats_38 (by decide) ?_
          obtain ⟨s1, s2, a, s3, -⟩ := pBt_ok hE
          obtain ⟨s4, s5⟩ := h59_b hout s1
          have hh := ih (by omega) ι2 q S (zFc.t hF f2) (z2.trans hz) a2 (by omega) V2 (by rw [s3]; simp (disch := omega) only [ru_n]; exact hR0) (by rw [s3, ru_s]; omega) (by omega)
          rw [pBs_s ⟨h0, h1⟩, if_neg hnc, zE_k hE]
          exact hh
        · obtain ⟨-, w, q, hE, c1, c2⟩ := hb.resolve_right (fun g => by omega)
          refine g_iconst (x := 0) rfl dX4_readBeats_33 ?_
          exact i_zret rfl (by decide) dX4_readBeats_34 (⟨0, rfl, zFc.t hF f2, Or.inl ⟨rfl, w, q, by rw [pBs_s ⟨h0, h1⟩, if_neg hnc]; exact zE_e hE, c1, c2⟩⟩)
      · refine g_iconst (x := 1) rfl dX4_readBeats_23 ?_
        exact i_zret rfl (by decide) dX4_readBeats_24 (⟨1, rfl, hF, Or.inr ⟨rfl, p, R, by rw [pBs_s ⟨h0, h1⟩, if_pos ⟨by omega, by omega⟩], hz, hat, hV⟩⟩)

set_option maxRecDepth 100000 in
theorem c_readBeats {h : Int → Int} {L' : Int} (hq : zqC h L' ι) {p : Int} (hat : ι 21 4 = p) (hp : 0 ≤ p ∧ p ≤ 110) {R : zr} (hV : zVE (tb 28 ι) R) (h0 : 1 ≤ R 0 ∧ R 0 ≤ 8) (h1 : R 1 = 0) : zCi l (zc D ad L z) mX4_readBeats 3 [zR 21, zR 28] ι (zRd ι (pBs h L' 10 p R)) := by
  refine zCt_of (by decide) (Nat.le_of_ble_eq_true rfl) 1 rfl ?_
  refine g_iconst (x := 0) rfl dX4_readBeats_0 ?_
  refine g_istore_n (ls' := [some (zR 21), some (zR 28), some (zI 0)]) dX4_readBeats_1 (by decide) rfl ?_
  exact lp_readBeats (l := l) (D := D) (ad := ad) (L := L) (z := z) hq 0 (by omega) (by omega) ι p R (zFc.r ι) rfl hat hp hV h0 h1 (by omega)

theorem pBs_end {h : Int → Int} {L' p : Int} {R : zr} (hout : ∀ p, L' ≤ p → h p = -1) (hp : L' ≤ p) (h1 : R 1 = 0) : pBs h L' 10 p R = .error (1, p) := by
  have hm := hout p hp
  have e : pBs h L' 10 p R = if R 1 ≠ 0 ∧ L' ≤ p then .ok (p, R) else (pBt h p R >>= fun x => pBs h L' 9 x.1 x.2) := by rw [pBs]
  rw [e, if_neg (by omega)]
  exact zE_e (by unfold pBt; rw [if_pos (by omega)])
set_option maxRecDepth 100000 in
theorem c_readInto (hO : zPre ι) {h : Int → Int} {L' : Int} (hq : zqC h L' ι) : zCi l (zc D ad L z) mX4_readInto 6 [zR 21, zR 28] ι (zRd ι (pAl h L' (fun _ => 0))) := by
  refine zCt_of (by decide) (Nat.le_of_ble_eq_true rfl) 0 rfl ?_
  obtain ⟨hl, hL, hin, hout⟩ := id hq
  refine g_aload_n (x := 21) rfl dX4_readInto_0 ?_
  refine g_iconst (x := 0) rfl dX4_readInto_1 ?_
  obtain ⟨ι1, hι1⟩ : ∃ y_, y_ = iup ι 21 4 0 := ⟨_, rfl⟩
  refine i_put fwX4_17 zcl_4 (congrArg Prod.fst sh_21) (by decide) (by decide) (ι1 := ι1) (by rw [hι1]; exact iu_21_4) dX4_readInto_2 ?_
  refine g_aload_n (x := 28) rfl dX4_readInto_5 ?_
  refine i_callV mvX5_clear tw_315 (ci := 5) (congrArg Prod.fst sh_28) rfl (by decide) (c_clear tt_28) (by decide) (st' := []) rfl (Nat.le_of_ble_eq_true rfl) rfl dX4_readInto_6 (fun v_1 ι2 hq_6 => ?_)
  obtain ⟨rfl, hι2⟩ := hq_6
  have f1 : zFc ι ι1 := by rw [hι1]; exact zFc.up (by omega)
  have f2 : zFc ι ι2 := by rw [hι2]; exact zFc.t f1 (zFc.t (zFc.up (by omega)) (zFc.t (zFc.up (by omega)) (zFc.t (zFc.up (by omega)) (zFc.t (zFc.up (by omega)) (zFc.t (zFc.up (by omega)) (zFc.up (by omega)))))))
  have a2 : ι2 21 4 = 0 := by rw [hι2]; simp (disch := omega) only [iup_n]; rw [hι1, iup_s]
  have z2 : ι2 21 2 = ι 21 2 := by rw [hι2]; simp (disch := omega) only [iup_n]; rw [hι1, iup_n _ (by omega)]
  have V2 : zVE (tb 28 ι2) (fun _ => 0) := by
    refine ⟨fun j j0 j1 => ?_, fun k k0 k1 => by exfalso; simp only [] at k1; omega, fun k k0 k1 => by exfalso; simp only [] at k1; omega⟩
    rw [tb_s 28 ι2 j0 j1, hι2]
    rcases (show j = 0 ∨ j = 1 ∨ j = 2 ∨ j = 3 ∨ j = 4 ∨ j = 5 by omega) with g | g | g | g | g | g <;> subst g <;> simp (disch := omega) only [iup_n, iup] <;> rfl
  refine g_aload_n (x := 21) rfl dX4_readInto_9 ?_
  refine g_aload_n (x := 28) rfl dX4_readInto_10 ?_
  refine i_callV mvX4_readLaw tw_319 (ci := 4) (congrArg Prod.fst sh_21) rfl (by decide) (c_readLaw (zqC_fc hq f2) a2 (by decide) V2) (by decide) (st' := []) rfl (Nat.le_of_ble_eq_true rfl) rfl dX4_readInto_11 (fun v_2 ι3 hq_11 => ?_)
  obtain ⟨b3, rfl, f3, hb3⟩ := hq_11
  have f3 := zFc.t f2 f3
  refine g_if_eq ⟨by omega, by omega⟩ (t := 37) dX4_readInto_14 (by decide) (fun h14 => ?_) (fun h14 => ?_)
  · obtain ⟨-, w3, y3, hE3, c3, d3⟩ := hb3.resolve_right (fun g => by omega)
    refine g_iconst (x := 0) rfl dX4_readInto_37 ?_
    exact i_zret rfl (by decide) dX4_readInto_38 (⟨0, rfl, f3, Or.inl ⟨rfl, w3, y3, by unfold pAl; exact zE_e hE3, c3, d3⟩⟩)
  · obtain ⟨-, p3, S3, hE3, z3, a3, V3⟩ := hb3.resolve_left (fun g => by omega)
    obtain ⟨s1, u, u2, s3, -⟩ := pLw_ok hE3
    obtain ⟨s4, s5⟩ := h59_b hout s1
    have S30 : S3 0 = 0 := by rw [s3]; rfl
    have S31 : S3 1 = 0 := by rw [s3]; rfl
    refine g_aload_n (x := 21) rfl dX4_readInto_17 ?_
    refine g_aload_n (x := 28) rfl dX4_readInto_18 ?_
    refine i_callV mvX4_readStreets tw_339 (ci := 4) (congrArg Prod.fst sh_21) rfl (by decide) (c_readStreets (zPre_fc hO f3) (zqC_fc hq f3) a3 (by omega) V3 S30 S31) (by decide) (st' := []) rfl (Nat.le_of_ble_eq_true rfl) rfl dX4_readInto_19 (fun v_3 ι4 hq_19 => ?_)
    obtain ⟨b4, rfl, f4, hb4⟩ := hq_19
    have f4 := zFc.t f3 f4
    refine g_if_eq ⟨by omega, by omega⟩ (t := 37) dX4_readInto_22 (by decide) (fun h22 => ?_) (fun h22 => ?_)
    · obtain ⟨-, w4, y4, hE4, c4, d4⟩ := hb4.resolve_right (fun g => by omega)
      refine g_iconst (x := 0) rfl dX4_readInto_37 ?_
      exact i_zret rfl (by decide) dX4_readInto_38 (⟨0, rfl, f4, Or.inl ⟨rfl, w4, y4, by unfold pAl; rw [zE_k hE3]; exact zE_e hE4, c4, d4⟩⟩)
    · obtain ⟨-, p4, S4, hE4, z4, a4, V4, s6, s7, s8⟩ := hb4.resolve_left (fun g => by omega)
      refine g_aload_n (x := 21) rfl dX4_readInto_25 ?_
      refine g_aload_n (x := 28) rfl dX4_readInto_26 ?_
      refine i_callV mvX4_readBeats tw_434 (ci := 4) (congrArg Prod.fst sh_21) rfl (by decide) (c_readBeats (zqC_fc hq f4) a4 s8 V4 s6 s7) (by decide) (st' := []) rfl (Nat.le_of_ble_eq_true rfl) rfl dX4_readInto_27 (fun v_4 ι5 hq_27 => ?_)
      obtain ⟨b5, rfl, f5, hb5⟩ := hq_27
      have f5 := zFc.t f4 f5
      refine g_if_eq ⟨by omega, by omega⟩ (t := 37) dX4_readInto_30 (by decide) (fun h30 => ?_) (fun h30 => ?_)
      · obtain ⟨-, w5, y5, hE5, c5, d5⟩ := hb5.resolve_right (fun g => by omega)
        refine g_iconst (x := 0) rfl dX4_readInto_37 ?_
        exact i_zret rfl (by decide) dX4_readInto_38 (⟨0, rfl, f5, Or.inl ⟨rfl, w5, y5, by
      unfold pAl
      rw [zE_k hE3]
      rcases hE4 with hE4 | ⟨hE4, hge⟩
      · refine (zE_k hE4).trans ?_
        exact hE5
      · rw [pBs_end hout hge s7] at hE5
        rw [← hE5]
        exact zE_e hE4, c5, d5⟩⟩)
      · obtain ⟨-, p5, S5, hE5, z5, a5, V5⟩ := hb5.resolve_left (fun g => by omega)
        refine g_iconst (x := 1) rfl dX4_readInto_33 ?_
        refine g_goto (t := 38) dX4_readInto_34 (by decide) ?_
        exact i_zret rfl (by decide) dX4_readInto_38 (⟨1, rfl, f5, Or.inr ⟨rfl, p5, S5, by
      unfold pAl
      rw [zE_k hE3]
      rcases hE4 with hE4 | ⟨hE4, hge⟩
      · refine (zE_k hE4).trans ?_
        exact hE5
      · rw [pBs_end hout hge s7] at hE5
        (cases hE5), by rw [z5, z4, z3, z2], a5, V5⟩⟩)

end
