section
variable {l : Launch} {D : va_G} {ad : Nat → Nat} {L z : Nat} {ι : zi}
/-- two towns that are seen alike -/
def zVE (X R : zr) : Prop := (∀ j, 0 ≤ j → j < 6 → X j = R j) ∧ (∀ k, 0 ≤ k → k < R 0 → X (6 + k) = R (6 + k) ∧ X (14 + k) = R (14 + k) ∧ X (22 + k) = R (22 + k)) ∧ (∀ b, 0 ≤ b → b < R 1 → X (30 + b) = R (30 + b))
theorem zVE.r (R : zr) : zVE R R := ⟨fun _ _ _ => rfl, fun _ _ _ => ⟨rfl, rfl, rfl⟩, fun _ _ _ => rfl⟩
theorem zVE_st {X R : zr} (h : zVE X R) (h0 : 0 ≤ R 0 ∧ R 0 ≤ 7) (h1 : 0 ≤ R 1 ∧ R 1 ≤ 8) {k a b : Int} : zVE (ru (ru (ru (ru X (6 + R 0) k) (14 + R 0) a) (22 + R 0) b) 0 (R 0 + 1)) (ru (ru (ru (ru R (6 + R 0) k) (14 + R 0) a) (22 + R 0) b) 0 (R 0 + 1)) := by
  obtain ⟨a1, a2, a3⟩ := h
  refine ⟨fun j j0 j1 => ?_, fun j j0 j1 => ?_, fun j j0 j1 => ?_⟩
  · have := a1 j j0 j1
    unfold ru
    (repeat' split) <;> first | rfl | exact this | (exfalso; omega)
  · rw [ru_s] at j1
    by_cases g : j = R 0
    · rw [g]
      refine ⟨?_, ?_, ?_⟩ <;> (unfold ru; (repeat' split) <;> first | rfl | (exfalso; omega))
    · obtain ⟨b1, b2, b3⟩ := a2 j j0 (by omega)
      refine ⟨?_, ?_, ?_⟩
      · simp (disch := omega) only [ru_n]; exact b1
      · simp (disch := omega) only [ru_n]; exact b2
      · simp (disch := omega) only [ru_n]; exact b3
  · have e : (ru (ru (ru (ru R (6 + R 0) k) (14 + R 0) a) (22 + R 0) b) 0 (R 0 + 1)) 1 = R 1 := by simp (disch := omega) only [ru_n]
    rw [e] at j1
    simp (disch := omega) only [ru_n]
    exact a3 j j0 j1
theorem zVE_bt {X R : zr} (h : zVE X R) (h0 : 0 ≤ R 0 ∧ R 0 ≤ 8) (h1 : 0 ≤ R 1 ∧ R 1 ≤ 7) {a : Int} : zVE (ru (ru X (30 + R 1) a) 1 (R 1 + 1)) (ru (ru R (30 + R 1) a) 1 (R 1 + 1)) := by
  obtain ⟨a1, a2, a3⟩ := h
  refine ⟨fun j j0 j1 => ?_, fun j j0 j1 => ?_, fun j j0 j1 => ?_⟩
  · have := a1 j j0 j1
    unfold ru
    (repeat' split) <;> first | rfl | exact this | (exfalso; omega)
  · have e : (ru (ru R (30 + R 1) a) 1 (R 1 + 1)) 0 = R 0 := by simp (disch := omega) only [ru_n]
    rw [e] at j1
    obtain ⟨b1, b2, b3⟩ := a2 j j0 j1
    refine ⟨?_, ?_, ?_⟩
    · simp (disch := omega) only [ru_n]; exact b1
    · simp (disch := omega) only [ru_n]; exact b2
    · simp (disch := omega) only [ru_n]; exact b3
  · rw [ru_s] at j1
    by_cases g : j = R 1
    · rw [g]; unfold ru; (repeat' split) <;> first | rfl | (exfalso; omega)
    · simp (disch := omega) only [ru_n]
      exact a3 j j0 (by omega)
theorem zVE_lw {X R : zr} (h : zVE X R) {a b : Int} : zVE (ru (ru X 2 a) 3 b) (ru (ru R 2 a) 3 b) := by
  obtain ⟨a1, a2, a3⟩ := h
  have e0 : (ru (ru R 2 a) 3 b) 0 = R 0 := by simp (disch := omega) only [ru_n]
  have e1 : (ru (ru R 2 a) 3 b) 1 = R 1 := by simp (disch := omega) only [ru_n]
  refine ⟨fun j j0 j1 => ?_, fun j j0 j1 => ?_, fun j j0 j1 => ?_⟩
  · have := a1 j j0 j1
    unfold ru
    (repeat' split) <;> first | rfl | exact this
  · rw [e0] at j1
    obtain ⟨b1, b2, b3⟩ := a2 j j0 j1
    refine ⟨?_, ?_, ?_⟩
    · simp (disch := omega) only [ru_n]; exact b1
    · simp (disch := omega) only [ru_n]; exact b2
    · simp (disch := omega) only [ru_n]; exact b3
  · rw [e1] at j1
    simp (disch := omega) only [ru_n]
    exact a3 j j0 j1
theorem tb_up {ι : zi} {a b : Nat} {x v : Int} (h : b < a ∨ a + 5 ≤ b) : tb a (iup ι b x v) = tb a ι := by
  funext i
  unfold tb
  simp (disch := omega) only [iup_n]
/-- what a piece of the reader leaves -/
def zRd (ι : zi) (E : zE (Int × zr)) (v : Option zV) (ι' : zi) : Prop := ∃ b, v = some (zI b) ∧ zFc ι ι' ∧ ((b = 0 ∧ ∃ w q, E = .error (w, q) ∧ ι' 21 2 = w ∧ ι' 21 3 = q) ∨ (b = 1 ∧ ∃ q S, E = .ok (q, S) ∧ ι' 21 2 = ι 21 2 ∧ ι' 21 4 = q ∧ zVE (tb 28 ι') S))
theorem zE_e {α β : Type} {x : zE α} {f : α → zE β} {e : Int × Int} (h : x = .error e) : (x >>= f) = .error e := by rw [h]; rfl
theorem zE_k {α β : Type} {x : zE α} {f : α → zE β} {a : α} (h : x = .ok a) : (x >>= f) = f a := by rw [h]; rfl
theorem pSg_b {h : Int → Int} {L' c p q : Int} (hout : ∀ p, L' ≤ p → h p = -1) (hc : 0 ≤ c) (e : pSg h c p = .ok q) : p < L' ∧ q = p + 1 := by
  obtain ⟨a, b⟩ := pSg_ok e
  refine ⟨?_, b⟩
  rcases (show p < L' ∨ L' ≤ p by omega) with g | g
  · exact g
  · have := hout p g; omega
theorem pNm_b {h : Int → Int} {L' m p v q : Int} (hout : ∀ p, L' ≤ p → h p = -1) (e : pNm h m p = .ok (v, q)) : p < q ∧ q ≤ L' ∧ 0 ≤ v ∧ v ≤ m := by
  obtain ⟨a, b, c, d⟩ := pNm_ok e
  have k : ∀ y, zdg h y → y < L' := fun y g => by
    rcases (show y < L' ∨ L' ≤ y by omega) with k | k
    · exact k
    · have := hout y k; omega
  have k0 := k p a
  rcases b with b | ⟨b1, b2⟩
  · omega
  · have k1 := k _ b1
    omega
set_option maxRecDepth 100000 in
theorem c_readLaw {h : Int → Int} {L' p : Int} (hq : zqC h L' ι) (hat : ι 21 4 = p) (hp : 0 ≤ p ∧ p ≤ 110) {R : zr} (hV : zVE (tb 28 ι) R) : zCi l (zc D ad L z) mX4_readLaw 2 [zR 21, zR 28] ι (zRd ι (pLw h p R)) := by
  refine zCt_of (by decide) (Nat.le_of_ble_eq_true rfl) 0 rfl ?_
  obtain ⟨hl, hL, hin, hout⟩ := id hq
  refine g_aload_n (x := 21) rfl dX4_readLaw_0 ?_
  refine g_bipush (x := 100) (by decide) dX4_readLaw_1 ?_
  refine i_callV mvX4_readSign tw_323 (ci := 4) (congrArg Prod.fst sh_21) rfl (by decide) (c_readSign (p := p) hq hat (by omega) (c := 100) (by decide)) (by decide) (st' := []) rfl (Nat.le_of_ble_eq_true rfl) rfl dX4_readLaw_3 (fun v_1 ι1 hq_3 => ?_)
  obtain ⟨b1, rfl, hb1⟩ := hq_3
  refine g_if_ne ⟨by omega, by omega⟩ (t := 11) dX4_readLaw_6 (by decide) (fun h6 => ?_) (fun h6 => ?_)
  · obtain ⟨-, p1, hE1, hm1⟩ := hb1.resolve_left (fun g => by omega)
    obtain ⟨lt1, ep1⟩ := pSg_b hout (by decide) hE1
    have f1 : zFc ι ι1 := by rw [hm1]; exact zFc.up (by omega)
    have q1 := zqC_fc hq f1
    have a1 : ι1 21 4 = p1 := by rw [hm1, iup_s]
    have z1 : ι1 21 2 = ι 21 2 := by rw [hm1, iup_n _ (by omega)]
    have t1 : tb 28 ι1 = tb 28 ι := by rw [hm1, tb_up (by omega)]
    refine g_aload_n (x := 28) rfl dX4_readLaw_11 ?_
    refine g_aload_n (x := 21) rfl dX4_readLaw_12 ?_
    refine g_iconst (x := 3) rfl dX4_readLaw_13 ?_
    refine i_callV mvX4_readNumber tw_331 (ci := 4) (congrArg Prod.fst sh_21) rfl (by decide) (c_readNumber (p := p1) q1 a1 (by omega) (m := 3) (by decide)) (by decide) (st' := [zR 28]) rfl (Nat.le_of_ble_eq_true rfl) rfl dX4_readLaw_14 (fun v_2 ι2 hq_14 => ?_)
    obtain ⟨v2, rfl, hv2⟩ := hq_14
    have vb2 : -1 ≤ v2 := by rcases hv2 with g | g <;> omega
    have f2 : zFc ι ι2 := by
      rcases hv2 with ⟨-, w, q, -, g⟩ | ⟨-, q, -, g⟩
      · rw [g]; exact zFc.t f1 (zFc.t (zFc.up (by omega)) (zFc.up (by omega)))
      · rw [g]; exact zFc.t f1 (zFc.up (by omega))
    obtain ⟨ι3, hι3⟩ : ∃ y_, y_ = iup ι2 28 6 v2 := ⟨_, rfl⟩
    refine i_put fwX4_43 zcl_5 (congrArg Prod.fst sh_28) (by decide) (by decide) (ι1 := ι3) (by rw [hι3]; exact iu_28_6) dX4_readLaw_17 ?_
    have f3 : zFc ι ι3 := zFc.t f2 (by rw [hι3]; exact zFc.up (by omega))
    have o3 : ι3 28 6 = v2 := by rw [hι3, iup_s]
    have hb2 : v2 ≤ 3 := by rcases hv2 with g | ⟨-, q, g, -⟩; omega; exact (pNm_b hout g).2.2.2
    refine g_aload_n (x := 28) rfl dX4_readLaw_20 ?_
    refine g_get fgX4_43 zcl_5 (congrArg Prod.fst sh_28) (by decide) ig_28_6 dX4_readLaw_21 ?_
    refine g_iconst (x := -1) rfl dX4_readLaw_24 ?_
    rw [o3]
    refine g_icmp_eq ⟨by omega, by omega⟩ (by decide) (t := 37) dX4_readLaw_25 (by decide) (fun h25 => ?_) (fun h25 => ?_)
    · obtain ⟨-, w2, y2, hE2, hm2⟩ := hv2.resolve_right (fun g => by omega)
      refine g_iconst (x := 0) rfl dX4_readLaw_37 ?_
      exact i_zret rfl (by decide) dX4_readLaw_38 (⟨0, rfl, f3, Or.inl ⟨rfl, w2, y2, by unfold pLw; exact ((zE_k hE1).trans (zE_e hE2)), by rw [hι3, iup_n _ (by omega), hm2, iup_n _ (by omega), iup_s], by rw [hι3, iup_n _ (by omega), hm2, iup_s]⟩⟩)
    · obtain ⟨-, p2, hE2, hm2⟩ := hv2.resolve_left (fun g => by omega)
      obtain ⟨lt2, le2, -⟩ := pNm_b hout hE2
      have a3 : ι3 21 4 = p2 := by rw [hι3, iup_n _ (by omega), hm2, iup_s]
      have z3 : ι3 21 2 = ι 21 2 := by rw [hι3, iup_n _ (by omega), hm2, iup_n _ (by omega), z1]
      have t3 : tb 28 ι3 = ru (tb 28 ι) 2 v2 := by rw [hι3, tp_up_s 28 ι2 (by decide) (by decide), tb_tp 28 (ru_tz (tb_tz 28 ι2) (by decide) (by decide)), hm2, tb_up (by omega), t1]; rfl
      refine g_aload_n (x := 21) rfl dX4_readLaw_28 ?_
      refine g_bipush (x := 44) (by decide) dX4_readLaw_29 ?_
      refine i_callV mvX4_readSign tw_323 (ci := 4) (congrArg Prod.fst sh_21) rfl (by decide) (c_readSign (p := p2) (zqC_fc hq f3) a3 (by omega) (c := 44) (by decide)) (by decide) (st' := []) rfl (Nat.le_of_ble_eq_true rfl) rfl dX4_readLaw_31 (fun v_3 ι4 hq_31 => ?_)
      obtain ⟨b4, rfl, hb4⟩ := hq_31
      refine g_if_ne ⟨by omega, by omega⟩ (t := 39) dX4_readLaw_34 (by decide) (fun h34 => ?_) (fun h34 => ?_)
      · obtain ⟨-, p4, hE4, hm4⟩ := hb4.resolve_left (fun g => by omega)
        obtain ⟨lt4, ep4⟩ := pSg_b hout (by decide) hE4
        have f4 : zFc ι ι4 := zFc.t f3 (by rw [hm4]; exact zFc.up (by omega))
        have a4 : ι4 21 4 = p4 := by rw [hm4, iup_s]
        have z4 : ι4 21 2 = ι 21 2 := by rw [hm4, iup_n _ (by omega), z3]
        have t4 : tb 28 ι4 = ru (tb 28 ι) 2 v2 := by rw [hm4, tb_up (by omega), t3]
        refine g_aload_n (x := 28) rfl dX4_readLaw_39 ?_
        refine g_aload_n (x := 21) rfl dX4_readLaw_40 ?_
        refine g_bipush (x := 9) (by decide) dX4_readLaw_41 ?_
        refine i_callV mvX4_readNumber tw_331 (ci := 4) (congrArg Prod.fst sh_21) rfl (by decide) (c_readNumber (p := p4) (zqC_fc hq f4) a4 (by omega) (m := 9) (by decide)) (by decide) (st' := [zR 28]) rfl (Nat.le_of_ble_eq_true rfl) rfl dX4_readLaw_43 (fun v_4 ι5 hq_43 => ?_)
        obtain ⟨v5, rfl, hv5⟩ := hq_43
        have vb5 : -1 ≤ v5 := by rcases hv5 with g | g <;> omega
        have f5 : zFc ι ι5 := by
          rcases hv5 with ⟨-, w, q, -, g⟩ | ⟨-, q, -, g⟩
          · rw [g]; exact zFc.t f4 (zFc.t (zFc.up (by omega)) (zFc.up (by omega)))
          · rw [g]; exact zFc.t f4 (zFc.up (by omega))
        obtain ⟨ι6, hι6⟩ : ∃ y_, y_ = iup ι5 28 7 v5 := ⟨_, rfl⟩
        refine i_put fwX4_46 zcl_5 (congrArg Prod.fst sh_28) (by decide) (by decide) (ι1 := ι6) (by rw [hι6]; exact iu_28_7) dX4_readLaw_46 ?_
        have f6 : zFc ι ι6 := zFc.t f5 (by rw [hι6]; exact zFc.up (by omega))
        have o6 : ι6 28 7 = v5 := by rw [hι6, iup_s]
        have hb5 : v5 ≤ 9 := by rcases hv5 with g | ⟨-, q, g, -⟩; omega; exact (pNm_b hout g).2.2.2
        refine g_aload_n (x := 28) rfl dX4_readLaw_49 ?_
        refine g_get fgX4_46 zcl_5 (congrArg Prod.fst sh_28) (by decide) ig_28_7 dX4_readLaw_50 ?_
        refine g_iconst (x := -1) rfl dX4_readLaw_53 ?_
        rw [o6]
        refine g_icmp_eq ⟨by omega, by omega⟩ (by decide) (t := 70) dX4_readLaw_54 (by decide) (fun h54 => ?_) (fun h54 => ?_)
        · obtain ⟨-, w5, y5, hE5, hm5⟩ := hv5.resolve_right (fun g => by omega)
          refine g_iconst (x := 0) rfl dX4_readLaw_70 ?_
          exact i_zret rfl (by decide) dX4_readLaw_71 (⟨0, rfl, f6, Or.inl ⟨rfl, w5, y5, by unfold pLw; exact ((zE_k hE1).trans ((zE_k hE2).trans ((zE_k hE4).trans (zE_e hE5)))), by rw [hι6, iup_n _ (by omega), hm5, iup_n _ (by omega), iup_s], by rw [hι6, iup_n _ (by omega), hm5, iup_s]⟩⟩)
        · obtain ⟨-, p5, hE5, hm5⟩ := hv5.resolve_left (fun g => by omega)
          obtain ⟨lt5, le5, -⟩ := pNm_b hout hE5
          have a6 : ι6 21 4 = p5 := by rw [hι6, iup_n _ (by omega), hm5, iup_s]
          have z6 : ι6 21 2 = ι 21 2 := by rw [hι6, iup_n _ (by omega), hm5, iup_n _ (by omega), z4]
          have t6 : tb 28 ι6 = ru (ru (tb 28 ι) 2 v2) 3 v5 := by rw [hι6, tp_up_s 28 ι5 (by decide) (by decide), tb_tp 28 (ru_tz (tb_tz 28 ι5) (by decide) (by decide)), hm5, tb_up (by omega), t4]; rfl
          refine g_aload_n (x := 21) rfl dX4_readLaw_57 ?_
          refine g_bipush (x := 59) (by decide) dX4_readLaw_58 ?_
          refine i_callV mvX4_readSign tw_323 (ci := 4) (congrArg Prod.fst sh_21) rfl (by decide) (c_readSign (p := p5) (zqC_fc hq f6) a6 (by omega) (c := 59) (by decide)) (by decide) (st' := []) rfl (Nat.le_of_ble_eq_true rfl) rfl dX4_readLaw_60 (fun v_5 ι7 hq_60 => ?_)
          obtain ⟨b7, rfl, hb7⟩ := hq_60
          refine g_if_eq ⟨by omega, by omega⟩ (t := 70) dX4_readLaw_63 (by decide) (fun h63 => ?_) (fun h63 => ?_)
          · obtain ⟨-, w7, y7, hE7, hm7⟩ := hb7.resolve_right (fun g => by omega)
            refine g_iconst (x := 0) rfl dX4_readLaw_70 ?_
            exact i_zret rfl (by decide) dX4_readLaw_71 (⟨0, rfl, zFc.t f6 (by rw [hm7]; exact zFc.t (zFc.up (by omega)) (zFc.up (by omega))), Or.inl ⟨rfl, w7, y7, by unfold pLw; exact ((zE_k hE1).trans ((zE_k hE2).trans ((zE_k hE4).trans ((zE_k hE5).trans (zE_e hE7))))), by rw [hm7, iup_n _ (by omega), iup_s], by rw [hm7, iup_s]⟩⟩)
          · obtain ⟨-, p7, hE7, hm7⟩ := hb7.resolve_left (fun g => by omega)
            obtain ⟨lt7, ep7⟩ := pSg_b hout (by decide) hE7
            refine g_iconst (x := 1) rfl dX4_readLaw_66 ?_
            refine g_goto (t := 71) dX4_readLaw_67 (by decide) ?_
            exact i_zret rfl (by decide) dX4_readLaw_71 (⟨1, rfl, zFc.t f6 (by rw [hm7]; exact zFc.up (by omega)), Or.inr ⟨rfl, p7, _, by unfold pLw; exact ((zE_k hE1).trans ((zE_k hE2).trans ((zE_k hE4).trans ((zE_k hE5).trans ((zE_k hE7).trans rfl))))), by rw [hm7, iup_n _ (by omega), z6], by rw [hm7, iup_s], by rw [hm7, tb_up (by omega), t6]; exact zVE_lw hV⟩⟩)
      · obtain ⟨-, w4, y4, hE4, hm4⟩ := hb4.resolve_right (fun g => by omega)
        refine g_iconst (x := 0) rfl dX4_readLaw_37 ?_
        exact i_zret rfl (by decide) dX4_readLaw_38 (⟨0, rfl, zFc.t f3 (by rw [hm4]; exact zFc.t (zFc.up (by omega)) (zFc.up (by omega))), Or.inl ⟨rfl, w4, y4, by unfold pLw; exact ((zE_k hE1).trans ((zE_k hE2).trans (zE_e hE4))), by rw [hm4, iup_n _ (by omega), iup_s], by rw [hm4, iup_s]⟩⟩)
  · obtain ⟨-, w1, y1, hE1, hm1⟩ := hb1.resolve_right (fun g => by omega)
    refine g_iconst (x := 0) rfl dX4_readLaw_9 ?_
    exact i_zret rfl (by decide) dX4_readLaw_10 (⟨0, rfl, by rw [hm1]; exact zFc.t (zFc.up (by omega)) (zFc.up (by omega)), Or.inl ⟨rfl, w1, y1, by unfold pLw; exact zE_e hE1, by rw [hm1, iup_n _ (by omega), iup_s], by rw [hm1, iup_s]⟩⟩)

set_option maxRecDepth 100000 in
theorem c_readStreet (hO : zPre ι) {h : Int → Int} {L' p : Int} (hq : zqC h L' ι) (hat : ι 21 4 = p) (hp : 0 ≤ p ∧ p ≤ 110) {R : zr} (hV : zVE (tb 28 ι) R) (h0 : 0 ≤ R 0 ∧ R 0 ≤ 8) (h1 : 0 ≤ R 1 ∧ R 1 ≤ 8) : zCi l (zc D ad L z) mX4_readStreet 4 [zR 21, zR 28] ι (zRd ι (pSt h p R)) := by
  refine zCt_of (by decide) (Nat.le_of_ble_eq_true rfl) 4 rfl ?_
  obtain ⟨hl, hL, hin, hout⟩ := id hq
  have r0 := hV.1 0 (by decide) (by decide)
  rw [tb_0] at r0
  have hkb : 0 ≤ zkd (h p) ∧ zkd (h p) ≤ 5 := by unfold zkd; (repeat' split) <;> omega
  refine g_aload_n (x := 21) rfl dX4_readStreet_0 ?_
  refine g_get fgX4_17 zcl_4 (congrArg Prod.fst sh_21) (by decide) ig_21_4 dX4_readStreet_1 ?_
  refine g_aload_n (x := 21) rfl dX4_readStreet_4 ?_
  refine g_get fgX4_13 zcl_4 (congrArg Prod.fst sh_21) (by decide) ig_21_1 dX4_readStreet_5 ?_
  rw [hat, hl]
  refine g_icmp_ge ⟨by omega, by omega⟩ ⟨by omega, by omega⟩ (t := 31) dX4_readStreet_8 (by decide) (fun h8 => ?_) (fun h8 => ?_)
  · refine g_iconst (x := 0) rfl dX4_readStreet_31 ?_
    refine g_nm (fun x2 hx2 => ?_)
    refine g_istore_n (ls' := [some (zR 21), some (zR 28), some (zI x2), none, none, none]) dX4_readStreet_32 (by decide) rfl ?_
    have ex2 : x2 = zkd (h p) := by first | omega | (rw [hx2, show h p = -1 from hout p (by omega)]; rfl)
    refine g_iload_n (x := x2) rfl dX4_readStreet_33 ?_
    refine g_iconst (x := 1) rfl dX4_readStreet_34 ?_
    refine g_icmp_ge ⟨by omega, by omega⟩ (by decide) (t := 44) dX4_readStreet_35 (by decide) (fun h35 => ?_) (fun h35 => ?_)
    · refine g_aload_n (x := 28) rfl dX4_readStreet_44 ?_
      refine g_get fgX4_62 zcl_5 (congrArg Prod.fst sh_28) (by decide) ig_28_4 dX4_readStreet_45 ?_
      rw [r0]
      refine g_istore_n (ls' := [some (zR 21), some (zR 28), some (zI x2), some (zI (R 0)), none, none]) dX4_readStreet_48 (by decide) rfl ?_
      refine g_iload_n (x := (R 0)) rfl dX4_readStreet_49 ?_
      refine g_bipush (x := 8) (by decide) dX4_readStreet_50 ?_
      refine g_icmp_lt ⟨by omega, by omega⟩ (by decide) (t := 61) dX4_readStreet_52 (by decide) (fun h52 => ?_) (fun h52 => ?_)
      · refine g_aload_n (x := 21) rfl dX4_readStreet_61 ?_
        refine g_dupR dX4_readStreet_62 ?_
        refine g_get fgX4_17 zcl_4 (congrArg Prod.fst sh_21) (by decide) ig_21_4 dX4_readStreet_63 ?_
        refine g_iconst (x := 1) rfl dX4_readStreet_66 ?_
        refine g_iadd dX4_readStreet_67 ?_
        rw [hat]
        obtain ⟨ι1, hι1⟩ : ∃ y_, y_ = iup ι 21 4 ((p) + 1) := ⟨_, rfl⟩
        refine i_put fwX4_17 zcl_4 (congrArg Prod.fst sh_21) (by decide) (by decide) (ι1 := ι1) (by rw [hι1]; exact iu_21_4) dX4_readStreet_68 ?_
        have f1 : zFc ι ι1 := by rw [hι1]; exact zFc.up (by omega)
        have a1 : ι1 21 4 = p + 1 := by rw [hι1, iup_s]
        have z1 : ι1 21 2 = ι 21 2 := by rw [hι1, iup_n _ (by omega)]
        have t1 : tb 28 ι1 = tb 28 ι := by rw [hι1, tb_up (by omega)]
        refine g_aload_n (x := 21) rfl dX4_readStreet_71 ?_
        refine g_bipush (x := 20) (by decide) dX4_readStreet_72 ?_
        refine i_callV mvX4_readNumber tw_331 (ci := 4) (congrArg Prod.fst sh_21) rfl (by decide) (c_readNumber (p := p + 1) (zqC_fc hq f1) a1 (by omega) (m := 20) (by decide)) (by decide) (st' := []) rfl (Nat.le_of_ble_eq_true rfl) rfl dX4_readStreet_74 (fun v_1 ι2 hq_74 => ?_)
        obtain ⟨v2, rfl, hv2⟩ := hq_74
        have vb2 : -1 ≤ v2 ∧ v2 ≤ 100 := by
          rcases hv2 with g | ⟨g, q, g1, -⟩
          · omega
          · have := (pNm_b hout g1).2.2.2; omega
        refine g_istore (ls' := [some (zR 21), some (zR 28), some (zI x2), some (zI (R 0)), some (zI v2), none]) dX4_readStreet_77 (by decide) rfl ?_
        refine g_iload (x := v2) rfl dX4_readStreet_79 ?_
        refine g_iconst (x := -1) rfl dX4_readStreet_81 ?_
        refine g_icmp_eq ⟨by omega, by omega⟩ (by decide) (t := 94) dX4_readStreet_82 (by decide) (fun h82 => ?_) (fun h82 => ?_)
        · obtain ⟨-, w2, y2, hE2, hm2⟩ := hv2.resolve_right (fun g => by omega)
          refine g_iconst (x := 0) rfl dX4_readStreet_94 ?_
          exact i_zret rfl (by decide) dX4_readStreet_95 (⟨0, rfl, zFc.t f1 (by rw [hm2]; exact zFc.t (zFc.up (by omega)) (zFc.up (by omega))), Or.inl ⟨rfl, w2, y2, by unfold pSt; rw [if_neg (by omega), if_neg (by omega)]; exact zE_e hE2, by rw [hm2, iup_n _ (by omega), iup_s], by rw [hm2, iup_s]⟩⟩)
        · obtain ⟨-, p2, hE2, hm2⟩ := hv2.resolve_left (fun g => by omega)
          obtain ⟨lt2, le2, -⟩ := pNm_b hout hE2
          have f2 : zFc ι ι2 := zFc.t f1 (by rw [hm2]; exact zFc.up (by omega))
          have a2 : ι2 21 4 = p2 := by rw [hm2, iup_s]
          have z2 : ι2 21 2 = ι 21 2 := by rw [hm2, iup_n _ (by omega), z1]
          have t2 : tb 28 ι2 = tb 28 ι := by rw [hm2, tb_up (by omega), t1]
          refine g_aload_n (x := 21) rfl dX4_readStreet_85 ?_
          refine g_bipush (x := 44) (by decide) dX4_readStreet_86 ?_
          refine i_callV mvX4_readSign tw_323 (ci := 4) (congrArg Prod.fst sh_21) rfl (by decide) (c_readSign (p := p2) (zqC_fc hq f2) a2 (by omega) (c := 44) (by decide)) (by decide) (st' := []) rfl (Nat.le_of_ble_eq_true rfl) rfl dX4_readStreet_88 (fun v_2 ι3 hq_88 => ?_)
          obtain ⟨b3, rfl, hb3⟩ := hq_88
          refine g_if_ne ⟨by omega, by omega⟩ (t := 96) dX4_readStreet_91 (by decide) (fun h91 => ?_) (fun h91 => ?_)
          · obtain ⟨-, p3, hE3, hm3⟩ := hb3.resolve_left (fun g => by omega)
            obtain ⟨lt3, ep3⟩ := pSg_b hout (by decide) hE3
            have f3 : zFc ι ι3 := zFc.t f2 (by rw [hm3]; exact zFc.up (by omega))
            have a3 : ι3 21 4 = p3 := by rw [hm3, iup_s]
            have z3 : ι3 21 2 = ι 21 2 := by rw [hm3, iup_n _ (by omega), z2]
            have t3 : tb 28 ι3 = tb 28 ι := by rw [hm3, tb_up (by omega), t2]
            refine g_aload_n (x := 21) rfl dX4_readStreet_96 ?_
            refine g_bipush (x := 60) (by decide) dX4_readStreet_97 ?_
            refine i_callV mvX4_readNumber tw_331 (ci := 4) (congrArg Prod.fst sh_21) rfl (by decide) (c_readNumber (p := p3) (zqC_fc hq f3) a3 (by omega) (m := 60) (by decide)) (by decide) (st' := []) rfl (Nat.le_of_ble_eq_true rfl) rfl dX4_readStreet_99 (fun v_3 ι4 hq_99 => ?_)
            obtain ⟨v4, rfl, hv4⟩ := hq_99
            have vb4 : -1 ≤ v4 ∧ v4 ≤ 100 := by
              rcases hv4 with g | ⟨g, q, g1, -⟩
              · omega
              · have := (pNm_b hout g1).2.2.2; omega
            refine g_istore (ls' := [some (zR 21), some (zR 28), some (zI x2), some (zI (R 0)), some (zI v2), some (zI v4)]) dX4_readStreet_102 (by decide) rfl ?_
            refine g_iload (x := v4) rfl dX4_readStreet_104 ?_
            refine g_iconst (x := -1) rfl dX4_readStreet_106 ?_
            refine g_icmp_eq ⟨by omega, by omega⟩ (by decide) (t := 119) dX4_readStreet_107 (by decide) (fun h107 => ?_) (fun h107 => ?_)
            · obtain ⟨-, w4, y4, hE4, hm4⟩ := hv4.resolve_right (fun g => by omega)
              refine g_iconst (x := 0) rfl dX4_readStreet_119 ?_
              exact i_zret rfl (by decide) dX4_readStreet_120 (⟨0, rfl, zFc.t f3 (by rw [hm4]; exact zFc.t (zFc.up (by omega)) (zFc.up (by omega))), Or.inl ⟨rfl, w4, y4, by unfold pSt; rw [if_neg (by omega), if_neg (by omega)]; exact ((zE_k hE2).trans ((zE_k hE3).trans (zE_e hE4))), by rw [hm4, iup_n _ (by omega), iup_s], by rw [hm4, iup_s]⟩⟩)
            · obtain ⟨-, p4, hE4, hm4⟩ := hv4.resolve_left (fun g => by omega)
              obtain ⟨lt4, le4, -⟩ := pNm_b hout hE4
              have f4 : zFc ι ι4 := zFc.t f3 (by rw [hm4]; exact zFc.up (by omega))
              have a4 : ι4 21 4 = p4 := by rw [hm4, iup_s]
              have z4 : ι4 21 2 = ι 21 2 := by rw [hm4, iup_n _ (by omega), z3]
              have t4 : tb 28 ι4 = tb 28 ι := by rw [hm4, tb_up (by omega), t3]
              refine g_aload_n (x := 21) rfl dX4_readStreet_110 ?_
              refine g_bipush (x := 59) (by decide) dX4_readStreet_111 ?_
              refine i_callV mvX4_readSign tw_323 (ci := 4) (congrArg Prod.fst sh_21) rfl (by decide) (c_readSign (p := p4) (zqC_fc hq f4) a4 (by omega) (c := 59) (by decide)) (by decide) (st' := []) rfl (Nat.le_of_ble_eq_true rfl) rfl dX4_readStreet_113 (fun v_4 ι5 hq_113 => ?_)
              obtain ⟨b5, rfl, hb5⟩ := hq_113
              refine g_if_ne ⟨by omega, by omega⟩ (t := 121) dX4_readStreet_116 (by decide) (fun h116 => ?_) (fun h116 => ?_)
              · obtain ⟨-, p5, hE5, hm5⟩ := hb5.resolve_left (fun g => by omega)
                obtain ⟨lt5, ep5⟩ := pSg_b hout (by decide) hE5
                have f5 : zFc ι ι5 := zFc.t f4 (by rw [hm5]; exact zFc.up (by omega))
                have a5 : ι5 21 4 = p5 := by rw [hm5, iup_s]
                have z5 : ι5 21 2 = ι 21 2 := by rw [hm5, iup_n _ (by omega), z4]
                have t5 : tb 28 ι5 = tb 28 ι := by rw [hm5, tb_up (by omega), t4]
                refine g_aload_n (x := 28) rfl dX4_readStreet_121 ?_
                refine g_get fgX4_65 zcl_5 (congrArg Prod.fst sh_28) (by decide) rg_28_0 dX4_readStreet_122 ?_
                refine g_iload_n (x := (R 0)) rfl dX4_readStreet_125 ?_
                refine g_iload_n (x := x2) rfl dX4_readStreet_126 ?_
                obtain ⟨ι6, hι6⟩ : ∃ y_, y_ = iup ι5 29 (R 0) x2 := ⟨_, rfl⟩
                refine i_iast sh_29 (by decide) (by decide) (by omega) (by omega) (by decide) (ι1 := ι6) (by rw [hι6]; exact au_29) dX4_readStreet_127 ?_
                refine g_aload_n (x := 28) rfl dX4_readStreet_128 ?_
                refine g_get fgX4_68 zcl_5 (congrArg Prod.fst sh_28) (by decide) rg_28_1 dX4_readStreet_129 ?_
                refine g_iload_n (x := (R 0)) rfl dX4_readStreet_132 ?_
                refine g_iload (x := v2) rfl dX4_readStreet_133 ?_
                obtain ⟨ι7, hι7⟩ : ∃ y_, y_ = iup ι6 30 (R 0) v2 := ⟨_, rfl⟩
                refine i_iast sh_30 (by decide) (by decide) (by omega) (by omega) (by decide) (ι1 := ι7) (by rw [hι7]; exact au_30) dX4_readStreet_135 ?_
                refine g_aload_n (x := 28) rfl dX4_readStreet_136 ?_
                refine g_get fgX4_71 zcl_5 (congrArg Prod.fst sh_28) (by decide) rg_28_2 dX4_readStreet_137 ?_
                refine g_iload_n (x := (R 0)) rfl dX4_readStreet_140 ?_
                refine g_iload (x := v4) rfl dX4_readStreet_141 ?_
                obtain ⟨ι8, hι8⟩ : ∃ y_, y_ = iup ι7 31 (R 0) v4 := ⟨_, rfl⟩
                refine i_iast sh_31 (by decide) (by decide) (by omega) (by omega) (by decide) (ι1 := ι8) (by rw [hι8]; exact au_31) dX4_readStreet_143 ?_
                refine g_aload_n (x := 28) rfl dX4_readStreet_144 ?_
                refine g_dupR dX4_readStreet_145 ?_
                refine g_get fgX4_62 zcl_5 (congrArg Prod.fst sh_28) (by decide) ig_28_4 dX4_readStreet_146 ?_
                refine g_iconst (x := 1) rfl dX4_readStreet_149 ?_
                refine g_iadd dX4_readStreet_150 ?_
                have o8 : ι8 28 4 = R 0 := by rw [hι8, iup_n _ (by omega), hι7, iup_n _ (by omega), hι6, iup_n _ (by omega), hm5, iup_n _ (by omega), hm4, iup_n _ (by omega), hm3, iup_n _ (by omega), hm2, iup_n _ (by omega), hι1, iup_n _ (by omega), r0]
                rw [o8]
                obtain ⟨ι9, hι9⟩ : ∃ y_, y_ = iup ι8 28 4 ((R 0) + 1) := ⟨_, rfl⟩
                refine i_put fwX4_62 zcl_5 (congrArg Prod.fst sh_28) (by decide) (by decide) (ι1 := ι9) (by rw [hι9]; exact iu_28_4) dX4_readStreet_151 ?_
                refine g_iconst (x := 1) rfl dX4_readStreet_154 ?_
                exact i_zret rfl (by decide) dX4_readStreet_155 (⟨1, rfl, by rw [hι9, hι8, hι7, hι6]; exact zFc.t f5 (zFc.t (zFc.up (by omega)) (zFc.t (zFc.up (by omega)) (zFc.t (zFc.up (by omega)) (zFc.up (by omega))))), Or.inr ⟨rfl, p5, _, by unfold pSt; rw [if_neg (by omega), if_neg (by omega)]; exact ((zE_k hE2).trans ((zE_k hE3).trans ((zE_k hE4).trans ((zE_k hE5).trans rfl)))), by rw [hι9, iup_n _ (by omega), hι8, iup_n _ (by omega), hι7, iup_n _ (by omega), hι6, iup_n _ (by omega), z5], by rw [hι9, iup_n _ (by omega), hι8, iup_n _ (by omega), hι7, iup_n _ (by omega), hι6, iup_n _ (by omega), a5], by
      have e6 : tb 28 ι6 = ru (tb 28 ι) (6 + R 0) x2 := by rw [hι6, tp_up_k 28 ι5 (by omega) (by omega), tb_tp 28 (ru_tz (tb_tz 28 ι5) (by omega) (by omega)), t5]
      have e7 : tb 28 ι7 = ru (tb 28 ι6) (14 + R 0) v2 := by rw [hι7, tp_up_d 28 ι6 (by omega) (by omega), tb_tp 28 (ru_tz (tb_tz 28 ι6) (by omega) (by omega))]
      have e8 : tb 28 ι8 = ru (tb 28 ι7) (22 + R 0) v4 := by rw [hι8, tp_up_l 28 ι7 (by omega) (by omega), tb_tp 28 (ru_tz (tb_tz 28 ι7) (by omega) (by omega))]
      have e9 : tb 28 ι9 = ru (tb 28 ι8) 0 (R 0 + 1) := by rw [hι9, tp_up_s 28 ι8 (by decide) (by decide), tb_tp 28 (ru_tz (tb_tz 28 ι8) (by decide) (by decide))]; rfl
      rw [e9, e8, e7, e6, ex2]
      exact zVE_st hV (by omega) h1⟩⟩)
              · obtain ⟨-, w5, y5, hE5, hm5⟩ := hb5.resolve_right (fun g => by omega)
                refine g_iconst (x := 0) rfl dX4_readStreet_119 ?_
                exact i_zret rfl (by decide) dX4_readStreet_120 (⟨0, rfl, zFc.t f4 (by rw [hm5]; exact zFc.t (zFc.up (by omega)) (zFc.up (by omega))), Or.inl ⟨rfl, w5, y5, by unfold pSt; rw [if_neg (by omega), if_neg (by omega)]; exact ((zE_k hE2).trans ((zE_k hE3).trans ((zE_k hE4).trans (zE_e hE5)))), by rw [hm5, iup_n _ (by omega), iup_s], by rw [hm5, iup_s]⟩⟩)
          · obtain ⟨-, w3, y3, hE3, hm3⟩ := hb3.resolve_right (fun g => by omega)
            refine g_iconst (x := 0) rfl dX4_readStreet_94 ?_
            exact i_zret rfl (by decide) dX4_readStreet_95 (⟨0, rfl, zFc.t f2 (by rw [hm3]; exact zFc.t (zFc.up (by omega)) (zFc.up (by omega))), Or.inl ⟨rfl, w3, y3, by unfold pSt; rw [if_neg (by omega), if_neg (by omega)]; exact ((zE_k hE2).trans (zE_e hE3)), by rw [hm3, iup_n _ (by omega), iup_s], by rw [hm3, iup_s]⟩⟩)
      · refine g_aload_n (x := 21) rfl dX4_readStreet_55 ?_
        refine g_iconst (x := 3) rfl dX4_readStreet_56 ?_
        refine i_callV mvX4_fails tw_327 (ci := 4) (congrArg Prod.fst sh_21) rfl (by decide) (c_fails) (by decide) (st' := []) rfl (Nat.le_of_ble_eq_true rfl) rfl dX4_readStreet_57 (fun v_5 ι1 hq_57 => ?_)
        obtain ⟨rfl, hι1⟩ := hq_57
        rw [hat] at hι1
        exact i_zret rfl (by decide) dX4_readStreet_60 (⟨0, rfl, by rw [hι1]; exact zFc.t (zFc.up (by omega)) (zFc.up (by omega)), Or.inl ⟨rfl, 3, p, by unfold pSt; rw [if_neg (by omega), if_pos (by omega)], by rw [hι1, iup_n _ (by omega), iup_s], by rw [hι1, iup_s]⟩⟩)
    · refine g_aload_n (x := 21) rfl dX4_readStreet_38 ?_
      refine g_iconst (x := 1) rfl dX4_readStreet_39 ?_
      refine i_callV mvX4_fails tw_327 (ci := 4) (congrArg Prod.fst sh_21) rfl (by decide) (c_fails) (by decide) (st' := []) rfl (Nat.le_of_ble_eq_true rfl) rfl dX4_readStreet_40 (fun v_6 ι1 hq_40 => ?_)
      obtain ⟨rfl, hι1⟩ := hq_40
      rw [hat] at hι1
      exact i_zret rfl (by decide) dX4_readStreet_43 (⟨0, rfl, by rw [hι1]; exact zFc.t (zFc.up (by omega)) (zFc.up (by omega)), Or.inl ⟨rfl, 1, p, by unfold pSt; rw [if_pos (by omega)], by rw [hι1, iup_n _ (by omega), iup_s], by rw [hι1, iup_s]⟩⟩)
  · refine g_ldcS rfl dX4_readStreet_11 ?_
    refine g_aload_n (x := 21) rfl dX4_readStreet_13 ?_
    refine g_get fgX4_9 zcl_4 (congrArg Prod.fst sh_21) (by decide) rg_21_0 dX4_readStreet_14 ?_
    refine g_aload_n (x := 21) rfl dX4_readStreet_17 ?_
    refine g_get fgX4_17 zcl_4 (congrArg Prod.fst sh_21) (by decide) ig_21_4 dX4_readStreet_18 ?_
    rw [hat]
    obtain ⟨e1, e2, e3⟩ := hin p hp.1 (by omega)
    refine g_iald sh_22 (by decide) (by omega) (by omega) (by decide) ag_22 dX4_readStreet_21 ?_
    rw [← e1]
    refine g_i2c (by omega) (by omega) dX4_readStreet_22 ?_
    refine i_callTp mvJ0_indexOf_0f7a4 rfl tw_348 (c_indexOf hO ⟨e2, e3⟩) (by decide) (st' := []) rfl (Nat.le_of_ble_eq_true rfl) rfl dX4_readStreet_23 ?_
    refine g_iconst (x := 1) rfl dX4_readStreet_26 ?_
    refine g_iadd dX4_readStreet_27 ?_
    refine g_goto (t := 32) dX4_readStreet_28 (by decide) ?_
    refine g_nm (fun x2 hx2 => ?_)
    refine g_istore_n (ls' := [some (zR 21), some (zR 28), some (zI x2), none, none, none]) dX4_readStreet_32 (by decide) rfl ?_
    have ex2 : x2 = zkd (h p) := by first | omega | (rw [hx2, show h p = -1 from hout p (by omega)]; rfl)
    refine g_iload_n (x := x2) rfl dX4_readStreet_33 ?_
    refine g_iconst (x := 1) rfl dX4_readStreet_34 ?_
    refine g_icmp_ge ⟨by omega, by omega⟩ (by decide) (t := 44) dX4_readStreet_35 (by decide) (fun h35 => ?_) (fun h35 => ?_)
    · refine g_aload_n (x := 28) rfl dX4_readStreet_44 ?_
      refine g_get fgX4_62 zcl_5 (congrArg Prod.fst sh_28) (by decide) ig_28_4 dX4_readStreet_45 ?_
      rw [r0]
      refine g_istore_n (ls' := [some (zR 21), some (zR 28), some (zI x2), some (zI (R 0)), none, none]) dX4_readStreet_48 (by decide) rfl ?_
      refine g_iload_n (x := (R 0)) rfl dX4_readStreet_49 ?_
      refine g_bipush (x := 8) (by decide) dX4_readStreet_50 ?_
      refine g_icmp_lt ⟨by omega, by omega⟩ (by decide) (t := 61) dX4_readStreet_52 (by decide) (fun h52 => ?_) (fun h52 => ?_)
      · refine g_aload_n (x := 21) rfl dX4_readStreet_61 ?_
        refine g_dupR dX4_readStreet_62 ?_
        refine g_get fgX4_17 zcl_4 (congrArg Prod.fst sh_21) (by decide) ig_21_4 dX4_readStreet_63 ?_
        refine g_iconst (x := 1) rfl dX4_readStreet_66 ?_
        refine g_iadd dX4_readStreet_67 ?_
        rw [hat]
        obtain ⟨ι1, hι1⟩ : ∃ y_, y_ = iup ι 21 4 ((p) + 1) := ⟨_, rfl⟩
        refine i_put fwX4_17 zcl_4 (congrArg Prod.fst sh_21) (by decide) (by decide) (ι1 := ι1) (by rw [hι1]; exact iu_21_4) dX4_readStreet_68 ?_
        have f1 : zFc ι ι1 := by rw [hι1]; exact zFc.up (by omega)
        have a1 : ι1 21 4 = p + 1 := by rw [hι1, iup_s]
        have z1 : ι1 21 2 = ι 21 2 := by rw [hι1, iup_n _ (by omega)]
        have t1 : tb 28 ι1 = tb 28 ι := by rw [hι1, tb_up (by omega)]
        refine g_aload_n (x := 21) rfl dX4_readStreet_71 ?_
        refine g_bipush (x := 20) (by decide) dX4_readStreet_72 ?_
        refine i_callV mvX4_readNumber tw_331 (ci := 4) (congrArg Prod.fst sh_21) rfl (by decide) (c_readNumber (p := p + 1) (zqC_fc hq f1) a1 (by omega) (m := 20) (by decide)) (by decide) (st' := []) rfl (Nat.le_of_ble_eq_true rfl) rfl dX4_readStreet_74 (fun v_7 ι2 hq_74 => ?_)
        obtain ⟨v2, rfl, hv2⟩ := hq_74
        have vb2 : -1 ≤ v2 ∧ v2 ≤ 100 := by
          rcases hv2 with g | ⟨g, q, g1, -⟩
          · omega
          · have := (pNm_b hout g1).2.2.2; omega
        refine g_istore (ls' := [some (zR 21), some (zR 28), some (zI x2), some (zI (R 0)), some (zI v2), none]) dX4_readStreet_77 (by decide) rfl ?_
        refine g_iload (x := v2) rfl dX4_readStreet_79 ?_
        refine g_iconst (x := -1) rfl dX4_readStreet_81 ?_
        refine g_icmp_eq ⟨by omega, by omega⟩ (by decide) (t := 94) dX4_readStreet_82 (by decide) (fun h82 => ?_) (fun h82 => ?_)
        · obtain ⟨-, w2, y2, hE2, hm2⟩ := hv2.resolve_right (fun g => by omega)
          refine g_iconst (x := 0) rfl dX4_readStreet_94 ?_
          exact i_zret rfl (by decide) dX4_readStreet_95 (⟨0, rfl, zFc.t f1 (by rw [hm2]; exact zFc.t (zFc.up (by omega)) (zFc.up (by omega))), Or.inl ⟨rfl, w2, y2, by unfold pSt; rw [if_neg (by omega), if_neg (by omega)]; exact zE_e hE2, by rw [hm2, iup_n _ (by omega), iup_s], by rw [hm2, iup_s]⟩⟩)
        · obtain ⟨-, p2, hE2, hm2⟩ := hv2.resolve_left (fun g => by omega)
          obtain ⟨lt2, le2, -⟩ := pNm_b hout hE2
          have f2 : zFc ι ι2 := zFc.t f1 (by rw [hm2]; exact zFc.up (by omega))
          have a2 : ι2 21 4 = p2 := by rw [hm2, iup_s]
          have z2 : ι2 21 2 = ι 21 2 := by rw [hm2, iup_n _ (by omega), z1]
          have t2 : tb 28 ι2 = tb 28 ι := by rw [hm2, tb_up (by omega), t1]
          refine g_aload_n (x := 21) rfl dX4_readStreet_85 ?_
          refine g_bipush (x := 44) (by decide) dX4_readStreet_86 ?_
          refine i_callV mvX4_readSign tw_323 (ci := 4) (congrArg Prod.fst sh_21) rfl (by decide) (c_readSign (p := p2) (zqC_fc hq f2) a2 (by omega) (c := 44) (by decide)) (by decide) (st' := []) rfl (Nat.le_of_ble_eq_true rfl) rfl dX4_readStreet_88 (fun v_8 ι3 hq_88 => ?_)
          obtain ⟨b3, rfl, hb3⟩ := hq_88
          refine g_if_ne ⟨by omega, by omega⟩ (t := 96) dX4_readStreet_91 (by decide) (fun h91 => ?_) (fun h91 => ?_)
          · obtain ⟨-, p3, hE3, hm3⟩ := hb3.resolve_left (fun g => by omega)
            obtain ⟨lt3, ep3⟩ := pSg_b hout (by decide) hE3
            have f3 : zFc ι ι3 := zFc.t f2 (by rw [hm3]; exact zFc.up (by omega))
            have a3 : ι3 21 4 = p3 := by rw [hm3, iup_s]
            have z3 : ι3 21 2 = ι 21 2 := by rw [hm3, iup_n _ (by omega), z2]
            have t3 : tb 28 ι3 = tb 28 ι := by rw [hm3, tb_up (by omega), t2]
            refine g_aload_n (x := 21) rfl dX4_readStreet_96 ?_
            refine g_bipush (x := 60) (by decide) dX4_readStreet_97 ?_
            refine i_callV mvX4_readNumber tw_331 (ci := 4) (congrArg Prod.fst sh_21) rfl (by decide) (c_readNumber (p := p3) (zqC_fc hq f3) a3 (by omega) (m := 60) (by decide)) (by decide) (st' := []) rfl (Nat.le_of_ble_eq_true rfl) rfl dX4_readStreet_99 (fun v_9 ι4 hq_99 => ?_)
            obtain ⟨v4, rfl, hv4⟩ := hq_99
            have vb4 : -1 ≤ v4 ∧ v4 ≤ 100 := by
              rcases hv4 with g | ⟨g, q, g1, -⟩
              · omega
              · have := (pNm_b hout g1).2.2.2; omega
            refine g_istore (ls' := [some (zR 21), some (zR 28), some (zI x2), some (zI (R 0)), some (zI v2), some (zI v4)]) dX4_readStreet_102 (by decide) rfl ?_
            refine g_iload (x := v4) rfl dX4_readStreet_104 ?_
            refine g_iconst (x := -1) rfl dX4_readStreet_106 ?_
            refine g_icmp_eq ⟨by omega, by omega⟩ (by decide) (t := 119) dX4_readStreet_107 (by decide) (fun h107 => ?_) (fun h107 => ?_)
            · obtain ⟨-, w4, y4, hE4, hm4⟩ := hv4.resolve_right (fun g => by omega)
              refine g_iconst (x := 0) rfl dX4_readStreet_119 ?_
              exact i_zret rfl (by decide) dX4_readStreet_120 (⟨0, rfl, zFc.t f3 (by rw [hm4]; exact zFc.t (zFc.up (by omega)) (zFc.up (by omega))), Or.inl ⟨rfl, w4, y4, by unfold pSt; rw [if_neg (by omega), if_neg (by omega)]; exact ((zE_k hE2).trans ((zE_k hE3).trans (zE_e hE4))), by rw [hm4, iup_n _ (by omega), iup_s], by rw [hm4, iup_s]⟩⟩)
            · obtain ⟨-, p4, hE4, hm4⟩ := hv4.resolve_left (fun g => by omega)
              obtain ⟨lt4, le4, -⟩ := pNm_b hout hE4
              have f4 : zFc ι ι4 := zFc.t f3 (by rw [hm4]; exact zFc.up (by omega))
              have a4 : ι4 21 4 = p4 := by rw [hm4, iup_s]
              have z4 : ι4 21 2 = ι 21 2 := by rw [hm4, iup_n _ (by omega), z3]
              have t4 : tb 28 ι4 = tb 28 ι := by rw [hm4, tb_up (by omega), t3]
              refine g_aload_n (x := 21) rfl dX4_readStreet_110 ?_
              refine g_bipush (x := 59) (by decide) dX4_readStreet_111 ?_
              refine i_callV mvX4_readSign tw_323 (ci := 4) (congrArg Prod.fst sh_21) rfl (by decide) (c_readSign (p := p4) (zqC_fc hq f4) a4 (by omega) (c := 59) (by decide)) (by decide) (st' := []) rfl (Nat.le_of_ble_eq_true rfl) rfl dX4_readStreet_113 (fun v_10 ι5 hq_113 => ?_)
              obtain ⟨b5, rfl, hb5⟩ := hq_113
              refine g_if_ne ⟨by omega, by omega⟩ (t := 121) dX4_readStreet_116 (by decide) (fun h116 => ?_) (fun h116 => ?_)
              · obtain ⟨-, p5, hE5, hm5⟩ := hb5.resolve_left (fun g => by omega)
                obtain ⟨lt5, ep5⟩ := pSg_b hout (by decide) hE5
                have f5 : zFc ι ι5 := zFc.t f4 (by rw [hm5]; exact zFc.up (by omega))
                have a5 : ι5 21 4 = p5 := by rw [hm5, iup_s]
                have z5 : ι5 21 2 = ι 21 2 := by rw [hm5, iup_n _ (by omega), z4]
                have t5 : tb 28 ι5 = tb 28 ι := by rw [hm5, tb_up (by omega), t4]
                refine g_aload_n (x := 28) rfl dX4_readStreet_121 ?_
                refine g_get fgX4_65 zcl_5 (congrArg Prod.fst sh_28) (by decide) rg_28_0 dX4_readStreet_122 ?_
                refine g_iload_n (x := (R 0)) rfl dX4_readStreet_125 ?_
                refine g_iload_n (x := x2) rfl dX4_readStreet_126 ?_
                obtain ⟨ι6, hι6⟩ : ∃ y_, y_ = iup ι5 29 (R 0) x2 := ⟨_, rfl⟩
                refine i_iast sh_29 (by decide) (by decide) (by omega) (by omega) (by decide) (ι1 := ι6) (by rw [hι6]; exact au_29) dX4_readStreet_127 ?_
                refine g_aload_n (x := 28) rfl dX4_readStreet_128 ?_
                refine g_get fgX4_68 zcl_5 (congrArg Prod.fst sh_28) (by decide) rg_28_1 dX4_readStreet_129 ?_
                refine g_iload_n (x := (R 0)) rfl dX4_readStreet_132 ?_
                refine g_iload (x := v2) rfl dX4_readStreet_133 ?_
                obtain ⟨ι7, hι7⟩ : ∃ y_, y_ = iup ι6 30 (R 0) v2 := ⟨_, rfl⟩
                refine i_iast sh_30 (by decide) (by decide) (by omega) (by omega) (by decide) (ι1 := ι7) (by rw [hι7]; exact au_30) dX4_readStreet_135 ?_
                refine g_aload_n (x := 28) rfl dX4_readStreet_136 ?_
                refine g_get fgX4_71 zcl_5 (congrArg Prod.fst sh_28) (by decide) rg_28_2 dX4_readStreet_137 ?_
                refine g_iload_n (x := (R 0)) rfl dX4_readStreet_140 ?_
                refine g_iload (x := v4) rfl dX4_readStreet_141 ?_
                obtain ⟨ι8, hι8⟩ : ∃ y_, y_ = iup ι7 31 (R 0) v4 := ⟨_, rfl⟩
                refine i_iast sh_31 (by decide) (by decide) (by omega) (by omega) (by decide) (ι1 := ι8) (by rw [hι8]; exact au_31) dX4_readStreet_143 ?_
                refine g_aload_n (x := 28) rfl dX4_readStreet_144 ?_
                refine g_dupR dX4_readStreet_145 ?_
                refine g_get fgX4_62 zcl_5 (congrArg Prod.fst sh_28) (by decide) ig_28_4 dX4_readStreet_146 ?_
                refine g_iconst (x := 1) rfl dX4_readStreet_149 ?_
                refine g_iadd dX4_readStreet_150 ?_
                have o8 : ι8 28 4 = R 0 := by rw [hι8, iup_n _ (by omega), hι7, iup_n _ (by omega), hι6, iup_n _ (by omega), hm5, iup_n _ (by omega), hm4, iup_n _ (by omega), hm3, iup_n _ (by omega), hm2, iup_n _ (by omega), hι1, iup_n _ (by omega), r0]
                rw [o8]
                obtain ⟨ι9, hι9⟩ : ∃ y_, y_ = iup ι8 28 4 ((R 0) + 1) := ⟨_, rfl⟩
                refine i_put fwX4_62 zcl_5 (congrArg Prod.fst sh_28) (by decide) (by decide) (ι1 := ι9) (by rw [hι9]; exact iu_28_4) dX4_readStreet_151 ?_
                refine g_iconst (x := 1) rfl dX4_readStreet_154 ?_
                exact i_zret rfl (by decide) dX4_readStreet_155 (⟨1, rfl, by rw [hι9, hι8, hι7, hι6]; exact zFc.t f5 (zFc.t (zFc.up (by omega)) (zFc.t (zFc.up (by omega)) (zFc.t (zFc.up (by omega)) (zFc.up (by omega))))), Or.inr ⟨rfl, p5, _, by unfold pSt; rw [if_neg (by omega), if_neg (by omega)]; exact ((zE_k hE2).trans ((zE_k hE3).trans ((zE_k hE4).trans ((zE_k hE5).trans rfl)))), by rw [hι9, iup_n _ (by omega), hι8, iup_n _ (by omega), hι7, iup_n _ (by omega), hι6, iup_n _ (by omega), z5], by rw [hι9, iup_n _ (by omega), hι8, iup_n _ (by omega), hι7, iup_n _ (by omega), hι6, iup_n _ (by omega), a5], by
      have e6 : tb 28 ι6 = ru (tb 28 ι) (6 + R 0) x2 := by rw [hι6, tp_up_k 28 ι5 (by omega) (by omega), tb_tp 28 (ru_tz (tb_tz 28 ι5) (by omega) (by omega)), t5]
      have e7 : tb 28 ι7 = ru (tb 28 ι6) (14 + R 0) v2 := by rw [hι7, tp_up_d 28 ι6 (by omega) (by omega), tb_tp 28 (ru_tz (tb_tz 28 ι6) (by omega) (by omega))]
      have e8 : tb 28 ι8 = ru (tb 28 ι7) (22 + R 0) v4 := by rw [hι8, tp_up_l 28 ι7 (by omega) (by omega), tb_tp 28 (ru_tz (tb_tz 28 ι7) (by omega) (by omega))]
      have e9 : tb 28 ι9 = ru (tb 28 ι8) 0 (R 0 + 1) := by rw [hι9, tp_up_s 28 ι8 (by decide) (by decide), tb_tp 28 (ru_tz (tb_tz 28 ι8) (by decide) (by decide))]; rfl
      rw [e9, e8, e7, e6, ex2]
      exact zVE_st hV (by omega) h1⟩⟩)
              · obtain ⟨-, w5, y5, hE5, hm5⟩ := hb5.resolve_right (fun g => by omega)
                refine g_iconst (x := 0) rfl dX4_readStreet_119 ?_
                exact i_zret rfl (by decide) dX4_readStreet_120 (⟨0, rfl, zFc.t f4 (by rw [hm5]; exact zFc.t (zFc.up (by omega)) (zFc.up (by omega))), Or.inl ⟨rfl, w5, y5, by unfold pSt; rw [if_neg (by omega), if_neg (by omega)]; exact ((zE_k hE2).trans ((zE_k hE3).trans ((zE_k hE4).trans (zE_e hE5)))), by rw [hm5, iup_n _ (by omega), iup_s], by rw [hm5, iup_s]⟩⟩)
          · obtain ⟨-, w3, y3, hE3, hm3⟩ := hb3.resolve_right (fun g => by omega)
            refine g_iconst (x := 0) rfl dX4_readStreet_94 ?_
            exact i_zret rfl (by decide) dX4_readStreet_95 (⟨0, rfl, zFc.t f2 (by rw [hm3]; exact zFc.t (zFc.up (by omega)) (zFc.up (by omega))), Or.inl ⟨rfl, w3, y3, by unfold pSt; rw [if_neg (by omega), if_neg (by omega)]; exact ((zE_k hE2).trans (zE_e hE3)), by rw [hm3, iup_n _ (by omega), iup_s], by rw [hm3, iup_s]⟩⟩)
      · refine g_aload_n (x := 21) rfl dX4_readStreet_55 ?_
        refine g_iconst (x := 3) rfl dX4_readStreet_56 ?_
        refine i_callV mvX4_fails tw_327 (ci := 4) (congrArg Prod.fst sh_21) rfl (by decide) (c_fails) (by decide) (st' := []) rfl (Nat.le_of_ble_eq_true rfl) rfl dX4_readStreet_57 (fun v_11 ι1 hq_57 => ?_)
        obtain ⟨rfl, hι1⟩ := hq_57
        rw [hat] at hι1
        exact i_zret rfl (by decide) dX4_readStreet_60 (⟨0, rfl, by rw [hι1]; exact zFc.t (zFc.up (by omega)) (zFc.up (by omega)), Or.inl ⟨rfl, 3, p, by unfold pSt; rw [if_neg (by omega), if_pos (by omega)], by rw [hι1, iup_n _ (by omega), iup_s], by rw [hι1, iup_s]⟩⟩)
    · refine g_aload_n (x := 21) rfl dX4_readStreet_38 ?_
      refine g_iconst (x := 1) rfl dX4_readStreet_39 ?_
      refine i_callV mvX4_fails tw_327 (ci := 4) (congrArg Prod.fst sh_21) rfl (by decide) (c_fails) (by decide) (st' := []) rfl (Nat.le_of_ble_eq_true rfl) rfl dX4_readStreet_40 (fun v_12 ι1 hq_40 => ?_)
      obtain ⟨rfl, hι1⟩ := hq_40
      rw [hat] at hι1
      exact i_zret rfl (by decide) dX4_readStreet_43 (⟨0, rfl, by rw [hι1]; exact zFc.t (zFc.up (by omega)) (zFc.up (by omega)), Or.inl ⟨rfl, 1, p, by unfold pSt; rw [if_pos (by omega)], by rw [hι1, iup_n _ (by omega), iup_s], by rw [hι1, iup_s]⟩⟩)

set_option maxRecDepth 100000 in
theorem c_readBeat {h : Int → Int} {L' p : Int} (hq : zqC h L' ι) (hat : ι 21 4 = p) (hp : 0 ≤ p ∧ p ≤ 110) {R : zr} (hV : zVE (tb 28 ι) R) (h0 : 1 ≤ R 0 ∧ R 0 ≤ 8) (h1 : 0 ≤ R 1 ∧ R 1 ≤ 8) : zCi l (zc D ad L z) mX4_readBeat 2 [zR 21, zR 28] ι (zRd ι (pBt h p R)) := by
  refine zCt_of (by decide) (Nat.le_of_ble_eq_true rfl) 2 rfl ?_
  obtain ⟨hl, hL, hin, hout⟩ := id hq
  have r0 := hV.1 0 (by decide) (by decide)
  rw [tb_0] at r0
  have r1 := hV.1 1 (by decide) (by decide)
  rw [tb_1] at r1
  refine g_aload_n (x := 21) rfl dX4_readBeat_0 ?_
  refine g_get fgX4_17 zcl_4 (congrArg Prod.fst sh_21) (by decide) ig_21_4 dX4_readBeat_1 ?_
  refine g_aload_n (x := 21) rfl dX4_readBeat_4 ?_
  refine g_get fgX4_13 zcl_4 (congrArg Prod.fst sh_21) (by decide) ig_21_1 dX4_readBeat_5 ?_
  rw [hat, hl]
  refine g_icmp_ge ⟨by omega, by omega⟩ ⟨by omega, by omega⟩ (t := 25) dX4_readBeat_8 (by decide) (fun h8 => ?_) (fun h8 => ?_)
  · refine g_aload_n (x := 21) rfl dX4_readBeat_25 ?_
    refine g_iconst (x := 1) rfl dX4_readBeat_26 ?_
    refine i_callV mvX4_fails tw_327 (ci := 4) (congrArg Prod.fst sh_21) rfl (by decide) (c_fails) (by decide) (st' := []) rfl (Nat.le_of_ble_eq_true rfl) rfl dX4_readBeat_27 (fun v_1 ι1 hq_27 => ?_)
    obtain ⟨rfl, hι1⟩ := hq_27
    rw [hat] at hι1
    have hne : h p ≠ 114 := by first | omega | (have := hout p (by omega); omega)
    exact i_zret rfl (by decide) dX4_readBeat_30 (⟨0, rfl, by rw [hι1]; exact zFc.t (zFc.up (by omega)) (zFc.up (by omega)), Or.inl ⟨rfl, 1, p, by unfold pBt; rw [if_pos hne], by rw [hι1, iup_n _ (by omega), iup_s], by rw [hι1, iup_s]⟩⟩)
  · refine g_aload_n (x := 21) rfl dX4_readBeat_11 ?_
    refine g_get fgX4_9 zcl_4 (congrArg Prod.fst sh_21) (by decide) rg_21_0 dX4_readBeat_12 ?_
    refine g_aload_n (x := 21) rfl dX4_readBeat_15 ?_
    refine g_get fgX4_17 zcl_4 (congrArg Prod.fst sh_21) (by decide) ig_21_4 dX4_readBeat_16 ?_
    rw [hat]
    obtain ⟨e1, e2, e3⟩ := hin p hp.1 (by omega)
    refine g_iald sh_22 (by decide) (by omega) (by omega) (by decide) ag_22 dX4_readBeat_19 ?_
    rw [← e1]
    refine g_bipush (x := 114) (by decide) dX4_readBeat_20 ?_
    refine g_icmp_eq ⟨by omega, by omega⟩ (by decide) (t := 31) dX4_readBeat_22 (by decide) (fun h22 => ?_) (fun h22 => ?_)
    · refine g_aload_n (x := 28) rfl dX4_readBeat_31 ?_
      refine g_get fgX4_77 zcl_5 (congrArg Prod.fst sh_28) (by decide) ig_28_5 dX4_readBeat_32 ?_
      rw [r1]
      refine g_istore_n (ls' := [some (zR 21), some (zR 28), some (zI (R 1)), none]) dX4_readBeat_35 (by decide) rfl ?_
      refine g_iload_n (x := (R 1)) rfl dX4_readBeat_36 ?_
      refine g_bipush (x := 8) (by decide) dX4_readBeat_37 ?_
      refine g_icmp_lt ⟨by omega, by omega⟩ (by decide) (t := 48) dX4_readBeat_39 (by decide) (fun h39 => ?_) (fun h39 => ?_)
      · refine g_aload_n (x := 21) rfl dX4_readBeat_48 ?_
        refine g_dupR dX4_readBeat_49 ?_
        refine g_get fgX4_17 zcl_4 (congrArg Prod.fst sh_21) (by decide) ig_21_4 dX4_readBeat_50 ?_
        refine g_iconst (x := 1) rfl dX4_readBeat_53 ?_
        refine g_iadd dX4_readBeat_54 ?_
        rw [hat]
        obtain ⟨ι1, hι1⟩ : ∃ y_, y_ = iup ι 21 4 ((p) + 1) := ⟨_, rfl⟩
        refine i_put fwX4_17 zcl_4 (congrArg Prod.fst sh_21) (by decide) (by decide) (ι1 := ι1) (by rw [hι1]; exact iu_21_4) dX4_readBeat_55 ?_
        have f1 : zFc ι ι1 := by rw [hι1]; exact zFc.up (by omega)
        have a1 : ι1 21 4 = p + 1 := by rw [hι1, iup_s]
        have z1 : ι1 21 2 = ι 21 2 := by rw [hι1, iup_n _ (by omega)]
        have t1 : tb 28 ι1 = tb 28 ι := by rw [hι1, tb_up (by omega)]
        have r01 : ι1 28 4 = R 0 := by rw [hι1, iup_n _ (by omega), r0]
        refine g_aload_n (x := 21) rfl dX4_readBeat_58 ?_
        refine g_aload_n (x := 28) rfl dX4_readBeat_59 ?_
        refine g_get fgX4_62 zcl_5 (congrArg Prod.fst sh_28) (by decide) ig_28_4 dX4_readBeat_60 ?_
        rw [r01]
        refine g_iconst (x := 1) rfl dX4_readBeat_63 ?_
        refine g_isub dX4_readBeat_64 ?_
        refine i_callV mvX4_readNumber tw_331 (ci := 4) (congrArg Prod.fst sh_21) rfl (by decide) (c_readNumber (p := p + 1) (zqC_fc hq f1) a1 (by omega) (m := R 0 - 1) (by omega)) (by decide) (st' := []) rfl (Nat.le_of_ble_eq_true rfl) rfl dX4_readBeat_65 (fun v_2 ι2 hq_65 => ?_)
        obtain ⟨v2, rfl, hv2⟩ := hq_65
        have vb2 : -1 ≤ v2 ∧ v2 ≤ 100 := by
          rcases hv2 with g | ⟨g, q, g1, -⟩
          · omega
          · have := (pNm_b hout g1).2.2.2; omega
        refine g_istore_n (ls' := [some (zR 21), some (zR 28), some (zI (R 1)), some (zI v2)]) dX4_readBeat_68 (by decide) rfl ?_
        refine g_iload_n (x := v2) rfl dX4_readBeat_69 ?_
        refine g_iconst (x := -1) rfl dX4_readBeat_70 ?_
        refine g_icmp_eq ⟨by omega, by omega⟩ (by decide) (t := 83) dX4_readBeat_71 (by decide) (fun h71 => ?_) (fun h71 => ?_)
        · obtain ⟨-, w2, y2, hE2, hm2⟩ := hv2.resolve_right (fun g => by omega)
          refine g_iconst (x := 0) rfl dX4_readBeat_83 ?_
          exact i_zret rfl (by decide) dX4_readBeat_84 (⟨0, rfl, zFc.t f1 (by rw [hm2]; exact zFc.t (zFc.up (by omega)) (zFc.up (by omega))), Or.inl ⟨rfl, w2, y2, by unfold pBt; rw [if_neg (fun g => g (by omega)), if_neg (by omega)]; exact zE_e hE2, by rw [hm2, iup_n _ (by omega), iup_s], by rw [hm2, iup_s]⟩⟩)
        · obtain ⟨-, p2, hE2, hm2⟩ := hv2.resolve_left (fun g => by omega)
          obtain ⟨lt2, le2, -⟩ := pNm_b hout hE2
          have f2 : zFc ι ι2 := zFc.t f1 (by rw [hm2]; exact zFc.up (by omega))
          have a2 : ι2 21 4 = p2 := by rw [hm2, iup_s]
          have z2 : ι2 21 2 = ι 21 2 := by rw [hm2, iup_n _ (by omega), z1]
          have t2 : tb 28 ι2 = tb 28 ι := by rw [hm2, tb_up (by omega), t1]
          refine g_aload_n (x := 21) rfl dX4_readBeat_74 ?_
          refine g_bipush (x := 59) (by decide) dX4_readBeat_75 ?_
          refine i_callV mvX4_readSign tw_323 (ci := 4) (congrArg Prod.fst sh_21) rfl (by decide) (c_readSign (p := p2) (zqC_fc hq f2) a2 (by omega) (c := 59) (by decide)) (by decide) (st' := []) rfl (Nat.le_of_ble_eq_true rfl) rfl dX4_readBeat_77 (fun v_3 ι3 hq_77 => ?_)
          obtain ⟨b3, rfl, hb3⟩ := hq_77
          refine g_if_ne ⟨by omega, by omega⟩ (t := 85) dX4_readBeat_80 (by decide) (fun h80 => ?_) (fun h80 => ?_)
          · obtain ⟨-, p3, hE3, hm3⟩ := hb3.resolve_left (fun g => by omega)
            obtain ⟨lt3, ep3⟩ := pSg_b hout (by decide) hE3
            have f3 : zFc ι ι3 := zFc.t f2 (by rw [hm3]; exact zFc.up (by omega))
            have a3 : ι3 21 4 = p3 := by rw [hm3, iup_s]
            have z3 : ι3 21 2 = ι 21 2 := by rw [hm3, iup_n _ (by omega), z2]
            have t3 : tb 28 ι3 = tb 28 ι := by rw [hm3, tb_up (by omega), t2]
            refine g_aload_n (x := 28) rfl dX4_readBeat_85 ?_
            refine g_get fgX4_80 zcl_5 (congrArg Prod.fst sh_28) (by decide) rg_28_3 dX4_readBeat_86 ?_
            refine g_iload_n (x := (R 1)) rfl dX4_readBeat_89 ?_
            refine g_iload_n (x := v2) rfl dX4_readBeat_90 ?_
            obtain ⟨ι4, hι4⟩ : ∃ y_, y_ = iup ι3 32 (R 1) v2 := ⟨_, rfl⟩
            refine i_iast sh_32 (by decide) (by decide) (by omega) (by omega) (by decide) (ι1 := ι4) (by rw [hι4]; exact au_32) dX4_readBeat_91 ?_
            refine g_aload_n (x := 28) rfl dX4_readBeat_92 ?_
            refine g_dupR dX4_readBeat_93 ?_
            refine g_get fgX4_77 zcl_5 (congrArg Prod.fst sh_28) (by decide) ig_28_5 dX4_readBeat_94 ?_
            refine g_iconst (x := 1) rfl dX4_readBeat_97 ?_
            refine g_iadd dX4_readBeat_98 ?_
            have o4 : ι4 28 5 = R 1 := by rw [hι4, iup_n _ (by omega), hm3, iup_n _ (by omega), hm2, iup_n _ (by omega), hι1, iup_n _ (by omega), r1]
            rw [o4]
            obtain ⟨ι5, hι5⟩ : ∃ y_, y_ = iup ι4 28 5 ((R 1) + 1) := ⟨_, rfl⟩
            refine i_put fwX4_77 zcl_5 (congrArg Prod.fst sh_28) (by decide) (by decide) (ι1 := ι5) (by rw [hι5]; exact iu_28_5) dX4_readBeat_99 ?_
            refine g_iconst (x := 1) rfl dX4_readBeat_102 ?_
            exact i_zret rfl (by decide) dX4_readBeat_103 (⟨1, rfl, by rw [hι5, hι4]; exact zFc.t f3 (zFc.t (zFc.up (by omega)) (zFc.up (by omega))), Or.inr ⟨rfl, p3, _, by unfold pBt; rw [if_neg (fun g => g (by omega)), if_neg (by omega)]; exact ((zE_k hE2).trans ((zE_k hE3).trans rfl)), by rw [hι5, iup_n _ (by omega), hι4, iup_n _ (by omega), z3], by rw [hι5, iup_n _ (by omega), hι4, iup_n _ (by omega), a3], by
      have e4 : tb 28 ι4 = ru (tb 28 ι) (30 + R 1) v2 := by rw [hι4, tp_up_w 28 ι3 (by omega) (by omega), tb_tp 28 (ru_tz (tb_tz 28 ι3) (by omega) (by omega)), t3]
      have e5 : tb 28 ι5 = ru (tb 28 ι4) 1 (R 1 + 1) := by rw [hι5, tp_up_s 28 ι4 (by decide) (by decide), tb_tp 28 (ru_tz (tb_tz 28 ι4) (by decide) (by decide))]; rfl
      rw [e5, e4]
      exact zVE_bt hV (by omega) (by omega)⟩⟩)
          · obtain ⟨-, w3, y3, hE3, hm3⟩ := hb3.resolve_right (fun g => by omega)
            refine g_iconst (x := 0) rfl dX4_readBeat_83 ?_
            exact i_zret rfl (by decide) dX4_readBeat_84 (⟨0, rfl, zFc.t f2 (by rw [hm3]; exact zFc.t (zFc.up (by omega)) (zFc.up (by omega))), Or.inl ⟨rfl, w3, y3, by unfold pBt; rw [if_neg (fun g => g (by omega)), if_neg (by omega)]; exact ((zE_k hE2).trans (zE_e hE3)), by rw [hm3, iup_n _ (by omega), iup_s], by rw [hm3, iup_s]⟩⟩)
      · refine g_aload_n (x := 21) rfl dX4_readBeat_42 ?_
        refine g_iconst (x := 3) rfl dX4_readBeat_43 ?_
        refine i_callV mvX4_fails tw_327 (ci := 4) (congrArg Prod.fst sh_21) rfl (by decide) (c_fails) (by decide) (st' := []) rfl (Nat.le_of_ble_eq_true rfl) rfl dX4_readBeat_44 (fun v_4 ι1 hq_44 => ?_)
        obtain ⟨rfl, hι1⟩ := hq_44
        rw [hat] at hι1
        exact i_zret rfl (by decide) dX4_readBeat_47 (⟨0, rfl, by rw [hι1]; exact zFc.t (zFc.up (by omega)) (zFc.up (by omega)), Or.inl ⟨rfl, 3, p, by unfold pBt; rw [if_neg (fun g => g (by omega)), if_pos (by omega)], by rw [hι1, iup_n _ (by omega), iup_s], by rw [hι1, iup_s]⟩⟩)
    · refine g_aload_n (x := 21) rfl dX4_readBeat_25 ?_
      refine g_iconst (x := 1) rfl dX4_readBeat_26 ?_
      refine i_callV mvX4_fails tw_327 (ci := 4) (congrArg Prod.fst sh_21) rfl (by decide) (c_fails) (by decide) (st' := []) rfl (Nat.le_of_ble_eq_true rfl) rfl dX4_readBeat_27 (fun v_5 ι1 hq_27 => ?_)
      obtain ⟨rfl, hι1⟩ := hq_27
      rw [hat] at hι1
      have hne : h p ≠ 114 := by first | omega | (have := hout p (by omega); omega)
      exact i_zret rfl (by decide) dX4_readBeat_30 (⟨0, rfl, by rw [hι1]; exact zFc.t (zFc.up (by omega)) (zFc.up (by omega)), Or.inl ⟨rfl, 1, p, by unfold pBt; rw [if_pos hne], by rw [hι1, iup_n _ (by omega), iup_s], by rw [hι1, iup_s]⟩⟩)

end
