section
variable {l : Launch} {D : va_G} {ad : Nat → Nat} {L z : Nat} {ι : zi}
/-- of the reader's steps: the state behind, the place, the row -/
def zAt (ι : zi) (h : Int → Int) (L' : Int) (ι' : zi) (p : Int) : Prop := zFr ι ι' ∧ zqM h L' ι' ∧ ι' 178 4 = ι 178 4 ∧ ι' 178 10 = p ∧ 0 ≤ p ∧ p ≤ L'
theorem zAt.fr {ι ι' : zi} {h : Int → Int} {L' p : Int} (A : zAt ι h L' ι' p) : zFr ι ι' := A.1
theorem zAt.q {ι ι' : zi} {h : Int → Int} {L' p : Int} (A : zAt ι h L' ι' p) : zqM h L' ι' := A.2.1
theorem zAt.f {ι ι' : zi} {h : Int → Int} {L' p : Int} (A : zAt ι h L' ι' p) : ι' 178 4 = ι 178 4 := A.2.2.1
theorem zAt.a {ι ι' : zi} {h : Int → Int} {L' p : Int} (A : zAt ι h L' ι' p) : ι' 178 10 = p := A.2.2.2.1
theorem zAt.p0 {ι ι' : zi} {h : Int → Int} {L' p : Int} (A : zAt ι h L' ι' p) : 0 ≤ p := A.2.2.2.2.1
theorem zAt.p1 {ι ι' : zi} {h : Int → Int} {L' p : Int} (A : zAt ι h L' ι' p) : p ≤ L' := A.2.2.2.2.2
theorem zAt.sg {ι ι' ι2 : zi} {h : Int → Int} {L' p q c : Int} (A : zAt ι h L' ι' p) (hc : 0 ≤ c) (e : pSg h c p = .ok q) (f1 : zFr ι' ι2) (f2 : ι2 178 4 = ι' 178 4) (f3 : ι2 178 10 = q) : zAt ι h L' ι2 q := by
  have e1 := pSg_ok e
  have e2 := zqM_n A.q (p := p) (by omega)
  have := A.p0
  exact ⟨A.fr.t f1, f1.q A.q, f2.trans A.f, f3, by omega, by omega⟩
theorem zAt.nm {ι ι' ι2 : zi} {h : Int → Int} {L' p q v hi : Int} (A : zAt ι h L' ι' p) (e : pNm h hi p = .ok (v, q)) (f1 : zFr ι' ι2) (f2 : ι2 178 4 = ι' 178 4) (f3 : ι2 178 10 = q) : zAt ι h L' ι2 q := by
  obtain ⟨e1, e2, e3⟩ := pNm_ok e
  have := A.p0
  have g1 := zqM_n A.q (p := p) (by unfold zdg at e1; omega)
  refine ⟨A.fr.t f1, f1.q A.q, f2.trans A.f, f3, by omega, ?_⟩
  rcases e2 with e2 | ⟨e2, e4⟩
  · omega
  · have := zqM_n A.q (p := p + 1) (by unfold zdg at e2; omega)
    omega
theorem zAt.up {ι ι' : zi} {h : Int → Int} {L' p : Int} (A : zAt ι h L' ι' p) {x v : Int} (hx : 152 ≤ x ∧ x < 190) : zAt ι h L' (iup ι' 179 x v) p := by
  have f1 : zFr ι' (iup ι' 179 x v) := zFr.u (Or.inr ⟨rfl, hx⟩)
  exact ⟨A.fr.t f1, f1.q A.q, by rw [iup_n _ (by omega)]; exact A.f, by rw [iup_n _ (by omega)]; exact A.a, A.p0, A.p1⟩
theorem zAt.st {ι ι' : zi} {h : Int → Int} {L' p : Int} (A : zAt ι h L' ι' p) (h1 : p < L') : zAt ι h L' (iup ι' 178 10 (p + 1)) (p + 1) := by
  have f1 : zFr ι' (iup ι' 178 10 (p + 1)) := zFr.u (Or.inl ⟨rfl, by omega⟩)
  have := A.p0
  exact ⟨A.fr.t f1, f1.q A.q, by rw [iup_n _ (by omega)]; exact A.f, by rw [iup_s], by omega, by omega⟩
theorem wb_u2 {ι : zi} {i x v : Int} (hx : x = 152 + i) (h0 : 0 ≤ i) (h1 : i < 38) : wb 152 (iup ι 179 x v) = ru (wb 152 ι) i v := by
  rw [← wp_wb 152 ι, wp_up 152 _ _ hx h0 h1, wb_wp 152 (ru_tz (wb_tz 152 _) h0 h1), wp_wb]
theorem w152 (ι : zi) {i : Int} (h0 : 0 ≤ i) (h1 : i < 38) : ι 179 (152 + i) = wb 152 ι i := (wb_i 152 ι h0 h1).symm
set_option maxRecDepth 100000 in
theorem c_takesLaw {h : Int → Int} {L' : Int} (hq : zqM h L' ι) (hp : 0 ≤ ι 178 10 ∧ ι 178 10 ≤ L') : zCi l (zc D ad L z) mX7_takesLaw 2 [zR 178] ι (fun v ι' => ∃ b, v = some (zI b) ∧ zOk ι (pLw h (ι 178 10) (wb 152 ι)) b ι') := by
  refine zCt_of (by decide) (Nat.le_of_ble_eq_true rfl) 0 rfl ?_
  have A0 : zAt ι h L' ι (ι 178 10) := ⟨zFr.r ι, hq, rfl, rfl, hp.1, hp.2⟩
  refine g_aload_n (x := 178) rfl dX7_takesLaw_0 ?_
  refine g_bipush (x := 100) (by decide) dX7_takesLaw_1 ?_
  refine i_callV mvX7_takes tw_920 (ci := 7) (congrArg Prod.fst sh_178) rfl (by decide) (c_takes (c := 100) A0.q (by rw [A0.a]; exact ⟨A0.p0, A0.p1⟩) (by decide)) (by decide) (st' := []) rfl (Nat.le_of_ble_eq_true rfl) rfl dX7_takesLaw_3 (fun v_1 ι1 hq_3 => ?_)
  obtain ⟨bι1, rfl, hbι1⟩ := hq_3
  rw [A0.a] at hbι1
  have hbι1' : bι1 = 0 ∨ bι1 = 1 := by rcases hbι1.2 with g | g; exact Or.inl g.1; exact Or.inr g.1
  refine g_if_eq ⟨by omega, by omega⟩ (t := 18) dX7_takesLaw_6 (by decide) (fun h6 => ?_) (fun h6 => ?_)
  · obtain ⟨hfι1, hb⟩ := hbι1
    rcases hb with ⟨-, w9, q9, heι1, hF4, hF11⟩ | ⟨hb0, -⟩
    rotate_left
    · exfalso; omega
    refine g_iconst (x := 0) rfl dX7_takesLaw_18 ?_
    exact i_zret rfl (by decide) dX7_takesLaw_19 (⟨0, rfl, hfι1, Or.inl ⟨rfl, w9, q9, by unfold pLw; rw [heι1]; rfl, hF4, hF11⟩⟩)
  · obtain ⟨hfι1, hb⟩ := hbι1
    rcases hb with ⟨hb0, -⟩ | ⟨-, p1, heι1, h4ι1, haι1, hwι1⟩
    · exfalso; omega
    have A1 := A0.sg (by decide) heι1 hfι1 h4ι1 haι1
    refine g_aload_n (x := 178) rfl dX7_takesLaw_9 ?_
    refine g_iconst (x := 0) rfl dX7_takesLaw_10 ?_
    refine g_iconst (x := 3) rfl dX7_takesLaw_11 ?_
    refine i_callV mvX7_takesNumber tw_932 (ci := 7) (congrArg Prod.fst sh_178) rfl (by decide) (c_takesNumber (hi := 3) A1.q (by rw [A1.a]; exact ⟨A1.p0, A1.p1⟩) (by omega)) (by decide) (st' := []) rfl (Nat.le_of_ble_eq_true rfl) rfl dX7_takesLaw_12 (fun v_2 ι2 hq_12 => ?_)
    obtain ⟨bι2, rfl, hbι2⟩ := hq_12
    rw [A1.a] at hbι2
    have hbι2' : bι2 = 0 ∨ bι2 = 1 := by rcases hbι2.2 with g | g; exact Or.inl g.1; exact Or.inr g.1
    refine g_if_ne ⟨by omega, by omega⟩ (t := 20) dX7_takesLaw_15 (by decide) (fun h15 => ?_) (fun h15 => ?_)
    · obtain ⟨hfι2, hb⟩ := hbι2
      rcases hb with ⟨hb0, -⟩ | ⟨-, a, p2, heι2, h4ι2, haι2, hvι2, hwι2⟩
      · exfalso; omega
      have A2 := A1.nm heι2 hfι2 h4ι2 haι2
      refine g_aload_n (x := 178) rfl dX7_takesLaw_20 ?_
      refine g_get fgX7_7 zcl_7 (congrArg Prod.fst sh_178) (by decide) rg_178_0 dX7_takesLaw_21 ?_
      refine g_sipush (x := 154) (by decide) dX7_takesLaw_24 ?_
      refine g_aload_n (x := 178) rfl dX7_takesLaw_27 ?_
      refine g_get fgX7_87 zcl_7 (congrArg Prod.fst sh_178) (by decide) ig_178_12 dX7_takesLaw_28 ?_
      rw [hvι2]
      obtain ⟨ι3, hι3⟩ : ∃ y_, y_ = iup ι2 179 154 a := ⟨_, rfl⟩
      refine i_iast sh_179 (by decide) (by decide) (by omega) (by omega) (by decide) (ι1 := ι3) (by rw [hι3]; exact au_179) dX7_takesLaw_31 ?_
      have A3 := A2.up (x := 154) (v := a) (by decide)
      rw [← hι3] at A3
      have W3 : wb 152 ι3 = ru (wb 152 ι) 2 a := by rw [hι3, wb_u2 (i := 2) (by decide) (by decide) (by decide), hwι2, hwι1]
      refine g_aload_n (x := 178) rfl dX7_takesLaw_32 ?_
      refine g_bipush (x := 44) (by decide) dX7_takesLaw_33 ?_
      refine i_callV mvX7_takes tw_920 (ci := 7) (congrArg Prod.fst sh_178) rfl (by decide) (c_takes (c := 44) A3.q (by rw [A3.a]; exact ⟨A3.p0, A3.p1⟩) (by decide)) (by decide) (st' := []) rfl (Nat.le_of_ble_eq_true rfl) rfl dX7_takesLaw_35 (fun v_3 ι4 hq_35 => ?_)
      obtain ⟨bι4, rfl, hbι4⟩ := hq_35
      rw [A3.a] at hbι4
      have hbι4' : bι4 = 0 ∨ bι4 = 1 := by rcases hbι4.2 with g | g; exact Or.inl g.1; exact Or.inr g.1
      refine g_if_eq ⟨by omega, by omega⟩ (t := 51) dX7_takesLaw_38 (by decide) (fun h38 => ?_) (fun h38 => ?_)
      · obtain ⟨hfι4, hb⟩ := hbι4
        rcases hb with ⟨-, w9, q9, heι4, hF4, hF11⟩ | ⟨hb0, -⟩
        rotate_left
        · exfalso; omega
        refine g_iconst (x := 0) rfl dX7_takesLaw_51 ?_
        exact i_zret rfl (by decide) dX7_takesLaw_52 (⟨0, rfl, A3.fr.t hfι4, Or.inl ⟨rfl, w9, q9, by unfold pLw; rw [heι1]; show (pNm h 3 p1 >>= _) = _; rw [heι2]; show (pSg h 44 p2 >>= _) = _; rw [heι4]; rfl, hF4, hF11⟩⟩)
      · obtain ⟨hfι4, hb⟩ := hbι4
        rcases hb with ⟨hb0, -⟩ | ⟨-, p4, heι4, h4ι4, haι4, hwι4⟩
        · exfalso; omega
        have A4 := A3.sg (by decide) heι4 hfι4 h4ι4 haι4
        refine g_aload_n (x := 178) rfl dX7_takesLaw_41 ?_
        refine g_iconst (x := 0) rfl dX7_takesLaw_42 ?_
        refine g_bipush (x := 9) (by decide) dX7_takesLaw_43 ?_
        refine i_callV mvX7_takesNumber tw_932 (ci := 7) (congrArg Prod.fst sh_178) rfl (by decide) (c_takesNumber (hi := 9) A4.q (by rw [A4.a]; exact ⟨A4.p0, A4.p1⟩) (by omega)) (by decide) (st' := []) rfl (Nat.le_of_ble_eq_true rfl) rfl dX7_takesLaw_45 (fun v_4 ι5 hq_45 => ?_)
        obtain ⟨bι5, rfl, hbι5⟩ := hq_45
        rw [A4.a] at hbι5
        have hbι5' : bι5 = 0 ∨ bι5 = 1 := by rcases hbι5.2 with g | g; exact Or.inl g.1; exact Or.inr g.1
        refine g_if_ne ⟨by omega, by omega⟩ (t := 53) dX7_takesLaw_48 (by decide) (fun h48 => ?_) (fun h48 => ?_)
        · obtain ⟨hfι5, hb⟩ := hbι5
          rcases hb with ⟨hb0, -⟩ | ⟨-, b, p5, heι5, h4ι5, haι5, hvι5, hwι5⟩
          · exfalso; omega
          have A5 := A4.nm heι5 hfι5 h4ι5 haι5
          refine g_aload_n (x := 178) rfl dX7_takesLaw_53 ?_
          refine g_get fgX7_7 zcl_7 (congrArg Prod.fst sh_178) (by decide) rg_178_0 dX7_takesLaw_54 ?_
          refine g_sipush (x := 155) (by decide) dX7_takesLaw_57 ?_
          refine g_aload_n (x := 178) rfl dX7_takesLaw_60 ?_
          refine g_get fgX7_87 zcl_7 (congrArg Prod.fst sh_178) (by decide) ig_178_12 dX7_takesLaw_61 ?_
          rw [hvι5]
          obtain ⟨ι6, hι6⟩ : ∃ y_, y_ = iup ι5 179 155 b := ⟨_, rfl⟩
          refine i_iast sh_179 (by decide) (by decide) (by omega) (by omega) (by decide) (ι1 := ι6) (by rw [hι6]; exact au_179) dX7_takesLaw_64 ?_
          have A6 := A5.up (x := 155) (v := b) (by decide)
          rw [← hι6] at A6
          have W6 : wb 152 ι6 = ru (ru (wb 152 ι) 2 a) 3 b := by rw [hι6, wb_u2 (i := 3) (by decide) (by decide) (by decide), hwι5, hwι4, W3]
          refine g_aload_n (x := 178) rfl dX7_takesLaw_65 ?_
          refine g_bipush (x := 59) (by decide) dX7_takesLaw_66 ?_
          refine i_callV mvX7_takes tw_920 (ci := 7) (congrArg Prod.fst sh_178) rfl (by decide) (c_takes (c := 59) A6.q (by rw [A6.a]; exact ⟨A6.p0, A6.p1⟩) (by decide)) (by decide) (st' := []) rfl (Nat.le_of_ble_eq_true rfl) rfl dX7_takesLaw_68 (fun v_5 ι7 hq_68 => ?_)
          obtain ⟨bι7, rfl, hbι7⟩ := hq_68
          rw [A6.a] at hbι7
          have hbι7' : bι7 = 0 ∨ bι7 = 1 := by rcases hbι7.2 with g | g; exact Or.inl g.1; exact Or.inr g.1
          exact i_zret rfl hbι7' dX7_takesLaw_71 (⟨bι7, rfl, A6.fr.t hbι7.1, by
      have pre : pLw h (ι 178 10) (wb 152 ι) = (pSg h 59 p5 >>= fun p => pure (p, ru (ru (wb 152 ι) 2 a) 3 b)) := by unfold pLw; rw [heι1]; show (pNm h 3 p1 >>= _) = _; rw [heι2]; show (pSg h 44 p2 >>= _) = _; rw [heι4]; show (pNm h 9 p4 >>= _) = _; rw [heι5]; rfl
      rcases hbι7.2 with ⟨g0, w9, q9, g1, g2, g3⟩ | ⟨g0, q9, g1, g2, g3, g4⟩
      · exact Or.inl ⟨g0, w9, q9, by rw [pre, g1]; rfl, g2, g3⟩
      · exact Or.inr ⟨g0, q9, _, by rw [pre, g1]; rfl, g2.trans A6.f, g3, by rw [g4, W6]⟩⟩)
        · obtain ⟨hfι5, hb⟩ := hbι5
          rcases hb with ⟨-, w9, q9, heι5, hF4, hF11⟩ | ⟨hb0, -⟩
          rotate_left
          · exfalso; omega
          refine g_iconst (x := 0) rfl dX7_takesLaw_51 ?_
          exact i_zret rfl (by decide) dX7_takesLaw_52 (⟨0, rfl, A4.fr.t hfι5, Or.inl ⟨rfl, w9, q9, by unfold pLw; rw [heι1]; show (pNm h 3 p1 >>= _) = _; rw [heι2]; show (pSg h 44 p2 >>= _) = _; rw [heι4]; show (pNm h 9 p4 >>= _) = _; rw [heι5]; rfl, hF4, hF11⟩⟩)
    · obtain ⟨hfι2, hb⟩ := hbι2
      rcases hb with ⟨-, w9, q9, heι2, hF4, hF11⟩ | ⟨hb0, -⟩
      rotate_left
      · exfalso; omega
      refine g_iconst (x := 0) rfl dX7_takesLaw_18 ?_
      exact i_zret rfl (by decide) dX7_takesLaw_19 (⟨0, rfl, A1.fr.t hfι2, Or.inl ⟨rfl, w9, q9, by unfold pLw; rw [heι1]; show (pNm h 3 p1 >>= _) = _; rw [heι2]; rfl, hF4, hF11⟩⟩)

set_option maxRecDepth 100000 in
theorem c_takesStreet {h : Int → Int} {L' : Int} (hq : zqM h L' ι) (hp : 0 ≤ ι 178 10 ∧ ι 178 10 ≤ L') (hR : 0 ≤ wb 152 ι 0 ∧ wb 152 ι 0 ≤ 8) : zCi l (zc D ad L z) mX7_takesStreet 2 [zR 178] ι (fun v ι' => ∃ b, v = some (zI b) ∧ zOk ι (pSt h (ι 178 10) (wb 152 ι)) b ι') := by
  refine zCt_of (by decide) (Nat.le_of_ble_eq_true rfl) 2 rfl ?_
  have A0 : zAt ι h L' ι (ι 178 10) := ⟨zFr.r ι, hq, rfl, rfl, hp.1, hp.2⟩
  have hhb := zqM_b hq hp.1
  have ek := w152 ι (i := 0) (by decide) (by decide)
  rw [Int.add_zero] at ek
  refine g_aload_n (x := 178) rfl dX7_takesStreet_0 ?_
  refine g_get fgX7_7 zcl_7 (congrArg Prod.fst sh_178) (by decide) rg_178_0 dX7_takesStreet_1 ?_
  refine g_sipush (x := 152) (by decide) dX7_takesStreet_4 ?_
  refine g_iald sh_179 (by decide) (by omega) (by omega) (by decide) ag_179 dX7_takesStreet_7 ?_
  rw [ek]
  refine g_istore_n (ls' := [some (zR 178), some (zI (wb 152 ι 0)), none]) dX7_takesStreet_8 (by decide) rfl ?_
  refine g_aload_n (x := 178) rfl dX7_takesStreet_9 ?_
  refine i_callVp mvX7_here tw_924 (ci := 7) (congrArg Prod.fst sh_178) rfl (by decide) (c_here hq hp) (by decide) (st' := []) rfl (Nat.le_of_ble_eq_true rfl) rfl dX7_takesStreet_10 ?_
  refine i_callSp msX7_kindOf tw_942 (c_kindOf ⟨by omega, by omega⟩) (by decide) (st' := []) rfl (Nat.le_of_ble_eq_true rfl) rfl dX7_takesStreet_13 ?_
  refine g_istore_n (ls' := [some (zR 178), some (zI (wb 152 ι 0)), some (zI (zkd (h (ι 178 10))))]) dX7_takesStreet_16 (by decide) rfl ?_
  have hkb : 0 ≤ zkd (h (ι 178 10)) ∧ zkd (h (ι 178 10)) ≤ 5 := by unfold zkd; (repeat' split) <;> omega
  refine g_iload_n (x := (zkd (h (ι 178 10)))) rfl dX7_takesStreet_17 ?_
  refine g_if_ne ⟨by omega, by omega⟩ (t := 31) dX7_takesStreet_18 (by decide) (fun h18 => ?_) (fun h18 => ?_)
  · refine g_iload_n (x := (wb 152 ι 0)) rfl dX7_takesStreet_31 ?_
    refine g_bipush (x := 8) (by decide) dX7_takesStreet_32 ?_
    refine g_icmp_ne ⟨by omega, by omega⟩ (by decide) (t := 47) dX7_takesStreet_34 (by decide) (fun h34 => ?_) (fun h34 => ?_)
    · have pre0 : pSt h (ι 178 10) (wb 152 ι) = (pNm h 20 (ι 178 10 + 1) >>= fun x => pSg h 44 x.2 >>= fun q => pNm h 60 q >>= fun y => pSg h 59 y.2 >>= fun q => pure (q, ru (ru (ru (ru (wb 152 ι) (6 + wb 152 ι 0) (zkd (h (ι 178 10)))) (14 + wb 152 ι 0) x.1) (22 + wb 152 ι 0) y.1) 0 (wb 152 ι 0 + 1))) := by unfold pSt; rw [if_neg (by omega), if_neg (by omega)]
      have hlt : ι 178 10 < L' := zqM_n hq (by by_cases g : 0 ≤ h (ι 178 10); exact g; exfalso; apply h18; unfold zkd; (repeat' split) <;> omega)
      refine g_aload_n (x := 178) rfl dX7_takesStreet_47 ?_
      refine g_dupR dX7_takesStreet_48 ?_
      refine g_get fgX7_70 zcl_7 (congrArg Prod.fst sh_178) (by decide) ig_178_10 dX7_takesStreet_49 ?_
      refine g_iconst (x := 1) rfl dX7_takesStreet_52 ?_
      refine g_iadd dX7_takesStreet_53 ?_
      obtain ⟨ι1, hι1⟩ : ∃ y_, y_ = iup ι 178 10 ((ι 178 10) + 1) := ⟨_, rfl⟩
      refine i_put fwX7_70 zcl_7 (congrArg Prod.fst sh_178) (by decide) (by decide) (ι1 := ι1) (by rw [hι1]; exact iu_178_10) dX7_takesStreet_54 ?_
      have A1 := A0.st hlt
      rw [← hι1] at A1
      have W1 : wb 152 ι1 = wb 152 ι := by rw [hι1, wb_up (Or.inl (by decide))]
      refine g_aload_n (x := 178) rfl dX7_takesStreet_57 ?_
      refine g_get fgX7_7 zcl_7 (congrArg Prod.fst sh_178) (by decide) rg_178_0 dX7_takesStreet_58 ?_
      refine g_sipush (x := 158) (by decide) dX7_takesStreet_61 ?_
      refine g_iload_n (x := (wb 152 ι 0)) rfl dX7_takesStreet_64 ?_
      refine g_iadd dX7_takesStreet_65 ?_
      refine g_iload_n (x := (zkd (h (ι 178 10)))) rfl dX7_takesStreet_66 ?_
      obtain ⟨ι3, hι3⟩ : ∃ y_, y_ = iup ι1 179 (158 + (wb 152 ι 0)) (zkd (h (ι 178 10))) := ⟨_, rfl⟩
      refine i_iast sh_179 (by decide) (by decide) (by omega) (by omega) (by decide) (ι1 := ι3) (by rw [hι3]; exact au_179) dX7_takesStreet_67 ?_
      have A3 := A1.up (x := 158 + wb 152 ι 0) (v := zkd (h (ι 178 10))) (by omega)
      rw [← hι3] at A3
      have W3 : wb 152 ι3 = ru (wb 152 ι) (6 + wb 152 ι 0) (zkd (h (ι 178 10))) := by rw [hι3, wb_u2 (i := 6 + wb 152 ι 0) (by omega) (by omega) (by omega), W1]
      refine g_aload_n (x := 178) rfl dX7_takesStreet_68 ?_
      refine g_iconst (x := 0) rfl dX7_takesStreet_69 ?_
      refine g_bipush (x := 20) (by decide) dX7_takesStreet_70 ?_
      refine i_callV mvX7_takesNumber tw_932 (ci := 7) (congrArg Prod.fst sh_178) rfl (by decide) (c_takesNumber (hi := 20) A3.q (by rw [A3.a]; exact ⟨A3.p0, A3.p1⟩) (by omega)) (by decide) (st' := []) rfl (Nat.le_of_ble_eq_true rfl) rfl dX7_takesStreet_72 (fun v_1 ι2 hq_72 => ?_)
      obtain ⟨bι2, rfl, hbι2⟩ := hq_72
      rw [A3.a] at hbι2
      have hbι2' : bι2 = 0 ∨ bι2 = 1 := by rcases hbι2.2 with g | g; exact Or.inl g.1; exact Or.inr g.1
      refine g_if_ne ⟨by omega, by omega⟩ (t := 80) dX7_takesStreet_75 (by decide) (fun h75 => ?_) (fun h75 => ?_)
      · obtain ⟨hfι2, hb⟩ := hbι2
        rcases hb with ⟨hb0, -⟩ | ⟨-, a, p2, heι2, h4ι2, haι2, hvι2, hwι2⟩
        · exfalso; omega
        have A2 := A3.nm heι2 hfι2 h4ι2 haι2
        refine g_aload_n (x := 178) rfl dX7_takesStreet_80 ?_
        refine g_get fgX7_7 zcl_7 (congrArg Prod.fst sh_178) (by decide) rg_178_0 dX7_takesStreet_81 ?_
        refine g_sipush (x := 166) (by decide) dX7_takesStreet_84 ?_
        refine g_iload_n (x := (wb 152 ι 0)) rfl dX7_takesStreet_87 ?_
        refine g_iadd dX7_takesStreet_88 ?_
        refine g_aload_n (x := 178) rfl dX7_takesStreet_89 ?_
        refine g_get fgX7_87 zcl_7 (congrArg Prod.fst sh_178) (by decide) ig_178_12 dX7_takesStreet_90 ?_
        rw [hvι2]
        obtain ⟨ι6, hι6⟩ : ∃ y_, y_ = iup ι2 179 (166 + (wb 152 ι 0)) a := ⟨_, rfl⟩
        refine i_iast sh_179 (by decide) (by decide) (by omega) (by omega) (by decide) (ι1 := ι6) (by rw [hι6]; exact au_179) dX7_takesStreet_93 ?_
        have A6 := A2.up (x := 166 + wb 152 ι 0) (v := a) (by omega)
        rw [← hι6] at A6
        have W6 : wb 152 ι6 = ru (ru (wb 152 ι) (6 + wb 152 ι 0) (zkd (h (ι 178 10)))) (14 + wb 152 ι 0) a := by rw [hι6, wb_u2 (i := 14 + wb 152 ι 0) (by omega) (by omega) (by omega), hwι2, W3]
        refine g_aload_n (x := 178) rfl dX7_takesStreet_94 ?_
        refine g_bipush (x := 44) (by decide) dX7_takesStreet_95 ?_
        refine i_callV mvX7_takes tw_920 (ci := 7) (congrArg Prod.fst sh_178) rfl (by decide) (c_takes (c := 44) A6.q (by rw [A6.a]; exact ⟨A6.p0, A6.p1⟩) (by decide)) (by decide) (st' := []) rfl (Nat.le_of_ble_eq_true rfl) rfl dX7_takesStreet_97 (fun v_2 ι4 hq_97 => ?_)
        obtain ⟨bι4, rfl, hbι4⟩ := hq_97
        rw [A6.a] at hbι4
        have hbι4' : bι4 = 0 ∨ bι4 = 1 := by rcases hbι4.2 with g | g; exact Or.inl g.1; exact Or.inr g.1
        refine g_if_eq ⟨by omega, by omega⟩ (t := 113) dX7_takesStreet_100 (by decide) (fun h100 => ?_) (fun h100 => ?_)
        · obtain ⟨hfι4, hb⟩ := hbι4
          rcases hb with ⟨-, w9, q9, heι4, hF4, hF11⟩ | ⟨hb0, -⟩
          rotate_left
          · exfalso; omega
          refine g_iconst (x := 0) rfl dX7_takesStreet_113 ?_
          exact i_zret rfl (by decide) dX7_takesStreet_114 (⟨0, rfl, A6.fr.t hfι4, Or.inl ⟨rfl, w9, q9, by rw [pre0]; rw [heι2]; show (pSg h 44 p2 >>= _) = _; rw [heι4]; rfl, hF4, hF11⟩⟩)
        · obtain ⟨hfι4, hb⟩ := hbι4
          rcases hb with ⟨hb0, -⟩ | ⟨-, p4, heι4, h4ι4, haι4, hwι4⟩
          · exfalso; omega
          have A4 := A6.sg (by decide) heι4 hfι4 h4ι4 haι4
          refine g_aload_n (x := 178) rfl dX7_takesStreet_103 ?_
          refine g_iconst (x := 0) rfl dX7_takesStreet_104 ?_
          refine g_bipush (x := 60) (by decide) dX7_takesStreet_105 ?_
          refine i_callV mvX7_takesNumber tw_932 (ci := 7) (congrArg Prod.fst sh_178) rfl (by decide) (c_takesNumber (hi := 60) A4.q (by rw [A4.a]; exact ⟨A4.p0, A4.p1⟩) (by omega)) (by decide) (st' := []) rfl (Nat.le_of_ble_eq_true rfl) rfl dX7_takesStreet_107 (fun v_3 ι5 hq_107 => ?_)
          obtain ⟨bι5, rfl, hbι5⟩ := hq_107
          rw [A4.a] at hbι5
          have hbι5' : bι5 = 0 ∨ bι5 = 1 := by rcases hbι5.2 with g | g; exact Or.inl g.1; exact Or.inr g.1
          refine g_if_ne ⟨by omega, by omega⟩ (t := 115) dX7_takesStreet_110 (by decide) (fun h110 => ?_) (fun h110 => ?_)
          · obtain ⟨hfι5, hb⟩ := hbι5
            rcases hb with ⟨hb0, -⟩ | ⟨-, b, p5, heι5, h4ι5, haι5, hvι5, hwι5⟩
            · exfalso; omega
            have A5 := A4.nm heι5 hfι5 h4ι5 haι5
            refine g_aload_n (x := 178) rfl dX7_takesStreet_115 ?_
            refine g_get fgX7_7 zcl_7 (congrArg Prod.fst sh_178) (by decide) rg_178_0 dX7_takesStreet_116 ?_
            refine g_sipush (x := 174) (by decide) dX7_takesStreet_119 ?_
            refine g_iload_n (x := (wb 152 ι 0)) rfl dX7_takesStreet_122 ?_
            refine g_iadd dX7_takesStreet_123 ?_
            refine g_aload_n (x := 178) rfl dX7_takesStreet_124 ?_
            refine g_get fgX7_87 zcl_7 (congrArg Prod.fst sh_178) (by decide) ig_178_12 dX7_takesStreet_125 ?_
            rw [hvι5]
            obtain ⟨ι7, hι7⟩ : ∃ y_, y_ = iup ι5 179 (174 + (wb 152 ι 0)) b := ⟨_, rfl⟩
            refine i_iast sh_179 (by decide) (by decide) (by omega) (by omega) (by decide) (ι1 := ι7) (by rw [hι7]; exact au_179) dX7_takesStreet_128 ?_
            have A7 := A5.up (x := 174 + wb 152 ι 0) (v := b) (by omega)
            rw [← hι7] at A7
            have W7 : wb 152 ι7 = ru (ru (ru (wb 152 ι) (6 + wb 152 ι 0) (zkd (h (ι 178 10)))) (14 + wb 152 ι 0) a) (22 + wb 152 ι 0) b := by rw [hι7, wb_u2 (i := 22 + wb 152 ι 0) (by omega) (by omega) (by omega), hwι5, hwι4, W6]
            have ek7 := w152 ι7 (i := 0) (by decide) (by decide)
            rw [Int.add_zero, W7, ru_n _ (by omega), ru_n _ (by omega), ru_n _ (by omega)] at ek7
            refine g_aload_n (x := 178) rfl dX7_takesStreet_129 ?_
            refine g_get fgX7_7 zcl_7 (congrArg Prod.fst sh_178) (by decide) rg_178_0 dX7_takesStreet_130 ?_
            refine g_sipush (x := 152) (by decide) dX7_takesStreet_133 ?_
            refine g_dup2 dX7_takesStreet_136 ?_
            refine g_iald sh_179 (by decide) (by omega) (by omega) (by decide) ag_179 dX7_takesStreet_137 ?_
            refine g_iconst (x := 1) rfl dX7_takesStreet_138 ?_
            refine g_iadd dX7_takesStreet_139 ?_
            rw [ek7]
            obtain ⟨ι8, hι8⟩ : ∃ y_, y_ = iup ι7 179 152 ((wb 152 ι 0) + 1) := ⟨_, rfl⟩
            refine i_iast sh_179 (by decide) (by decide) (by omega) (by omega) (by decide) (ι1 := ι8) (by rw [hι8]; exact au_179) dX7_takesStreet_140 ?_
            have A8 := A7.up (x := 152) (v := wb 152 ι 0 + 1) (by decide)
            rw [← hι8] at A8
            have W8 : wb 152 ι8 = ru (ru (ru (ru (wb 152 ι) (6 + wb 152 ι 0) (zkd (h (ι 178 10)))) (14 + wb 152 ι 0) a) (22 + wb 152 ι 0) b) 0 (wb 152 ι 0 + 1) := by rw [hι8, wb_u2 (i := 0) (by decide) (by decide) (by decide), W7]
            refine g_aload_n (x := 178) rfl dX7_takesStreet_141 ?_
            refine g_bipush (x := 59) (by decide) dX7_takesStreet_142 ?_
            refine i_callV mvX7_takes tw_920 (ci := 7) (congrArg Prod.fst sh_178) rfl (by decide) (c_takes (c := 59) A8.q (by rw [A8.a]; exact ⟨A8.p0, A8.p1⟩) (by decide)) (by decide) (st' := []) rfl (Nat.le_of_ble_eq_true rfl) rfl dX7_takesStreet_144 (fun v_4 ι9 hq_144 => ?_)
            obtain ⟨bι9, rfl, hbι9⟩ := hq_144
            rw [A8.a] at hbι9
            have hbι9' : bι9 = 0 ∨ bι9 = 1 := by rcases hbι9.2 with g | g; exact Or.inl g.1; exact Or.inr g.1
            exact i_zret rfl hbι9' dX7_takesStreet_147 (⟨bι9, rfl, A8.fr.t hbι9.1, by
      rcases hbι9.2 with ⟨g0, w9, q9, g1, g2, g3⟩ | ⟨g0, q9, g1, g2, g3, g4⟩
      · exact Or.inl ⟨g0, w9, q9, by rw [pre0]; rw [heι2]; show (pSg h 44 p2 >>= _) = _; rw [heι4]; show (pNm h 60 p4 >>= _) = _; rw [heι5]; show (pSg h 59 p5 >>= _) = _; rw [g1]; rfl, g2, g3⟩
      · exact Or.inr ⟨g0, q9, _, by rw [pre0]; rw [heι2]; show (pSg h 44 p2 >>= _) = _; rw [heι4]; show (pNm h 60 p4 >>= _) = _; rw [heι5]; show (pSg h 59 p5 >>= _) = _; rw [g1]; rfl, g2.trans A8.f, g3, by rw [g4, W8]⟩⟩)
          · obtain ⟨hfι5, hb⟩ := hbι5
            rcases hb with ⟨-, w9, q9, heι5, hF4, hF11⟩ | ⟨hb0, -⟩
            rotate_left
            · exfalso; omega
            refine g_iconst (x := 0) rfl dX7_takesStreet_113 ?_
            exact i_zret rfl (by decide) dX7_takesStreet_114 (⟨0, rfl, A4.fr.t hfι5, Or.inl ⟨rfl, w9, q9, by rw [pre0]; rw [heι2]; show (pSg h 44 p2 >>= _) = _; rw [heι4]; show (pNm h 60 p4 >>= _) = _; rw [heι5]; rfl, hF4, hF11⟩⟩)
      · obtain ⟨hfι2, hb⟩ := hbι2
        rcases hb with ⟨-, w9, q9, heι2, hF4, hF11⟩ | ⟨hb0, -⟩
        rotate_left
        · exfalso; omega
        refine g_iconst (x := 0) rfl dX7_takesStreet_78 ?_
        exact i_zret rfl (by decide) dX7_takesStreet_79 (⟨0, rfl, A3.fr.t hfι2, Or.inl ⟨rfl, w9, q9, by rw [pre0]; rw [heι2]; rfl, hF4, hF11⟩⟩)
    · refine g_aload_n (x := 178) rfl dX7_takesStreet_37 ?_
      refine g_iconst (x := 3) rfl dX7_takesStreet_38 ?_
      refine g_aload_n (x := 178) rfl dX7_takesStreet_39 ?_
      refine g_get fgX7_70 zcl_7 (congrArg Prod.fst sh_178) (by decide) ig_178_10 dX7_takesStreet_40 ?_
      refine i_callV mvX7_fails tw_928 (ci := 7) (congrArg Prod.fst sh_178) rfl (by decide) (c_mFails) (by decide) (st' := []) rfl (Nat.le_of_ble_eq_true rfl) rfl dX7_takesStreet_43 (fun v_5 ι9 hq_43 => ?_)
      obtain ⟨rfl, hFr9, hF4, hF11⟩ := hq_43
      exact i_zret rfl (by decide) dX7_takesStreet_46 (⟨0, rfl, hFr9, Or.inl ⟨rfl, 3, _, by unfold pSt; rw [if_neg (by omega), if_pos (by omega)], hF4, hF11⟩⟩)
  · refine g_aload_n (x := 178) rfl dX7_takesStreet_21 ?_
    refine g_iconst (x := 1) rfl dX7_takesStreet_22 ?_
    refine g_aload_n (x := 178) rfl dX7_takesStreet_23 ?_
    refine g_get fgX7_70 zcl_7 (congrArg Prod.fst sh_178) (by decide) ig_178_10 dX7_takesStreet_24 ?_
    refine i_callV mvX7_fails tw_928 (ci := 7) (congrArg Prod.fst sh_178) rfl (by decide) (c_mFails) (by decide) (st' := []) rfl (Nat.le_of_ble_eq_true rfl) rfl dX7_takesStreet_27 (fun v_6 ι9 hq_27 => ?_)
    obtain ⟨rfl, hFr9, hF4, hF11⟩ := hq_27
    exact i_zret rfl (by decide) dX7_takesStreet_30 (⟨0, rfl, hFr9, Or.inl ⟨rfl, 1, _, by unfold pSt; rw [if_pos (by omega)], hF4, hF11⟩⟩)

set_option maxRecDepth 100000 in
theorem c_takesBeat {h : Int → Int} {L' : Int} (hq : zqM h L' ι) (hp : 0 ≤ ι 178 10 ∧ ι 178 10 ≤ L') (hR : 1 ≤ wb 152 ι 0 ∧ wb 152 ι 0 ≤ 8) (hR1 : 0 ≤ wb 152 ι 1 ∧ wb 152 ι 1 ≤ 8) : zCi l (zc D ad L z) mX7_takesBeat 2 [zR 178] ι (fun v ι' => ∃ b, v = some (zI b) ∧ zOk ι (pBt h (ι 178 10) (wb 152 ι)) b ι') := by
  refine zCt_of (by decide) (Nat.le_of_ble_eq_true rfl) 0 rfl ?_
  have A0 : zAt ι h L' ι (ι 178 10) := ⟨zFr.r ι, hq, rfl, rfl, hp.1, hp.2⟩
  have hhb := zqM_b hq hp.1
  have ek := w152 ι (i := 0) (by decide) (by decide)
  rw [Int.add_zero] at ek
  have ek1 : ι 179 153 = wb 152 ι 1 := w152 ι (i := 1) (by decide) (by decide)
  refine g_aload_n (x := 178) rfl dX7_takesBeat_0 ?_
  refine i_callVp mvX7_here tw_924 (ci := 7) (congrArg Prod.fst sh_178) rfl (by decide) (c_here hq hp) (by decide) (st' := []) rfl (Nat.le_of_ble_eq_true rfl) rfl dX7_takesBeat_1 ?_
  refine g_bipush (x := 114) (by decide) dX7_takesBeat_4 ?_
  refine g_icmp_eq ⟨by omega, by omega⟩ (by decide) (t := 19) dX7_takesBeat_6 (by decide) (fun h6 => ?_) (fun h6 => ?_)
  · refine g_aload_n (x := 178) rfl dX7_takesBeat_19 ?_
    refine g_get fgX7_7 zcl_7 (congrArg Prod.fst sh_178) (by decide) rg_178_0 dX7_takesBeat_20 ?_
    refine g_sipush (x := 153) (by decide) dX7_takesBeat_23 ?_
    refine g_iald sh_179 (by decide) (by omega) (by omega) (by decide) ag_179 dX7_takesBeat_26 ?_
    refine g_bipush (x := 8) (by decide) dX7_takesBeat_27 ?_
    rw [ek1]
    refine g_icmp_ne ⟨by omega, by omega⟩ (by decide) (t := 42) dX7_takesBeat_29 (by decide) (fun h29 => ?_) (fun h29 => ?_)
    · have pre0 : pBt h (ι 178 10) (wb 152 ι) = (pNm h (wb 152 ι 0 - 1) (ι 178 10 + 1) >>= fun x => pSg h 59 x.2 >>= fun q => pure (q, ru (ru (wb 152 ι) (30 + wb 152 ι 1) x.1) 1 (wb 152 ι 1 + 1))) := by unfold pBt; rw [if_neg (by omega), if_neg (by omega)]
      have hlt : ι 178 10 < L' := zqM_n hq (by omega)
      refine g_aload_n (x := 178) rfl dX7_takesBeat_42 ?_
      refine g_dupR dX7_takesBeat_43 ?_
      refine g_get fgX7_70 zcl_7 (congrArg Prod.fst sh_178) (by decide) ig_178_10 dX7_takesBeat_44 ?_
      refine g_iconst (x := 1) rfl dX7_takesBeat_47 ?_
      refine g_iadd dX7_takesBeat_48 ?_
      obtain ⟨ι1, hι1⟩ : ∃ y_, y_ = iup ι 178 10 ((ι 178 10) + 1) := ⟨_, rfl⟩
      refine i_put fwX7_70 zcl_7 (congrArg Prod.fst sh_178) (by decide) (by decide) (ι1 := ι1) (by rw [hι1]; exact iu_178_10) dX7_takesBeat_49 ?_
      have A1 := A0.st hlt
      rw [← hι1] at A1
      have W1 : wb 152 ι1 = wb 152 ι := by rw [hι1, wb_up (Or.inl (by decide))]
      have ek2 : ι1 179 152 = wb 152 ι 0 := by rw [hι1, iup_n _ (by decide), ek]
      refine g_aload_n (x := 178) rfl dX7_takesBeat_52 ?_
      refine g_iconst (x := 0) rfl dX7_takesBeat_53 ?_
      refine g_aload_n (x := 178) rfl dX7_takesBeat_54 ?_
      refine g_get fgX7_7 zcl_7 (congrArg Prod.fst sh_178) (by decide) rg_178_0 dX7_takesBeat_55 ?_
      refine g_sipush (x := 152) (by decide) dX7_takesBeat_58 ?_
      refine g_iald sh_179 (by decide) (by omega) (by omega) (by decide) ag_179 dX7_takesBeat_61 ?_
      refine g_iconst (x := 1) rfl dX7_takesBeat_62 ?_
      refine g_isub dX7_takesBeat_63 ?_
      rw [ek2]
      refine i_callV mvX7_takesNumber tw_932 (ci := 7) (congrArg Prod.fst sh_178) rfl (by decide) (c_takesNumber (hi := wb 152 ι 0 - 1) A1.q (by rw [A1.a]; exact ⟨A1.p0, A1.p1⟩) (by omega)) (by decide) (st' := []) rfl (Nat.le_of_ble_eq_true rfl) rfl dX7_takesBeat_64 (fun v_1 ι2 hq_64 => ?_)
      obtain ⟨bι2, rfl, hbι2⟩ := hq_64
      rw [A1.a] at hbι2
      have hbι2' : bι2 = 0 ∨ bι2 = 1 := by rcases hbι2.2 with g | g; exact Or.inl g.1; exact Or.inr g.1
      refine g_if_ne ⟨by omega, by omega⟩ (t := 72) dX7_takesBeat_67 (by decide) (fun h67 => ?_) (fun h67 => ?_)
      · obtain ⟨hfι2, hb⟩ := hbι2
        rcases hb with ⟨hb0, -⟩ | ⟨-, a, p2, heι2, h4ι2, haι2, hvι2, hwι2⟩
        · exfalso; omega
        have A2 := A1.nm heι2 hfι2 h4ι2 haι2
        have ek3 : ι2 179 153 = wb 152 ι 1 := by rw [show (153 : Int) = 152 + 1 by decide, w152 ι2 (by decide) (by decide), hwι2, W1]
        refine g_aload_n (x := 178) rfl dX7_takesBeat_72 ?_
        refine g_get fgX7_7 zcl_7 (congrArg Prod.fst sh_178) (by decide) rg_178_0 dX7_takesBeat_73 ?_
        refine g_sipush (x := 182) (by decide) dX7_takesBeat_76 ?_
        refine g_aload_n (x := 178) rfl dX7_takesBeat_79 ?_
        refine g_get fgX7_7 zcl_7 (congrArg Prod.fst sh_178) (by decide) rg_178_0 dX7_takesBeat_80 ?_
        refine g_sipush (x := 153) (by decide) dX7_takesBeat_83 ?_
        refine g_iald sh_179 (by decide) (by omega) (by omega) (by decide) ag_179 dX7_takesBeat_86 ?_
        refine g_iadd dX7_takesBeat_87 ?_
        refine g_aload_n (x := 178) rfl dX7_takesBeat_88 ?_
        refine g_get fgX7_87 zcl_7 (congrArg Prod.fst sh_178) (by decide) ig_178_12 dX7_takesBeat_89 ?_
        rw [hvι2, ek3]
        obtain ⟨ι6, hι6⟩ : ∃ y_, y_ = iup ι2 179 (182 + (wb 152 ι 1)) a := ⟨_, rfl⟩
        refine i_iast sh_179 (by decide) (by decide) (by omega) (by omega) (by decide) (ι1 := ι6) (by rw [hι6]; exact au_179) dX7_takesBeat_92 ?_
        have A6 := A2.up (x := 182 + wb 152 ι 1) (v := a) (by omega)
        rw [← hι6] at A6
        have W6 : wb 152 ι6 = ru (wb 152 ι) (30 + wb 152 ι 1) a := by rw [hι6, wb_u2 (i := 30 + wb 152 ι 1) (by omega) (by omega) (by omega), hwι2, W1]
        have ek6 : ι6 179 153 = wb 152 ι 1 := by rw [hι6, iup_n _ (by omega), ek3]
        refine g_aload_n (x := 178) rfl dX7_takesBeat_93 ?_
        refine g_get fgX7_7 zcl_7 (congrArg Prod.fst sh_178) (by decide) rg_178_0 dX7_takesBeat_94 ?_
        refine g_sipush (x := 153) (by decide) dX7_takesBeat_97 ?_
        refine g_dup2 dX7_takesBeat_100 ?_
        refine g_iald sh_179 (by decide) (by omega) (by omega) (by decide) ag_179 dX7_takesBeat_101 ?_
        refine g_iconst (x := 1) rfl dX7_takesBeat_102 ?_
        refine g_iadd dX7_takesBeat_103 ?_
        rw [ek6]
        obtain ⟨ι8, hι8⟩ : ∃ y_, y_ = iup ι6 179 153 ((wb 152 ι 1) + 1) := ⟨_, rfl⟩
        refine i_iast sh_179 (by decide) (by decide) (by omega) (by omega) (by decide) (ι1 := ι8) (by rw [hι8]; exact au_179) dX7_takesBeat_104 ?_
        have A8 := A6.up (x := 153) (v := wb 152 ι 1 + 1) (by decide)
        rw [← hι8] at A8
        have W8 : wb 152 ι8 = ru (ru (wb 152 ι) (30 + wb 152 ι 1) a) 1 (wb 152 ι 1 + 1) := by rw [hι8, wb_u2 (i := 1) (by decide) (by decide) (by decide), W6]
        refine g_aload_n (x := 178) rfl dX7_takesBeat_105 ?_
        refine g_bipush (x := 59) (by decide) dX7_takesBeat_106 ?_
        refine i_callV mvX7_takes tw_920 (ci := 7) (congrArg Prod.fst sh_178) rfl (by decide) (c_takes (c := 59) A8.q (by rw [A8.a]; exact ⟨A8.p0, A8.p1⟩) (by decide)) (by decide) (st' := []) rfl (Nat.le_of_ble_eq_true rfl) rfl dX7_takesBeat_108 (fun v_2 ι9 hq_108 => ?_)
        obtain ⟨bι9, rfl, hbι9⟩ := hq_108
        rw [A8.a] at hbι9
        have hbι9' : bι9 = 0 ∨ bι9 = 1 := by rcases hbι9.2 with g | g; exact Or.inl g.1; exact Or.inr g.1
        exact i_zret rfl hbι9' dX7_takesBeat_111 (⟨bι9, rfl, A8.fr.t hbι9.1, by
      rcases hbι9.2 with ⟨g0, w9, q9, g1, g2, g3⟩ | ⟨g0, q9, g1, g2, g3, g4⟩
      · exact Or.inl ⟨g0, w9, q9, by rw [pre0]; rw [heι2]; show (pSg h 59 p2 >>= _) = _; rw [g1]; rfl, g2, g3⟩
      · exact Or.inr ⟨g0, q9, _, by rw [pre0]; rw [heι2]; show (pSg h 59 p2 >>= _) = _; rw [g1]; rfl, g2.trans A8.f, g3, by rw [g4, W8]⟩⟩)
      · obtain ⟨hfι2, hb⟩ := hbι2
        rcases hb with ⟨-, w9, q9, heι2, hF4, hF11⟩ | ⟨hb0, -⟩
        rotate_left
        · exfalso; omega
        refine g_iconst (x := 0) rfl dX7_takesBeat_70 ?_
        exact i_zret rfl (by decide) dX7_takesBeat_71 (⟨0, rfl, A1.fr.t hfι2, Or.inl ⟨rfl, w9, q9, by rw [pre0]; rw [heι2]; rfl, hF4, hF11⟩⟩)
    · refine g_aload_n (x := 178) rfl dX7_takesBeat_32 ?_
      refine g_iconst (x := 3) rfl dX7_takesBeat_33 ?_
      refine g_aload_n (x := 178) rfl dX7_takesBeat_34 ?_
      refine g_get fgX7_70 zcl_7 (congrArg Prod.fst sh_178) (by decide) ig_178_10 dX7_takesBeat_35 ?_
      refine i_callV mvX7_fails tw_928 (ci := 7) (congrArg Prod.fst sh_178) rfl (by decide) (c_mFails) (by decide) (st' := []) rfl (Nat.le_of_ble_eq_true rfl) rfl dX7_takesBeat_38 (fun v_3 ι9 hq_38 => ?_)
      obtain ⟨rfl, hFr9, hF4, hF11⟩ := hq_38
      exact i_zret rfl (by decide) dX7_takesBeat_41 (⟨0, rfl, hFr9, Or.inl ⟨rfl, 3, _, by unfold pBt; rw [if_neg (by omega), if_pos (by omega)], hF4, hF11⟩⟩)
  · refine g_aload_n (x := 178) rfl dX7_takesBeat_9 ?_
    refine g_iconst (x := 1) rfl dX7_takesBeat_10 ?_
    refine g_aload_n (x := 178) rfl dX7_takesBeat_11 ?_
    refine g_get fgX7_70 zcl_7 (congrArg Prod.fst sh_178) (by decide) ig_178_10 dX7_takesBeat_12 ?_
    refine i_callV mvX7_fails tw_928 (ci := 7) (congrArg Prod.fst sh_178) rfl (by decide) (c_mFails) (by decide) (st' := []) rfl (Nat.le_of_ble_eq_true rfl) rfl dX7_takesBeat_15 (fun v_4 ι9 hq_15 => ?_)
    obtain ⟨rfl, hFr9, hF4, hF11⟩ := hq_15
    exact i_zret rfl (by decide) dX7_takesBeat_18 (⟨0, rfl, hFr9, Or.inl ⟨rfl, 1, _, by unfold pBt; rw [if_pos (by omega)], hF4, hF11⟩⟩)

end
