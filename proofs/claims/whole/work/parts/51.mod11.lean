section
variable {l : Launch} {D : va_G} {ad : Nat → Nat} {L z : Nat} {ι : zi}
/-- of the reader's steps: the state behind, the place, the row -/
def zAt (ι : zi) (h : Int → Int) (L' : Int) (ι' : zi) (p : Int) : Prop := zFr ι ι' ∧ zqM h L' ι' ∧ ι' 178 4 = ι 178 4 ∧ ι' 178 10 = p ∧ 0 ≤ p ∧ p ≤ L'
theorem zAt.fr {ι ι' : zi} {h : Int → Int} {L' p : Int} (A : zAt ι h L' ι' p) : zFr ι ι' := A.1
theorem zAt.q {ι ι' : zi} {h : Int → Int} {L' p : Int} (A : zAt ι h L' ι' p) : zqM h L' ι' := A.2.1
theorem zAt.f {ι ι' : zi} {h : Int → Int} {L' p : Int} (A : zAt ι h L' ι' p) : ι' 178 4 = ι 178 4 := A.2.2.1
theorem zAt.a {ι ι' : zi} {h : Int → Int} {L' p : Int} (A : zAt ι h L' ι' p) : ι' 178 10 = p := A.2.2.2.1
theorem zAt.p0 {ι ι' : zi} {h : Int → Int} {L' p : Int} (A : zAt ι h L' ι' p) : 0 ≤ p := A.2.2.2.2.1
theorem zAt.p1 {ι ι' : zi} {h : Int → Int} {L' p : Int} (A : zAt ι h L' ι' p) : p ≤ L' := A.2.2.2.2.2
theorem zAt.sg {ι ι' ι2 : zi} {h : Int → Int} {L' p q c : Int} (A : zAt ι h L' ι' p) (hc : 0 ≤ c) (e : pSg h c p = .ok q) (f1 : zFr ι' ι2) (f2 : ι2 178 4 = ι' 178 4) (f3 : ι2 178 10 = q) : zAt ι h L' ι2 q := by
  have e1 := pSg_ok e
  have e2 := zqM_n A.q (p := p) (by omega)
  have := A.p0
  exact ⟨A.fr.t f1, f1.q A.q, f2.trans A.f, f3, by omega, by omega⟩
theorem zAt.nm {ι ι' ι2 : zi} {h : Int → Int} {L' p q v hi : Int} (A : zAt ι h L' ι' p) (e : pNm h hi p = .ok (v, q)) (f1 : zFr ι' ι2) (f2 : ι2 178 4 = ι' 178 4) (f3 : ι2 178 10 = q) : zAt ι h L' ι2 q := by
  obtain ⟨e1, e2, e3⟩ := pNm_ok e
  have := A.p0
  have g1 := zqM_n A.q (p := p) (by unfold zdg at e1; omega)
  refine ⟨A.fr.t f1, f1.q A.q, f2.trans A.f, f3, by omega, ?_⟩
  rcases e2 with e2 | ⟨e2, e4⟩
  · omega
  · have := zqM_n A.q (p := p + 1) (by unfold zdg at e2; omega)
    omega
theorem zAt.up {ι ι' : zi} {h : Int → Int} {L' p : Int} (A : zAt ι h L' ι' p) {x v : Int} (hx : 152 ≤ x ∧ x < 190) : zAt ι h L' (iup ι' 179 x v) p := by
  have f1 : zFr ι' (iup ι' 179 x v) := zFr.u (Or.inr ⟨rfl, hx⟩)
  exact ⟨A.fr.t f1, f1.q A.q, by rw [iup_n _ (by omega)]; exact A.f, by rw [iup_n _ (by omega)]; exact A.a, A.p0, A.p1⟩
theorem zAt.st {ι ι' : zi} {h : Int → Int} {L' p : Int} (A : zAt ι h L' ι' p) (h1 : p < L') : zAt ι h L' (iup ι' 178 10 (p + 1)) (p + 1) := by
  have f1 : zFr ι' (iup ι' 178 10 (p + 1)) := zFr.u (Or.inl ⟨rfl, by omega⟩)
  have := A.p0
  exact ⟨A.fr.t f1, f1.q A.q, by rw [iup_n _ (by omega)]; exact A.f, by rw [iup_s], by omega, by omega⟩
theorem wb_u2 {ι : zi} {i x v : Int} (hx : x = 152 + i) (h0 : 0 ≤ i) (h1 : i < 38) : wb 152 (iup ι 179 x v) = ru (wb 152 ι) i v := by
  rw [← wp_wb 152 ι, wp_up 152 _ _ hx h0 h1, wb_wp 152 (ru_tz (wb_tz 152 _) h0 h1), wp_wb]
theorem w152 (ι : zi) {i : Int} (h0 : 0 ≤ i) (h1 : i < 38) : ι 179 (152 + i) = wb 152 ι i := (wb_i 152 ι h0 h1).symm
set_option maxRecDepth 100000 in
theorem c_takesLaw {h : Int → Int} {L' : Int} (hq : zqM h L' ι) (hp : 0 ≤ ι 178 10 ∧ ι 178 10 ≤ L') : zCi l (zc D ad L z) mX7_takesLaw 2 [zR 178] ι (fun v ι' => ∃ b, v = some (zI b) ∧ zOk ι (pLw h (ι 178 10) (wb 152 ι)) b ι') := by
  refine zCt_of (by decide) (Nat.le_of_ble_eq_true rfl) 0 rfl ?_
  have A0 : zAt ι h L' ι (ι 178 10) := ⟨zFr.r ι, hq, rfl, rfl, hp.1, hp.2⟩
  refine g_aload_n (x := 178) rfl dX7_takesLaw_0 ?_
  refine g_bipush (x := 100) (by decide) dX7_takesLaw_1 ?_
  refine i_callV mvX7_takes tw_920 (ci := 7) (congrArg Prod.fst sh_178) rfl (by decide) (c_takes (c := 100) A0.q (by rw [A0.a]; exact ⟨A0.p0, A0.p1⟩) (by decide)) (by decide) (st' := []) rfl (Nat.le_of_ble_eq_true rfl) rfl dX7_takesLaw_3 (fun v_1 ι1 hq_3 => ?_)
  obtain ⟨bι1, rfl, hbι1⟩ := hq_3
  rw [A0.a] at hbι1
  have hbι1' : bι1 = 0 ∨ bι1 = 1 := by rcases hbι1.2 with g | g; exact Or.inl g.1; exact Or.inr g.1
  refine g_if_eq ⟨by omega, by omega⟩ (t := 18) dX7_takesLaw_6 (by decide) (fun h6 => ?_) (fun h6 => ?_)
  · obtain ⟨hfι1, hb⟩ := hbι1
    rcases hb with ⟨-, w9, q9, heι1, hF4, hF11⟩ | ⟨hb0, -⟩
    rotate_left
    · exfalso; omega
    refine g_iconst (x := 0) rfl dX7_takesLaw_18 ?_
    exact i_zret rfl (by decide) dX7_takesLaw_19 (⟨0, rfl, hfι1, Or.inl ⟨rfl, w9, q9, by unfold pLw; rw [heι1]; rfl, hF4, hF11⟩⟩)
  · obtain ⟨hfι1, hb⟩ := hbι1
    rcases hb with ⟨hb0, -⟩ | ⟨-, p1, heι1, h4ι1, haι1, hwι1⟩
    · exfalso; omega
    have A1 := A0.sg (by decide) heι1 hfι1 h4ι1 haι1
    refine g_aload_n (x := 178) rfl dX7_takesLaw_9 ?_
    refine g_iconst (x := 0) rfl dX7_takesLaw_10 ?_
    refine g_iconst (x := 3) rfl dX7_takesLaw_11 ?_
    refine i_callV mvX7_takesNumber tw_932 (ci := 7) (congrArg Prod.fst sh_178) rfl (by decide) (c_takesNumber (hi := 3) A1.q (by rw [A1.a]; exact ⟨A1.p0, A1.p1⟩) (by omega)) (by decide) (st' := []) rfl (Nat.le_of_ble_eq_true rfl) rfl dX7_takesLaw_12 (fun v_2 ι2 hq_12 => ?_)
    obtain ⟨bι2, rfl, hbι2⟩ := hq_12
    rw [A1.a] at hbι2
    have hbι2' : bι2 = 0 ∨ bι2 = 1 := by rcases hbι2.2 with g | g; exact Or.inl g.1; exact Or.inr g.1
    refine g_if_ne ⟨by omega, by omega⟩ (t := 20) dX7_takesLaw_15 (by decide) (fun h15 => ?_) (fun h15 => ?_)
    · obtain ⟨hfι2, hb⟩ := hbι2
      rcases hb with ⟨hb0, -⟩ | ⟨-, a, p2, heι2, h4ι2, haι2, hvι2, hwι2⟩
      · exfalso; omega
      have A2 := A1.nm heι2 hfι2 h4ι2 haι2
      refine g_aload_n (x := 178) rfl dX7_takesLaw_20 ?_
      refine g_get fgX7_7 zcl_7 (congrArg Prod.fst sh_178) (by decide) rg_178_0 dX7_takesLaw_21 ?_
      refine g_sipush (x := 154) (by decide) dX7_takesLaw_24 ?_
      refine g_aload_n (x := 178) rfl dX7_takesLaw_27 ?_
      refine g_get fgX7_87 zcl_7 (congrArg Prod.fst sh_178) (by decide) ig_178_12 dX7_takesLaw_28 ?_
      rw [hvι2]
      obtain ⟨ι3, hι3⟩ : ∃ y_, y_ = iup ι2 179 154 a := ⟨_, rfl⟩
      refine i_iast sh_179 (by decide) (by decide) (by omega) (by omega) (by decide) (ι1 := ι3) (by rw [hι3]; exact au_179) dX7_takesLaw_31 ?_
      have A3 := A2.up (x := 154) (v := a) (by decide)
      rw [← hι3] at A3
      have W3 : wb 152 ι3 = ru (wb 152 ι) 2 a := by rw [hι3, wb_u2 (i := 2) (by decide) (by decide) (by decide), hwι2, hwι1]
      refine g_aload_n (x := 178) rfl dX7_takesLaw_32 ?_
      refine g_bipush (x := 44) (by decide) dX7_takesLaw_33 ?_
      refine i_callV mvX7_takes tw_920 (ci := 7) (congrArg Prod.fst sh_178) rfl (by decide) (c_takes (c := 44) A3.q (by rw [A3.a]; exact ⟨A3.p0, A3.p1⟩) (by decide)) (by decide) (st' := []) rfl (Nat.le_of_ble_eq_true rfl) rfl dX7_takesLaw_35 (fun v_3 ι4 hq_35 => ?_)
      obtain ⟨bι4, rfl, hbι4⟩ := hq_35
      rw [A3.a] at hbι4
      have hbι4' : bι4 = 0 ∨ bι4 = 1 := by rcases hbι4.2 with g | g; exact Or.inl g.1; exact Or.inr g.1
      refine g_if_eq ⟨by omega, by omega⟩ (t := 51) dX7_takesLaw_38 (by decide) (fun h38 => ?_) (fun h38 => ?_)
      · obtain ⟨hfι4, hb⟩ := hbι4
        rcases hb with ⟨-, w9, q9, heι4, hF4, hF11⟩ | ⟨hb0, -⟩
        rotate_left
        · exfalso; omega
        refine g_iconst (x := 0) rfl dX7_takesLaw_51 ?_
        exact i_zret rfl (by decide) dX7_takesLaw_52 (⟨0, rfl, A3.fr.t hfι4, Or.inl ⟨rfl, w9, q9, by unfold pLw; rw [heι1]; show (pNm h 3 p1 >>= _) = _; rw [heι2]; show (pSg h 44 p2 >>= _) = _; rw [heι4]; rfl, hF4, hF11⟩⟩)
      · obtain ⟨hfι4, hb⟩ := hbι4
        rcases hb with ⟨hb0, -⟩ | ⟨-, p4, heι4, h4ι4, haι4, hwι4⟩
        · exfalso; omega
        have A4 := A3.sg (by decide) heι4 hfι4 h4ι4 haι4
        refine g_aload_n (x := 178) rfl dX7_takesLaw_41 ?_
        refine g_iconst (x := 0) rfl dX7_takesLaw_42 ?_
        refine g_bipush (x := 9) (by decide) dX7_takesLaw_43 ?_
        refine i_callV mvX7_takesNumber tw_932 (ci := 7) (congrArg Prod.fst sh_178) rfl (by decide) (c_takesNumber (hi := 9) A4.q (by rw [A4.a]; exact ⟨A4.p0, A4.p1⟩) (by omega)) (by decide) (st' := []) rfl (Nat.le_of_ble_eq_true rfl) rfl dX7_takesLaw_45 (fun v_4 ι5 hq_45 => ?_)
        obtain ⟨bι5, rfl, hbι5⟩ := hq_45
        rw [A4.a] at hbι5
        have hbι5' : bι5 = 0 ∨ bι5 = 1 := by rcases hbι5.2 with g | g; exact Or.inl g.1; exact Or.inr g.1
        refine g_if_ne ⟨by omega, by omega⟩ (t := 53) dX7_takesLaw_48 (by decide) (fun h48 => ?_) (fun h48 => ?_)
        · obtain ⟨hfι5, hb⟩ := hbι5
          rcases hb with ⟨hb0, -⟩ | ⟨-, b, p5, heι5, h4ι5, haι5, hvι5, hwι5⟩
          · exfalso; omega
          have A5 := A4.nm heι5 hfι5 h4ι5 haι5
          refine g_aload_n (x := 178) rfl dX7_takesLaw_53 ?_
          refine g_get fgX7_7 zcl_7 (congrArg Prod.fst sh_178) (by decide) rg_178_0 dX7_takesLaw_54 ?_
          refine g_sipush (x := 155) (by decide) dX7_takesLaw_57 ?_
          refine g_aload_n (x := 178) rfl dX7_takesLaw_60 ?_
          refine g_get fgX7_87 zcl_7 (congrArg Prod.fst sh_178) (by decide) ig_178_12 dX7_takesLaw_61 ?_
          rw [hvι5]
          obtain ⟨ι6, hι6⟩ : ∃ y_, y_ = iup ι5 179 155 b := ⟨_, rfl⟩
          refine i_iast sh_179 (by decide) (by decide) (by omega) (by omega) (by decide) (ι1 := ι6) (by rw [hι6]; exact au_179) dX7_takesLaw_64 ?_
          have A6 := A5.up (x := 155) (v := b) (by decide)
          rw [← hι6] at A6
          have W6 : wb 152 ι6 = ru (ru (wb 152 ι) 2 a) 3 b := by rw [hι6, wb_u2 (i := 3) (by decide) (by decide) (by decide), hwι5, hwι4, W3]
          refine g_aload_n (x := 178) rfl dX7_takesLaw_65 ?_
          refine g_bipush (x := 59) (by decide) dX7_takesLaw_66 ?_
          refine i_callV mvX7_takes tw_920 (ci := 7) (congrArg Prod.fst sh_178) rfl (by decide) (c_takes (c := 59) A6.q (by rw [A6.a]; exact ⟨A6.p0, A6.p1⟩) (by decide)) (by decide) (st' := []) rfl (Nat.le_of_ble_eq_true rfl) rfl dX7_takesLaw_68 (fun v_5 ι7 hq_68 => ?_)
          obtain ⟨bι7, rfl, hbι7⟩ := hq_68
          rw [A6.a] at hbι7
          have hbι7' : bι7 = 0 ∨ bι7 = 1 := by rcases hbι7.2 with g | g; exact Or.inl g.1; exact Or.inr g.1
          exact i_zret rfl hbι7' dX7_takesLaw_71 (⟨bι7, rfl, A6.fr.t hbι7.1, by
      have pre : pLw h (ι 178 10) (wb 152 ι) = (pSg h 59 p5 >>= fun p => pure (p, ru (ru (wb 152 ι) 2 a) 3 b)) := by unfold pLw; rw [heι1]; show (pNm h 3 p1 >>= _) = _; rw [heι2]; show (pSg h 44 p2 >>= _) = _; rw [heι4]; show (pNm h 9 p4 >>= _) = _; rw [heι5]; rfl
      rcases hbι7.2 with ⟨g0, w9, q9, g1, g2, g3⟩ | ⟨g0, q9, g1, g2, g3, g4⟩
      · exact Or.inl ⟨g0, w9, q9, by rw [pre, g1]; rfl, g2, g3⟩
      · exact Or.inr ⟨g0, q9, _, by rw [pre, g1]; rfl, g2.trans A6.f, g3, by rw [g4, W6]⟩⟩)
        · obtain ⟨hfι5, hb⟩ := hbι5
          rcases hb with ⟨-, w9, q9, heι5, hF4, hF11⟩ | ⟨hb0, -⟩
          rotate_left
          · exfalso; omega
          refine g_iconst (x := 0) rfl dX7_takesLaw_51 ?_
          exact i_zret rfl (by decide) dX7_takesLaw_52 (⟨0, rfl, A4.fr.t hfι5, Or.inl ⟨rfl, w9, q9, by unfold pLw; rw [heι1]; show (pNm h 3 p1 >>= _) = _; rw [heι2]; show (pSg h 44 p2 >>= _) = _; rw [heι4]; show (pNm h 9 p4 >>= _) = _; rw [heι5]; rfl, hF4, hF11⟩⟩)
    · obtain ⟨hfι2, hb⟩ := hbι2
      rcases hb with ⟨-, w9, q9, heι2, hF4, hF11⟩ | ⟨hb0, -⟩
      rotate_left
      · exfalso; omega
      refine g_iconst (x := 0) rfl dX7_takesLaw_18 ?_
      exact i_zret rfl (by decide) dX7_takesLaw_19 (⟨0, rfl, A1.fr.t hfι2, Or.inl ⟨rfl, w9, q9, by unfold pLw; rw [heι1]; show (pNm h 3 p1 >>= _) = _; rw [heι2]; rfl, hF4, hF11⟩⟩)

end
