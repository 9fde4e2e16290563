section
variable {l : Launch} {D : va_G} {ad : Nat → Nat} {L z : Nat} {ι : zi}
theorem zE_bind {α β : Type} {x : zE α} {f : α → zE β} {y : β} (e : (x >>= f) = .ok y) : ∃ a, x = .ok a ∧ f a = .ok y := by
  cases x with
  | error _ => cases e
  | ok a => exact ⟨a, rfl, e⟩
theorem pSt_ok {h : Int → Int} {p q : Int} {R S : zr} (e : pSt h p R = .ok (q, S)) : (∃ r, p ≤ r ∧ h r = 59 ∧ q = r + 1) ∧ R 0 ≠ 8 ∧ ∃ k a b, S = ru (ru (ru (ru R (6 + R 0) k) (14 + R 0) a) (22 + R 0) b) 0 (R 0 + 1) ∧ (1 ≤ k ∧ k ≤ 5) ∧ (0 ≤ a ∧ a ≤ 20) ∧ (0 ≤ b ∧ b ≤ 60) := by
  unfold pSt at e
  split at e
  · cases e
  split at e
  · cases e
  rename_i hk h8
  obtain ⟨⟨a, q1⟩, e1, e⟩ := zE_bind e
  obtain ⟨q2, e2, e⟩ := zE_bind e
  obtain ⟨⟨b, q3⟩, e3, e⟩ := zE_bind e
  obtain ⟨q4, e4, e⟩ := zE_bind e
  cases e
  have f1 := pNm_ok e1
  have f2 := pSg_ok e2
  have f3 := pNm_ok e3
  have f4 := pSg_ok e4
  refine ⟨⟨q3, by omega, f4.1, f4.2⟩, h8, zkd (h p), a, b, rfl, ?_, f1.2.2, f3.2.2⟩
  unfold zkd at hk ⊢
  (repeat' split) <;> omega
theorem pBt_ok {h : Int → Int} {p q : Int} {R S : zr} (e : pBt h p R = .ok (q, S)) : (∃ r, p ≤ r ∧ h r = 59 ∧ q = r + 1) ∧ R 1 ≠ 8 ∧ ∃ a, S = ru (ru R (30 + R 1) a) 1 (R 1 + 1) ∧ (0 ≤ a ∧ a < R 0) := by
  unfold pBt at e
  split at e
  · cases e
  split at e
  · cases e
  rename_i hk h8
  obtain ⟨⟨a, q1⟩, e1, e⟩ := zE_bind e
  obtain ⟨q2, e2, e⟩ := zE_bind e
  cases e
  have f1 := pNm_ok e1
  have f2 := pSg_ok e2
  exact ⟨⟨q1, by omega, f2.1, f2.2⟩, h8, a, rfl, by omega⟩
theorem pLw_ok {h : Int → Int} {p q : Int} {R S : zr} (e : pLw h p R = .ok (q, S)) : (∃ r, p ≤ r ∧ h r = 59 ∧ q = r + 1) ∧ ∃ a b, S = ru (ru R 2 a) 3 b ∧ (0 ≤ a ∧ a ≤ 3) ∧ (0 ≤ b ∧ b ≤ 9) := by
  unfold pLw at e
  obtain ⟨q1, e1, e⟩ := zE_bind e
  obtain ⟨⟨a, q2⟩, e2, e⟩ := zE_bind e
  obtain ⟨q3, e3, e⟩ := zE_bind e
  obtain ⟨⟨b, q4⟩, e4, e⟩ := zE_bind e
  obtain ⟨q5, e5, e⟩ := zE_bind e
  cases e
  have f1 := pSg_ok e1
  have f2 := pNm_ok e2
  have f3 := pSg_ok e3
  have f4 := pNm_ok e4
  have f5 := pSg_ok e5
  exact ⟨⟨q4, by omega, f5.1, f5.2⟩, a, b, rfl, f2.2.2, f4.2.2⟩
theorem zAt.ok {ι ι' ι2 : zi} {h : Int → Int} {L' p q : Int} (A : zAt ι h L' ι' p) (e : ∃ r, p ≤ r ∧ h r = 59 ∧ q = r + 1) (f1 : zFr ι' ι2) (f2 : ι2 178 4 = ι' 178 4) (f3 : ι2 178 10 = q) : zAt ι h L' ι2 q := by
  obtain ⟨r, e1, e2, e3⟩ := e
  have := A.p0
  have := zqM_n A.q (p := r) (by omega)
  exact ⟨A.fr.t f1, f1.q A.q, f2.trans A.f, f3, by omega, by omega⟩
set_option maxRecDepth 100000 in
theorem lp_takesBeats {h : Int → Int} {L' : Int} (hq : zqM h L' ι) : ∀ i : Int, 0 ≤ i → i ≤ 8 → ∀ (ι1 : zi) (p : Int), zAt ι h L' ι1 p → wb 152 ι1 1 = i → (1 ≤ wb 152 ι1 0 ∧ wb 152 ι1 0 ≤ 8) → zGi l (zc D ad L z) mX7_takesAll 3 38 [some (zR 178)] [] ι1 (fun v ι' => ∃ b, v = some (zI b) ∧ zOk ι (pBs h L' (10 - i).toNat p (wb 152 ι1)) b ι') := by
  refine z_loopI (P := fun i => ∀ (ι1 : zi) (p : Int), zAt ι h L' ι1 p → wb 152 ι1 1 = i → (1 ≤ wb 152 ι1 0 ∧ wb 152 ι1 0 ≤ 8) → _) (fun i h0 h1 ih ι1 p A hi1 hN => ?_)
  have ek1 : ι1 179 153 = wb 152 ι1 1 := w152 ι1 (i := 1) (by decide) (by decide)
  have hp0 := A.p0
  have hp1 := A.p1
  have hL := A.q.2.1
  have h3 := A.q.1
  have ha := A.a
  have es : pBs h L' (10 - i).toNat p (wb 152 ι1) = if wb 152 ι1 1 ≠ 0 ∧ L' ≤ p then .ok (p, wb 152 ι1) else pBt h p (wb 152 ι1) >>= fun x => pBs h L' (9 - i).toNat x.1 x.2 := by rw [show (10 - i).toNat = (9 - i).toNat + 1 by omega]; rfl
  refine g_aload_n (x := 178) rfl dX7_takesAll_38 ?_
  refine g_get fgX7_7 zcl_7 (congrArg Prod.fst sh_178) (by decide) rg_178_0 dX7_takesAll_39 ?_
  refine g_sipush (x := 153) (by decide) dX7_takesAll_42 ?_
  refine g_iald sh_179 (by decide) (by omega) (by omega) (by decide) ag_179 dX7_takesAll_45 ?_
  rw [ek1]
  refine g_if_eq ⟨by omega, by omega⟩ (t := 60) dX7_takesAll_46 (by decide) (fun h46 => ?_) (fun h46 => ?_)
  · refine g_aload_n (x := 178) rfl dX7_takesAll_60 ?_
    refine i_callV mvX7_takesBeat tw_945 (ci := 7) (congrArg Prod.fst sh_178) rfl (by decide) (c_takesBeat A.q (by rw [ha]; exact ⟨hp0, hp1⟩) hN (by omega)) (by decide) (st' := []) rfl (Nat.le_of_ble_eq_true rfl) rfl dX7_takesAll_61 (fun v_1 ι2 hq_61 => ?_)
    obtain ⟨bι2, rfl, hbι2⟩ := hq_61
    rw [A.a] at hbι2
    have hbι2' : bι2 = 0 ∨ bι2 = 1 := by rcases hbι2.2 with g | g; exact Or.inl g.1; exact Or.inr g.1
    refine g_if_ne ⟨by omega, by omega⟩ (t := 38) dX7_takesAll_64 (by decide) (fun h64 => ?_) (fun h64 => ?_)
    · obtain ⟨hfι2, hb⟩ := hbι2
      rcases hb with ⟨hb0, -⟩ | ⟨-, p2, S, heι2, h4ι2, haι2, hwι2⟩
      · exfalso; omega
      obtain ⟨k1, k2, a, k3, k4⟩ := pBt_ok heι2
      have hh := ih (by omega) ι2 p2 (A.ok k1 hfι2 h4ι2 haι2) (by rw [hwι2, k3, ru_s]; omega) (by rw [hwι2, k3, ru_n _ (by omega), ru_n _ (by omega)]; exact hN)
      refine zGi_mono ?_ hh
      rintro v y ⟨b, hv, hy⟩
      refine ⟨b, hv, ?_⟩
      rw [es, if_neg (by omega), heι2, ← hwι2]
      rw [show (10 - (i + 1)).toNat = (9 - i).toNat by omega] at hy
      exact hy
    · obtain ⟨hfι2, hb⟩ := hbι2
      rcases hb with ⟨-, w9, q9, heι2, hF4, hF11⟩ | ⟨hb0, -⟩
      rotate_left
      · exfalso; omega
      refine g_iconst (x := 0) rfl dX7_takesAll_67 ?_
      exact i_zret rfl (by decide) dX7_takesAll_68 (⟨0, rfl, A.fr.t hfι2, Or.inl ⟨rfl, w9, q9, by rw [es, if_neg (by omega), heι2]; rfl, hF4, hF11⟩⟩)
  · refine g_aload_n (x := 178) rfl dX7_takesAll_49 ?_
    refine g_get fgX7_70 zcl_7 (congrArg Prod.fst sh_178) (by decide) ig_178_10 dX7_takesAll_50 ?_
    refine g_aload_n (x := 178) rfl dX7_takesAll_53 ?_
    refine g_get fgX7_66 zcl_7 (congrArg Prod.fst sh_178) (by decide) ig_178_3 dX7_takesAll_54 ?_
    rw [ha, h3]
    refine g_icmp_ge ⟨by omega, by omega⟩ ⟨by omega, by omega⟩ (t := 69) dX7_takesAll_57 (by decide) (fun h57 => ?_) (fun h57 => ?_)
    · refine g_iconst (x := 1) rfl dX7_takesAll_69 ?_
      exact i_zret rfl (by decide) dX7_takesAll_70 (⟨1, rfl, A.fr, Or.inr ⟨rfl, p, _, by rw [es, if_pos (by omega)], A.f, A.a, rfl⟩⟩)
    · refine g_aload_n (x := 178) rfl dX7_takesAll_60 ?_
      refine i_callV mvX7_takesBeat tw_945 (ci := 7) (congrArg Prod.fst sh_178) rfl (by decide) (c_takesBeat A.q (by rw [ha]; exact ⟨hp0, hp1⟩) hN (by omega)) (by decide) (st' := []) rfl (Nat.le_of_ble_eq_true rfl) rfl dX7_takesAll_61 (fun v_2 ι2 hq_61 => ?_)
      obtain ⟨bι2, rfl, hbι2⟩ := hq_61
      rw [A.a] at hbι2
      have hbι2' : bι2 = 0 ∨ bι2 = 1 := by rcases hbι2.2 with g | g; exact Or.inl g.1; exact Or.inr g.1
      refine g_if_ne ⟨by omega, by omega⟩ (t := 38) dX7_takesAll_64 (by decide) (fun h64 => ?_) (fun h64 => ?_)
      · obtain ⟨hfι2, hb⟩ := hbι2
        rcases hb with ⟨hb0, -⟩ | ⟨-, p2, S, heι2, h4ι2, haι2, hwι2⟩
        · exfalso; omega
        obtain ⟨k1, k2, a, k3, k4⟩ := pBt_ok heι2
        have hh := ih (by omega) ι2 p2 (A.ok k1 hfι2 h4ι2 haι2) (by rw [hwι2, k3, ru_s]; omega) (by rw [hwι2, k3, ru_n _ (by omega), ru_n _ (by omega)]; exact hN)
        refine zGi_mono ?_ hh
        rintro v y ⟨b, hv, hy⟩
        refine ⟨b, hv, ?_⟩
        rw [es, if_neg (by omega), heι2, ← hwι2]
        rw [show (10 - (i + 1)).toNat = (9 - i).toNat by omega] at hy
        exact hy
      · obtain ⟨hfι2, hb⟩ := hbι2
        rcases hb with ⟨-, w9, q9, heι2, hF4, hF11⟩ | ⟨hb0, -⟩
        rotate_left
        · exfalso; omega
        refine g_iconst (x := 0) rfl dX7_takesAll_67 ?_
        exact i_zret rfl (by decide) dX7_takesAll_68 (⟨0, rfl, A.fr.t hfι2, Or.inl ⟨rfl, w9, q9, by rw [es, if_neg (by omega), heι2]; rfl, hF4, hF11⟩⟩)

set_option maxRecDepth 100000 in
theorem lp_takesStreets {h : Int → Int} {L' : Int} (hq : zqM h L' ι) : ∀ i : Int, 0 ≤ i → i ≤ 8 → ∀ (ι1 : zi) (p : Int), zAt ι h L' ι1 p → wb 152 ι1 0 = i → wb 152 ι1 1 = 0 → zGi l (zc D ad L z) mX7_takesAll 3 9 [some (zR 178)] [] ι1 (fun v ι' => ∃ b, v = some (zI b) ∧ zOk ι (pSs h (10 - i).toNat p (wb 152 ι1) >>= fun x => pBs h L' 10 x.1 x.2) b ι') := by
  refine z_loopI (P := fun i => ∀ (ι1 : zi) (p : Int), zAt ι h L' ι1 p → wb 152 ι1 0 = i → wb 152 ι1 1 = 0 → _) (fun i h0 h1 ih ι1 p A hi1 hi0 => ?_)
  have ek1 := w152 ι1 (i := 0) (by decide) (by decide)
  rw [Int.add_zero] at ek1
  have hp0 := A.p0
  have hp1 := A.p1
  have hL := A.q.2.1
  have ha := A.a
  have hhb := zqM_b A.q hp0
  have es : pSs h (10 - i).toNat p (wb 152 ι1) = if wb 152 ι1 0 ≠ 0 ∧ h p = 114 then .ok (p, wb 152 ι1) else pSt h p (wb 152 ι1) >>= fun x => pSs h (9 - i).toNat x.1 x.2 := by rw [show (10 - i).toNat = (9 - i).toNat + 1 by omega]; rfl
  refine g_aload_n (x := 178) rfl dX7_takesAll_9 ?_
  refine g_get fgX7_7 zcl_7 (congrArg Prod.fst sh_178) (by decide) rg_178_0 dX7_takesAll_10 ?_
  refine g_sipush (x := 152) (by decide) dX7_takesAll_13 ?_
  refine g_iald sh_179 (by decide) (by omega) (by omega) (by decide) ag_179 dX7_takesAll_16 ?_
  rw [ek1]
  refine g_if_eq ⟨by omega, by omega⟩ (t := 29) dX7_takesAll_17 (by decide) (fun h17 => ?_) (fun h17 => ?_)
  · refine g_aload_n (x := 178) rfl dX7_takesAll_29 ?_
    refine i_callV mvX7_takesStreet tw_938 (ci := 7) (congrArg Prod.fst sh_178) rfl (by decide) (c_takesStreet A.q (by rw [ha]; exact ⟨hp0, hp1⟩) (by omega)) (by decide) (st' := []) rfl (Nat.le_of_ble_eq_true rfl) rfl dX7_takesAll_30 (fun v_1 ι2 hq_30 => ?_)
    obtain ⟨bι2, rfl, hbι2⟩ := hq_30
    rw [A.a] at hbι2
    have hbι2' : bι2 = 0 ∨ bι2 = 1 := by rcases hbι2.2 with g | g; exact Or.inl g.1; exact Or.inr g.1
    refine g_if_ne ⟨by omega, by omega⟩ (t := 9) dX7_takesAll_33 (by decide) (fun h33 => ?_) (fun h33 => ?_)
    · obtain ⟨hfι2, hb⟩ := hbι2
      rcases hb with ⟨hb0, -⟩ | ⟨-, p2, S, heι2, h4ι2, haι2, hwι2⟩
      · exfalso; omega
      obtain ⟨k1, k2, k, a, c, k3, k4⟩ := pSt_ok heι2
      have hh := ih (by omega) ι2 p2 (A.ok k1 hfι2 h4ι2 haι2) (by rw [hwι2, k3, ru_s]; omega) (by rw [hwι2, k3, ru_n _ (by omega), ru_n _ (by omega), ru_n _ (by omega), ru_n _ (by omega)]; exact hi0)
      refine zGi_mono ?_ hh
      rintro v y ⟨b, hv, hy⟩
      refine ⟨b, hv, ?_⟩
      rw [es, if_neg (by omega), heι2, ← hwι2]
      rw [show (10 - (i + 1)).toNat = (9 - i).toNat by omega] at hy
      exact hy
    · obtain ⟨hfι2, hb⟩ := hbι2
      rcases hb with ⟨-, w9, q9, heι2, hF4, hF11⟩ | ⟨hb0, -⟩
      rotate_left
      · exfalso; omega
      refine g_iconst (x := 0) rfl dX7_takesAll_36 ?_
      exact i_zret rfl (by decide) dX7_takesAll_37 (⟨0, rfl, A.fr.t hfι2, Or.inl ⟨rfl, w9, q9, by rw [es, if_neg (by omega), heι2]; rfl, hF4, hF11⟩⟩)
  · refine g_aload_n (x := 178) rfl dX7_takesAll_20 ?_
    refine i_callVp mvX7_here tw_924 (ci := 7) (congrArg Prod.fst sh_178) rfl (by decide) (c_here A.q (by rw [ha]; exact ⟨hp0, hp1⟩)) (by decide) (st' := []) rfl (Nat.le_of_ble_eq_true rfl) rfl dX7_takesAll_21 ?_
    refine g_bipush (x := 114) (by decide) dX7_takesAll_24 ?_
    rw [ha]
    refine g_icmp_eq ⟨by omega, by omega⟩ (by decide) (t := 38) dX7_takesAll_26 (by decide) (fun h26 => ?_) (fun h26 => ?_)
    · have hh := lp_takesBeats (l := l) (D := D) (ad := ad) (L := L) (z := z) hq 0 (by omega) (by omega) ι1 p A hi0 (by omega)
      refine zGi_mono ?_ hh
      rintro v y ⟨b, hv, hy⟩
      refine ⟨b, hv, ?_⟩
      rw [es, if_pos (by omega)]
      exact hy
    · refine g_aload_n (x := 178) rfl dX7_takesAll_29 ?_
      refine i_callV mvX7_takesStreet tw_938 (ci := 7) (congrArg Prod.fst sh_178) rfl (by decide) (c_takesStreet A.q (by rw [ha]; exact ⟨hp0, hp1⟩) (by omega)) (by decide) (st' := []) rfl (Nat.le_of_ble_eq_true rfl) rfl dX7_takesAll_30 (fun v_2 ι2 hq_30 => ?_)
      obtain ⟨bι2, rfl, hbι2⟩ := hq_30
      rw [A.a] at hbι2
      have hbι2' : bι2 = 0 ∨ bι2 = 1 := by rcases hbι2.2 with g | g; exact Or.inl g.1; exact Or.inr g.1
      refine g_if_ne ⟨by omega, by omega⟩ (t := 9) dX7_takesAll_33 (by decide) (fun h33 => ?_) (fun h33 => ?_)
      · obtain ⟨hfι2, hb⟩ := hbι2
        rcases hb with ⟨hb0, -⟩ | ⟨-, p2, S, heι2, h4ι2, haι2, hwι2⟩
        · exfalso; omega
        obtain ⟨k1, k2, k, a, c, k3, k4⟩ := pSt_ok heι2
        have hh := ih (by omega) ι2 p2 (A.ok k1 hfι2 h4ι2 haι2) (by rw [hwι2, k3, ru_s]; omega) (by rw [hwι2, k3, ru_n _ (by omega), ru_n _ (by omega), ru_n _ (by omega), ru_n _ (by omega)]; exact hi0)
        refine zGi_mono ?_ hh
        rintro v y ⟨b, hv, hy⟩
        refine ⟨b, hv, ?_⟩
        rw [es, if_neg (by omega), heι2, ← hwι2]
        rw [show (10 - (i + 1)).toNat = (9 - i).toNat by omega] at hy
        exact hy
      · obtain ⟨hfι2, hb⟩ := hbι2
        rcases hb with ⟨-, w9, q9, heι2, hF4, hF11⟩ | ⟨hb0, -⟩
        rotate_left
        · exfalso; omega
        refine g_iconst (x := 0) rfl dX7_takesAll_36 ?_
        exact i_zret rfl (by decide) dX7_takesAll_37 (⟨0, rfl, A.fr.t hfι2, Or.inl ⟨rfl, w9, q9, by rw [es, if_neg (by omega), heι2]; rfl, hF4, hF11⟩⟩)

set_option maxRecDepth 100000 in
theorem c_takesAll {h : Int → Int} {L' : Int} (hq : zqM h L' ι) (hp : ι 178 10 = 0) (hR : wb 152 ι = fun _ => 0) : zCi l (zc D ad L z) mX7_takesAll 3 [zR 178] ι (fun v ι' => ∃ b, v = some (zI b) ∧ zOk ι (pAl h L' (fun _ => 0)) b ι') := by
  refine zCt_of (by decide) (Nat.le_of_ble_eq_true rfl) 0 rfl ?_
  have hL := hq.2.1
  have A : zAt ι h L' ι 0 := ⟨zFr.r ι, hq, rfl, hp, by omega, by omega⟩
  have es : pAl h L' (fun _ => 0) = pLw h 0 (wb 152 ι) >>= fun x => pSs h 10 x.1 x.2 >>= fun y => pBs h L' 10 y.1 y.2 := by rw [hR]; rfl
  refine g_aload_n (x := 178) rfl dX7_takesAll_0 ?_
  refine i_callV mvX7_takesLaw tw_916 (ci := 7) (congrArg Prod.fst sh_178) rfl (by decide) (c_takesLaw A.q (by rw [A.a]; exact ⟨by omega, by omega⟩)) (by decide) (st' := []) rfl (Nat.le_of_ble_eq_true rfl) rfl dX7_takesAll_1 (fun v_1 ι2 hq_1 => ?_)
  obtain ⟨bι2, rfl, hbι2⟩ := hq_1
  rw [A.a] at hbι2
  have hbι2' : bι2 = 0 ∨ bι2 = 1 := by rcases hbι2.2 with g | g; exact Or.inl g.1; exact Or.inr g.1
  refine g_if_ne ⟨by omega, by omega⟩ (t := 9) dX7_takesAll_4 (by decide) (fun h4 => ?_) (fun h4 => ?_)
  · obtain ⟨hfι2, hb⟩ := hbι2
    rcases hb with ⟨hb0, -⟩ | ⟨-, p2, S, heι2, h4ι2, haι2, hwι2⟩
    · exfalso; omega
    obtain ⟨k1, a, c, k3, k4⟩ := pLw_ok heι2
    have hh := lp_takesStreets (l := l) (D := D) (ad := ad) (L := L) (z := z) hq 0 (by omega) (by omega) ι2 p2 (A.ok k1 hfι2 h4ι2 haι2) (by rw [hwι2, k3, ru_n _ (by omega), ru_n _ (by omega), hR]) (by rw [hwι2, k3, ru_n _ (by omega), ru_n _ (by omega), hR])
    refine zGi_mono ?_ hh
    rintro v y ⟨b, hv, hy⟩
    refine ⟨b, hv, ?_⟩
    rw [es, heι2, ← hwι2]
    exact hy
  · obtain ⟨hfι2, hb⟩ := hbι2
    rcases hb with ⟨-, w9, q9, heι2, hF4, hF11⟩ | ⟨hb0, -⟩
    rotate_left
    · exfalso; omega
    refine g_iconst (x := 0) rfl dX7_takesAll_7 ?_
    exact i_zret rfl (by decide) dX7_takesAll_8 (⟨0, rfl, hfι2, Or.inl ⟨rfl, w9, q9, by rw [es, heι2]; rfl, hF4, hF11⟩⟩)

/-- what town() answers and leaves -/
def zTn (ι : zi) (E : zE (Int × zr)) (v : Option zV) (ι' : zi) : Prop := (∀ b x, (b ≠ 178 ∨ (x ≠ 1 ∧ x ≠ 3 ∧ x ≠ 4 ∧ x ≠ 10 ∧ x ≠ 11 ∧ x ≠ 12)) → (b ≠ 179 ∨ (38 ≤ x ∧ x < 152) ∨ 190 ≤ x ∨ x < 0) → ι' b x = ι b x) ∧ ι' 178 3 = 0 ∧
  ((∃ w q, E = .error (w, q) ∧ v = some (zI (-1000100 - q)) ∧ ι' 178 4 = w ∧ ι' 178 1 = ι 178 1 ∧ wb 0 ι' = wb 0 ι) ∨ (∃ p R, E = .ok (p, R) ∧ v = some (zI (R 0)) ∧ ι' 178 4 = ι 178 4 ∧ ι' 178 1 = 0 ∧ wb 0 ι' = R))
def wzr (ι : zi) (n : Int) : zi := fun b x => if b = 179 ∧ 152 ≤ x ∧ x < 152 + n then 0 else ι b x
theorem wzr_0 (ι : zi) : wzr ι 0 = ι := by
  funext b x
  exact if_neg (by omega)
theorem wzr_s {ι : zi} {i : Int} (h : 0 ≤ i) : iup (wzr ι i) 179 (152 + i) 0 = wzr ι (i + 1) := by
  funext b x
  simp only [wzr, iup]
  (repeat' split) <;> first | rfl | (exfalso; omega)
set_option maxRecDepth 100000 in
theorem lp_mTown {h : Int → Int} {L' : Int} (hq : zqM h L' ι) : ∀ i : Int, 0 ≤ i → i ≤ 38 → zGi l (zc D ad L z) mX7_town 4 2 [some (zR 178), some (zI i)] [] (wzr ι i) (fun v ι' => zTn ι (pAl h L' (fun _ => 0)) v ι') := by
  refine z_loopI (fun i h0 h1 ih => ?_)
  obtain ⟨ι1, hι1⟩ : ∃ y, y = wzr ι i := ⟨_, rfl⟩
  rw [← hι1]
  refine g_iload_n (x := i) rfl dX7_town_2 ?_
  refine g_bipush (x := 38) (by decide) dX7_town_3 ?_
  refine g_icmp_ge ⟨by omega, by omega⟩ (by decide) (t := 25) dX7_town_5 (by decide) (fun h5 => ?_) (fun h5 => ?_)
  · refine g_aload_n (x := 178) rfl dX7_town_25 ?_
    refine g_iconst (x := 0) rfl dX7_town_26 ?_
    obtain ⟨ι3, hι3⟩ : ∃ y_, y_ = iup ι1 178 10 0 := ⟨_, rfl⟩
    refine i_put fwX7_70 zcl_7 (congrArg Prod.fst sh_178) (by decide) (by decide) (ι1 := ι3) (by rw [hι3]; exact iu_178_10) dX7_town_27 ?_
    have ei : i = 38 := by omega
    rw [ei] at hι1
    have F1 : zFr ι ι3 := by
      intro b x g1 g2
      rw [hι3, iup_n _ (by omega), hι1]
      exact if_neg (by omega)
    have W3 : wb 152 ι3 = fun _ => 0 := by
      rw [hι3, wb_up (Or.inl (by decide))]
      funext j
      by_cases g : 0 ≤ j ∧ j < 38
      · rw [wb_i _ _ g.1 g.2, hι1]; exact if_pos (by omega)
      · rw [wb_tz _ _ j (by omega)]
    have F4 : ι3 178 4 = ι 178 4 := by rw [hι3, iup_n _ (by decide), hι1]; exact if_neg (by decide)
    refine g_aload_n (x := 178) rfl dX7_town_30 ?_
    refine i_callV mvX7_takesAll tw_912 (ci := 7) (congrArg Prod.fst sh_178) rfl (by decide) (c_takesAll (F1.q hq) (by rw [hι3, iup_s]) W3) (by decide) (st' := []) rfl (Nat.le_of_ble_eq_true rfl) rfl dX7_town_31 (fun v_1 ι4 hq_31 => ?_)
    obtain ⟨b4, rfl, hb4, hbb⟩ := hq_31
    have hb01 : b4 = 0 ∨ b4 = 1 := by rcases hbb with g | g; exact Or.inl g.1; exact Or.inr g.1
    have F5 := F1.t hb4
    refine g_istore_n (ls' := [some (zR 178), some (zI b4)]) dX7_town_34 (by decide) rfl ?_
    refine g_aload_n (x := 178) rfl dX7_town_35 ?_
    refine g_iconst (x := 0) rfl dX7_town_36 ?_
    obtain ⟨ι5, hι5⟩ : ∃ y_, y_ = iup ι4 178 3 0 := ⟨_, rfl⟩
    refine i_put fwX7_66 zcl_7 (congrArg Prod.fst sh_178) (by decide) (by decide) (ι1 := ι5) (by rw [hι5]; exact iu_178_3) dX7_town_37 ?_
    refine g_iload_n (x := b4) rfl dX7_town_40 ?_
    refine g_if_ne ⟨by omega, by omega⟩ (t := 52) dX7_town_41 (by decide) (fun h41 => ?_) (fun h41 => ?_)
    · rcases hbb with ⟨hb0, -⟩ | ⟨-, p, R, he, h4, h10, hW⟩
      · exfalso; omega
      refine g_aload_n (x := 178) rfl dX7_town_52 ?_
      refine g_sipush (x := 152) (by decide) dX7_town_53 ?_
      refine g_iconst (x := 0) rfl dX7_town_56 ?_
      refine i_callV mvX7_copyOf tw_950 (ci := 7) (congrArg Prod.fst sh_178) rfl (by decide) (c_copyOf (by decide) (by decide) (by decide)) (by decide) (st' := []) rfl (Nat.le_of_ble_eq_true rfl) rfl dX7_town_57 (fun v_2 ι6 hq_57 => ?_)
      obtain ⟨rfl, hι6⟩ := hq_57
      refine g_aload_n (x := 178) rfl dX7_town_60 ?_
      refine g_iconst (x := 0) rfl dX7_town_61 ?_
      obtain ⟨ι7, hι7⟩ : ∃ y_, y_ = iup ι6 178 1 0 := ⟨_, rfl⟩
      refine i_put fwX7_121 zcl_7 (congrArg Prod.fst sh_178) (by decide) (by decide) (ι1 := ι7) (by rw [hι7]; exact iu_178_1) dX7_town_62 ?_
      refine g_aload_n (x := 178) rfl dX7_town_65 ?_
      refine g_get fgX7_7 zcl_7 (congrArg Prod.fst sh_178) (by decide) rg_178_0 dX7_town_66 ?_
      refine g_iconst (x := 0) rfl dX7_town_69 ?_
      refine g_iald sh_179 (by decide) (by omega) (by omega) (by decide) ag_179 dX7_town_70 ?_
      exact i_iret rfl dX7_town_71 (⟨fun b x g1 g2 => by rw [hι7, iup_n _ (by omega), hι6, wp_o _ _ _ (by omega), hι5, iup_n _ (by omega)]; exact F5 b x (by omega) (by omega), by rw [hι7, iup_n _ (by decide), hι6, wp_o _ _ _ (by decide), hι5, iup_s], Or.inr ⟨p, R, he, by rw [hι7, iup_n _ (by decide), ← w0 ι6 (by decide) (by decide), hι6, wb_wp 0 (wb_tz 152 _), hι5, wb_up (Or.inl (by decide)), hW], by rw [hι7, iup_n _ (by decide), hι6, wp_o _ _ _ (by decide), hι5, iup_n _ (by decide), h4, F4], by rw [hι7, iup_s], by rw [hι7, wb_up (Or.inl (by decide)), hι6, wb_wp 0 (wb_tz 152 _), hι5, wb_up (Or.inl (by decide)), hW]⟩⟩)
    · rcases hbb with ⟨-, w9, q9, he, hF4, hF11⟩ | ⟨hb0, -⟩
      rotate_left
      · exfalso; omega
      refine g_ldc (x := -1000100) tw_949 (by decide) dX7_town_44 ?_
      refine g_aload_n (x := 178) rfl dX7_town_46 ?_
      refine g_get fgX7_76 zcl_7 (congrArg Prod.fst sh_178) (by decide) ig_178_11 dX7_town_47 ?_
      refine g_isub dX7_town_50 ?_
      exact i_iret rfl dX7_town_51 (⟨fun b x g1 g2 => by rw [hι5, iup_n _ (by omega)]; exact F5 b x (by omega) (by omega), by rw [hι5, iup_s], Or.inl ⟨w9, q9, he, by rw [hι5, iup_n _ (by decide), hF11], by rw [hι5, iup_n _ (by decide), hF4], by rw [hι5, iup_n _ (by decide)]; exact F5 178 1 (by decide) (by decide), by
      rw [hι5, wb_up (Or.inl (by decide))]
      funext j
      by_cases g : 0 ≤ j ∧ j < 38
      · rw [wb_i _ _ g.1 g.2, wb_i _ _ g.1 g.2]; exact F5 _ _ (by omega) (by omega)
      · rw [wb_tz _ _ j (by omega), wb_tz _ _ j (by omega)]⟩⟩)
  · refine g_aload_n (x := 178) rfl dX7_town_8 ?_
    refine g_get fgX7_7 zcl_7 (congrArg Prod.fst sh_178) (by decide) rg_178_0 dX7_town_9 ?_
    refine g_sipush (x := 152) (by decide) dX7_town_12 ?_
    refine g_iload_n (x := i) rfl dX7_town_15 ?_
    refine g_iadd dX7_town_16 ?_
    refine g_iconst (x := 0) rfl dX7_town_17 ?_
    obtain ⟨ι2, hι2⟩ : ∃ y_, y_ = iup ι1 179 (152 + i) 0 := ⟨_, rfl⟩
    refine i_iast sh_179 (by decide) (by decide) (by omega) (by omega) (by decide) (ι1 := ι2) (by rw [hι2]; exact au_179) dX7_town_18 ?_
    refine g_iinc (x := i) (y := i + 1) (ls' := [some (zR 178), some (zI (i + 1))]) dX7_town_19 rfl (rfl) (by decide) rfl ?_
    refine g_goto (t := 2) dX7_town_22 (by decide) ?_
    have e2 : ι2 = wzr ι (i + 1) := by rw [hι2, hι1, wzr_s h0]
    rw [e2]
    exact ih (by omega)

set_option maxRecDepth 100000 in
theorem c_mTown {h : Int → Int} {L' : Int} (hq : zqM h L' ι) : zCi l (zc D ad L z) mX7_town 4 [zR 178] ι (fun v ι' => zTn ι (pAl h L' (fun _ => 0)) v ι') := by
  refine zCt_of (by decide) (Nat.le_of_ble_eq_true rfl) 1 rfl ?_
  refine g_iconst (x := 0) rfl dX7_town_0 ?_
  refine g_istore_n (ls' := [some (zR 178), some (zI 0)]) dX7_town_1 (by decide) rfl ?_
  have hh := lp_mTown (l := l) (D := D) (ad := ad) (L := L) (z := z) hq 0 (by omega) (by omega)
  rw [wzr_0] at hh
  exact hh

end
