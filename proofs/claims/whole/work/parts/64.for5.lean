section
variable {l : Launch} {D : va_G} {ad : Nat → Nat} {L z : Nat} {ι : zi}
theorem zfd_c {α : Type} {f g : α → Int → α} {s : α} {n : Int} (h : ∀ i x, 0 ≤ i → i < n → f x i = g x i) (hn : 0 ≤ n) : zfd f s n = zfd g s n := by
  have key : ∀ k : Nat, (k : Int) ≤ n → zfdN f s k = zfdN g s k := by
    intro k
    induction k with
    | zero => intro _; rfl
    | succ k ih =>
      intro hk
      rw [zfdN, zfdN, ih (by omega)]
      exact h k _ (by omega) (by omega)
  exact key n.toNat (by omega)
theorem znv_c {K h hr c : Int} {v v' : Int → Int} (hv : ∀ x, 0 ≤ x → x < 21 → v x = v' x) : znv K h hr c v = znv K h hr c v' := by
  unfold znv
  exact zfd_c (fun i x h0 h1 => znx_c (hv i h0 h1) rfl) (by decide)
/-- the chances behind i hours -/
def zcA (R : zr) (s c i : Int) : Int → Int := zfd (fun v i => znv (R (6 + s)) (zhr (ru R 4 (R 4 + i)) s) (R 4 + i) c v) (ru (fun _ => 0) (R (14 + s)) 1) i
theorem zcA_s {R : zr} {s c i : Int} (h : 0 ≤ i) : zcA R s c (i + 1) = znv (R (6 + s)) (zhr (ru R 4 (R 4 + i)) s) (R 4 + i) c (zcA R s c i) := zfd_s _ _ h
def zCs (ι ι1 : zi) : Prop := ∀ b x, b < 165 ∨ 176 ≤ b → ι1 b x = ι b x
theorem zCs_tb {ι ι' : zi} (h : zCs ι ι') : tb 23 ι' = tb 23 ι := by
  funext i
  unfold tb
  rw [h 23 _ (by omega), h (23 + 1) _ (by omega), h (23 + 2) _ (by omega), h (23 + 3) _ (by omega), h (23 + 4) _ (by omega)]
theorem zCh_of {ι : zi} {p q : Nat} (hpq : zPQ p q) (h3 : ι 165 3 = (p : Int)) (h4 : ι 165 4 = (q : Int)) : zCh ι := by
  unfold zPQ at hpq
  unfold zCh
  omega
theorem zPQ_of {ι : zi} (h : zCh ι) : ∃ p q, zPQ p q ∧ ι 165 3 = (p : Int) ∧ ι 165 4 = (q : Int) := by
  rcases h with ⟨a, b⟩ | ⟨a, b⟩
  · exact ⟨173, 174, Or.inl ⟨rfl, rfl⟩, a, b⟩
  · exact ⟨174, 173, Or.inr ⟨rfl, rfl⟩, a, b⟩
theorem zPQ.sw {p q : Nat} (h : zPQ p q) : zPQ q p := by unfold zPQ at h ⊢; omega
set_option maxRecDepth 100000 in
theorem lp_chancesAwake (hT : zTM (tb 23 ι)) (hN : 0 < tb 23 ι 0) {s n c : Int} (hs : 0 ≤ s ∧ s < tb 23 ι 0) (hn : 0 ≤ n ∧ n ≤ 8) (hc : 0 ≤ c ∧ c ≤ 10) : ∀ i : Int, 0 ≤ i → i ≤ n → ∀ (p q : Nat) (ι1 : zi), zPQ p q → ι1 165 3 = (p : Int) → ι1 165 4 = (q : Int) → zCs ι ι1 → tb 166 ι1 = ru (tb 23 ι) 4 (tb 23 ι 4 + i) → (∀ x, 0 ≤ x → x < 21 → ι1 p x = zcA (tb 23 ι) s c i x) → zGi l (zc D ad L z) mX2_chancesAwake 4 31 [some (zR 165), some (zR 23), some (zI s), some (zI n), some (zI c), some (zI i)] [] ι1 (fun v ι' => v = some (zI (zcA (tb 23 ι) s c n 0)) ∧ zCs ι ι' ∧ zCh ι') := by
  refine z_loopI (P := fun i => ∀ (p q : Nat) (ι1 : zi), zPQ p q → ι1 165 3 = (p : Int) → ι1 165 4 = (q : Int) → zCs ι ι1 → tb 166 ι1 = ru (tb 23 ι) 4 (tb 23 ι 4 + i) → (∀ x, 0 ≤ x → x < 21 → ι1 p x = zcA (tb 23 ι) s c i x) → _) (fun i h0 h1 ih p q ι1 hpq h3 h4 hC hR hv => ?_)
  obtain ⟨hV, hNB, hH9⟩ := id hT
  obtain ⟨hV0, hV1, hV2, hV3, hV4, hV5, hVk, hVw⟩ := id hV
  have hB := hNB hN
  have q0 := tb_0 23 ι
  have q1 := tb_1 23 ι
  have q2 := tb_2 23 ι
  have q3 := tb_3 23 ι
  have q4 := tb_4 23 ι
  have q5 := tb_5 23 ι
  have hb := zPQ.b hpq
  obtain ⟨hk1, hk2, hk3⟩ := hVk s hs.1 hs.2
  have hzR := ru_tz (tb_tz 23 ι) (i := 4) (v := tb 23 ι 4 + i) (by decide) (by decide)
  have t0 := tb_0 166 ι1
  have t1 := tb_1 166 ι1
  have t2 := tb_2 166 ι1
  have t4 := tb_4 166 ι1
  rw [hR, ru_s] at t4
  rw [hR, ru_n _ (by decide)] at t0 t1 t2
  have o6 : ι1 167 s = tb 23 ι (6 + s) := by rw [← tb_k 166 ι1 hs.1 (by omega), hR, ru_n _ (by omega)]
  refine g_iload (x := i) rfl dX2_chancesAwake_31 ?_
  refine g_iload_n (x := n) rfl dX2_chancesAwake_33 ?_
  refine g_icmp_ge ⟨by omega, by omega⟩ ⟨by omega, by omega⟩ (t := 86) dX2_chancesAwake_34 (by decide) (fun h34 => ?_) (fun h34 => ?_)
  · refine g_aload_n (x := 165) rfl dX2_chancesAwake_86 ?_
    refine g_get fgX2_25 zcl_2 (congrArg Prod.fst sh_165) (by decide) rg_165_3 dX2_chancesAwake_87 ?_
    rw [show (ι1 165 3).toNat = p by omega]
    refine g_iconst (x := 0) rfl dX2_chancesAwake_90 ?_
    refine g_iald (sh_arr (zPQ.p hpq) (by omega)) (by omega) (by omega) (by omega) (by omega) (zg_arr (zPQ.p hpq)) dX2_chancesAwake_91 ?_
    exact i_iret rfl dX2_chancesAwake_92 (⟨by rw [hv 0 (by decide) (by decide), show i = n by omega], hC, zCh_of hpq h3 h4⟩)
  · refine g_aload_n (x := 165) rfl dX2_chancesAwake_37 ?_
    refine g_aload_n (x := 165) rfl dX2_chancesAwake_38 ?_
    refine g_get fgX2_14 zcl_2 (congrArg Prod.fst sh_165) (by decide) rg_165_0 dX2_chancesAwake_39 ?_
    refine g_get fgX2_97 zcl_5 (congrArg Prod.fst sh_166) (by decide) rg_166_0 dX2_chancesAwake_42 ?_
    refine g_iload_n (x := s) rfl dX2_chancesAwake_45 ?_
    refine g_iald sh_167 (by decide) (by omega) (by omega) (by decide) ag_167 dX2_chancesAwake_46 ?_
    rw [o6]
    refine g_aload_n (x := 165) rfl dX2_chancesAwake_47 ?_
    refine g_get fgX2_14 zcl_2 (congrArg Prod.fst sh_165) (by decide) rg_165_0 dX2_chancesAwake_48 ?_
    refine g_iload_n (x := s) rfl dX2_chancesAwake_51 ?_
    refine i_callVp mvX5_hears tw_721 (ci := 5) (congrArg Prod.fst sh_166) rfl (by decide) (c_hears tt_166 (by omega) (by omega) (by omega) (fun b g0 g1 => by have := hVw b g0 (by omega); rw [← tb_w 166 ι1 g0 (by omega), hR, ru_n _ (by omega)]; omega) ⟨by omega, by omega⟩) (by decide) (st' := [zI (tb 23 ι (6 + s)), zR 165]) rfl (Nat.le_of_ble_eq_true rfl) rfl dX2_chancesAwake_52 ?_
    refine g_aload_n (x := 165) rfl dX2_chancesAwake_55 ?_
    refine g_get fgX2_14 zcl_2 (congrArg Prod.fst sh_165) (by decide) rg_165_0 dX2_chancesAwake_56 ?_
    refine g_get fgX2_87 zcl_5 (congrArg Prod.fst sh_166) (by decide) ig_166_8 dX2_chancesAwake_59 ?_
    refine g_iload (x := c) rfl dX2_chancesAwake_62 ?_
    rw [hR, ← t4]
    refine i_callV mvX2_takeChances tw_722 (ci := 2) (congrArg Prod.fst sh_165) rfl (by decide) (c_takeChances hpq h3 h4 (K := tb 23 ι (6 + s)) (h := zhr (ru (tb 23 ι) 4 (tb 23 ι 4 + i)) s) (hr := tb 23 ι 4 + i) hk1 (by unfold zhr zhf; split <;> simp) (by omega) hc) (by decide) (st' := []) rfl (Nat.le_of_ble_eq_true rfl) rfl dX2_chancesAwake_64 (fun v_1 ι2 hq_64 => ?_)
    obtain ⟨rfl, hι2⟩ := hq_64
    have a8 : ι2 166 8 = tb 23 ι 4 + i := by rw [hι2, iup_n _ (by omega), iup_n _ (by omega), zpa_o (by omega), t4]
    refine g_aload_n (x := 165) rfl dX2_chancesAwake_67 ?_
    refine g_get fgX2_14 zcl_2 (congrArg Prod.fst sh_165) (by decide) rg_165_0 dX2_chancesAwake_68 ?_
    refine g_dupR dX2_chancesAwake_71 ?_
    refine g_get fgX2_87 zcl_5 (congrArg Prod.fst sh_166) (by decide) ig_166_8 dX2_chancesAwake_72 ?_
    refine g_iconst (x := 1) rfl dX2_chancesAwake_75 ?_
    rw [a8]
    refine g_iadd dX2_chancesAwake_76 ?_
    obtain ⟨ι3, hι3⟩ : ∃ y_, y_ = iup ι2 166 8 ((tb 23 ι 4 + i) + 1) := ⟨_, rfl⟩
    refine i_put fwX2_87 zcl_5 (congrArg Prod.fst sh_166) (by decide) (by decide) (ι1 := ι3) (by rw [hι3]; exact iu_166_8) dX2_chancesAwake_77 ?_
    refine g_iinc (x := i) (y := i + 1) (ls' := [some (zR 165), some (zR 23), some (zI s), some (zI n), some (zI c), some (zI (i + 1))]) dX2_chancesAwake_80 rfl (rfl) (by decide) rfl ?_
    refine g_goto (t := 31) dX2_chancesAwake_83 (by decide) ?_
    refine ih (by omega) q p ι3 hpq.sw (by rw [hι3, iup_n _ (by omega), hι2, iup_n _ (by omega), iup_s]) (by rw [hι3, iup_n _ (by omega), hι2, iup_s]) (fun b x hx => by rw [hι3, iup_n _ (by omega), hι2, iup_n _ (by omega), iup_n _ (by omega), zpa_o (by omega)]; exact hC b x hx) ?_ (fun x x0 x1 => ?_)
    · have e2 : tb 166 ι2 = tb 166 ι1 := by
        funext y
        unfold tb
        simp (disch := omega) only [hι2, iup_n, zpa_o]
      rw [hι3, tp_up_s 166 ι2 (by decide) (by decide), tb_tp 166 (ru_tz (tb_tz 166 ι2) (by decide) (by decide)), e2, hR]
      funext y
      unfold ru
      by_cases g : y = 4
      · rw [if_pos (by omega), if_pos g]; omega
      · rw [if_neg (by omega), if_neg g, if_neg g]
    · rw [zcA_s h0, hι3, iup_n _ (by omega), hι2, iup_n _ (by omega), iup_n _ (by omega), zpa_i x0 x1, znv_c hv]

set_option maxRecDepth 100000 in
theorem c_chancesAwake (hT : zTM (tb 23 ι)) (hN : 0 < tb 23 ι 0) (hch : zCh ι) {s n c : Int} (hs : 0 ≤ s ∧ s < tb 23 ι 0) (hn : 0 ≤ n ∧ n ≤ 8) (hc : 0 ≤ c ∧ c ≤ 10) : zCi l (zc D ad L z) mX2_chancesAwake 4 [zR 165, zR 23, zI s, zI n, zI c] ι (fun v ι' => v = some (zI (zcA (tb 23 ι) s c n 0)) ∧ zCs ι ι' ∧ zCh ι') := by
  refine zCt_of (by decide) (Nat.le_of_ble_eq_true rfl) 1 rfl ?_
  obtain ⟨hV, hNB, hH9⟩ := id hT
  obtain ⟨hV0, hV1, hV2, hV3, hV4, hV5, hVk, hVw⟩ := id hV
  have hB := hNB hN
  have q0 := tb_0 23 ι
  have q1 := tb_1 23 ι
  have q2 := tb_2 23 ι
  have q3 := tb_3 23 ι
  have q4 := tb_4 23 ι
  have q5 := tb_5 23 ι
  obtain ⟨p, q, hpq, h3, h4⟩ := zPQ_of hch
  have hb := zPQ.b hpq
  obtain ⟨hk1, hk2, hk3⟩ := hVk s hs.1 hs.2
  refine g_aload_n (x := 165) rfl dX2_chancesAwake_0 ?_
  refine g_get fgX2_14 zcl_2 (congrArg Prod.fst sh_165) (by decide) rg_165_0 dX2_chancesAwake_1 ?_
  refine g_aload_n (x := 23) rfl dX2_chancesAwake_4 ?_
  refine i_callV mvX5_become tw_565 (ci := 5) (congrArg Prod.fst sh_166) rfl (by decide) (c_become tt_166 tt_23 (by decide)) (by decide) (st' := []) rfl (Nat.le_of_ble_eq_true rfl) rfl dX2_chancesAwake_5 (fun v_1 ι1 hq_5 => ?_)
  obtain ⟨rfl, hι1⟩ := hq_5
  have e1 : tb 166 ι1 = tb 23 ι := by rw [hι1, tb_tp 166 (tb_tz 23 ι)]
  refine g_aload_n (x := 165) rfl dX2_chancesAwake_8 ?_
  have a3 : ι1 165 3 = (p : Int) := by rw [hι1, tp_o 166 _ _ (by omega) 3, h3]
  have a4 : ι1 165 4 = (q : Int) := by rw [hι1, tp_o 166 _ _ (by omega) 4, h4]
  refine g_get fgX2_25 zcl_2 (congrArg Prod.fst sh_165) (by decide) rg_165_3 dX2_chancesAwake_9 ?_
  rw [show (ι1 165 3).toNat = p by omega]
  refine g_iconst (x := 0) rfl dX2_chancesAwake_12 ?_
  refine i_callS msJ7_fill_53178 tw_720 (c_fill (zPQ.p hpq) (by omega) (by omega) (by decide)) (by decide) (st' := []) rfl (Nat.le_of_ble_eq_true rfl) rfl dX2_chancesAwake_13 (fun v_2 ι2 hq_13 => ?_)
  obtain ⟨rfl, hι2⟩ := hq_13
  have b3 : ι2 165 3 = (p : Int) := by rw [hι2, ifill_n _ (by omega), a3]
  have b4 : ι2 165 4 = (q : Int) := by rw [hι2, ifill_n _ (by omega), a4]
  have b5 : ι2 25 s = tb 23 ι (14 + s) := by rw [hι2, ifill_n _ (by omega), hι1, tp_o 166 _ _ (by omega) s, tb_d 23 ι hs.1 (by omega)]
  refine g_aload_n (x := 165) rfl dX2_chancesAwake_16 ?_
  refine g_get fgX2_25 zcl_2 (congrArg Prod.fst sh_165) (by decide) rg_165_3 dX2_chancesAwake_17 ?_
  rw [show (ι2 165 3).toNat = p by omega]
  refine g_aload_n (x := 23) rfl dX2_chancesAwake_20 ?_
  refine g_get fgX2_81 zcl_5 (congrArg Prod.fst sh_23) (by decide) rg_23_1 dX2_chancesAwake_21 ?_
  refine g_iload_n (x := s) rfl dX2_chancesAwake_24 ?_
  refine g_iald sh_25 (by decide) (by omega) (by omega) (by decide) ag_25 dX2_chancesAwake_25 ?_
  rw [b5]
  refine g_iconst (x := 1) rfl dX2_chancesAwake_26 ?_
  obtain ⟨ι3, hι3⟩ : ∃ y_, y_ = iup ι2 p (tb 23 ι (14 + s)) 1 := ⟨_, rfl⟩
  refine i_iast (sh_arr (zPQ.p hpq) (by omega)) (by omega) (by omega) (by omega) (by omega) (by omega) (ι1 := ι3) (by rw [hι3]; exact (zg_arr_up (zPQ.p hpq))) dX2_chancesAwake_27 ?_
  refine g_iconst (x := 0) rfl dX2_chancesAwake_28 ?_
  refine g_istore (ls' := [some (zR 165), some (zR 23), some (zI s), some (zI n), some (zI c), some (zI 0)]) dX2_chancesAwake_29 (by decide) rfl ?_
  refine lp_chancesAwake (l := l) (D := D) (ad := ad) (L := L) (z := z) hT hN hs hn hc 0 (by omega) (by omega) p q ι3 hpq (by rw [hι3, iup_n _ (by omega), b3]) (by rw [hι3, iup_n _ (by omega), b4]) (fun b x hx => by rw [hι3, iup_n _ (by omega), hι2, ifill_n _ (by omega), hι1, tp_o 166 _ _ (by omega) x]) ?_ (fun x x0 x1 => ?_)
  · have e2 : tb 166 ι3 = tb 166 ι1 := by
      funext y
      unfold tb
      simp (disch := omega) only [hι3, hι2, iup_n, ifill_n]
    rw [e2, e1]
    funext y
    unfold ru
    by_cases g : y = 4
    · rw [if_pos g, g]; omega
    · rw [if_neg g]
  · unfold zcA
    rw [zfd_0, hι3]
    unfold iup ru
    by_cases g : x = tb 23 ι (14 + s)
    · rw [if_pos ⟨rfl, g⟩, if_pos g]
    · rw [if_neg (fun k => g k.2), if_neg g, hι2]
      exact if_pos ⟨rfl, x0, x1⟩

end
