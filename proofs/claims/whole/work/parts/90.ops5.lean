section
variable {l : Launch} {D : va_G} {ad : Nat → Nat} {L z : Nat} {ι : zi} {B : Int}
/-! acts: the ring, the rows that may be undone -/
theorem zmd_r (hu : 0 ≤ ι 178 1 ∧ ι 178 1 ≤ 24) {j : Int} (h0 : 0 ≤ j) (h1 : j < 24) : wb (190 + 38 * j) (zmd ι) = if ι 178 1 = 24 then (if j = 23 then wb 0 ι else wb (190 + 38 * (j + 1)) ι) else (if j = ι 178 1 then wb 0 ι else wb (190 + 38 * j) ι) := by
  unfold zmd
  by_cases g : ι 178 1 = 24
  · rw [if_pos g, if_pos g, wb_up (Or.inl (by decide)), wb_up (Or.inl (by decide))]
    by_cases gj : j = 23
    · rw [if_pos gj, gj, show (190 + 38 * 23 : Int) = 1064 by decide, wb_wp _ (wb_tz 0 ι)]
    · rw [if_neg gj, wb_wpo (Or.inl (by omega))]
      funext i
      by_cases gi : 0 ≤ i ∧ i < 38
      · rw [wb_i _ _ gi.1 gi.2, wb_i _ _ gi.1 gi.2, icpy_i _ (by omega) (by omega)]
        congr 1
        omega
      · rw [wb_tz _ _ i (by omega), wb_tz _ _ i (by omega)]
  · rw [if_neg g, if_neg g, wb_up (Or.inl (by decide))]
    by_cases gj : j = ι 178 1
    · rw [if_pos gj, gj, wb_wp _ (wb_tz 0 ι)]
    · rw [if_neg gj, wb_wpo (by omega)]
theorem zU_act {ι2 : zi} (hU : zU ι B) (hT : zT (tb 23 ι) (wb 0 ι) B) (c1 : ι2 43 1 = (ι 43 1 + 1) % 24) (c2 : ι2 43 2 = zmin (ι 43 2 + 1) 24) (c3 : tb (45 + 5 * (ι 43 1).toNat) ι2 = tb 23 ι) (c4 : ∀ m : Nat, m < 24 → m ≠ (ι 43 1).toNat → tb (45 + 5 * m) ι2 = tb (45 + 5 * m) ι)
    (m1 : ι2 178 1 = if ι 178 1 = 24 then 24 else ι 178 1 + 1) (m2 : ∀ j, 0 ≤ j → j < 24 → wb (190 + 38 * j) ι2 = if ι 178 1 = 24 then (if j = 23 then wb 0 ι else wb (190 + 38 * (j + 1)) ι) else (if j = ι 178 1 then wb 0 ι else wb (190 + 38 * j) ι)) : zU ι2 B := by
  obtain ⟨h1, h2, h3, h4⟩ := hU
  have e2 : ι2 43 2 = if ι 43 2 = 24 then 24 else ι 43 2 + 1 := by
    rw [c2]; unfold zmin; (repeat' split) <;> omega
  rw [h3] at m1 m2
  refine ⟨by rw [c1]; exact ⟨Int.emod_nonneg _ (by decide), Int.emod_lt_of_pos _ (by decide)⟩, by rw [e2]; split <;> omega, by rw [m1, e2], fun j j0 j1 => ?_⟩
  rw [e2] at j1
  have hj : j < 24 := by split at j1 <;> omega
  rw [m2 j j0 hj]
  have hr : zRg ι2 j = 45 + 5 * (((ι 43 1 + 1) % 24 - (if ι 43 2 = 24 then 24 else ι 43 2 + 1) + j + 24) % 24).toNat := by unfold zRg; rw [c1, e2]
  by_cases g : ι 43 2 = 24
  · rw [if_pos g] at j1 hr ⊢
    by_cases gj : j = 23
    · rw [if_pos gj, hr, show (((ι 43 1 + 1) % 24 - 24 + j + 24) % 24).toNat = (ι 43 1).toNat by omega, c3]
      exact hT
    · rw [if_neg gj, hr, c4 _ (by omega) (by omega)]
      have := h4 (j + 1) (by omega) (by omega)
      unfold zRg at this
      rw [show ((ι 43 1 + 1) % 24 - 24 + j + 24) % 24 = (ι 43 1 - ι 43 2 + (j + 1) + 24) % 24 by omega]
      exact this
  · rw [if_neg g] at j1 hr ⊢
    by_cases gj : j = ι 43 2
    · rw [if_pos gj, hr, show (((ι 43 1 + 1) % 24 - (ι 43 2 + 1) + j + 24) % 24).toNat = (ι 43 1).toNat by omega, c3]
      exact hT
    · rw [if_neg gj, hr, c4 _ (by omega) (by omega)]
      have := h4 j j0 (by omega)
      unfold zRg at this
      rw [show ((ι 43 1 + 1) % 24 - (ι 43 2 + 1) + j + 24) % 24 = (ι 43 1 - ι 43 2 + j + 24) % 24 by omega]
      exact this
theorem Iv_act (hI : Iv ι B) {X' R' : zr} {B' : Int} (hzX : tz X') (hzR : tz R') (hT' : zT X' R' B') (hBB : B ≤ B') : Iv (wp 0 R' (zmd (tp 23 X' (zke ι)))) B' ∧ ∀ y, wp 0 R' (zmd (tp 23 X' (zke ι))) 0 y = ι 0 y := by
  obtain ⟨a1, a2, a3, a4, a5, a6, a7, a8, a9⟩ := hI
  obtain ⟨u1, u2, u3, u4⟩ := id a5
  obtain ⟨ι1, hι1⟩ : ∃ y, y = tp 23 X' (zke ι) := ⟨_, rfl⟩
  obtain ⟨ι2, hι2⟩ : ∃ y, y = wp 0 R' (zmd ι1) := ⟨_, rfl⟩
  rw [← hι1, ← hι2]
  have s1 : ∀ b x, b < 23 ∨ 28 ≤ b → b ≠ 43 → (b < 45 ∨ 165 ≤ b) → ι1 b x = ι b x := fun b x h1 h2 h3 => by rw [hι1, tp_o 23 _ _ (by omega) x, zke_o u1 h3 (by omega)]
  have s2 : ∀ b x, (b ≠ 178 ∨ x ≠ 1) → b ≠ 179 → ι2 b x = ι1 b x := fun b x h1 h2 => by rw [hι2, wp_o _ _ _ (Or.inl h2), zmd_o (by rw [s1 178 1 (by omega) (by omega) (by omega), u3]; exact u2) (by omega)]
  have w1 : ∀ r, wb r ι1 = wb r ι := fun r => wb_fr (fun x _ _ => s1 179 x (by omega) (by omega) (by omega))
  have hu1 : 0 ≤ ι1 178 1 ∧ ι1 178 1 ≤ 24 := by rw [s1 178 1 (by omega) (by omega) (by omega), u3]; exact u2
  have so : ∀ b x, b < 23 ∨ 28 ≤ b → (b < 43 ∨ 165 ≤ b) → (b ≠ 178 ∨ x ≠ 1) → b ≠ 179 → ι2 b x = ι b x := fun b x h1 h2 h3 h4 => by rw [s2 b x h3 h4, s1 b x h1 (by omega) (by omega)]
  have sw : ∀ x, 38 ≤ x → x < 190 → ι2 179 x = ι 179 x := fun x x0 x1 => by rw [hι2, wp_o _ _ _ (by omega), zmd_o hu1 (by omega), s1 179 x (by omega) (by omega) (by omega)]
  refine ⟨⟨zPre_fr a1 (fun b x hb => so b x (by omega) (by omega) (by omega) (by omega)), zCh_e a2 (so 165 3 (by omega) (by omega) (by omega) (by omega)) (so 165 4 (by omega) (by omega) (by omega) (by omega)), ?_, zIg_m (zIg_fr a4 (fun b x hb => by
      by_cases g : b = 179
      · subst g; exact sw x (by omega) (by omega)
      · exact so b x (by omega) (by omega) (by omega) g)) hBB, ?_, zW_fr a6 (fun b x hb => so b x (by omega) (by omega) (by omega) (by omega)), zTa_fr a7 (fun b x hb => so b x (by omega) (by omega) (by omega) (by omega)), by rw [so 8 9 (by omega) (by omega) (by omega) (by omega), so 178 5 (by omega) (by omega) (by omega) (by omega)]; exact a8, zTc_fr a9 (fun b x hb => so b x (by omega) (by omega) (by omega) (by omega))⟩, fun y => so 0 y (by omega) (by omega) (by omega) (by omega)⟩
  · have e1 : tb 23 ι2 = X' := by rw [tb_fr (ι := ι1) (fun b x b0 b1 => s2 b x (by omega) (by omega)), hι1, tb_tp 23 hzX]
    have e2 : wb 0 ι2 = R' := by rw [hι2, wb_wp 0 hzR]
    rw [e1, e2]
    exact hT'
  · refine zU_m (zU_act a5 a3 ?_ ?_ ?_ (fun m m0 m1 => ?_) ?_ (fun j j0 j1 => ?_)) hBB
    · rw [s2 43 1 (by omega) (by omega), hι1, tp_o 23 _ _ (by omega) 1, zke_n]
    · rw [s2 43 2 (by omega) (by omega), hι1, tp_o 23 _ _ (by omega) 2, zke_k]
    · rw [tb_fr (ι := ι1) (fun b x b0 b1 => s2 b x (by omega) (by omega)), hι1, tb_tpo (by omega)]
      unfold zke
      rw [tb_up (by omega), tb_up (by omega), tb_tp _ (tb_tz 23 ι)]
    · rw [tb_fr (ι := ι1) (fun b x b0 b1 => s2 b x (by omega) (by omega)), hι1, tb_tpo (by omega)]
      unfold zke
      rw [tb_up (by omega), tb_up (by omega), tb_tpo (by omega)]
    · rw [hι2, wp_o _ _ _ (Or.inl (by decide)), zmd_u, s1 178 1 (by omega) (by omega) (by omega)]
    · rw [hι2, wb_wpo (by omega), zmd_r hu1 j0 j1, s1 178 1 (by omega) (by omega) (by omega), w1, w1, w1]
theorem wb_act (hI : Iv ι B) {X' : zr} : wb 0 (tp 23 X' (zke ι)) = wb 0 ι ∧ tp 23 X' (zke ι) 178 1 = ι 178 1 := by
  have u1 := hI.2.2.2.2.1.1
  exact ⟨wb_fr (fun x _ _ => by rw [tp_o 23 _ _ (by omega) x, zke_o u1 (by omega) (by omega)]), by rw [tp_o 23 _ _ (by omega) 1, zke_o u1 (by omega) (by omega)]⟩
theorem zT_i {X R : zr} {B : Int} (h : zT X R B) {i v : Int} (hi : i = 2 ∨ (6 ≤ i ∧ i < 22) ∨ (30 ≤ i ∧ i < 38)) (hV : zVT (ru R i v)) : zT (ru X i v) (ru R i v) B := by
  obtain ⟨h1, h2, h3⟩ := h
  have hd := zVD_of h1
  have hN8 := h2.1.1
  refine ⟨zVE_of ?_, ⟨hV, ?_, ?_⟩, ?_⟩
  · rcases (show i = 2 ∨ 6 ≤ i by omega) with g | g
    · rw [g]; exact zVD_2 hd v
    · exact zVD_i hd h2.1.1 h2.1.2.1 g v
  · rw [ru_n _ (by omega), ru_n _ (by omega)]; exact h2.2.1
  · rw [ru_n _ (by omega)]; exact h2.2.2
  · rw [zLo_c (R := R) (ru_n _ (by omega)) (ru_n _ (by omega)) (fun k k0 k1 => ru_n _ (by omega))]; exact h3
theorem zT_l {X R : zr} {B : Int} (h : zT X R B) {s v : Int} (hs : 0 ≤ s ∧ s < 8) (hv : 0 ≤ v ∧ v ≤ 60) : zT (ru X (22 + s) v) (ru R (22 + s) v) (B + 60) := by
  obtain ⟨h1, h2, h3⟩ := h
  have hd := zVD_of h1
  have hN8 := h2.1.1
  refine ⟨zVE_of (zVD_i hd h2.1.1 h2.1.2.1 (by omega) v), ⟨zVT_l h2.1 hs hv, ?_, ?_⟩, ?_⟩
  · rw [ru_n _ (by omega), ru_n _ (by omega)]; exact h2.2.1
  · rw [ru_n _ (by omega)]; exact h2.2.2
  · unfold zLo at h3 ⊢
    rw [ru_n _ (by omega), ru_n _ (by omega), zsum_c (g := fun k => if k = s then v else R (22 + k)) (fun k k0 k1 => by
      unfold ru
      by_cases g : k = s
      · rw [if_pos (by omega), if_pos g]
      · rw [if_neg (by omega), if_neg g])]
    have := zsum_u (f := fun k => R (22 + k)) (s := s) (v := v) (N := R 0) (fun k k0 k1 => (h2.1.2.2.2.2.2.2.1 k k0 k1).2.2.1) hv.1
    omega
theorem o_beat (hI : Iv ι B) (hB : B ≤ 90000) {b s : Int} (hb : zB b) (hs : zB s) : zOp l (zc D ad L z) mX6_beat mX7_beat 3 2 [zI b, zI s] ι B := by
  obtain ⟨hT, hd, hM, e0, e1, e2, e3, e4, e5, hr⟩ := Iv_e hI hB
  obtain ⟨u1, u2, u3, u4⟩ := hI.2.2.2.2.1
  refine ⟨_, c_xBeat hT u1 u2 hb hs, fun v1 ι1 q1 => ⟨_, q1.1, fun y => by
    rw [q1.2]
    split
    · rw [tp_o 23 _ _ (by omega) y, zke_o u1 (by omega) (by omega)]
    · rfl, _, c_mBeat (ι := ι1) ?_ ?_ hb hs, fun v2 ι2 q2 => ?_⟩⟩
  · rw [q1.2]; split
    · rw [(wb_act hI).1]; exact hM
    · exact hM
  · rw [q1.2]; split
    · rw [(wb_act hI).2, u3]; exact u2
    · rw [u3]; exact u2
  · obtain ⟨-, q1⟩ := q1
    obtain ⟨q2, q3⟩ := q2
    have ew : wb 0 ι1 = wb 0 ι := by
      rw [q1]; split
      · exact (wb_act hI).1
      · rfl
    rw [ew] at q2 q3
    rw [e0, e1] at q1 ⊢
    by_cases g : (0 ≤ b ∧ b < wb 0 ι 1) ∧ (0 ≤ s ∧ s < wb 0 ι 0)
    · have eb := hd.2.2 b g.1.1 g.1.2
      rw [eb] at q1 ⊢
      refine ⟨q2, ?_⟩
      by_cases g2 : wb 0 ι (30 + b) = s
      · rw [if_neg (by omega)] at q1 q3
        subst q1; subst q3
        exact ⟨Iv_m hI (by omega), fun _ => rfl⟩
      · rw [if_pos ⟨g, g2⟩] at q1 q3
        have hB8 := hM.1.2.1
        rw [q3, q1]
        have := Iv_act hI (ru_tz (tb_tz 23 ι) (i := 30 + b) (v := s) (by omega) (by omega)) (ru_tz (wb_tz 0 ι) (i := 30 + b) (v := s) (by omega) (by omega)) (zT_i hI.2.2.1 (i := 30 + b) (v := s) (by omega) (zVT_w hM.1 (by omega) (by omega))) (Int.le_refl B)
        exact ⟨Iv_m this.1 (by omega), this.2⟩
    · rw [if_neg (by omega)] at q1 q3
      subst q1; subst q3
      exact ⟨by rw [q2, if_pos g, if_pos g], Iv_m hI (by omega), fun _ => rfl⟩
theorem o_reach (hI : Iv ι B) (hB : B ≤ 90000) {n : Int} (hn : zB n) : zOp l (zc D ad L z) mX6_reach mX7_reach 3 2 [zI n] ι B := by
  obtain ⟨hT, hd, hM, e0, e1, e2, e3, e4, e5, hr⟩ := Iv_e hI hB
  obtain ⟨u1, u2, u3, u4⟩ := hI.2.2.2.2.1
  refine ⟨_, c_xReach hT u1 u2 hn, fun v1 ι1 q1 => ⟨_, q1.1, fun y => by
    rw [q1.2]
    split
    · rw [tp_o 23 _ _ (by omega) y, zke_o u1 (by omega) (by omega)]
    · rfl, _, c_mReach (ι := ι1) ?_ ?_ hn, fun v2 ι2 q2 => ?_⟩⟩
  · rw [q1.2]; split
    · rw [(wb_act hI).1]; exact hM
    · exact hM
  · rw [q1.2]; split
    · rw [(wb_act hI).2, u3]; exact u2
    · rw [u3]; exact u2
  · obtain ⟨-, q1⟩ := q1
    obtain ⟨q2, q3⟩ := q2
    have ew : wb 0 ι1 = wb 0 ι := by
      rw [q1]; split
      · exact (wb_act hI).1
      · rfl
    rw [ew] at q2 q3
    rw [e0] at q1
    refine ⟨by rw [q2, e0, e2], ?_⟩
    by_cases g : 0 < wb 0 ι 0 ∧ (0 ≤ n ∧ n ≤ 3)
    · rw [if_pos g] at q1 q3
      rw [q3, q1]
      have := Iv_act hI (ru_tz (tb_tz 23 ι) (i := 2) (v := n) (by decide) (by decide)) (ru_tz (wb_tz 0 ι) (i := 2) (v := n) (by decide) (by decide)) (zT_i hI.2.2.1 (i := 2) (v := n) (Or.inl rfl) (zVT_2 hM.1 g.2)) (Int.le_refl B)
      exact ⟨Iv_m this.1 (by omega), this.2⟩
    · rw [if_neg g] at q1 q3
      subst q1; subst q3
      exact ⟨Iv_m hI (by omega), fun _ => rfl⟩
theorem o_lull (hI : Iv ι B) (hB : B ≤ 90000) {s n : Int} (hs : zB s) (hn : zB n) : zOp l (zc D ad L z) mX6_lull mX7_lull 3 2 [zI s, zI n] ι B := by
  obtain ⟨hT, hd, hM, e0, e1, e2, e3, e4, e5, hr⟩ := Iv_e hI hB
  obtain ⟨u1, u2, u3, u4⟩ := hI.2.2.2.2.1
  refine ⟨_, c_xLull hT u1 u2 hs hn, fun v1 ι1 q1 => ⟨_, q1.1, fun y => by
    rw [q1.2]
    split
    · rw [tp_o 23 _ _ (by omega) y, zke_o u1 (by omega) (by omega)]
    · rfl, _, c_mLull (ι := ι1) ?_ ?_ hs hn, fun v2 ι2 q2 => ?_⟩⟩
  · rw [q1.2]; split
    · rw [(wb_act hI).1]; exact hM
    · exact hM
  · rw [q1.2]; split
    · rw [(wb_act hI).2, u3]; exact u2
    · rw [u3]; exact u2
  · obtain ⟨-, q1⟩ := q1
    obtain ⟨q2, q3⟩ := q2
    have ew : wb 0 ι1 = wb 0 ι := by
      rw [q1]; split
      · exact (wb_act hI).1
      · rfl
    rw [ew] at q2 q3
    rw [e0] at q1 ⊢
    by_cases g : (0 ≤ s ∧ s < wb 0 ι 0) ∧ (1 ≤ n ∧ n ≤ 20)
    · obtain ⟨b1, b2, b3⟩ := hd.2.1 s g.1.1 g.1.2
      have hN8 := hM.1.1
      have hk := (hM.1.2.2.2.2.2.2.1 s g.1.1 g.1.2).2.1
      rw [b2] at q1 ⊢
      rw [if_pos g] at q1 q3
      refine ⟨q2, ?_⟩
      rw [q3, q1]
      have := Iv_act hI (ru_tz (tb_tz 23 ι) (i := 14 + s) (v := zmin (wb 0 ι (14 + s) + n) 20) (by omega) (by omega)) (ru_tz (wb_tz 0 ι) (i := 14 + s) (v := zmin (wb 0 ι (14 + s) + n) 20) (by omega) (by omega)) (zT_i hI.2.2.1 (i := 14 + s) (v := zmin (wb 0 ι (14 + s) + n) 20) (by omega) (zVT_d hM.1 (by omega) (by unfold zmin; split <;> omega))) (Int.le_refl B)
      exact ⟨Iv_m this.1 (by omega), this.2⟩
    · rw [if_neg g] at q1 q3
      subst q1; subst q3
      exact ⟨by rw [q2, if_pos g, if_pos g], Iv_m hI (by omega), fun _ => rfl⟩
theorem o_bring (hI : Iv ι B) (hB : B ≤ 90000) {s n : Int} (hs : zB s) (hn : zB n) : zOp l (zc D ad L z) mX6_bring mX7_bring 3 2 [zI s, zI n] ι B := by
  obtain ⟨hT, hd, hM, e0, e1, e2, e3, e4, e5, hr⟩ := Iv_e hI hB
  obtain ⟨u1, u2, u3, u4⟩ := hI.2.2.2.2.1
  refine ⟨_, c_xBring hT u1 u2 hs hn, fun v1 ι1 q1 => ⟨_, q1.1, fun y => by
    rw [q1.2]
    split
    · rw [tp_o 23 _ _ (by omega) y, zke_o u1 (by omega) (by omega)]
    · rfl, _, c_mBring (ι := ι1) ?_ ?_ hs hn, fun v2 ι2 q2 => ?_⟩⟩
  · rw [q1.2]; split
    · rw [(wb_act hI).1]; exact hM
    · exact hM
  · rw [q1.2]; split
    · rw [(wb_act hI).2, u3]; exact u2
    · rw [u3]; exact u2
  · obtain ⟨-, q1⟩ := q1
    obtain ⟨q2, q3⟩ := q2
    have ew : wb 0 ι1 = wb 0 ι := by
      rw [q1]; split
      · exact (wb_act hI).1
      · rfl
    rw [ew] at q2 q3
    rw [e0] at q1 ⊢
    by_cases g : (0 ≤ s ∧ s < wb 0 ι 0) ∧ (1 ≤ n ∧ n ≤ 60)
    · obtain ⟨b1, b2, b3⟩ := hd.2.1 s g.1.1 g.1.2
      have hN8 := hM.1.1
      have hk := (hM.1.2.2.2.2.2.2.1 s g.1.1 g.1.2).2.2
      rw [b3] at q1 ⊢
      rw [if_pos g] at q1 q3
      refine ⟨q2, ?_⟩
      rw [q3, q1]
      exact Iv_act hI (ru_tz (tb_tz 23 ι) (i := 22 + s) (v := zmin (wb 0 ι (22 + s) + n) 60) (by omega) (by omega)) (ru_tz (wb_tz 0 ι) (i := 22 + s) (v := zmin (wb 0 ι (22 + s) + n) 60) (by omega) (by omega)) (zT_l hI.2.2.1 (s := s) (v := zmin (wb 0 ι (22 + s) + n) 60) (by omega) (by unfold zmin; split <;> omega)) (by omega)
    · rw [if_neg g] at q1 q3
      subst q1; subst q3
      exact ⟨by rw [q2, if_pos g, if_pos g], Iv_m hI (by omega), fun _ => rfl⟩
end
