section
variable {l : Launch} {D : va_G} {ad : Nat → Nat} {L z : Nat} {ι : zi} {B : Int}
theorem zOp_p {Mx Mm : zMt} {dx dm : Nat} {as : List zV} {x : Int} {Q1 : Option zV → zi → Prop} (hI : Iv ι B) (h1 : zCi l (zc D ad L z) Mx dx (zR 8 :: as) ι Q1) (hq1 : ∀ v ι', Q1 v ι' → v = some (zI x) ∧ zFs ι ι') (h2 : ∀ ι1, zFs ι ι1 → Iv ι1 B → ∃ Q2, zCi l (zc D ad L z) Mm dm (zR 178 :: as) ι1 Q2 ∧ ∀ v ι', Q2 v ι' → v = some (zI x) ∧ ∃ T, zSc (zt5 T ι1) ι') : zOp l (zc D ad L z) Mx Mm dx dm as ι B := by
  refine ⟨Q1, h1, fun v1 ι1 q1 => ?_⟩
  have q1 := hq1 v1 ι1 q1
  have hI1 := Iv_fr hI (zFs_x q1.2) (q1.2.2 hI.2.1)
  obtain ⟨Q2, h3, h4⟩ := h2 ι1 q1.2 hI1
  refine ⟨x, q1.1, fun y => q1.2.1 0 y (by omega), Q2, h3, fun v2 ι2 q2 => ?_⟩
  obtain ⟨e, T, hS⟩ := h4 v2 ι2 q2
  have hI2 : Iv (zt5 T ι1) B := Iv_fr hI1 (fun b x hx => zt5_o (by unfold zSx at hx; omega)) (by have := hI1.2.1; unfold zCh at this ⊢; rw [zt5_o (by decide), zt5_o (by decide)]; exact this)
  refine ⟨e, Iv_m (Iv_fr hI2 (zSc_x hS) (zSc_ch hS hI2.2.1)) (by omega), fun y => ?_⟩
  rw [zSc_x hS 0 y (by unfold zSx; omega), zt5_o (by decide), q1.2.1 0 y (by omega)]
theorem Iv_e (hI : Iv ι B) (hB : B ≤ 90000) : zTM (tb 23 ι) ∧ zVD 0 (tb 23 ι) (wb 0 ι) ∧ zTM (wb 0 ι) ∧ tb 23 ι 0 = wb 0 ι 0 ∧ tb 23 ι 1 = wb 0 ι 1 ∧ tb 23 ι 2 = wb 0 ι 2 ∧ tb 23 ι 3 = wb 0 ι 3 ∧ tb 23 ι 4 = wb 0 ι 4 ∧ tb 23 ι 5 = wb 0 ι 5 ∧ (0 < wb 0 ι 0 → zRl (tb 23 ι) (wb 0 ι)) := by
  have h := hI.2.2.1
  have hd := zVD_of h.1
  exact ⟨zT_TM h hB, hd, h.2.1, hd.1.1, hd.1.2.1, hd.1.2.2.1, hd.1.2.2.2.1, hd.1.2.2.2.2.1, by rw [hd.1.2.2.2.2.2]; omega, fun hN => zT_Rl h hB (tb_tz 23 ι) (wb_tz 0 ι) hN⟩
theorem Iv_L (hI : Iv ι B) : (∀ k, 0 ≤ k → k < 8 → -1 ≤ ι 19 k ∧ ι 19 k ≤ 2) ∧ (∀ k, 0 ≤ k → k < 8 → 0 ≤ ι 20 k ∧ ι 20 k ≤ 40) ∧ (∀ k, 0 ≤ k → k < 8 → -1 ≤ ι 181 k ∧ ι 181 k ≤ 40) ∧ (∀ k, 0 ≤ k → k < 8 → zB (ι 182 k)) ∧ (∀ k, 0 ≤ k → k < 320 → zB (ι 183 k)) ∧ (∀ r : Int, 0 ≤ r → r < 8 → ∀ k, 0 ≤ k → k < 40 → zB (ι (11 + r.toNat) k)) := by
  have hW := hI.2.2.2.2.2.1
  refine ⟨fun k k0 k1 => (hW k k0 k1).1, fun k k0 k1 => (hW k k0 k1).2.1, fun k k0 k1 => ?_, fun k k0 k1 => (hW k k0 k1).2.2.2.2.1, fun k k0 k1 => ?_, fun r r0 r1 k k0 k1 => ((hW r r0 r1).2.2.2.2.2 k k0 k1).1⟩
  · obtain ⟨a1, a2, a3, -⟩ := hW k k0 k1
    rw [a3]
    split <;> omega
  · have := ((hW (k / 40) (by omega) (by omega)).2.2.2.2.2 (k % 40) (by omega) (by omega)).2.1
    rw [show 40 * (k / 40) + k % 40 = k by omega] at this
    exact this
theorem o_street (hI : Iv ι B) (hB : B ≤ 90000) {s : Int} {w : Int} (hs : zB s) (hw : zB w) : zOp l (zc D ad L z) mX6_street mX7_street 3 3 [zI s, zI w] ι B := by
  obtain ⟨hT, hd, hM, e0, e1, e2, e3, e4, e5, hr⟩ := Iv_e hI hB
  refine zOp_p hI (c_xStreet hT hs hw) (fun v ι' q => ⟨q.1, by rw [q.2]; exact zFs.r ι⟩) (fun ι1 f1 I1 => ⟨_, c_mStreet I1.2.2.1.2.1 hs hw, fun v ι' q => ?_⟩)
  have ew := wb_zFs f1 0
  rw [ew] at q
  refine ⟨q.1.trans (congrArg (fun t => some (zI t)) ?_), zSc_5 (by rw [q.2]; exact zSc.r ι1)⟩
  rw [e0, e4]
  by_cases g : ¬ (0 ≤ s ∧ s < wb 0 ι 0)
  · rw [if_pos g, if_pos g]
  · rw [if_neg g, if_neg g]
    have g : 0 ≤ s ∧ s < wb 0 ι 0 := by omega
    obtain ⟨b1, b2, b3⟩ := hd.2.1 s g.1 g.2
    have hR := hr (by omega)
    rw [b1, b2, b3, zhr_D hd hM.1 hR.B, zst_D hd hM.1 hR.B g.1 g.2]
theorem o_round (hI : Iv ι B) (hB : B ≤ 90000) {b : Int} (hb : zB b) : zOp l (zc D ad L z) mX6_round mX7_round 1 2 [zI b] ι B := by
  obtain ⟨hT, hd, hM, e0, e1, e2, e3, e4, e5, hr⟩ := Iv_e hI hB
  refine zOp_p hI (c_xRound hT hb) (fun v ι' q => ⟨q.1, by rw [q.2]; exact zFs.r ι⟩) (fun ι1 f1 I1 => ⟨_, c_mRound I1.2.2.1.2.1 hb, fun v ι' q => ?_⟩)
  have ew := wb_zFs f1 0
  rw [ew] at q
  refine ⟨q.1.trans (congrArg (fun t => some (zI t)) ?_), zSc_5 (by rw [q.2]; exact zSc.r ι1)⟩
  rw [e1]
  by_cases g : 0 ≤ b ∧ b < wb 0 ι 1
  · rw [if_pos g, if_pos g, hd.2.2 b g.1 g.2]
  · rw [if_neg g, if_neg g]
theorem o_kind (hI : Iv ι B) (hB : B ≤ 90000) {s : Int} (hs : zB s) : zOp l (zc D ad L z) mX6_kind mX7_kind 1 2 [zI s] ι B := by
  obtain ⟨hT, hd, hM, e0, e1, e2, e3, e4, e5, hr⟩ := Iv_e hI hB
  refine zOp_p hI (c_xKind hT hs) (fun v ι' q => ⟨q.1, by rw [q.2]; exact zFs.r ι⟩) (fun ι1 f1 I1 => ⟨_, c_mKind I1.2.2.1.2.1 hs, fun v ι' q => ?_⟩)
  have ew := wb_zFs f1 0
  rw [ew] at q
  refine ⟨q.1.trans (congrArg (fun t => some (zI t)) ?_), zSc_5 (by rw [q.2]; exact zSc.r ι1)⟩
  rw [e0]
  by_cases g : 0 ≤ s ∧ s < wb 0 ι 0
  · rw [if_pos g, if_pos g, (hd.2.1 s g.1 g.2).1]
  · rw [if_neg g, if_neg g]
theorem o_skins (hI : Iv ι B) (hB : B ≤ 90000) {s : Int} {n : Int} (hs : zB s) (hn : zB n) : zOp l (zc D ad L z) mX6_skins mX7_skins 2 2 [zI s, zI n] ι B := by
  obtain ⟨hT, hd, hM, e0, e1, e2, e3, e4, e5, hr⟩ := Iv_e hI hB
  refine zOp_p hI (c_xSkins hT hs hn) (fun v ι' q => ⟨q.1, by rw [q.2]; exact zFs.r ι⟩) (fun ι1 f1 I1 => ⟨_, c_mSkins I1.2.2.1.2.1 hs hn, fun v ι' q => ?_⟩)
  have ew := wb_zFs f1 0
  rw [ew] at q
  refine ⟨q.1.trans (congrArg (fun t => some (zI t)) ?_), zSc_5 (by rw [q.2]; exact zSc.r ι1)⟩
  rw [e0]
  by_cases g : ¬ ((0 ≤ s ∧ s < wb 0 ι 0) ∧ (0 ≤ n ∧ n ≤ 999))
  · rw [if_pos g, if_pos g]
  · rw [if_neg g, if_neg g, zRl_tax hd (by omega) (by omega)]
theorem o_ahead (hI : Iv ι B) (hB : B ≤ 90000) {s : Int} {n : Int} {w : Int} (hs : zB s) (hn : zB n) (hw : zB w) : zOp l (zc D ad L z) mX6_ahead mX7_ahead 6 5 [zI s, zI n, zI w] ι B := by
  obtain ⟨hT, hd, hM, e0, e1, e2, e3, e4, e5, hr⟩ := Iv_e hI hB
  refine zOp_p hI (c_xAhead hT hs hn hw) (fun v ι' q => q) (fun ι1 f1 I1 => ⟨_, c_mAhead I1.2.2.1.2.1 hs hn hw, fun v ι' q => ?_⟩)
  have ew := wb_zFs f1 0
  rw [ew] at q
  refine ⟨q.1.trans (congrArg (fun t => some (zI t)) ?_), zSc_5 (by rw [q.2]; split; exact ⟨_, rfl⟩; exact zSc.r ι1)⟩
  rw [e0]
  by_cases g : ¬ ((0 ≤ s ∧ s < wb 0 ι 0) ∧ (0 ≤ n ∧ n ≤ 60) ∧ (0 ≤ w ∧ w ≤ 1))
  · rw [if_pos g, if_pos g]
  · rw [if_neg g, if_neg g]
    obtain ⟨a, b, c⟩ := zRl_pas (hr (by omega)) (n := n) (by omega) (by omega)
    obtain ⟨b1, b2, b3⟩ := a.2.1 s (by omega) (by rw [c]; omega)
    rw [b2, b3]
theorem o_later (hI : Iv ι B) (hB : B ≤ 90000) {n : Int} {w : Int} (hn : zB n) (hw : zB w) : zOp l (zc D ad L z) mX6_later mX7_later 6 5 [zI n, zI w] ι B := by
  obtain ⟨hT, hd, hM, e0, e1, e2, e3, e4, e5, hr⟩ := Iv_e hI hB
  refine zOp_p hI (c_xLater hT hn hw) (fun v ι' q => q) (fun ι1 f1 I1 => ⟨_, c_mLater I1.2.2.1.2.1 hn hw, fun v ι' q => ?_⟩)
  have ew := wb_zFs f1 0
  rw [ew] at q
  refine ⟨q.1.trans (congrArg (fun t => some (zI t)) ?_), zSc_5 (by rw [q.2]; split; exact ⟨_, rfl⟩; exact zSc.r ι1)⟩
  rw [e0]
  by_cases g1 : ¬ (0 < wb 0 ι 0)
  · rw [if_pos g1, if_pos g1]
  · rw [if_neg g1, if_neg g1]
    by_cases g : ¬ ((0 ≤ n ∧ n ≤ 60) ∧ (0 ≤ w ∧ w ≤ 1))
    · rw [if_pos g, if_pos g]
    · rw [if_neg g, if_neg g]
      have hR := hr (by omega)
      obtain ⟨a, b, c⟩ := zRl_pas hR (n := n) (by omega) (by omega)
      have ha := zRl_aw hR (n := n) (by omega) (by omega)
      rw [e0] at ha
      rw [ha, a.1.2.2.2.2.2, Int.add_zero]
theorem o_wakes (hI : Iv ι B) (hB : B ≤ 90000) {s : Int} (hs : zB s) : zOp l (zc D ad L z) mX6_wakes mX7_wakes 5 5 [zI s] ι B := by
  obtain ⟨hT, hd, hM, e0, e1, e2, e3, e4, e5, hr⟩ := Iv_e hI hB
  refine zOp_p hI (c_xWakes hT hs) (fun v ι' q => q) (fun ι1 f1 I1 => ⟨_, c_mWakes I1.2.2.1.2.1 hs, fun v ι' q => ?_⟩)
  have ew := wb_zFs f1 0
  rw [ew] at q
  refine ⟨q.1.trans (congrArg (fun t => some (zI t)) ?_), zSc_5 q.2⟩
  rw [e0]
  by_cases g : 0 ≤ s ∧ s < wb 0 ι 0
  · rw [if_pos g, if_pos g, zRl_fa (hr (by omega))]
  · rw [if_neg g, if_neg g]
theorem o_alarm (hI : Iv ι B) (hB : B ≤ 90000)  : zOp l (zc D ad L z) mX6_alarm mX7_alarm 5 5 [] ι B := by
  obtain ⟨hT, hd, hM, e0, e1, e2, e3, e4, e5, hr⟩ := Iv_e hI hB
  refine zOp_p hI (c_xAlarm hT) (fun v ι' q => q) (fun ι1 f1 I1 => ⟨_, c_mAlarm I1.2.2.1.2.1, fun v ι' q => ?_⟩)
  have ew := wb_zFs f1 0
  rw [ew] at q
  refine ⟨q.1.trans (congrArg (fun t => some (zI t)) ?_), zSc_5 q.2⟩
  rw [e0]
  by_cases g : 0 < wb 0 ι 0
  · rw [if_pos g, if_pos g, zRl_fa (hr g)]
  · rw [if_neg g, if_neg g]
theorem o_tune (hI : Iv ι B) (hB : B ≤ 90000) {k : Int} {n : Int} {j : Int} (hk : zB k) (hn : zB n) (hj : zB j) : zOp l (zc D ad L z) mX6_tune mX7_tune 5 5 [zI k, zI n, zI j] ι B := by
  obtain ⟨hT, hd, hM, e0, e1, e2, e3, e4, e5, hr⟩ := Iv_e hI hB
  refine zOp_p hI (c_xTune hT hk hn hj) (fun v ι' q => q) (fun ι1 f1 I1 => ⟨_, c_mTune I1.2.2.1.2.1 hk hn hj, fun v ι' q => ?_⟩)
  have ew := wb_zFs f1 0
  rw [ew] at q
  refine ⟨q.1.trans (congrArg (fun t => some (zI t)) ?_), by obtain ⟨-, X, T, hX⟩ := q; exact ⟨T, X, hX⟩⟩
  by_cases g1 : ¬ (0 < wb 0 ι 0)
  · rw [if_pos g1, if_pos (show ¬ (0 < tb 23 ι 0) by rw [e0]; exact g1)]
  · rw [if_neg g1, if_neg (show ¬ ¬ (0 < tb 23 ι 0) by rw [e0]; exact g1)]
    by_cases g : ¬ ((1 ≤ k ∧ k ≤ 4) ∧ (1 ≤ n ∧ n ≤ 12) ∧ -1 ≤ j)
    · rw [if_pos g, if_pos g]
    · rw [if_neg g, if_neg g]
      obtain ⟨t1, t2⟩ := zRl_tu (hr (by omega)) (k := k) (n := n) (by omega) (by omega)
      rw [t1, t2, e0]
theorem o_shift (hI : Iv ι B) (hB : B ≤ 90000) {n : Int} {w : Int} (hn : zB n) (hw : zB w) : zOp l (zc D ad L z) mX6_shift mX7_shift 7 5 [zI n, zI w] ι B := by
  obtain ⟨hT, hd, hM, e0, e1, e2, e3, e4, e5, hr⟩ := Iv_e hI hB
  refine zOp_p hI (c_xShift hT hn hw) (fun v ι' q => q) (fun ι1 f1 I1 => ⟨_, c_mShift I1.2.2.1.2.1 hn hw, fun v ι' q => ?_⟩)
  have ew := wb_zFs f1 0
  rw [ew] at q
  refine ⟨q.1.trans (congrArg (fun t => some (zI t)) ?_), zSc_5 q.2⟩
  by_cases g1 : ¬ (0 < wb 0 ι 0)
  · rw [if_pos g1, if_pos (show ¬ (0 < tb 23 ι 0) by rw [e0]; exact g1)]
  · rw [if_neg g1, if_neg (show ¬ ¬ (0 < tb 23 ι 0) by rw [e0]; exact g1)]
    by_cases g : ¬ ((1 ≤ n ∧ n ≤ 30) ∧ (0 ≤ w ∧ w ≤ 1))
    · rw [if_pos g, if_pos g]
    · rw [if_neg g, if_neg g, zRl_sf (hr (by omega)) (n := n) (by omega)]
theorem o_cover (hI : Iv ι B) (hB : B ≤ 90000) {w : Int} (hw : zB w) : zOp l (zc D ad L z) mX6_cover mX7_cover 4 2 [zI w] ι B := by
  obtain ⟨hT, hd, hM, e0, e1, e2, e3, e4, e5, hr⟩ := Iv_e hI hB
  refine zOp_p hI (c_xCover hT hw) (fun v ι' q => ⟨q.1, by rw [q.2]; exact zFs.r ι⟩) (fun ι1 f1 I1 => ⟨_, c_mCover I1.2.2.1.2.1 hw, fun v ι' q => ?_⟩)
  have ew := wb_zFs f1 0
  rw [ew] at q
  refine ⟨q.1.trans (congrArg (fun t => some (zI t)) ?_), zSc_5 (by rw [q.2]; exact zSc.r ι1)⟩
  rw [e0, e2]
  by_cases g1 : ¬ (0 < wb 0 ι 0)
  · rw [if_pos g1, if_pos g1]
  · rw [if_neg g1, if_neg g1, zfp_co (by have := hM.1.1; omega) (by have := hM.1.2.2.1; omega)]
theorem o_spread (hI : Iv ι B) (hB : B ≤ 90000) {s : Int} {n : Int} (hs : zB s) (hn : zB n) : zOp l (zc D ad L z) mX6_spread mX7_spread 5 5 [zI s, zI n] ι B := by
  obtain ⟨hT, hd, hM, e0, e1, e2, e3, e4, e5, hr⟩ := Iv_e hI hB
  refine zOp_p hI (c_xSpread hT hs hn) (fun v ι' q => q) (fun ι1 f1 I1 => ⟨_, c_mSpread I1.2.2.1.2.1 hs hn, fun v ι' q => ?_⟩)
  have ew := wb_zFs f1 0
  rw [ew] at q
  refine ⟨q.1.trans (congrArg (fun t => some (zI t)) ?_), zSc_5 q.2⟩
  rw [e0]
  by_cases g : ¬ ((0 ≤ s ∧ s < wb 0 ι 0) ∧ (1 ≤ n ∧ n ≤ 30))
  · rw [if_pos g, if_pos g]
  · rw [if_neg g, if_neg g, zRl_sp (hr (by omega)) (by omega) (by omega) (by omega)]
theorem o_drops (hI : Iv ι B) (hB : B ≤ 90000) {s : Int} {n : Int} {c : Int} {w : Int} (hs : zB s) (hn : zB n) (hc : zB c) (hw : zB w) : zOp l (zc D ad L z) mX6_drops mX7_drops 5 3 [zI s, zI n, zI c, zI w] ι B := by
  obtain ⟨hT, hd, hM, e0, e1, e2, e3, e4, e5, hr⟩ := Iv_e hI hB
  refine zOp_p hI (c_xDrops hT hI.2.1 hs hn hc hw (fun s0 s1 n0 n1 c0 c1 => by rw [e0] at s1; rw [zcA_D hd hM.1 (hr (by omega)).B s0 s1 n0]; exact zcA_b (hM.1.2.2.2.2.2.2.1 s s0 s1).2.1 ⟨c0, c1⟩ n0 n1)) (fun v ι' q => q) (fun ι1 f1 I1 => ⟨_, c_mDrops I1.2.2.1.2.1 hs hn hc hw, fun v ι' q => ?_⟩)
  have ew := wb_zFs f1 0
  rw [ew] at q
  refine ⟨q.1.trans (congrArg (fun t => some (zI t)) ?_), zSc_5 q.2⟩
  rw [e0]
  by_cases g : ¬ ((0 ≤ s ∧ s < wb 0 ι 0) ∧ (0 ≤ n ∧ n ≤ 8) ∧ (0 ≤ c ∧ c ≤ 10) ∧ (0 ≤ w ∧ w ≤ 1))
  · rw [if_pos g, if_pos g]
  · rw [if_neg g, if_neg g]
    have hR := hr (by omega)
    have hB1 := hR.B
    have hN8 := hM.1.1
    have hB8 := hM.1.2.1
    rw [zcA_D hd hM.1 hB1 (by omega) (by omega) (by omega), zcA_up (wb_tz 0 ι) ⟨hB1, by omega⟩ ⟨by omega, by omega⟩ (hM.1.2.2.2.2.2.2.1 s (by omega) (by omega)).2.1 (by omega) (by omega)]
theorem o_drawn (hI : Iv ι B) (hB : B ≤ 90000) {n : Int} {x : Int} {w : Int} (hn : zB n) (hx : zB x) (hw : zB w) : zOp l (zc D ad L z) mX6_drawn mX7_drawn 5 4 [zI n, zI x, zI w] ι B := by
  obtain ⟨hT, hd, hM, e0, e1, e2, e3, e4, e5, hr⟩ := Iv_e hI hB
  refine zOp_p hI (c_xDrawn hT hn hx hw) (fun v ι' q => q) (fun ι1 f1 I1 => ⟨_, c_mDrawn I1.2.2.1.2.1 hn hx hw, fun v ι' q => ?_⟩)
  have ew := wb_zFs f1 0
  rw [ew] at q
  refine ⟨q.1.trans (congrArg (fun t => some (zI t)) ?_), zSc_5 q.2⟩
  by_cases g1 : ¬ (0 < wb 0 ι 0)
  · rw [if_pos g1, if_pos (show ¬ (0 < tb 23 ι 0) by rw [e0]; exact g1)]
  · rw [if_neg g1, if_neg (show ¬ ¬ (0 < tb 23 ι 0) by rw [e0]; exact g1)]
    by_cases g : ¬ ((0 ≤ n ∧ n ≤ 60) ∧ (1 ≤ x ∧ x ≤ 999999) ∧ (0 ≤ w ∧ w ≤ 1))
    · rw [if_pos g, if_pos g]
    · rw [if_neg g, if_neg g]
      obtain ⟨t1, t2⟩ := zRl_dr (hr (by omega)) (x := x) (n := n) (by omega) (by omega)
      rw [t1, t2]
theorem o_fault (hI : Iv ι B) (hB : B ≤ 90000)  : zOp l (zc D ad L z) mX6_fault mX7_fault 0 0 [] ι B := by
  obtain ⟨hT, hd, hM, e0, e1, e2, e3, e4, e5, hr⟩ := Iv_e hI hB
  refine zOp_p hI (c_xFault) (fun v ι' q => ⟨q.1, by rw [q.2]; exact zFs.r ι⟩) (fun ι1 f1 I1 => ⟨_, c_mFault, fun v ι' q => ?_⟩)
  have ew := wb_zFs f1 0
  refine ⟨q.1.trans (congrArg (fun t => some (zI t)) ?_), zSc_5 (by rw [q.2]; exact zSc.r ι1)⟩
  rw [f1.1 178 4 (by omega)]
  exact hI.2.2.2.2.2.2.1.2.2.2.symm
theorem o_status (hI : Iv ι B) (hB : B ≤ 90000)  : zOp l (zc D ad L z) mX6_status mX7_status 0 0 [] ι B := by
  obtain ⟨hT, hd, hM, e0, e1, e2, e3, e4, e5, hr⟩ := Iv_e hI hB
  refine zOp_p hI (c_xStatus) (fun v ι' q => ⟨q.1, by rw [q.2]; exact zFs.r ι⟩) (fun ι1 f1 I1 => ⟨_, c_mStatus, fun v ι' q => ?_⟩)
  have ew := wb_zFs f1 0
  refine ⟨q.1.trans (congrArg (fun t => some (zI t)) ?_), zSc_5 (by rw [q.2]; exact zSc.r ι1)⟩
  rw [f1.1 178 5 (by omega)]
  exact hI.2.2.2.2.2.2.2.1.symm
theorem o_trace (hI : Iv ι B) (hB : B ≤ 90000) {x : Int} (hx : zB x) : zOp l (zc D ad L z) mX6_trace mX7_trace 0 1 [zI x] ι B := by
  obtain ⟨hT, hd, hM, e0, e1, e2, e3, e4, e5, hr⟩ := Iv_e hI hB
  refine zOp_p hI (c_xTrace hx (by rw [hI.2.2.2.2.2.2.2.2.1]; exact hI.2.2.2.2.2.2.2.2.2.1)) (fun v ι' q => ⟨q.1, by rw [q.2]; exact zFs.r ι⟩) (fun ι1 f1 I1 => ⟨_, c_mTrace hx I1.2.2.2.2.2.2.2.2.2.1, fun v ι' q => ?_⟩)
  have ew := wb_zFs f1 0
  refine ⟨q.1.trans (congrArg (fun t => some (zI t)) ?_), zSc_5 (by rw [q.2]; exact zSc.r ι1)⟩
  have hC := hI.2.2.2.2.2.2.2.2
  rw [f1.1 178 16 (by omega), f1.1 187 x (by omega), hC.1]
  by_cases g : 0 ≤ x ∧ x ≤ ι 178 16 - 1
  · rw [if_pos g, if_pos g, hC.2.2 x g.1 (by omega)]
  · rw [if_neg g, if_neg g]
theorem o_count (hI : Iv ι B) (hB : B ≤ 90000) {x : Int} (hx : zB x) : zOp l (zc D ad L z) mX6_count mX7_count 2 1 [zI x] ι B := by
  obtain ⟨hT, hd, hM, e0, e1, e2, e3, e4, e5, hr⟩ := Iv_e hI hB
  refine zOp_p hI (c_xCount hT (Iv_L hI).1 hx) (fun v ι' q => ⟨q.1, by rw [q.2]; exact zFs.r ι⟩) (fun ι1 f1 I1 => ⟨_, c_mCount I1.2.2.1.2.1 (Iv_L I1).2.2.1 hx, fun v ι' q => ?_⟩)
  have ew := wb_zFs f1 0
  rw [ew] at q
  refine ⟨q.1.trans (congrArg (fun t => some (zI t)) ?_), zSc_5 (by rw [q.2]; exact zSc.r ι1)⟩
  have hU := hI.2.2.2.2.1
  have hTa := hI.2.2.2.2.2.2.1
  have hW := hI.2.2.2.2.2.1
  rw [f1.1 178 1 (by omega), f1.1 178 3 (by omega), hU.2.2.1, ← hTa.1, zVD_aw hd, e0, e1, e2, e3, e4, e5]
  rw [zsum_c (f := fun k => if 0 ≤ ι1 181 k then (1 : Int) else 0) (g := fun k => if ι 19 k = -1 then (0 : Int) else 1) (fun k k0 k1 => by
    rw [f1.1 181 k (by omega)]
    obtain ⟨a1, a2, a3, -⟩ := hW k k0 (by omega)
    rw [a3]
    by_cases g : ι 19 k = -1
    · rw [if_pos g, if_pos g, if_neg (by decide)]
    · rw [if_neg g, if_neg g, if_pos (by omega)])]
end
