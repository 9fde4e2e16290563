section
variable {l : Launch} {D : va_G} {ad : Nat → Nat} {L z : Nat} {ι : zi} {B : Int}
/-! hours: the class's, then the reference's; they commute -/
theorem zhC_o {b : Nat} {x : Int} (hb : 178 ≤ b) (u : 0 ≤ ι 43 1 ∧ ι 43 1 < 24) : zhC ι b x = ι b x := by
  unfold zhC
  rw [tp_o 23 _ _ (by omega) x, zke_o u (by omega) (by omega)]
theorem zhC_z {y : Int} (u : 0 ≤ ι 43 1 ∧ ι 43 1 < 24) : zhC ι 0 y = ι 0 y := by
  unfold zhC
  rw [tp_o 23 _ _ (by omega) y, zke_o u (by omega) (by omega)]
theorem zhM_o {b : Nat} {x : Int} (hb : b < 178) (u : 0 ≤ ι 178 1 ∧ ι 178 1 ≤ 24) : zhM ι b x = ι b x := by
  unfold zhM
  rw [wp_o _ _ _ (by omega), zmd_o u (by omega)]
theorem zhC_c {ι' : zi} (h : ∀ b x, b < 178 → ι' b x = ι b x) {b : Nat} {x : Int} (hb : b < 178) : zhC ι' b x = zhC ι b x := by
  have t : tb 23 ι' = tb 23 ι := tb_fr (fun b x b0 b1 => h b x (by omega))
  unfold zhC zke
  rw [t, h 43 1 (by decide), h 43 2 (by decide)]
  simp only [tp, iup, h b x hb]
theorem zhM_c {ι' : zi} (h : ∀ b x, 178 ≤ b → ι' b x = ι b x) {b : Nat} {x : Int} (hb : 178 ≤ b) : zhM ι' b x = zhM ι b x := by
  have t : wb 0 ι' = wb 0 ι := wb_fr (fun x _ _ => h 179 x (by decide))
  unfold zhM zmd
  rw [t, h 178 1 (by decide)]
  split
  · simp only [wp, iup, icpy, h b x hb, h 179 _ (by decide)]
  · simp only [wp, iup, h b x hb]
theorem zh_cm (u1 : 0 ≤ ι 43 1 ∧ ι 43 1 < 24) (u2 : 0 ≤ ι 178 1 ∧ ι 178 1 ≤ 24) : zhM (zhC ι) = zhC (zhM ι) := by
  have v2 : 0 ≤ zhC ι 178 1 ∧ zhC ι 178 1 ≤ 24 := by rw [zhC_o (by decide) u1]; exact u2
  have v1 : 0 ≤ zhM ι 43 1 ∧ zhM ι 43 1 < 24 := by rw [zhM_o (by decide) u2]; exact u1
  funext b x
  by_cases g : b < 178
  · rw [zhM_o g v2, zhC_c (ι := ι) (fun b x hb => zhM_o hb u2) g]
  · rw [zhC_o (by omega) v1, zhM_c (ι := ι) (fun b x hb => zhC_o hb u1) (by omega)]
theorem zhC_n (u1 : 0 ≤ ι 43 1 ∧ ι 43 1 < 24) : 0 ≤ zhC ι 43 1 ∧ zhC ι 43 1 < 24 := by
  unfold zhC
  rw [tp_o 23 _ _ (by omega) 1, zke_n]
  exact ⟨Int.emod_nonneg _ (by decide), Int.emod_lt_of_pos _ (by decide)⟩
theorem zhM_n (u2 : 0 ≤ ι 178 1 ∧ ι 178 1 ≤ 24) : 0 ≤ zhM ι 178 1 ∧ zhM ι 178 1 ≤ 24 := by
  unfold zhM
  rw [wp_o _ _ _ (Or.inl (by decide)), zmd_u]
  split <;> omega
theorem zhM_itC : ∀ (n : Nat) (μ : zi), (0 ≤ μ 43 1 ∧ μ 43 1 < 24) → (0 ≤ μ 178 1 ∧ μ 178 1 ≤ 24) → zit zhM n (zhC μ) = zhC (zit zhM n μ) ∧ (0 ≤ zit zhM n μ 43 1 ∧ zit zhM n μ 43 1 < 24) ∧ (0 ≤ zit zhM n μ 178 1 ∧ zit zhM n μ 178 1 ≤ 24) := by
  intro n
  induction n with
  | zero => intro μ u1 u2; exact ⟨rfl, u1, u2⟩
  | succ n ih =>
    intro μ u1 u2
    obtain ⟨i1, i2, i3⟩ := ih μ u1 u2
    rw [show ((n + 1 : Nat) : Int) = (n : Int) + 1 by omega, zit_s _ (by omega), zit_s _ (by omega), i1, zh_cm i2 i3]
    refine ⟨rfl, ?_, zhM_n i3⟩
    rw [zhM_o (by decide) i3]
    exact i2
theorem zit_cm : ∀ (n : Nat) (μ : zi), (0 ≤ μ 43 1 ∧ μ 43 1 < 24) → (0 ≤ μ 178 1 ∧ μ 178 1 ≤ 24) → zit zhM n (zit zhC n μ) = zit (fun ν => zhM (zhC ν)) n μ ∧ (0 ≤ zit zhC n μ 43 1 ∧ zit zhC n μ 43 1 < 24) ∧ zit zhC n μ 178 1 = μ 178 1 := by
  intro n
  induction n with
  | zero => intro μ u1 u2; exact ⟨rfl, u1, rfl⟩
  | succ n ih =>
    intro μ u1 u2
    obtain ⟨i1, i2, i3⟩ := ih μ u1 u2
    have := (zhM_itC n (zit zhC n μ) i2 (by rw [i3]; exact u2)).1
    rw [show ((n + 1 : Nat) : Int) = (n : Int) + 1 by omega, zit_s zhM (by omega), zit_s zhC (by omega), zit_s (fun ν => zhM (zhC ν)) (by omega), this, i1]
    exact ⟨rfl, zhC_n i2, by rw [zhC_o (by decide) i2, i3]⟩
theorem zT_pass {X R : zr} {B : Int} (h : zT X R B) (hB : B ≤ 90000) (hzX : tz X) (hzR : tz R) (hN : 0 < R 0) (h4 : R 4 + 1 ≤ 9999) : zT (passR X) (passR R) B := by
  have hr := zT_Rl h hB hzX hzR hN
  obtain ⟨g1, g2, g3, g4, g5, g6, g7, -⟩ := pasI_V hzR h.2.1.1 (n := 1) (by decide) (by omega)
  rw [show pasI R 1 = passR R from rfl] at g1 g2 g3 g4 g7
  refine ⟨zVE_of (zVD_pass hr.1 (by decide) h.2.1.1 hr.B (by have := hr.2.2.2.2.2; omega)), ⟨g1, by rw [g3, g4]; exact h.2.1.2.1, by rw [g7]; exact h4⟩, Int.le_trans (zLo_pass h.2.1.1).1 h.2.2⟩
theorem Iv_hour (hI : Iv ι B) (hB : B ≤ 90000) (hN : 0 < wb 0 ι 0) (h4 : wb 0 ι 4 + 1 ≤ 9999) : Iv (zhM (zhC ι)) B ∧ (∀ y, zhM (zhC ι) 0 y = ι 0 y) ∧ wb 0 (zhM (zhC ι)) 0 = wb 0 ι 0 ∧ wb 0 (zhM (zhC ι)) 4 = wb 0 ι 4 + 1 := by
  have ew : wb 0 (zhC ι) = wb 0 ι := (wb_act hI).1
  have hV := hI.2.2.1.2.1.1
  obtain ⟨g1, g2, g3, g4, g5, g6, g7, -⟩ := pasI_V (wb_tz 0 ι) hV (n := 1) (by decide) (by omega)
  obtain ⟨k1, k2, -⟩ := pasI_V (tb_tz 23 ι) (zT_TM hI.2.2.1 hB).1 (n := 1) (by decide) (by have := (zVD_of hI.2.2.1.1).1.2.2.2.2.1; omega)
  rw [show pasI (wb 0 ι) 1 = passR (wb 0 ι) from rfl] at g2 g3 g7
  rw [show pasI (tb 23 ι) 1 = passR (tb 23 ι) from rfl] at k2
  have e : zhM (zhC ι) = wp 0 (passR (wb 0 ι)) (zmd (tp 23 (passR (tb 23 ι)) (zke ι))) := by
    unfold zhM
    rw [ew]
    rfl
  rw [e, wb_wp 0 g2]
  obtain ⟨a, b⟩ := Iv_act hI k2 g2 (zT_pass hI.2.2.1 hB (tb_tz 23 ι) (wb_tz 0 ι) hN h4) (Int.le_refl B)
  exact ⟨a, b, g3, g7⟩
theorem o_hours (hI : Iv ι B) (hB : B ≤ 90000) {n : Int} (hn : zB n) : zOp l (zc D ad L z) mX6_hours mX7_hours 4 4 [zI n] ι B := by
  obtain ⟨hT, hd, hM, e0, e1, e2, e3, e4, e5, hr⟩ := Iv_e hI hB
  obtain ⟨u1, u2, u3, u4⟩ := hI.2.2.2.2.1
  have hu2 : 0 ≤ ι 178 1 ∧ ι 178 1 ≤ 24 := by rw [u3]; exact u2
  have hw : ∀ m : Nat, wb 0 (zit zhC m ι) = wb 0 ι ∧ zit zhC m ι 178 1 = ι 178 1 ∧ ∀ y, zit zhC m ι 0 y = ι 0 y := by
    intro m
    induction m with
    | zero => exact ⟨rfl, rfl, fun _ => rfl⟩
    | succ m ih =>
      have hc := (zit_cm m ι u1 hu2).2.1
      rw [show ((m + 1 : Nat) : Int) = (m : Int) + 1 by omega, zit_s zhC (by omega)]
      refine ⟨(wb_fr (fun x _ _ => zhC_o (by decide) hc)).trans ih.1, (zhC_o (by decide) hc).trans ih.2.1, fun y => ?_⟩
      exact (zhC_z hc).trans (ih.2.2 y)
  refine ⟨_, c_xHours hT u1 u2 hn, fun v1 ι1 q1 => ⟨_, q1.1, fun y => by
    rw [q1.2]
    split
    · rename_i g; have := (hw n.toNat).2.2 y; rw [show ((n.toNat : Nat) : Int) = n by omega] at this; exact this
    · rfl, _, c_mHours (ι := ι1) ?_ ?_ hn, fun v2 ι2 q2 => ?_⟩⟩
  · rw [q1.2]; split
    · rename_i g; have := (hw n.toNat).1; rw [show ((n.toNat : Nat) : Int) = n by omega] at this; rw [this]; exact hM
    · exact hM
  · rw [q1.2]; split
    · rename_i g; have := (hw n.toNat).2.1; rw [show ((n.toNat : Nat) : Int) = n by omega] at this; rw [this]; exact hu2
    · exact hu2
  · obtain ⟨-, q1⟩ := q1
    obtain ⟨q2, q3⟩ := q2
    rw [e0, e4] at q1
    by_cases g : 0 < wb 0 ι 0 ∧ (1 ≤ n ∧ n ≤ 24) ∧ ¬ 9999 < wb 0 ι 4 + n
    · rw [if_pos g] at q1
      have ew : wb 0 ι1 = wb 0 ι := by rw [q1]; have := (hw n.toNat).1; rw [show ((n.toNat : Nat) : Int) = n by omega] at this; exact this
      rw [ew] at q2 q3
      rw [if_pos g] at q3
      have ha := zRl_aw (hr g.1) (n := n) (by omega) (by omega)
      rw [e0] at ha
      refine ⟨by rw [q2, e0, e4, ha], ?_⟩
      have key : ∀ m : Nat, (m : Int) ≤ n → Iv (zit (fun ν => zhM (zhC ν)) m ι) B ∧ (∀ y, zit (fun ν => zhM (zhC ν)) m ι 0 y = ι 0 y) ∧ wb 0 (zit (fun ν => zhM (zhC ν)) m ι) 0 = wb 0 ι 0 ∧ wb 0 (zit (fun ν => zhM (zhC ν)) m ι) 4 = wb 0 ι 4 + m := by
        intro m
        induction m with
        | zero => intro _; exact ⟨hI, fun _ => rfl, rfl, by show wb 0 ι 4 = wb 0 ι 4 + ((0 : Nat) : Int); omega⟩
        | succ m ih =>
          intro hm
          obtain ⟨i1, i2, i3, i4⟩ := ih (by omega)
          rw [show ((m + 1 : Nat) : Int) = (m : Int) + 1 by omega, zit_s (fun ν => zhM (zhC ν)) (by omega)]
          obtain ⟨k1, k2, k3, k4⟩ := Iv_hour i1 hB (by rw [i3]; exact g.1) (by rw [i4]; omega)
          exact ⟨k1, fun y => (k2 y).trans (i2 y), k3.trans i3, by rw [k4, i4]; omega⟩
      have hk := key n.toNat (by omega)
      have hc := (zit_cm n.toNat ι u1 hu2).1
      rw [show ((n.toNat : Nat) : Int) = n by omega] at hk hc
      rw [q3, q1, hc]
      exact ⟨Iv_m hk.1 (by omega), hk.2.1⟩
    · rw [if_neg g] at q1
      subst q1
      rw [if_neg g] at q3
      subst q3
      refine ⟨?_, Iv_m hI (by omega), fun _ => rfl⟩
      rw [q2, e0, e4]
      by_cases g1 : ¬ (0 < wb 0 ι2 0)
      · rw [if_pos g1, if_pos g1]
      · rw [if_neg g1, if_neg g1]
        by_cases g2 : ¬ (1 ≤ n ∧ n ≤ 24)
        · rw [if_pos g2, if_pos g2]
        · rw [if_neg g2, if_neg g2, if_pos (by omega), if_pos (by omega)]
/-! a town that was told -/
def zPk (R : zr) : Prop := zVT R ∧ R 4 = 0 ∧ R 5 = 0
theorem pSs_ok {h : Int → Int} : ∀ (n : Nat) (p : Int) (R : zr) (q : Int) (S : zr), pSs h n p R = .ok (q, S) → zPk R → R 1 = 0 → zPk S ∧ S 1 = 0 ∧ 0 < S 0 := by
  intro n
  induction n with
  | zero => intro p R q S e; cases e
  | succ n ih =>
    intro p R q S e hP h1
    rw [pSs] at e
    by_cases g : R 0 ≠ 0 ∧ h p = 114
    · rw [if_pos g] at e
      cases e
      exact ⟨hP, h1, by have := hP.1.1; omega⟩
    · rw [if_neg g] at e
      obtain ⟨⟨q1, S1⟩, e1, e2⟩ := zE_bind e
      obtain ⟨-, s2, k, a, b, s3, k1, k2, k3⟩ := pSt_ok e1
      obtain ⟨v0, v1, v2, v3, v4, v5, v6, v7⟩ := hP.1
      refine ih q1 S1 q S e2 ?_ (by rw [s3]; simp (disch := omega) only [ru_n]; exact h1)
      have f0 : S1 0 = R 0 + 1 := by rw [s3, ru_s]
      have fo : ∀ j, j ≠ 0 → j ≠ 6 + R 0 → j ≠ 14 + R 0 → j ≠ 22 + R 0 → S1 j = R j := fun j j0 j1 j2 j3 => by rw [s3, ru_n _ j0, ru_n _ j3, ru_n _ j2, ru_n _ j1]
      have f1 : S1 (6 + R 0) = k := by rw [s3]; simp (disch := omega) only [ru_n, ru_s]
      have f2 : S1 (14 + R 0) = a := by rw [s3]; simp (disch := omega) only [ru_n, ru_s]
      have f3 : S1 (22 + R 0) = b := by rw [s3]; simp (disch := omega) only [ru_n, ru_s]
      refine ⟨⟨by rw [f0]; omega, by rw [fo 1 (by omega) (by omega) (by omega) (by omega)]; exact v1, by rw [fo 2 (by omega) (by omega) (by omega) (by omega)]; exact v2, by rw [fo 3 (by omega) (by omega) (by omega) (by omega)]; exact v3, by rw [fo 4 (by omega) (by omega) (by omega) (by omega)]; exact v4, by rw [fo 5 (by omega) (by omega) (by omega) (by omega)]; exact v5, fun j j0 j1 => ?_, fun j j0 j1 => ?_⟩, by rw [fo 4 (by omega) (by omega) (by omega) (by omega)]; exact hP.2.1, by rw [fo 5 (by omega) (by omega) (by omega) (by omega)]; exact hP.2.2⟩
      · rw [f0] at j1
        by_cases gj : j = R 0
        · rw [gj, f1, f2, f3]; exact ⟨k1, k2, k3⟩
        · rw [fo (6 + j) (by omega) (by omega) (by omega) (by omega), fo (14 + j) (by omega) (by omega) (by omega) (by omega), fo (22 + j) (by omega) (by omega) (by omega) (by omega)]
          exact v6 j j0 (by omega)
      · rw [fo 1 (by omega) (by omega) (by omega) (by omega), h1] at j1
        omega
theorem pBs_ok {h : Int → Int} {L' : Int} : ∀ (n : Nat) (p : Int) (R : zr) (q : Int) (S : zr), pBs h L' n p R = .ok (q, S) → zPk R → 0 < R 0 → zPk S ∧ 0 < S 0 ∧ 0 < S 1 := by
  intro n
  induction n with
  | zero => intro p R q S e; cases e
  | succ n ih =>
    intro p R q S e hP h1
    rw [pBs] at e
    by_cases g : R 1 ≠ 0 ∧ L' ≤ p
    · rw [if_pos g] at e
      cases e
      exact ⟨hP, h1, by have := hP.1.2.1; omega⟩
    · rw [if_neg g] at e
      obtain ⟨⟨q1, S1⟩, e1, e2⟩ := zE_bind e
      obtain ⟨-, s2, a, s3, k1⟩ := pBt_ok e1
      obtain ⟨v0, v1, v2, v3, v4, v5, v6, v7⟩ := hP.1
      have f1 : S1 1 = R 1 + 1 := by rw [s3, ru_s]
      have fo : ∀ j, j ≠ 1 → j ≠ 30 + R 1 → S1 j = R j := fun j j0 j1 => by rw [s3, ru_n _ j0, ru_n _ j1]
      have f2 : S1 (30 + R 1) = a := by rw [s3]; simp (disch := omega) only [ru_n, ru_s]
      refine ih q1 S1 q S e2 ⟨⟨by rw [fo 0 (by omega) (by omega)]; exact v0, by rw [f1]; omega, by rw [fo 2 (by omega) (by omega)]; exact v2, by rw [fo 3 (by omega) (by omega)]; exact v3, by rw [fo 4 (by omega) (by omega)]; exact v4, by rw [fo 5 (by omega) (by omega)]; exact v5, fun j j0 j1 => ?_, fun j j0 j1 => ?_⟩, by rw [fo 4 (by omega) (by omega)]; exact hP.2.1, by rw [fo 5 (by omega) (by omega)]; exact hP.2.2⟩ (by rw [fo 0 (by omega) (by omega)]; exact h1)
      · rw [fo 0 (by omega) (by omega)] at j1
        rw [fo (6 + j) (by omega) (by omega), fo (14 + j) (by omega) (by omega), fo (22 + j) (by omega) (by omega)]
        exact v6 j j0 j1
      · rw [f1] at j1
        rw [fo 0 (by omega) (by omega)]
        by_cases gj : j = R 1
        · rw [gj, f2]; exact k1
        · rw [fo (30 + j) (by omega) (by omega)]
          exact v7 j j0 (by omega)
theorem pAl_ok {h : Int → Int} {L' p : Int} {R : zr} (e : pAl h L' (fun _ => 0) = .ok (p, R)) : zTM R ∧ zLo R ≤ 480 := by
  unfold pAl at e
  obtain ⟨⟨q1, S1⟩, e1, e2⟩ := zE_bind e
  obtain ⟨⟨q2, S2⟩, e3, e4⟩ := zE_bind e2
  obtain ⟨-, a, b, s, k1, k2⟩ := pLw_ok e1
  have hP1 : zPk S1 := by
    have fo : ∀ j, j ≠ 2 → j ≠ 3 → S1 j = 0 := fun j j0 j1 => by rw [s, ru_n _ j1, ru_n _ j0]
    have f2 : S1 2 = a := by rw [s]; simp (disch := omega) only [ru_n, ru_s]
    have f3 : S1 3 = b := by rw [s, ru_s]
    refine ⟨⟨by rw [fo 0 (by omega) (by omega)]; decide, by rw [fo 1 (by omega) (by omega)]; decide, by rw [f2]; exact k1, by rw [f3]; exact k2, by rw [fo 4 (by omega) (by omega)]; decide, by rw [fo 5 (by omega) (by omega)]; decide, fun j j0 j1 => by rw [fo 0 (by omega) (by omega)] at j1; omega, fun j j0 j1 => by rw [fo 1 (by omega) (by omega)] at j1; omega⟩, fo 4 (by omega) (by omega), fo 5 (by omega) (by omega)⟩
  have h11 : S1 1 = 0 := by rw [s]; rfl
  obtain ⟨hP2, h21, h20⟩ := pSs_ok 10 _ _ _ _ e3 hP1 h11
  obtain ⟨hP3, h30, h31⟩ := pBs_ok 10 _ _ _ _ e4 hP2 h20
  refine ⟨⟨hP3.1, fun _ => h31, by rw [hP3.2.1]; decide⟩, ?_⟩
  have hb := zsum_b (fun s => R (22 + s)) (i := R 0) (M := 60) hP3.1.1.1 (fun s s0 s1 => (hP3.1.2.2.2.2.2.2.1 s s0 s1).2.2)
  have := hP3.1.1
  unfold zLo
  rw [hP3.2.2]
  omega
theorem o_town (hI : Iv ι B) (hB0 : 480 ≤ B) : zOp l (zc D ad L z) mX6_town mX7_town 7 4 [] ι B := by
  obtain ⟨a1, a2, a3, a4, a5, a6, a7, a8, a9⟩ := id hI
  obtain ⟨t1, t2, t3, t4⟩ := id a7
  obtain ⟨h, hh⟩ : ∃ h : Int → Int, h = fun p => if 0 ≤ p ∧ p < ι 178 3 then ι 180 p else -1 := ⟨_, rfl⟩
  have hin : ∀ p, 0 ≤ p → p < ι 178 3 → h p = ι 180 p := fun p p0 p1 => by rw [hh]; exact if_pos ⟨p0, p1⟩
  have hout : ∀ p, ι 178 3 ≤ p → h p = -1 := fun p p0 => by rw [hh]; exact if_neg (by omega)
  have hqC : zqC h (ι 178 3) ι := ⟨t1, t2, fun p p0 p1 => by rw [hin p p0 p1]; obtain ⟨k1, k2, k3⟩ := t3 p p0 p1; exact ⟨k1.symm, k2, k3⟩, hout⟩
  refine ⟨_, c_xTown a1 hqC, fun v1 ι1 q1 => ?_⟩
  obtain ⟨f1, f2, q1⟩ := q1
  have hqM : zqM h (ι 178 3) ι1 := ⟨f1 178 3 (by omega) (by omega), t2, fun p p0 p1 => by rw [hin p p0 p1, f1 180 p (by omega) (by omega)]; exact ⟨rfl, (t3 p p0 p1).2⟩, hout⟩
  have fin : ∀ ι2, (∀ b x, (b ≠ 178 ∨ (x ≠ 1 ∧ x ≠ 3 ∧ x ≠ 4 ∧ x ≠ 10 ∧ x ≠ 11 ∧ x ≠ 12)) → (b ≠ 179 ∨ (38 ≤ x ∧ x < 152) ∨ 190 ≤ x ∨ x < 0) → ι2 b x = ι1 b x) → ι2 178 3 = 0 → ι2 21 2 = ι2 178 4 → zT (tb 23 ι2) (wb 0 ι2) B → zU ι2 B → Iv ι2 (B + 60) ∧ ∀ y, ι2 0 y = ι 0 y := fun ι2 g1 g2 g3 g4 g5 => by
    have so : ∀ b x, (b < 21 ∨ 33 ≤ b ∨ b = 22) → (b ≠ 43 ∨ x ≠ 2) → (b ≠ 178 ∨ (x ≠ 1 ∧ x ≠ 3 ∧ x ≠ 4 ∧ x ≠ 10 ∧ x ≠ 11 ∧ x ≠ 12)) → (b ≠ 179 ∨ (38 ≤ x ∧ x < 152) ∨ 190 ≤ x ∨ x < 0) → ι2 b x = ι b x := fun b x k1 k2 k3 k4 => by rw [g1 b x k3 k4, f1 b x k1 k2]
    refine ⟨Iv_m (B := B) ⟨zPre_fr a1 (fun b x hb => so b x (by omega) (by omega) (by omega) (by omega)), zCh_e a2 (so 165 3 (by omega) (by omega) (by omega) (by omega)) (so 165 4 (by omega) (by omega) (by omega) (by omega)), g4, zIg_fr a4 (fun b x hb => so b x (by omega) (by omega) (by omega) (by omega)), g5, zW_fr a6 (fun b x hb => so b x (by omega) (by omega) (by omega) (by omega)), ⟨by rw [g1 21 1 (by omega) (by omega), f2, g2], by rw [g2]; decide, fun p p0 p1 => by rw [g2] at p1; omega, g3⟩, by rw [so 8 9 (by omega) (by omega) (by omega) (by omega), so 178 5 (by omega) (by omega) (by omega) (by omega)]; exact a8, zTc_fr a9 (fun b x hb => so b x (by omega) (by omega) (by omega) (by omega))⟩ (by omega), fun y => so 0 y (by omega) (by omega) (by omega) (by omega)⟩
  rcases q1 with ⟨w, q, hE, hv, c1, c2, c3⟩ | ⟨p, R, hE, hv, c1, c2, c3⟩
  · refine ⟨_, hv, fun y => f1 0 y (by omega) (by omega), _, c_mTown (ι := ι1) hqM, fun v2 ι2 q2 => ?_⟩
    obtain ⟨g1, g2, q2⟩ := q2
    rcases q2 with ⟨w', q', hE', hv', d1, d2, d3⟩ | ⟨p', R', hE', -⟩
    · rw [hE] at hE'
      cases hE'
      refine ⟨hv', fin ι2 g1 g2 (by rw [g1 21 2 (by omega) (by omega), c1, d1]) ?_ ?_⟩
      · have e1 : tb 23 ι2 = tb 23 ι := by rw [tb_fr (ι := ι1) (fun b x b0 b1 => g1 b x (by omega) (by omega)), c3]
        have e2 : wb 0 ι2 = wb 0 ι := by rw [d3]; exact wb_fr (fun x _ _ => f1 179 x (by omega) (by omega))
        rw [e1, e2]
        exact a3
      · refine zU_fr a5 (fun b x hb => ?_)
        by_cases gb : b = 178
        · rw [gb, show x = 1 by omega, d2, f1 178 1 (by omega) (by omega)]
        · by_cases gc : b = 43 ∧ x = 2
          · rw [gc.1, gc.2, g1 43 2 (by omega) (by omega), c2]
          · rw [g1 b x (by omega) (by omega), f1 b x (by omega) (by omega)]
    · rw [hE] at hE'; cases hE'
  · refine ⟨_, hv, fun y => f1 0 y (by omega) (by omega), _, c_mTown (ι := ι1) hqM, fun v2 ι2 q2 => ?_⟩
    obtain ⟨g1, g2, q2⟩ := q2
    rcases q2 with ⟨w', q', hE', -⟩ | ⟨p', R', hE', hv', d1, d2, d3⟩
    · rw [hE] at hE'; cases hE'
    · rw [hE] at hE'
      cases hE'
      obtain ⟨k1, k2⟩ := pAl_ok hE
      refine ⟨hv', fin ι2 g1 g2 (by rw [g1 21 2 (by omega) (by omega), c1, d1, f1 178 4 (by omega) (by omega)]; exact t4) ?_ ?_⟩
      · have e1 : tb 23 ι2 = tb 23 ι1 := tb_fr (fun b x b0 b1 => g1 b x (by omega) (by omega))
        rw [e1, d3]
        exact ⟨c3, k1, by omega⟩
      · have m1 : ι2 43 1 = ι 43 1 := by rw [g1 43 1 (by omega) (by omega), f1 43 1 (by omega) (by omega)]
        have m2 : ι2 43 2 = 0 := by rw [g1 43 2 (by omega) (by omega), c2]
        exact ⟨by rw [m1]; exact a5.1, by rw [m2]; decide, by rw [m2, d2], fun j j0 j1 => by rw [m2] at j1; omega⟩
end
