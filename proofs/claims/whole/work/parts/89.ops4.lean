section
variable {l : Launch} {D : va_G} {ad : Nat → Nat} {L z : Nat} {ι : zi} {B : Int}
theorem o_copy (hI : Iv ι B) {a i b j n : Int} (ha : zB a) (hi : zB i) (hb : zB b) (hj : zB j) (hn : zB n) : zOp l (zc D ad L z) mX6_copy mX7_copy 2 2 [zI a, zI i, zI b, zI j, zI n] ι B := by
  obtain ⟨l1, l2, l3, l4, l5, l6⟩ := Iv_L hI
  have hfr : ∀ ι1, (ι1 = if ¬ ((0 ≤ a ∧ a ≤ 7) ∧ (0 ≤ b ∧ b ≤ 7)) then ι else if ι 19 a = -1 ∨ ι 19 b = -1 then iup ι 8 9 1 else if ¬ ι 19 a = ι 19 b then iup ι 8 9 5 else if ¬ (0 ≤ i ∧ 0 ≤ n ∧ i ≤ ι 20 a ∧ n ≤ ι 20 a - i) ∨ ¬ (0 ≤ j ∧ 0 ≤ n ∧ j ≤ ι 20 b ∧ n ≤ ι 20 b - j) then iup ι 8 9 2 else iup (icpy ι (11 + a.toNat) (11 + b.toNat) i j n) 8 9 0) → ∀ c x, c ≠ 8 → c ≠ 11 + b.toNat → ι1 c x = ι c x := fun ι1 h c x h8 hc => by
    rw [h]
    (repeat' split) <;> first | rfl | simp (disch := omega) only [iup_n, icpy_n]
  refine ⟨_, c_xCopy l1 l2 ha hi hb hj hn, fun v1 ι1 q1 => ⟨_, q1.1, fun y => by
    rw [q1.2]
    (repeat' split) <;> first | rfl | simp (disch := omega) only [iup_n, ifill_n, icpy_n], _, c_mCopy (ι := ι1) ha hi hb hj hn ?_ ?_, fun v2 ι2 q2 => ?_⟩⟩
  · intro k k0 k1
    by_cases g : (0 ≤ a ∧ a ≤ 7) ∧ (0 ≤ b ∧ b ≤ 7)
    · rw [hfr ι1 q1.2 181 k (by decide) (by omega)]; exact l3 k k0 k1
    · obtain ⟨-, q⟩ := q1; rw [if_pos g] at q; rw [q]; exact l3 k k0 k1
  · intro k k0 k1
    by_cases g : (0 ≤ a ∧ a ≤ 7) ∧ (0 ≤ b ∧ b ≤ 7)
    · rw [hfr ι1 q1.2 182 k (by decide) (by omega)]; exact l4 k k0 k1
    · obtain ⟨-, q⟩ := q1; rw [if_pos g] at q; rw [q]; exact l4 k k0 k1
  · have hf := hfr ι1 q1.2
    obtain ⟨-, q1⟩ := q1
    obtain ⟨q2, q3⟩ := q2
    by_cases g : ¬ ((0 ≤ a ∧ a ≤ 7) ∧ (0 ≤ b ∧ b ≤ 7))
    · rw [if_pos g] at q1 q2 q3
      subst q1; subst q3
      exact ⟨by rw [q2, if_pos g], Iv_m hI (by omega), fun _ => rfl⟩
    · have hza := zag_e hI (r := a) (i := i) (n := n) (by omega) (by omega)
      have hzb := zag_e hI (r := b) (i := j) (n := n) (by omega) (by omega)
      obtain ⟨a1, a2, a3, a4, a5, a6⟩ := hI.2.2.2.2.2.1 a (by omega) (by omega)
      obtain ⟨b1, b2, b3, b4, b5, b6⟩ := hI.2.2.2.2.2.1 b (by omega) (by omega)
      rw [if_neg g] at q1 q2 q3
      rw [hf 181 a (by decide) (by omega), hf 181 b (by decide) (by omega), hf 182 a (by decide) (by omega), hf 182 b (by decide) (by omega), hza, hzb] at q2 q3
      have fin : ∀ st : Int, ι1 = iup ι 8 9 st → ι2 = iup ι1 178 5 st → Iv ι2 (B + 60) ∧ ∀ y, ι2 0 y = ι 0 y := fun st h1 h2 => by
        subst h1; subst h2
        exact ⟨Iv_m (Iv_s hI (v := st) (fun b x h1 h2 h3 => by rw [iup_n _ (by omega), iup_n _ (by omega)]) (zCh_e hI.2.1 (by rw [iup_n _ (by omega), iup_n _ (by omega)]) (by rw [iup_n _ (by omega), iup_n _ (by omega)])) (by rw [iup_n _ (by omega), iup_s]) (by rw [iup_s])) (by omega), fun y => by rw [iup_n _ (by omega), iup_n _ (by omega)]⟩
      rw [if_neg g]
      by_cases g1 : ι 19 a = -1 ∨ ι 19 b = -1
      · have k1 : ι 181 a < 0 ∨ ι 181 b < 0 := by
          rcases g1 with k | k
          · rw [if_pos k] at a3; omega
          · rw [if_pos k] at b3; omega
        rw [if_pos k1] at q2 q3
        rw [if_pos g1] at q1 ⊢
        exact ⟨q2, fin 1 q1 q3⟩
      · have ga : ¬ ι 19 a = -1 := fun k => g1 (Or.inl k)
        have gb : ¬ ι 19 b = -1 := fun k => g1 (Or.inr k)
        rw [if_neg ga] at a3 hza
        rw [if_neg gb] at b3 hzb
        have k1 : ¬ (ι 181 a < 0 ∨ ι 181 b < 0) := by omega
        rw [if_neg k1, a4 ga, b4 gb, if_neg ga, if_neg gb] at q2 q3
        rw [if_neg g1] at q1 ⊢
        by_cases g2 : ¬ ι 19 a = ι 19 b
        · rw [if_pos g2] at q1 q2 q3
          rw [if_pos g2]
          exact ⟨q2, fin 5 q1 q3⟩
        · rw [if_neg g2] at q1 q2 q3
          rw [if_neg g2]
          by_cases g3 : ¬ (0 ≤ i ∧ 0 ≤ n ∧ i ≤ ι 20 a ∧ n ≤ ι 20 a - i) ∨ ¬ (0 ≤ j ∧ 0 ≤ n ∧ j ≤ ι 20 b ∧ n ≤ ι 20 b - j)
          · have k2 : 0 < (if ¬ (0 ≤ i ∧ 0 ≤ n ∧ i ≤ ι 20 a ∧ n ≤ ι 20 a - i) then (2 : Int) else 0) ∨ 0 < (if ¬ (0 ≤ j ∧ 0 ≤ n ∧ j ≤ ι 20 b ∧ n ≤ ι 20 b - j) then (2 : Int) else 0) := by
              rcases g3 with k | k
              · left; rw [if_pos k]; decide
              · right; rw [if_pos k]; decide
            rw [if_pos k2] at q2 q3
            rw [if_pos g3] at q1 ⊢
            exact ⟨q2, fin 2 q1 q3⟩
          · have c1 : 0 ≤ i ∧ 0 ≤ n ∧ i ≤ ι 20 a ∧ n ≤ ι 20 a - i := by omega
            have c2 : 0 ≤ j ∧ 0 ≤ n ∧ j ≤ ι 20 b ∧ n ≤ ι 20 b - j := by omega
            have k2 : ¬ (0 < (if ¬ (0 ≤ i ∧ 0 ≤ n ∧ i ≤ ι 20 a ∧ n ≤ ι 20 a - i) then (2 : Int) else 0) ∨ 0 < (if ¬ (0 ≤ j ∧ 0 ≤ n ∧ j ≤ ι 20 b ∧ n ≤ ι 20 b - j) then (2 : Int) else 0)) := by
              rw [if_neg (fun k => k c1), if_neg (fun k => k c2)]; decide
            rw [if_neg k2] at q2 q3
            rw [if_neg g3] at q1 ⊢
            have ho : ∀ c x, ¬ (c = 8 ∧ x = 9) → ¬ (c = 178 ∧ x = 5) → c ≠ 184 → (c ≠ 11 + b.toNat ∨ x < j ∨ j + n ≤ x) → (c ≠ 183 ∨ x < 40 * b + j ∨ 40 * b + j + n ≤ x) → ι2 c x = ι c x := fun c x h1 h2 h3 h4 h5 => by
              rw [q3, icpy_n _ (by omega), icpy_n _ (by omega), iup_n _ (by omega), q1, iup_n _ (by omega), icpy_n _ (by omega)]
            refine ⟨q2, Iv_m (Iv_w hI (fun c x h1 h2 h3 h4 => ho c x h3 h4 (by unfold zSx at h1; omega) (by omega) (by omega)) (zCh_e hI.2.1 (ho 165 3 (by omega) (by omega) (by omega) (by omega) (by omega)) (ho 165 4 (by omega) (by omega) (by omega) (by omega) (by omega))) (fun r' r0 r1 => ?_) ?_) (by omega), fun y => ho 0 y (by omega) (by omega) (by omega) (by omega) (by omega)⟩
            · rw [ho 19 r' (by omega) (by omega) (by omega) (by omega) (by omega), ho 20 r' (by omega) (by omega) (by omega) (by omega) (by omega), ho 181 r' (by omega) (by omega) (by omega) (by omega) (by omega), ho 182 r' (by omega) (by omega) (by omega) (by omega) (by omega)]
              obtain ⟨d1, d2, d3, d4, d5, d6⟩ := hI.2.2.2.2.2.1 r' r0 r1
              refine ⟨d1, d2, d3, d4, d5, fun y y0 y1 => ?_⟩
              by_cases gr : r' = b ∧ j ≤ y ∧ y < j + n
              · obtain ⟨rfl, gj, gn⟩ := gr
                have z1 : ι2 (11 + r'.toNat) y = ι (11 + a.toNat) (i + (y - j)) := by
                  rw [q3, icpy_n _ (by omega), icpy_n _ (by omega), iup_n _ (by omega), q1, iup_n _ (by omega), icpy_i _ gj gn]
                have z2 : ι2 183 (40 * r' + y) = ι 183 (40 * a + (i + (y - j))) := by
                  rw [q3, icpy_i _ (by omega) (by omega), icpy_i _ (by omega) (by omega), iup_n _ (by omega), hf 183 _ (by decide) (by omega)]
                  congr 1
                  omega
                have e := a6 (i + (y - j)) (by omega) (by omega)
                rw [z1, z2]
                exact ⟨e.1, e.2.1, fun _ => e.2.2 ga⟩
              · rw [ho (11 + r'.toNat) y (by omega) (by omega) (by omega) (by omega) (by omega), ho 183 (40 * r' + y) (by omega) (by omega) (by omega) (by omega) (by omega)]
                exact d6 y y0 y1
            · rw [q3, icpy_n _ (by omega), icpy_n _ (by omega), icpy_n _ (by omega), icpy_n _ (by omega), iup_n _ (by omega), iup_s, q1, iup_s]
/-! the tape, the trace -/
theorem o_feed (hI : Iv ι B) {x : Int} (hx : zB x) : zOp l (zc D ad L z) mX6_feed mX7_feed 1 1 [zI x] ι B := by
  obtain ⟨t1, t2, t3, t4⟩ := hI.2.2.2.2.2.2.1
  refine ⟨_, c_xFeed (by rw [t1]; exact t2) hx, fun v1 ι1 q1 => ⟨_, q1.1, fun y => by
    rw [q1.2]
    (repeat' split) <;> first | rfl | simp (disch := omega) only [iup_n, ifill_n, icpy_n], _, c_mFeed (ι := ι1) hx ?_, fun v2 ι2 q2 => ?_⟩⟩
  · rw [q1.2]; split
    · rw [iup_n _ (by omega), iup_n _ (by omega)]; exact t2
    · exact t2
  · obtain ⟨-, q1⟩ := q1
    obtain ⟨q2, q3⟩ := q2
    have e3 : ι1 178 3 = ι 178 3 := by
      rw [q1]; split
      · rw [iup_n _ (by omega), iup_n _ (by omega)]
      · rfl
    rw [e3] at q2 q3
    rw [t1] at q1
    refine ⟨by rw [q2, t1], ?_⟩
    by_cases g : (0 ≤ x ∧ x ≤ 255) ∧ ¬ ι 178 3 = 110
    · rw [if_pos g] at q1 q3
      have ho : ∀ b y, ¬ (b = 21 ∧ y = 1) → ¬ (b = 178 ∧ y = 3) → (b ≠ 22 ∨ y ≠ ι 178 3) → (b ≠ 180 ∨ y ≠ ι 178 3) → ι2 b y = ι b y := fun b y h1 h2 h3 h4 => by
        rw [q3, iup_n _ (by omega), iup_n _ (by omega), q1, iup_n _ (by omega), iup_n _ (by omega)]
      obtain ⟨a1, a2, a3, a4, a5, a6, a7, a8, a9⟩ := hI
      have hJ : Iv ι2 B := by
        refine ⟨zPre_fr a1 (fun b y hb => ho b y (by omega) (by omega) (by omega) (by omega)), zCh_e a2 (ho 165 3 (by omega) (by omega) (by omega) (by omega)) (ho 165 4 (by omega) (by omega) (by omega) (by omega)), ?_, zIg_fr a4 (fun b y hb => ho b y (by omega) (by omega) (by omega) (by omega)), zU_fr a5 (fun b y hb => ho b y (by omega) (by omega) (by omega) (by omega)), zW_fr a6 (fun b y hb => ho b y (by omega) (by omega) (by omega) (by omega)), ?_, by rw [ho 8 9 (by omega) (by omega) (by omega) (by omega), ho 178 5 (by omega) (by omega) (by omega) (by omega)]; exact a8, zTc_fr a9 (fun b y hb => ho b y (by omega) (by omega) (by omega) (by omega))⟩
        · rw [tb_fr (fun b y b0 b1 => ho b y (by omega) (by omega) (by omega) (by omega)), wb_fr (fun y y0 y1 => ho 179 y (by omega) (by omega) (by omega) (by omega))]
          exact a3
        · have z1 : ι2 21 1 = ι 178 3 + 1 := by rw [q3, iup_n _ (by omega), iup_n _ (by omega), q1, iup_s]
          have z2 : ι2 178 3 = ι 178 3 + 1 := by rw [q3, iup_s]
          unfold zTa
          rw [z1, z2, ho 21 2 (by omega) (by omega) (by omega) (by omega), ho 178 4 (by omega) (by omega) (by omega) (by omega)]
          refine ⟨rfl, by omega, fun p p0 p1 => ?_, t4⟩
          by_cases gp : p = ι 178 3
          · have z3 : ι2 22 p = x := by rw [q3, iup_n _ (by omega), iup_n _ (by omega), q1, iup_n _ (by omega), gp, iup_s]
            have z4 : ι2 180 p = x := by rw [q3, iup_n _ (by omega), gp, iup_s]
            rw [z3, z4]
            exact ⟨rfl, g.1⟩
          · rw [ho 22 p (by omega) (by omega) (by omega) (by omega), ho 180 p (by omega) (by omega) (by omega) (by omega)]
            exact t3 p p0 (by omega)
      exact ⟨Iv_m hJ (by omega), fun y => ho 0 y (by omega) (by omega) (by omega) (by omega)⟩
    · rw [if_neg g] at q1 q3
      subst q1; subst q3
      exact ⟨Iv_m hI (by omega), fun _ => rfl⟩
theorem ztl_2 {ι : zi} (vs : List Int) : ∀ ι2 : zi, zTc ι → (∀ b x, ι2 b x = ι b x) → zTc (ztl 178 16 187 (ztl 176 1 177 ι2 vs) vs) := by
  induction vs generalizing ι with
  | nil => intro ι2 h e; exact zTc_fr h (fun b x _ => e b x)
  | cons v vs ih =>
    intro ι2 h e
    have e0 : ι2 = ι := by funext b x; exact e b x
    subst e0
    obtain ⟨h1, h2, h3⟩ := h
    have cm : ∀ (us : List Int) (μ : zi), ztr 178 16 187 (ztl 176 1 177 μ us) v = ztl 176 1 177 (ztr 178 16 187 μ v) us := by
      intro us
      induction us with
      | nil => intro μ; rfl
      | cons u us ih2 =>
        intro μ
        show ztr 178 16 187 (ztl 176 1 177 (ztr 176 1 177 μ u) us) v = ztl 176 1 177 (ztr 176 1 177 (ztr 178 16 187 μ v) u) us
        rw [ih2]
        congr 1
        have x1 : ztr 176 1 177 μ u 178 16 = μ 178 16 := ztr_o (by decide) (by decide)
        have x2 : ztr 178 16 187 μ v 176 1 = μ 176 1 := ztr_o (by decide) (by decide)
        funext b x
        have y1 : ztr 178 16 187 (ztr 176 1 177 μ u) v b x = if b = 178 ∧ x = 16 ∨ b = 187 then ztr 178 16 187 μ v b x else ztr 176 1 177 μ u b x := by
          by_cases g : b = 178 ∧ x = 16 ∨ b = 187
          · rw [if_pos g]
            unfold ztr at x1 ⊢
            rw [x1]
            by_cases g2 : μ 178 16 < 16
            · rw [if_pos g2, if_pos g2]
              rcases g with ⟨rfl, rfl⟩ | rfl
              · rw [iup_s, iup_s]
              · by_cases g3 : x = μ 178 16
                · rw [g3, iup_n _ (by omega), iup_s, iup_n _ (by omega), iup_s]
                · rw [iup_n _ (by omega), iup_n _ (by omega), iup_n _ (by omega), iup_n _ (by omega)]
                  split
                  · rw [iup_n _ (by omega), iup_n _ (by omega)]
                  · rfl
            · rw [if_neg g2, if_neg g2]
              split
              · rw [iup_n _ (by omega), iup_n _ (by omega)]
              · rfl
          · rw [if_neg g]
            exact ztr_o (by omega) (by omega)
        have y2 : ztr 176 1 177 (ztr 178 16 187 μ v) u b x = if b = 178 ∧ x = 16 ∨ b = 187 then ztr 178 16 187 μ v b x else ztr 176 1 177 μ u b x := by
          by_cases g : b = 178 ∧ x = 16 ∨ b = 187
          · rw [if_pos g]
            exact ztr_o (by omega) (by omega)
          · rw [if_neg g]
            have x3 : ztr 178 16 187 μ v b x = μ b x := ztr_o (by omega) (by omega)
            obtain ⟨ν, hν⟩ : ∃ ν, ν = ztr 178 16 187 μ v := ⟨_, rfl⟩
            rw [← hν] at x2 x3 ⊢
            unfold ztr
            rw [x2]
            by_cases g2 : μ 176 1 < 16
            · rw [if_pos g2, if_pos g2]
              unfold iup
              split
              · rfl
              · split
                · rfl
                · exact x3
            · rw [if_neg g2, if_neg g2]
              exact x3
        rw [y1, y2]
    show zTc (ztl 178 16 187 (ztr 178 16 187 (ztl 176 1 177 (ztr 176 1 177 ι2 v) vs) v) vs)
    rw [cm vs]
    refine ih (ι := ztr 178 16 187 (ztr 176 1 177 ι2 v) v) _ ?_ (fun _ _ => rfl)
    have x1 : ztr 176 1 177 ι2 v 178 16 = ι2 178 16 := ztr_o (by decide) (by decide)
    unfold zTc
    by_cases g : ι2 178 16 < 16
    · have s1 : ztr 178 16 187 (ztr 176 1 177 ι2 v) v 178 16 = ι2 178 16 + 1 := by
        unfold ztr at x1 ⊢
        rw [x1, if_pos g, iup_s]
      have s2 : ztr 178 16 187 (ztr 176 1 177 ι2 v) v 176 1 = ι2 178 16 + 1 := by
        rw [ztr_o (by decide) (by decide)]
        unfold ztr
        rw [h1, if_pos g, iup_s]
      rw [s1, s2]
      refine ⟨rfl, by omega, fun i i0 i1 => ?_⟩
      have s3 : ztr 178 16 187 (ztr 176 1 177 ι2 v) v 177 i = if i = ι2 178 16 then v else ι2 177 i := by
        rw [ztr_o (Or.inl (by decide)) (by decide)]
        unfold ztr
        rw [h1, if_pos g, iup_n _ (by omega)]
        by_cases gi : i = ι2 178 16
        · rw [if_pos gi, gi, iup_s]
        · rw [if_neg gi, iup_n _ (by omega)]
      have s4 : ztr 178 16 187 (ztr 176 1 177 ι2 v) v 187 i = if i = ι2 178 16 then v else ι2 187 i := by
        unfold ztr at x1 ⊢
        rw [x1, if_pos g, iup_n _ (by omega)]
        by_cases gi : i = ι2 178 16
        · rw [if_pos gi, gi, iup_s]
        · rw [if_neg gi, iup_n _ (by omega)]
          split
          · rw [iup_n _ (by omega), iup_n _ (by omega)]
          · rfl
      rw [s3, s4]
      by_cases gi : i = ι2 178 16
      · rw [if_pos gi, if_pos gi]
      · rw [if_neg gi, if_neg gi]; exact h3 i i0 (by omega)
    · have s0 : ztr 178 16 187 (ztr 176 1 177 ι2 v) v = ι2 := by
        unfold ztr at x1 ⊢
        rw [x1, if_neg g, h1, if_neg g]
      rw [s0]
      exact ⟨h1, h2, h3⟩
theorem o_ask (hI : Iv ι B) (hB : B ≤ 90000) {s w : Int} (hs : zB s) (hw : zB w) : zOp l (zc D ad L z) mX6_ask mX7_ask 8 7 [zI s, zI w] ι B := by
  obtain ⟨hT, hd, hM, e0, e1, e2, e3, e4, e5, hr⟩ := Iv_e hI hB
  have hfr : ∀ ι1, (ι1 = if (0 ≤ s ∧ s < tb 23 ι 0) ∧ (0 ≤ w ∧ w ≤ 1) then ztl 176 1 177 (iup ι 176 1 0) (zask (tb 23 ι) s w).2 else ι) → ∀ b x, b ≠ 176 → b ≠ 177 → ι1 b x = ι b x := fun ι1 h b x h1 h2 => by
    rw [h]; split
    · rw [ztl_o (Or.inl h1) h2, iup_n _ (by omega)]
    · rfl
  refine ⟨_, c_xAsk hT hI.1 hs hw, fun v1 ι1 q1 => ⟨_, q1.1, fun y => hfr ι1 q1.2 0 y (by decide) (by decide), _, c_mAsk (ι := ι1) ?_ hs hw, fun v2 ι2 q2 => ?_⟩⟩
  · rw [wb_fr (fun x _ _ => hfr ι1 q1.2 179 x (by decide) (by decide))]; exact hM
  · have hf := hfr ι1 q1.2
    have ew : wb 0 ι1 = wb 0 ι := wb_fr (fun x _ _ => hf 179 x (by decide) (by decide))
    obtain ⟨-, q1⟩ := q1
    obtain ⟨q2, q3⟩ := q2
    rw [ew] at q2 q3
    rw [e0] at q1 ⊢
    by_cases g : (0 ≤ s ∧ s < wb 0 ι 0) ∧ (0 ≤ w ∧ w ≤ 1)
    · have ea := zRl_ask hd (s := s) (w := w) g.1.1 g.1.2
      rw [if_pos g, ea] at q1
      rw [if_pos g] at q3
      rw [if_neg (fun q => q g)] at q2
      have ho : ∀ b x, b ≠ 177 → b ≠ 187 → (b ≠ 176 ∨ x ≠ 1) → (b ≠ 178 ∨ x ≠ 16) → ι2 b x = ι b x := fun b x h1 h2 h3 h4 => by
        rw [q3, ztl_o h4 h2, iup_n _ (by omega), q1, ztl_o h3 h1, iup_n _ (by omega)]
      obtain ⟨a1, a2, a3, a4, a5, a6, a7, a8, a9⟩ := hI
      refine ⟨by rw [q2, if_neg (fun q => q g), ea], Iv_m (B := B) ⟨zPre_fr a1 (fun b y hb => ho b y (by omega) (by omega) (by omega) (by omega)), zCh_e a2 (ho 165 3 (by omega) (by omega) (by omega) (by omega)) (ho 165 4 (by omega) (by omega) (by omega) (by omega)), ?_, zIg_fr a4 (fun b y hb => ho b y (by omega) (by omega) (by omega) (by omega)), zU_fr a5 (fun b y hb => ho b y (by omega) (by omega) (by omega) (by omega)), zW_fr a6 (fun b y hb => ho b y (by omega) (by omega) (by omega) (by omega)), zTa_fr a7 (fun b y hb => ho b y (by omega) (by omega) (by omega) (by omega)), by rw [ho 8 9 (by omega) (by omega) (by omega) (by omega), ho 178 5 (by omega) (by omega) (by omega) (by omega)]; exact a8, ?_⟩ (by omega), fun y => ho 0 y (by omega) (by omega) (by omega) (by omega)⟩
      · rw [tb_fr (fun b y b0 b1 => ho b y (by omega) (by omega) (by omega) (by omega)), wb_fr (fun y y0 y1 => ho 179 y (by omega) (by omega) (by omega) (by omega))]
        exact a3
      · obtain ⟨vs, hvs⟩ : ∃ vs, vs = (zask (wb 0 ι) s w).2 := ⟨_, rfl⟩
        rw [← hvs] at q1 q3
        have h0 : zTc (iup (iup ι 176 1 0) 178 16 0) := ⟨by rw [iup_n _ (by omega), iup_s, iup_s], by rw [iup_s]; decide, fun i i0 i1 => by rw [iup_s] at i1; omega⟩
        have cm : iup (ztl 176 1 177 (iup ι 176 1 0) vs) 178 16 0 = ztl 176 1 177 (iup (iup ι 176 1 0) 178 16 0) vs := by
          have key : ∀ (us : List Int) (μ : zi), iup (ztl 176 1 177 μ us) 178 16 0 = ztl 176 1 177 (iup μ 178 16 0) us := by
            intro us
            induction us with
            | nil => intro μ; rfl
            | cons u us ih =>
              intro μ
              show iup (ztl 176 1 177 (ztr 176 1 177 μ u) us) 178 16 0 = ztl 176 1 177 (ztr 176 1 177 (iup μ 178 16 0) u) us
              rw [ih]
              congr 1
              have x2 : iup μ 178 16 0 176 1 = μ 176 1 := iup_n _ (by omega)
              unfold ztr
              rw [x2]
              by_cases g2 : μ 176 1 < 16
              · rw [if_pos g2, if_pos g2]
                funext b x
                unfold iup
                (repeat' split) <;> first | rfl | (exfalso; omega)
              · rw [if_neg g2, if_neg g2]
          exact key vs _
        rw [q3, q1, cm]
        exact ztl_2 vs _ h0 (fun _ _ => rfl)
    · rw [if_neg g] at q1 q3
      subst q1; subst q3
      exact ⟨by rw [q2, if_pos g, if_pos g], Iv_m hI (by omega), fun _ => rfl⟩
end
