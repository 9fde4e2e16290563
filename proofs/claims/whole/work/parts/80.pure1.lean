section
/-! two towns that are seen alike, but that in one of them more was robbed -/
def zVD (d : Int) (X R : zr) : Prop := (X 0 = R 0 ∧ X 1 = R 1 ∧ X 2 = R 2 ∧ X 3 = R 3 ∧ X 4 = R 4 ∧ X 5 = R 5 + d) ∧ (∀ k, 0 ≤ k → k < R 0 → X (6 + k) = R (6 + k) ∧ X (14 + k) = R (14 + k) ∧ X (22 + k) = R (22 + k)) ∧ (∀ b, 0 ≤ b → b < R 1 → X (30 + b) = R (30 + b))
theorem zVD_of {X R : zr} (h : zVE X R) : zVD 0 X R := ⟨⟨h.1 0 (by decide) (by decide), h.1 1 (by decide) (by decide), h.1 2 (by decide) (by decide), h.1 3 (by decide) (by decide), h.1 4 (by decide) (by decide), by rw [h.1 5 (by decide) (by decide)]; omega⟩, h.2⟩
theorem zVE_of {X R : zr} (h : zVD 0 X R) : zVE X R := by
  obtain ⟨⟨a0, a1, a2, a3, a4, a5⟩, b⟩ := h
  refine ⟨fun j j0 j1 => ?_, b⟩
  rcases (show j = 0 ∨ j = 1 ∨ j = 2 ∨ j = 3 ∨ j = 4 ∨ j = 5 by omega) with g | g | g | g | g | g <;> subst g
  · exact a0
  · exact a1
  · exact a2
  · exact a3
  · exact a4
  · rw [a5]; omega
/-- all that is robbed or can be -/
def zLo (R : zr) : Int := R 5 + zsum (fun k => R (22 + k)) (R 0)
theorem zsum_le {f g : Int → Int} {i : Int} (h : ∀ k, 0 ≤ k → k < i → f k ≤ g k) : zsum f i ≤ zsum g i := by
  have key : ∀ n : Nat, (n : Int) ≤ i → zsumN f n ≤ zsumN g n := by
    intro n
    induction n with
    | zero => intro _; exact Int.le_refl 0
    | succ n ih =>
      intro hn
      have h1 := ih (by omega)
      have h2 := h n (by omega) (by omega)
      rw [zsumN, zsumN]
      omega
  unfold zsum
  rcases (show 0 ≤ i ∨ i < 0 by omega) with g1 | g1
  · exact key i.toNat (by omega)
  · rw [show i.toNat = 0 by omega]; exact Int.le_refl 0
theorem zsum_sub (f g : Int → Int) (i : Int) : zsum (fun k => f k - g k) i = zsum f i - zsum g i := by
  unfold zsum
  generalize i.toNat = n
  induction n with
  | zero => rfl
  | succ n ih => rw [zsumN, zsumN, zsumN, ih]; omega
theorem zVD_V {d : Int} {X R : zr} (h : zVD d X R) (hd : 0 ≤ d) (hV : zVT R) (h5 : X 5 ≤ 99999) : zVT X := by
  obtain ⟨⟨a0, a1, a2, a3, a4, a5⟩, b, c⟩ := h
  obtain ⟨v0, v1, v2, v3, v4, v5, v6, v7⟩ := hV
  refine ⟨by omega, by omega, by omega, by omega, by omega, by omega, fun k k0 k1 => ?_, fun k k0 k1 => ?_⟩
  · rw [a0] at k1
    obtain ⟨b1, b2, b3⟩ := b k k0 k1
    rw [b1, b2, b3]
    exact v6 k k0 k1
  · rw [a1] at k1
    rw [c k k0 k1, a0]
    exact v7 k k0 k1
theorem zhr_D {d : Int} {X R : zr} (h : zVD d X R) (hV : zVT R) (hB : 0 < R 1) (s : Int) : zhr X s = zhr R s := by
  obtain ⟨⟨a0, a1, a2, a3, a4, a5⟩, b, c⟩ := h
  exact zhr_c a1 a2 a4 (c _ (Int.emod_nonneg _ (by omega)) (Int.emod_lt_of_pos _ hB))
theorem zst_D {d : Int} {X R : zr} (h : zVD d X R) (hV : zVT R) (hB : 0 < R 1) {s : Int} (h0 : 0 ≤ s) (h1 : s < R 0) : zstR X s = zstR R s := by
  unfold zstR
  rw [zhr_D h hV hB]
  obtain ⟨⟨a0, a1, a2, a3, a4, a5⟩, b, c⟩ := h
  obtain ⟨b1, b2, b3⟩ := b s h0 h1
  rw [b2, b3, a3]
theorem zst_b {R : zr} (hV : zVT R) {s : Int} (h0 : 0 ≤ s) (h1 : s < R 0) : 0 ≤ zstR R s ∧ zstR R s ≤ R (22 + s) := by
  obtain ⟨v0, v1, v2, v3, v4, v5, v6, v7⟩ := hV
  exact zstl_c (v6 s h0 h1).2.2.1 v3.1
theorem pasQ_0 {R : zr} {j : Int} (h4 : j ≠ 4) (h5 : j ≠ 5) (h1 : ¬ (14 ≤ j ∧ j < 14 + R 0)) (h2 : ¬ (22 ≤ j ∧ j < 22 + R 0)) : passR R j = R j := by
  unfold passR
  rw [ru_n _ h4, paR_o h1 h2 h5]
theorem pasQ_4 {R : zr} : passR R 4 = R 4 + 1 := by unfold passR; rw [ru_s]
theorem pasQ_5 {R : zr} (h : R 0 ≤ 8) : passR R 5 = zmin (R 5 + zsum (zstR R) (R 0)) 99999 := by
  unfold passR
  rw [ru_n _ (by decide)]
  unfold paR
  rw [if_neg (by omega), if_neg (by omega), if_pos rfl]
theorem pasQ_d {R : zr} {s : Int} (h0 : 0 ≤ s) (h1 : s < R 0) (h8 : R 0 ≤ 8) : passR R (14 + s) = zdeep (R (6 + s)) (R (14 + s)) (zhr R s) (R 4) := by
  unfold passR
  rw [ru_n _ (by omega)]
  unfold paR
  rw [if_pos (by omega), show 14 + s - 8 = 6 + s by omega, show 14 + s - 14 = s by omega]
theorem pasQ_l {R : zr} {s : Int} (h0 : 0 ≤ s) (h1 : s < R 0) (h8 : R 0 ≤ 8) : passR R (22 + s) = R (22 + s) - zstR R s := by
  unfold passR
  rw [ru_n _ (by omega)]
  unfold paR
  rw [if_neg (by omega), if_pos (by omega), show 22 + s - 22 = s by omega]
theorem zLo_pass {R : zr} (hV : zVT R) : zLo (passR R) ≤ zLo R ∧ (zLo R ≤ 99999 → passR R 5 = R 5 + zsum (zstR R) (R 0) ∧ zLo (passR R) = zLo R) := by
  have h8 := hV.1
  have e0 : passR R 0 = R 0 := pasQ_0 (by decide) (by decide) (by omega) (by omega)
  have el : zsum (fun k => passR R (22 + k)) (R 0) = zsum (fun k => R (22 + k)) (R 0) - zsum (zstR R) (R 0) := by
    rw [← zsum_sub]
    exact zsum_c (fun k k0 k1 => pasQ_l k0 k1 h8.2)
  have hb := zsum_le (f := zstR R) (g := fun k => R (22 + k)) (i := R 0) (fun k k0 k1 => (zst_b hV k0 k1).2)
  unfold zLo
  rw [e0, el, pasQ_5 h8.2]
  unfold zmin
  split <;> omega
theorem zVD_pass {d : Int} {X R : zr} (h : zVD d X R) (hd : 0 ≤ d) (hV : zVT R) (hB : 0 < R 1) (hL : zLo X ≤ 99999) : zVD d (passR X) (passR R) := by
  have hh := h
  obtain ⟨⟨a0, a1, a2, a3, a4, a5⟩, b, c⟩ := h
  have h8 := hV.1
  have hb8 := hV.2.1
  have hst : zsum (zstR X) (X 0) = zsum (zstR R) (R 0) := by
    rw [a0]
    exact zsum_c (fun k k0 k1 => zst_D hh hV hB k0 k1)
  have hlo : zsum (fun k => X (22 + k)) (X 0) = zsum (fun k => R (22 + k)) (R 0) := by
    rw [a0]
    exact zsum_c (fun k k0 k1 => (b k k0 k1).2.2)
  have hs0 : zsum (zstR R) (R 0) ≤ zsum (fun k => R (22 + k)) (R 0) := zsum_le (fun k k0 k1 => (zst_b hV k0 k1).2)
  have e0 : passR R 0 = R 0 := pasQ_0 (by decide) (by decide) (by omega) (by omega)
  have e1 : passR R 1 = R 1 := pasQ_0 (by decide) (by decide) (by omega) (by omega)
  refine ⟨⟨?_, ?_, ?_, ?_, ?_, ?_⟩, fun k k0 k1 => ?_, fun k k0 k1 => ?_⟩
  · rw [e0, pasQ_0 (by decide) (by decide) (by omega) (by omega), a0]
  · rw [e1, pasQ_0 (by decide) (by decide) (by omega) (by omega), a1]
  · rw [pasQ_0 (by decide) (by decide) (by omega) (by omega), pasQ_0 (by decide) (by decide) (by omega) (by omega), a2]
  · rw [pasQ_0 (by decide) (by decide) (by omega) (by omega), pasQ_0 (by decide) (by decide) (by omega) (by omega), a3]
  · rw [pasQ_4, pasQ_4, a4]
  · rw [pasQ_5 (by omega), pasQ_5 (by omega), hst]
    unfold zLo at hL
    rw [hlo] at hL
    unfold zmin
    rw [if_neg (by omega), if_neg (by omega)]
    omega
  · rw [e0] at k1
    obtain ⟨b1, b2, b3⟩ := b k k0 k1
    refine ⟨?_, ?_, ?_⟩
    · rw [pasQ_0 (by omega) (by omega) (by omega) (by omega), pasQ_0 (by omega) (by omega) (by omega) (by omega), b1]
    · rw [pasQ_d k0 (by omega) (by omega), pasQ_d k0 k1 (by omega), b1, b2, a4, zhr_D hh hV hB]
    · rw [pasQ_l k0 (by omega) (by omega), pasQ_l k0 k1 (by omega), b3, zst_D hh hV hB k0 k1]
  · rw [e1] at k1
    rw [pasQ_0 (by omega) (by omega) (by omega) (by omega), pasQ_0 (by omega) (by omega) (by omega) (by omega), c k k0 k1]
theorem zVD_pas {d : Int} {X R : zr} (h : zVD d X R) (hd : 0 ≤ d) (hz : tz R) (hzX : tz X) (hV : zVT R) (hB : 0 < R 1) (hL : zLo X ≤ 99999) {n : Int} (h0 : 0 ≤ n) (h4 : R 4 + n ≤ 20000) : zVD d (pasI X n) (pasI R n) ∧ zLo (pasI X n) ≤ zLo X := by
  have h5 : X 5 ≤ 99999 := by
    have : 0 ≤ zsum (fun k => X (22 + k)) (X 0) := by
      rw [h.1.1]
      exact (zsum_b (M := 60) _ hV.1.1 (fun k k0 k1 => by
        have := (hV.2.2.2.2.2.2.1 k k0 k1).2.2
        show 0 ≤ X (22 + k) ∧ X (22 + k) ≤ 60
        rw [(h.2.1 k k0 k1).2.2]; exact this)).1
    unfold zLo at hL
    omega
  have hVX := zVD_V h hd hV h5
  have key : ∀ m : Nat, (m : Int) ≤ n → zVD d (pasI X m) (pasI R m) ∧ zLo (pasI X m) ≤ zLo X := by
    intro m
    induction m with
    | zero => intro _; exact ⟨h, Int.le_refl _⟩
    | succ m ih =>
      intro hm
      obtain ⟨a, b⟩ := ih (by omega)
      obtain ⟨g1, g2, g3, g4, -⟩ := pasI_V hz hV (n := (m : Int)) (by omega) (by omega)
      obtain ⟨k1, -⟩ := pasI_V hzX hVX (n := (m : Int)) (by omega) (by rw [h.1.2.2.2.2.1]; omega)
      rw [show ((m + 1 : Nat) : Int) = (m : Int) + 1 by omega, pasI_s _ (by omega), pasI_s _ (by omega)]
      exact ⟨zVD_pass a hd g1 (by rw [g4]; exact hB) (by omega), Int.le_trans (zLo_pass k1).1 b⟩
  have := key n.toNat (by omega)
  rw [show ((n.toNat : Nat) : Int) = n by omega] at this
  exact this
theorem zVD_aw {d : Int} {X R : zr} (h : zVD d X R) : zaw (fun k => X (14 + k)) (X 0) = zaw (fun k => R (14 + k)) (R 0) := by
  rw [h.1.1]
  exact zaw_c (fun k k0 k1 => (h.2.1 k k0 k1).2.1)
/-! one write on both -/
theorem zVD_2 {d : Int} {X R : zr} (h : zVD d X R) (v : Int) : zVD d (ru X 2 v) (ru R 2 v) := by
  obtain ⟨⟨a0, a1, a2, a3, a4, a5⟩, b, c⟩ := h
  have e0 : ru R 2 v 0 = R 0 := ru_n _ (by decide)
  have e1 : ru R 2 v 1 = R 1 := ru_n _ (by decide)
  refine ⟨⟨?_, ?_, ?_, ?_, ?_, ?_⟩, fun k k0 k1 => ?_, fun k k0 k1 => ?_⟩
  · rw [ru_n _ (by decide), e0, a0]
  · rw [ru_n _ (by decide), e1, a1]
  · rw [ru_s, ru_s]
  · rw [ru_n _ (by decide), ru_n _ (by decide), a3]
  · rw [ru_n _ (by decide), ru_n _ (by decide), a4]
  · rw [ru_n _ (by decide), ru_n _ (by decide), a5]
  · rw [e0] at k1
    simp (disch := omega) only [ru_n]
    exact b k k0 k1
  · rw [e1] at k1
    simp (disch := omega) only [ru_n]
    exact c k k0 k1
theorem zVD_i {d : Int} {X R : zr} (h : zVD d X R) (h0 : 0 ≤ R 0 ∧ R 0 ≤ 8) (h1 : 0 ≤ R 1 ∧ R 1 ≤ 8) {i : Int} (hi : 6 ≤ i) (v : Int) : zVD d (ru X i v) (ru R i v) := by
  obtain ⟨⟨a0, a1, a2, a3, a4, a5⟩, b, c⟩ := h
  have e0 : ru R i v 0 = R 0 := ru_n _ (by omega)
  have e1 : ru R i v 1 = R 1 := ru_n _ (by omega)
  refine ⟨⟨?_, ?_, ?_, ?_, ?_, ?_⟩, fun k k0 k1 => ?_, fun k k0 k1 => ?_⟩
  · rw [ru_n _ (by omega), e0, a0]
  · rw [ru_n _ (by omega), e1, a1]
  · rw [ru_n _ (by omega), ru_n _ (by omega), a2]
  · rw [ru_n _ (by omega), ru_n _ (by omega), a3]
  · rw [ru_n _ (by omega), ru_n _ (by omega), a4]
  · rw [ru_n _ (by omega), ru_n _ (by omega), a5]
  · rw [e0] at k1
    obtain ⟨b1, b2, b3⟩ := b k k0 k1
    unfold ru
    refine ⟨?_, ?_, ?_⟩ <;> (split <;> first | rfl | assumption)
  · rw [e1] at k1
    have := c k k0 k1
    unfold ru
    split <;> first | rfl | assumption
/-- more was robbed in the one: 0 in the other -/
theorem zVD_5 {X R : zr} (h : zVD 0 X R) : zVD (X 5) X (ru R 5 0) := by
  obtain ⟨⟨a0, a1, a2, a3, a4, a5⟩, b, c⟩ := h
  have e0 : ru R 5 0 0 = R 0 := ru_n _ (by decide)
  have e1 : ru R 5 0 1 = R 1 := ru_n _ (by decide)
  refine ⟨⟨by rw [e0, a0], by rw [e1, a1], by rw [ru_n _ (by decide), a2], by rw [ru_n _ (by decide), a3], by rw [ru_n _ (by decide), a4], by rw [ru_s]; omega⟩, fun k k0 k1 => ?_, fun k k0 k1 => ?_⟩
  · rw [e0] at k1
    simp (disch := omega) only [ru_n]
    exact b k k0 k1
  · rw [e1] at k1
    simp (disch := omega) only [ru_n]
    exact c k k0 k1
theorem zLo_c {X R : zr} (h0 : X 0 = R 0) (h5 : X 5 = R 5) (hl : ∀ k, 0 ≤ k → k < R 0 → X (22 + k) = R (22 + k)) : zLo X = zLo R := by
  unfold zLo
  rw [h0, h5, zsum_c (g := fun k => R (22 + k)) hl]
end
