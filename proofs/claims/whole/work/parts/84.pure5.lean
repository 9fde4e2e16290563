section
/-! the round by which least is robbed -/
theorem zbu_D {d : Int} {X R : zr} (h : zVD d X R) (k n x : Int) : zbu X k n x = zbu R k n x := by
  obtain ⟨⟨a0, a1, a2, a3, a4, a5⟩, b, c⟩ := h
  unfold zbu
  rw [a0]
  refine zsum_c (fun s s0 s1 => ?_)
  obtain ⟨b1, b2, b3⟩ := b s s0 s1
  have e : zpt X k x s = zpt R k x s := by unfold zpt; rw [a0, a2]
  unfold zbd zbo
  rw [e, b1, b2, b3, a3, a4]
theorem zLo_pas {R : zr} (hz : tz R) (hV : zVT R) (hL : zLo R ≤ 99999) {n : Int} (h0 : 0 ≤ n) (h4 : R 4 + n ≤ 20000) : zLo (pasI R n) = zLo R := by
  have key : ∀ m : Nat, (m : Int) ≤ n → zLo (pasI R m) = zLo R := by
    intro m
    induction m with
    | zero => intro _; rfl
    | succ m ih =>
      intro hm
      have i1 := ih (by omega)
      obtain ⟨g1, -⟩ := pasI_V hz hV (n := (m : Int)) (by omega) (by omega)
      rw [show ((m + 1 : Nat) : Int) = (m : Int) + 1 by omega, pasI_s _ (by omega)]
      rw [((zLo_pass g1).2 (by omega)).2, i1]
  have := key n.toNat (by omega)
  rw [show ((n.toNat : Nat) : Int) = n by omega] at this
  exact this
theorem zbo_p {R : zr} (hz : tz R) (hV : zVT R) (hN : 0 < R 0) (hH : R 4 ≤ 9999) {k x s : Int} (hk : 1 ≤ k ∧ k ≤ 4) (hs0 : 0 ≤ s) (hs1 : s < R 0) {n : Int} (h0 : 0 ≤ n) (h1 : n ≤ 60) : zbo R s (zpt R k x s) k n = (pasI (zro R k x k) n (14 + s), pasI (zro R k x k) n (22 + s)) := by
  obtain ⟨q1, q2, q3, q4, q5⟩ := zro_V hz hV hN (k := k) (x := x) hk
  have hN8 := hV.1
  have hpt := (zpt_v (R := R) hV.1 hk (x := x) (s := s) ⟨hs0, hs1⟩).2
  have e6 : zro R k x k (6 + s) = R (6 + s) := zro_o (by omega) (by omega) (by omega)
  have e2 : zro R k x k 2 = R 2 := zro_o (by omega) (by omega) (by omega)
  have e3 : zro R k x k 3 = R 3 := zro_o (by omega) (by omega) (by omega)
  have key : ∀ m : Nat, (m : Int) ≤ n → zbo R s (zpt R k x s) k m = (pasI (zro R k x k) m (14 + s), pasI (zro R k x k) m (22 + s)) := by
    intro m
    induction m with
    | zero =>
      intro _
      show (R (14 + s), R (22 + s)) = (zro R k x k (14 + s), zro R k x k (22 + s))
      rw [zro_o (by omega) (by omega) (by omega), zro_o (by omega) (by omega) (by omega)]
    | succ m ih =>
      intro hm
      obtain ⟨g1, g2, g3, g4, g5, g6, g7, g8, g9⟩ := pasI_V q2 q1 (n := (m : Int)) (by omega) (by omega)
      rw [show ((m + 1 : Nat) : Int) = (m : Int) + 1 by omega, zbo_s (by omega), ih (by omega), pasI_s _ (by omega)]
      have m0 := Int.emod_nonneg (R 4 + m) (show k ≠ 0 by omega)
      have m1 := Int.emod_lt_of_pos (R 4 + m) (show 0 < k by omega)
      have hh : zhr (pasI (zro R k x k) m) s = zand (zshr (zpt R k x s) ((R 4 + m) % k)) 1 := by
        rw [hpt _ m0 m1]
        unfold zhr
        rw [g7, g4, q4, q5, g5, e2, g9 _ m0 (by omega)]
        congr 1
        unfold zro
        rw [if_pos (by omega)]
        congr 1
        omega
      rw [pasQ_d hs0 (by rw [g3, q3]; exact hs1) (by rw [g3, q3]; omega), pasQ_l hs0 (by rw [g3, q3]; exact hs1) (by rw [g3, q3]; omega)]
      unfold zstR zbf
      rw [hh, g7, q5, g6, e3, g8 s hs0 (by omega), e6]
  have := key n.toNat (by omega)
  rw [show ((n.toNat : Nat) : Int) = n by omega] at this
  exact this
theorem zsum_m (f : Int → Int) (c i : Int) : zsum (fun k => c * f k) i = c * zsum f i := by
  unfold zsum
  generalize i.toNat = n
  induction n with
  | zero => show (0 : Int) = c * 0; rw [Int.mul_zero]
  | succ n ih => rw [zsumN, zsumN, ih, Int.mul_add]
theorem zbu_r {R : zr} (hz : tz R) (hV : zVT R) (hN : 0 < R 0) (hH : R 4 ≤ 9999) {k n x : Int} (hk : 1 ≤ k ∧ k ≤ 4) (hn : 1 ≤ n ∧ n ≤ 12) : zbu R k n x = 16 * ztrR R k n x 5 + (R 0 - ztsl R k n x) := by
  obtain ⟨q1, q2, q3, q4, q5⟩ := zro_V hz hV hN (k := k) (x := x) hk
  have hN8 := hV.1
  have e5 : zro R k x k 5 = 0 := by unfold zro; rw [if_neg (by omega), if_pos rfl]
  have el : zsum (fun s => zro R k x k (22 + s)) (R 0) = zsum (fun s => R (22 + s)) (R 0) := zsum_c (fun s s0 s1 => zro_o (by omega) (by omega) (by omega))
  have hb := zsum_b (fun s => R (22 + s)) (i := R 0) (M := 60) hV.1.1 (fun s s0 s1 => (hV.2.2.2.2.2.2.1 s s0 s1).2.2)
  have hL0 : zLo (zro R k x k) = zsum (fun s => R (22 + s)) (R 0) := by
    unfold zLo
    rw [e5, q3, el]
    omega
  have hL := zLo_pas q2 q1 (by rw [hL0]; omega) (n := n) (by omega) (by omega)
  obtain ⟨g1, g2, g3, -⟩ := pasI_V q2 q1 (n := n) (by omega) (by omega)
  rw [hL0] at hL
  unfold zLo at hL
  rw [g3, q3] at hL
  have haw := (zaw_p (f := fun j => ztrR R k n x (14 + j)) hV.1.1 hV.1.2).2.2
  have hbs : zbu R k n x = zsum (fun s => 16 * (R (22 + s) - pasI (zro R k x k) n (22 + s)) + (if pasI (zro R k x k) n (14 + s) = 0 then (1 : Int) else 0)) (R 0) := by
    unfold zbu
    refine zsum_c (fun s s0 s1 => ?_)
    unfold zbd
    rw [zbo_p hz hV hN hH hk s0 s1 (by omega) (by omega)]
  rw [hbs, zsum_add, zsum_m, zsum_sub]
  unfold ztsl
  rw [haw]
  unfold ztrR
  omega
theorem zft_tu {f : Int → Int} {R : zr} {k n : Int} (hz : tz R) (hV : zVT R) (hN : 0 < R 0) (hH : R 4 ≤ 9999) (hk : 1 ≤ k ∧ k ≤ 4) (hn : 1 ≤ n ∧ n ≤ 12) (hf : ∀ x, f x = 16 * ztrR R k n x 5 + (R 0 - ztsl R k n x)) {m : Int} (hm : 0 ≤ m) : (zft f m).1 = 16 * (ztu R k n (m + 1)).1 + (R 0 - (ztu R k n (m + 1)).2.1) ∧ (zft f m).2 = (ztu R k n (m + 1)).2.2 ∧ 0 ≤ R 0 - (ztu R k n (m + 1)).2.1 ∧ R 0 - (ztu R k n (m + 1)).2.1 ≤ 8 := by
  have hs : ∀ x, 0 ≤ R 0 - ztsl R k n x ∧ R 0 - ztsl R k n x ≤ 8 := fun x => by
    have := zon_b (zaw (fun j => ztrR R k n x (14 + j)) (R 0))
    unfold ztsl
    omega
  have key : ∀ j : Nat, (zft f j).1 = 16 * (ztu R k n (j + 1)).1 + (R 0 - (ztu R k n (j + 1)).2.1) ∧ (zft f j).2 = (ztu R k n (j + 1)).2.2 ∧ 0 ≤ R 0 - (ztu R k n (j + 1)).2.1 ∧ R 0 - (ztu R k n (j + 1)).2.1 ≤ 8 := by
    intro j
    induction j with
    | zero =>
      have hb := ztu_b hz hV hN hH hk hn 0
      have e : ztu R k n (((0 : Nat) : Int) + 1) = (ztrR R k n 0 5, ztsl R k n 0, 0) := by
        show ztf R k n (100000000, -1, 0) 0 = _
        exact ztf_y (Or.inl (by show ztrR R k n 0 5 < 100000000; omega))
      rw [e]
      exact ⟨hf 0, rfl, (hs 0).1, (hs 0).2⟩
    | succ j ih =>
      obtain ⟨i1, i2, i3, i4⟩ := ih
      have e : ztu R k n (((j + 1 : Nat) : Int) + 1) = ztf R k n (ztu R k n ((j : Int) + 1)) ((j : Int) + 1) := by
        rw [show ((j + 1 : Nat) : Int) = (j : Int) + 1 by omega]
        exact zfd_s _ _ (by omega)
      have e2 : zft f ((j + 1 : Nat) : Int) = zff f (zft f j) j := by
        rw [show ((j + 1 : Nat) : Int) = (j : Int) + 1 by omega]
        exact zfd_s _ _ (by omega)
      rw [e, e2]
      have hs1 := hs ((j : Int) + 1)
      have hf1 := hf ((j : Int) + 1)
      by_cases g : ztrR R k n ((j : Int) + 1) 5 < (ztu R k n ((j : Int) + 1)).1 ∨ (ztrR R k n ((j : Int) + 1) 5 = (ztu R k n ((j : Int) + 1)).1 ∧ (ztu R k n ((j : Int) + 1)).2.1 < ztsl R k n ((j : Int) + 1))
      · rw [ztf_y g, zff_y (by omega)]
        exact ⟨hf1, rfl, hs1.1, hs1.2⟩
      · rw [ztf_n g, zff_n (by omega)]
        exact ⟨i1, i2, i3, i4⟩
  have := key m.toNat
  rw [show ((m.toNat : Nat) : Int) = m by omega] at this
  exact this
theorem zRl_tu {X R : zr} (h : zRl X R) {k n : Int} (hk : 1 ≤ k ∧ k ≤ 4) (hn : 1 ≤ n ∧ n ≤ 12) : (zft (zbu X k n) (X 0 ^ k.toNat - 1)).1 / 16 = (ztu R k n (R 0 ^ k.toNat)).1 ∧ (zft (zbu X k n) (X 0 ^ k.toNat - 1)).2 = (ztu R k n (R 0 ^ k.toNat)).2.2 := by
  have hp : 0 < R 0 ^ k.toNat := Int.pow_pos h.N
  have := zft_tu (f := zbu X k n) h.2.2.1 h.V h.N h.H hk hn (fun x => by rw [zbu_D h.1, zbu_r h.2.2.1 h.V h.N h.H hk hn]) (m := R 0 ^ k.toNat - 1) (by omega)
  rw [show R 0 ^ k.toNat - 1 + 1 = R 0 ^ k.toNat by omega] at this
  rw [h.1.1.1]
  obtain ⟨a, b, c, d⟩ := this
  exact ⟨by omega, b⟩
end
