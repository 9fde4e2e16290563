section
/-! sets of hours: the highest bit -/
theorem zbt_d : ∀ (n : Fin 8) (e : Fin 8), e.val < n.val → ∀ set : Fin 256, set.val < 2 ^ n.val → zand (zshr ((set.val + 2 ^ n.val : Nat) : Int) ((e.val : Nat) : Int)) 1 = zand (zshr ((set.val : Nat) : Int) ((e.val : Nat) : Int)) 1 := by decide +kernel
theorem zbt_h : ∀ (n : Fin 8) (set : Fin 256), set.val < 2 ^ n.val → zand (zshr ((set.val + 2 ^ n.val : Nat) : Int) ((n.val : Nat) : Int)) 1 = 1 ∧ zand (zshr ((set.val : Nat) : Int) ((n.val : Nat) : Int)) 1 = 0 := by decide +kernel
theorem zdp_c {K s S S' : Int} {R : zr} {n : Int} (hn : 0 ≤ n) (h : ∀ e, 0 ≤ e → e < n → zand (zshr S e) 1 = zand (zshr S' e) 1) : zfd (zdp K s S) R n = zfd (zdp K s S') R n := by
  refine zfd_c (fun e x e0 e1 => ?_) hn
  unfold zdp
  rw [h e e0 e1]
theorem zwf_c {c S S' n : Int} (hn : 0 ≤ n) (h : ∀ e, 0 ≤ e → e < n → zand (zshr S e) 1 = zand (zshr S' e) 1) : zwy c n S = zwy c n S' := by
  unfold zwy
  refine zfd_c (fun e x e0 e1 => ?_) hn
  unfold zwf
  rw [h e e0 e1]
theorem zsum_split {g : Int → Int} {a b : Int} (ha : 0 ≤ a) (hb : 0 ≤ b) : zsum g (a + b) = zsum g a + zsum (fun k => g (a + k)) b := by
  have key : ∀ m : Nat, zsum g (a + m) = zsum g a + zsum (fun k => g (a + k)) m := by
    intro m
    induction m with
    | zero => rw [show a + ((0 : Nat) : Int) = a by omega]; show _ = zsum g a + 0; omega
    | succ m ih => rw [show a + ((m + 1 : Nat) : Int) = a + m + 1 by omega, show ((m + 1 : Nat) : Int) = (m : Int) + 1 by omega, zsum_s _ (by omega), zsum_s _ (by omega), ih]; omega
  have := key b.toNat
  rw [show ((b.toNat : Nat) : Int) = b by omega] at this
  exact this
/-- the sum over the sets, of any f of the depth -/
theorem zcA_f {R : zr} (hz : tz R) (hB : 0 < R 1 ∧ R 1 ≤ 8) {s c : Int} (hs : 0 ≤ s ∧ s < 8) (hd : 0 ≤ R (14 + s) ∧ R (14 + s) ≤ 20) : ∀ n : Nat, n ≤ 8 → ∀ f : Int → Int, zsum (fun d => zcA R s c n d * f d) 21 = zsum (fun S => zwy c n S * f (zfd (zdp (R (6 + s)) s S) R n (14 + s))) ((2 ^ n : Nat) : Int) := by
  intro n
  induction n with
  | zero =>
    intro _ f
    show zsum (fun x => ru (fun _ => 0) (R (14 + s)) 1 x * f x) 21 = _
    rw [zsum_one hd.1 (by omega)]
    show f (R (14 + s)) = 0 + 1 * f (R (14 + s))
    omega
  | succ n ih =>
    intro hn f
    have ih' := ih (by omega)
    have hp : ((2 ^ (n + 1) : Nat) : Int) = ((2 ^ n : Nat) : Int) + ((2 ^ n : Nat) : Int) := by rw [Nat.pow_succ]; omega
    have hp8 : 2 ^ n ≤ 2 ^ 7 := Nat.pow_le_pow_right (by decide) (by omega)
    rw [show ((n + 1 : Nat) : Int) = (n : Int) + 1 by omega, zcA_s (by omega), znv_f, ih', hp, zsum_split (Int.natCast_nonneg _) (Int.natCast_nonneg _), ← zsum_add]
    refine zsum_c (fun S S0 S1 => ?_)
    have hl : ∀ e, 0 ≤ e → e < (n : Int) → zand (zshr (((2 ^ n : Nat) : Int) + S) e) 1 = zand (zshr S e) 1 := fun e e0 e1 => by
      have := zbt_d ⟨n, by omega⟩ ⟨e.toNat, by omega⟩ (by show e.toNat < n; omega) ⟨S.toNat, by omega⟩ (by show S.toNat < 2 ^ n; omega)
      simp only [] at this
      rw [show ((S.toNat + 2 ^ n : Nat) : Int) = ((2 ^ n : Nat) : Int) + S by omega, show ((S.toNat : Nat) : Int) = S by omega, show ((e.toNat : Nat) : Int) = e by omega] at this
      exact this
    have hh := zbt_h ⟨n, by omega⟩ ⟨S.toNat, by omega⟩ (by show S.toNat < 2 ^ n; omega)
    simp only [] at hh
    rw [show ((S.toNat + 2 ^ n : Nat) : Int) = ((2 ^ n : Nat) : Int) + S by omega, show ((S.toNat : Nat) : Int) = S by omega] at hh
    have w1 : zwy c (n + 1) S = zwy c n S * (10 - c) := by
      unfold zwy
      rw [zfd_s _ _ (by omega), zwf_n (by rw [hh.2]; decide)]
    have w2 : zwy c (n + 1) (((2 ^ n : Nat) : Int) + S) = zwy c n S * c := by
      rw [← zwf_c (c := c) (n := (n : Int)) (by omega) hl]
      unfold zwy
      rw [zfd_s _ _ (by omega), zwf_y hh.1]
    obtain ⟨v1, v2, v3, v4⟩ := zdp_V hz (K := R (6 + s)) (s := s) (set := S) hs hd (n := (n : Int)) (by omega)
    have hx : zhr (zfd (zdp (R (6 + s)) s S) R n) s = zhr (ru R 4 (R 4 + n)) s := by
      have m0 := Int.emod_nonneg (R 4 + n) (show R 1 ≠ 0 by omega)
      refine zhr_c ?_ ?_ ?_ ?_
      · rw [v4 1 (by decide) (by omega), ru_n _ (by decide)]
      · rw [v4 2 (by decide) (by omega), ru_n _ (by decide)]
      · rw [v3, ru_s]
      · rw [ru_s, ru_n _ (by decide), v4 _ (by omega) (by have := Int.emod_lt_of_pos (R 4 + n) hB.1; omega), ru_n _ (by omega)]
    have d1 : zfd (zdp (R (6 + s)) s S) R ((n : Int) + 1) (14 + s) = zdeep (R (6 + s)) (zfd (zdp (R (6 + s)) s S) R n (14 + s)) (zhr (ru R 4 (R 4 + n)) s) (R 4 + n) := by
      rw [zfd_s _ _ (by omega)]
      show ru (ru _ (14 + s) _) 4 _ (14 + s) = _
      rw [ru_n _ (by omega), ru_s, if_neg (by rw [hh.2]; decide), hx, v3]
    have d2 : zfd (zdp (R (6 + s)) s (((2 ^ n : Nat) : Int) + S)) R ((n : Int) + 1) (14 + s) = zdeep (R (6 + s)) (zfd (zdp (R (6 + s)) s S) R n (14 + s)) 0 (R 4 + n) := by
      rw [zfd_s _ _ (by omega), zdp_c (K := R (6 + s)) (s := s) (R := R) (n := (n : Int)) (by omega) hl]
      show ru (ru _ (14 + s) _) 4 _ (14 + s) = _
      rw [ru_n _ (by omega), ru_s, if_pos hh.1, v3]
    rw [w1, w2, d1, d2, Int.mul_add, Int.mul_assoc, Int.mul_assoc]
theorem zcA_up {R : zr} (hz : tz R) (hB : 0 < R 1 ∧ R 1 ≤ 8) {s c n : Int} (hs : 0 ≤ s ∧ s < 8) (hd : 0 ≤ R (14 + s) ∧ R (14 + s) ≤ 20) (h0 : 0 ≤ n) (h1 : n ≤ 8) : zcA R s c n 0 = zupp R (R (6 + s)) s n c := by
  have h := zcA_f hz hB (c := c) hs hd n.toNat (by omega) (ru (fun _ => 0) 0 1)
  rw [show ((n.toNat : Nat) : Int) = n by omega] at h
  have e : zsum (fun d => zcA R s c n d * ru (fun _ => 0) 0 1 d) 21 = zcA R s c n 0 := by
    rw [← zsum_one (f := fun d => zcA R s c n d) (p := 0) (N := 21) (by decide) (by decide)]
    exact zsum_c (fun k _ _ => Int.mul_comm _ _)
  rw [e] at h
  rw [h]
  unfold zupp
  rw [zshl_p h0 h1]
  have e2 : zfd (zuf R (R (6 + s)) s n c) 0 ((2 ^ n.toNat : Nat) : Int) = zfd (fun u S => u + (if zfd (zdp (R (6 + s)) s S) R n (14 + s) = 0 then zwy c n S else 0)) 0 ((2 ^ n.toNat : Nat) : Int) := rfl
  rw [e2, zfd_sum (Int.natCast_nonneg _)]
  refine zsum_c (fun S _ _ => ?_)
  by_cases g : zfd (zdp (R (6 + s)) s S) R n (14 + s) = 0
  · rw [if_pos g, g, ru_s, Int.mul_one]
  · rw [if_neg g, ru_n _ g]
    show zwy c n S * 0 = 0
    rw [Int.mul_zero]
theorem zcA_D {d : Int} {X R : zr} (h : zVD d X R) (hV : zVT R) (hB : 0 < R 1) {s c n : Int} (h0 : 0 ≤ s) (h1 : s < R 0) (hn : 0 ≤ n) : zcA X s c n = zcA R s c n := by
  obtain ⟨⟨a0, a1, a2, a3, a4, a5⟩, b, w⟩ := h
  obtain ⟨b1, b2, b3⟩ := b s h0 h1
  unfold zcA
  rw [b1, b2, a4]
  refine zfd_c (fun i v i0 i1 => ?_) hn
  have hb8 := hV.2.1
  have e : zhr (ru X 4 (R 4 + i)) s = zhr (ru R 4 (R 4 + i)) s := by
    have m0 := Int.emod_nonneg (R 4 + i) (show R 1 ≠ 0 by omega)
    have m1 := Int.emod_lt_of_pos (R 4 + i) hB
    refine zhr_c ?_ ?_ ?_ ?_
    · rw [ru_n _ (by decide), ru_n _ (by decide), a1]
    · rw [ru_n _ (by decide), ru_n _ (by decide), a2]
    · rw [ru_s, ru_s]
    · rw [ru_s, ru_n (R := R) (j := 1) (by decide), ru_n _ (by omega), ru_n _ (by omega), w _ m0 m1]
  rw [e]
end
