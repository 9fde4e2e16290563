section
/-! cover: both are the least, first by ones, then by value -/
theorem zon_d : ∀ (N : Fin 9) (t : Fin 256), t.val < 2 ^ N.val - 1 → zon ((t.val : Nat) : Int) < zon ((2 ^ N.val - 1 : Nat) : Int) := by decide +kernel
theorem zon_l {N t : Int} (hN : 0 ≤ N ∧ N ≤ 8) (h0 : 0 ≤ t) (h1 : t < zshl 1 N - 1) : zon t < zon (zshl 1 N - 1) := by
  have hs := zshl_p hN.1 hN.2
  have h2 : 2 ^ N.toNat ≤ 2 ^ 8 := Nat.pow_le_pow_right (by decide) (by omega)
  have h3 : 0 < 2 ^ N.toNat := Nat.pow_pos (by decide)
  have := zon_d ⟨N.toNat, by omega⟩ ⟨t.toNat, by omega⟩ (by show t.toNat < 2 ^ N.toNat - 1; omega)
  simp only [] at this
  rw [show ((t.toNat : Nat) : Int) = t by omega, show ((2 ^ N.toNat - 1 : Nat) : Int) = zshl 1 N - 1 by omega] at this
  exact this
theorem zall_d : ∀ (N : Fin 9) (k : Fin 8), k.val < N.val → zand (zshr ((2 ^ N.val - 1 : Nat) : Int) ((k.val : Nat) : Int)) 1 = 1 := by decide +kernel
theorem zcj_e {r set k j n : Int} (h0 : 0 ≤ j) (h1 : j < n) (hb : zand (zshr set j) 1 = 1) (hd : zabs (j - k) ≤ r) : zfd (zcj r set k) 0 n = 1 := by
  have key : ∀ m : Nat, j < (m : Int) → zfd (zcj r set k) 0 m = 1 := by
    intro m
    induction m with
    | zero => intro h; omega
    | succ m ih =>
      intro h
      rw [show ((m + 1 : Nat) : Int) = (m : Int) + 1 by omega, zfd_s _ _ (by omega)]
      by_cases g : j = m
      · exact if_pos (Or.inr ⟨by rw [← g]; exact hb, by rw [← g]; exact hd⟩)
      · exact if_pos (Or.inl (ih (by omega)))
  have := key n.toNat (by omega)
  rw [show ((n.toNat : Nat) : Int) = n by omega] at this
  exact this
theorem zcv_all {N r : Int} (hN : 0 ≤ N ∧ N ≤ 8) (hr : 0 ≤ r) : zcv N r (zshl 1 N - 1) = 1 := by
  rw [(zcv_a hN.1).2]
  intro k k0 k1
  have hs := zshl_p hN.1 hN.2
  have h3 : 0 < 2 ^ N.toNat := Nat.pow_pos (by decide)
  have := zall_d ⟨N.toNat, by omega⟩ ⟨k.toNat, by omega⟩ (by show k.toNat < N.toNat; omega)
  simp only [] at this
  rw [show ((k.toNat : Nat) : Int) = k by omega, show ((2 ^ N.toNat - 1 : Nat) : Int) = zshl 1 N - 1 by omega] at this
  exact zcj_e k0 k1 this (by rw [show k - k = 0 by omega]; unfold zabs; split <;> omega)
/-- no later than -/
def zlx (a b : Int) : Prop := zon a < zon b ∨ (zon a = zon b ∧ a ≤ b)
theorem zco_l {N r : Int} (hN : 1 ≤ N ∧ N ≤ 8) (hr : 0 ≤ r) : zcv N r (zco N r) = 1 ∧ (1 ≤ zco N r ∧ zco N r ≤ zshl 1 N - 1) ∧ ∀ t, 1 ≤ t → t ≤ zshl 1 N - 1 → zcv N r t = 1 → zlx (zco N r) t := by
  obtain ⟨A, hA⟩ : ∃ A, A = zshl 1 N - 1 := ⟨_, rfl⟩
  have hf := zshl_f hN.1 hN.2
  have hc := zcv_all (N := N) (r := r) ⟨by omega, hN.2⟩ hr
  rw [← hA] at hf hc
  have key := zfd_ind (f := zcb N r A) (s := A) (P := fun i b => zcv N r b = 1 ∧ ((b = A ∨ A - i < b) ∧ 1 ≤ b ∧ b ≤ A) ∧ ∀ t, A - i < t → t ≤ A → zcv N r t = 1 → zlx b t) (n := A) ⟨hc, ⟨Or.inl rfl, hf.1, Int.le_refl _⟩, fun t t0 t1 => by omega⟩ (fun i b i0 i1 hb => by
    obtain ⟨h1, h2, h3⟩ := hb
    unfold zcb
    by_cases g : zcv N r (A - i) = 1 ∧ zon (A - i) ≤ zon b
    · rw [if_pos g]
      refine ⟨g.1, ⟨by omega, by omega, by omega⟩, fun t t0 t1 tc => ?_⟩
      by_cases gt : t = A - i
      · rw [gt]; exact Or.inr ⟨rfl, Int.le_refl _⟩
      · have := h3 t (by omega) t1 tc
        unfold zlx at this ⊢
        omega
    · rw [if_neg g]
      refine ⟨h1, ⟨by omega, h2.2⟩, fun t t0 t1 tc => ?_⟩
      by_cases gt : t = A - i
      · rw [gt] at tc ⊢
        left
        omega
      · exact h3 t (by omega) t1 tc) (by omega)
  obtain ⟨h1, h2, h3⟩ := key
  unfold zco
  rw [← hA]
  exact ⟨h1, h2.2, fun t t0 t1 tc => h3 t (by omega) t1 tc⟩
theorem zfp_l {N r : Int} (hN : 1 ≤ N ∧ N ≤ 8) (hr : 0 ≤ r) : zcv N r (zfp N r (zshl 1 N - 1 - 1)) = 1 ∧ (1 ≤ zfp N r (zshl 1 N - 1 - 1) ∧ zfp N r (zshl 1 N - 1 - 1) ≤ zshl 1 N - 1) ∧ ∀ t, 1 ≤ t → t ≤ zshl 1 N - 1 → zcv N r t = 1 → zlx (zfp N r (zshl 1 N - 1 - 1)) t := by
  have hl := fun t (h0 : 0 ≤ t) (h1 : t < zshl 1 N - 1) => zon_l (N := N) ⟨by omega, hN.2⟩ h0 h1
  obtain ⟨A, hA⟩ : ∃ A, A = zshl 1 N - 1 := ⟨_, rfl⟩
  have hf := zshl_f hN.1 hN.2
  have hc := zcv_all (N := N) (r := r) ⟨by omega, hN.2⟩ hr
  unfold zfp
  rw [← hA] at hf hc hl ⊢
  have key := zfd_ind (f := zfb N r) (s := A) (P := fun i b => zcv N r b = 1 ∧ ((b = A ∨ b ≤ i) ∧ 1 ≤ b ∧ b ≤ A) ∧ zlx b A ∧ ∀ t, 1 ≤ t → t ≤ i → zcv N r t = 1 → zlx b t) (n := A - 1) ⟨hc, ⟨Or.inl rfl, hf.1, Int.le_refl _⟩, Or.inr ⟨rfl, Int.le_refl _⟩, fun t t0 t1 => by omega⟩ (fun i b i0 i1 hb => by
    obtain ⟨h1, h2, h4, h3⟩ := hb
    have hli := hl (i + 1) (by omega) (by omega)
    unfold zfb
    by_cases g : zon (i + 1) < zon b ∧ zcv N r (i + 1) = 1
    · rw [if_pos g]
      refine ⟨g.2, ⟨by omega, by omega, by omega⟩, by unfold zlx; omega, fun t t0 t1 tc => ?_⟩
      by_cases gt : t = i + 1
      · rw [gt]; exact Or.inr ⟨rfl, Int.le_refl _⟩
      · have := h3 t t0 (by omega) tc
        unfold zlx at this ⊢
        omega
    · rw [if_neg g]
      refine ⟨h1, ⟨by omega, h2.2⟩, h4, fun t t0 t1 tc => ?_⟩
      by_cases gt : t = i + 1
      · rw [gt] at tc ⊢
        have : ¬ zon (i + 1) < zon b := fun q => g ⟨q, tc⟩
        unfold zlx
        rcases (show b = A ∨ b ≤ i by omega) with q | q
        · rw [q] at this; omega
        · omega
      · exact h3 t t0 (by omega) tc) (by omega)
  obtain ⟨h1, h2, h4, h3⟩ := key
  refine ⟨h1, h2.2, fun t t0 t1 tc => ?_⟩
  by_cases g : t = A
  · rw [g]; exact h4
  · exact h3 t t0 (by omega) tc
theorem zfp_co {N r : Int} (hN : 1 ≤ N ∧ N ≤ 8) (hr : 0 ≤ r) : zfp N r (zshl 1 N - 1 - 1) = zco N r := by
  obtain ⟨a1, a2, a3⟩ := zfp_l hN hr
  obtain ⟨b1, b2, b3⟩ := zco_l hN hr
  have h1 := a3 _ b2.1 b2.2 b1
  have h2 := b3 _ a2.1 a2.2 a1
  unfold zlx at h1 h2
  omega
/-! chances: sums over depths, sums over sets -/
theorem zfd_sum {g : Int → Int} {n : Int} (h : 0 ≤ n) : zfd (fun u i => u + g i) 0 n = zsum g n := by
  have key : ∀ m : Nat, zfd (fun u i => u + g i) 0 m = zsum g m := by
    intro m
    induction m with
    | zero => rfl
    | succ m ih => rw [show ((m + 1 : Nat) : Int) = (m : Int) + 1 by omega, zfd_s _ _ (by omega), zsum_s _ (by omega), ih]
  have := key n.toNat
  rw [show ((n.toNat : Nat) : Int) = n by omega] at this
  exact this
theorem zsum_add (f g : Int → Int) (i : Int) : zsum (fun k => f k + g k) i = zsum f i + zsum g i := by
  unfold zsum
  generalize i.toNat = n
  induction n with
  | zero => rfl
  | succ n ih => rw [zsumN, zsumN, zsumN, ih]; omega
theorem zsum_pt {w f : Int → Int} {p a N : Int} (h0 : 0 ≤ p) (h1 : p < N) : zsum (fun x => ru w p (w p + a) x * f x) N = zsum (fun x => w x * f x) N + a * f p := by
  have key : ∀ n : Nat, zsum (fun x => ru w p (w p + a) x * f x) n = zsum (fun x => w x * f x) n + (if p < n then a * f p else 0) := by
    intro n
    induction n with
    | zero => show (0 : Int) = 0 + _; rw [if_neg (by omega)]; rfl
    | succ n ih =>
      rw [show ((n + 1 : Nat) : Int) = (n : Int) + 1 by omega, zsum_s _ (by omega), zsum_s _ (by omega), ih]
      by_cases g : (n : Int) = p
      · rw [if_neg (by omega), if_pos (by omega), g, ru_s, Int.add_mul]; omega
      · rw [ru_n _ g]
        by_cases g2 : p < n
        · rw [if_pos g2, if_pos (by omega)]; omega
        · rw [if_neg g2, if_neg (by omega)]; omega
  have := key N.toNat
  rw [show ((N.toNat : Nat) : Int) = N by omega, if_pos h1] at this
  exact this
theorem zsum_one {f : Int → Int} {p N : Int} (h0 : 0 ≤ p) (h1 : p < N) : zsum (fun x => ru (fun _ => 0) p 1 x * f x) N = f p := by
  have h := zsum_pt (w := fun _ => 0) (f := f) (a := 1) h0 h1
  simp only [Int.zero_add, Int.zero_mul, Int.one_mul] at h
  rw [h]
  have : zsum (fun _ => (0 : Int)) N = 0 := by
    unfold zsum
    generalize N.toNat = n
    induction n with
    | zero => rfl
    | succ n ih => rw [zsumN, ih]; rfl
  omega
theorem znv_f {K h hr c : Int} {v f : Int → Int} : zsum (fun x => znv K h hr c v x * f x) 21 = zsum (fun d => v d * ((10 - c) * f (zdeep K d h hr) + c * f (zdeep K d 0 hr))) 21 := by
  have key : ∀ m : Nat, zsum (fun x => zfd (znx K h hr c v) (fun _ => 0) m x * f x) 21 = zsum (fun d => v d * ((10 - c) * f (zdeep K d h hr) + c * f (zdeep K d 0 hr))) m := by
    intro m
    induction m with
    | zero =>
      show zsum (fun x => (0 : Int) * f x) 21 = 0
      simp only [Int.zero_mul]
      rfl
    | succ m ih =>
      rw [show ((m + 1 : Nat) : Int) = (m : Int) + 1 by omega, zfd_s _ _ (by omega), zsum_s _ (by omega), ← ih]
      have d1 := zdeep_b K m h hr
      have d2 := zdeep_b K m 0 hr
      unfold znx
      rw [zsum_pt (by omega) (by omega), zsum_pt (by omega) (by omega), Int.mul_add, Int.mul_assoc, Int.mul_assoc]
      omega
  exact key 21
theorem znv_n {K h hr c : Int} {v : Int → Int} (hc : 0 ≤ c ∧ c ≤ 10) (hv : ∀ x, 0 ≤ x → x < 21 → 0 ≤ v x) (x : Int) : 0 ≤ znv K h hr c v x := by
  have := zfd_ind (f := znx K h hr c v) (s := fun _ => 0) (P := fun _ (w : Int → Int) => ∀ x, 0 ≤ w x) (n := 21) (fun _ => Int.le_refl 0) (fun i w i0 i1 hw x => by
    have e1 : 0 ≤ v i * (10 - c) := Int.mul_nonneg (hv i i0 i1) (by omega)
    have e2 : 0 ≤ v i * c := Int.mul_nonneg (hv i i0 i1) hc.1
    have h1 : ∀ y, 0 ≤ ru w (zdeep K i h hr) (w (zdeep K i h hr) + v i * (10 - c)) y := fun y => by
      unfold ru
      split
      · have := hw (zdeep K i h hr); omega
      · exact hw y
    show 0 ≤ ru (ru w (zdeep K i h hr) (w (zdeep K i h hr) + v i * (10 - c))) (zdeep K i 0 hr) (ru w (zdeep K i h hr) (w (zdeep K i h hr) + v i * (10 - c)) (zdeep K i 0 hr) + v i * c) x
    have h2 := h1 (zdeep K i 0 hr)
    by_cases g : x = zdeep K i 0 hr
    · rw [g, ru_s]; omega
    · rw [ru_n _ g]; exact h1 x) (by decide)
  exact this x
theorem zcA_n {R : zr} {s c n : Int} (hc : 0 ≤ c ∧ c ≤ 10) (h : 0 ≤ n) : (∀ x, 0 ≤ zcA R s c n x) := by
  refine zfd_ind (P := fun _ (w : Int → Int) => ∀ x, 0 ≤ w x) (fun x => ?_) (fun i w i0 i1 hw x => znv_n hc (fun y _ _ => hw y) x) h
  unfold ru
  split
  · decide
  · exact Int.le_refl 0
theorem zcA_t {R : zr} {s c n : Int} (hd : 0 ≤ R (14 + s) ∧ R (14 + s) ≤ 20) (h : 0 ≤ n) : zsum (fun x => zcA R s c n x * 1) 21 = ztn n := by
  have key : ∀ m : Nat, zsum (fun x => zcA R s c m x * 1) 21 = ztn m := by
    intro m
    induction m with
    | zero => exact zsum_one (f := fun _ => 1) hd.1 (by omega)
    | succ m ih =>
      unfold ztn at ih ⊢
      rw [show ((m + 1 : Nat) : Int) = (m : Int) + 1 by omega, zcA_s (by omega), zfd_s _ _ (by omega), ← ih, znv_f (f := fun _ => 1)]
      have e : ∀ y : Int, y * ((10 - c) * 1 + c * 1) = y * 1 * 10 := fun y => by rw [Int.mul_one, Int.mul_one, Int.mul_one, show 10 - c + c = 10 by omega]
      simp only [e]
      have sm : ∀ (g : Int → Int) (k : Nat), zsum (fun x => g x * 10) k = zsum g k * 10 := by
        intro g k
        induction k with
        | zero => rfl
        | succ k ih2 => rw [show ((k + 1 : Nat) : Int) = (k : Int) + 1 by omega, zsum_s _ (by omega), zsum_s _ (by omega), ih2]; omega
      exact sm (fun x => zcA R s c m x * 1) 21
  have := key n.toNat
  rw [show ((n.toNat : Nat) : Int) = n by omega] at this
  exact this
theorem zcA_b {R : zr} {s c n : Int} (hd : 0 ≤ R (14 + s) ∧ R (14 + s) ≤ 20) (hc : 0 ≤ c ∧ c ≤ 10) (h0 : 0 ≤ n) (h1 : n ≤ 8) : 0 ≤ zcA R s c n 0 ∧ zcA R s c n 0 ≤ 100000000 := by
  have hn := zcA_n (R := R) (s := s) hc h0
  have ht := zcA_t (R := R) (s := s) (c := c) hd h0
  have htb := ztn_b h0 h1
  have h2 := zsum_le (f := fun x => ru (fun _ => 0) 0 1 x * zcA R s c n x) (g := fun x => zcA R s c n x * 1) (i := 21) (fun k k0 k1 => by
    have := hn k
    show ru (fun _ => 0) 0 1 k * zcA R s c n k ≤ zcA R s c n k * 1
    by_cases g : k = 0
    · rw [g, ru_s]; rw [g] at this; omega
    · rw [ru_n _ g]
      show (0 : Int) * zcA R s c n k ≤ zcA R s c n k * 1
      rw [Int.zero_mul]; omega)
  rw [zsum_one (by decide) (by decide)] at h2
  have := hn 0
  omega
end
