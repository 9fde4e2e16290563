section
variable {l : Launch} {D : va_G} {ad : Nat → Nat} {L z : Nat} {ι : zi}
/-! ones of a number, bits -/
def zb1 (x : Int) : Int := x - zand (zushr x 1) 1431655765
def zb2 (y : Int) : Int := zand y 858993459 + zand (zushr y 2) 858993459
def zb3 (y : Int) : Int := zand (y + zushr y 4) 252645135
def zb4 (y : Int) : Int := y + zushr y 8
def zb5 (y : Int) : Int := y + zushr y 16
def zbc (x : Int) : Int := zand (zb5 (zb4 (zb3 (zb2 (zb1 x))))) 63
theorem zbc_d : ∀ n : Fin 256, zbc ((n.val : Nat) : Int) = zon ((n.val : Nat) : Int) := by decide +kernel
theorem zbc_on {x : Int} (h0 : 0 ≤ x) (h1 : x < 256) : zbc x = zon x := by
  have := zbc_d ⟨x.toNat, by omega⟩
  rw [show ((x.toNat : Nat) : Int) = x by omega] at this
  exact this
theorem zor_d : ∀ (i : Fin 8) (a : Fin 256), a.val < 2 ^ i.val → zor ((a.val : Nat) : Int) (zshl 1 ((i.val : Nat) : Int)) = ((a.val + 2 ^ i.val : Nat) : Int) ∧ zon ((a.val + 2 ^ i.val : Nat) : Int) = zon ((a.val : Nat) : Int) + 1 := by decide +kernel
theorem zor_a {i a : Int} (h0 : 0 ≤ i) (h1 : i < 8) (g0 : 0 ≤ a) (g1 : a < ((2 ^ i.toNat : Nat) : Int)) : zor a (zshl 1 i) = a + ((2 ^ i.toNat : Nat) : Int) ∧ zon (a + ((2 ^ i.toNat : Nat) : Int)) = zon a + 1 := by
  have h2 : 2 ^ i.toNat ≤ 2 ^ 7 := Nat.pow_le_pow_right (by decide) (by omega)
  have := zor_d ⟨i.toNat, by omega⟩ ⟨a.toNat, by omega⟩ (by show a.toNat < 2 ^ i.toNat; omega)
  simp only [] at this
  rw [show ((a.toNat : Nat) : Int) = a by omega, show ((i.toNat : Nat) : Int) = i by omega, show ((a.toNat + 2 ^ i.toNat : Nat) : Int) = a + ((2 ^ i.toNat : Nat) : Int) by omega] at this
  exact this
theorem zshl_p {i : Int} (h0 : 0 ≤ i) (h1 : i ≤ 8) : zshl 1 i = ((2 ^ i.toNat : Nat) : Int) := by
  rcases (show i = 0 ∨ i = 1 ∨ i = 2 ∨ i = 3 ∨ i = 4 ∨ i = 5 ∨ i = 6 ∨ i = 7 ∨ i = 8 by omega) with h | h | h | h | h | h | h | h | h <;> subst h <;> decide +kernel
theorem zor_0 {x : Int32} : zor x.toInt 0 = x.toInt := by
  unfold zor
  rw [Int32.ofInt_toInt]
  simp
theorem zaw_i (f : Int → Int) (i : Int) : ∃ x : Int32, zaw f i = x.toInt := by
  unfold zaw
  cases i.toNat with
  | zero => exact ⟨0, rfl⟩
  | succ n => exact ⟨_, rfl⟩
theorem zor_0z {x : Int} (h : ∃ y : Int32, x = y.toInt) : zor x 0 = x := by
  obtain ⟨y, rfl⟩ := h
  exact zor_0
theorem zor_zz {a x : Int} : zor (zor a x) x = zor a x := by
  unfold zor
  rw [Int32.ofInt_toInt, Int32.or_assoc, Int32.or_self]
/-- how many of the first i are 0 -/
theorem zaw_p {f : Int → Int} {i : Int} (h0 : 0 ≤ i) (h1 : i ≤ 8) : (0 ≤ zaw f i ∧ zaw f i < ((2 ^ i.toNat : Nat) : Int)) ∧ (zaw f i = ((2 ^ i.toNat : Nat) : Int) - 1 ↔ ∀ k, 0 ≤ k → k < i → f k = 0) ∧ zon (zaw f i) = zsum (fun k => if f k = 0 then (1 : Int) else 0) i := by
  have key : ∀ n : Nat, n ≤ 8 → (0 ≤ zaw f n ∧ zaw f n < ((2 ^ n : Nat) : Int)) ∧ (zaw f n = ((2 ^ n : Nat) : Int) - 1 ↔ ∀ k, 0 ≤ k → k < (n : Int) → f k = 0) ∧ zon (zaw f n) = zsum (fun k => if f k = 0 then (1 : Int) else 0) n := by
    intro n
    induction n with
    | zero => intro _; exact ⟨⟨Int.le_refl 0, by show (0 : Int) < 1; decide⟩, ⟨fun _ k k0 k1 => by omega, fun _ => rfl⟩, by show zon 0 = 0; decide +kernel⟩
    | succ n ih =>
      intro hn
      obtain ⟨⟨a1, a2⟩, a3, a4⟩ := ih (by omega)
      rw [show ((n + 1 : Nat) : Int) = (n : Int) + 1 by omega, zaw_s f (by omega), zsum_s _ (by omega)]
      have hp : 2 ^ (n + 1) = 2 * 2 ^ n := by rw [Nat.pow_succ, Nat.mul_comm]
      have hp0 : 0 < 2 ^ n := Nat.pow_pos (by decide)
      by_cases g : f n = 0
      · rw [if_pos g, if_pos g]
        have hz := zor_a (i := (n : Int)) (a := zaw f n) (by omega) (by omega) a1 (by rw [show ((n : Int)).toNat = n by omega]; exact a2)
        rw [show ((n : Int)).toNat = n by omega] at hz
        rw [hz.1]
        refine ⟨⟨by omega, by omega⟩, ⟨fun e k k0 k1 => ?_, fun e => ?_⟩, ?_⟩
        · by_cases gk : k = n
          · rw [gk]; exact g
          · exact a3.1 (by omega) k k0 (by omega)
        · have := a3.2 (fun k k0 k1 => e k k0 (by omega))
          omega
        · rw [hz.2, a4]
      · rw [if_neg g, if_neg g, zor_0z (zaw_i f n)]
        refine ⟨⟨by omega, by omega⟩, ⟨fun e => by omega, fun e => absurd (e n (by omega) (by omega)) g⟩, by rw [a4]; omega⟩
  have := key i.toNat (by omega)
  rw [show ((i.toNat : Nat) : Int) = i by omega] at this
  exact this
/-! heard in all -/
def zhs (r set s : Int) (a j : Int) : Int := zor a (if zand (zshr set j) 1 = 1 ∧ zabs (s - j) ≤ r then zshl 1 s else 0)
def zhi (N r set : Int) (a s : Int) : Int := zfd (zhs r set s) a N
def zhA (N r set i : Int) : Int := zfd (zhi N r set) 0 i
theorem zabs_c (a b : Int) : zabs (a - b) = zabs (b - a) := by
  unfold zabs
  (repeat' split) <;> omega
theorem zhs_f {r set s a n : Int} (ha : ∃ y : Int32, a = y.toInt) (h : 0 ≤ n) : zfd (zhs r set s) a n = zor a (if zfd (zcj r set s) 0 n = 1 then zshl 1 s else 0) := by
  have key : ∀ m : Nat, zfd (zhs r set s) a m = zor a (if zfd (zcj r set s) 0 m = 1 then zshl 1 s else 0) := by
    intro m
    induction m with
    | zero => show a = zor a (if (0 : Int) = 1 then zshl 1 s else 0); rw [if_neg (by decide), zor_0z ha]
    | succ m ih =>
      rw [show ((m + 1 : Nat) : Int) = (m : Int) + 1 by omega, zfd_s _ _ (by omega), zfd_s _ _ (by omega), ih]
      unfold zhs zcj
      rw [zabs_c s m]
      by_cases g : zfd (zcj r set s) 0 m = 1
      · unfold zcj at g
        rw [if_pos g, if_pos (Or.inl g), if_pos rfl]
        by_cases g2 : zand (zshr set m) 1 = 1 ∧ zabs (m - s) ≤ r
        · rw [if_pos g2, zor_zz]
        · rw [if_neg g2, zor_0z (x := zor a (zshl 1 s)) ⟨_, rfl⟩]
      · unfold zcj at g
        rw [if_neg g, zor_0z ha]
        by_cases g2 : zand (zshr set m) 1 = 1 ∧ zabs (m - s) ≤ r
        · rw [if_pos g2, if_pos (Or.inr g2), if_pos rfl]
        · rw [if_neg g2]
          symm
          rw [if_neg]
          rw [if_neg (fun q => q.elim g g2)]
          decide
  have := key n.toNat
  rw [show ((n.toNat : Nat) : Int) = n by omega] at this
  exact this
def zun (N r set k : Int) : Int := if zfd (zcj r set k) 0 N = 1 then 0 else 1
theorem zhA_w {N r set i : Int} (hN : 0 ≤ N) (h : 0 ≤ i) : zhA N r set i = zaw (zun N r set) i := by
  have key : ∀ m : Nat, zhA N r set m = zaw (zun N r set) m := by
    intro m
    induction m with
    | zero => rfl
    | succ m ih =>
      unfold zhA at ih ⊢
      rw [show ((m + 1 : Nat) : Int) = (m : Int) + 1 by omega, zfd_s _ _ (by omega), ih, zaw_s _ (by omega)]
      unfold zhi
      rw [zhs_f (zaw_i _ _) hN]
      congr 1
      unfold zun
      by_cases g : zfd (zcj r set m) 0 N = 1
      · rw [if_pos g, if_pos g, if_pos rfl]
      · rw [if_neg g, if_neg g, if_neg (by decide)]
  have := key i.toNat
  rw [show ((i.toNat : Nat) : Int) = i by omega] at this
  exact this
theorem zcv_a {N r set : Int} (hN : 0 ≤ N) : (zcv N r set = 0 ∨ zcv N r set = 1) ∧ (zcv N r set = 1 ↔ ∀ k, 0 ≤ k → k < N → zfd (zcj r set k) 0 N = 1) := by
  refine zfd_ind (f := zck N r set) (P := fun i a => (a = 0 ∨ a = 1) ∧ (a = 1 ↔ ∀ k, 0 ≤ k → k < i → zfd (zcj r set k) 0 N = 1)) ⟨Or.inr rfl, fun _ k k0 k1 => by omega, fun _ => rfl⟩ (fun i a i0 i1 ha => ?_) hN
  by_cases g : a = 1 ∧ zfd (zcj r set i) 0 N = 1
  · rw [show zck N r set a i = 1 from if_pos g]
    refine ⟨Or.inr rfl, fun _ k k0 k1 => ?_, fun _ => rfl⟩
    by_cases gk : k = i
    · rw [gk]; exact g.2
    · exact ha.2.1 g.1 k k0 (by omega)
  · rw [show zck N r set a i = 0 from if_neg g]
    refine ⟨Or.inl rfl, fun q => by omega, fun q => ?_⟩
    exact absurd ⟨ha.2.2 (fun k k0 k1 => q k k0 (by omega)), q i i0 (by omega)⟩ g
theorem zhA_cv {N r set : Int} (hN : 0 ≤ N ∧ N ≤ 8) : (zhA N r set N = zshl 1 N - 1) ↔ zcv N r set = 1 := by
  rw [zhA_w hN.1 hN.1, zshl_p hN.1 hN.2, (zaw_p (f := zun N r set) hN.1 hN.2).2.1, (zcv_a hN.1).2]
  constructor
  · intro h k k0 k1
    have := h k k0 k1
    unfold zun at this
    by_cases g : zfd (zcj r set k) 0 N = 1
    · exact g
    · rw [if_neg g] at this
      exact absurd this (by decide)
  · intro h k k0 k1
    unfold zun
    rw [if_pos (h k k0 k1)]
set_option maxRecDepth 100000 in
theorem c_bitCount {x : Int} : zCi l (zc D ad L z) mJ6_bitCount_0f7a4 0 [zI x] ι (zP (zI (zbc x)) ι) := by
  refine zCt_of (by decide) (Nat.le_of_ble_eq_true rfl) 0 rfl ?_
  refine g_iload_n (x := x) rfl dJ6_bitCount_0f7a4_0 ?_
  refine g_iload_n (x := x) rfl dJ6_bitCount_0f7a4_1 ?_
  refine g_iconst (x := 1) rfl dJ6_bitCount_0f7a4_2 ?_
  refine g_iushr dJ6_bitCount_0f7a4_3 ?_
  refine g_ldcw (x := 1431655765) tw_651 (by decide) dJ6_bitCount_0f7a4_4 ?_
  refine g_iand dJ6_bitCount_0f7a4_7 ?_
  refine g_isub dJ6_bitCount_0f7a4_8 ?_
  refine g_nm (fun x1 hx1 => ?_)
  refine g_istore_n (ls' := [some (zI x1)]) dJ6_bitCount_0f7a4_9 (by decide) rfl ?_
  refine g_iload_n (x := x1) rfl dJ6_bitCount_0f7a4_10 ?_
  refine g_ldcw (x := 858993459) tw_652 (by decide) dJ6_bitCount_0f7a4_11 ?_
  refine g_iand dJ6_bitCount_0f7a4_14 ?_
  refine g_iload_n (x := x1) rfl dJ6_bitCount_0f7a4_15 ?_
  refine g_iconst (x := 2) rfl dJ6_bitCount_0f7a4_16 ?_
  refine g_iushr dJ6_bitCount_0f7a4_17 ?_
  refine g_ldcw (x := 858993459) tw_652 (by decide) dJ6_bitCount_0f7a4_18 ?_
  refine g_iand dJ6_bitCount_0f7a4_21 ?_
  refine g_iadd dJ6_bitCount_0f7a4_22 ?_
  refine g_nm (fun x2 hx2 => ?_)
  refine g_istore_n (ls' := [some (zI x2)]) dJ6_bitCount_0f7a4_23 (by decide) rfl ?_
  refine g_iload_n (x := x2) rfl dJ6_bitCount_0f7a4_24 ?_
  refine g_iload_n (x := x2) rfl dJ6_bitCount_0f7a4_25 ?_
  refine g_iconst (x := 4) rfl dJ6_bitCount_0f7a4_26 ?_
  refine g_iushr dJ6_bitCount_0f7a4_27 ?_
  refine g_iadd dJ6_bitCount_0f7a4_28 ?_
  refine g_ldcw (x := 252645135) tw_653 (by decide) dJ6_bitCount_0f7a4_29 ?_
  refine g_iand dJ6_bitCount_0f7a4_32 ?_
  refine g_nm (fun x3 hx3 => ?_)
  refine g_istore_n (ls' := [some (zI x3)]) dJ6_bitCount_0f7a4_33 (by decide) rfl ?_
  refine g_iload_n (x := x3) rfl dJ6_bitCount_0f7a4_34 ?_
  refine g_iload_n (x := x3) rfl dJ6_bitCount_0f7a4_35 ?_
  refine g_bipush (x := 8) (by decide) dJ6_bitCount_0f7a4_36 ?_
  refine g_iushr dJ6_bitCount_0f7a4_38 ?_
  refine g_iadd dJ6_bitCount_0f7a4_39 ?_
  refine g_nm (fun x4 hx4 => ?_)
  refine g_istore_n (ls' := [some (zI x4)]) dJ6_bitCount_0f7a4_40 (by decide) rfl ?_
  refine g_iload_n (x := x4) rfl dJ6_bitCount_0f7a4_41 ?_
  refine g_iload_n (x := x4) rfl dJ6_bitCount_0f7a4_42 ?_
  refine g_bipush (x := 16) (by decide) dJ6_bitCount_0f7a4_43 ?_
  refine g_iushr dJ6_bitCount_0f7a4_45 ?_
  refine g_iadd dJ6_bitCount_0f7a4_46 ?_
  refine g_nm (fun x5 hx5 => ?_)
  refine g_istore_n (ls' := [some (zI x5)]) dJ6_bitCount_0f7a4_47 (by decide) rfl ?_
  refine g_iload_n (x := x5) rfl dJ6_bitCount_0f7a4_48 ?_
  refine g_bipush (x := 63) (by decide) dJ6_bitCount_0f7a4_49 ?_
  refine g_iand dJ6_bitCount_0f7a4_51 ?_
  exact i_iret rfl dJ6_bitCount_0f7a4_52 (⟨by rw [hx5, hx4, hx3, hx2, hx1]; rfl, rfl⟩)

set_option maxRecDepth 100000 in
theorem lp_areHeard1 (hT : zTM (tb 23 ι)) (hN : 0 < tb 23 ι 0) {set s a : Int} (hs : 0 ≤ s ∧ s < 8) {Q : Option zV → zi → Prop} (hk : zGi l (zc D ad L z) mX2_areHeardInAll 2 4 [some (zR 23), some (zI set), some (zI (zfd (zhs (tb 23 ι 2) set s) a (tb 23 ι 0))), some (zI (s + 1)), none] [] ι Q) : ∀ i : Int, 0 ≤ i → i ≤ tb 23 ι 0 → zGi l (zc D ad L z) mX2_areHeardInAll 2 15 [some (zR 23), some (zI set), some (zI (zfd (zhs (tb 23 ι 2) set s) a i)), some (zI s), some (zI i)] [] ι (Q) := by
  refine z_loopI (fun i h0 h1 ih => ?_)
  obtain ⟨hV, hNB, hH9⟩ := id hT
  obtain ⟨hV0, hV1, hV2, hV3, hV4, hV5, hVk, hVw⟩ := id hV
  have q0 := tb_0 23 ι
  have q2 := tb_2 23 ι
  refine g_iload (x := i) rfl dX2_areHeardInAll_15 ?_
  refine g_aload_n (x := 23) rfl dX2_areHeardInAll_17 ?_
  refine g_get fgX2_57 zcl_5 (congrArg Prod.fst sh_23) (by decide) ig_23_4 dX2_areHeardInAll_18 ?_
  rw [← q0]
  refine g_icmp_ge ⟨by omega, by omega⟩ ⟨by omega, by omega⟩ (t := 60) dX2_areHeardInAll_21 (by decide) (fun h21 => ?_) (fun h21 => ?_)
  · refine g_iinc (x := s) (y := s + 1) (ls' := [some (zR 23), some (zI set), some (zI (zfd (zhs (tb 23 ι 2) set s) a i)), some (zI (s + 1)), some (zI i)]) dX2_areHeardInAll_60 rfl (rfl) (by decide) rfl ?_
    refine g_goto (t := 4) dX2_areHeardInAll_63 (by decide) ?_
    have ei : i = tb 23 ι 0 := by omega
    rw [ei]
    exact g_drop (by repeat' constructor) hk
  · refine g_iload_n (x := (zfd (zhs (tb 23 ι 2) set s) a i)) rfl dX2_areHeardInAll_24 ?_
    refine g_iload_n (x := set) rfl dX2_areHeardInAll_25 ?_
    refine g_iload (x := i) rfl dX2_areHeardInAll_26 ?_
    refine g_ishr dX2_areHeardInAll_28 ?_
    refine g_iconst (x := 1) rfl dX2_areHeardInAll_29 ?_
    refine g_iand dX2_areHeardInAll_30 ?_
    refine g_iconst (x := 1) rfl dX2_areHeardInAll_31 ?_
    refine g_icmp_ne (by first | exact zi32_b _ | exact ⟨by omega, by omega⟩) (by first | exact zi32_b _ | exact ⟨by omega, by omega⟩) (t := 51) dX2_areHeardInAll_32 (by decide) (fun h32 => ?_) (fun h32 => ?_)
    · refine g_iconst (x := 0) rfl dX2_areHeardInAll_51 ?_
      refine g_ior dX2_areHeardInAll_52 ?_
      refine g_nm (fun x2 hx2 => ?_)
      refine g_istore_n (ls' := [some (zR 23), some (zI set), some (zI x2), some (zI s), some (zI i)]) dX2_areHeardInAll_53 (by decide) rfl ?_
      refine g_iinc (x := i) (y := i + 1) (ls' := [some (zR 23), some (zI set), some (zI x2), some (zI s), some (zI (i + 1))]) dX2_areHeardInAll_54 rfl (rfl) (by decide) rfl ?_
      refine g_goto (t := 15) dX2_areHeardInAll_57 (by decide) ?_
      have hh := ih (by omega)
      rw [zfd_s _ _ h0, show zhs (tb 23 ι 2) set s (zfd (zhs (tb 23 ι 2) set s) a i) i = x2 by rw [hx2]; unfold zhs; first | rw [if_pos ⟨by omega, by omega⟩] | rw [if_neg (fun g => by omega)]] at hh
      exact hh
    · refine g_aload_n (x := 23) rfl dX2_areHeardInAll_35 ?_
      refine g_iload_n (x := s) rfl dX2_areHeardInAll_36 ?_
      refine g_iload (x := i) rfl dX2_areHeardInAll_37 ?_
      refine i_callVp mvX5_hearsFrom tw_617 (ci := 5) (congrArg Prod.fst sh_23) rfl (by decide) (c_hearsFrom tt_23 (s := s) (d := i) (by omega) (by omega) ⟨by omega, by omega⟩) (by decide) (st' := [zI (zfd (zhs (tb 23 ι 2) set s) a i)]) rfl (Nat.le_of_ble_eq_true rfl) rfl dX2_areHeardInAll_39 ?_
      have hz1 : (zhf s i (ι 23 6) = 1 ∧ zabs (s - i) ≤ tb 23 ι 2) ∨ (zhf s i (ι 23 6) = 0 ∧ ¬ zabs (s - i) ≤ tb 23 ι 2) := by
        rw [q2]
        unfold zhf
        split
        · exact Or.inl ⟨rfl, by assumption⟩
        · exact Or.inr ⟨rfl, by assumption⟩
      refine g_if_eq ⟨by omega, by omega⟩ (t := 51) dX2_areHeardInAll_42 (by decide) (fun h42 => ?_) (fun h42 => ?_)
      · refine g_iconst (x := 0) rfl dX2_areHeardInAll_51 ?_
        refine g_ior dX2_areHeardInAll_52 ?_
        refine g_nm (fun x2 hx2 => ?_)
        refine g_istore_n (ls' := [some (zR 23), some (zI set), some (zI x2), some (zI s), some (zI i)]) dX2_areHeardInAll_53 (by decide) rfl ?_
        refine g_iinc (x := i) (y := i + 1) (ls' := [some (zR 23), some (zI set), some (zI x2), some (zI s), some (zI (i + 1))]) dX2_areHeardInAll_54 rfl (rfl) (by decide) rfl ?_
        refine g_goto (t := 15) dX2_areHeardInAll_57 (by decide) ?_
        have hh := ih (by omega)
        rw [zfd_s _ _ h0, show zhs (tb 23 ι 2) set s (zfd (zhs (tb 23 ι 2) set s) a i) i = x2 by rw [hx2]; unfold zhs; first | rw [if_pos ⟨by omega, by omega⟩] | rw [if_neg (fun g => by omega)]] at hh
        exact hh
      · refine g_iconst (x := 1) rfl dX2_areHeardInAll_45 ?_
        refine g_iload_n (x := s) rfl dX2_areHeardInAll_46 ?_
        refine g_ishl dX2_areHeardInAll_47 ?_
        refine g_goto (t := 52) dX2_areHeardInAll_48 (by decide) ?_
        refine g_ior dX2_areHeardInAll_52 ?_
        refine g_nm (fun x2 hx2 => ?_)
        refine g_istore_n (ls' := [some (zR 23), some (zI set), some (zI x2), some (zI s), some (zI i)]) dX2_areHeardInAll_53 (by decide) rfl ?_
        refine g_iinc (x := i) (y := i + 1) (ls' := [some (zR 23), some (zI set), some (zI x2), some (zI s), some (zI (i + 1))]) dX2_areHeardInAll_54 rfl (rfl) (by decide) rfl ?_
        refine g_goto (t := 15) dX2_areHeardInAll_57 (by decide) ?_
        have hh := ih (by omega)
        rw [zfd_s _ _ h0, show zhs (tb 23 ι 2) set s (zfd (zhs (tb 23 ι 2) set s) a i) i = x2 by rw [hx2]; unfold zhs; first | rw [if_pos ⟨by omega, by omega⟩] | rw [if_neg (fun g => by omega)]] at hh
        exact hh

set_option maxRecDepth 100000 in
theorem lp_areHeard2 (hT : zTM (tb 23 ι)) (hN : 0 < tb 23 ι 0) {set : Int} : ∀ i : Int, 0 ≤ i → i ≤ tb 23 ι 0 → zGi l (zc D ad L z) mX2_areHeardInAll 2 4 [some (zR 23), some (zI set), some (zI (zhA (tb 23 ι 0) (tb 23 ι 2) set i)), some (zI i), none] [] ι (zP (zI (zcv (tb 23 ι 0) (tb 23 ι 2) set)) ι) := by
  refine z_loopI (fun i h0 h1 ih => ?_)
  obtain ⟨hV, hNB, hH9⟩ := id hT
  obtain ⟨hV0, hV1, hV2, hV3, hV4, hV5, hVk, hVw⟩ := id hV
  have q0 := tb_0 23 ι
  have q2 := tb_2 23 ι
  refine g_iload_n (x := i) rfl dX2_areHeardInAll_4 ?_
  refine g_aload_n (x := 23) rfl dX2_areHeardInAll_5 ?_
  refine g_get fgX2_57 zcl_5 (congrArg Prod.fst sh_23) (by decide) ig_23_4 dX2_areHeardInAll_6 ?_
  rw [← q0]
  refine g_icmp_ge ⟨by omega, by omega⟩ ⟨by omega, by omega⟩ (t := 66) dX2_areHeardInAll_9 (by decide) (fun h9 => ?_) (fun h9 => ?_)
  · refine g_iload_n (x := (zhA (tb 23 ι 0) (tb 23 ι 2) set i)) rfl dX2_areHeardInAll_66 ?_
    refine g_aload_n (x := 23) rfl dX2_areHeardInAll_67 ?_
    have ei : i = tb 23 ι 0 := by omega
    rw [ei]
    have hcv := zhA_cv (N := tb 23 ι 0) (r := tb 23 ι 2) (set := set) ⟨by omega, by omega⟩
    have hc01 := (zcv_a (N := tb 23 ι 0) (r := tb 23 ι 2) (set := set) (by omega)).1
    obtain ⟨A, hA⟩ : ∃ A, A = zhA (tb 23 ι 0) (tb 23 ι 2) set (tb 23 ι 0) := ⟨_, rfl⟩
    rw [← hA] at hcv ⊢
    have hAb : 0 ≤ A ∧ A < 256 := by
      rw [hA, zhA_w hV0.1 hV0.1]
      have := (zaw_p (f := zun (tb 23 ι 0) (tb 23 ι 2) set) hV0.1 hV0.2).1
      have h2 : 2 ^ (tb 23 ι 0).toNat ≤ 2 ^ 8 := Nat.pow_le_pow_right (by decide) (by omega)
      omega
    refine i_callVp mvX5_allStreets tw_647 (ci := 5) (congrArg Prod.fst sh_23) rfl (by decide) (c_allStreets tt_23) (by decide) (st' := [zI A]) rfl (Nat.le_of_ble_eq_true rfl) rfl dX2_areHeardInAll_68 ?_
    rw [← q0]
    have hsf := zshl_f (x := tb 23 ι 0) (by omega) (by omega)
    have hsb := zshl_p hV0.1 hV0.2
    have h2 : 2 ^ (tb 23 ι 0).toNat ≤ 2 ^ 8 := Nat.pow_le_pow_right (by decide) (by omega)
    refine g_icmp_ne ⟨by omega, by omega⟩ ⟨by omega, by omega⟩ (t := 78) dX2_areHeardInAll_71 (by decide) (fun h71 => ?_) (fun h71 => ?_)
    · refine g_iconst (x := 0) rfl dX2_areHeardInAll_78 ?_
      exact i_zret rfl (by decide) dX2_areHeardInAll_79 (⟨by rw [show zcv (tb 23 ι 0) (tb 23 ι 2) set = 0 from hc01.elim id (fun g => absurd (hcv.2 g) (by omega))], rfl⟩)
    · refine g_iconst (x := 1) rfl dX2_areHeardInAll_74 ?_
      refine g_goto (t := 79) dX2_areHeardInAll_75 (by decide) ?_
      exact i_zret rfl (by decide) dX2_areHeardInAll_79 (⟨by rw [hcv.1 (by omega)], rfl⟩)
  · refine g_iconst (x := 0) rfl dX2_areHeardInAll_12 ?_
    refine g_istore (ls' := [some (zR 23), some (zI set), some (zI (zhA (tb 23 ι 0) (tb 23 ι 2) set i)), some (zI i), some (zI 0)]) dX2_areHeardInAll_13 (by decide) rfl ?_
    refine lp_areHeard1 (l := l) (D := D) (ad := ad) (L := L) (z := z) hT hN (set := set) (s := i) (a := zhA (tb 23 ι 0) (tb 23 ι 2) set i) (by omega) ?_ 0 (by omega) (by omega)
    have hh := ih (by omega)
    unfold zhA at hh ⊢
    rw [zfd_s _ _ h0] at hh
    exact hh

set_option maxRecDepth 100000 in
theorem c_areHeardInAll (hT : zTM (tb 23 ι)) (hN : 0 < tb 23 ι 0) {set : Int} : zCi l (zc D ad L z) mX2_areHeardInAll 2 [zR 23, zI set] ι (zP (zI (zcv (tb 23 ι 0) (tb 23 ι 2) set)) ι) := by
  refine zCt_of (by decide) (Nat.le_of_ble_eq_true rfl) 3 rfl ?_
  obtain ⟨hV, hNB, hH9⟩ := id hT
  obtain ⟨hV0, hV1, hV2, hV3, hV4, hV5, hVk, hVw⟩ := id hV
  have q0 := tb_0 23 ι
  have q2 := tb_2 23 ι
  refine g_iconst (x := 0) rfl dX2_areHeardInAll_0 ?_
  refine g_istore_n (ls' := [some (zR 23), some (zI set), some (zI 0), none, none]) dX2_areHeardInAll_1 (by decide) rfl ?_
  refine g_iconst (x := 0) rfl dX2_areHeardInAll_2 ?_
  refine g_istore_n (ls' := [some (zR 23), some (zI set), some (zI 0), some (zI 0), none]) dX2_areHeardInAll_3 (by decide) rfl ?_
  exact lp_areHeard2 (l := l) (D := D) (ad := ad) (L := L) (z := z) hT hN (set := set) 0 (by omega) (by omega)

def zfb (N r : Int) (b i : Int) : Int := if zon (i + 1) < zon b ∧ zcv N r (i + 1) = 1 then i + 1 else b
def zfp (N r i : Int) : Int := zfd (zfb N r) (zshl 1 N - 1) i
theorem zfb_y {N r b i : Int} (h : zon (i + 1) < zon b ∧ zcv N r (i + 1) = 1) : zfb N r b i = i + 1 := if_pos h
theorem zfb_n {N r b i : Int} (h : ¬ (zon (i + 1) < zon b ∧ zcv N r (i + 1) = 1)) : zfb N r b i = b := if_neg h
theorem zfp_b {N r : Int} (hN : 1 ≤ N ∧ N ≤ 8) {i : Int} (h0 : 0 ≤ i) (h1 : i ≤ zshl 1 N - 1 - 1) : 1 ≤ zfp N r i ∧ zfp N r i ≤ zshl 1 N - 1 := by
  have hs := zshl_p (i := N) (by omega) hN.2
  have hp : 2 ^ 1 ≤ 2 ^ N.toNat := Nat.pow_le_pow_right (by decide) (by omega)
  refine zfd_ind (f := zfb N r) (P := fun _ a => 1 ≤ a ∧ a ≤ zshl 1 N - 1) ⟨by omega, by omega⟩ (fun j a j0 j1 ha => ?_) h0
  unfold zfb
  split <;> omega
set_option maxRecDepth 100000 in
theorem lp_fewestPosts (hT : zTM (tb 23 ι)) (hN : 0 < tb 23 ι 0) : ∀ i : Int, 0 ≤ i → i ≤ zshl 1 (tb 23 ι 0) - 1 - 1 → zGi l (zc D ad L z) mX2_fewestPosts 3 7 [some (zR 165), some (zR 23), some (zI (zfp (tb 23 ι 0) (tb 23 ι 2) i)), some (zI (i + 1))] [] ι (zP (zI (zfp (tb 23 ι 0) (tb 23 ι 2) (zshl 1 (tb 23 ι 0) - 1 - 1))) ι) := by
  refine z_loopI (fun i h0 h1 ih => ?_)
  obtain ⟨hV, hNB, hH9⟩ := id hT
  obtain ⟨hV0, hV1, hV2, hV3, hV4, hV5, hVk, hVw⟩ := id hV
  have q0 := tb_0 23 ι
  have q2 := tb_2 23 ι
  have hsb := zshl_p hV0.1 hV0.2
  have h2 : 2 ^ (tb 23 ι 0).toNat ≤ 2 ^ 8 := Nat.pow_le_pow_right (by decide) (by omega)
  have hfb := zfp_b (N := tb 23 ι 0) (r := tb 23 ι 2) ⟨by omega, by omega⟩ h0 h1
  have hst : zfp (tb 23 ι 0) (tb 23 ι 2) (i + 1) = zfb (tb 23 ι 0) (tb 23 ι 2) (zfp (tb 23 ι 0) (tb 23 ι 2) i) i := zfd_s _ _ h0
  obtain ⟨A, hA⟩ : ∃ A, A = zfp (tb 23 ι 0) (tb 23 ι 2) i := ⟨_, rfl⟩
  rw [← hA] at hfb hst ⊢
  have n1 := zon_b A
  have n2 := zon_b (i + 1)
  refine g_iload_n (x := (i + 1)) rfl dX2_fewestPosts_7 ?_
  refine g_aload_n (x := 23) rfl dX2_fewestPosts_8 ?_
  refine i_callVp mvX5_allStreets tw_647 (ci := 5) (congrArg Prod.fst sh_23) rfl (by decide) (c_allStreets tt_23) (by decide) (st' := [zI (i + 1)]) rfl (Nat.le_of_ble_eq_true rfl) rfl dX2_fewestPosts_9 ?_
  rw [← q0]
  refine g_icmp_ge ⟨by omega, by omega⟩ ⟨by omega, by omega⟩ (t := 42) dX2_fewestPosts_12 (by decide) (fun h12 => ?_) (fun h12 => ?_)
  · refine g_iload_n (x := A) rfl dX2_fewestPosts_42 ?_
    exact i_iret rfl dX2_fewestPosts_43 (⟨by rw [hA, show i = zshl 1 (tb 23 ι 0) - 1 - 1 by omega], rfl⟩)
  · refine g_iload_n (x := (i + 1)) rfl dX2_fewestPosts_15 ?_
    refine i_callSp msJ6_bitCount_0f7a4 tw_648 (c_bitCount) (by decide) (st' := []) rfl (Nat.le_of_ble_eq_true rfl) rfl dX2_fewestPosts_16 ?_
    rw [zbc_on (by omega) (by omega)]
    refine g_iload_n (x := A) rfl dX2_fewestPosts_19 ?_
    refine i_callSp msJ6_bitCount_0f7a4 tw_648 (c_bitCount) (by decide) (st' := [zI (zon (i + 1))]) rfl (Nat.le_of_ble_eq_true rfl) rfl dX2_fewestPosts_20 ?_
    rw [zbc_on (by omega) (by omega)]
    refine g_icmp_ge ⟨by omega, by omega⟩ ⟨by omega, by omega⟩ (t := 36) dX2_fewestPosts_23 (by decide) (fun h23 => ?_) (fun h23 => ?_)
    · refine g_iinc (x := (i + 1)) (y := i + 1 + 1) (ls' := [some (zR 165), some (zR 23), some (zI A), some (zI (i + 1 + 1))]) dX2_fewestPosts_36 rfl (rfl) (by decide) rfl ?_
      refine g_goto (t := 7) dX2_fewestPosts_39 (by decide) ?_
      have hh := ih (by omega)
      rw [hst] at hh
      first
      | (rw [zfb_y ⟨by omega, by omega⟩] at hh; exact hh)
      | (rw [zfb_n (fun g => by omega)] at hh; exact hh)
    · refine g_aload_n (x := 23) rfl dX2_fewestPosts_26 ?_
      refine g_iload_n (x := (i + 1)) rfl dX2_fewestPosts_27 ?_
      refine i_callSp msX2_areHeardInAll tw_654 (c_areHeardInAll hT hN) (by decide) (st' := []) rfl (Nat.le_of_ble_eq_true rfl) rfl dX2_fewestPosts_28 ?_
      have hc01 := (zcv_a (N := tb 23 ι 0) (r := tb 23 ι 2) (set := i + 1) (by omega)).1
      refine g_if_eq ⟨by omega, by omega⟩ (t := 36) dX2_fewestPosts_31 (by decide) (fun h31 => ?_) (fun h31 => ?_)
      · refine g_iinc (x := (i + 1)) (y := i + 1 + 1) (ls' := [some (zR 165), some (zR 23), some (zI A), some (zI (i + 1 + 1))]) dX2_fewestPosts_36 rfl (rfl) (by decide) rfl ?_
        refine g_goto (t := 7) dX2_fewestPosts_39 (by decide) ?_
        have hh := ih (by omega)
        rw [hst] at hh
        first
        | (rw [zfb_y ⟨by omega, by omega⟩] at hh; exact hh)
        | (rw [zfb_n (fun g => by omega)] at hh; exact hh)
      · refine g_iload_n (x := (i + 1)) rfl dX2_fewestPosts_34 ?_
        refine g_istore_n (ls' := [some (zR 165), some (zR 23), some (zI (i + 1)), some (zI (i + 1))]) dX2_fewestPosts_35 (by decide) rfl ?_
        refine g_iinc (x := (i + 1)) (y := i + 1 + 1) (ls' := [some (zR 165), some (zR 23), some (zI (i + 1)), some (zI (i + 1 + 1))]) dX2_fewestPosts_36 rfl (rfl) (by decide) rfl ?_
        refine g_goto (t := 7) dX2_fewestPosts_39 (by decide) ?_
        have hh := ih (by omega)
        rw [hst] at hh
        first
        | (rw [zfb_y ⟨by omega, by omega⟩] at hh; exact hh)
        | (rw [zfb_n (fun g => by omega)] at hh; exact hh)

set_option maxRecDepth 100000 in
theorem c_fewestPosts (hT : zTM (tb 23 ι)) (hN : 0 < tb 23 ι 0) : zCi l (zc D ad L z) mX2_fewestPosts 3 [zR 165, zR 23] ι (zP (zI (zfp (tb 23 ι 0) (tb 23 ι 2) (zshl 1 (tb 23 ι 0) - 1 - 1))) ι) := by
  refine zCt_of (by decide) (Nat.le_of_ble_eq_true rfl) 2 rfl ?_
  obtain ⟨hV, hNB, hH9⟩ := id hT
  obtain ⟨hV0, hV1, hV2, hV3, hV4, hV5, hVk, hVw⟩ := id hV
  have q0 := tb_0 23 ι
  have q2 := tb_2 23 ι
  refine g_aload_n (x := 23) rfl dX2_fewestPosts_0 ?_
  refine i_callVp mvX5_allStreets tw_647 (ci := 5) (congrArg Prod.fst sh_23) rfl (by decide) (c_allStreets tt_23) (by decide) (st' := []) rfl (Nat.le_of_ble_eq_true rfl) rfl dX2_fewestPosts_1 ?_
  rw [← q0]
  have hsb := zshl_p hV0.1 hV0.2
  have hp : 2 ^ 1 ≤ 2 ^ (tb 23 ι 0).toNat := Nat.pow_le_pow_right (by decide) (by omega)
  refine g_istore_n (ls' := [some (zR 165), some (zR 23), some (zI (zshl 1 (tb 23 ι 0) - 1)), none]) dX2_fewestPosts_4 (by decide) rfl ?_
  refine g_iconst (x := 1) rfl dX2_fewestPosts_5 ?_
  refine g_istore_n (ls' := [some (zR 165), some (zR 23), some (zI (zshl 1 (tb 23 ι 0) - 1)), some (zI 1)]) dX2_fewestPosts_6 (by decide) rfl ?_
  exact lp_fewestPosts (l := l) (D := D) (ad := ad) (L := L) (z := z) hT hN 0 (by omega) (by omega)

end
