section
variable {l : Launch} {D : va_G} {ad : Nat → Nat} {L z : Nat} {ι : zi}
set_option maxRecDepth 100000 in
theorem lp_taxOf {a : Nat} (ht : zTw a) {s n t : Int} (hs0 : 0 ≤ s) (hs1 : s < ι a 4) (hN : 0 ≤ ι a 4 ∧ ι a 4 ≤ 8) (hn : 0 ≤ n ∧ n ≤ 999) (hl : ∀ k, 0 ≤ k → k < ι a 4 → 0 ≤ ι (a + 3) k ∧ ι (a + 3) k ≤ 60) (h3 : 0 < t ∧ t ≤ 480) : ∀ i : Int, 0 ≤ i → i ≤ ι a 4 → zGi l (zc D ad L z) mX5_taxOf 1 30 [some (zR a), some (zI s), some (zI n), some (zI t), some (zI (n - zsum (fun k => n * ι (a + 3) k / t) i)), some (zI (zsum (fun k => if k < s ∧ 0 < ι (a + 3) k then (1 : Int) else 0) i)), some (zI i)] [] ι (zP (zI (n * ι (a + 3) s / t + (if zsum (fun k => if k < s ∧ 0 < ι (a + 3) k then (1 : Int) else 0) (ι a 4) < n - zsum (fun k => n * ι (a + 3) k / t) (ι a 4) then 1 else 0))) ι) := by
  refine z_loopI (fun i h0 h1 ih => ?_)
  refine g_iload (x := i) rfl dX5_taxOf_30 ?_
  refine g_aload_n (x := a) rfl dX5_taxOf_32 ?_
  refine g_get fgX5_22 zcl_5 (congrArg Prod.fst ht.s0) (by have := ht.hi; omega) ht.ig4 dX5_taxOf_33 ?_
  refine g_icmp_ge ⟨by omega, by omega⟩ ⟨by omega, by omega⟩ (t := 87) dX5_taxOf_36 (by decide) (fun h36 => ?_) (fun h36 => ?_)
  · have ei : i = ι a 4 := by omega
    rw [ei]
    have hls := hl s hs0 hs1
    have hmu := zmul_b hn.1 hn.2 hls.1 hls.2
    have b1 := zsum_b (fun k => if k < s ∧ 0 < ι (a + 3) k then (1 : Int) else 0) (i := ι a 4) (M := 1) hN.1 (fun k _ _ => by show 0 ≤ (if _ then (1 : Int) else 0) ∧ (if _ then (1 : Int) else 0) ≤ 1; split <;> omega)
    have b2 := zsum_b (fun k => n * ι (a + 3) k / t) (i := ι a 4) (M := 59940) hN.1 (fun k g0 g1 => by
      have q := zmul_b hn.1 hn.2 (hl k g0 g1).1 (hl k g0 g1).2
      have q2 := zdiv_b (y := t) q.1 h3.1
      exact ⟨q2.1, by show n * ι (a + 3) k / t ≤ _; omega⟩)
    refine g_iload_n (x := n) rfl dX5_taxOf_87 ?_
    refine g_aload_n (x := a) rfl dX5_taxOf_88 ?_
    refine g_get fgX5_16 zcl_5 (congrArg Prod.fst ht.s0) (by have := ht.hi; omega) ht.rg2 dX5_taxOf_89 ?_
    refine g_iload_n (x := s) rfl dX5_taxOf_92 ?_
    refine g_iald ht.s3 (by have := ht.hi; omega) (by omega) (by omega) (by decide) ht.ag3 dX5_taxOf_93 ?_
    refine g_imul dX5_taxOf_94 ?_
    refine g_iload_n (x := t) rfl dX5_taxOf_95 ?_
    refine g_idiv hmu.1 (by omega) (by omega) (by omega) dX5_taxOf_96 ?_
    refine g_iload (x := (zsum (fun k => if k < s ∧ 0 < ι (a + 3) k then (1 : Int) else 0) (ι a 4))) rfl dX5_taxOf_97 ?_
    refine g_iload (x := (n - zsum (fun k => n * ι (a + 3) k / t) (ι a 4))) rfl dX5_taxOf_99 ?_
    refine g_icmp_ge ⟨by omega, by omega⟩ ⟨by omega, by omega⟩ (t := 108) dX5_taxOf_101 (by decide) (fun h101 => ?_) (fun h101 => ?_)
    · refine g_iconst (x := 0) rfl dX5_taxOf_108 ?_
      refine g_iadd dX5_taxOf_109 ?_
      exact i_iret rfl dX5_taxOf_110 (⟨by first | rw [if_pos (by omega)] | rw [if_neg (by omega)], rfl⟩)
    · refine g_iconst (x := 1) rfl dX5_taxOf_104 ?_
      refine g_goto (t := 109) dX5_taxOf_105 (by decide) ?_
      refine g_iadd dX5_taxOf_109 ?_
      exact i_iret rfl dX5_taxOf_110 (⟨by first | rw [if_pos (by omega)] | rw [if_neg (by omega)], rfl⟩)
  · have hli := hl i h0 (by omega)
    have hmu := zmul_b hn.1 hn.2 hli.1 hli.2
    refine g_iload (x := (n - zsum (fun k => n * ι (a + 3) k / t) i)) rfl dX5_taxOf_39 ?_
    refine g_iload_n (x := n) rfl dX5_taxOf_41 ?_
    refine g_aload_n (x := a) rfl dX5_taxOf_42 ?_
    refine g_get fgX5_16 zcl_5 (congrArg Prod.fst ht.s0) (by have := ht.hi; omega) ht.rg2 dX5_taxOf_43 ?_
    refine g_iload (x := i) rfl dX5_taxOf_46 ?_
    refine g_iald ht.s3 (by have := ht.hi; omega) (by omega) (by omega) (by decide) ht.ag3 dX5_taxOf_48 ?_
    refine g_imul dX5_taxOf_49 ?_
    refine g_iload_n (x := t) rfl dX5_taxOf_50 ?_
    refine g_idiv hmu.1 (by omega) (by omega) (by omega) dX5_taxOf_51 ?_
    refine g_isub dX5_taxOf_52 ?_
    refine g_nm (fun x4 hx4 => ?_)
    refine g_istore (ls' := [some (zR a), some (zI s), some (zI n), some (zI t), some (zI x4), some (zI (zsum (fun k => if k < s ∧ 0 < ι (a + 3) k then (1 : Int) else 0) i)), some (zI i)]) dX5_taxOf_53 (by decide) rfl ?_
    refine g_iload (x := (zsum (fun k => if k < s ∧ 0 < ι (a + 3) k then (1 : Int) else 0) i)) rfl dX5_taxOf_55 ?_
    refine g_iload (x := i) rfl dX5_taxOf_57 ?_
    refine g_iload_n (x := s) rfl dX5_taxOf_59 ?_
    refine g_icmp_ge ⟨by omega, by omega⟩ ⟨by omega, by omega⟩ (t := 77) dX5_taxOf_60 (by decide) (fun h60 => ?_) (fun h60 => ?_)
    · refine g_iconst (x := 0) rfl dX5_taxOf_77 ?_
      refine g_iadd dX5_taxOf_78 ?_
      refine g_nm (fun x5 hx5 => ?_)
      refine g_istore (ls' := [some (zR a), some (zI s), some (zI n), some (zI t), some (zI x4), some (zI x5), some (zI i)]) dX5_taxOf_79 (by decide) rfl ?_
      refine g_iinc (x := i) (y := i + 1) (ls' := [some (zR a), some (zI s), some (zI n), some (zI t), some (zI x4), some (zI x5), some (zI (i + 1))]) dX5_taxOf_81 rfl (rfl) (by decide) rfl ?_
      refine g_goto (t := 30) dX5_taxOf_84 (by decide) ?_
      have hh := ih (by omega)
      rw [show n - zsum (fun k => n * ι (a + 3) k / t) (i + 1) = x4 by rw [hx4, zsum_s _ h0]; omega, show zsum (fun k => if k < s ∧ 0 < ι (a + 3) k then (1 : Int) else 0) (i + 1) = x5 by rw [zsum_s _ h0]; first | rw [if_pos (by omega), hx5] | rw [if_neg (by omega), hx5]] at hh
      exact hh
    · refine g_aload_n (x := a) rfl dX5_taxOf_63 ?_
      refine g_get fgX5_16 zcl_5 (congrArg Prod.fst ht.s0) (by have := ht.hi; omega) ht.rg2 dX5_taxOf_64 ?_
      refine g_iload (x := i) rfl dX5_taxOf_67 ?_
      refine g_iald ht.s3 (by have := ht.hi; omega) (by omega) (by omega) (by decide) ht.ag3 dX5_taxOf_69 ?_
      refine g_if_le ⟨by omega, by omega⟩ (t := 77) dX5_taxOf_70 (by decide) (fun h70 => ?_) (fun h70 => ?_)
      · refine g_iconst (x := 0) rfl dX5_taxOf_77 ?_
        refine g_iadd dX5_taxOf_78 ?_
        refine g_nm (fun x5 hx5 => ?_)
        refine g_istore (ls' := [some (zR a), some (zI s), some (zI n), some (zI t), some (zI x4), some (zI x5), some (zI i)]) dX5_taxOf_79 (by decide) rfl ?_
        refine g_iinc (x := i) (y := i + 1) (ls' := [some (zR a), some (zI s), some (zI n), some (zI t), some (zI x4), some (zI x5), some (zI (i + 1))]) dX5_taxOf_81 rfl (rfl) (by decide) rfl ?_
        refine g_goto (t := 30) dX5_taxOf_84 (by decide) ?_
        have hh := ih (by omega)
        rw [show n - zsum (fun k => n * ι (a + 3) k / t) (i + 1) = x4 by rw [hx4, zsum_s _ h0]; omega, show zsum (fun k => if k < s ∧ 0 < ι (a + 3) k then (1 : Int) else 0) (i + 1) = x5 by rw [zsum_s _ h0]; first | rw [if_pos (by omega), hx5] | rw [if_neg (by omega), hx5]] at hh
        exact hh
      · refine g_iconst (x := 1) rfl dX5_taxOf_73 ?_
        refine g_goto (t := 78) dX5_taxOf_74 (by decide) ?_
        refine g_iadd dX5_taxOf_78 ?_
        refine g_nm (fun x5 hx5 => ?_)
        refine g_istore (ls' := [some (zR a), some (zI s), some (zI n), some (zI t), some (zI x4), some (zI x5), some (zI i)]) dX5_taxOf_79 (by decide) rfl ?_
        refine g_iinc (x := i) (y := i + 1) (ls' := [some (zR a), some (zI s), some (zI n), some (zI t), some (zI x4), some (zI x5), some (zI (i + 1))]) dX5_taxOf_81 rfl (rfl) (by decide) rfl ?_
        refine g_goto (t := 30) dX5_taxOf_84 (by decide) ?_
        have hh := ih (by omega)
        rw [show n - zsum (fun k => n * ι (a + 3) k / t) (i + 1) = x4 by rw [hx4, zsum_s _ h0]; omega, show zsum (fun k => if k < s ∧ 0 < ι (a + 3) k then (1 : Int) else 0) (i + 1) = x5 by rw [zsum_s _ h0]; first | rw [if_pos (by omega), hx5] | rw [if_neg (by omega), hx5]] at hh
        exact hh

set_option maxRecDepth 100000 in
theorem c_taxOf {a : Nat} (ht : zTw a) (hV : zVT (tb a ι)) {s n : Int} (hs0 : 0 ≤ s) (hs1 : s < tb a ι 0) (hn : 0 ≤ n ∧ n ≤ 999) : zCi l (zc D ad L z) mX5_taxOf 1 [zR a, zI s, zI n] ι (zP (zI (ztax (tb a ι) s n)) ι) := by
  refine zCt_of (by decide) (Nat.le_of_ble_eq_true rfl) 4 rfl ?_
  refine g_aload_n (x := a) rfl dX5_taxOf_0 ?_
  obtain ⟨hV0, hV1, hV2, hV3, hV4, hV5, hVk, hVw⟩ := id hV
  have q0 := tb_0 a ι
  have hl : ∀ k, 0 ≤ k → k < ι a 4 → 0 ≤ ι (a + 3) k ∧ ι (a + 3) k ≤ 60 := fun k g0 g1 => by have := (hVk k g0 (by omega)).2.2; rw [tb_l a ι g0 (by omega)] at this; exact this
  have hsb := zsum_b (ι (a + 3)) (i := ι a 4) (M := 60) (by omega) hl
  have eall : zsum (fun k => tb a ι (22 + k)) (tb a ι 0) = zsum (ι (a + 3)) (ι a 4) := by rw [q0]; exact zsum_c (fun k g0 g1 => tb_l a ι g0 (by omega))
  have es : tb a ι (22 + s) = ι (a + 3) s := tb_l a ι hs0 (by omega)
  have hls := hl s hs0 (by omega)
  refine i_callVp mvX5_lootOfAll tw_679 (ci := 5) (congrArg Prod.fst ht.s0) rfl (by have := ht.hi; omega) (c_lootOfAll ht (by omega)) (by decide) (st' := []) rfl (Nat.le_of_ble_eq_true rfl) rfl dX5_taxOf_1 ?_
  refine g_nm (fun t htx => ?_)
  refine g_istore_n (ls' := [some (zR a), some (zI s), some (zI n), some (zI t), none, none, none]) dX5_taxOf_4 (by decide) rfl ?_
  refine g_iload_n (x := t) rfl dX5_taxOf_5 ?_
  refine g_iconst (x := 1) rfl dX5_taxOf_6 ?_
  refine g_icmp_lt ⟨by omega, by omega⟩ (by decide) (t := 19) dX5_taxOf_7 (by decide) (fun h7 => ?_) (fun h7 => ?_)
  · refine g_iconst (x := 0) rfl dX5_taxOf_19 ?_
    exact i_iret rfl dX5_taxOf_20 (⟨by unfold ztax; simp only [eall, es, ← htx]; rw [if_pos (by omega)], rfl⟩)
  · refine g_aload_n (x := a) rfl dX5_taxOf_10 ?_
    refine g_get fgX5_16 zcl_5 (congrArg Prod.fst ht.s0) (by have := ht.hi; omega) ht.rg2 dX5_taxOf_11 ?_
    refine g_iload_n (x := s) rfl dX5_taxOf_14 ?_
    refine g_iald ht.s3 (by have := ht.hi; omega) (by omega) (by omega) (by decide) ht.ag3 dX5_taxOf_15 ?_
    refine g_if_ne ⟨by omega, by omega⟩ (t := 21) dX5_taxOf_16 (by decide) (fun h16 => ?_) (fun h16 => ?_)
    · refine g_iload_n (x := n) rfl dX5_taxOf_21 ?_
      refine g_istore (ls' := [some (zR a), some (zI s), some (zI n), some (zI t), some (zI n), none, none]) dX5_taxOf_22 (by decide) rfl ?_
      refine g_iconst (x := 0) rfl dX5_taxOf_24 ?_
      refine g_istore (ls' := [some (zR a), some (zI s), some (zI n), some (zI t), some (zI n), some (zI 0), none]) dX5_taxOf_25 (by decide) rfl ?_
      refine g_iconst (x := 0) rfl dX5_taxOf_27 ?_
      refine g_istore (ls' := [some (zR a), some (zI s), some (zI n), some (zI t), some (zI n), some (zI 0), some (zI 0)]) dX5_taxOf_28 (by decide) rfl ?_
      have hh := lp_taxOf (l := l) (D := D) (ad := ad) (L := L) (z := z) ht (s := s) (n := n) (t := t) (ι := ι) hs0 (by omega) (by omega) hn hl (by omega) 0 (by omega) (by omega)
      rw [show n - zsum (fun k => n * ι (a + 3) k / t) 0 = n by rw [zsum_0]; omega, zsum_0] at hh
      have e : ztax (tb a ι) s n = n * ι (a + 3) s / t + (if zsum (fun k => if k < s ∧ 0 < ι (a + 3) k then (1 : Int) else 0) (ι a 4) < n - zsum (fun k => n * ι (a + 3) k / t) (ι a 4) then 1 else 0) := by
        unfold ztax
        simp only [eall, es, ← htx]
        rw [if_neg (by omega), q0, zsum_c (f := fun k => if k < s ∧ 0 < tb a ι (22 + k) then (1 : Int) else 0) (g := fun k => if k < s ∧ 0 < ι (a + 3) k then (1 : Int) else 0) (fun k g0 g1 => by simp only [tb_l a ι g0 (show k < 8 by omega)]), zsum_c (f := fun k => n * tb a ι (22 + k) / t) (g := fun k => n * ι (a + 3) k / t) (fun k g0 g1 => by simp only [tb_l a ι g0 (show k < 8 by omega)])]
      rw [e]
      exact hh
    · refine g_iconst (x := 0) rfl dX5_taxOf_19 ?_
      exact i_iret rfl dX5_taxOf_20 (⟨by unfold ztax; simp only [eall, es, ← htx]; rw [if_pos (by omega)], rfl⟩)

end
