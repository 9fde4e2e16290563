section
variable {l : Launch} {D : va_G} {ad : Nat → Nat} {L z : Nat} {ι : zi}
/-! burdens -/
def zbf (K th H k pat : Int) (a : Int × Int) (e : Int) : Int × Int := (zdeep K a.1 (zand (zshr pat ((H + e) % k)) 1) (H + e), a.2 - zstl a.1 a.2 th (zand (zshr pat ((H + e) % k)) 1))
def zbo (R : zr) (s pat k n : Int) : Int × Int := zfd (zbf (R (6 + s)) (R 3) (R 4) k pat) (R (14 + s), R (22 + s)) n
def zbd (R : zr) (s pat k n : Int) : Int := 16 * (R (22 + s) - (zbo R s pat k n).2) + (if (zbo R s pat k n).1 = 0 then 1 else 0)
theorem zbo_s {R : zr} {s pat k n : Int} (h : 0 ≤ n) : zbo R s pat k (n + 1) = zbf (R (6 + s)) (R 3) (R 4) k pat (zbo R s pat k n) n := zfd_s _ _ h
theorem zbo_b {R : zr} {s pat k : Int} (hd : 0 ≤ R (14 + s) ∧ R (14 + s) ≤ 20) (hl : 0 ≤ R (22 + s) ∧ R (22 + s) ≤ 60) (ht : 0 ≤ R 3) {n : Int} (h : 0 ≤ n) : (0 ≤ (zbo R s pat k n).1 ∧ (zbo R s pat k n).1 ≤ 20) ∧ 0 ≤ (zbo R s pat k n).2 ∧ (zbo R s pat k n).2 ≤ R (22 + s) := by
  refine zfd_ind (f := zbf (R (6 + s)) (R 3) (R 4) k pat) (P := fun _ (a : Int × Int) => (0 ≤ a.1 ∧ a.1 ≤ 20) ∧ 0 ≤ a.2 ∧ a.2 ≤ R (22 + s)) ⟨hd, hl.1, Int.le_refl _⟩ (fun i a _ _ ha => ?_) h
  have q := zstl_c (d := a.1) (l := a.2) (t := R 3) (h := zand (zshr pat ((R 4 + i) % k)) 1) ha.2.1 ht
  refine ⟨zdeep_b _ _ _ _, ?_, ?_⟩
  · show 0 ≤ a.2 - zstl a.1 a.2 (R 3) (zand (zshr pat ((R 4 + i) % k)) 1); omega
  · show a.2 - zstl a.1 a.2 (R 3) (zand (zshr pat ((R 4 + i) % k)) 1) ≤ R (22 + s); omega
theorem zbd_b {R : zr} {s pat k : Int} (hd : 0 ≤ R (14 + s) ∧ R (14 + s) ≤ 20) (hl : 0 ≤ R (22 + s) ∧ R (22 + s) ≤ 60) (ht : 0 ≤ R 3) {n : Int} (h : 0 ≤ n) : 0 ≤ zbd R s pat k n ∧ zbd R s pat k n ≤ 961 := by
  have := zbo_b (k := k) (pat := pat) hd hl ht h
  unfold zbd
  split <;> omega
set_option maxRecDepth 100000 in
theorem lp_burdenOn (hT : zTM (tb 23 ι)) (hN : 0 < tb 23 ι 0) {s pat k n : Int} (hs : 0 ≤ s ∧ s < tb 23 ι 0) (hp : 0 ≤ pat ∧ pat ≤ 16) (hk : 1 ≤ k ∧ k ≤ 4) (hn : 1 ≤ n ∧ n ≤ 12) : ∀ i : Int, 0 ≤ i → i ≤ n → zGi l (zc D ad L z) mX2_burdenOn 2 29 [some (zR 23), some (zI s), some (zI pat), some (zI k), some (zI n), some (zI k), some (zI (zbo (tb 23 ι) s pat k i).1), some (zI (zbo (tb 23 ι) s pat k i).2), some (zI (tb 23 ι 4 + i)), none] [] ι (zP (zI (zbd (tb 23 ι) s pat k n)) ι) := by
  refine z_loopI (fun i h0 h1 ih => ?_)
  obtain ⟨hV, hNB, hH9⟩ := id hT
  obtain ⟨hV0, hV1, hV2, hV3, hV4, hV5, hVk, hVw⟩ := id hV
  have hB := hNB hN
  have q0 := tb_0 23 ι
  have q1 := tb_1 23 ι
  have q2 := tb_2 23 ι
  have q3 := tb_3 23 ι
  have q4 := tb_4 23 ι
  have q5 := tb_5 23 ι
  obtain ⟨hk1, hk2, hk3⟩ := hVk s hs.1 hs.2
  have o1 : ι 24 s = tb 23 ι (6 + s) := (tb_k 23 ι hs.1 (by omega)).symm
  have o2 : ι 25 s = tb 23 ι (14 + s) := (tb_d 23 ι hs.1 (by omega)).symm
  have o3 : ι 26 s = tb 23 ι (22 + s) := (tb_l 23 ι hs.1 (by omega)).symm
  have hab := zbo_b (R := tb 23 ι) (s := s) (pat := pat) (k := k) hk2 hk3 hV3.1 h0
  have hst : zbo (tb 23 ι) s pat k (i + 1) = zbf (tb 23 ι (6 + s)) (tb 23 ι 3) (tb 23 ι 4) k pat (zbo (tb 23 ι) s pat k i) i := zbo_s h0
  obtain ⟨A, hA⟩ : ∃ A, A = zbo (tb 23 ι) s pat k i := ⟨_, rfl⟩
  rw [← hA] at hab hst ⊢
  have m0 := Int.emod_nonneg (tb 23 ι 4 + i) (show k ≠ 0 by omega)
  have m1 := Int.emod_lt_of_pos (tb 23 ι 4 + i) (show 0 < k by omega)
  have z1 := zand_1 (zshr pat ((tb 23 ι 4 + i) % k))
  refine g_iload (x := (tb 23 ι 4 + i)) rfl dX2_burdenOn_29 ?_
  refine g_aload_n (x := 23) rfl dX2_burdenOn_31 ?_
  refine g_get fgX2_87 zcl_5 (congrArg Prod.fst sh_23) (by decide) ig_23_8 dX2_burdenOn_32 ?_
  refine g_iload (x := n) rfl dX2_burdenOn_35 ?_
  refine g_iadd dX2_burdenOn_37 ?_
  rw [← q4]
  refine g_icmp_ge ⟨by omega, by omega⟩ ⟨by omega, by omega⟩ (t := 102) dX2_burdenOn_38 (by decide) (fun h38 => ?_) (fun h38 => ?_)
  · refine g_bipush (x := 16) (by decide) dX2_burdenOn_102 ?_
    refine g_aload_n (x := 23) rfl dX2_burdenOn_104 ?_
    refine g_get fgX2_84 zcl_5 (congrArg Prod.fst sh_23) (by decide) rg_23_2 dX2_burdenOn_105 ?_
    refine g_iload_n (x := s) rfl dX2_burdenOn_108 ?_
    refine g_iald sh_26 (by decide) (by omega) (by omega) (by decide) ag_26 dX2_burdenOn_109 ?_
    rw [o3]
    refine g_iload (x := A.2) rfl dX2_burdenOn_110 ?_
    refine g_isub dX2_burdenOn_112 ?_
    refine g_imul dX2_burdenOn_113 ?_
    refine g_iload (x := A.1) rfl dX2_burdenOn_114 ?_
    refine g_if_ne ⟨by omega, by omega⟩ (t := 123) dX2_burdenOn_116 (by decide) (fun h116 => ?_) (fun h116 => ?_)
    · refine g_iconst (x := 0) rfl dX2_burdenOn_123 ?_
      refine g_iadd dX2_burdenOn_124 ?_
      exact i_iret rfl dX2_burdenOn_125 (⟨by unfold zbd; rw [show n = i by omega, ← hA, if_neg (by omega)], rfl⟩)
    · refine g_iconst (x := 1) rfl dX2_burdenOn_119 ?_
      refine g_goto (t := 124) dX2_burdenOn_120 (by decide) ?_
      refine g_iadd dX2_burdenOn_124 ?_
      exact i_iret rfl dX2_burdenOn_125 (⟨by unfold zbd; rw [show n = i by omega, ← hA, if_pos (by omega)], rfl⟩)
  · refine g_iload_n (x := pat) rfl dX2_burdenOn_41 ?_
    refine g_iload (x := (tb 23 ι 4 + i)) rfl dX2_burdenOn_42 ?_
    refine g_iload (x := k) rfl dX2_burdenOn_44 ?_
    refine g_irem (by omega) (by omega) (by omega) (by omega) dX2_burdenOn_46 ?_
    refine g_ishr dX2_burdenOn_47 ?_
    refine g_iconst (x := 1) rfl dX2_burdenOn_48 ?_
    refine g_iand dX2_burdenOn_49 ?_
    refine g_iconst (x := 1) rfl dX2_burdenOn_50 ?_
    refine g_icmp_ne (by first | exact zi32_b _ | exact ⟨by omega, by omega⟩) (by first | exact zi32_b _ | exact ⟨by omega, by omega⟩) (t := 58) dX2_burdenOn_51 (by decide) (fun h51 => ?_) (fun h51 => ?_)
    · refine g_iconst (x := 0) rfl dX2_burdenOn_58 ?_
      refine g_nm (fun x9 hx9 => ?_)
      refine g_istore (ls' := [some (zR 23), some (zI s), some (zI pat), some (zI k), some (zI n), some (zI k), some (zI A.1), some (zI A.2), some (zI (tb 23 ι 4 + i)), some (zI x9)]) dX2_burdenOn_59 (by decide) rfl ?_
      have e9 : x9 = zand (zshr pat ((tb 23 ι 4 + i) % k)) 1 := by omega
      clear hx9
      subst e9
      refine g_iload (x := A.2) rfl dX2_burdenOn_61 ?_
      refine g_iload (x := A.1) rfl dX2_burdenOn_63 ?_
      refine g_iload (x := A.2) rfl dX2_burdenOn_65 ?_
      refine g_aload_n (x := 23) rfl dX2_burdenOn_67 ?_
      refine g_get fgX2_90 zcl_5 (congrArg Prod.fst sh_23) (by decide) ig_23_7 dX2_burdenOn_68 ?_
      refine g_iload (x := (zand (zshr pat ((tb 23 ι 4 + i) % k)) 1)) rfl dX2_burdenOn_71 ?_
      rw [← q3]
      refine i_callSp msX5_stolen tw_611 (c_stolen ⟨by omega, by omega⟩ ⟨by omega, by omega⟩ ⟨by omega, by omega⟩ ⟨by omega, by omega⟩) (by decide) (st' := [zI A.2]) rfl (Nat.le_of_ble_eq_true rfl) rfl dX2_burdenOn_73 ?_
      refine g_isub dX2_burdenOn_76 ?_
      refine g_nm (fun x7 hx7 => ?_)
      refine g_istore (ls' := [some (zR 23), some (zI s), some (zI pat), some (zI k), some (zI n), some (zI k), some (zI A.1), some (zI x7), some (zI (tb 23 ι 4 + i)), some (zI (zand (zshr pat ((tb 23 ι 4 + i) % k)) 1))]) dX2_burdenOn_77 (by decide) rfl ?_
      refine g_aload_n (x := 23) rfl dX2_burdenOn_79 ?_
      refine g_get fgX2_97 zcl_5 (congrArg Prod.fst sh_23) (by decide) rg_23_0 dX2_burdenOn_80 ?_
      refine g_iload_n (x := s) rfl dX2_burdenOn_83 ?_
      refine g_iald sh_24 (by decide) (by omega) (by omega) (by decide) ag_24 dX2_burdenOn_84 ?_
      refine g_iload (x := A.1) rfl dX2_burdenOn_85 ?_
      refine g_iload (x := (zand (zshr pat ((tb 23 ι 4 + i) % k)) 1)) rfl dX2_burdenOn_87 ?_
      refine g_iload (x := (tb 23 ι 4 + i)) rfl dX2_burdenOn_89 ?_
      rw [o1]
      refine i_callSp msX5_deepAfter tw_612 (c_deepAfter ⟨by omega, by omega⟩ hab.1 ⟨by omega, by omega⟩ (by omega)) (by decide) (st' := []) rfl (Nat.le_of_ble_eq_true rfl) rfl dX2_burdenOn_91 ?_
      refine g_nm (fun x6 hx6 => ?_)
      refine g_istore (ls' := [some (zR 23), some (zI s), some (zI pat), some (zI k), some (zI n), some (zI k), some (zI x6), some (zI x7), some (zI (tb 23 ι 4 + i)), some (zI (zand (zshr pat ((tb 23 ι 4 + i) % k)) 1))]) dX2_burdenOn_94 (by decide) rfl ?_
      refine g_iinc (x := (tb 23 ι 4 + i)) (y := tb 23 ι 4 + i + 1) (ls' := [some (zR 23), some (zI s), some (zI pat), some (zI k), some (zI n), some (zI k), some (zI x6), some (zI x7), some (zI (tb 23 ι 4 + i + 1)), some (zI (zand (zshr pat ((tb 23 ι 4 + i) % k)) 1))]) dX2_burdenOn_96 rfl (rfl) (by decide) rfl ?_
      refine g_goto (t := 29) dX2_burdenOn_99 (by decide) ?_
      have hh := ih (by omega)
      rw [hst, show zbf (tb 23 ι (6 + s)) (tb 23 ι 3) (tb 23 ι 4) k pat A i = (x6, x7) by rw [hx6, hx7]; rfl, show tb 23 ι 4 + (i + 1) = tb 23 ι 4 + i + 1 by omega] at hh
      exact g_drop (by repeat' constructor) hh
    · refine g_iconst (x := 1) rfl dX2_burdenOn_54 ?_
      refine g_goto (t := 59) dX2_burdenOn_55 (by decide) ?_
      refine g_nm (fun x9 hx9 => ?_)
      refine g_istore (ls' := [some (zR 23), some (zI s), some (zI pat), some (zI k), some (zI n), some (zI k), some (zI A.1), some (zI A.2), some (zI (tb 23 ι 4 + i)), some (zI x9)]) dX2_burdenOn_59 (by decide) rfl ?_
      have e9 : x9 = zand (zshr pat ((tb 23 ι 4 + i) % k)) 1 := by omega
      clear hx9
      subst e9
      refine g_iload (x := A.2) rfl dX2_burdenOn_61 ?_
      refine g_iload (x := A.1) rfl dX2_burdenOn_63 ?_
      refine g_iload (x := A.2) rfl dX2_burdenOn_65 ?_
      refine g_aload_n (x := 23) rfl dX2_burdenOn_67 ?_
      refine g_get fgX2_90 zcl_5 (congrArg Prod.fst sh_23) (by decide) ig_23_7 dX2_burdenOn_68 ?_
      refine g_iload (x := (zand (zshr pat ((tb 23 ι 4 + i) % k)) 1)) rfl dX2_burdenOn_71 ?_
      rw [← q3]
      refine i_callSp msX5_stolen tw_611 (c_stolen ⟨by omega, by omega⟩ ⟨by omega, by omega⟩ ⟨by omega, by omega⟩ ⟨by omega, by omega⟩) (by decide) (st' := [zI A.2]) rfl (Nat.le_of_ble_eq_true rfl) rfl dX2_burdenOn_73 ?_
      refine g_isub dX2_burdenOn_76 ?_
      refine g_nm (fun x7 hx7 => ?_)
      refine g_istore (ls' := [some (zR 23), some (zI s), some (zI pat), some (zI k), some (zI n), some (zI k), some (zI A.1), some (zI x7), some (zI (tb 23 ι 4 + i)), some (zI (zand (zshr pat ((tb 23 ι 4 + i) % k)) 1))]) dX2_burdenOn_77 (by decide) rfl ?_
      refine g_aload_n (x := 23) rfl dX2_burdenOn_79 ?_
      refine g_get fgX2_97 zcl_5 (congrArg Prod.fst sh_23) (by decide) rg_23_0 dX2_burdenOn_80 ?_
      refine g_iload_n (x := s) rfl dX2_burdenOn_83 ?_
      refine g_iald sh_24 (by decide) (by omega) (by omega) (by decide) ag_24 dX2_burdenOn_84 ?_
      refine g_iload (x := A.1) rfl dX2_burdenOn_85 ?_
      refine g_iload (x := (zand (zshr pat ((tb 23 ι 4 + i) % k)) 1)) rfl dX2_burdenOn_87 ?_
      refine g_iload (x := (tb 23 ι 4 + i)) rfl dX2_burdenOn_89 ?_
      rw [o1]
      refine i_callSp msX5_deepAfter tw_612 (c_deepAfter ⟨by omega, by omega⟩ hab.1 ⟨by omega, by omega⟩ (by omega)) (by decide) (st' := []) rfl (Nat.le_of_ble_eq_true rfl) rfl dX2_burdenOn_91 ?_
      refine g_nm (fun x6 hx6 => ?_)
      refine g_istore (ls' := [some (zR 23), some (zI s), some (zI pat), some (zI k), some (zI n), some (zI k), some (zI x6), some (zI x7), some (zI (tb 23 ι 4 + i)), some (zI (zand (zshr pat ((tb 23 ι 4 + i) % k)) 1))]) dX2_burdenOn_94 (by decide) rfl ?_
      refine g_iinc (x := (tb 23 ι 4 + i)) (y := tb 23 ι 4 + i + 1) (ls' := [some (zR 23), some (zI s), some (zI pat), some (zI k), some (zI n), some (zI k), some (zI x6), some (zI x7), some (zI (tb 23 ι 4 + i + 1)), some (zI (zand (zshr pat ((tb 23 ι 4 + i) % k)) 1))]) dX2_burdenOn_96 rfl (rfl) (by decide) rfl ?_
      refine g_goto (t := 29) dX2_burdenOn_99 (by decide) ?_
      have hh := ih (by omega)
      rw [hst, show zbf (tb 23 ι (6 + s)) (tb 23 ι 3) (tb 23 ι 4) k pat A i = (x6, x7) by rw [hx6, hx7]; rfl, show tb 23 ι 4 + (i + 1) = tb 23 ι 4 + i + 1 by omega] at hh
      exact g_drop (by repeat' constructor) hh

set_option maxRecDepth 100000 in
theorem c_burdenOn (hT : zTM (tb 23 ι)) (hN : 0 < tb 23 ι 0) {s pat k n : Int} (hs : 0 ≤ s ∧ s < tb 23 ι 0) (hp : 0 ≤ pat ∧ pat ≤ 16) (hk : 1 ≤ k ∧ k ≤ 4) (hn : 1 ≤ n ∧ n ≤ 12) : zCi l (zc D ad L z) mX2_burdenOn 2 [zR 23, zI s, zI pat, zI k, zI n] ι (zP (zI (zbd (tb 23 ι) s pat k n)) ι) := by
  refine zCt_of (by decide) (Nat.le_of_ble_eq_true rfl) 5 rfl ?_
  obtain ⟨hV, hNB, hH9⟩ := id hT
  obtain ⟨hV0, hV1, hV2, hV3, hV4, hV5, hVk, hVw⟩ := id hV
  have hB := hNB hN
  have q0 := tb_0 23 ι
  have q1 := tb_1 23 ι
  have q2 := tb_2 23 ι
  have q3 := tb_3 23 ι
  have q4 := tb_4 23 ι
  have q5 := tb_5 23 ι
  obtain ⟨hk1, hk2, hk3⟩ := hVk s hs.1 hs.2
  have o1 : ι 24 s = tb 23 ι (6 + s) := (tb_k 23 ι hs.1 (by omega)).symm
  have o2 : ι 25 s = tb 23 ι (14 + s) := (tb_d 23 ι hs.1 (by omega)).symm
  have o3 : ι 26 s = tb 23 ι (22 + s) := (tb_l 23 ι hs.1 (by omega)).symm
  refine g_iload_n (x := k) rfl dX2_burdenOn_0 ?_
  refine g_iconst (x := 1) rfl dX2_burdenOn_1 ?_
  refine g_mmax ⟨by omega, by omega⟩ (by decide) (by decide) (Nat.le_of_ble_eq_true rfl) tw_610 mq_max2 mq_max3 mq_max4 dX2_burdenOn_2 ?_
  rw [show zmax k 1 = k by unfold zmax; split <;> omega]
  refine g_istore (ls' := [some (zR 23), some (zI s), some (zI pat), some (zI k), some (zI n), some (zI k), none, none, none, none]) dX2_burdenOn_5 (by decide) rfl ?_
  refine g_aload_n (x := 23) rfl dX2_burdenOn_7 ?_
  refine g_get fgX2_81 zcl_5 (congrArg Prod.fst sh_23) (by decide) rg_23_1 dX2_burdenOn_8 ?_
  refine g_iload_n (x := s) rfl dX2_burdenOn_11 ?_
  refine g_iald sh_25 (by decide) (by omega) (by omega) (by decide) ag_25 dX2_burdenOn_12 ?_
  rw [o2]
  refine g_istore (ls' := [some (zR 23), some (zI s), some (zI pat), some (zI k), some (zI n), some (zI k), some (zI (tb 23 ι (14 + s))), none, none, none]) dX2_burdenOn_13 (by decide) rfl ?_
  refine g_aload_n (x := 23) rfl dX2_burdenOn_15 ?_
  refine g_get fgX2_84 zcl_5 (congrArg Prod.fst sh_23) (by decide) rg_23_2 dX2_burdenOn_16 ?_
  refine g_iload_n (x := s) rfl dX2_burdenOn_19 ?_
  refine g_iald sh_26 (by decide) (by omega) (by omega) (by decide) ag_26 dX2_burdenOn_20 ?_
  rw [o3]
  refine g_istore (ls' := [some (zR 23), some (zI s), some (zI pat), some (zI k), some (zI n), some (zI k), some (zI (tb 23 ι (14 + s))), some (zI (tb 23 ι (22 + s))), none, none]) dX2_burdenOn_21 (by decide) rfl ?_
  refine g_aload_n (x := 23) rfl dX2_burdenOn_23 ?_
  refine g_get fgX2_87 zcl_5 (congrArg Prod.fst sh_23) (by decide) ig_23_8 dX2_burdenOn_24 ?_
  rw [← q4]
  refine g_istore (ls' := [some (zR 23), some (zI s), some (zI pat), some (zI k), some (zI n), some (zI k), some (zI (tb 23 ι (14 + s))), some (zI (tb 23 ι (22 + s))), some (zI (tb 23 ι 4)), none]) dX2_burdenOn_27 (by decide) rfl ?_
  have hh := lp_burdenOn (l := l) (D := D) (ad := ad) (L := L) (z := z) hT hN hs hp hk hn 0 (by omega) (by omega)
  rw [show tb 23 ι 4 + 0 = tb 23 ι 4 by omega] at hh
  exact hh

theorem zw_tb {ι ι' : zi} (h : ∀ b x, b ≠ 171 → ι' b x = ι b x) : tb 23 ι' = tb 23 ι := by
  funext i
  unfold tb
  rw [h 23 _ (by omega), h (23 + 1) _ (by omega), h (23 + 2) _ (by omega), h (23 + 3) _ (by omega), h (23 + 4) _ (by omega)]
theorem zshl_4 {k : Int} (hk : 1 ≤ k ∧ k ≤ 4) : 2 ≤ zshl 1 k ∧ zshl 1 k ≤ 16 := by
  rcases (show k = 1 ∨ k = 2 ∨ k = 3 ∨ k = 4 by omega) with h | h | h | h <;> subst h <;> decide +kernel
set_option maxRecDepth 100000 in
theorem lp_weigh1 (hT : zTM (tb 23 ι)) (hN : 0 < tb 23 ι 0) {k n : Int} (hk : 1 ≤ k ∧ k ≤ 4) (hn : 1 ≤ n ∧ n ≤ 12) {t : Int} (ht : 0 ≤ t ∧ t < tb 23 ι 0) {Q : Option zV → zi → Prop} (hk9 : ∀ ι1 : zi, (∀ b x, b ≠ 171 → ι1 b x = ι b x) → (∀ s p : Int, 0 ≤ s → s < t + 1 → 0 ≤ p → p < zshl 1 k → ι1 171 (s * 16 + p) = zbd (tb 23 ι) s p k n) → zGi l (zc D ad L z) mX2_weighPatterns 3 3 [some (zR 165), some (zR 23), some (zI k), some (zI n), some (zI (t + 1)), none] [] ι1 Q) : ∀ i : Int, 0 ≤ i → i ≤ zshl 1 k → ∀ ι1 : zi, (∀ b x, b ≠ 171 → ι1 b x = ι b x) → (∀ s p : Int, 0 ≤ s → s < t → 0 ≤ p → p < zshl 1 k → ι1 171 (s * 16 + p) = zbd (tb 23 ι) s p k n) → (∀ p : Int, 0 ≤ p → p < i → ι1 171 (t * 16 + p) = zbd (tb 23 ι) t p k n) → zGi l (zc D ad L z) mX2_weighPatterns 3 15 [some (zR 165), some (zR 23), some (zI k), some (zI n), some (zI t), some (zI i)] [] ι1 (Q) := by
  refine z_loopI (P := fun i => ∀ ι1 : zi, (∀ b x, b ≠ 171 → ι1 b x = ι b x) → (∀ s p : Int, 0 ≤ s → s < t → 0 ≤ p → p < zshl 1 k → ι1 171 (s * 16 + p) = zbd (tb 23 ι) s p k n) → (∀ p : Int, 0 ≤ p → p < i → ι1 171 (t * 16 + p) = zbd (tb 23 ι) t p k n) → _) (fun i h0 h1 ih ι1 hF hD hE => ?_)
  obtain ⟨hV, hNB, hH9⟩ := id hT
  obtain ⟨hV0, hV1, hV2, hV3, hV4, hV5, hVk, hVw⟩ := id hV
  have hB := hNB hN
  have q0 := tb_0 23 ι
  have q1 := tb_1 23 ι
  have q2 := tb_2 23 ι
  have q3 := tb_3 23 ι
  have q4 := tb_4 23 ι
  have q5 := tb_5 23 ι
  have t23 := zw_tb hF
  have hz4 := zshl_4 hk
  refine g_iload (x := i) rfl dX2_weighPatterns_15 ?_
  refine g_iconst (x := 1) rfl dX2_weighPatterns_17 ?_
  refine g_iload_n (x := k) rfl dX2_weighPatterns_18 ?_
  refine g_ishl dX2_weighPatterns_19 ?_
  refine g_icmp_ge ⟨by omega, by omega⟩ ⟨by omega, by omega⟩ (t := 52) dX2_weighPatterns_20 (by decide) (fun h20 => ?_) (fun h20 => ?_)
  · refine g_iinc (x := t) (y := t + 1) (ls' := [some (zR 165), some (zR 23), some (zI k), some (zI n), some (zI (t + 1)), some (zI i)]) dX2_weighPatterns_52 rfl (rfl) (by decide) rfl ?_
    refine g_goto (t := 3) dX2_weighPatterns_55 (by decide) ?_
    refine g_drop (by repeat' constructor) (hk9 ι1 hF (fun s p s0 s1 p0 p1 => ?_))
    by_cases g : s = t
    · rw [g]; exact hE p p0 (by omega)
    · exact hD s p s0 (by omega) p0 p1
  · refine g_aload_n (x := 165) rfl dX2_weighPatterns_23 ?_
    refine g_get fgX2_18 zcl_2 (congrArg Prod.fst sh_165) (by decide) rg_165_1 dX2_weighPatterns_24 ?_
    refine g_iload (x := t) rfl dX2_weighPatterns_27 ?_
    refine g_bipush (x := 16) (by decide) dX2_weighPatterns_29 ?_
    refine g_imul dX2_weighPatterns_31 ?_
    refine g_iload (x := i) rfl dX2_weighPatterns_32 ?_
    refine g_iadd dX2_weighPatterns_34 ?_
    refine g_aload_n (x := 23) rfl dX2_weighPatterns_35 ?_
    refine g_iload (x := t) rfl dX2_weighPatterns_36 ?_
    refine g_iload (x := i) rfl dX2_weighPatterns_38 ?_
    refine g_iload_n (x := k) rfl dX2_weighPatterns_40 ?_
    refine g_iload_n (x := n) rfl dX2_weighPatterns_41 ?_
    refine i_callSp msX2_burdenOn tw_607 (c_burdenOn (by rw [t23]; exact hT) (by rw [t23]; exact hN) (s := t) (pat := i) (k := k) (n := n) (by rw [t23]; exact ht) (by omega) hk hn) (by decide) (st' := [zI ((t * 16) + i), zR 171]) rfl (Nat.le_of_ble_eq_true rfl) rfl dX2_weighPatterns_42 ?_
    rw [t23]
    obtain ⟨ι2, hι2⟩ : ∃ y_, y_ = iup ι1 171 ((t * 16) + i) (zbd (tb 23 ι) t i k n) := ⟨_, rfl⟩
    refine i_iast sh_171 (by decide) (by decide) (by omega) (by omega) (by decide) (ι1 := ι2) (by rw [hι2]; exact au_171) dX2_weighPatterns_45 ?_
    refine g_iinc (x := i) (y := i + 1) (ls' := [some (zR 165), some (zR 23), some (zI k), some (zI n), some (zI t), some (zI (i + 1))]) dX2_weighPatterns_46 rfl (rfl) (by decide) rfl ?_
    refine g_goto (t := 15) dX2_weighPatterns_49 (by decide) ?_
    refine ih (by omega) ι2 (fun b x hb => by rw [hι2, iup_n _ (by omega)]; exact hF b x hb) (fun s p s0 s1 p0 p1 => by rw [hι2, iup_n _ (by omega)]; exact hD s p s0 s1 p0 p1) (fun p p0 p1 => ?_)
    rw [hι2]
    by_cases g : p = i
    · rw [g, iup_s]
    · rw [iup_n _ (by omega)]; exact hE p p0 (by omega)

set_option maxRecDepth 100000 in
theorem lp_weigh2 (hT : zTM (tb 23 ι)) (hN : 0 < tb 23 ι 0) {k n : Int} (hk : 1 ≤ k ∧ k ≤ 4) (hn : 1 ≤ n ∧ n ≤ 12) : ∀ t : Int, 0 ≤ t → t ≤ tb 23 ι 0 → ∀ ι1 : zi, (∀ b x, b ≠ 171 → ι1 b x = ι b x) → (∀ s p : Int, 0 ≤ s → s < t → 0 ≤ p → p < zshl 1 k → ι1 171 (s * 16 + p) = zbd (tb 23 ι) s p k n) → zGi l (zc D ad L z) mX2_weighPatterns 3 3 [some (zR 165), some (zR 23), some (zI k), some (zI n), some (zI t), none] [] ι1 (fun v ι1 => v = none ∧ (∀ b x, b ≠ 171 → ι1 b x = ι b x) ∧ (∀ s p : Int, 0 ≤ s → s < tb 23 ι 0 → 0 ≤ p → p < zshl 1 k → ι1 171 (s * 16 + p) = zbd (tb 23 ι) s p k n)) := by
  refine z_loopI (P := fun t => ∀ ι1 : zi, (∀ b x, b ≠ 171 → ι1 b x = ι b x) → (∀ s p : Int, 0 ≤ s → s < t → 0 ≤ p → p < zshl 1 k → ι1 171 (s * 16 + p) = zbd (tb 23 ι) s p k n) → _) (fun t h0 h1 ih ι1 hF hD => ?_)
  obtain ⟨hV, hNB, hH9⟩ := id hT
  obtain ⟨hV0, hV1, hV2, hV3, hV4, hV5, hVk, hVw⟩ := id hV
  have hB := hNB hN
  have q0 := tb_0 23 ι
  have q1 := tb_1 23 ι
  have q2 := tb_2 23 ι
  have q3 := tb_3 23 ι
  have q4 := tb_4 23 ι
  have q5 := tb_5 23 ι
  have t23 := zw_tb hF
  have p0 : ι1 23 4 = tb 23 ι 0 := by rw [← t23, tb_0]
  have hz4 := zshl_4 hk
  refine g_iload (x := t) rfl dX2_weighPatterns_3 ?_
  refine g_aload_n (x := 23) rfl dX2_weighPatterns_5 ?_
  refine g_get fgX2_57 zcl_5 (congrArg Prod.fst sh_23) (by decide) ig_23_4 dX2_weighPatterns_6 ?_
  rw [p0]
  refine g_icmp_ge ⟨by omega, by omega⟩ ⟨by omega, by omega⟩ (t := 58) dX2_weighPatterns_9 (by decide) (fun h9 => ?_) (fun h9 => ?_)
  · exact i_ret rfl dX2_weighPatterns_58 (⟨rfl, hF, fun s p s0 s1 p0 p1 => hD s p s0 (by omega) p0 p1⟩)
  · refine g_iconst (x := 0) rfl dX2_weighPatterns_12 ?_
    refine g_istore (ls' := [some (zR 165), some (zR 23), some (zI k), some (zI n), some (zI t), some (zI 0)]) dX2_weighPatterns_13 (by decide) rfl ?_
    exact lp_weigh1 (l := l) (D := D) (ad := ad) (L := L) (z := z) hT hN hk hn (t := t) (by omega) (fun ι2 k1 k2 => ih (by omega) ι2 k1 k2) 0 (by omega) (by omega) ι1 hF hD (fun p p0 p1 => by omega)

set_option maxRecDepth 100000 in
theorem c_weighPatterns (hT : zTM (tb 23 ι)) (hN : 0 < tb 23 ι 0) {k n : Int} (hk : 1 ≤ k ∧ k ≤ 4) (hn : 1 ≤ n ∧ n ≤ 12) : zCi l (zc D ad L z) mX2_weighPatterns 3 [zR 165, zR 23, zI k, zI n] ι (fun v ι1 => v = none ∧ (∀ b x, b ≠ 171 → ι1 b x = ι b x) ∧ (∀ s p : Int, 0 ≤ s → s < tb 23 ι 0 → 0 ≤ p → p < zshl 1 k → ι1 171 (s * 16 + p) = zbd (tb 23 ι) s p k n)) := by
  refine zCt_of (by decide) (Nat.le_of_ble_eq_true rfl) 2 rfl ?_
  refine g_iconst (x := 0) rfl dX2_weighPatterns_0 ?_
  refine g_istore (ls' := [some (zR 165), some (zR 23), some (zI k), some (zI n), some (zI 0), none]) dX2_weighPatterns_1 (by decide) rfl ?_
  exact lp_weigh2 (l := l) (D := D) (ad := ad) (L := L) (z := z) hT hN hk hn 0 (by omega) (by omega) ι (fun _ _ _ => rfl) (fun s p s0 s1 => by omega)

def zghf (r f : Int) (a s : Int) : Int := zor a (if zabs (s - f) ≤ r then zshl 1 (4 * s) else 0)
def zgh (r f n : Int) : Int := zfd (zghf r f) 0 n
theorem zh_tb {ι ι' : zi} (h : ∀ b x, b ≠ 172 → ι' b x = ι b x) : tb 23 ι' = tb 23 ι := by
  funext i
  unfold tb
  rw [h 23 _ (by omega), h (23 + 1) _ (by omega), h (23 + 2) _ (by omega), h (23 + 3) _ (by omega), h (23 + 4) _ (by omega)]
set_option maxRecDepth 100000 in
theorem lp_gather1 (hT : zTM (tb 23 ι)) (hN : 0 < tb 23 ι 0) {t : Int} (ht : 0 ≤ t ∧ t < tb 23 ι 0) {Q : Option zV → zi → Prop} (hk9 : ∀ ι1 : zi, (∀ b x, b ≠ 172 → ι1 b x = ι b x) → (∀ f : Int, 0 ≤ f → f < t + 1 → ι1 172 f = zgh (tb 23 ι 2) f (tb 23 ι 0)) → zGi l (zc D ad L z) mX2_gatherHearers 2 2 [some (zR 165), some (zR 23), some (zI (t + 1)), none] [] ι1 Q) : ∀ i : Int, 0 ≤ i → i ≤ tb 23 ι 0 → ∀ ι1 : zi, (∀ b x, b ≠ 172 → ι1 b x = ι b x) → (∀ f : Int, 0 ≤ f → f < t → ι1 172 f = zgh (tb 23 ι 2) f (tb 23 ι 0)) → ι1 172 t = zgh (tb 23 ι 2) t i → zGi l (zc D ad L z) mX2_gatherHearers 2 19 [some (zR 165), some (zR 23), some (zI t), some (zI i)] [] ι1 (Q) := by
  refine z_loopI (P := fun i => ∀ ι1 : zi, (∀ b x, b ≠ 172 → ι1 b x = ι b x) → (∀ f : Int, 0 ≤ f → f < t → ι1 172 f = zgh (tb 23 ι 2) f (tb 23 ι 0)) → ι1 172 t = zgh (tb 23 ι 2) t i → _) (fun i h0 h1 ih ι1 hF hD hE => ?_)
  obtain ⟨hV, hNB, hH9⟩ := id hT
  obtain ⟨hV0, hV1, hV2, hV3, hV4, hV5, hVk, hVw⟩ := id hV
  have hB := hNB hN
  have q0 := tb_0 23 ι
  have q1 := tb_1 23 ι
  have q2 := tb_2 23 ι
  have q3 := tb_3 23 ι
  have q4 := tb_4 23 ι
  have q5 := tb_5 23 ι
  have t23 := zh_tb hF
  have p0 : ι1 23 4 = tb 23 ι 0 := by rw [← t23, tb_0]
  have p2 : ι1 23 6 = tb 23 ι 2 := by rw [← t23, tb_2]
  refine g_iload_n (x := i) rfl dX2_gatherHearers_19 ?_
  refine g_aload_n (x := 23) rfl dX2_gatherHearers_20 ?_
  refine g_get fgX2_57 zcl_5 (congrArg Prod.fst sh_23) (by decide) ig_23_4 dX2_gatherHearers_21 ?_
  rw [p0]
  refine g_icmp_ge ⟨by omega, by omega⟩ ⟨by omega, by omega⟩ (t := 60) dX2_gatherHearers_24 (by decide) (fun h24 => ?_) (fun h24 => ?_)
  · refine g_iinc (x := t) (y := t + 1) (ls' := [some (zR 165), some (zR 23), some (zI (t + 1)), some (zI i)]) dX2_gatherHearers_60 rfl (rfl) (by decide) rfl ?_
    refine g_goto (t := 2) dX2_gatherHearers_63 (by decide) ?_
    refine g_drop (by repeat' constructor) (hk9 ι1 hF (fun f f0 f1 => ?_))
    by_cases g : f = t
    · rw [g, hE, show i = tb 23 ι 0 by omega]
    · exact hD f f0 (by omega)
  · refine g_aload_n (x := 165) rfl dX2_gatherHearers_27 ?_
    refine g_get fgX2_22 zcl_2 (congrArg Prod.fst sh_165) (by decide) rg_165_2 dX2_gatherHearers_28 ?_
    refine g_iload_n (x := t) rfl dX2_gatherHearers_31 ?_
    refine g_dup2 dX2_gatherHearers_32 ?_
    refine g_iald sh_172 (by decide) (by omega) (by omega) (by decide) ag_172 dX2_gatherHearers_33 ?_
    rw [hE]
    refine g_aload_n (x := 23) rfl dX2_gatherHearers_34 ?_
    refine g_iload_n (x := i) rfl dX2_gatherHearers_35 ?_
    refine g_iload_n (x := t) rfl dX2_gatherHearers_36 ?_
    refine i_callVp mvX5_hearsFrom tw_617 (ci := 5) (congrArg Prod.fst sh_23) rfl (by decide) (c_hearsFrom tt_23 (s := i) (d := t) (by omega) (by omega) ⟨by omega, by omega⟩) (by decide) (st' := [zI (zgh (tb 23 ι 2) t i), zI t, zR 172]) rfl (Nat.le_of_ble_eq_true rfl) rfl dX2_gatherHearers_37 ?_
    have hz1 : (zhf i t (ι1 23 6) = 1 ∧ zabs (i - t) ≤ tb 23 ι 2) ∨ (zhf i t (ι1 23 6) = 0 ∧ ¬ zabs (i - t) ≤ tb 23 ι 2) := by
      rw [p2]
      unfold zhf
      split
      · exact Or.inl ⟨rfl, by assumption⟩
      · exact Or.inr ⟨rfl, by assumption⟩
    refine g_if_eq ⟨by omega, by omega⟩ (t := 51) dX2_gatherHearers_40 (by decide) (fun h40 => ?_) (fun h40 => ?_)
    · refine g_iconst (x := 0) rfl dX2_gatherHearers_51 ?_
      refine g_ior dX2_gatherHearers_52 ?_
      refine g_nm (fun x2 hx2 => ?_)
      obtain ⟨ι2, hι2⟩ : ∃ y_, y_ = iup ι1 172 t x2 := ⟨_, rfl⟩
      refine i_iast sh_172 (by decide) (by decide) (by omega) (by omega) (by decide) (ι1 := ι2) (by rw [hι2]; exact au_172) dX2_gatherHearers_53 ?_
      refine g_iinc (x := i) (y := i + 1) (ls' := [some (zR 165), some (zR 23), some (zI t), some (zI (i + 1))]) dX2_gatherHearers_54 rfl (rfl) (by decide) rfl ?_
      refine g_goto (t := 19) dX2_gatherHearers_57 (by decide) ?_
      refine ih (by omega) ι2 (fun b x hb => by rw [hι2, iup_n _ (by omega)]; exact hF b x hb) (fun f f0 f1 => by rw [hι2, iup_n _ (by omega)]; exact hD f f0 f1) ?_
      unfold zgh at hx2 ⊢
      rw [hι2, iup_s, zfd_s _ _ h0, hx2]
      unfold zghf
      first | rw [if_pos (by omega)] | rw [if_neg (by omega)]
    · refine g_iconst (x := 1) rfl dX2_gatherHearers_43 ?_
      refine g_iconst (x := 4) rfl dX2_gatherHearers_44 ?_
      refine g_iload_n (x := i) rfl dX2_gatherHearers_45 ?_
      refine g_imul dX2_gatherHearers_46 ?_
      refine g_ishl dX2_gatherHearers_47 ?_
      refine g_goto (t := 52) dX2_gatherHearers_48 (by decide) ?_
      refine g_ior dX2_gatherHearers_52 ?_
      refine g_nm (fun x2 hx2 => ?_)
      obtain ⟨ι2, hι2⟩ : ∃ y_, y_ = iup ι1 172 t x2 := ⟨_, rfl⟩
      refine i_iast sh_172 (by decide) (by decide) (by omega) (by omega) (by decide) (ι1 := ι2) (by rw [hι2]; exact au_172) dX2_gatherHearers_53 ?_
      refine g_iinc (x := i) (y := i + 1) (ls' := [some (zR 165), some (zR 23), some (zI t), some (zI (i + 1))]) dX2_gatherHearers_54 rfl (rfl) (by decide) rfl ?_
      refine g_goto (t := 19) dX2_gatherHearers_57 (by decide) ?_
      refine ih (by omega) ι2 (fun b x hb => by rw [hι2, iup_n _ (by omega)]; exact hF b x hb) (fun f f0 f1 => by rw [hι2, iup_n _ (by omega)]; exact hD f f0 f1) ?_
      unfold zgh at hx2 ⊢
      rw [hι2, iup_s, zfd_s _ _ h0, hx2]
      unfold zghf
      first | rw [if_pos (by omega)] | rw [if_neg (by omega)]

set_option maxRecDepth 100000 in
theorem lp_gather2 (hT : zTM (tb 23 ι)) (hN : 0 < tb 23 ι 0) : ∀ t : Int, 0 ≤ t → t ≤ tb 23 ι 0 → ∀ ι1 : zi, (∀ b x, b ≠ 172 → ι1 b x = ι b x) → (∀ f : Int, 0 ≤ f → f < t → ι1 172 f = zgh (tb 23 ι 2) f (tb 23 ι 0)) → zGi l (zc D ad L z) mX2_gatherHearers 2 2 [some (zR 165), some (zR 23), some (zI t), none] [] ι1 (fun v ι1 => v = none ∧ (∀ b x, b ≠ 172 → ι1 b x = ι b x) ∧ (∀ f : Int, 0 ≤ f → f < tb 23 ι 0 → ι1 172 f = zgh (tb 23 ι 2) f (tb 23 ι 0))) := by
  refine z_loopI (P := fun t => ∀ ι1 : zi, (∀ b x, b ≠ 172 → ι1 b x = ι b x) → (∀ f : Int, 0 ≤ f → f < t → ι1 172 f = zgh (tb 23 ι 2) f (tb 23 ι 0)) → _) (fun t h0 h1 ih ι1 hF hD => ?_)
  obtain ⟨hV, hNB, hH9⟩ := id hT
  obtain ⟨hV0, hV1, hV2, hV3, hV4, hV5, hVk, hVw⟩ := id hV
  have hB := hNB hN
  have q0 := tb_0 23 ι
  have q1 := tb_1 23 ι
  have q2 := tb_2 23 ι
  have q3 := tb_3 23 ι
  have q4 := tb_4 23 ι
  have q5 := tb_5 23 ι
  have t23 := zh_tb hF
  have p0 : ι1 23 4 = tb 23 ι 0 := by rw [← t23, tb_0]
  refine g_iload_n (x := t) rfl dX2_gatherHearers_2 ?_
  refine g_aload_n (x := 23) rfl dX2_gatherHearers_3 ?_
  refine g_get fgX2_57 zcl_5 (congrArg Prod.fst sh_23) (by decide) ig_23_4 dX2_gatherHearers_4 ?_
  rw [p0]
  refine g_icmp_ge ⟨by omega, by omega⟩ ⟨by omega, by omega⟩ (t := 66) dX2_gatherHearers_7 (by decide) (fun h7 => ?_) (fun h7 => ?_)
  · exact i_ret rfl dX2_gatherHearers_66 (⟨rfl, hF, fun f f0 f1 => hD f f0 (by omega)⟩)
  · refine g_aload_n (x := 165) rfl dX2_gatherHearers_10 ?_
    refine g_get fgX2_22 zcl_2 (congrArg Prod.fst sh_165) (by decide) rg_165_2 dX2_gatherHearers_11 ?_
    refine g_iload_n (x := t) rfl dX2_gatherHearers_14 ?_
    refine g_iconst (x := 0) rfl dX2_gatherHearers_15 ?_
    obtain ⟨ι2, hι2⟩ : ∃ y_, y_ = iup ι1 172 t 0 := ⟨_, rfl⟩
    refine i_iast sh_172 (by decide) (by decide) (by omega) (by omega) (by decide) (ι1 := ι2) (by rw [hι2]; exact au_172) dX2_gatherHearers_16 ?_
    refine g_iconst (x := 0) rfl dX2_gatherHearers_17 ?_
    refine g_istore_n (ls' := [some (zR 165), some (zR 23), some (zI t), some (zI 0)]) dX2_gatherHearers_18 (by decide) rfl ?_
    exact lp_gather1 (l := l) (D := D) (ad := ad) (L := L) (z := z) hT hN (t := t) (by omega) (fun ι3 k1 k2 => ih (by omega) ι3 k1 k2) 0 (by omega) (by omega) ι2 (fun b x hb => by rw [hι2, iup_n _ (by omega)]; exact hF b x hb) (fun f f0 f1 => by rw [hι2, iup_n _ (by omega)]; exact hD f f0 f1) (by rw [hι2, iup_s]; rfl)

set_option maxRecDepth 100000 in
theorem c_gatherHearers (hT : zTM (tb 23 ι)) (hN : 0 < tb 23 ι 0) : zCi l (zc D ad L z) mX2_gatherHearers 2 [zR 165, zR 23] ι (fun v ι1 => v = none ∧ (∀ b x, b ≠ 172 → ι1 b x = ι b x) ∧ (∀ f : Int, 0 ≤ f → f < tb 23 ι 0 → ι1 172 f = zgh (tb 23 ι 2) f (tb 23 ι 0))) := by
  refine zCt_of (by decide) (Nat.le_of_ble_eq_true rfl) 2 rfl ?_
  refine g_iconst (x := 0) rfl dX2_gatherHearers_0 ?_
  refine g_istore_n (ls' := [some (zR 165), some (zR 23), some (zI 0), none]) dX2_gatherHearers_1 (by decide) rfl ?_
  exact lp_gather2 (l := l) (D := D) (ad := ad) (L := L) (z := z) hT hN 0 (by omega) (by omega) ι (fun _ _ _ => rfl) (fun f f0 f1 => by omega)

end
