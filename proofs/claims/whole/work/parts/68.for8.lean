section
variable {l : Launch} {D : va_G} {ad : Nat → Nat} {L z : Nat} {ι : zi}
theorem zand_15 (x : Int) : 0 ≤ zand x 15 ∧ zand x 15 ≤ 15 := by rw [zbi_c15_v]; exact (zq_k _ _ _ _).1
def zbur (ι : zi) (N k x : Int) : Int := zsum (fun s => ι 171 (s * 16 + zand (zushr (zhd (ι 172) N k x k) (4 * s)) 15)) N
def zbu (R : zr) (k n x : Int) : Int := zsum (fun s => zbd R s (zpt R k x s) k n) (R 0)
theorem zbu_of {ι : zi} {R : zr} {k n x : Int} (hV : zVT R) (hk : 1 ≤ k ∧ k ≤ 4) (hN : 0 < R 0) (hD : ∀ s p : Int, 0 ≤ s → s < R 0 → 0 ≤ p → p < zshl 1 k → ι 171 (s * 16 + p) = zbd R s p k n) (hG : ∀ f : Int, 0 ≤ f → f < R 0 → ι 172 f = zgh (R 2) f (R 0)) : zbur ι (R 0) k x = zbu R k n x := by
  unfold zbur zbu
  have e : zhd (ι 172) (R 0) k x k = zhd (fun f => zgh (R 2) f (R 0)) (R 0) k x k := by
    unfold zhd
    refine zfd_c (fun i a i0 i1 => ?_) (by omega)
    have hd := zdi_b (N := R 0) (x := x) (m := i) hN
    unfold zhdf
    rw [hG _ hd.1 hd.2]
  rw [e]
  refine zsum_c (fun s s0 s1 => ?_)
  have hp := (zpt_v (R := R) hV.1 hk (x := x) (s := s) ⟨s0, s1⟩).1
  exact hD s _ s0 s1 hp.1 hp.2
theorem zbu_b {R : zr} (hV : zVT R) {k n x : Int} (hn : 0 ≤ n) : 0 ≤ zbu R k n x ∧ zbu R k n x ≤ 961 * R 0 := by
  have h := zsum_b (fun s => zbd R s (zpt R k x s) k n) (i := R 0) (M := 961) hV.1.1 (fun s s0 s1 => zbd_b (hV.2.2.2.2.2.2.1 s s0 s1).2.1 (hV.2.2.2.2.2.2.1 s s0 s1).2.2 hV.2.2.2.1.1 hn)
  unfold zbu
  omega
def zff (f : Int → Int) (a : Int × Int) (r : Int) : Int × Int := if f (r + 1) < a.1 then (f (r + 1), r + 1) else a
def zft (f : Int → Int) (m : Int) : Int × Int := zfd (zff f) (f 0, 0) m
theorem zff_y {f : Int → Int} {a : Int × Int} {r : Int} (h : f (r + 1) < a.1) : zff f a r = (f (r + 1), r + 1) := if_pos h
theorem zff_n {f : Int → Int} {a : Int × Int} {r : Int} (h : ¬ f (r + 1) < a.1) : zff f a r = a := if_neg h
theorem zft_b {f : Int → Int} {B m : Int} (hf : ∀ x, 0 ≤ f x ∧ f x ≤ B) (hm : 0 ≤ m) : (0 ≤ (zft f m).1 ∧ (zft f m).1 ≤ B) ∧ 0 ≤ (zft f m).2 ∧ (zft f m).2 ≤ m := by
  refine zfd_ind (f := zff f) (P := fun i (a : Int × Int) => (0 ≤ a.1 ∧ a.1 ≤ B) ∧ 0 ≤ a.2 ∧ a.2 ≤ i) ⟨hf 0, Int.le_refl _, Int.le_refl _⟩ (fun i a i0 i1 ha => ?_) hm
  by_cases g : f (i + 1) < a.1
  · rw [zff_y g]; exact ⟨hf _, by show 0 ≤ i + 1; omega, Int.le_refl _⟩
  · rw [zff_n g]; exact ⟨ha.1, ha.2.1, by omega⟩
set_option maxRecDepth 100000 in
theorem lp_burdenOf2 {x N k : Int} (hx : 0 ≤ x ∧ x ≤ 5000) (hN : 1 ≤ N ∧ N ≤ 8) (hk : 1 ≤ k ∧ k ≤ 4) {hd : Int} : ∀ i : Int, 0 ≤ i → i ≤ N → zGi l (zc D ad L z) mX2_burdenOf 1 60 [some (zR 165), some (zI x), some (zI N), some (zI k), some (zI N), none, some (zI hd), some (zI (zsum (fun s => ι 171 (s * 16 + zand (zushr hd (4 * s)) 15)) i)), some (zI i)] [] ι (zP (zI (zsum (fun s => ι 171 (s * 16 + zand (zushr hd (4 * s)) 15)) N)) ι) := by
  refine z_loopI (fun i h0 h1 ih => ?_)
  have ha := zand_15 (zushr hd (4 * i))
  refine g_iload (x := i) rfl dX2_burdenOf_60 ?_
  refine g_iload_n (x := N) rfl dX2_burdenOf_62 ?_
  refine g_icmp_ge ⟨by omega, by omega⟩ ⟨by omega, by omega⟩ (t := 98) dX2_burdenOf_63 (by decide) (fun h63 => ?_) (fun h63 => ?_)
  · refine g_iload (x := (zsum (fun s => ι 171 (s * 16 + zand (zushr hd (4 * s)) 15)) i)) rfl dX2_burdenOf_98 ?_
    exact i_iret rfl dX2_burdenOf_100 (⟨by rw [show i = N by omega], rfl⟩)
  · refine g_iload (x := (zsum (fun s => ι 171 (s * 16 + zand (zushr hd (4 * s)) 15)) i)) rfl dX2_burdenOf_66 ?_
    refine g_aload_n (x := 165) rfl dX2_burdenOf_68 ?_
    refine g_get fgX2_18 zcl_2 (congrArg Prod.fst sh_165) (by decide) rg_165_1 dX2_burdenOf_69 ?_
    refine g_iload (x := i) rfl dX2_burdenOf_72 ?_
    refine g_bipush (x := 16) (by decide) dX2_burdenOf_74 ?_
    refine g_imul dX2_burdenOf_76 ?_
    refine g_iload (x := hd) rfl dX2_burdenOf_77 ?_
    refine g_iconst (x := 4) rfl dX2_burdenOf_79 ?_
    refine g_iload (x := i) rfl dX2_burdenOf_80 ?_
    refine g_imul dX2_burdenOf_82 ?_
    refine g_iushr dX2_burdenOf_83 ?_
    refine g_bipush (x := 15) (by decide) dX2_burdenOf_84 ?_
    refine g_iand dX2_burdenOf_86 ?_
    refine g_iadd dX2_burdenOf_87 ?_
    refine g_iald sh_171 (by decide) (by omega) (by omega) (by decide) ag_171 dX2_burdenOf_88 ?_
    refine g_iadd dX2_burdenOf_89 ?_
    refine g_nm (fun x7 hx7 => ?_)
    refine g_istore (ls' := [some (zR 165), some (zI x), some (zI N), some (zI k), some (zI N), none, some (zI hd), some (zI x7), some (zI i)]) dX2_burdenOf_90 (by decide) rfl ?_
    refine g_iinc (x := i) (y := i + 1) (ls' := [some (zR 165), some (zI x), some (zI N), some (zI k), some (zI N), none, some (zI hd), some (zI x7), some (zI (i + 1))]) dX2_burdenOf_92 rfl (rfl) (by decide) rfl ?_
    refine g_goto (t := 60) dX2_burdenOf_95 (by decide) ?_
    have hh := ih (by omega)
    rw [zsum_s _ h0, ← hx7] at hh
    exact hh

set_option maxRecDepth 100000 in
theorem lp_burdenOf1 {x N k : Int} (hx : 0 ≤ x ∧ x ≤ 5000) (hN : 1 ≤ N ∧ N ≤ 8) (hk : 1 ≤ k ∧ k ≤ 4) : ∀ i : Int, 0 ≤ i → i ≤ k → zGi l (zc D ad L z) mX2_burdenOf 1 18 [some (zR 165), some (zI x), some (zI N), some (zI k), some (zI N), some (zI (x / N ^ i.toNat)), some (zI (zhd (ι 172) N k x i)), some (zI (k - 1 - i)), none] [] ι (zP (zI (zbur ι N k x)) ι) := by
  refine z_loopI (fun i h0 h1 ih => ?_)
  have hpq := zpw_q (N := N) (i := i) (by omega) hx.1
  have hdb := zdi_b (N := N) (x := x) (m := i) (by omega)
  unfold zdi at hdb
  refine g_iload (x := (k - 1 - i)) rfl dX2_burdenOf_18 ?_
  refine g_if_lt ⟨by omega, by omega⟩ (t := 54) dX2_burdenOf_20 (by decide) (fun h20 => ?_) (fun h20 => ?_)
  · have ei : i = k := by omega
    rw [ei]
    refine g_iconst (x := 0) rfl dX2_burdenOf_54 ?_
    refine g_istore (ls' := [some (zR 165), some (zI x), some (zI N), some (zI k), some (zI N), some (zI (x / N ^ k.toNat)), some (zI (zhd (ι 172) N k x k)), some (zI 0), none]) dX2_burdenOf_55 (by decide) rfl ?_
    refine g_iconst (x := 0) rfl dX2_burdenOf_57 ?_
    refine g_istore (ls' := [some (zR 165), some (zI x), some (zI N), some (zI k), some (zI N), some (zI (x / N ^ k.toNat)), some (zI (zhd (ι 172) N k x k)), some (zI 0), some (zI 0)]) dX2_burdenOf_58 (by decide) rfl ?_
    exact g_drop (by repeat' constructor) (lp_burdenOf2 (l := l) (D := D) (ad := ad) (L := L) (z := z) hx hN hk (hd := zhd (ι 172) N k x k) 0 (by omega) (by omega))
  · refine g_iload (x := (zhd (ι 172) N k x i)) rfl dX2_burdenOf_23 ?_
    refine g_aload_n (x := 165) rfl dX2_burdenOf_25 ?_
    refine g_get fgX2_22 zcl_2 (congrArg Prod.fst sh_165) (by decide) rg_165_2 dX2_burdenOf_26 ?_
    refine g_iload (x := (x / N ^ i.toNat)) rfl dX2_burdenOf_29 ?_
    refine g_iload (x := N) rfl dX2_burdenOf_31 ?_
    refine g_irem (by omega) (by omega) (by omega) (by omega) dX2_burdenOf_33 ?_
    refine g_iald sh_172 (by decide) (by omega) (by omega) (by decide) ag_172 dX2_burdenOf_34 ?_
    refine g_iload (x := (k - 1 - i)) rfl dX2_burdenOf_35 ?_
    refine g_ishl dX2_burdenOf_37 ?_
    refine g_ior dX2_burdenOf_38 ?_
    refine g_nm (fun x6 hx6 => ?_)
    refine g_istore (ls' := [some (zR 165), some (zI x), some (zI N), some (zI k), some (zI N), some (zI (x / N ^ i.toNat)), some (zI x6), some (zI (k - 1 - i)), none]) dX2_burdenOf_39 (by decide) rfl ?_
    refine g_iload (x := (x / N ^ i.toNat)) rfl dX2_burdenOf_41 ?_
    refine g_iload (x := N) rfl dX2_burdenOf_43 ?_
    refine g_idiv (by omega) (by omega) (by omega) (by omega) dX2_burdenOf_45 ?_
    refine g_nm (fun x5 hx5 => ?_)
    refine g_istore (ls' := [some (zR 165), some (zI x), some (zI N), some (zI k), some (zI N), some (zI x5), some (zI x6), some (zI (k - 1 - i)), none]) dX2_burdenOf_46 (by decide) rfl ?_
    refine g_iinc (x := (k - 1 - i)) (y := k - 1 - i + (-1)) (ls' := [some (zR 165), some (zI x), some (zI N), some (zI k), some (zI N), some (zI x5), some (zI x6), some (zI (k - 1 - i + (-1))), none]) dX2_burdenOf_48 rfl (rfl) (by decide) rfl ?_
    refine g_goto (t := 18) dX2_burdenOf_51 (by decide) ?_
    have hh := ih (by omega)
    rw [zpw_d (by omega) h0, ← hx5, show k - 1 - (i + 1) = k - 1 - i + (-1) by omega, show zhd (ι 172) N k x (i + 1) = x6 by rw [hx6]; unfold zhd; rw [zfd_s _ _ h0]; rfl] at hh
    exact hh

set_option maxRecDepth 100000 in
theorem c_burdenOf {x N k : Int} (hx : 0 ≤ x ∧ x ≤ 5000) (hN : 1 ≤ N ∧ N ≤ 8) (hk : 1 ≤ k ∧ k ≤ 4) : zCi l (zc D ad L z) mX2_burdenOf 1 [zR 165, zI x, zI N, zI k] ι (zP (zI (zbur ι N k x)) ι) := by
  refine zCt_of (by decide) (Nat.le_of_ble_eq_true rfl) 5 rfl ?_
  refine g_iload_n (x := N) rfl dX2_burdenOf_0 ?_
  refine g_iconst (x := 1) rfl dX2_burdenOf_1 ?_
  refine g_mmax ⟨by omega, by omega⟩ (by decide) (by decide) (Nat.le_of_ble_eq_true rfl) tw_610 mq_max2 mq_max3 mq_max4 dX2_burdenOf_2 ?_
  rw [show zmax N 1 = N by unfold zmax; split <;> omega]
  refine g_istore (ls' := [some (zR 165), some (zI x), some (zI N), some (zI k), some (zI N), none, none, none, none]) dX2_burdenOf_5 (by decide) rfl ?_
  refine g_iload_n (x := x) rfl dX2_burdenOf_7 ?_
  refine g_istore (ls' := [some (zR 165), some (zI x), some (zI N), some (zI k), some (zI N), some (zI x), none, none, none]) dX2_burdenOf_8 (by decide) rfl ?_
  refine g_iconst (x := 0) rfl dX2_burdenOf_10 ?_
  refine g_istore (ls' := [some (zR 165), some (zI x), some (zI N), some (zI k), some (zI N), some (zI x), some (zI 0), none, none]) dX2_burdenOf_11 (by decide) rfl ?_
  refine g_iload_n (x := k) rfl dX2_burdenOf_13 ?_
  refine g_iconst (x := 1) rfl dX2_burdenOf_14 ?_
  refine g_isub dX2_burdenOf_15 ?_
  refine g_istore (ls' := [some (zR 165), some (zI x), some (zI N), some (zI k), some (zI N), some (zI x), some (zI 0), some (zI (k - 1)), none]) dX2_burdenOf_16 (by decide) rfl ?_
  have hh := lp_burdenOf1 (l := l) (D := D) (ad := ad) (L := L) (z := z) (ι := ι) hx hN hk 0 (by omega) (by omega)
  rw [show x / N ^ (0 : Int).toNat = x by rw [show (0 : Int).toNat = 0 from rfl, Int.pow_zero, Int.ediv_one], show k - 1 - 0 = k - 1 by omega] at hh
  exact hh

set_option maxRecDepth 100000 in
theorem lp_findTune2 (hT : zTM (tb 23 ι)) (hN : 0 < tb 23 ι 0) {k n : Int} (hk : 1 ≤ k ∧ k ≤ 4) (hn : 1 ≤ n ∧ n ≤ 12) (hD : ∀ s p : Int, 0 ≤ s → s < tb 23 ι 0 → 0 ≤ p → p < zshl 1 k → ι 171 (s * 16 + p) = zbd (tb 23 ι) s p k n) (hG : ∀ f : Int, 0 ≤ f → f < tb 23 ι 0 → ι 172 f = zgh (tb 23 ι 2) f (tb 23 ι 0)) : ∀ i : Int, 0 ≤ i → i ≤ (tb 23 ι 0 ^ k.toNat) - 1 → zGi l (zc D ad L z) mX2_findTune 4 59 [some (zR 165), some (zR 23), some (zI k), some (zI n), some (zI (tb 23 ι 0 ^ k.toNat)), some (zI (zft (zbu (tb 23 ι) k n) i).1), some (zI (i + 1)), none] [] (iup ι 165 7 (zft (zbu (tb 23 ι) k n) i).2) (fun v ι' => v = none ∧ zFs ι ι' ∧ ι' 165 8 = (zft (zbu (tb 23 ι) k n) ((tb 23 ι 0 ^ k.toNat) - 1)).1 / 16 ∧ ι' 165 7 = (zft (zbu (tb 23 ι) k n) ((tb 23 ι 0 ^ k.toNat) - 1)).2) := by
  refine z_loopI (fun i h0 h1 ih => ?_)
  obtain ⟨hV, hNB, hH9⟩ := id hT
  obtain ⟨hV0, hV1, hV2, hV3, hV4, hV5, hVk, hVw⟩ := id hV
  have hB := hNB hN
  have q0 := tb_0 23 ι
  have q1 := tb_1 23 ι
  have q2 := tb_2 23 ι
  have q3 := tb_3 23 ι
  have q4 := tb_4 23 ι
  have q5 := tb_5 23 ι
  have hpw := zpw_b (N := tb 23 ι 0) (k := k) (by omega) (by omega)
  have hfb : ∀ x, 0 ≤ zbu (tb 23 ι) k n x ∧ zbu (tb 23 ι) k n x ≤ 7688 := fun x => by have := zbu_b hV (k := k) (n := n) (x := x) (by omega); omega
  have hab := zft_b (f := (zbu (tb 23 ι) k n)) (B := 7688) hfb h0
  have hst : zft (zbu (tb 23 ι) k n) (i + 1) = zff (zbu (tb 23 ι) k n) (zft (zbu (tb 23 ι) k n) i) i := zfd_s _ _ h0
  obtain ⟨A, hA⟩ : ∃ A, A = zft (zbu (tb 23 ι) k n) i := ⟨_, rfl⟩
  rw [← hA] at hab hst ⊢
  obtain ⟨ι1, hι1⟩ : ∃ y, y = iup ι 165 7 A.2 := ⟨_, rfl⟩
  rw [← hι1]
  have p0 : ι1 23 4 = tb 23 ι 0 := by rw [hι1, iup_n _ (by omega), tb_0]
  have e171 : ι1 171 = ι 171 := by funext y; rw [hι1, iup_n _ (by omega)]
  have e172 : ι1 172 = ι 172 := by funext y; rw [hι1, iup_n _ (by omega)]
  refine g_iload (x := (i + 1)) rfl dX2_findTune_59 ?_
  refine g_iload (x := (tb 23 ι 0 ^ k.toNat)) rfl dX2_findTune_61 ?_
  refine g_icmp_ge ⟨by omega, by omega⟩ ⟨by omega, by omega⟩ (t := 102) dX2_findTune_63 (by decide) (fun h63 => ?_) (fun h63 => ?_)
  · refine g_aload_n (x := 165) rfl dX2_findTune_102 ?_
    refine g_iload (x := A.1) rfl dX2_findTune_103 ?_
    refine g_bipush (x := 16) (by decide) dX2_findTune_105 ?_
    refine g_idiv (by omega) (by omega) (by omega) (by omega) dX2_findTune_107 ?_
    obtain ⟨ι2, hι2⟩ : ∃ y_, y_ = iup ι1 165 8 (A.1 / 16) := ⟨_, rfl⟩
    refine i_put fwX2_68 zcl_2 (congrArg Prod.fst sh_165) (by decide) (by decide) (ι1 := ι2) (by rw [hι2]; exact iu_165_8) dX2_findTune_108 ?_
    exact i_ret rfl dX2_findTune_111 (⟨rfl, by rw [hι2, hι1]; exact zFs.t (zFs.up (by omega) (by omega)) (zFs.up (by omega) (by omega)), by rw [hι2, iup_s, hA, show i = tb 23 ι 0 ^ k.toNat - 1 by omega], by rw [hι2, iup_n _ (by omega), hι1, iup_s, hA, show i = tb 23 ι 0 ^ k.toNat - 1 by omega]⟩)
  · refine g_aload_n (x := 165) rfl dX2_findTune_66 ?_
    refine g_iload (x := (i + 1)) rfl dX2_findTune_67 ?_
    refine g_aload_n (x := 23) rfl dX2_findTune_69 ?_
    refine g_get fgX2_57 zcl_5 (congrArg Prod.fst sh_23) (by decide) ig_23_4 dX2_findTune_70 ?_
    rw [p0]
    refine g_iload_n (x := k) rfl dX2_findTune_73 ?_
    refine i_callVp mvX2_burdenOf tw_618 (ci := 2) (congrArg Prod.fst sh_165) rfl (by decide) (c_burdenOf (x := i + 1) (N := tb 23 ι 0) (k := k) (by omega) (by omega) hk) (by decide) (st' := []) rfl (Nat.le_of_ble_eq_true rfl) rfl dX2_findTune_74 ?_
    have eb : zbur ι1 (tb 23 ι 0) k (i + 1) = zbu (tb 23 ι) k n (i + 1) := zbu_of hV hk hN (by rw [e171]; exact hD) (by rw [e172]; exact hG)
    rw [eb]
    have hf1 := hfb (i + 1)
    refine g_istore (ls' := [some (zR 165), some (zR 23), some (zI k), some (zI n), some (zI (tb 23 ι 0 ^ k.toNat)), some (zI A.1), some (zI (i + 1)), some (zI (zbu (tb 23 ι) k n (i + 1)))]) dX2_findTune_77 (by decide) rfl ?_
    refine g_iload (x := (zbu (tb 23 ι) k n (i + 1))) rfl dX2_findTune_79 ?_
    refine g_iload (x := A.1) rfl dX2_findTune_81 ?_
    refine g_icmp_ge ⟨by omega, by omega⟩ ⟨by omega, by omega⟩ (t := 96) dX2_findTune_83 (by decide) (fun h83 => ?_) (fun h83 => ?_)
    · refine g_iinc (x := (i + 1)) (y := i + 1 + 1) (ls' := [some (zR 165), some (zR 23), some (zI k), some (zI n), some (zI (tb 23 ι 0 ^ k.toNat)), some (zI A.1), some (zI (i + 1 + 1)), some (zI (zbu (tb 23 ι) k n (i + 1)))]) dX2_findTune_96 rfl (rfl) (by decide) rfl ?_
      refine g_goto (t := 59) dX2_findTune_99 (by decide) ?_
      have hh := ih (by omega)
      rw [hst, zff_n (by omega), ← hι1] at hh
      exact g_drop (by repeat' constructor) hh
    · refine g_iload (x := (zbu (tb 23 ι) k n (i + 1))) rfl dX2_findTune_86 ?_
      refine g_istore (ls' := [some (zR 165), some (zR 23), some (zI k), some (zI n), some (zI (tb 23 ι 0 ^ k.toNat)), some (zI (zbu (tb 23 ι) k n (i + 1))), some (zI (i + 1)), some (zI (zbu (tb 23 ι) k n (i + 1)))]) dX2_findTune_88 (by decide) rfl ?_
      refine g_aload_n (x := 165) rfl dX2_findTune_90 ?_
      refine g_iload (x := (i + 1)) rfl dX2_findTune_91 ?_
      obtain ⟨ι2, hι2⟩ : ∃ y_, y_ = iup ι1 165 7 (i + 1) := ⟨_, rfl⟩
      refine i_put fwX2_61 zcl_2 (congrArg Prod.fst sh_165) (by decide) (by decide) (ι1 := ι2) (by rw [hι2]; exact iu_165_7) dX2_findTune_93 ?_
      refine g_iinc (x := (i + 1)) (y := i + 1 + 1) (ls' := [some (zR 165), some (zR 23), some (zI k), some (zI n), some (zI (tb 23 ι 0 ^ k.toNat)), some (zI (zbu (tb 23 ι) k n (i + 1))), some (zI (i + 1 + 1)), some (zI (zbu (tb 23 ι) k n (i + 1)))]) dX2_findTune_96 rfl (rfl) (by decide) rfl ?_
      refine g_goto (t := 59) dX2_findTune_99 (by decide) ?_
      have hh := ih (by omega)
      rw [hst, zff_y (by omega)] at hh
      have e2 : ι2 = iup ι 165 7 (i + 1) := by
        rw [hι2, hι1]
        funext b y
        unfold iup
        split <;> rfl
      rw [e2]
      exact g_drop (by repeat' constructor) hh

set_option maxRecDepth 100000 in
theorem lp_findTune1 (hT : zTM (tb 23 ι)) (hN : 0 < tb 23 ι 0) {k n : Int} (hk : 1 ≤ k ∧ k ≤ 4) (hn : 1 ≤ n ∧ n ≤ 12) (hD : ∀ s p : Int, 0 ≤ s → s < tb 23 ι 0 → 0 ≤ p → p < zshl 1 k → ι 171 (s * 16 + p) = zbd (tb 23 ι) s p k n) (hG : ∀ f : Int, 0 ≤ f → f < tb 23 ι 0 → ι 172 f = zgh (tb 23 ι 2) f (tb 23 ι 0)) : ∀ i : Int, 0 ≤ i → i ≤ k → zGi l (zc D ad L z) mX2_findTune 4 18 [some (zR 165), some (zR 23), some (zI k), some (zI n), some (zI (tb 23 ι 0 ^ i.toNat)), some (zI i), none, none] [] ι (fun v ι' => v = none ∧ zFs ι ι' ∧ ι' 165 8 = (zft (zbu (tb 23 ι) k n) ((tb 23 ι 0 ^ k.toNat) - 1)).1 / 16 ∧ ι' 165 7 = (zft (zbu (tb 23 ι) k n) ((tb 23 ι 0 ^ k.toNat) - 1)).2) := by
  refine z_loopI (fun i h0 h1 ih => ?_)
  obtain ⟨hV, hNB, hH9⟩ := id hT
  obtain ⟨hV0, hV1, hV2, hV3, hV4, hV5, hVk, hVw⟩ := id hV
  have hB := hNB hN
  have q0 := tb_0 23 ι
  have q1 := tb_1 23 ι
  have q2 := tb_2 23 ι
  have q3 := tb_3 23 ι
  have q4 := tb_4 23 ι
  have q5 := tb_5 23 ι
  refine g_iload (x := i) rfl dX2_findTune_18 ?_
  refine g_iload_n (x := k) rfl dX2_findTune_20 ?_
  refine g_icmp_ge ⟨by omega, by omega⟩ ⟨by omega, by omega⟩ (t := 39) dX2_findTune_21 (by decide) (fun h21 => ?_) (fun h21 => ?_)
  · have ei : i = k := by omega
    rw [ei]
    refine g_aload_n (x := 165) rfl dX2_findTune_39 ?_
    refine g_iconst (x := 0) rfl dX2_findTune_40 ?_
    obtain ⟨ι1, hι1⟩ : ∃ y_, y_ = iup ι 165 7 0 := ⟨_, rfl⟩
    refine i_put fwX2_61 zcl_2 (congrArg Prod.fst sh_165) (by decide) (by decide) (ι1 := ι1) (by rw [hι1]; exact iu_165_7) dX2_findTune_41 ?_
    refine g_aload_n (x := 165) rfl dX2_findTune_44 ?_
    refine g_iconst (x := 0) rfl dX2_findTune_45 ?_
    refine g_aload_n (x := 23) rfl dX2_findTune_46 ?_
    refine g_get fgX2_57 zcl_5 (congrArg Prod.fst sh_23) (by decide) ig_23_4 dX2_findTune_47 ?_
    rw [show ι1 23 4 = tb 23 ι 0 by rw [hι1, iup_n _ (by omega), tb_0]]
    have e171 : ι1 171 = ι 171 := by funext y; rw [hι1, iup_n _ (by omega)]
    have e172 : ι1 172 = ι 172 := by funext y; rw [hι1, iup_n _ (by omega)]
    refine g_iload_n (x := k) rfl dX2_findTune_50 ?_
    refine i_callVp mvX2_burdenOf tw_618 (ci := 2) (congrArg Prod.fst sh_165) rfl (by decide) (c_burdenOf (x := 0) (N := tb 23 ι 0) (k := k) (by omega) (by omega) hk) (by decide) (st' := []) rfl (Nat.le_of_ble_eq_true rfl) rfl dX2_findTune_51 ?_
    have eb : zbur ι1 (tb 23 ι 0) k 0 = zbu (tb 23 ι) k n 0 := zbu_of hV hk hN (by rw [e171]; exact hD) (by rw [e172]; exact hG)
    rw [eb]
    refine g_istore (ls' := [some (zR 165), some (zR 23), some (zI k), some (zI n), some (zI (tb 23 ι 0 ^ k.toNat)), some (zI (zbu (tb 23 ι) k n 0)), none, none]) dX2_findTune_54 (by decide) rfl ?_
    refine g_iconst (x := 1) rfl dX2_findTune_56 ?_
    refine g_istore (ls' := [some (zR 165), some (zR 23), some (zI k), some (zI n), some (zI (tb 23 ι 0 ^ k.toNat)), some (zI (zbu (tb 23 ι) k n 0)), some (zI 1), none]) dX2_findTune_57 (by decide) rfl ?_
    have hpw := zpw_b (N := tb 23 ι 0) (k := k) (by omega) (by omega)
    have hh := lp_findTune2 (l := l) (D := D) (ad := ad) (L := L) (z := z) hT hN hk hn hD hG 0 (by omega) (by omega)
    rw [hι1]
    exact g_drop (by repeat' constructor) hh
  · refine g_iload (x := (tb 23 ι 0 ^ i.toNat)) rfl dX2_findTune_24 ?_
    refine g_aload_n (x := 23) rfl dX2_findTune_26 ?_
    refine g_get fgX2_57 zcl_5 (congrArg Prod.fst sh_23) (by decide) ig_23_4 dX2_findTune_27 ?_
    rw [← q0]
    refine g_imul dX2_findTune_30 ?_
    refine g_nm (fun x4 hx4 => ?_)
    refine g_istore (ls' := [some (zR 165), some (zR 23), some (zI k), some (zI n), some (zI x4), some (zI i), none, none]) dX2_findTune_31 (by decide) rfl ?_
    refine g_iinc (x := i) (y := i + 1) (ls' := [some (zR 165), some (zR 23), some (zI k), some (zI n), some (zI x4), some (zI (i + 1)), none, none]) dX2_findTune_33 rfl (rfl) (by decide) rfl ?_
    refine g_goto (t := 18) dX2_findTune_36 (by decide) ?_
    have hh := ih (by omega)
    rw [zpw_s h0, ← hx4] at hh
    exact hh

set_option maxRecDepth 100000 in
theorem c_findTune (hT : zTM (tb 23 ι)) (hN : 0 < tb 23 ι 0) {k n : Int} (hk : 1 ≤ k ∧ k ≤ 4) (hn : 1 ≤ n ∧ n ≤ 12) : zCi l (zc D ad L z) mX2_findTune 4 [zR 165, zR 23, zI k, zI n] ι (fun v ι' => v = none ∧ zFs ι ι' ∧ ι' 165 8 = (zft (zbu (tb 23 ι) k n) ((tb 23 ι 0 ^ k.toNat) - 1)).1 / 16 ∧ ι' 165 7 = (zft (zbu (tb 23 ι) k n) ((tb 23 ι 0 ^ k.toNat) - 1)).2) := by
  refine zCt_of (by decide) (Nat.le_of_ble_eq_true rfl) 4 rfl ?_
  obtain ⟨hV, hNB, hH9⟩ := id hT
  obtain ⟨hV0, hV1, hV2, hV3, hV4, hV5, hVk, hVw⟩ := id hV
  have hB := hNB hN
  have q0 := tb_0 23 ι
  have q1 := tb_1 23 ι
  have q2 := tb_2 23 ι
  have q3 := tb_3 23 ι
  have q4 := tb_4 23 ι
  have q5 := tb_5 23 ι
  refine g_aload_n (x := 165) rfl dX2_findTune_0 ?_
  refine g_aload_n (x := 23) rfl dX2_findTune_1 ?_
  refine g_iload_n (x := k) rfl dX2_findTune_2 ?_
  refine g_iload_n (x := n) rfl dX2_findTune_3 ?_
  refine i_callV mvX2_weighPatterns tw_603 (ci := 2) (congrArg Prod.fst sh_165) rfl (by decide) (c_weighPatterns hT hN hk hn) (by decide) (st' := []) rfl (Nat.le_of_ble_eq_true rfl) rfl dX2_findTune_4 (fun v_1 ι1 hq_4 => ?_)
  obtain ⟨rfl, hw1, hw2⟩ := hq_4
  have t1 := zw_tb hw1
  have hF1 : zFs ι ι1 := ⟨fun b x hb => hw1 b x (by omega), fun h => by unfold zCh at h ⊢; rw [hw1 165 3 (by decide), hw1 165 4 (by decide)]; exact h⟩
  refine g_aload_n (x := 165) rfl dX2_findTune_7 ?_
  refine g_aload_n (x := 23) rfl dX2_findTune_8 ?_
  refine i_callV mvX2_gatherHearers tw_613 (ci := 2) (congrArg Prod.fst sh_165) rfl (by decide) (c_gatherHearers (by rw [t1]; exact hT) (by rw [t1]; exact hN)) (by decide) (st' := []) rfl (Nat.le_of_ble_eq_true rfl) rfl dX2_findTune_9 (fun v_2 ι2 hq_9 => ?_)
  obtain ⟨rfl, hg1, hg2⟩ := hq_9
  have t2 := (zh_tb hg1).trans t1
  have hF2 : zFs ι ι2 := zFs.t hF1 ⟨fun b x hb => hg1 b x (by omega), fun h => by unfold zCh at h ⊢; rw [hg1 165 3 (by decide), hg1 165 4 (by decide)]; exact h⟩
  rw [t1] at hg2
  refine g_iconst (x := 1) rfl dX2_findTune_12 ?_
  refine g_istore (ls' := [some (zR 165), some (zR 23), some (zI k), some (zI n), some (zI 1), none, none, none]) dX2_findTune_13 (by decide) rfl ?_
  refine g_iconst (x := 0) rfl dX2_findTune_15 ?_
  refine g_istore (ls' := [some (zR 165), some (zR 23), some (zI k), some (zI n), some (zI 1), some (zI 0), none, none]) dX2_findTune_16 (by decide) rfl ?_
  have hh := lp_findTune1 (l := l) (D := D) (ad := ad) (L := L) (z := z) (ι := ι2) (by rw [t2]; exact hT) (by rw [t2]; exact hN) hk hn (by rw [t2]; intro s p s0 s1 p0 p1; rw [hg1 171 _ (by decide)]; exact hw2 s p s0 s1 p0 p1) (by rw [t2]; exact hg2) 0 (by omega) (by omega)
  rw [t2, show tb 23 ι 0 ^ (0 : Int).toNat = 1 from Int.pow_zero _] at hh
  refine zGi_mono ?_ hh
  rintro v y ⟨y1, y2, y3, y4⟩
  exact ⟨y1, zFs.t hF2 y2, y3, y4⟩

set_option maxRecDepth 100000 in
theorem lp_tunedBeat {x N k j : Int} (hx : 0 ≤ x ∧ x ≤ 5000) (hN : 1 ≤ N ∧ N ≤ 8) (hk : 1 ≤ k ∧ k ≤ 4) (hj : 0 ≤ j ∧ j < k) : ∀ i : Int, 0 ≤ i → i ≤ k - 1 - j → zGi l (zc D ad L z) mX2_tunedBeat 1 11 [some (zR 165), some (zI N), some (zI k), some (zI j), some (zI (x / N ^ i.toNat)), some (zI (k - 1 - i))] [] ι (zP (zI (zdi N x (k - 1 - j))) ι) := by
  refine z_loopI (fun i h0 h1 ih => ?_)
  have hpq := zpw_q (N := N) (i := i) (by omega) hx.1
  have hmx : zmax N 1 = N := by unfold zmax; split <;> omega
  refine g_iload (x := (k - 1 - i)) rfl dX2_tunedBeat_11 ?_
  refine g_iload_n (x := j) rfl dX2_tunedBeat_13 ?_
  refine g_icmp_le ⟨by omega, by omega⟩ ⟨by omega, by omega⟩ (t := 33) dX2_tunedBeat_14 (by decide) (fun h14 => ?_) (fun h14 => ?_)
  · refine g_iload (x := (x / N ^ i.toNat)) rfl dX2_tunedBeat_33 ?_
    refine g_iload_n (x := N) rfl dX2_tunedBeat_35 ?_
    refine g_iconst (x := 1) rfl dX2_tunedBeat_36 ?_
    refine g_mmax ⟨by omega, by omega⟩ (by decide) (by decide) (Nat.le_of_ble_eq_true rfl) tw_610 mq_max2 mq_max3 mq_max4 dX2_tunedBeat_37 ?_
    rw [hmx]
    refine g_irem (by omega) (by omega) (by omega) (by omega) dX2_tunedBeat_40 ?_
    exact i_iret rfl dX2_tunedBeat_41 (⟨by rw [show k - 1 - j = i by omega]; rfl, rfl⟩)
  · refine g_iload (x := (x / N ^ i.toNat)) rfl dX2_tunedBeat_17 ?_
    refine g_iload_n (x := N) rfl dX2_tunedBeat_19 ?_
    refine g_iconst (x := 1) rfl dX2_tunedBeat_20 ?_
    refine g_mmax ⟨by omega, by omega⟩ (by decide) (by decide) (Nat.le_of_ble_eq_true rfl) tw_610 mq_max2 mq_max3 mq_max4 dX2_tunedBeat_21 ?_
    rw [hmx]
    refine g_idiv (by omega) (by omega) (by omega) (by omega) dX2_tunedBeat_24 ?_
    refine g_nm (fun x4 hx4 => ?_)
    refine g_istore (ls' := [some (zR 165), some (zI N), some (zI k), some (zI j), some (zI x4), some (zI (k - 1 - i))]) dX2_tunedBeat_25 (by decide) rfl ?_
    refine g_iinc (x := (k - 1 - i)) (y := k - 1 - i + (-1)) (ls' := [some (zR 165), some (zI N), some (zI k), some (zI j), some (zI x4), some (zI (k - 1 - i + (-1)))]) dX2_tunedBeat_27 rfl (rfl) (by decide) rfl ?_
    refine g_goto (t := 11) dX2_tunedBeat_30 (by decide) ?_
    have hh := ih (by omega)
    rw [zpw_d (by omega) h0, ← hx4, show k - 1 - (i + 1) = k - 1 - i + (-1) by omega] at hh
    exact hh

set_option maxRecDepth 100000 in
theorem c_tunedBeat {N k j : Int} (hx : 0 ≤ ι 165 7 ∧ ι 165 7 ≤ 5000) (hN : 1 ≤ N ∧ N ≤ 8) (hk : 1 ≤ k ∧ k ≤ 4) (hj : 0 ≤ j ∧ j < k) : zCi l (zc D ad L z) mX2_tunedBeat 1 [zR 165, zI N, zI k, zI j] ι (zP (zI (zdi N (ι 165 7) (k - 1 - j))) ι) := by
  refine zCt_of (by decide) (Nat.le_of_ble_eq_true rfl) 2 rfl ?_
  refine g_aload_n (x := 165) rfl dX2_tunedBeat_0 ?_
  refine g_get fgX2_61 zcl_2 (congrArg Prod.fst sh_165) (by decide) ig_165_7 dX2_tunedBeat_1 ?_
  refine g_istore (ls' := [some (zR 165), some (zI N), some (zI k), some (zI j), some (zI (ι 165 7)), none]) dX2_tunedBeat_4 (by decide) rfl ?_
  refine g_iload_n (x := k) rfl dX2_tunedBeat_6 ?_
  refine g_iconst (x := 1) rfl dX2_tunedBeat_7 ?_
  refine g_isub dX2_tunedBeat_8 ?_
  refine g_istore (ls' := [some (zR 165), some (zI N), some (zI k), some (zI j), some (zI (ι 165 7)), some (zI (k - 1))]) dX2_tunedBeat_9 (by decide) rfl ?_
  have hh := lp_tunedBeat (l := l) (D := D) (ad := ad) (L := L) (z := z) (ι := ι) (x := ι 165 7) hx hN hk hj 0 (by omega) (by omega)
  rw [show ι 165 7 / N ^ (0 : Int).toNat = ι 165 7 by rw [show (0 : Int).toNat = 0 from rfl, Int.pow_zero, Int.ediv_one], show k - 1 - 0 = k - 1 by omega] at hh
  exact hh

end
