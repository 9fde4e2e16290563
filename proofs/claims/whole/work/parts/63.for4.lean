section
variable {l : Launch} {D : va_G} {ad : Nat → Nat} {L z : Nat} {ι : zi}
def zcm (R : zr) (n b k : Int) : Int := pasI (ru R (30 + b) k) n 5 - R 5
theorem zcm_b {R : zr} (hz : tz R) (hV : zVT R) (h4 : R 4 ≤ 9999) {n b k : Int} (hn : 0 ≤ n ∧ n ≤ 60) (hb : 0 ≤ b ∧ b < 8) (hk : 0 ≤ k ∧ k < R 0) : -100000 ≤ zcm R n b k ∧ zcm R n b k ≤ 100000 := by
  obtain ⟨g1, -⟩ := pasI_V (ru_tz hz (i := 30 + b) (v := k) (by omega) (by omega)) (zVT_w hV hb hk) (n := n) hn.1 (by rw [ru_n _ (by omega)]; omega)
  have h5 := g1.2.2.2.2.2.1
  have h6 := hV.2.2.2.2.2.1
  unfold zcm
  omega
theorem iur_165_3 {ι : zi} {q : Nat} : zup (zg ι) 165 ((3 : Nat) : Int) (zR q) = zg (iup ι 165 3 (q : Int)) := by
  funext b y
  by_cases hb : b = 165 ∧ y = 3
  · obtain ⟨rfl, rfl⟩ := hb
    rfl
  · show (if b = 165 ∧ y = 3 then _ else _) = _
    rw [if_neg hb]
    simp only [zg, iup, if_neg hb]
theorem iur_165_4 {ι : zi} {q : Nat} : zup (zg ι) 165 ((4 : Nat) : Int) (zR q) = zg (iup ι 165 4 (q : Int)) := by
  funext b y
  by_cases hb : b = 165 ∧ y = 4
  · obtain ⟨rfl, rfl⟩ := hb
    rfl
  · show (if b = 165 ∧ y = 4 then _ else _) = _
    rw [if_neg hb]
    simp only [zg, iup, if_neg hb]
theorem i_putR {C : zC} {M : zMt} {d pc i : Nat} {ls : List (Option zV)} {st : List zV} {Q : Option zV → zi → Prop} {a ci k q : Nat} {ι1 : zi} (hf : zFldW M.1.cls i ci k false (.array .int)) (hc1 : ∀ r, vwCl[ci]? = some r → zClsOk r) (hk : (zsh C a).1 = 10 + ci) (ha : a < 188) (h8 : 8 ≤ a) (hu : zup (zg ι) a (k : Int) (zR q) = zg ι1) (hdg : decode M.2.1 pc = .ok (.putfield i, 3)) (kk : zGi l C M d (pc + 3) ls st ι1 Q) : zGi l C M d pc ls (zR q :: zR a :: st) ι Q :=
  g_put hf hc1 hk ha h8 rfl rfl hdg (by rw [hu]; exact kk)
set_option maxRecDepth 100000 in
theorem lp_findShift1 (hT : zTM (tb 23 ι)) (hN : 0 < tb 23 ι 0) {n : Int} (hn : 1 ≤ n ∧ n ≤ 30) {b : Int} (hb : 0 ≤ b ∧ b < tb 23 ι 1) {S : Int × Int} {Q : Option zV → zi → Prop} (hk : ∀ ι1, zFs ι ι1 → ι1 165 8 = (zfd (zss (zcm (tb 23 ι) n) b) S (tb 23 ι 0)).2 → (-100000 ≤ (zfd (zss (zcm (tb 23 ι) n) b) S (tb 23 ι 0)).2 ∧ (zfd (zss (zcm (tb 23 ι) n) b) S (tb 23 ι 0)).2 ≤ 100000) → zGi l (zc D ad L z) mX2_findShift 6 24 [some (zR 165), some (zR 23), some (zI n), some (zI (zfd (zss (zcm (tb 23 ι) n) b) S (tb 23 ι 0)).1), some (zI (b + 1)), none, none] [] ι1 Q) : ∀ i : Int, 0 ≤ i → i ≤ tb 23 ι 0 → ∀ ι1, zFs ι ι1 → ι1 165 8 = (zfd (zss (zcm (tb 23 ι) n) b) S i).2 → (-100000 ≤ (zfd (zss (zcm (tb 23 ι) n) b) S i).2 ∧ (zfd (zss (zcm (tb 23 ι) n) b) S i).2 ≤ 100000) → zGi l (zc D ad L z) mX2_findShift 6 36 [some (zR 165), some (zR 23), some (zI n), some (zI (zfd (zss (zcm (tb 23 ι) n) b) S i).1), some (zI b), some (zI i), none] [] ι1 (Q) := by
  refine z_loopI (P := fun i => ∀ ι1, zFs ι ι1 → ι1 165 8 = (zfd (zss (zcm (tb 23 ι) n) b) S i).2 → (-100000 ≤ (zfd (zss (zcm (tb 23 ι) n) b) S i).2 ∧ (zfd (zss (zcm (tb 23 ι) n) b) S i).2 ≤ 100000) → _) (fun i h0 h1 ih ι1 hF h8 hAb => ?_)
  obtain ⟨A, hA⟩ : ∃ A, A = (zfd (zss (zcm (tb 23 ι) n) b) S i) := ⟨_, rfl⟩
  rw [← hA] at h8 hAb ⊢
  obtain ⟨hV, hNB, hH9⟩ := id hT
  obtain ⟨hV0, hV1, hV2, hV3, hV4, hV5, hVk, hVw⟩ := id hV
  have hB := hNB hN
  have q0 := tb_0 23 ι
  have q1 := tb_1 23 ι
  have q2 := tb_2 23 ι
  have q3 := tb_3 23 ι
  have q4 := tb_4 23 ι
  have q5 := tb_5 23 ι
  have t23 := zFs_tb hF
  have p0 : ι1 23 4 = tb 23 ι 0 := by rw [← t23, tb_0]
  refine g_iload (x := i) rfl dX2_findShift_36 ?_
  refine g_aload_n (x := 23) rfl dX2_findShift_38 ?_
  refine g_get fgX2_57 zcl_5 (congrArg Prod.fst sh_23) (by decide) ig_23_4 dX2_findShift_39 ?_
  rw [p0]
  refine g_icmp_ge ⟨by omega, by omega⟩ ⟨by omega, by omega⟩ (t := 87) dX2_findShift_42 (by decide) (fun h42 => ?_) (fun h42 => ?_)
  · refine g_iinc (x := b) (y := b + 1) (ls' := [some (zR 165), some (zR 23), some (zI n), some (zI A.1), some (zI (b + 1)), some (zI i), none]) dX2_findShift_87 rfl (rfl) (by decide) rfl ?_
    refine g_goto (t := 24) dX2_findShift_90 (by decide) ?_
    have ei : i = tb 23 ι 0 := by omega
    rw [ei] at hA
    rw [← hA] at hk
    exact g_drop (by repeat' constructor) (hk ι1 hF h8 hAb)
  · have hfb := zcm_b (tb_tz 23 ι) hV hH9 (n := n) (b := b) (k := i) (by omega) (by omega) (by omega)
    have hst : zfd (zss (zcm (tb 23 ι) n) b) S (i + 1) = zss (zcm (tb 23 ι) n) b A i := by rw [zfd_s _ _ h0, hA]
    refine g_aload_n (x := 165) rfl dX2_findShift_45 ?_
    refine g_aload_n (x := 23) rfl dX2_findShift_46 ?_
    refine g_iload (x := b) rfl dX2_findShift_47 ?_
    refine g_iload (x := i) rfl dX2_findShift_49 ?_
    refine g_iload_n (x := n) rfl dX2_findShift_51 ?_
    refine i_callV mvX2_robbedIfMoved tw_635 (ci := 2) (congrArg Prod.fst sh_165) rfl (by decide) (c_robbedIfMoved (by rw [t23]; exact hT) (by rw [t23]; exact hN) (b := b) (s := i) (n := n) (by omega) (by rw [t23]; omega) (by omega)) (by decide) (st' := []) rfl (Nat.le_of_ble_eq_true rfl) rfl dX2_findShift_52 (fun v_1 ι2 hq_52 => ?_)
    obtain ⟨hv, X, hX⟩ := hq_52
    rw [t23] at hv
    have hF2 : zFs ι ι2 := zFs.t hF (by rw [hX]; exact zFs_tp X ι1)
    have o8 : ι2 165 8 = A.2 := by rw [hX, tp_o 166 _ _ (by omega) 8, h8]
    obtain ⟨f, hf⟩ : ∃ f, f = zcm (tb 23 ι) n b i := ⟨_, rfl⟩
    rw [← hf] at hfb
    have hv : v_1 = some (zI f) := by rw [hv, hf]; rfl
    subst hv
    refine g_istore (ls' := [some (zR 165), some (zR 23), some (zI n), some (zI A.1), some (zI b), some (zI i), some (zI f)]) dX2_findShift_55 (by decide) rfl ?_
    refine g_iload (x := f) rfl dX2_findShift_57 ?_
    refine g_aload_n (x := 165) rfl dX2_findShift_59 ?_
    refine g_get fgX2_68 zcl_2 (congrArg Prod.fst sh_165) (by decide) ig_165_8 dX2_findShift_60 ?_
    rw [o8]
    refine g_icmp_ge ⟨by omega, by omega⟩ ⟨by omega, by omega⟩ (t := 81) dX2_findShift_63 (by decide) (fun h63 => ?_) (fun h63 => ?_)
    · refine g_iinc (x := i) (y := i + 1) (ls' := [some (zR 165), some (zR 23), some (zI n), some (zI A.1), some (zI b), some (zI (i + 1)), some (zI f)]) dX2_findShift_81 rfl (rfl) (by decide) rfl ?_
      refine g_goto (t := 36) dX2_findShift_84 (by decide) ?_
      have hh := ih (by omega) ι2 hF2 (by rw [hst, zss_n (by omega)]; exact o8) (by rw [hst, zss_n (by omega)]; exact hAb)
      rw [hst, zss_n (by omega)] at hh
      exact g_drop (by repeat' constructor) hh
    · refine g_aload_n (x := 165) rfl dX2_findShift_66 ?_
      refine g_iload (x := f) rfl dX2_findShift_67 ?_
      obtain ⟨ι3, hι3⟩ : ∃ y_, y_ = iup ι2 165 8 f := ⟨_, rfl⟩
      refine i_put fwX2_68 zcl_2 (congrArg Prod.fst sh_165) (by decide) (by decide) (ι1 := ι3) (by rw [hι3]; exact iu_165_8) dX2_findShift_69 ?_
      refine g_bipush (x := 10) (by decide) dX2_findShift_72 ?_
      refine g_iload (x := b) rfl dX2_findShift_74 ?_
      refine g_imul dX2_findShift_76 ?_
      refine g_iload (x := i) rfl dX2_findShift_77 ?_
      refine g_iadd dX2_findShift_79 ?_
      refine g_nm (fun x3 hx3 => ?_)
      refine g_istore_n (ls' := [some (zR 165), some (zR 23), some (zI n), some (zI x3), some (zI b), some (zI i), some (zI f)]) dX2_findShift_80 (by decide) rfl ?_
      refine g_iinc (x := i) (y := i + 1) (ls' := [some (zR 165), some (zR 23), some (zI n), some (zI x3), some (zI b), some (zI (i + 1)), some (zI f)]) dX2_findShift_81 rfl (rfl) (by decide) rfl ?_
      refine g_goto (t := 36) dX2_findShift_84 (by decide) ?_
      have hh := ih (by omega) ι3 (zFs.t hF2 (by rw [hι3]; exact zFs.up (by omega) (by omega))) (by rw [hst, zss_y (by omega), hι3, iup_s, hf]) (by rw [hst, zss_y (by omega)]; show -100000 ≤ zcm (tb 23 ι) n b i ∧ zcm (tb 23 ι) n b i ≤ 100000; omega)
      rw [hst, zss_y (by omega)] at hh
      rw [hx3]
      exact g_drop (by repeat' constructor) hh

set_option maxRecDepth 100000 in
theorem lp_findShift2 (hT : zTM (tb 23 ι)) (hN : 0 < tb 23 ι 0) {n : Int} (hn : 1 ≤ n ∧ n ≤ 30) : ∀ b : Int, 0 ≤ b → b ≤ tb 23 ι 1 → ∀ ι1, zFs ι ι1 → ι1 165 8 = (zfd (fun s b => zfd (zss (zcm (tb 23 ι) n) b) s (tb 23 ι 0)) ((-1000000, pasI (tb 23 ι) n 5 - tb 23 ι 5) : Int × Int) b).2 → (-100000 ≤ (zfd (fun s b => zfd (zss (zcm (tb 23 ι) n) b) s (tb 23 ι 0)) ((-1000000, pasI (tb 23 ι) n 5 - tb 23 ι 5) : Int × Int) b).2 ∧ (zfd (fun s b => zfd (zss (zcm (tb 23 ι) n) b) s (tb 23 ι 0)) ((-1000000, pasI (tb 23 ι) n 5 - tb 23 ι 5) : Int × Int) b).2 ≤ 100000) → zGi l (zc D ad L z) mX2_findShift 6 24 [some (zR 165), some (zR 23), some (zI n), some (zI (zfd (fun s b => zfd (zss (zcm (tb 23 ι) n) b) s (tb 23 ι 0)) ((-1000000, pasI (tb 23 ι) n 5 - tb 23 ι 5) : Int × Int) b).1), some (zI b), none, none] [] ι1 (fun v ι' => v = some (zI (zsf (zcm (tb 23 ι) n) ((-1000000, pasI (tb 23 ι) n 5 - tb 23 ι 5) : Int × Int) (tb 23 ι 0) (tb 23 ι 1)).1) ∧ zFs ι ι' ∧ ι' 165 8 = (zsf (zcm (tb 23 ι) n) ((-1000000, pasI (tb 23 ι) n 5 - tb 23 ι 5) : Int × Int) (tb 23 ι 0) (tb 23 ι 1)).2) := by
  refine z_loopI (P := fun b => ∀ ι1, zFs ι ι1 → ι1 165 8 = (zfd (fun s b => zfd (zss (zcm (tb 23 ι) n) b) s (tb 23 ι 0)) ((-1000000, pasI (tb 23 ι) n 5 - tb 23 ι 5) : Int × Int) b).2 → (-100000 ≤ (zfd (fun s b => zfd (zss (zcm (tb 23 ι) n) b) s (tb 23 ι 0)) ((-1000000, pasI (tb 23 ι) n 5 - tb 23 ι 5) : Int × Int) b).2 ∧ (zfd (fun s b => zfd (zss (zcm (tb 23 ι) n) b) s (tb 23 ι 0)) ((-1000000, pasI (tb 23 ι) n 5 - tb 23 ι 5) : Int × Int) b).2 ≤ 100000) → _) (fun b h0 h1 ih ι1 hF h8 hAb => ?_)
  obtain ⟨A, hA⟩ : ∃ A, A = (zfd (fun s b => zfd (zss (zcm (tb 23 ι) n) b) s (tb 23 ι 0)) ((-1000000, pasI (tb 23 ι) n 5 - tb 23 ι 5) : Int × Int) b) := ⟨_, rfl⟩
  rw [← hA] at h8 hAb ⊢
  obtain ⟨hV, hNB, hH9⟩ := id hT
  obtain ⟨hV0, hV1, hV2, hV3, hV4, hV5, hVk, hVw⟩ := id hV
  have hB := hNB hN
  have q0 := tb_0 23 ι
  have q1 := tb_1 23 ι
  have q2 := tb_2 23 ι
  have q3 := tb_3 23 ι
  have q4 := tb_4 23 ι
  have q5 := tb_5 23 ι
  have t23 := zFs_tb hF
  have p1 : ι1 23 5 = tb 23 ι 1 := by rw [← t23, tb_1]
  refine g_iload (x := b) rfl dX2_findShift_24 ?_
  refine g_aload_n (x := 23) rfl dX2_findShift_26 ?_
  refine g_get fgX2_115 zcl_5 (congrArg Prod.fst sh_23) (by decide) ig_23_5 dX2_findShift_27 ?_
  rw [p1]
  refine g_icmp_ge ⟨by omega, by omega⟩ ⟨by omega, by omega⟩ (t := 93) dX2_findShift_30 (by decide) (fun h30 => ?_) (fun h30 => ?_)
  · refine g_iload_n (x := A.1) rfl dX2_findShift_93 ?_
    exact i_iret rfl dX2_findShift_94 (⟨by rw [hA, show b = tb 23 ι 1 by omega]; rfl, hF, by rw [h8, hA, show b = tb 23 ι 1 by omega]; rfl⟩)
  · refine g_iconst (x := 0) rfl dX2_findShift_33 ?_
    refine g_istore (ls' := [some (zR 165), some (zR 23), some (zI n), some (zI A.1), some (zI b), some (zI 0), none]) dX2_findShift_34 (by decide) rfl ?_
    have hh := lp_findShift1 (l := l) (D := D) (ad := ad) (L := L) (z := z) hT hN hn (b := b) (by omega) (S := A) (Q := fun v ι' => v = some (zI (zsf (zcm (tb 23 ι) n) ((-1000000, pasI (tb 23 ι) n 5 - tb 23 ι 5) : Int × Int) (tb 23 ι 0) (tb 23 ι 1)).1) ∧ zFs ι ι' ∧ ι' 165 8 = (zsf (zcm (tb 23 ι) n) ((-1000000, pasI (tb 23 ι) n 5 - tb 23 ι 5) : Int × Int) (tb 23 ι 0) (tb 23 ι 1)).2) (fun ι2 k1 k2 k3 => by have := ih (by omega) ι2 k1; rw [zfd_s _ _ h0, ← hA] at this; exact this k2 k3) 0 (by omega) (by omega) ι1 hF (by rw [zfd_0]; exact h8) (by rw [zfd_0]; exact hAb)
    rw [zfd_0] at hh
    exact hh

set_option maxRecDepth 100000 in
theorem c_findShift (hT : zTM (tb 23 ι)) (hN : 0 < tb 23 ι 0) {n : Int} (hn : 1 ≤ n ∧ n ≤ 30) : zCi l (zc D ad L z) mX2_findShift 6 [zR 165, zR 23, zI n] ι (fun v ι' => v = some (zI (zsf (zcm (tb 23 ι) n) ((-1000000, pasI (tb 23 ι) n 5 - tb 23 ι 5) : Int × Int) (tb 23 ι 0) (tb 23 ι 1)).1) ∧ zFs ι ι' ∧ ι' 165 8 = (zsf (zcm (tb 23 ι) n) ((-1000000, pasI (tb 23 ι) n 5 - tb 23 ι 5) : Int × Int) (tb 23 ι 0) (tb 23 ι 1)).2) := by
  refine zCt_of (by decide) (Nat.le_of_ble_eq_true rfl) 4 rfl ?_
  obtain ⟨hV, hNB, hH9⟩ := id hT
  obtain ⟨hV0, hV1, hV2, hV3, hV4, hV5, hVk, hVw⟩ := id hV
  have hB := hNB hN
  have q0 := tb_0 23 ι
  have q1 := tb_1 23 ι
  have q2 := tb_2 23 ι
  have q3 := tb_3 23 ι
  have q4 := tb_4 23 ι
  have q5 := tb_5 23 ι
  obtain ⟨g1, g2, g3, g4, -⟩ := pasI_V (tb_tz 23 ι) hV (n := n) (by omega) (by omega)
  have g5 := g1.2.2.2.2.2.1
  refine g_aload_n (x := 165) rfl dX2_findShift_0 ?_
  refine g_aload_n (x := 165) rfl dX2_findShift_1 ?_
  refine g_aload_n (x := 23) rfl dX2_findShift_2 ?_
  refine g_iload_n (x := n) rfl dX2_findShift_3 ?_
  refine i_callV mvX2_townIn tw_634 (ci := 2) (congrArg Prod.fst sh_165) rfl (by decide) (c_townIn hT hN (n := n) (by omega)) (by decide) (st' := [zR 165]) rfl (Nat.le_of_ble_eq_true rfl) rfl dX2_findShift_4 (fun v_1 ι1 hq_4 => ?_)
  obtain ⟨rfl, hι1⟩ := hq_4
  have o9 : ι1 166 9 = pasI (tb 23 ι) n 5 := by rw [hι1, tp_s 166 _ _ (by decide) (by decide)]; rfl
  have o23 : ι1 23 9 = tb 23 ι 5 := by rw [hι1, tp_o 166 _ _ (by omega) 9, q5]
  refine g_get fgX2_112 zcl_5 (congrArg Prod.fst sh_166) (by decide) ig_166_9 dX2_findShift_7 ?_
  refine g_aload_n (x := 23) rfl dX2_findShift_10 ?_
  refine g_get fgX2_112 zcl_5 (congrArg Prod.fst sh_23) (by decide) ig_23_9 dX2_findShift_11 ?_
  rw [o9, o23]
  refine g_isub dX2_findShift_14 ?_
  obtain ⟨ι2, hι2⟩ : ∃ y_, y_ = iup ι1 165 8 ((pasI (tb 23 ι) n 5) - (tb 23 ι 5)) := ⟨_, rfl⟩
  refine i_put fwX2_68 zcl_2 (congrArg Prod.fst sh_165) (by decide) (by decide) (ι1 := ι2) (by rw [hι2]; exact iu_165_8) dX2_findShift_15 ?_
  refine g_ldc (x := -1000000) tw_585 (by decide) dX2_findShift_18 ?_
  refine g_istore_n (ls' := [some (zR 165), some (zR 23), some (zI n), some (zI (-1000000)), none, none, none]) dX2_findShift_20 (by decide) rfl ?_
  refine g_iconst (x := 0) rfl dX2_findShift_21 ?_
  refine g_istore (ls' := [some (zR 165), some (zR 23), some (zI n), some (zI (-1000000)), some (zI 0), none, none]) dX2_findShift_22 (by decide) rfl ?_
  have hF : zFs ι ι2 := zFs.t (by rw [hι1]; exact zFs_tp _ ι : zFs ι ι1) (by rw [hι2]; exact zFs.up (by omega) (by omega))
  have hh := lp_findShift2 (l := l) (D := D) (ad := ad) (L := L) (z := z) hT hN hn 0 (by omega) (by omega) ι2 hF (by rw [zfd_0, hι2, iup_s]) (by rw [zfd_0]; show -100000 ≤ pasI (tb 23 ι) n 5 - tb 23 ι 5 ∧ pasI (tb 23 ι) n 5 - tb 23 ι 5 ≤ 100000; omega)
  rw [zfd_0] at hh
  exact hh

/-! chances -/
def znx (K h hr c : Int) (v : Int → Int) (w : Int → Int) (d : Int) : Int → Int := ru (ru w (zdeep K d h hr) (w (zdeep K d h hr) + v d * (10 - c))) (zdeep K d 0 hr) (ru w (zdeep K d h hr) (w (zdeep K d h hr) + v d * (10 - c)) (zdeep K d 0 hr) + v d * c)
def znv (K h hr c : Int) (v : Int → Int) : Int → Int := zfd (znx K h hr c v) (fun _ => 0) 21
def zpa (q : Nat) (w : Int → Int) (ι : zi) : zi := fun b x => if b = q ∧ 0 ≤ x ∧ x < 21 then w x else ι b x
theorem zpa_i {q : Nat} {w : Int → Int} {ι : zi} {x : Int} (h0 : 0 ≤ x) (h1 : x < 21) : zpa q w ι q x = w x := if_pos ⟨rfl, h0, h1⟩
theorem zpa_o {q b : Nat} {w : Int → Int} {ι : zi} {x : Int} (h : b ≠ q) : zpa q w ι b x = ι b x := if_neg (fun g => h g.1)
theorem zpa_up {q : Nat} {w : Int → Int} {ι : zi} {e v : Int} (h0 : 0 ≤ e) (h1 : e < 21) : iup (zpa q w ι) q e v = zpa q (ru w e v) ι := by
  funext b y
  unfold iup zpa ru
  (repeat' split) <;> first | rfl | (exfalso; omega)
theorem zpa_0 {q : Nat} {ι : zi} : ifill ι q 0 21 = zpa q (fun _ => 0) ι := rfl
theorem zpa_c {q : Nat} {w w' : Int → Int} {ι : zi} (h : ∀ x, 0 ≤ x → x < 21 → w x = w' x) : zpa q w ι = zpa q w' ι := by
  funext b y
  unfold zpa
  split
  · rename_i g; exact h y g.2.1 g.2.2
  · rfl
theorem znx_c {K h hr c : Int} {v v' w w' : Int → Int} {d : Int} (hv : v d = v' d) (hw : w = w') : znx K h hr c v w d = znx K h hr c v' w' d := by
  unfold znx
  rw [hv, hw]
def zPQ (p q : Nat) : Prop := (p = 173 ∧ q = 174) ∨ (p = 174 ∧ q = 173)
theorem zPQ.p {p q : Nat} (h : zPQ p q) : zSl.getD p (0, 0) = (1, 21) := by rcases h with ⟨g, -⟩ | ⟨g, -⟩ <;> rw [g] <;> rfl
theorem zPQ.q {p q : Nat} (h : zPQ p q) : zSl.getD q (0, 0) = (1, 21) := by rcases h with ⟨-, g⟩ | ⟨-, g⟩ <;> rw [g] <;> rfl
theorem zPQ.b {p q : Nat} (h : zPQ p q) : (173 ≤ p ∧ p ≤ 174) ∧ (173 ≤ q ∧ q ≤ 174) ∧ p ≠ q := by unfold zPQ at h; omega
set_option maxRecDepth 100000 in
theorem lp_takeChances {p q : Nat} (hpq : zPQ p q) (h3 : ι 165 3 = (p : Int)) (h4 : ι 165 4 = (q : Int)) {K h hr c : Int} (hK : 1 ≤ K ∧ K ≤ 5) (hh1 : h = 0 ∨ h = 1) (hr0 : 0 ≤ hr ∧ hr < 100000) (hc : 0 ≤ c ∧ c ≤ 10) : ∀ i : Int, 0 ≤ i → i ≤ 21 → zGi l (zc D ad L z) mX2_takeChances 2 11 [some (zR 165), some (zI K), some (zI h), some (zI hr), some (zI c), some (zI i)] [] (zpa q (zfd (znx K h hr c (ι p)) (fun _ => 0) i) ι) (fun v ι' => v = none ∧ ι' = iup (iup (zpa q (znv K h hr c (ι p)) ι) 165 3 (q : Int)) 165 4 (p : Int)) := by
  refine z_loopI (fun i h0 h1 ih => ?_)
  obtain ⟨ι1, hι1⟩ : ∃ y, y = zpa q (zfd (znx K h hr c (ι p)) (fun _ => 0) i) ι := ⟨_, rfl⟩
  rw [← hι1]
  have hb := zPQ.b hpq
  have a3 : ι1 165 3 = (p : Int) := by rw [hι1, zpa_o (by omega), h3]
  have a4 : ι1 165 4 = (q : Int) := by rw [hι1, zpa_o (by omega), h4]
  have dd := zdeep_b K i h hr
  have d0 := zdeep_b K i 0 hr
  refine g_iload (x := i) rfl dX2_takeChances_11 ?_
  refine g_bipush (x := 20) (by decide) dX2_takeChances_13 ?_
  refine g_icmp_gt ⟨by omega, by omega⟩ (by decide) (t := 79) dX2_takeChances_15 (by decide) (fun h15 => ?_) (fun h15 => ?_)
  · refine g_aload_n (x := 165) rfl dX2_takeChances_79 ?_
    refine g_get fgX2_25 zcl_2 (congrArg Prod.fst sh_165) (by decide) rg_165_3 dX2_takeChances_80 ?_
    rw [show (ι1 165 3).toNat = p by omega]
    refine g_astore (ls' := [some (zR 165), some (zI K), some (zI h), some (zI hr), some (zI c), some (zR p)]) dX2_takeChances_83 (by decide) rfl ?_
    refine g_aload_n (x := 165) rfl dX2_takeChances_85 ?_
    refine g_aload_n (x := 165) rfl dX2_takeChances_86 ?_
    refine g_get fgX2_28 zcl_2 (congrArg Prod.fst sh_165) (by decide) rg_165_4 dX2_takeChances_87 ?_
    rw [show (ι1 165 4).toNat = q by omega]
    obtain ⟨ι4, hι4⟩ : ∃ y_, y_ = iup ι1 165 3 ((q : Nat) : Int) := ⟨_, rfl⟩
    refine i_putR fwX2_25 zcl_2 (congrArg Prod.fst sh_165) (by decide) (by decide) (ι1 := ι4) (by rw [hι4]; exact iur_165_3) dX2_takeChances_90 ?_
    refine g_aload_n (x := 165) rfl dX2_takeChances_93 ?_
    refine g_aload (x := p) rfl dX2_takeChances_94 ?_
    obtain ⟨ι5, hι5⟩ : ∃ y_, y_ = iup ι4 165 4 ((p : Nat) : Int) := ⟨_, rfl⟩
    refine i_putR fwX2_28 zcl_2 (congrArg Prod.fst sh_165) (by decide) (by decide) (ι1 := ι5) (by rw [hι5]; exact iur_165_4) dX2_takeChances_96 ?_
    exact i_ret rfl dX2_takeChances_99 (⟨rfl, by rw [hι5, hι4, hι1, show i = 21 by omega]; rfl⟩)
  · refine g_aload_n (x := 165) rfl dX2_takeChances_18 ?_
    refine g_get fgX2_28 zcl_2 (congrArg Prod.fst sh_165) (by decide) rg_165_4 dX2_takeChances_19 ?_
    rw [show (ι1 165 4).toNat = q by omega]
    refine g_iload_n (x := K) rfl dX2_takeChances_22 ?_
    refine g_iload (x := i) rfl dX2_takeChances_23 ?_
    refine g_iload_n (x := h) rfl dX2_takeChances_25 ?_
    refine g_iload_n (x := hr) rfl dX2_takeChances_26 ?_
    refine i_callSp msX5_deepAfter tw_612 (c_deepAfter ⟨by omega, by omega⟩ (by omega) ⟨by omega, by omega⟩ (by omega)) (by decide) (st' := [zR q]) rfl (Nat.le_of_ble_eq_true rfl) rfl dX2_takeChances_27 ?_
    refine g_dup2 dX2_takeChances_30 ?_
    refine g_iald (sh_arr (zPQ.q hpq) (by omega)) (by omega) (by omega) (by omega) (by omega) (zg_arr (zPQ.q hpq)) dX2_takeChances_31 ?_
    refine g_aload_n (x := 165) rfl dX2_takeChances_32 ?_
    refine g_get fgX2_25 zcl_2 (congrArg Prod.fst sh_165) (by decide) rg_165_3 dX2_takeChances_33 ?_
    rw [show (ι1 165 3).toNat = p by omega]
    refine g_iload (x := i) rfl dX2_takeChances_36 ?_
    refine g_iald (sh_arr (zPQ.p hpq) (by omega)) (by omega) (by omega) (by omega) (by omega) (zg_arr (zPQ.p hpq)) dX2_takeChances_38 ?_
    refine g_bipush (x := 10) (by decide) dX2_takeChances_39 ?_
    refine g_iload (x := c) rfl dX2_takeChances_41 ?_
    refine g_isub dX2_takeChances_43 ?_
    refine g_imul dX2_takeChances_44 ?_
    refine g_iadd dX2_takeChances_45 ?_
    obtain ⟨ι2, hι2⟩ : ∃ y_, y_ = iup ι1 q (zdeep K i h hr) ((ι1 q (zdeep K i h hr)) + ((ι1 p i) * (10 - c))) := ⟨_, rfl⟩
    refine i_iast (sh_arr (zPQ.q hpq) (by omega)) (by omega) (by omega) (by omega) (by omega) (by omega) (ι1 := ι2) (by rw [hι2]; exact (zg_arr_up (zPQ.q hpq))) dX2_takeChances_46 ?_
    have b3 : ι2 165 3 = (p : Int) := by rw [hι2, iup_n _ (by omega), a3]
    have b4 : ι2 165 4 = (q : Int) := by rw [hι2, iup_n _ (by omega), a4]
    refine g_aload_n (x := 165) rfl dX2_takeChances_47 ?_
    refine g_get fgX2_28 zcl_2 (congrArg Prod.fst sh_165) (by decide) rg_165_4 dX2_takeChances_48 ?_
    rw [show (ι2 165 4).toNat = q by omega]
    refine g_iload_n (x := K) rfl dX2_takeChances_51 ?_
    refine g_iload (x := i) rfl dX2_takeChances_52 ?_
    refine g_iconst (x := 0) rfl dX2_takeChances_54 ?_
    refine g_iload_n (x := hr) rfl dX2_takeChances_55 ?_
    refine i_callSp msX5_deepAfter tw_612 (c_deepAfter ⟨by omega, by omega⟩ (by omega) (by decide) (by omega)) (by decide) (st' := [zR q]) rfl (Nat.le_of_ble_eq_true rfl) rfl dX2_takeChances_56 ?_
    refine g_dup2 dX2_takeChances_59 ?_
    refine g_iald (sh_arr (zPQ.q hpq) (by omega)) (by omega) (by omega) (by omega) (by omega) (zg_arr (zPQ.q hpq)) dX2_takeChances_60 ?_
    refine g_aload_n (x := 165) rfl dX2_takeChances_61 ?_
    refine g_get fgX2_25 zcl_2 (congrArg Prod.fst sh_165) (by decide) rg_165_3 dX2_takeChances_62 ?_
    rw [show (ι2 165 3).toNat = p by omega]
    refine g_iload (x := i) rfl dX2_takeChances_65 ?_
    refine g_iald (sh_arr (zPQ.p hpq) (by omega)) (by omega) (by omega) (by omega) (by omega) (zg_arr (zPQ.p hpq)) dX2_takeChances_67 ?_
    refine g_iload (x := c) rfl dX2_takeChances_68 ?_
    refine g_imul dX2_takeChances_70 ?_
    refine g_iadd dX2_takeChances_71 ?_
    obtain ⟨ι3, hι3⟩ : ∃ y_, y_ = iup ι2 q (zdeep K i 0 hr) ((ι2 q (zdeep K i 0 hr)) + ((ι2 p i) * c)) := ⟨_, rfl⟩
    refine i_iast (sh_arr (zPQ.q hpq) (by omega)) (by omega) (by omega) (by omega) (by omega) (by omega) (ι1 := ι3) (by rw [hι3]; exact (zg_arr_up (zPQ.q hpq))) dX2_takeChances_72 ?_
    refine g_iinc (x := i) (y := i + 1) (ls' := [some (zR 165), some (zI K), some (zI h), some (zI hr), some (zI c), some (zI (i + 1))]) dX2_takeChances_73 rfl (rfl) (by decide) rfl ?_
    refine g_goto (t := 11) dX2_takeChances_76 (by decide) ?_
    have hh := ih (by omega)
    rw [zfd_s _ _ h0] at hh
    have r1 : ι1 q (zdeep K i h hr) = (zfd (znx K h hr c (ι p)) (fun _ => 0) i) (zdeep K i h hr) := by rw [hι1, zpa_i (by omega) (by omega)]
    have r2 : ι1 p i = ι p i := by rw [hι1, zpa_o (by omega)]
    have r4 : ι2 = zpa q (ru (zfd (znx K h hr c (ι p)) (fun _ => 0) i) (zdeep K i h hr) ((zfd (znx K h hr c (ι p)) (fun _ => 0) i) (zdeep K i h hr) + ι p i * (10 - c))) ι := by rw [hι2, r1, r2, hι1, zpa_up (by omega) (by omega)]
    have r3 : ι2 p i = ι p i := by rw [r4, zpa_o (by omega)]
    have e3 : ι3 = zpa q (znx K h hr c (ι p) (zfd (znx K h hr c (ι p)) (fun _ => 0) i) i) ι := by
      rw [hι3, r3, r4, zpa_i (by omega) (by omega), zpa_up (by omega) (by omega)]
      rfl
    rw [e3]
    exact hh

set_option maxRecDepth 100000 in
theorem c_takeChances {p q : Nat} (hpq : zPQ p q) (h3 : ι 165 3 = (p : Int)) (h4 : ι 165 4 = (q : Int)) {K h hr c : Int} (hK : 1 ≤ K ∧ K ≤ 5) (hh1 : h = 0 ∨ h = 1) (hr0 : 0 ≤ hr ∧ hr < 100000) (hc : 0 ≤ c ∧ c ≤ 10) : zCi l (zc D ad L z) mX2_takeChances 2 [zR 165, zI K, zI h, zI hr, zI c] ι (fun v ι' => v = none ∧ ι' = iup (iup (zpa q (znv K h hr c (ι p)) ι) 165 3 (q : Int)) 165 4 (p : Int)) := by
  refine zCt_of (by decide) (Nat.le_of_ble_eq_true rfl) 1 rfl ?_
  have hb := zPQ.b hpq
  refine g_aload_n (x := 165) rfl dX2_takeChances_0 ?_
  refine g_get fgX2_28 zcl_2 (congrArg Prod.fst sh_165) (by decide) rg_165_4 dX2_takeChances_1 ?_
  rw [show (ι 165 4).toNat = q by omega]
  refine g_iconst (x := 0) rfl dX2_takeChances_4 ?_
  refine i_callS msJ7_fill_53178 tw_720 (c_fill (zPQ.q hpq) (by omega) (by omega) (by decide)) (by decide) (st' := []) rfl (Nat.le_of_ble_eq_true rfl) rfl dX2_takeChances_5 (fun v_1 ι1 hq_5 => ?_)
  obtain ⟨rfl, hι1⟩ := hq_5
  refine g_iconst (x := 0) rfl dX2_takeChances_8 ?_
  refine g_istore (ls' := [some (zR 165), some (zI K), some (zI h), some (zI hr), some (zI c), some (zI 0)]) dX2_takeChances_9 (by decide) rfl ?_
  have hh := lp_takeChances (l := l) (D := D) (ad := ad) (L := L) (z := z) hpq h3 h4 hK hh1 hr0 hc 0 (by omega) (by omega)
  rw [zfd_0, ← zpa_0] at hh
  rw [hι1]
  exact hh

end
