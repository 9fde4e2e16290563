section
variable {l : Launch} {D : va_G} {ad : Nat → Nat} {L z : Nat} {ι : zi}
theorem wp_iup {r : Int} {R : zr} {ι : zi} {a : Nat} {x v : Int} (h : a ≠ 179) : wp r R (iup ι a x v) = iup (wp r R ι) a x v := by
  funext b y
  simp only [wp, iup]
  (repeat' split) <;> first | rfl | (exfalso; omega)
theorem paM_tz {R : zr} (h : tz R) {i : Int} (h1 : i ≤ 8) : tz (paM R i) := fun j hj => by
  rw [paM_o (by omega) (by omega)]
  exact h j hj
/-- what a partly passed row keeps of what the rules for it look at -/
theorem paM_hr {R : zr} {i k : Int} (hi : i ≤ 8) (hB : 0 < R 1) (hB8 : R 1 ≤ 8) (hH : 0 ≤ R 4) : zhr (paM R i) k = zhr R k := by
  have hm0 := Int.emod_nonneg (R 4) (show R 1 ≠ 0 by omega)
  have hm1 := Int.emod_lt_of_pos (R 4) hB
  unfold zhr
  rw [paM_o (j := 4) (by omega) (by omega), paM_o (j := 1) (by omega) (by omega), paM_o (j := 2) (by omega) (by omega), paM_o (j := 30 + R 4 % R 1) (by omega) (by omega)]
theorem paM_V {R : zr} (hV : zVT R) {i : Int} (h0 : 0 ≤ i) (h1 : i ≤ R 0) : zVT (paM R i) := by
  have hb := fun k h0 h1 => zstR_b hV (k := k) h0 h1
  obtain ⟨hV0, hV1, hV2, hV3, hV4, hV5, hVk, hVw⟩ := hV
  have e0 : paM R i 0 = R 0 := paM_o (by omega) (by omega)
  have e1 : paM R i 1 = R 1 := paM_o (by omega) (by omega)
  refine ⟨by rw [e0]; exact hV0, by rw [e1]; exact hV1, by rw [paM_o (by omega) (by omega)]; exact hV2, by rw [paM_o (by omega) (by omega)]; exact hV3, by rw [paM_o (by omega) (by omega)]; exact hV4, by rw [paM_o (by omega) (by omega)]; exact hV5, fun k q0 q1 => ?_, fun b q0 q1 => ?_⟩
  · rw [e0] at q1
    have h3 := hVk k q0 q1
    rw [paM_o (j := 6 + k) (by omega) (by omega)]
    refine ⟨h3.1, ?_, ?_⟩
    · by_cases g : k < i
      · have e : paM R i (14 + k) = zdeep (R (14 + k - 8)) (R (14 + k)) (zhr R (14 + k - 14)) (R 4) := by unfold paM; rw [if_pos (by omega)]
        rw [e]
        exact zdeep_b _ _ _ _
      · rw [paM_o (by omega) (by omega)]; exact h3.2.1
    · by_cases g : k < i
      · have e : paM R i (22 + k) = R (22 + k) - zstR R (22 + k - 22) := by unfold paM; rw [if_neg (by omega), if_pos (by omega)]
        have h4 := hb k q0 q1
        rw [e, show 22 + k - 22 = k by omega]
        omega
      · rw [paM_o (by omega) (by omega)]; exact h3.2.2
  · rw [e1] at q1
    rw [paM_o (by omega) (by omega), e0]
    exact hVw b q0 q1
theorem paM_st {R : zr} {i : Int} (h0 : 0 ≤ i) (hi : i < 8) (hB : 0 < R 1) (hB8 : R 1 ≤ 8) (hH : 0 ≤ R 4) : zstR (paM R i) i = zstR R i := by
  unfold zstR
  rw [paM_hr (by omega) hB hB8 hH, paM_o (j := 14 + i) (by omega) (by omega), paM_o (j := 22 + i) (by omega) (by omega), paM_o (j := 3) (by omega) (by omega)]
set_option maxRecDepth 100000 in
theorem lp_passes {r : Int} (hr : 0 ≤ r ∧ r + 38 ≤ 1102) (hV : zVT (wb r ι)) (hB : 0 < wb r ι 1) : ∀ i : Int, 0 ≤ i → i ≤ wb r ι 0 → zGi l (zc D ad L z) mX7_passes 3 4 [some (zR 178), some (zI r), some (zI (zsum (zstR (wb r ι)) i)), some (zI i), none] [] (wp r (paM (wb r ι) i) ι) (fun v ι' => v = none ∧ ι' = wp r (passR (wb r ι)) ι) := by
  refine z_loopI (fun i h0 h1 ih => ?_)
  obtain ⟨ι1, hι1⟩ : ∃ y, y = wp r (paM (wb r ι) i) ι := ⟨_, rfl⟩
  rw [← hι1]
  obtain ⟨hV0, hV1, hV2, hV3, hV4, hV5, hVk, hVw⟩ := id hV
  have hz := paM_tz (wb_tz r ι) (i := i) (by omega)
  have eb : wb r ι1 = paM (wb r ι) i := by rw [hι1, wb_wp r hz]
  have q0 : ι1 179 (r + 0) = wb r ι 0 := by rw [hι1, wp_i r _ _ (by decide) (by decide)]; exact paM_o (by omega) (by omega)
  refine g_iload_n (x := i) rfl dX7_passes_4 ?_
  refine g_aload_n (x := 178) rfl dX7_passes_5 ?_
  refine g_get fgX7_7 zcl_7 (congrArg Prod.fst sh_178) (by decide) rg_178_0 dX7_passes_6 ?_
  refine g_iload_n (x := r) rfl dX7_passes_9 ?_
  refine g_iconst (x := 0) rfl dX7_passes_10 ?_
  refine g_iadd dX7_passes_11 ?_
  refine g_iald sh_179 (by decide) (by omega) (by omega) (by decide) ag_179 dX7_passes_12 ?_
  rw [q0]
  refine g_icmp_ge ⟨by omega, by omega⟩ ⟨by omega, by omega⟩ (t := 101) dX7_passes_13 (by decide) (fun h13 => ?_) (fun h13 => ?_)
  · have ei : i = wb r ι 0 := by omega
    have hb5 := zsum_b (zstR (wb r ι)) (i := wb r ι 0) (M := 9) hV0.1 (fun k g0 g1 => ⟨(zstR_b hV g0 g1).1, (zstR_b hV g0 g1).2.2⟩)
    have q5 : ι1 179 (r + 5) = wb r ι 5 := by rw [hι1, wp_i r _ _ (by decide) (by decide)]; exact paM_o (by omega) (by omega)
    rw [ei]
    refine g_aload_n (x := 178) rfl dX7_passes_101 ?_
    refine g_get fgX7_7 zcl_7 (congrArg Prod.fst sh_178) (by decide) rg_178_0 dX7_passes_102 ?_
    refine g_iload_n (x := r) rfl dX7_passes_105 ?_
    refine g_iconst (x := 5) rfl dX7_passes_106 ?_
    refine g_iadd dX7_passes_107 ?_
    refine g_aload_n (x := 178) rfl dX7_passes_108 ?_
    refine g_get fgX7_7 zcl_7 (congrArg Prod.fst sh_178) (by decide) rg_178_0 dX7_passes_109 ?_
    refine g_iload_n (x := r) rfl dX7_passes_112 ?_
    refine g_iconst (x := 5) rfl dX7_passes_113 ?_
    refine g_iadd dX7_passes_114 ?_
    refine g_iald sh_179 (by decide) (by omega) (by omega) (by decide) ag_179 dX7_passes_115 ?_
    refine g_iload_n (x := (zsum (zstR (wb r ι)) (wb r ι 0))) rfl dX7_passes_116 ?_
    refine g_iadd dX7_passes_117 ?_
    refine g_ldc (x := 99999) tw_993 (by decide) dX7_passes_118 ?_
    rw [q5]
    refine g_icmp_le ⟨by omega, by omega⟩ (by decide) (t := 128) dX7_passes_120 (by decide) (fun h120 => ?_) (fun h120 => ?_)
    · refine g_aload_n (x := 178) rfl dX7_passes_128 ?_
      refine g_get fgX7_7 zcl_7 (congrArg Prod.fst sh_178) (by decide) rg_178_0 dX7_passes_129 ?_
      refine g_iload_n (x := r) rfl dX7_passes_132 ?_
      refine g_iconst (x := 5) rfl dX7_passes_133 ?_
      refine g_iadd dX7_passes_134 ?_
      refine g_iald sh_179 (by decide) (by omega) (by omega) (by decide) ag_179 dX7_passes_135 ?_
      refine g_iload_n (x := (zsum (zstR (wb r ι)) (wb r ι 0))) rfl dX7_passes_136 ?_
      refine g_iadd dX7_passes_137 ?_
      rw [q5]
      have ez : (wb r ι 5) + (zsum (zstR (wb r ι)) (wb r ι 0)) = zmin (wb r ι 5 + zsum (zstR (wb r ι)) (wb r ι 0)) 99999 := by unfold zmin; split <;> omega
      rw [ez]
      obtain ⟨ι4, hι4⟩ : ∃ y, y = iup ι1 179 (r + 5) (zmin (wb r ι 5 + zsum (zstR (wb r ι)) (wb r ι 0)) 99999) := ⟨_, rfl⟩
      refine i_iast sh_179 (by decide) (by decide) (by omega) (by omega) (by decide) (ι1 := ι4) (by rw [hι4]; exact au_179) dX7_passes_138 ?_
      refine g_aload_n (x := 178) rfl dX7_passes_139 ?_
      refine g_get fgX7_7 zcl_7 (congrArg Prod.fst sh_178) (by decide) rg_178_0 dX7_passes_140 ?_
      refine g_iload_n (x := r) rfl dX7_passes_143 ?_
      refine g_iconst (x := 4) rfl dX7_passes_144 ?_
      refine g_iadd dX7_passes_145 ?_
      refine g_dup2 dX7_passes_146 ?_
      refine g_iald sh_179 (by decide) (by omega) (by omega) (by decide) ag_179 dX7_passes_147 ?_
      refine g_iconst (x := 1) rfl dX7_passes_148 ?_
      refine g_iadd dX7_passes_149 ?_
      have q4 : ι4 179 (r + 4) = wb r ι 4 := by rw [hι4, iup_n _ (Or.inr (by omega)), hι1, wp_i r _ _ (by decide) (by decide)]; exact paM_o (by omega) (by omega)
      rw [q4]
      obtain ⟨ι5, hι5⟩ : ∃ y, y = iup ι4 179 (r + 4) ((wb r ι 4) + 1) := ⟨_, rfl⟩
      refine i_iast sh_179 (by decide) (by decide) (by omega) (by omega) (by decide) (ι1 := ι5) (by rw [hι5]; exact au_179) dX7_passes_150 ?_
      exact i_ret rfl dX7_passes_151 (⟨rfl, by
      rw [hι5, hι4, hι1, ei, wp_up r _ _ (i := 5) rfl (by decide) (by decide), wp_up r _ _ (i := 4) rfl (by decide) (by decide), paM_e]⟩)
    · refine g_ldc (x := 99999) tw_993 (by decide) dX7_passes_123 ?_
      refine g_goto (t := 138) dX7_passes_125 (by decide) ?_
      have ez : 99999 = zmin (wb r ι 5 + zsum (zstR (wb r ι)) (wb r ι 0)) 99999 := by unfold zmin; split <;> omega
      rw [ez]
      obtain ⟨ι4, hι4⟩ : ∃ y, y = iup ι1 179 (r + 5) (zmin (wb r ι 5 + zsum (zstR (wb r ι)) (wb r ι 0)) 99999) := ⟨_, rfl⟩
      refine i_iast sh_179 (by decide) (by decide) (by omega) (by omega) (by decide) (ι1 := ι4) (by rw [hι4]; exact au_179) dX7_passes_138 ?_
      refine g_aload_n (x := 178) rfl dX7_passes_139 ?_
      refine g_get fgX7_7 zcl_7 (congrArg Prod.fst sh_178) (by decide) rg_178_0 dX7_passes_140 ?_
      refine g_iload_n (x := r) rfl dX7_passes_143 ?_
      refine g_iconst (x := 4) rfl dX7_passes_144 ?_
      refine g_iadd dX7_passes_145 ?_
      refine g_dup2 dX7_passes_146 ?_
      refine g_iald sh_179 (by decide) (by omega) (by omega) (by decide) ag_179 dX7_passes_147 ?_
      refine g_iconst (x := 1) rfl dX7_passes_148 ?_
      refine g_iadd dX7_passes_149 ?_
      have q4 : ι4 179 (r + 4) = wb r ι 4 := by rw [hι4, iup_n _ (Or.inr (by omega)), hι1, wp_i r _ _ (by decide) (by decide)]; exact paM_o (by omega) (by omega)
      rw [q4]
      obtain ⟨ι5, hι5⟩ : ∃ y, y = iup ι4 179 (r + 4) ((wb r ι 4) + 1) := ⟨_, rfl⟩
      refine i_iast sh_179 (by decide) (by decide) (by omega) (by omega) (by decide) (ι1 := ι5) (by rw [hι5]; exact au_179) dX7_passes_150 ?_
      exact i_ret rfl dX7_passes_151 (⟨rfl, by
      rw [hι5, hι4, hι1, ei, wp_up r _ _ (i := 5) rfl (by decide) (by decide), wp_up r _ _ (i := 4) rfl (by decide) (by decide), paM_e]⟩)
  · have hVi := paM_V hV h0 h1
    have e0 : paM (wb r ι) i 0 = wb r ι 0 := paM_o (by omega) (by omega)
    have e1 : paM (wb r ι) i 1 = wb r ι 1 := paM_o (by omega) (by omega)
    refine g_aload_n (x := 178) rfl dX7_passes_16 ?_
    refine g_iload_n (x := r) rfl dX7_passes_17 ?_
    refine g_iload_n (x := i) rfl dX7_passes_18 ?_
    refine i_callVp mvX7_robbedIn tw_976 (ci := 7) (congrArg Prod.fst sh_178) rfl (by decide) (c_robbedIn hr (by rw [eb]; exact hVi) (by rw [eb, e1]; exact hB) h0 (by rw [eb, e0]; omega)) (by decide) (st' := []) rfl (Nat.le_of_ble_eq_true rfl) rfl dX7_passes_19 ?_
    rw [eb, paM_st h0 (by omega) hB hV1.2 hV4.1]
    refine g_istore (ls' := [some (zR 178), some (zI r), some (zI (zsum (zstR (wb r ι)) i)), some (zI i), some (zI (zstR (wb r ι) i))]) dX7_passes_22 (by decide) rfl ?_
    refine g_iload_n (x := (zsum (zstR (wb r ι)) i)) rfl dX7_passes_24 ?_
    refine g_iload (x := (zstR (wb r ι) i)) rfl dX7_passes_25 ?_
    refine g_iadd dX7_passes_27 ?_
    refine g_nm (fun x2 hx2 => ?_)
    refine g_istore_n (ls' := [some (zR 178), some (zI r), some (zI x2), some (zI i), some (zI (zstR (wb r ι) i))]) dX7_passes_28 (by decide) rfl ?_
    refine g_aload_n (x := 178) rfl dX7_passes_29 ?_
    refine g_get fgX7_7 zcl_7 (congrArg Prod.fst sh_178) (by decide) rg_178_0 dX7_passes_30 ?_
    refine g_iload_n (x := r) rfl dX7_passes_33 ?_
    refine g_bipush (x := 22) (by decide) dX7_passes_34 ?_
    refine g_iadd dX7_passes_36 ?_
    refine g_iload_n (x := i) rfl dX7_passes_37 ?_
    refine g_iadd dX7_passes_38 ?_
    refine g_dup2 dX7_passes_39 ?_
    refine g_iald sh_179 (by decide) (by omega) (by omega) (by decide) ag_179 dX7_passes_40 ?_
    refine g_iload (x := (zstR (wb r ι) i)) rfl dX7_passes_41 ?_
    refine g_isub dX7_passes_43 ?_
    have ql : ι1 179 (r + 22 + i) = wb r ι (22 + i) := by rw [show r + 22 + i = r + (22 + i) by omega, hι1, wp_i r _ _ (by omega) (by omega)]; exact paM_o (by omega) (by omega)
    rw [ql]
    obtain ⟨ι2, hι2⟩ : ∃ y, y = iup ι1 179 ((r + 22) + i) ((wb r ι (22 + i)) - (zstR (wb r ι) i)) := ⟨_, rfl⟩
    refine i_iast sh_179 (by decide) (by decide) (by omega) (by omega) (by decide) (ι1 := ι2) (by rw [hι2]; exact au_179) dX7_passes_44 ?_
    have eι2 : ι2 = wp r (ru (paM (wb r ι) i) (22 + i) (wb r ι (22 + i) - zstR (wb r ι) i)) ι := by rw [hι2, hι1, wp_up r _ _ (i := 22 + i) (by omega) (by omega) (by omega)]
    have hz2 : tz (ru (paM (wb r ι) i) (22 + i) (wb r ι (22 + i) - zstR (wb r ι) i)) := ru_tz hz (by omega) (by omega)
    have eb2 : wb r ι2 = ru (paM (wb r ι) i) (22 + i) (wb r ι (22 + i) - zstR (wb r ι) i) := by rw [eι2, wb_wp r hz2]
    have k1 : wb r ι2 1 = wb r ι 1 := by rw [eb2, ru_n _ (by omega)]; exact paM_o (by omega) (by omega)
    have k2 : wb r ι2 2 = wb r ι 2 := by rw [eb2, ru_n _ (by omega)]; exact paM_o (by omega) (by omega)
    have k4 : wb r ι2 4 = wb r ι 4 := by rw [eb2, ru_n _ (by omega)]; exact paM_o (by omega) (by omega)
    have kw : ∀ b, 0 ≤ b → b < 8 → wb r ι2 (30 + b) = wb r ι (30 + b) := fun b g0 g1 => by rw [eb2, ru_n _ (by omega)]; exact paM_o (by omega) (by omega)
    have hm0 := Int.emod_nonneg (wb r ι 4) (show wb r ι 1 ≠ 0 by omega)
    have hm1 := Int.emod_lt_of_pos (wb r ι 4) hB
    have ehr : zhr (wb r ι2) i = zhr (wb r ι) i := by unfold zhr; rw [k1, k2, k4, kw _ hm0 (by omega)]
    have p6 : ι2 179 (r + 6 + i) = wb r ι (6 + i) := by rw [show r + 6 + i = r + (6 + i) by omega, eι2, wp_i r _ _ (by omega) (by omega), ru_n _ (by omega)]; exact paM_o (by omega) (by omega)
    have p14 : ι2 179 (r + 14 + i) = wb r ι (14 + i) := by rw [show r + 14 + i = r + (14 + i) by omega, eι2, wp_i r _ _ (by omega) (by omega), ru_n _ (by omega)]; exact paM_o (by omega) (by omega)
    have p4 : ι2 179 (r + 4) = wb r ι 4 := by rw [eι2, wp_i r _ _ (by omega) (by omega), ru_n _ (by omega)]; exact paM_o (by omega) (by omega)
    have hk3 := hVk i h0 (by omega)
    refine g_aload_n (x := 178) rfl dX7_passes_45 ?_
    refine g_get fgX7_7 zcl_7 (congrArg Prod.fst sh_178) (by decide) rg_178_0 dX7_passes_46 ?_
    refine g_iload_n (x := r) rfl dX7_passes_49 ?_
    refine g_bipush (x := 14) (by decide) dX7_passes_50 ?_
    refine g_iadd dX7_passes_52 ?_
    refine g_iload_n (x := i) rfl dX7_passes_53 ?_
    refine g_iadd dX7_passes_54 ?_
    refine g_aload_n (x := 178) rfl dX7_passes_55 ?_
    refine g_get fgX7_7 zcl_7 (congrArg Prod.fst sh_178) (by decide) rg_178_0 dX7_passes_56 ?_
    refine g_iload_n (x := r) rfl dX7_passes_59 ?_
    refine g_bipush (x := 6) (by decide) dX7_passes_60 ?_
    refine g_iadd dX7_passes_62 ?_
    refine g_iload_n (x := i) rfl dX7_passes_63 ?_
    refine g_iadd dX7_passes_64 ?_
    refine g_iald sh_179 (by decide) (by omega) (by omega) (by decide) ag_179 dX7_passes_65 ?_
    refine g_aload_n (x := 178) rfl dX7_passes_66 ?_
    refine g_get fgX7_7 zcl_7 (congrArg Prod.fst sh_178) (by decide) rg_178_0 dX7_passes_67 ?_
    refine g_iload_n (x := r) rfl dX7_passes_70 ?_
    refine g_bipush (x := 14) (by decide) dX7_passes_71 ?_
    refine g_iadd dX7_passes_73 ?_
    refine g_iload_n (x := i) rfl dX7_passes_74 ?_
    refine g_iadd dX7_passes_75 ?_
    refine g_iald sh_179 (by decide) (by omega) (by omega) (by decide) ag_179 dX7_passes_76 ?_
    refine g_aload_n (x := 178) rfl dX7_passes_77 ?_
    refine g_iload_n (x := r) rfl dX7_passes_78 ?_
    refine g_iload_n (x := i) rfl dX7_passes_79 ?_
    refine i_callVp mvX7_hears tw_980 (ci := 7) (congrArg Prod.fst sh_178) rfl (by decide) (c_mHears hr (by omega) (by omega) (by omega) (fun b g0 g1 => by rw [kw b g0 (by omega)]; have := hVw b g0 (by omega); omega) ⟨by omega, by omega⟩) (by decide) (st' := [zI (ι2 179 ((r + 14) + i)), zI (ι2 179 ((r + 6) + i)), zI ((r + 14) + i), zR 179]) rfl (Nat.le_of_ble_eq_true rfl) rfl dX7_passes_80 ?_
    refine g_aload_n (x := 178) rfl dX7_passes_83 ?_
    refine g_get fgX7_7 zcl_7 (congrArg Prod.fst sh_178) (by decide) rg_178_0 dX7_passes_84 ?_
    refine g_iload_n (x := r) rfl dX7_passes_87 ?_
    refine g_iconst (x := 4) rfl dX7_passes_88 ?_
    refine g_iadd dX7_passes_89 ?_
    refine g_iald sh_179 (by decide) (by omega) (by omega) (by decide) ag_179 dX7_passes_90 ?_
    rw [ehr, p6, p14, p4]
    refine i_callSp msX7_deepBy tw_987 (c_deepBy ⟨by omega, by omega⟩ hk3.2.1 (by unfold zhr zhf; split <;> decide) (by omega)) (by decide) (st' := [zI ((r + 14) + i), zR 179]) rfl (Nat.le_of_ble_eq_true rfl) rfl dX7_passes_91 ?_
    obtain ⟨ι3, hι3⟩ : ∃ y, y = iup ι2 179 ((r + 14) + i) (zdeep (wb r ι (6 + i)) (wb r ι (14 + i)) (zhr (wb r ι) i) (wb r ι 4)) := ⟨_, rfl⟩
    refine i_iast sh_179 (by decide) (by decide) (by omega) (by omega) (by decide) (ι1 := ι3) (by rw [hι3]; exact au_179) dX7_passes_94 ?_
    refine g_iinc (x := i) (y := i + 1) (ls' := [some (zR 178), some (zI r), some (zI x2), some (zI (i + 1)), some (zI (zstR (wb r ι) i))]) dX7_passes_95 rfl (rfl) (by decide) rfl ?_
    refine g_goto (t := 4) dX7_passes_98 (by decide) ?_
    have hh := ih (by omega)
    rw [zsum_s _ h0, ← hx2] at hh
    have em : ι3 = wp r (paM (wb r ι) (i + 1)) ι := by rw [hι3, eι2, wp_up r _ _ (i := 14 + i) (by omega) (by omega) (by omega), paM_s h0 (by omega)]
    rw [em]
    exact g_drop (by repeat' constructor) hh

set_option maxRecDepth 100000 in
theorem c_passes {r : Int} (hr : 0 ≤ r ∧ r + 38 ≤ 1102) (hV : zVT (wb r ι)) (hB : 0 < wb r ι 1) : zCi l (zc D ad L z) mX7_passes 3 [zR 178, zI r] ι (fun v ι' => v = none ∧ ι' = wp r (passR (wb r ι)) ι) := by
  refine zCt_of (by decide) (Nat.le_of_ble_eq_true rfl) 3 rfl ?_
  refine g_iconst (x := 0) rfl dX7_passes_0 ?_
  refine g_istore_n (ls' := [some (zR 178), some (zI r), some (zI 0), none, none]) dX7_passes_1 (by decide) rfl ?_
  refine g_iconst (x := 0) rfl dX7_passes_2 ?_
  refine g_istore_n (ls' := [some (zR 178), some (zI r), some (zI 0), some (zI 0), none]) dX7_passes_3 (by decide) rfl ?_
  have hN := hV.1
  have hh := lp_passes (l := l) (D := D) (ad := ad) (L := L) (z := z) hr hV hB 0 (by omega) (by omega)
  rw [paM_0, wp_wb, zsum_0] at hh
  exact hh

set_option maxRecDepth 100000 in
theorem lp_minds {Q : Option zV → zi → Prop} (hk : zGi l (zc D ad L z) mX7_minds 1 47 [some (zR 178), some (zI 874)] [] (icpy ι 179 179 228 190 874) Q) : ∀ i : Int, 0 ≤ i → i ≤ 874 → zGi l (zc D ad L z) mX7_minds 1 11 [some (zR 178), some (zI i)] [] (icpy ι 179 179 228 190 i) (Q) := by
  refine z_loopI (fun i h0 h1 ih => ?_)
  obtain ⟨ι1, hι1⟩ : ∃ y, y = icpy ι 179 179 228 190 i := ⟨_, rfl⟩
  rw [← hι1]
  refine g_iload_n (x := i) rfl dX7_minds_11 ?_
  refine g_sipush (x := 874) (by decide) dX7_minds_12 ?_
  refine g_icmp_ge ⟨by omega, by omega⟩ (by decide) (t := 47) dX7_minds_15 (by decide) (fun h15 => ?_) (fun h15 => ?_)
  · have ei : i = 874 := by omega
    rw [hι1, ei]
    exact hk
  · refine g_aload_n (x := 178) rfl dX7_minds_18 ?_
    refine g_get fgX7_7 zcl_7 (congrArg Prod.fst sh_178) (by decide) rg_178_0 dX7_minds_19 ?_
    refine g_sipush (x := 190) (by decide) dX7_minds_22 ?_
    refine g_iload_n (x := i) rfl dX7_minds_25 ?_
    refine g_iadd dX7_minds_26 ?_
    refine g_aload_n (x := 178) rfl dX7_minds_27 ?_
    refine g_get fgX7_7 zcl_7 (congrArg Prod.fst sh_178) (by decide) rg_178_0 dX7_minds_28 ?_
    refine g_sipush (x := 190) (by decide) dX7_minds_31 ?_
    refine g_iload_n (x := i) rfl dX7_minds_34 ?_
    refine g_iadd dX7_minds_35 ?_
    refine g_bipush (x := 38) (by decide) dX7_minds_36 ?_
    refine g_iadd dX7_minds_38 ?_
    refine g_iald sh_179 (by decide) (by omega) (by omega) (by decide) ag_179 dX7_minds_39 ?_
    obtain ⟨ι2, hι2⟩ : ∃ y, y = iup ι1 179 (190 + i) (ι1 179 ((190 + i) + 38)) := ⟨_, rfl⟩
    refine i_iast sh_179 (by decide) (by decide) (by omega) (by omega) (by decide) (ι1 := ι2) (by rw [hι2]; exact au_179) dX7_minds_40 ?_
    refine g_iinc (x := i) (y := i + 1) (ls' := [some (zR 178), some (zI (i + 1))]) dX7_minds_41 rfl (rfl) (by decide) rfl ?_
    refine g_goto (t := 11) dX7_minds_44 (by decide) ?_
    rw [hι2, hι1, show 190 + i + 38 = 228 + i by omega, icpy_s h0 (by omega)]
    exact ih (by omega)

def zmd (ι : zi) : zi := if ι 178 1 = 24 then iup (iup (wp 1064 (wb 0 ι) (icpy ι 179 179 228 190 874)) 178 1 23) 178 1 24 else iup (wp (190 + 38 * ι 178 1) (wb 0 ι) ι) 178 1 (ι 178 1 + 1)
set_option maxRecDepth 100000 in
theorem lp_minds2 (h6 : ι 178 1 = 24) : zGi l (zc D ad L z) mX7_minds 1 47 [some (zR 178), some (zI 874)] [] (icpy ι 179 179 228 190 874) (fun v ι' => v = none ∧ ι' = zmd ι) := by
  obtain ⟨ι1, hι1⟩ : ∃ y, y = icpy ι 179 179 228 190 874 := ⟨_, rfl⟩
  rw [← hι1]
  have e1 : ι1 178 1 = 24 := by rw [hι1, icpy_n _ (Or.inl (by decide))]; exact h6
  have ew : wb 0 ι1 = wb 0 ι := by
    funext j
    by_cases g : 0 ≤ j ∧ j < 38
    · rw [wb_i _ _ g.1 g.2, wb_i _ _ g.1 g.2, hι1, icpy_n _ (by omega)]
    · rw [wb_tz _ _ j (by omega), wb_tz _ _ j (by omega)]
  refine g_aload_n (x := 178) rfl dX7_minds_47 ?_
  refine g_dupR dX7_minds_48 ?_
  refine g_get fgX7_121 zcl_7 (congrArg Prod.fst sh_178) (by decide) ig_178_1 dX7_minds_49 ?_
  refine g_iconst (x := 1) rfl dX7_minds_52 ?_
  refine g_isub dX7_minds_53 ?_
  rw [e1]
  obtain ⟨ι2, hι2⟩ : ∃ y, y = iup ι1 178 1 ((24) - 1) := ⟨_, rfl⟩
  refine i_put fwX7_121 zcl_7 (congrArg Prod.fst sh_178) (by decide) (by decide) (ι1 := ι2) (by rw [hι2]; exact iu_178_1) dX7_minds_54 ?_
  refine g_aload_n (x := 178) rfl dX7_minds_57 ?_
  refine g_iconst (x := 0) rfl dX7_minds_58 ?_
  refine g_sipush (x := 190) (by decide) dX7_minds_59 ?_
  refine g_bipush (x := 38) (by decide) dX7_minds_62 ?_
  have e2 : ι2 178 1 = 23 := by rw [hι2, iup_s]; decide
  refine g_aload_n (x := 178) rfl dX7_minds_64 ?_
  refine g_get fgX7_121 zcl_7 (congrArg Prod.fst sh_178) (by decide) ig_178_1 dX7_minds_65 ?_
  rw [e2]
  refine g_imul dX7_minds_68 ?_
  refine g_iadd dX7_minds_69 ?_
  refine i_callV mvX7_copyOf tw_950 (ci := 7) (congrArg Prod.fst sh_178) rfl (by decide) (c_copyOf (by decide) (by decide) (by decide)) (by decide) (st' := []) rfl (Nat.le_of_ble_eq_true rfl) rfl dX7_minds_70 (fun v_1 ι3 hq_70 => ?_)
  obtain ⟨rfl, hι3⟩ := hq_70
  have e3 : ι3 178 1 = 23 := by rw [hι3, wp_o _ _ _ (Or.inl (by decide))]; exact e2
  refine g_aload_n (x := 178) rfl dX7_minds_73 ?_
  refine g_dupR dX7_minds_74 ?_
  refine g_get fgX7_121 zcl_7 (congrArg Prod.fst sh_178) (by decide) ig_178_1 dX7_minds_75 ?_
  refine g_iconst (x := 1) rfl dX7_minds_78 ?_
  refine g_iadd dX7_minds_79 ?_
  rw [e3]
  obtain ⟨ι4, hι4⟩ : ∃ y, y = iup ι3 178 1 ((23) + 1) := ⟨_, rfl⟩
  refine i_put fwX7_121 zcl_7 (congrArg Prod.fst sh_178) (by decide) (by decide) (ι1 := ι4) (by rw [hι4]; exact iu_178_1) dX7_minds_80 ?_
  exact i_ret rfl dX7_minds_83 (⟨rfl, by
      unfold zmd
      rw [if_pos h6, hι4, hι3, hι2, wb_up (Or.inl (by decide)), ew, wp_iup (by decide), ← hι1]
      rfl⟩)

set_option maxRecDepth 100000 in
theorem c_minds (hu : 0 ≤ ι 178 1 ∧ ι 178 1 ≤ 24) : zCi l (zc D ad L z) mX7_minds 1 [zR 178] ι (fun v ι' => v = none ∧ ι' = zmd ι) := by
  refine zCt_of (by decide) (Nat.le_of_ble_eq_true rfl) 1 rfl ?_
  refine g_aload_n (x := 178) rfl dX7_minds_0 ?_
  refine g_get fgX7_121 zcl_7 (congrArg Prod.fst sh_178) (by decide) ig_178_1 dX7_minds_1 ?_
  refine g_bipush (x := 24) (by decide) dX7_minds_4 ?_
  refine g_icmp_ne ⟨by omega, by omega⟩ (by decide) (t := 57) dX7_minds_6 (by decide) (fun h6 => ?_) (fun h6 => ?_)
  · refine g_aload_n (x := 178) rfl dX7_minds_57 ?_
    refine g_iconst (x := 0) rfl dX7_minds_58 ?_
    refine g_sipush (x := 190) (by decide) dX7_minds_59 ?_
    refine g_bipush (x := 38) (by decide) dX7_minds_62 ?_
    refine g_aload_n (x := 178) rfl dX7_minds_64 ?_
    refine g_get fgX7_121 zcl_7 (congrArg Prod.fst sh_178) (by decide) ig_178_1 dX7_minds_65 ?_
    refine g_imul dX7_minds_68 ?_
    refine g_iadd dX7_minds_69 ?_
    refine i_callV mvX7_copyOf tw_950 (ci := 7) (congrArg Prod.fst sh_178) rfl (by decide) (c_copyOf (by decide) (by omega) (by omega)) (by decide) (st' := []) rfl (Nat.le_of_ble_eq_true rfl) rfl dX7_minds_70 (fun v_1 ι5 hq_70 => ?_)
    obtain ⟨rfl, hι5⟩ := hq_70
    have e5 : ι5 178 1 = ι 178 1 := by rw [hι5, wp_o _ _ _ (Or.inl (by decide))]
    refine g_aload_n (x := 178) rfl dX7_minds_73 ?_
    refine g_dupR dX7_minds_74 ?_
    refine g_get fgX7_121 zcl_7 (congrArg Prod.fst sh_178) (by decide) ig_178_1 dX7_minds_75 ?_
    refine g_iconst (x := 1) rfl dX7_minds_78 ?_
    refine g_iadd dX7_minds_79 ?_
    rw [e5]
    obtain ⟨ι6, hι6⟩ : ∃ y, y = iup ι5 178 1 ((ι 178 1) + 1) := ⟨_, rfl⟩
    refine i_put fwX7_121 zcl_7 (congrArg Prod.fst sh_178) (by decide) (by decide) (ι1 := ι6) (by rw [hι6]; exact iu_178_1) dX7_minds_80 ?_
    exact i_ret rfl dX7_minds_83 (⟨rfl, by unfold zmd; rw [if_neg h6, hι6, hι5]⟩)
  · refine g_iconst (x := 0) rfl dX7_minds_9 ?_
    refine g_istore_n (ls' := [some (zR 178), some (zI 0)]) dX7_minds_10 (by decide) rfl ?_
    have hh := lp_minds (l := l) (D := D) (ad := ad) (L := L) (z := z) (ι := ι) (lp_minds2 h6) 0 (by omega) (by omega)
    rw [icpy_0] at hh
    exact hh

end
