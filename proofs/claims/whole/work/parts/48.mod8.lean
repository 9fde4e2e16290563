section
theorem zsum_ge {f : Int → Int} {i : Int} (h0 : 0 ≤ i) (hf : ∀ k, 0 ≤ k → k < i → 0 ≤ f k) {s : Int} (hs0 : 0 ≤ s) (hs1 : s < i) : f s ≤ zsum f i := by
  have key : ∀ n : Nat, (n : Int) ≤ i → 0 ≤ zsum f n ∧ (s < n → f s ≤ zsum f n) := by
    intro n
    induction n with
    | zero => intro _; exact ⟨by show 0 ≤ zsum f 0; rw [zsum_0]; omega, fun h => by omega⟩
    | succ n ih =>
      intro hn
      have h1 := ih (by omega)
      have h2 := hf n (by omega) (by omega)
      rw [show ((n + 1 : Nat) : Int) = (n : Int) + 1 by omega, zsum_s f (by omega)]
      refine ⟨by omega, fun h => ?_⟩
      by_cases g : s < n
      · have := h1.2 g; omega
      · have e : s = n := by omega
        rw [e]; omega
  have := (key i.toNat (by omega)).2 (by omega)
  rw [show ((i.toNat : Nat) : Int) = i by omega] at this
  exact this
variable {l : Launch} {D : va_G} {ad : Nat → Nat} {L z : Nat} {ι : zi}
set_option maxRecDepth 100000 in
theorem lp_skins2 (hT : zTM (wb 0 ι)) {s n : Int} (hs : 0 ≤ s ∧ s < wb 0 ι 0) (hn : 0 ≤ n ∧ n ≤ 999) {t : Int} (ht : t = zsum (fun k => wb 0 ι (22 + k)) (wb 0 ι 0)) (h3 : 0 < t ∧ t ≤ 480) (hls : wb 0 ι (22 + s) ≠ 0) : ∀ i : Int, 0 ≤ i → i ≤ wb 0 ι 0 → zGi l (zc D ad L z) mX7_skins 2 81 [some (zR 178), some (zI s), some (zI n), some (zI t), some (zI (n - zsum (fun k => n * wb 0 ι (22 + k) / t) i)), some (zI (zsum (fun k => if k < s ∧ 0 < wb 0 ι (22 + k) then (1 : Int) else 0) i)), some (zI i)] [] ι (zP (zI (ztax (wb 0 ι) s n)) ι) := by
  refine z_loopI (fun i h0 h1 ih => ?_)
  obtain ⟨hV, hNB, hH9⟩ := id hT
  obtain ⟨hV0, hV1, hV2, hV3, hV4, hV5, hVk, hVw⟩ := id hV
  have q0 := w0 ι (i := 0) (by decide) (by decide)
  have q1 := w0 ι (i := 1) (by decide) (by decide)
  have q2 := w0 ι (i := 2) (by decide) (by decide)
  have q4 := w0 ι (i := 4) (by decide) (by decide)
  refine g_iload (x := i) rfl dX7_skins_81 ?_
  refine g_aload_n (x := 178) rfl dX7_skins_83 ?_
  refine g_get fgX7_7 zcl_7 (congrArg Prod.fst sh_178) (by decide) rg_178_0 dX7_skins_84 ?_
  refine g_iconst (x := 0) rfl dX7_skins_87 ?_
  refine g_iald sh_179 (by decide) (by omega) (by omega) (by decide) ag_179 dX7_skins_88 ?_
  rw [← q0]
  refine g_icmp_ge ⟨by omega, by omega⟩ ⟨by omega, by omega⟩ (t := 146) dX7_skins_89 (by decide) (fun h89 => ?_) (fun h89 => ?_)
  · have ei : i = wb 0 ι 0 := by omega
    rw [ei]
    have hls2 := (hVk s hs.1 hs.2).2.2
    have hmu := zmul_b hn.1 hn.2 hls2.1 hls2.2
    have b1 := zsum_b (fun k => if k < s ∧ 0 < wb 0 ι (22 + k) then (1 : Int) else 0) (i := wb 0 ι 0) (M := 1) hV0.1 (fun k _ _ => by show 0 ≤ (if _ then (1 : Int) else 0) ∧ (if _ then (1 : Int) else 0) ≤ 1; split <;> omega)
    have b2 := zsum_b (fun k => n * wb 0 ι (22 + k) / t) (i := wb 0 ι 0) (M := 59940) hV0.1 (fun k g0 g1 => by
      have q := zmul_b hn.1 hn.2 (hVk k g0 g1).2.2.1 (hVk k g0 g1).2.2.2
      have q2 := zdiv_b (y := t) q.1 h3.1
      exact ⟨q2.1, by show n * wb 0 ι (22 + k) / t ≤ _; omega⟩)
    refine g_iload_n (x := n) rfl dX7_skins_146 ?_
    refine g_aload_n (x := 178) rfl dX7_skins_147 ?_
    refine g_get fgX7_7 zcl_7 (congrArg Prod.fst sh_178) (by decide) rg_178_0 dX7_skins_148 ?_
    refine g_bipush (x := 22) (by decide) dX7_skins_151 ?_
    refine g_iload_n (x := s) rfl dX7_skins_153 ?_
    refine g_iadd dX7_skins_154 ?_
    refine g_iald sh_179 (by decide) (by omega) (by omega) (by decide) ag_179 dX7_skins_155 ?_
    rw [← w0 ι (i := 22 + s) (by omega) (by omega)]
    refine g_imul dX7_skins_156 ?_
    refine g_iload_n (x := t) rfl dX7_skins_157 ?_
    refine g_idiv hmu.1 (by omega) (by omega) (by omega) dX7_skins_158 ?_
    refine g_iload (x := (zsum (fun k => if k < s ∧ 0 < wb 0 ι (22 + k) then (1 : Int) else 0) (wb 0 ι 0))) rfl dX7_skins_159 ?_
    refine g_iload (x := (n - zsum (fun k => n * wb 0 ι (22 + k) / t) (wb 0 ι 0))) rfl dX7_skins_161 ?_
    refine g_icmp_ge ⟨by omega, by omega⟩ ⟨by omega, by omega⟩ (t := 170) dX7_skins_163 (by decide) (fun h163 => ?_) (fun h163 => ?_)
    · refine g_iconst (x := 0) rfl dX7_skins_170 ?_
      refine g_iadd dX7_skins_171 ?_
      exact i_iret rfl dX7_skins_172 (⟨by unfold ztax; simp only [← ht]; rw [if_neg (by omega)]; first | rw [if_pos (by omega)] | rw [if_neg (by omega)], rfl⟩)
    · refine g_iconst (x := 1) rfl dX7_skins_166 ?_
      refine g_goto (t := 171) dX7_skins_167 (by decide) ?_
      refine g_iadd dX7_skins_171 ?_
      exact i_iret rfl dX7_skins_172 (⟨by unfold ztax; simp only [← ht]; rw [if_neg (by omega)]; first | rw [if_pos (by omega)] | rw [if_neg (by omega)], rfl⟩)
  · have hli := (hVk i h0 (by omega)).2.2
    have hmu := zmul_b hn.1 hn.2 hli.1 hli.2
    refine g_iload (x := (n - zsum (fun k => n * wb 0 ι (22 + k) / t) i)) rfl dX7_skins_92 ?_
    refine g_iload_n (x := n) rfl dX7_skins_94 ?_
    refine g_aload_n (x := 178) rfl dX7_skins_95 ?_
    refine g_get fgX7_7 zcl_7 (congrArg Prod.fst sh_178) (by decide) rg_178_0 dX7_skins_96 ?_
    refine g_bipush (x := 22) (by decide) dX7_skins_99 ?_
    refine g_iload (x := i) rfl dX7_skins_101 ?_
    refine g_iadd dX7_skins_103 ?_
    refine g_iald sh_179 (by decide) (by omega) (by omega) (by decide) ag_179 dX7_skins_104 ?_
    rw [← w0 ι (i := 22 + i) (by omega) (by omega)]
    refine g_imul dX7_skins_105 ?_
    refine g_iload_n (x := t) rfl dX7_skins_106 ?_
    refine g_idiv hmu.1 (by omega) (by omega) (by omega) dX7_skins_107 ?_
    refine g_isub dX7_skins_108 ?_
    refine g_nm (fun x4 hx4 => ?_)
    refine g_istore (ls' := [some (zR 178), some (zI s), some (zI n), some (zI t), some (zI x4), some (zI (zsum (fun k => if k < s ∧ 0 < wb 0 ι (22 + k) then (1 : Int) else 0) i)), some (zI i)]) dX7_skins_109 (by decide) rfl ?_
    refine g_iload (x := (zsum (fun k => if k < s ∧ 0 < wb 0 ι (22 + k) then (1 : Int) else 0) i)) rfl dX7_skins_111 ?_
    refine g_iload (x := i) rfl dX7_skins_113 ?_
    refine g_iload_n (x := s) rfl dX7_skins_115 ?_
    refine g_icmp_ge ⟨by omega, by omega⟩ ⟨by omega, by omega⟩ (t := 136) dX7_skins_116 (by decide) (fun h116 => ?_) (fun h116 => ?_)
    · refine g_iconst (x := 0) rfl dX7_skins_136 ?_
      refine g_iadd dX7_skins_137 ?_
      refine g_nm (fun x5 hx5 => ?_)
      refine g_istore (ls' := [some (zR 178), some (zI s), some (zI n), some (zI t), some (zI x4), some (zI x5), some (zI i)]) dX7_skins_138 (by decide) rfl ?_
      refine g_iinc (x := i) (y := i + 1) (ls' := [some (zR 178), some (zI s), some (zI n), some (zI t), some (zI x4), some (zI x5), some (zI (i + 1))]) dX7_skins_140 rfl (rfl) (by decide) rfl ?_
      refine g_goto (t := 81) dX7_skins_143 (by decide) ?_
      have hh := ih (by omega)
      rw [show n - zsum (fun k => n * wb 0 ι (22 + k) / t) (i + 1) = x4 by rw [hx4, zsum_s _ h0]; omega, show zsum (fun k => if k < s ∧ 0 < wb 0 ι (22 + k) then (1 : Int) else 0) (i + 1) = x5 by rw [zsum_s _ h0]; first | rw [if_pos (by omega), hx5] | rw [if_neg (by omega), hx5]] at hh
      exact hh
    · refine g_aload_n (x := 178) rfl dX7_skins_119 ?_
      refine g_get fgX7_7 zcl_7 (congrArg Prod.fst sh_178) (by decide) rg_178_0 dX7_skins_120 ?_
      refine g_bipush (x := 22) (by decide) dX7_skins_123 ?_
      refine g_iload (x := i) rfl dX7_skins_125 ?_
      refine g_iadd dX7_skins_127 ?_
      refine g_iald sh_179 (by decide) (by omega) (by omega) (by decide) ag_179 dX7_skins_128 ?_
      rw [← w0 ι (i := 22 + i) (by omega) (by omega)]
      refine g_if_le ⟨by omega, by omega⟩ (t := 136) dX7_skins_129 (by decide) (fun h129 => ?_) (fun h129 => ?_)
      · refine g_iconst (x := 0) rfl dX7_skins_136 ?_
        refine g_iadd dX7_skins_137 ?_
        refine g_nm (fun x5 hx5 => ?_)
        refine g_istore (ls' := [some (zR 178), some (zI s), some (zI n), some (zI t), some (zI x4), some (zI x5), some (zI i)]) dX7_skins_138 (by decide) rfl ?_
        refine g_iinc (x := i) (y := i + 1) (ls' := [some (zR 178), some (zI s), some (zI n), some (zI t), some (zI x4), some (zI x5), some (zI (i + 1))]) dX7_skins_140 rfl (rfl) (by decide) rfl ?_
        refine g_goto (t := 81) dX7_skins_143 (by decide) ?_
        have hh := ih (by omega)
        rw [show n - zsum (fun k => n * wb 0 ι (22 + k) / t) (i + 1) = x4 by rw [hx4, zsum_s _ h0]; omega, show zsum (fun k => if k < s ∧ 0 < wb 0 ι (22 + k) then (1 : Int) else 0) (i + 1) = x5 by rw [zsum_s _ h0]; first | rw [if_pos (by omega), hx5] | rw [if_neg (by omega), hx5]] at hh
        exact hh
      · refine g_iconst (x := 1) rfl dX7_skins_132 ?_
        refine g_goto (t := 137) dX7_skins_133 (by decide) ?_
        refine g_iadd dX7_skins_137 ?_
        refine g_nm (fun x5 hx5 => ?_)
        refine g_istore (ls' := [some (zR 178), some (zI s), some (zI n), some (zI t), some (zI x4), some (zI x5), some (zI i)]) dX7_skins_138 (by decide) rfl ?_
        refine g_iinc (x := i) (y := i + 1) (ls' := [some (zR 178), some (zI s), some (zI n), some (zI t), some (zI x4), some (zI x5), some (zI (i + 1))]) dX7_skins_140 rfl (rfl) (by decide) rfl ?_
        refine g_goto (t := 81) dX7_skins_143 (by decide) ?_
        have hh := ih (by omega)
        rw [show n - zsum (fun k => n * wb 0 ι (22 + k) / t) (i + 1) = x4 by rw [hx4, zsum_s _ h0]; omega, show zsum (fun k => if k < s ∧ 0 < wb 0 ι (22 + k) then (1 : Int) else 0) (i + 1) = x5 by rw [zsum_s _ h0]; first | rw [if_pos (by omega), hx5] | rw [if_neg (by omega), hx5]] at hh
        exact hh

set_option maxRecDepth 100000 in
theorem lp_skins1 (hT : zTM (wb 0 ι)) {s n : Int} (hs : 0 ≤ s ∧ s < wb 0 ι 0) (hn : 0 ≤ n ∧ n ≤ 999) : ∀ i : Int, 0 ≤ i → i ≤ wb 0 ι 0 → zGi l (zc D ad L z) mX7_skins 2 28 [some (zR 178), some (zI s), some (zI n), some (zI (zsum (fun k => wb 0 ι (22 + k)) i)), some (zI i), none, none] [] ι (zP (zI (ztax (wb 0 ι) s n)) ι) := by
  refine z_loopI (fun i h0 h1 ih => ?_)
  obtain ⟨hV, hNB, hH9⟩ := id hT
  obtain ⟨hV0, hV1, hV2, hV3, hV4, hV5, hVk, hVw⟩ := id hV
  have q0 := w0 ι (i := 0) (by decide) (by decide)
  have q1 := w0 ι (i := 1) (by decide) (by decide)
  have q2 := w0 ι (i := 2) (by decide) (by decide)
  have q4 := w0 ι (i := 4) (by decide) (by decide)
  refine g_iload (x := i) rfl dX7_skins_28 ?_
  refine g_aload_n (x := 178) rfl dX7_skins_30 ?_
  refine g_get fgX7_7 zcl_7 (congrArg Prod.fst sh_178) (by decide) rg_178_0 dX7_skins_31 ?_
  refine g_iconst (x := 0) rfl dX7_skins_34 ?_
  refine g_iald sh_179 (by decide) (by omega) (by omega) (by decide) ag_179 dX7_skins_35 ?_
  rw [← q0]
  refine g_icmp_ge ⟨by omega, by omega⟩ ⟨by omega, by omega⟩ (t := 58) dX7_skins_36 (by decide) (fun h36 => ?_) (fun h36 => ?_)
  · have ei : i = wb 0 ι 0 := by omega
    have hls2 := (hVk s hs.1 hs.2).2.2
    have b1 := zsum_b (fun k => wb 0 ι (22 + k)) (i := wb 0 ι 0) (M := 60) hV0.1 (fun k g0 g1 => (hVk k g0 g1).2.2)
    have b3 : wb 0 ι (22 + s) ≤ zsum (fun k => wb 0 ι (22 + k)) (wb 0 ι 0) := zsum_ge hV0.1 (fun k g0 g1 => (hVk k g0 g1).2.2.1) hs.1 hs.2
    refine g_aload_n (x := 178) rfl dX7_skins_58 ?_
    refine g_get fgX7_7 zcl_7 (congrArg Prod.fst sh_178) (by decide) rg_178_0 dX7_skins_59 ?_
    refine g_bipush (x := 22) (by decide) dX7_skins_62 ?_
    refine g_iload_n (x := s) rfl dX7_skins_64 ?_
    refine g_iadd dX7_skins_65 ?_
    refine g_iald sh_179 (by decide) (by omega) (by omega) (by decide) ag_179 dX7_skins_66 ?_
    rw [← w0 ι (i := 22 + s) (by omega) (by omega)]
    refine g_if_ne ⟨by omega, by omega⟩ (t := 72) dX7_skins_67 (by decide) (fun h67 => ?_) (fun h67 => ?_)
    · refine g_iload_n (x := n) rfl dX7_skins_72 ?_
      refine g_istore (ls' := [some (zR 178), some (zI s), some (zI n), some (zI (zsum (fun k => wb 0 ι (22 + k)) i)), some (zI n), none, none]) dX7_skins_73 (by decide) rfl ?_
      refine g_iconst (x := 0) rfl dX7_skins_75 ?_
      refine g_istore (ls' := [some (zR 178), some (zI s), some (zI n), some (zI (zsum (fun k => wb 0 ι (22 + k)) i)), some (zI n), some (zI 0), none]) dX7_skins_76 (by decide) rfl ?_
      refine g_iconst (x := 0) rfl dX7_skins_78 ?_
      refine g_istore (ls' := [some (zR 178), some (zI s), some (zI n), some (zI (zsum (fun k => wb 0 ι (22 + k)) i)), some (zI n), some (zI 0), some (zI 0)]) dX7_skins_79 (by decide) rfl ?_
      have hh := lp_skins2 (l := l) (D := D) (ad := ad) (L := L) (z := z) hT hs hn (t := zsum (fun k => wb 0 ι (22 + k)) (wb 0 ι 0)) rfl (by omega) (by omega) 0 (by omega) (by omega)
      rw [zsum_0, zsum_0, Int.sub_zero] at hh
      rw [ei]
      exact g_drop (by repeat' constructor) hh
    · refine g_iconst (x := 0) rfl dX7_skins_70 ?_
      exact i_iret rfl dX7_skins_71 (⟨by unfold ztax; simp only []; rw [if_pos (Or.inr (by omega))], rfl⟩)
  · refine g_iload_n (x := (zsum (fun k => wb 0 ι (22 + k)) i)) rfl dX7_skins_39 ?_
    refine g_aload_n (x := 178) rfl dX7_skins_40 ?_
    refine g_get fgX7_7 zcl_7 (congrArg Prod.fst sh_178) (by decide) rg_178_0 dX7_skins_41 ?_
    refine g_bipush (x := 22) (by decide) dX7_skins_44 ?_
    refine g_iload (x := i) rfl dX7_skins_46 ?_
    refine g_iadd dX7_skins_48 ?_
    refine g_iald sh_179 (by decide) (by omega) (by omega) (by decide) ag_179 dX7_skins_49 ?_
    rw [← w0 ι (i := 22 + i) (by omega) (by omega)]
    refine g_iadd dX7_skins_50 ?_
    refine g_nm (fun x4 hx4 => ?_)
    refine g_istore_n (ls' := [some (zR 178), some (zI s), some (zI n), some (zI x4), some (zI i), none, none]) dX7_skins_51 (by decide) rfl ?_
    refine g_iinc (x := i) (y := i + 1) (ls' := [some (zR 178), some (zI s), some (zI n), some (zI x4), some (zI (i + 1)), none, none]) dX7_skins_52 rfl (rfl) (by decide) rfl ?_
    refine g_goto (t := 28) dX7_skins_55 (by decide) ?_
    have hh := ih (by omega)
    rw [zsum_s _ h0, ← hx4] at hh
    exact hh

set_option maxRecDepth 100000 in
theorem c_mSkins (hT : zTM (wb 0 ι)) {s n : Int} (hs : zB s) (hn : zB n) : zCi l (zc D ad L z) mX7_skins 2 [zR 178, zI s, zI n] ι (zP (zI (if ¬ ((0 ≤ s ∧ s < wb 0 ι 0) ∧ (0 ≤ n ∧ n ≤ 999)) then -1000001 else ztax (wb 0 ι) s n)) ι) := by
  refine zCt_of (by decide) (Nat.le_of_ble_eq_true rfl) 4 rfl ?_
  obtain ⟨hV, hNB, hH9⟩ := id hT
  obtain ⟨hV0, hV1, hV2, hV3, hV4, hV5, hVk, hVw⟩ := id hV
  have q0 := w0 ι (i := 0) (by decide) (by decide)
  have q1 := w0 ι (i := 1) (by decide) (by decide)
  have q2 := w0 ι (i := 2) (by decide) (by decide)
  have q4 := w0 ι (i := 4) (by decide) (by decide)
  refine g_aload_n (x := 178) rfl dX7_skins_0 ?_
  refine g_iload_n (x := s) rfl dX7_skins_1 ?_
  refine i_callVp mvX7_isStreet tw_1002 (ci := 7) (congrArg Prod.fst sh_178) rfl (by decide) (c_isStreet ⟨by omega, by omega⟩ (by omega)) (by decide) (st' := []) rfl (Nat.le_of_ble_eq_true rfl) rfl dX7_skins_2 ?_
  refine g_nm (fun b2 hq0 => ?_)
  have hb2 : ((0 ≤ s ∧ s ≤ ι 179 0 - 1) ∧ b2 = 1) ∨ (¬ (0 ≤ s ∧ s ≤ ι 179 0 - 1) ∧ b2 = 0) := zb_c hq0
  clear hq0
  refine g_if_eq ⟨by omega, by omega⟩ (t := 20) dX7_skins_5 (by decide) (fun h5 => ?_) (fun h5 => ?_)
  · refine g_ldc (x := -1000001) tw_880 (by decide) dX7_skins_20 ?_
    exact i_iret rfl dX7_skins_22 (⟨by rw [if_pos (by omega)], rfl⟩)
  · refine g_iload_n (x := n) rfl dX7_skins_8 ?_
    refine g_i2l ⟨by omega, by omega⟩ dX7_skins_9 ?_
    refine g_lconst (x := 0) (by decide) dX7_skins_10 ?_
    refine g_ldc2 (x := 999) tw_1092 (by decide) dX7_skins_11 ?_
    refine i_callSp msX7_in tw_876 (c_in ⟨by omega, by omega⟩ ⟨by omega, by omega⟩ ⟨by omega, by omega⟩) (by decide) (st' := []) rfl (Nat.le_of_ble_eq_true rfl) rfl dX7_skins_14 ?_
    refine g_nm (fun b14 hq0 => ?_)
    have hb14 : ((0 ≤ n ∧ n ≤ 999) ∧ b14 = 1) ∨ (¬ (0 ≤ n ∧ n ≤ 999) ∧ b14 = 0) := zb_c hq0
    clear hq0
    refine g_if_ne ⟨by omega, by omega⟩ (t := 23) dX7_skins_17 (by decide) (fun h17 => ?_) (fun h17 => ?_)
    · refine g_iconst (x := 0) rfl dX7_skins_23 ?_
      refine g_istore_n (ls' := [some (zR 178), some (zI s), some (zI n), some (zI 0), none, none, none]) dX7_skins_24 (by decide) rfl ?_
      refine g_iconst (x := 0) rfl dX7_skins_25 ?_
      refine g_istore (ls' := [some (zR 178), some (zI s), some (zI n), some (zI 0), some (zI 0), none, none]) dX7_skins_26 (by decide) rfl ?_
      rw [if_neg (by omega)]
      have hh := lp_skins1 (l := l) (D := D) (ad := ad) (L := L) (z := z) hT (s := s) (n := n) (by omega) (by omega) 0 (by omega) (by omega)
      rw [zsum_0] at hh
      exact hh
    · refine g_ldc (x := -1000001) tw_880 (by decide) dX7_skins_20 ?_
      exact i_iret rfl dX7_skins_22 (⟨by rw [if_pos (by omega)], rfl⟩)

set_option maxRecDepth 100000 in
theorem lp_isSo (hV : zVT (wb 38 ι)) (hB : 0 < wb 38 ι 1) {s f n : Int} (hs : 0 ≤ s ∧ s < wb 38 ι 0) (hn : 0 ≤ n ∧ n ≤ 12) (h4 : wb 38 ι 4 + n ≤ 20000) (hf : 0 ≤ f ∧ f + n ≤ 320) (hI : ∀ k, 0 ≤ k → k < 320 → zB (ι 183 k)) : ∀ i : Int, 0 ≤ i → i ≤ n → zGi l (zc D ad L z) mX7_isSo 4 6 [some (zR 178), some (zI s), some (zI f), some (zI n), some (zI (zso (wb 38 ι) s (fun e => ι 183 (f + e)) i)), some (zI i)] [] (wp 38 (pasI (wb 38 ι) i) ι) (fun v ι' => v = some (zI (zso (wb 38 ι) s (fun e => ι 183 (f + e)) n)) ∧ zSc ι ι') := by
  refine z_loopI (fun i h0 h1 ih => ?_)
  obtain ⟨ι1, hι1⟩ : ∃ y, y = wp 38 (pasI (wb 38 ι) i) ι := ⟨_, rfl⟩
  rw [← hι1]
  refine g_iload (x := i) rfl dX7_isSo_6 ?_
  refine g_iload_n (x := n) rfl dX7_isSo_8 ?_
  refine g_icmp_ge ⟨by omega, by omega⟩ ⟨by omega, by omega⟩ (t := 57) dX7_isSo_9 (by decide) (fun h9 => ?_) (fun h9 => ?_)
  · refine g_iload (x := (zso (wb 38 ι) s (fun e => ι 183 (f + e)) i)) rfl dX7_isSo_57 ?_
    rw [show i = n by omega]
    exact i_zret rfl (by have := zso_01 (wb 38 ι) s (fun e => ι 183 (f + e)) n; omega) dX7_isSo_59 (⟨rfl, ⟨_, hι1⟩⟩)
  · obtain ⟨g1, g2, g3, g4, -⟩ := pasI_V (wb_tz 38 ι) hV h0 (by omega)
    obtain ⟨f1, f2, f3, -⟩ := pasI_V (wb_tz 38 ι) hV (n := i + 1) (by omega) (by omega)
    have etb : wb 38 ι1 = pasI (wb 38 ι) i := by rw [hι1, wb_wp 38 g2]
    have hz := zso_01 (wb 38 ι) s (fun e => ι 183 (f + e)) i
    have hN8 := hV.1
    have hk3 := (f1.2.2.2.2.2.2.1 s hs.1 (by omega)).2.1
    have hIi := hI (f + i) (by omega) (by omega)
    refine g_aload_n (x := 178) rfl dX7_isSo_12 ?_
    refine g_bipush (x := 38) (by decide) dX7_isSo_13 ?_
    refine i_callV mvX7_passes tw_972 (ci := 7) (congrArg Prod.fst sh_178) rfl (by decide) (c_passes (by decide) (by rw [etb]; exact g1) (by rw [etb, g4]; exact hB)) (by decide) (st' := []) rfl (Nat.le_of_ble_eq_true rfl) rfl dX7_isSo_15 (fun v_1 ι2 hq_15 => ?_)
    obtain ⟨rfl, hι2⟩ := hq_15
    rw [etb, ← pasI_s _ h0, hι1, wp_wp] at hι2
    have e5 : ι2 179 (52 + s) = pasI (wb 38 ι) (i + 1) (14 + s) := by rw [hι2, show 52 + s = 38 + (14 + s) by omega, wp_i 38 _ _ (by omega) (by omega)]
    have e6 : ι2 183 (f + i) = ι 183 (f + i) := by rw [hι2, wp_o _ _ _ (Or.inl (by decide))]
    refine g_iload (x := (zso (wb 38 ι) s (fun e => ι 183 (f + e)) i)) rfl dX7_isSo_18 ?_
    refine g_if_eq ⟨by omega, by omega⟩ (t := 48) dX7_isSo_20 (by decide) (fun h20 => ?_) (fun h20 => ?_)
    · refine g_iconst (x := 0) rfl dX7_isSo_48 ?_
      refine g_nm (fun x4 hx4 => ?_)
      refine g_istore (ls' := [some (zR 178), some (zI s), some (zI f), some (zI n), some (zI x4), some (zI i)]) dX7_isSo_49 (by decide) rfl ?_
      refine g_iinc (x := i) (y := i + 1) (ls' := [some (zR 178), some (zI s), some (zI f), some (zI n), some (zI x4), some (zI (i + 1))]) dX7_isSo_51 rfl (rfl) (by decide) rfl ?_
      refine g_goto (t := 6) dX7_isSo_54 (by decide) ?_
      have hh := ih (by omega)
      rw [zso_s _ _ _ h0, show (if zso (wb 38 ι) s (fun e => ι 183 (f + e)) i = 1 ∧ pasI (wb 38 ι) (i + 1) (14 + s) = ι 183 (f + i) then (1 : Int) else 0) = x4 by first | rw [if_pos (by omega), hx4] | rw [if_neg (by omega), hx4]] at hh
      rw [hι2]
      exact hh
    · refine g_aload_n (x := 178) rfl dX7_isSo_23 ?_
      refine g_get fgX7_7 zcl_7 (congrArg Prod.fst sh_178) (by decide) rg_178_0 dX7_isSo_24 ?_
      refine g_bipush (x := 52) (by decide) dX7_isSo_27 ?_
      refine g_iload_n (x := s) rfl dX7_isSo_29 ?_
      refine g_iadd dX7_isSo_30 ?_
      refine g_iald sh_179 (by decide) (by omega) (by omega) (by decide) ag_179 dX7_isSo_31 ?_
      refine g_aload_n (x := 178) rfl dX7_isSo_32 ?_
      refine g_get fgX7_22 zcl_7 (congrArg Prod.fst sh_178) (by decide) rg_178_8 dX7_isSo_33 ?_
      refine g_iload_n (x := f) rfl dX7_isSo_36 ?_
      refine g_iload (x := i) rfl dX7_isSo_37 ?_
      refine g_iadd dX7_isSo_39 ?_
      refine g_iald sh_183 (by decide) (by omega) (by omega) (by decide) ag_183 dX7_isSo_40 ?_
      rw [e5, e6]
      refine g_icmp_ne ⟨by omega, by omega⟩ ⟨by omega, by omega⟩ (t := 48) dX7_isSo_41 (by decide) (fun h41 => ?_) (fun h41 => ?_)
      · refine g_iconst (x := 0) rfl dX7_isSo_48 ?_
        refine g_nm (fun x4 hx4 => ?_)
        refine g_istore (ls' := [some (zR 178), some (zI s), some (zI f), some (zI n), some (zI x4), some (zI i)]) dX7_isSo_49 (by decide) rfl ?_
        refine g_iinc (x := i) (y := i + 1) (ls' := [some (zR 178), some (zI s), some (zI f), some (zI n), some (zI x4), some (zI (i + 1))]) dX7_isSo_51 rfl (rfl) (by decide) rfl ?_
        refine g_goto (t := 6) dX7_isSo_54 (by decide) ?_
        have hh := ih (by omega)
        rw [zso_s _ _ _ h0, show (if zso (wb 38 ι) s (fun e => ι 183 (f + e)) i = 1 ∧ pasI (wb 38 ι) (i + 1) (14 + s) = ι 183 (f + i) then (1 : Int) else 0) = x4 by first | rw [if_pos (by omega), hx4] | rw [if_neg (by omega), hx4]] at hh
        rw [hι2]
        exact hh
      · refine g_iconst (x := 1) rfl dX7_isSo_44 ?_
        refine g_goto (t := 49) dX7_isSo_45 (by decide) ?_
        refine g_nm (fun x4 hx4 => ?_)
        refine g_istore (ls' := [some (zR 178), some (zI s), some (zI f), some (zI n), some (zI x4), some (zI i)]) dX7_isSo_49 (by decide) rfl ?_
        refine g_iinc (x := i) (y := i + 1) (ls' := [some (zR 178), some (zI s), some (zI f), some (zI n), some (zI x4), some (zI (i + 1))]) dX7_isSo_51 rfl (rfl) (by decide) rfl ?_
        refine g_goto (t := 6) dX7_isSo_54 (by decide) ?_
        have hh := ih (by omega)
        rw [zso_s _ _ _ h0, show (if zso (wb 38 ι) s (fun e => ι 183 (f + e)) i = 1 ∧ pasI (wb 38 ι) (i + 1) (14 + s) = ι 183 (f + i) then (1 : Int) else 0) = x4 by first | rw [if_pos (by omega), hx4] | rw [if_neg (by omega), hx4]] at hh
        rw [hι2]
        exact hh

set_option maxRecDepth 100000 in
theorem c_isSo (hV : zVT (wb 38 ι)) (hB : 0 < wb 38 ι 1) {s f n : Int} (hs : 0 ≤ s ∧ s < wb 38 ι 0) (hn : 0 ≤ n ∧ n ≤ 12) (h4 : wb 38 ι 4 + n ≤ 20000) (hf : 0 ≤ f ∧ f + n ≤ 320) (hI : ∀ k, 0 ≤ k → k < 320 → zB (ι 183 k)) : zCi l (zc D ad L z) mX7_isSo 4 [zR 178, zI s, zI f, zI n] ι (fun v ι' => v = some (zI (zso (wb 38 ι) s (fun e => ι 183 (f + e)) n)) ∧ zSc ι ι') := by
  refine zCt_of (by decide) (Nat.le_of_ble_eq_true rfl) 2 rfl ?_
  refine g_iconst (x := 1) rfl dX7_isSo_0 ?_
  refine g_istore (ls' := [some (zR 178), some (zI s), some (zI f), some (zI n), some (zI 1), none]) dX7_isSo_1 (by decide) rfl ?_
  refine g_iconst (x := 0) rfl dX7_isSo_3 ?_
  refine g_istore (ls' := [some (zR 178), some (zI s), some (zI f), some (zI n), some (zI 1), some (zI 0)]) dX7_isSo_4 (by decide) rfl ?_
  have hh := lp_isSo (l := l) (D := D) (ad := ad) (L := L) (z := z) hV hB hs hn h4 hf hI 0 (by omega) (by omega)
  rw [zso_0, pasI_0, wp_wb] at hh
  exact hh

set_option maxRecDepth 100000 in
theorem lp_drawn (hV : zVT (wb 38 ι)) (hN : 0 < wb 0 ι 0) (hB : 0 < wb 0 ι 1) (eN : wb 38 ι 0 = wb 0 ι 0) (eB : wb 38 ι 1 = wb 0 ι 1) {n x w : Int} (hn : 0 ≤ n ∧ n ≤ 60) (hx : 1 ≤ x ∧ x ≤ 999999) (h4 : wb 38 ι 4 + n ≤ 20000) (hw : 0 ≤ w ∧ w ≤ 1) : ∀ i : Int, 0 ≤ i → i ≤ n → zGi l (zc D ad L z) mX7_drawn 4 66 [some (zR 178), some (zI n), some (zI x), some (zI w), some (zL (zdx x i)), none, some (zI i), none] [] (wp 38 (zdr x (wb 38 ι) i) ι) (fun v ι' => v = some (zI (if w = 0 then zdr x (wb 38 ι) n 5 else zon (zaw (fun k => zdr x (wb 38 ι) n (14 + k)) (wb 0 ι 0)))) ∧ zSc ι ι') := by
  refine z_loopI (fun i h0 h1 ih => ?_)
  obtain ⟨ι1, hι1⟩ : ∃ y, y = wp 38 (zdr x (wb 38 ι) i) ι := ⟨_, rfl⟩
  rw [← hι1]
  refine g_iload (x := i) rfl dX7_drawn_66 ?_
  refine g_iload_n (x := n) rfl dX7_drawn_68 ?_
  refine g_icmp_ge ⟨by omega, by omega⟩ ⟨by omega, by omega⟩ (t := 167) dX7_drawn_69 (by decide) (fun h69 => ?_) (fun h69 => ?_)
  · have ei : i = n := by omega
    rw [ei] at hι1
    obtain ⟨g1, g2, g3, g4, g5⟩ := zdr_V (x := x) (wb_tz 38 ι) hV (by omega) (by omega) hn.1 (by omega)
    have etb : wb 38 ι1 = zdr x (wb 38 ι) n := by rw [hι1, wb_wp 38 g2]
    refine g_iload_n (x := w) rfl dX7_drawn_167 ?_
    refine g_if_ne ⟨by omega, by omega⟩ (t := 181) dX7_drawn_168 (by decide) (fun h168 => ?_) (fun h168 => ?_)
    · refine g_aload_n (x := 178) rfl dX7_drawn_181 ?_
      refine g_bipush (x := 38) (by decide) dX7_drawn_182 ?_
      refine i_callVp mvX7_awake tw_994 (ci := 7) (congrArg Prod.fst sh_178) rfl (by decide) (c_mAwake (by decide) (by rw [etb]; exact g1.1) (fun k q0 q1 => by rw [etb] at q1 ⊢; have := (g1.2.2.2.2.2.2.1 k q0 q1).2.1; exact ⟨by omega, by omega⟩)) (by decide) (st' := []) rfl (Nat.le_of_ble_eq_true rfl) rfl dX7_drawn_184 ?_
      refine i_callSp msX7_ones tw_1069 (c_ones) (by decide) (st' := []) rfl (Nat.le_of_ble_eq_true rfl) rfl dX7_drawn_187 ?_
      exact i_iret rfl dX7_drawn_190 (⟨by rw [if_neg (by omega), etb, g3, eN], ⟨_, hι1⟩⟩)
    · refine g_aload_n (x := 178) rfl dX7_drawn_171 ?_
      refine g_get fgX7_7 zcl_7 (congrArg Prod.fst sh_178) (by decide) rg_178_0 dX7_drawn_172 ?_
      refine g_bipush (x := 43) (by decide) dX7_drawn_175 ?_
      refine g_iald sh_179 (by decide) (by omega) (by omega) (by decide) ag_179 dX7_drawn_177 ?_
      refine g_goto (t := 190) dX7_drawn_178 (by decide) ?_
      exact i_iret rfl dX7_drawn_190 (⟨by rw [if_pos (by omega), hι1]; rw [show (43 : Int) = 38 + 5 by decide, wp_i 38 _ _ (by decide) (by decide)], ⟨_, hι1⟩⟩)
  · obtain ⟨g1, g2, g3, g4, g5⟩ := zdr_V (x := x) (wb_tz 38 ι) hV (by omega) (by omega) h0 (by omega)
    have etb : wb 38 ι1 = zdr x (wb 38 ι) i := by rw [hι1, wb_wp 38 g2]
    have hxb := zdx_b hx h0
    have hxc := zdx_b hx (n := i + 1) (by omega)
    have hN8 := hV.1
    have hB8 := hV.2.1
    have o0 : ι1 179 0 = wb 0 ι 0 := by rw [hι1, wp_o _ _ _ (by omega), w0 ι (by decide) (by decide)]
    have o1 : ι1 179 1 = wb 0 ι 1 := by rw [hι1, wp_o _ _ _ (by omega), w0 ι (by decide) (by decide)]
    have a0 := Int.emod_nonneg (zdx x (i + 1)) (show wb 0 ι 0 ≠ 0 by omega)
    have a1 := Int.emod_lt_of_pos (zdx x (i + 1)) hN
    have b0 := Int.emod_nonneg (zdx x (i + 1)) (show wb 0 ι 1 ≠ 0 by omega)
    have b1 := Int.emod_lt_of_pos (zdx x (i + 1)) hB
    obtain ⟨j1, j2, j3, j4, j5⟩ := zdw_V g2 g1 (by omega) (by omega) (x := zdx x (i + 1))
    refine g_lload (x := (zdx x i)) rfl dX7_drawn_72 ?_
    refine g_ldc2 (x := 16807) tw_1112 (by decide) dX7_drawn_74 ?_
    refine g_lmul dX7_drawn_77 ?_
    refine g_ldc2 (x := 2147483647) tw_1113 (by decide) dX7_drawn_78 ?_
    refine g_lrem (by omega) (by omega) (by omega) (by omega) dX7_drawn_81 ?_
    rw [← zdx_s x h0]
    obtain ⟨y, hy⟩ : ∃ y, y = zdx x (i + 1) := ⟨_, rfl⟩
    rw [← hy] at hxc a0 a1 b0 b1 j1 j2 j3 j4 j5 ⊢
    refine g_lstore (ls' := [some (zR 178), some (zI n), some (zI x), some (zI w), some (zL y), none, some (zI i), none]) dX7_drawn_82 (by decide) rfl ?_
    refine g_lload (x := y) rfl dX7_drawn_84 ?_
    refine g_aload_n (x := 178) rfl dX7_drawn_86 ?_
    refine g_get fgX7_7 zcl_7 (congrArg Prod.fst sh_178) (by decide) rg_178_0 dX7_drawn_87 ?_
    refine g_iconst (x := 0) rfl dX7_drawn_90 ?_
    refine g_iald sh_179 (by decide) (by omega) (by omega) (by decide) ag_179 dX7_drawn_91 ?_
    rw [o0]
    refine g_i2l ⟨by omega, by omega⟩ dX7_drawn_92 ?_
    refine g_lrem (by omega) (by omega) (by omega) (by omega) dX7_drawn_93 ?_
    refine g_l2i dX7_drawn_94 ?_
    refine g_istore (ls' := [some (zR 178), some (zI n), some (zI x), some (zI w), some (zL y), none, some (zI i), some (zI (y % (wb 0 ι 0)))]) dX7_drawn_95 (by decide) rfl ?_
    refine g_lload (x := y) rfl dX7_drawn_97 ?_
    refine g_ldc2 (x := 3) tw_1010 (by decide) dX7_drawn_99 ?_
    refine g_lrem (by omega) (by omega) (by omega) (by omega) dX7_drawn_102 ?_
    refine g_lconst (x := 0) (by decide) dX7_drawn_103 ?_
    refine g_lcmp ⟨by omega, by omega⟩ ⟨by omega, by omega⟩ dX7_drawn_104 ?_
    refine g_if_ne (zcmp_b _ _) (t := 132) dX7_drawn_105 (by decide) (fun h105 => ?_) (fun h105 => ?_)
    · have hm3 : ¬ y % 3 = 0 := fun h => h105 (zcmp_eq0.2 h)
      refine g_lload (x := y) rfl dX7_drawn_132 ?_
      refine g_ldc2 (x := 5) tw_1114 (by decide) dX7_drawn_134 ?_
      refine g_lrem (by omega) (by omega) (by omega) (by omega) dX7_drawn_137 ?_
      refine g_lconst (x := 0) (by decide) dX7_drawn_138 ?_
      refine g_lcmp ⟨by omega, by omega⟩ ⟨by omega, by omega⟩ dX7_drawn_139 ?_
      refine g_if_ne (zcmp_b _ _) (t := 155) dX7_drawn_140 (by decide) (fun h140 => ?_) (fun h140 => ?_)
      · have hm5 : ¬ y % 5 = 0 := fun h => h140 (zcmp_eq0.2 h)
        have e2 : ι1 = wp 38 (zdw y (zdr x (wb 38 ι) i)) ι := by
          unfold zdw
          rw [if_neg hm3, if_neg hm5, hι1]
        have e3 : wb 38 ι1 = zdw y (zdr x (wb 38 ι) i) := by rw [e2, wb_wp 38 j2]
        refine g_aload_n (x := 178) rfl dX7_drawn_155 ?_
        refine g_bipush (x := 38) (by decide) dX7_drawn_156 ?_
        refine i_callV mvX7_passes tw_972 (ci := 7) (congrArg Prod.fst sh_178) rfl (by decide) (c_passes (by decide) (by rw [e3]; exact j1) (by rw [e3, j4, g4, eB]; exact hB)) (by decide) (st' := []) rfl (Nat.le_of_ble_eq_true rfl) rfl dX7_drawn_158 (fun v_1 ι3 hq_158 => ?_)
        obtain ⟨rfl, hι3⟩ := hq_158
        rw [e3, e2, wp_wp, hy, ← zdr_s _ _ h0] at hι3
        refine g_iinc (x := i) (y := i + 1) (ls' := [some (zR 178), some (zI n), some (zI x), some (zI w), some (zL y), none, some (zI (i + 1)), some (zI (y % (wb 0 ι 0)))]) dX7_drawn_161 rfl (rfl) (by decide) rfl ?_
        refine g_goto (t := 66) dX7_drawn_164 (by decide) ?_
        rw [hι3]
        have hh := ih (by omega)
        rw [← hy] at hh
        exact g_drop (by repeat' constructor) hh
      · have hm5 : y % 5 = 0 := zcmp_eq0.1 h140
        refine g_aload_n (x := 178) rfl dX7_drawn_143 ?_
        refine g_get fgX7_7 zcl_7 (congrArg Prod.fst sh_178) (by decide) rg_178_0 dX7_drawn_144 ?_
        refine g_bipush (x := 60) (by decide) dX7_drawn_147 ?_
        refine g_iload (x := (y % (wb 0 ι 0))) rfl dX7_drawn_149 ?_
        refine g_iadd dX7_drawn_151 ?_
        refine g_bipush (x := 60) (by decide) dX7_drawn_152 ?_
        obtain ⟨ι2, hι2⟩ : ∃ y_, y_ = iup ι1 179 (60 + (y % (wb 0 ι 0))) 60 := ⟨_, rfl⟩
        refine i_iast sh_179 (by decide) (by decide) (by omega) (by omega) (by decide) (ι1 := ι2) (by rw [hι2]; exact au_179) dX7_drawn_154 ?_
        have e2 : ι2 = wp 38 (zdw y (zdr x (wb 38 ι) i)) ι := by
          unfold zdw
          rw [if_neg hm3, if_pos hm5, g3, eN, hι2, hι1, wp_up 38 _ _ (i := 22 + y % wb 0 ι 0) (by omega) (by omega) (by omega)]
        have e3 : wb 38 ι2 = zdw y (zdr x (wb 38 ι) i) := by rw [e2, wb_wp 38 j2]
        refine g_aload_n (x := 178) rfl dX7_drawn_155 ?_
        refine g_bipush (x := 38) (by decide) dX7_drawn_156 ?_
        refine i_callV mvX7_passes tw_972 (ci := 7) (congrArg Prod.fst sh_178) rfl (by decide) (c_passes (by decide) (by rw [e3]; exact j1) (by rw [e3, j4, g4, eB]; exact hB)) (by decide) (st' := []) rfl (Nat.le_of_ble_eq_true rfl) rfl dX7_drawn_158 (fun v_2 ι3 hq_158 => ?_)
        obtain ⟨rfl, hι3⟩ := hq_158
        rw [e3, e2, wp_wp, hy, ← zdr_s _ _ h0] at hι3
        refine g_iinc (x := i) (y := i + 1) (ls' := [some (zR 178), some (zI n), some (zI x), some (zI w), some (zL y), none, some (zI (i + 1)), some (zI (y % (wb 0 ι 0)))]) dX7_drawn_161 rfl (rfl) (by decide) rfl ?_
        refine g_goto (t := 66) dX7_drawn_164 (by decide) ?_
        rw [hι3]
        have hh := ih (by omega)
        rw [← hy] at hh
        exact g_drop (by repeat' constructor) hh
    · have hm3 : y % 3 = 0 := zcmp_eq0.1 h105
      refine g_aload_n (x := 178) rfl dX7_drawn_108 ?_
      refine g_get fgX7_7 zcl_7 (congrArg Prod.fst sh_178) (by decide) rg_178_0 dX7_drawn_109 ?_
      refine g_bipush (x := 68) (by decide) dX7_drawn_112 ?_
      refine g_lload (x := y) rfl dX7_drawn_114 ?_
      refine g_aload_n (x := 178) rfl dX7_drawn_116 ?_
      refine g_get fgX7_7 zcl_7 (congrArg Prod.fst sh_178) (by decide) rg_178_0 dX7_drawn_117 ?_
      refine g_iconst (x := 1) rfl dX7_drawn_120 ?_
      refine g_iald sh_179 (by decide) (by omega) (by omega) (by decide) ag_179 dX7_drawn_121 ?_
      rw [o1]
      refine g_i2l ⟨by omega, by omega⟩ dX7_drawn_122 ?_
      refine g_lrem (by omega) (by omega) (by omega) (by omega) dX7_drawn_123 ?_
      refine g_l2i dX7_drawn_124 ?_
      refine g_iadd dX7_drawn_125 ?_
      refine g_iload (x := (y % (wb 0 ι 0))) rfl dX7_drawn_126 ?_
      obtain ⟨ι2, hι2⟩ : ∃ y_, y_ = iup ι1 179 (68 + (y % (wb 0 ι 1))) (y % (wb 0 ι 0)) := ⟨_, rfl⟩
      refine i_iast sh_179 (by decide) (by decide) (by omega) (by omega) (by decide) (ι1 := ι2) (by rw [hι2]; exact au_179) dX7_drawn_128 ?_
      refine g_goto (t := 155) dX7_drawn_129 (by decide) ?_
      have e2 : ι2 = wp 38 (zdw y (zdr x (wb 38 ι) i)) ι := by
        unfold zdw
        rw [if_pos hm3, g3, g4, eN, eB, hι2, hι1, wp_up 38 _ _ (i := 30 + y % wb 0 ι 1) (by omega) (by omega) (by omega)]
      have e3 : wb 38 ι2 = zdw y (zdr x (wb 38 ι) i) := by rw [e2, wb_wp 38 j2]
      refine g_aload_n (x := 178) rfl dX7_drawn_155 ?_
      refine g_bipush (x := 38) (by decide) dX7_drawn_156 ?_
      refine i_callV mvX7_passes tw_972 (ci := 7) (congrArg Prod.fst sh_178) rfl (by decide) (c_passes (by decide) (by rw [e3]; exact j1) (by rw [e3, j4, g4, eB]; exact hB)) (by decide) (st' := []) rfl (Nat.le_of_ble_eq_true rfl) rfl dX7_drawn_158 (fun v_3 ι3 hq_158 => ?_)
      obtain ⟨rfl, hι3⟩ := hq_158
      rw [e3, e2, wp_wp, hy, ← zdr_s _ _ h0] at hι3
      refine g_iinc (x := i) (y := i + 1) (ls' := [some (zR 178), some (zI n), some (zI x), some (zI w), some (zL y), none, some (zI (i + 1)), some (zI (y % (wb 0 ι 0)))]) dX7_drawn_161 rfl (rfl) (by decide) rfl ?_
      refine g_goto (t := 66) dX7_drawn_164 (by decide) ?_
      rw [hι3]
      have hh := ih (by omega)
      rw [← hy] at hh
      exact g_drop (by repeat' constructor) hh

set_option maxRecDepth 100000 in
theorem c_mDrawn (hT : zTM (wb 0 ι)) {n x w : Int} (hn : zB n) (hx : zB x) (hw : zB w) : zCi l (zc D ad L z) mX7_drawn 4 [zR 178, zI n, zI x, zI w] ι (fun v ι' => v = some (zI (if ¬ (0 < wb 0 ι 0) then -1000002 else if ¬ ((0 ≤ n ∧ n ≤ 60) ∧ (1 ≤ x ∧ x ≤ 999999) ∧ (0 ≤ w ∧ w ≤ 1)) then -1000001 else if w = 0 then zdr x (ru (wb 0 ι) 5 0) n 5 else zon (zaw (fun k => zdr x (ru (wb 0 ι) 5 0) n (14 + k)) (wb 0 ι 0)))) ∧ zSc ι ι') := by
  refine zCt_of (by decide) (Nat.le_of_ble_eq_true rfl) 4 rfl ?_
  obtain ⟨hV, hNB, hH9⟩ := id hT
  obtain ⟨hV0, hV1, hV2, hV3, hV4, hV5, hVk, hVw⟩ := id hV
  have q0 := w0 ι (i := 0) (by decide) (by decide)
  have q1 := w0 ι (i := 1) (by decide) (by decide)
  have q2 := w0 ι (i := 2) (by decide) (by decide)
  have q4 := w0 ι (i := 4) (by decide) (by decide)
  refine g_aload_n (x := 178) rfl dX7_drawn_0 ?_
  refine i_callVp mvX7_isTown tw_962 (ci := 7) (congrArg Prod.fst sh_178) rfl (by decide) (c_isTown (by omega)) (by decide) (st' := []) rfl (Nat.le_of_ble_eq_true rfl) rfl dX7_drawn_1 ?_
  refine g_nm (fun b1 hq0 => ?_)
  have hb1 : ((0 < ι 179 0) ∧ b1 = 1) ∨ (¬ (0 < ι 179 0) ∧ b1 = 0) := zb_c hq0
  clear hq0
  refine g_if_ne ⟨by omega, by omega⟩ (t := 10) dX7_drawn_4 (by decide) (fun h4 => ?_) (fun h4 => ?_)
  · refine g_iload_n (x := n) rfl dX7_drawn_10 ?_
    refine g_i2l ⟨by omega, by omega⟩ dX7_drawn_11 ?_
    refine g_lconst (x := 0) (by decide) dX7_drawn_12 ?_
    refine g_ldc2 (x := 60) tw_1020 (by decide) dX7_drawn_13 ?_
    refine i_callSp msX7_in tw_876 (c_in ⟨by omega, by omega⟩ ⟨by omega, by omega⟩ ⟨by omega, by omega⟩) (by decide) (st' := []) rfl (Nat.le_of_ble_eq_true rfl) rfl dX7_drawn_16 ?_
    refine g_nm (fun b16 hq0 => ?_)
    have hb16 : ((0 ≤ n ∧ n ≤ 60) ∧ b16 = 1) ∨ (¬ (0 ≤ n ∧ n ≤ 60) ∧ b16 = 0) := zb_c hq0
    clear hq0
    refine g_if_eq ⟨by omega, by omega⟩ (t := 44) dX7_drawn_19 (by decide) (fun h19 => ?_) (fun h19 => ?_)
    · refine g_ldc (x := -1000001) tw_880 (by decide) dX7_drawn_44 ?_
      exact i_iret rfl dX7_drawn_46 (⟨by rw [if_neg (by omega), if_pos (by omega)], zSc.r ι⟩)
    · refine g_iload_n (x := x) rfl dX7_drawn_22 ?_
      refine g_i2l ⟨by omega, by omega⟩ dX7_drawn_23 ?_
      refine g_lconst (x := 1) (by decide) dX7_drawn_24 ?_
      refine g_ldc2 (x := 999999) tw_1111 (by decide) dX7_drawn_25 ?_
      refine i_callSp msX7_in tw_876 (c_in ⟨by omega, by omega⟩ ⟨by omega, by omega⟩ ⟨by omega, by omega⟩) (by decide) (st' := []) rfl (Nat.le_of_ble_eq_true rfl) rfl dX7_drawn_28 ?_
      refine g_nm (fun b28 hq0 => ?_)
      have hb28 : ((1 ≤ x ∧ x ≤ 999999) ∧ b28 = 1) ∨ (¬ (1 ≤ x ∧ x ≤ 999999) ∧ b28 = 0) := zb_c hq0
      clear hq0
      refine g_if_eq ⟨by omega, by omega⟩ (t := 44) dX7_drawn_31 (by decide) (fun h31 => ?_) (fun h31 => ?_)
      · refine g_ldc (x := -1000001) tw_880 (by decide) dX7_drawn_44 ?_
        exact i_iret rfl dX7_drawn_46 (⟨by rw [if_neg (by omega), if_pos (by omega)], zSc.r ι⟩)
      · refine g_iload_n (x := w) rfl dX7_drawn_34 ?_
        refine g_i2l ⟨by omega, by omega⟩ dX7_drawn_35 ?_
        refine g_lconst (x := 0) (by decide) dX7_drawn_36 ?_
        refine g_lconst (x := 1) (by decide) dX7_drawn_37 ?_
        refine i_callSp msX7_in tw_876 (c_in ⟨by omega, by omega⟩ ⟨by omega, by omega⟩ ⟨by omega, by omega⟩) (by decide) (st' := []) rfl (Nat.le_of_ble_eq_true rfl) rfl dX7_drawn_38 ?_
        refine g_nm (fun b38 hq0 => ?_)
        have hb38 : ((0 ≤ w ∧ w ≤ 1) ∧ b38 = 1) ∨ (¬ (0 ≤ w ∧ w ≤ 1) ∧ b38 = 0) := zb_c hq0
        clear hq0
        refine g_if_ne ⟨by omega, by omega⟩ (t := 47) dX7_drawn_41 (by decide) (fun h41 => ?_) (fun h41 => ?_)
        · refine g_aload_n (x := 178) rfl dX7_drawn_47 ?_
          refine i_callV mvX7_tries tw_1037 (ci := 7) (congrArg Prod.fst sh_178) rfl (by decide) (c_tries) (by decide) (st' := []) rfl (Nat.le_of_ble_eq_true rfl) rfl dX7_drawn_48 (fun v_1 ι1 hq_48 => ?_)
          obtain ⟨rfl, hι1⟩ := hq_48
          refine g_aload_n (x := 178) rfl dX7_drawn_51 ?_
          refine g_get fgX7_7 zcl_7 (congrArg Prod.fst sh_178) (by decide) rg_178_0 dX7_drawn_52 ?_
          refine g_bipush (x := 43) (by decide) dX7_drawn_55 ?_
          refine g_iconst (x := 0) rfl dX7_drawn_57 ?_
          obtain ⟨ι2, hι2⟩ : ∃ y_, y_ = iup ι1 179 43 0 := ⟨_, rfl⟩
          refine i_iast sh_179 (by decide) (by decide) (by omega) (by omega) (by decide) (ι1 := ι2) (by rw [hι2]; exact au_179) dX7_drawn_58 ?_
          refine g_iload_n (x := x) rfl dX7_drawn_59 ?_
          refine g_i2l ⟨by omega, by omega⟩ dX7_drawn_60 ?_
          refine g_lstore (ls' := [some (zR 178), some (zI n), some (zI x), some (zI w), some (zL x), none, none, none]) dX7_drawn_61 (by decide) rfl ?_
          refine g_iconst (x := 0) rfl dX7_drawn_63 ?_
          refine g_istore (ls' := [some (zR 178), some (zI n), some (zI x), some (zI w), some (zL x), none, some (zI 0), none]) dX7_drawn_64 (by decide) rfl ?_
          rw [if_neg (by omega), if_neg (by omega)]
          have e2 : ι2 = wp 38 (ru (wb 0 ι) 5 0) ι := by rw [hι2, hι1, wp_up 38 _ _ (i := 5) (by decide) (by decide) (by decide)]
          have f1 := zVT_5 hV (v := 0) (by decide)
          have f2 : tz (ru (wb 0 ι) 5 0) := ru_tz (wb_tz 0 ι) (by decide) (by decide)
          have e3 : wb 38 ι2 = ru (wb 0 ι) 5 0 := by rw [e2, wb_wp 38 f2]
          have e0 : wb 0 ι2 = wb 0 ι := by rw [e2, wb_wpo (Or.inl (by decide))]
          have hh := lp_drawn (l := l) (D := D) (ad := ad) (L := L) (z := z) (ι := ι2) (by rw [e3]; exact f1) (by rw [e0]; omega) (by rw [e0]; omega) (by rw [e3, e0]; exact ru_n _ (by decide)) (by rw [e3, e0]; exact ru_n _ (by decide)) (n := n) (x := x) (w := w) (by omega) (by omega) (by rw [e3, ru_n _ (by decide)]; omega) (by omega) 0 (by omega) (by omega)
          rw [zdr_0, zdx_0, wp_wb, e3, e0] at hh
          refine zGi_mono ?_ hh
          rintro v y ⟨hv, X, hX⟩
          exact ⟨hv, X, by rw [hX, e2, wp_wp]⟩
        · refine g_ldc (x := -1000001) tw_880 (by decide) dX7_drawn_44 ?_
          exact i_iret rfl dX7_drawn_46 (⟨by rw [if_neg (by omega), if_pos (by omega)], zSc.r ι⟩)
  · refine g_ldc (x := -1000002) tw_966 (by decide) dX7_drawn_7 ?_
    exact i_iret rfl dX7_drawn_9 (⟨by rw [if_pos (by omega)], zSc.r ι⟩)

end
