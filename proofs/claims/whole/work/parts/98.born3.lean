section
variable {l : Launch} {D : va_G} {ad : Nat → Nat} {L z : Nat} {ι : zi}
theorem c_acts0 {S : Nat → Int → Bool} (hS : ∀ b y, 43 ≤ b → S b y = false) (hz : zZr ι 43) : zCt l (zc D ad L z) mX0_init 3 121 1032 [zR 43] 36 (zgS S ι) (zQn ι S 43 165) := by
  refine zCt_of (by decide) (Nat.le_of_ble_eq_true rfl) 1 rfl ?_
  refine g_aload_n (x := 43) rfl dX0_init_0 ?_
  refine g_oinit tw_148 tw_24 tw_25 (by decide) (Nat.le_of_ble_eq_true rfl) dX0_init_1 ?_
  have key : ∀ m i : Nat, i + m = 24 → ∀ S' : Nat → Int → Bool, (∀ b y, b < 43 → S' b y = S b y) → S' 43 0 = true → (∀ y : Int, 0 ≤ y → y < i → S' 44 y = true) → zBt S' 45 (45 + 5 * i) → (∀ b y, 45 + 5 * i ≤ b → S' b y = false) → zGo l (zc D ad L z) mX0_init 3 (5 * m) (42 * m) 15 [some (zR 43), some (zI (i : Int))] [] (37 + 5 * i) (zgS S' ι) (zQn ι S 43 165) := by
    intro m
    induction m with
    | zero =>
      intro i hi S' e1 e2 e3 e4 e5
      refine g_iload_n (x := (i : Int)) rfl dX0_init_15 ?_
      refine g_bipush (x := 24) (by decide) dX0_init_16 ?_
      refine g_icmp_ge ⟨by omega, by omega⟩ (by decide) (t := 40) dX0_init_18 (by decide) (fun h18 => ?_) (fun h18 => ?_)
      · obtain rfl : i = 24 := by omega
        refine g_ret rfl dX0_init_40 ⟨rfl, rfl, S', rfl, e1, ?_, e5⟩
        refine zBt_j (mi := 44) (fun b y b0 b1 y0 y1 hr => ?_) (zBt_j (mi := 45) (fun b y b0 b1 y0 y1 hr => ?_) e4)
        · obtain rfl : b = 43 := by omega
          rcases (show y = 0 ∨ y = 1 ∨ y = 2 by have : y < 3 := y1; omega) with g | g | g <;> subst g
          · exact e2
          · exact absurd (hr.symm.trans (zrf_f (ι := ι) ig_43_1)) (by decide)
          · exact absurd (hr.symm.trans (zrf_f (ι := ι) ig_43_2)) (by decide)
        · obtain rfl : b = 44 := by omega
          exact e3 y y0 (by have : y < 24 := y1; omega)
      · exfalso; omega
    | succ m ih =>
      intro i hi S' e1 e2 e3 e4 e5
      have ht : zTw (45 + 5 * i) := Or.inr (Or.inr (Or.inr (Or.inr (Or.inr ⟨i, by omega, rfl⟩))))
      refine g_iload_n (x := (i : Int)) rfl dX0_init_15 ?_
      refine g_bipush (x := 24) (by decide) dX0_init_16 ?_
      refine g_icmp_ge ⟨by omega, by omega⟩ (by decide) (t := 40) dX0_init_18 (by decide) (fun h18 => ?_) (fun h18 => ?_)
      · exfalso; omega
      · refine g_aload_n (x := 43) rfl dX0_init_21 ?_
        refine g_get fgX0_11 zcl_0 (congrArg Prod.fst sh_43) (by omega) (v := zR 44) (by show zgS S' ι 43 0 = zR 44; rw [zgS_t e2]; rfl) dX0_init_22 ?_
        refine g_iload_n (x := (i : Int)) rfl dX0_init_25 ?_
        refine g_new (ci := 5) (nn := 10) (mc := 5 * m + 4) (ms := 42 * m + 32) (n := 37 + 5 * i) (σ' := zgS S' ι) rfl (zcl_5 _ rfl) tw_149 tw_76 tw_5 (by rw [show 8 + (37 + 5 * i) = 45 + 5 * i by omega]; exact congrArg Prod.fst ht.s0) (fun _ _ => rfl) (df_town ht (fun y => e5 _ y (by omega)) (fun x => hz.1 _ _ (by omega) (by omega)) (by omega) _ rfl) (by omega) (by omega) dX0_init_26 ?_
        rw [show 8 + (37 + 5 * i) = 45 + 5 * i by omega]
        refine g_dupR dX0_init_29 ?_
        refine g_callN mnX5_init (zNest_m (k := 2) rfl) (c_town0 (a := 45 + 5 * i) (n := 37 + 5 * i + 1) ht (by omega) (fun b y hb => e5 b y hb) (fun b x b0 b1 => hz.1 b x (by omega) (by omega))) (by decide) (st' := [zR (45 + 5 * i), zI (i : Int), zR 44]) rfl (Nat.le_of_ble_eq_true rfl) rfl (mc := 5 * m) (ms := 42 * m) (by omega) (by omega) dX0_init_30 (fun v n' σ' hq => ?_)
        obtain ⟨rfl, hn, S2, rfl, s1, s2, s3⟩ := hq
        obtain rfl : n' = 37 + 5 * (i + 1) := by omega
        refine g_aast sh_44 (by omega) (by decide) (congrArg Prod.fst ht.s0) (by omega) (by omega) (by omega) (by decide) dX0_init_33 ?_
        rw [zgS_put (show zg ι 44 (i : Int) = zR (45 + 5 * i) by rw [ag_44, show ((i : Int)).toNat = i by omega])]
        refine g_iinc (x := (i : Int)) (y := ((i + 1 : Nat) : Int)) (ls' := [some (zR 43), some (zI ((i + 1 : Nat) : Int))]) dX0_init_34 rfl (by omega) (by decide) rfl ?_
        refine g_goto (t := 15) dX0_init_37 (by decide) ?_
        refine ih (i + 1) (by omega) (sset S2 44 i) (fun b y hb => ?_) ?_ (fun y y0 y1 => ?_) (zBt_s (zBt_j (mi := 45 + 5 * i) (zBt_c e4 (fun b y hb => s1 b y hb)) (by rw [show 45 + 5 * (i + 1) = 45 + 5 * i + 5 by omega]; exact s2))) (fun b y hb => ?_)
        · rw [sset_n (by omega), s1 b y (by omega)]; exact e1 b y hb
        · rw [sset_n (by omega), s1 43 0 (by omega)]; exact e2
        · by_cases g : y = i
          · rw [g]; exact sset_s _ _ _
          · rw [sset_n (by omega), s1 44 y (by omega)]; exact e3 y y0 (by omega)
        · rw [sset_n (by omega)]; exact s3 b y (by omega)
  refine g_aload_n (x := 43) rfl dX0_init_4 ?_
  refine g_bipush (x := 24) (by decide) dX0_init_5 ?_
  refine g_anew (N := 24) (mc := 120) (ms := 1008) (n := 36) (σ' := zgS S ι) tw_149 rfl (by decide) sh_44 (fun _ _ => rfl) (fun j hj => by rw [show 8 + 36 = 44 from rfl, zgS_n ag_44 (hS _ _ (by decide))]) rfl rfl dX0_init_7 ?_
  rw [show 8 + 36 = 44 from rfl]
  refine g_putF fwX0_11 rfl zcl_0 (congrArg Prod.fst sh_43) (by decide) (by decide) rfl rfl dX0_init_10 ?_
  rw [zgS_put rg_43_0]
  refine g_iconst (x := 0) rfl dX0_init_13 ?_
  refine g_istore_n (ls' := [some (zR 43), some (zI 0)]) dX0_init_14 (by decide) rfl ?_
  exact key 24 0 (by decide) (sset S 43 0) (fun b y hb => sset_n (by omega)) (sset_s _ _ _) (fun y y0 y1 => by omega) (fun b y b0 b1 => by omega) (fun b y hb => by rw [sset_n (by omega)]; exact hS b y (by omega))
theorem c_model0 {S : Nat → Int → Bool} (hS : ∀ b y, 178 ≤ b → S b y = false) (hz : zZr ι 178) : zCt l (zc D ad L z) mX7_init 1 9 1610 [zR 178] 171 (zgS S ι) (zQn (ifill ι 181 (-1) 8) S 178 188) := by
  refine zCt_of (by decide) (Nat.le_of_ble_eq_true rfl) 1 rfl ?_
  refine g_aload_n (x := 178) rfl dX7_init_0 ?_
  refine g_oinit tw_814 tw_24 tw_25 (by decide) (Nat.le_of_ble_eq_true rfl) dX7_init_1 ?_
  refine g_aload_n (x := 178) rfl dX7_init_4 ?_
  refine g_sipush (x := 1102) (by decide) dX7_init_5 ?_
  refine g_newI (N := 1102) (mc := 8) (ms := 508) (n := 171) (σ' := zgS S ι) tw_49 rfl (by decide) sh_179 (fun _ _ => rfl) (fun j hj => by rw [show 8 + 171 = 179 from rfl, zgS_i ag_179, hz.1 _ _ (by omega) (by omega)]) rfl rfl dX7_init_8 ?_
  rw [show 8 + 171 = 179 from rfl]
  refine g_putF fwX7_7 rfl zcl_7 (congrArg Prod.fst sh_178) (by decide) (by decide) rfl rfl dX7_init_10 ?_
  rw [zgS_put rg_178_0]
  refine g_aload_n (x := 178) rfl dX7_init_13 ?_
  refine g_bipush (x := 110) (by decide) dX7_init_14 ?_
  refine g_newI (N := 110) (mc := 7) (ms := 398) (n := 172) (σ' := zgS (sset S 178 0) ι) tw_49 rfl (by decide) sh_180 (fun _ _ => rfl) (fun j hj => by rw [show 8 + 172 = 180 from rfl, zgS_i ag_180, hz.1 _ _ (by omega) (by omega)]) rfl rfl dX7_init_16 ?_
  rw [show 8 + 172 = 180 from rfl]
  refine g_putF fwX7_13 rfl zcl_7 (congrArg Prod.fst sh_178) (by decide) (by decide) rfl rfl dX7_init_18 ?_
  rw [zgS_put rg_178_2]
  refine g_aload_n (x := 178) rfl dX7_init_21 ?_
  refine g_bipush (x := 8) (by decide) dX7_init_22 ?_
  refine g_newI (N := 8) (mc := 6) (ms := 390) (n := 173) (σ' := zgS (sset (sset S 178 0) 178 2) ι) tw_49 rfl (by decide) sh_181 (fun _ _ => rfl) (fun j hj => by rw [show 8 + 173 = 181 from rfl, zgS_i ag_181, hz.1 _ _ (by omega) (by omega)]) rfl rfl dX7_init_24 ?_
  rw [show 8 + 173 = 181 from rfl]
  refine g_putF fwX7_16 rfl zcl_7 (congrArg Prod.fst sh_178) (by decide) (by decide) rfl rfl dX7_init_26 ?_
  rw [zgS_put rg_178_6]
  refine g_aload_n (x := 178) rfl dX7_init_29 ?_
  refine g_bipush (x := 8) (by decide) dX7_init_30 ?_
  refine g_newI (N := 8) (mc := 5) (ms := 382) (n := 174) (σ' := zgS (sset (sset (sset S 178 0) 178 2) 178 6) ι) tw_49 rfl (by decide) sh_182 (fun _ _ => rfl) (fun j hj => by rw [show 8 + 174 = 182 from rfl, zgS_i ag_182, hz.1 _ _ (by omega) (by omega)]) rfl rfl dX7_init_32 ?_
  rw [show 8 + 174 = 182 from rfl]
  refine g_putF fwX7_19 rfl zcl_7 (congrArg Prod.fst sh_178) (by decide) (by decide) rfl rfl dX7_init_34 ?_
  rw [zgS_put rg_178_7]
  refine g_aload_n (x := 178) rfl dX7_init_37 ?_
  refine g_sipush (x := 320) (by decide) dX7_init_38 ?_
  refine g_newI (N := 320) (mc := 4) (ms := 62) (n := 175) (σ' := zgS (sset (sset (sset (sset S 178 0) 178 2) 178 6) 178 7) ι) tw_49 rfl (by decide) sh_183 (fun _ _ => rfl) (fun j hj => by rw [show 8 + 175 = 183 from rfl, zgS_i ag_183, hz.1 _ _ (by omega) (by omega)]) rfl rfl dX7_init_41 ?_
  rw [show 8 + 175 = 183 from rfl]
  refine g_putF fwX7_22 rfl zcl_7 (congrArg Prod.fst sh_178) (by decide) (by decide) rfl rfl dX7_init_43 ?_
  rw [zgS_put rg_178_8]
  refine g_aload_n (x := 178) rfl dX7_init_46 ?_
  refine g_bipush (x := 40) (by decide) dX7_init_47 ?_
  refine g_newI (N := 40) (mc := 3) (ms := 22) (n := 176) (σ' := zgS (sset (sset (sset (sset (sset S 178 0) 178 2) 178 6) 178 7) 178 8) ι) tw_49 rfl (by decide) sh_184 (fun _ _ => rfl) (fun j hj => by rw [show 8 + 176 = 184 from rfl, zgS_i ag_184, hz.1 _ _ (by omega) (by omega)]) rfl rfl dX7_init_49 ?_
  rw [show 8 + 176 = 184 from rfl]
  refine g_putF fwX7_25 rfl zcl_7 (congrArg Prod.fst sh_178) (by decide) (by decide) rfl rfl dX7_init_51 ?_
  rw [zgS_put rg_178_9]
  refine g_aload_n (x := 178) rfl dX7_init_54 ?_
  refine g_iconst (x := 4) rfl dX7_init_55 ?_
  refine g_newI (N := 4) (mc := 2) (ms := 18) (n := 177) (σ' := zgS (sset (sset (sset (sset (sset (sset S 178 0) 178 2) 178 6) 178 7) 178 8) 178 9) ι) tw_49 rfl (by decide) sh_185 (fun _ _ => rfl) (fun j hj => by rw [show 8 + 177 = 185 from rfl, zgS_i ag_185, hz.1 _ _ (by omega) (by omega)]) rfl rfl dX7_init_56 ?_
  rw [show 8 + 177 = 185 from rfl]
  refine g_putF fwX7_28 rfl zcl_7 (congrArg Prod.fst sh_178) (by decide) (by decide) rfl rfl dX7_init_58 ?_
  rw [zgS_put rg_178_13]
  refine g_aload_n (x := 178) rfl dX7_init_61 ?_
  refine g_iconst (x := 2) rfl dX7_init_62 ?_
  refine g_newZ (N := 2) (mc := 1) (ms := 16) (n := 178) (σ' := zgS (sset (sset (sset (sset (sset (sset (sset S 178 0) 178 2) 178 6) 178 7) 178 8) 178 9) 178 13) ι) tw_867 rfl (by decide) sh_186 (fun _ _ => rfl) (fun j hj => by rw [show 8 + 178 = 186 from rfl, zgS_i ag_186, hz.1 _ _ (by omega) (by omega)]) rfl rfl dX7_init_63 ?_
  rw [show 8 + 178 = 186 from rfl]
  refine g_putF fwX7_31 rfl zcl_7 (congrArg Prod.fst sh_178) (by decide) (by decide) rfl rfl dX7_init_65 ?_
  rw [zgS_put rg_178_14]
  refine g_aload_n (x := 178) rfl dX7_init_68 ?_
  refine g_bipush (x := 16) (by decide) dX7_init_69 ?_
  refine g_newI (N := 16) (mc := 0) (ms := 0) (n := 179) (σ' := zgS (sset (sset (sset (sset (sset (sset (sset (sset S 178 0) 178 2) 178 6) 178 7) 178 8) 178 9) 178 13) 178 14) ι) tw_49 rfl (by decide) sh_187 (fun _ _ => rfl) (fun j hj => by rw [show 8 + 179 = 187 from rfl, zgS_i ag_187, hz.1 _ _ (by omega) (by omega)]) rfl rfl dX7_init_71 ?_
  rw [show 8 + 179 = 187 from rfl]
  refine g_putF fwX7_35 rfl zcl_7 (congrArg Prod.fst sh_178) (by decide) (by decide) rfl rfl dX7_init_73 ?_
  rw [zgS_put rg_178_15]
  obtain ⟨S1, hS1⟩ : ∃ S1 : Nat → Int → Bool, S1 = sset (sset (sset (sset (sset (sset (sset (sset (sset S 178 0) 178 2) 178 6) 178 7) 178 8) 178 9) 178 13) 178 14) 178 ((15 : Nat) : Int) := ⟨_, rfl⟩
  rw [← hS1]
  have f1 : ∀ b y, b < 178 → S1 b y = S b y := fun b y hb => by rw [hS1, sset_n (by omega), sset_n (by omega), sset_n (by omega), sset_n (by omega), sset_n (by omega), sset_n (by omega), sset_n (by omega), sset_n (by omega), sset_n (by omega)]
  have f3 : ∀ b y, 188 ≤ b → S1 b y = false := fun b y hb => by rw [hS1, sset_n (by omega), sset_n (by omega), sset_n (by omega), sset_n (by omega), sset_n (by omega), sset_n (by omega), sset_n (by omega), sset_n (by omega), sset_n (by omega)]; exact hS b y (by omega)
  have f2 : zBt S1 178 188 := fun b y b0 b1 y0 y1 hr => by
    rw [hS1]
    · rcases (show b = 178 ∨ b = 179 ∨ b = 180 ∨ b = 181 ∨ b = 182 ∨ b = 183 ∨ b = 184 ∨ b = 185 ∨ b = 186 ∨ b = 187 by omega) with g | g | g | g | g | g | g | g | g | g <;> subst g
      · rcases (show y = 0 ∨ y = 1 ∨ y = 2 ∨ y = 3 ∨ y = 4 ∨ y = 5 ∨ y = 6 ∨ y = 7 ∨ y = 8 ∨ y = 9 ∨ y = 10 ∨ y = 11 ∨ y = 12 ∨ y = 13 ∨ y = 14 ∨ y = 15 ∨ y = 16 by have : y < 17 := y1; omega) with g | g | g | g | g | g | g | g | g | g | g | g | g | g | g | g | g <;> subst g
        · rw [sset_n (by omega), sset_n (by omega), sset_n (by omega), sset_n (by omega), sset_n (by omega), sset_n (by omega), sset_n (by omega), sset_n (by omega)]; exact sset_s _ _ _
        · exact absurd (hr.symm.trans (zrf_f (ι := ι) ig_178_1)) (by decide)
        · rw [sset_n (by omega), sset_n (by omega), sset_n (by omega), sset_n (by omega), sset_n (by omega), sset_n (by omega), sset_n (by omega)]; exact sset_s _ _ _
        · exact absurd (hr.symm.trans (zrf_f (ι := ι) ig_178_3)) (by decide)
        · exact absurd (hr.symm.trans (zrf_f (ι := ι) ig_178_4)) (by decide)
        · exact absurd (hr.symm.trans (zrf_f (ι := ι) ig_178_5)) (by decide)
        · rw [sset_n (by omega), sset_n (by omega), sset_n (by omega), sset_n (by omega), sset_n (by omega), sset_n (by omega)]; exact sset_s _ _ _
        · rw [sset_n (by omega), sset_n (by omega), sset_n (by omega), sset_n (by omega), sset_n (by omega)]; exact sset_s _ _ _
        · rw [sset_n (by omega), sset_n (by omega), sset_n (by omega), sset_n (by omega)]; exact sset_s _ _ _
        · rw [sset_n (by omega), sset_n (by omega), sset_n (by omega)]; exact sset_s _ _ _
        · exact absurd (hr.symm.trans (zrf_f (ι := ι) ig_178_10)) (by decide)
        · exact absurd (hr.symm.trans (zrf_f (ι := ι) ig_178_11)) (by decide)
        · exact absurd (hr.symm.trans (zrf_f (ι := ι) ig_178_12)) (by decide)
        · rw [sset_n (by omega), sset_n (by omega)]; exact sset_s _ _ _
        · rw [sset_n (by omega)]; exact sset_s _ _ _
        · exact sset_s _ _ _
        · exact absurd (hr.symm.trans (zrf_f (ι := ι) ig_178_16)) (by decide)
      · exact absurd (hr.symm.trans (zrf_f (ι := ι) ag_179)) (by decide)
      · exact absurd (hr.symm.trans (zrf_f (ι := ι) ag_180)) (by decide)
      · exact absurd (hr.symm.trans (zrf_f (ι := ι) ag_181)) (by decide)
      · exact absurd (hr.symm.trans (zrf_f (ι := ι) ag_182)) (by decide)
      · exact absurd (hr.symm.trans (zrf_f (ι := ι) ag_183)) (by decide)
      · exact absurd (hr.symm.trans (zrf_f (ι := ι) ag_184)) (by decide)
      · exact absurd (hr.symm.trans (zrf_f (ι := ι) ag_185)) (by decide)
      · exact absurd (hr.symm.trans (zrf_f (ι := ι) ag_186)) (by decide)
      · exact absurd (hr.symm.trans (zrf_f (ι := ι) ag_187)) (by decide)
  have m6 : S1 178 6 = true := f2 178 6 (by decide) (by decide) (by decide) (by decide) (zrf_t (ι := ι) rg_178_6)
  have loop : ∀ i : Int, 0 ≤ i → i ≤ 8 → zGo l (zc D ad L z) mX7_init 1 0 0 78 [some (zR 178), some (zI i)] [] 180 (zgS S1 (ifill ι 181 (-1) i)) (zQn (ifill ι 181 (-1) 8) S 178 188) := by
    refine z_loopI (fun i h0 h1 ih => ?_)
    refine g_iload_n (x := i) rfl dX7_init_78 ?_
    refine g_bipush (x := 8) (by decide) dX7_init_79 ?_
    refine g_icmp_ge ⟨by omega, by omega⟩ (by decide) (t := 97) dX7_init_81 (by decide) (fun h7 => ?_) (fun h7 => ?_)
    · exact g_ret rfl dX7_init_97 ⟨rfl, rfl, S1, by rw [show i = 8 by omega], f1, f2, f3⟩
    · refine g_aload_n (x := 178) rfl dX7_init_84 ?_
      refine g_get fgX7_16 zcl_7 (congrArg Prod.fst sh_178) (by decide) (v := zR 181) (by show zgS S1 _ 178 6 = zR 181; rw [zgS_t m6]; rfl) dX7_init_85 ?_
      refine g_iload_n (x := i) rfl dX7_init_88 ?_
      refine g_iconst (x := -1) rfl dX7_init_89 ?_
      refine g_iast sh_181 (by decide) (by decide) h0 (by omega) (by decide) dX7_init_90 ?_
      rw [zgS_up ag_181 au_181, ifill_s ι 181 (-1) h0]
      refine g_iinc (x := i) (y := i + 1) (ls' := [some (zR 178), some (zI (i + 1))]) dX7_init_91 rfl (rfl) (by decide) rfl ?_
      refine g_goto (t := 78) dX7_init_94 (by decide) ?_
      exact ih (by omega)
  refine g_iconst (x := 0) rfl dX7_init_76 ?_
  refine g_istore_n (ls' := [some (zR 178), some (zI 0)]) dX7_init_77 (by decide) rfl ?_
  have hh := loop 0 (by decide) (by decide)
  rw [ifill_0] at hh
  exact hh
theorem c_peace0 {S : Nat → Int → Bool} (hS : ∀ b y, 8 ≤ b → S b y = false) (hz : zZr ι 8) : zCt l (zc D ad L z) mX6_init 4 169 1924 [zR 8] 1 (zgS S ι) (zQn (ifill ι 19 (-1) 8) S 8 178) := by
  refine zCt_of (by decide) (Nat.le_of_ble_eq_true rfl) 0 rfl ?_
  refine g_aload_n (x := 8) rfl dX6_init_0 ?_
  refine g_oinit tw_23 tw_24 tw_25 (by decide) (Nat.le_of_ble_eq_true rfl) dX6_init_1 ?_
  have hz1 : zZr (ifill ι 19 (-1) 8) 21 := ⟨fun b x hb hx => by rw [ifill_n _ (by omega)]; exact hz.1 b x (by omega) hx, by rw [ifill_n _ (by omega)]; exact hz.2.1, by rw [ifill_n _ (by omega)]; exact hz.2.2⟩
  refine g_aload_n (x := 8) rfl dX6_init_4 ?_
  have F0 : ∀ b y, 9 ≤ b → S b y = false := fun b y hb => hS b y (by omega)
  refine g_new (ci := 3) (nn := 3) (mc := 168) (ms := 1921) (n := 1) (σ' := zgS S ι) rfl (zcl_3 _ rfl) tw_26 tw_27 tw_2 (congrArg Prod.fst sh_9) (fun _ _ => rfl) (df_rows (fun y => F0 _ y (by decide)) (hz.m (by decide)) _ rfl) rfl rfl dX6_init_5 ?_
  rw [show 8 + 1 = 9 from rfl]
  refine g_dupR dX6_init_8 ?_
  refine g_callI mnX3_init tw_28 (c_rows0 (ι := ι) (fun b y hb => F0 b y (by omega)) (hz.m (by decide))) (by decide) (st' := [zR 9, zR 8]) rfl (Nat.le_of_ble_eq_true rfl) rfl (mc := 157) (ms := 1577) rfl rfl dX6_init_9 (fun v0 n0 σ0 hq0 => ?_)
  obtain ⟨rfl, hn0, S0, rfl, a0, b0, c0⟩ := hq0
  obtain rfl : n0 = 13 := by omega
  refine g_putF fwX6_10 rfl zcl_6 (congrArg Prod.fst sh_8) (by decide) (by decide) rfl rfl dX6_init_12 ?_
  rw [zgS_put rg_8_0]
  have F1 : ∀ b y, 21 ≤ b → (sset S0 8 0) b y = false := fun b y hb => by rw [sset_n (by omega)]; exact c0 b y hb
  have B1 : zBt (sset S0 8 0) 9 21 := zBt_s b0
  have p1_0 : (sset S0 8 0) 8 0 = true := sset_s _ _ _
  have q1 : ∀ b y, b < 8 → (sset S0 8 0) b y = S b y := fun b y hb => by rw [sset_n (by omega), a0 b y (by omega)]
  refine g_aload_n (x := 8) rfl dX6_init_15 ?_
  refine g_new (ci := 4) (nn := 5) (mc := 156) (ms := 1572) (n := 13) (σ' := zgS (sset S0 8 0) (ifill ι 19 (-1) 8)) rfl (zcl_4 _ rfl) tw_50 tw_51 tw_4 (congrArg Prod.fst sh_21) (fun _ _ => rfl) (df_tape (fun y => F1 _ y (by decide)) (hz1.m (by decide)) _ rfl) rfl rfl dX6_init_16 ?_
  rw [show 8 + 13 = 21 from rfl]
  refine g_dupR dX6_init_19 ?_
  refine g_callN mnX4_init (zNest_m (k := 0) rfl) (c_tape0 (ι := (ifill ι 19 (-1) 8)) (fun b y hb => F1 b y (by omega)) (hz1.m (by decide))) (by decide) (st' := [zR 21, zR 8]) rfl (Nat.le_of_ble_eq_true rfl) rfl (mc := 155) (ms := 1462) rfl rfl dX6_init_20 (fun v1 n1 σ1 hq1 => ?_)
  obtain ⟨rfl, hn1, S1, rfl, a1, b1, c1⟩ := hq1
  obtain rfl : n1 = 15 := by omega
  refine g_putF fwX6_19 rfl zcl_6 (congrArg Prod.fst sh_8) (by decide) (by decide) rfl rfl dX6_init_23 ?_
  rw [zgS_put rg_8_1]
  have F2 : ∀ b y, 23 ≤ b → (sset S1 8 1) b y = false := fun b y hb => by rw [sset_n (by omega)]; exact c1 b y hb
  have B2 : zBt (sset S1 8 1) 9 23 := zBt_s (zBt_j (mi := 21) (zBt_c B1 (fun b y hb => a1 b y hb)) b1)
  have p2_0 : (sset S1 8 1) 8 0 = true := by rw [sset_n (by omega), a1 8 0 (by omega)]; exact p1_0
  have p2_1 : (sset S1 8 1) 8 1 = true := sset_s _ _ _
  have q2 : ∀ b y, b < 8 → (sset S1 8 1) b y = S b y := fun b y hb => by rw [sset_n (by omega), a1 b y (by omega)]; exact q1 b y hb
  refine g_aload_n (x := 8) rfl dX6_init_26 ?_
  refine g_new (ci := 5) (nn := 10) (mc := 154) (ms := 1452) (n := 15) (σ' := zgS (sset S1 8 1) (ifill ι 19 (-1) 8)) rfl (zcl_5 _ rfl) tw_75 tw_76 tw_5 (congrArg Prod.fst sh_23) (fun _ _ => rfl) (df_town tt_23 (fun y => F2 _ y (by decide)) (fun x => hz1.1 _ _ (by decide) (Or.inl (by decide))) rfl _ rfl) rfl rfl dX6_init_27 ?_
  rw [show 8 + 15 = 23 from rfl]
  refine g_dupR dX6_init_30 ?_
  refine g_callN mnX5_init (zNest_m (k := 1) rfl) (c_town0 (ι := (ifill ι 19 (-1) 8)) (a := 23) (n := 16) tt_23 rfl (fun b y hb => F2 b y (by omega)) (fun b x b0 b1 => hz1.1 b x (by omega) (by omega))) (by decide) (st' := [zR 23, zR 8]) rfl (Nat.le_of_ble_eq_true rfl) rfl (mc := 150) (ms := 1420) rfl rfl dX6_init_31 (fun v2 n2 σ2 hq2 => ?_)
  obtain ⟨rfl, hn2, S2, rfl, a2, b2, c2⟩ := hq2
  obtain rfl : n2 = 20 := by omega
  refine g_putF fwX6_26 rfl zcl_6 (congrArg Prod.fst sh_8) (by decide) (by decide) rfl rfl dX6_init_34 ?_
  rw [zgS_put rg_8_2]
  have F3 : ∀ b y, 28 ≤ b → (sset S2 8 2) b y = false := fun b y hb => by rw [sset_n (by omega)]; exact c2 b y hb
  have B3 : zBt (sset S2 8 2) 9 28 := zBt_s (zBt_j (mi := 23) (zBt_c B2 (fun b y hb => a2 b y hb)) b2)
  have p3_0 : (sset S2 8 2) 8 0 = true := by rw [sset_n (by omega), a2 8 0 (by omega)]; exact p2_0
  have p3_1 : (sset S2 8 2) 8 1 = true := by rw [sset_n (by omega), a2 8 1 (by omega)]; exact p2_1
  have p3_2 : (sset S2 8 2) 8 2 = true := sset_s _ _ _
  have q3 : ∀ b y, b < 8 → (sset S2 8 2) b y = S b y := fun b y hb => by rw [sset_n (by omega), a2 b y (by omega)]; exact q2 b y hb
  refine g_aload_n (x := 8) rfl dX6_init_37 ?_
  refine g_new (ci := 5) (nn := 10) (mc := 149) (ms := 1410) (n := 20) (σ' := zgS (sset S2 8 2) (ifill ι 19 (-1) 8)) rfl (zcl_5 _ rfl) tw_75 tw_76 tw_5 (congrArg Prod.fst sh_28) (fun _ _ => rfl) (df_town tt_28 (fun y => F3 _ y (by decide)) (fun x => hz1.1 _ _ (by decide) (Or.inl (by decide))) rfl _ rfl) rfl rfl dX6_init_38 ?_
  rw [show 8 + 20 = 28 from rfl]
  refine g_dupR dX6_init_41 ?_
  refine g_callN mnX5_init (zNest_m (k := 1) rfl) (c_town0 (ι := (ifill ι 19 (-1) 8)) (a := 28) (n := 21) tt_28 rfl (fun b y hb => F3 b y (by omega)) (fun b x b0 b1 => hz1.1 b x (by omega) (by omega))) (by decide) (st' := [zR 28, zR 8]) rfl (Nat.le_of_ble_eq_true rfl) rfl (mc := 145) (ms := 1378) rfl rfl dX6_init_42 (fun v3 n3 σ3 hq3 => ?_)
  obtain ⟨rfl, hn3, S3, rfl, a3, b3, c3⟩ := hq3
  obtain rfl : n3 = 25 := by omega
  refine g_putF fwX6_30 rfl zcl_6 (congrArg Prod.fst sh_8) (by decide) (by decide) rfl rfl dX6_init_45 ?_
  rw [zgS_put rg_8_3]
  have F4 : ∀ b y, 33 ≤ b → (sset S3 8 3) b y = false := fun b y hb => by rw [sset_n (by omega)]; exact c3 b y hb
  have B4 : zBt (sset S3 8 3) 9 33 := zBt_s (zBt_j (mi := 28) (zBt_c B3 (fun b y hb => a3 b y hb)) b3)
  have p4_0 : (sset S3 8 3) 8 0 = true := by rw [sset_n (by omega), a3 8 0 (by omega)]; exact p3_0
  have p4_1 : (sset S3 8 3) 8 1 = true := by rw [sset_n (by omega), a3 8 1 (by omega)]; exact p3_1
  have p4_2 : (sset S3 8 3) 8 2 = true := by rw [sset_n (by omega), a3 8 2 (by omega)]; exact p3_2
  have p4_3 : (sset S3 8 3) 8 3 = true := sset_s _ _ _
  have q4 : ∀ b y, b < 8 → (sset S3 8 3) b y = S b y := fun b y hb => by rw [sset_n (by omega), a3 b y (by omega)]; exact q3 b y hb
  refine g_aload_n (x := 8) rfl dX6_init_48 ?_
  refine g_new (ci := 5) (nn := 10) (mc := 144) (ms := 1368) (n := 25) (σ' := zgS (sset S3 8 3) (ifill ι 19 (-1) 8)) rfl (zcl_5 _ rfl) tw_75 tw_76 tw_5 (congrArg Prod.fst sh_33) (fun _ _ => rfl) (df_town tt_33 (fun y => F4 _ y (by decide)) (fun x => hz1.1 _ _ (by decide) (Or.inl (by decide))) rfl _ rfl) rfl rfl dX6_init_49 ?_
  rw [show 8 + 25 = 33 from rfl]
  refine g_dupR dX6_init_52 ?_
  refine g_callN mnX5_init (zNest_m (k := 1) rfl) (c_town0 (ι := (ifill ι 19 (-1) 8)) (a := 33) (n := 26) tt_33 rfl (fun b y hb => F4 b y (by omega)) (fun b x b0 b1 => hz1.1 b x (by omega) (by omega))) (by decide) (st' := [zR 33, zR 8]) rfl (Nat.le_of_ble_eq_true rfl) rfl (mc := 140) (ms := 1336) rfl rfl dX6_init_53 (fun v4 n4 σ4 hq4 => ?_)
  obtain ⟨rfl, hn4, S4, rfl, a4, b4, c4⟩ := hq4
  obtain rfl : n4 = 30 := by omega
  refine g_putF fwX6_33 rfl zcl_6 (congrArg Prod.fst sh_8) (by decide) (by decide) rfl rfl dX6_init_56 ?_
  rw [zgS_put rg_8_4]
  have F5 : ∀ b y, 38 ≤ b → (sset S4 8 4) b y = false := fun b y hb => by rw [sset_n (by omega)]; exact c4 b y hb
  have B5 : zBt (sset S4 8 4) 9 38 := zBt_s (zBt_j (mi := 33) (zBt_c B4 (fun b y hb => a4 b y hb)) b4)
  have p5_0 : (sset S4 8 4) 8 0 = true := by rw [sset_n (by omega), a4 8 0 (by omega)]; exact p4_0
  have p5_1 : (sset S4 8 4) 8 1 = true := by rw [sset_n (by omega), a4 8 1 (by omega)]; exact p4_1
  have p5_2 : (sset S4 8 4) 8 2 = true := by rw [sset_n (by omega), a4 8 2 (by omega)]; exact p4_2
  have p5_3 : (sset S4 8 4) 8 3 = true := by rw [sset_n (by omega), a4 8 3 (by omega)]; exact p4_3
  have p5_4 : (sset S4 8 4) 8 4 = true := sset_s _ _ _
  have q5 : ∀ b y, b < 8 → (sset S4 8 4) b y = S b y := fun b y hb => by rw [sset_n (by omega), a4 b y (by omega)]; exact q4 b y hb
  refine g_aload_n (x := 8) rfl dX6_init_59 ?_
  refine g_new (ci := 5) (nn := 10) (mc := 139) (ms := 1326) (n := 30) (σ' := zgS (sset S4 8 4) (ifill ι 19 (-1) 8)) rfl (zcl_5 _ rfl) tw_75 tw_76 tw_5 (congrArg Prod.fst sh_38) (fun _ _ => rfl) (df_town tt_38 (fun y => F5 _ y (by decide)) (fun x => hz1.1 _ _ (by decide) (Or.inl (by decide))) rfl _ rfl) rfl rfl dX6_init_60 ?_
  rw [show 8 + 30 = 38 from rfl]
  refine g_dupR dX6_init_63 ?_
  refine g_callN mnX5_init (zNest_m (k := 1) rfl) (c_town0 (ι := (ifill ι 19 (-1) 8)) (a := 38) (n := 31) tt_38 rfl (fun b y hb => F5 b y (by omega)) (fun b x b0 b1 => hz1.1 b x (by omega) (by omega))) (by decide) (st' := [zR 38, zR 8]) rfl (Nat.le_of_ble_eq_true rfl) rfl (mc := 135) (ms := 1294) rfl rfl dX6_init_64 (fun v5 n5 σ5 hq5 => ?_)
  obtain ⟨rfl, hn5, S5, rfl, a5, b5, c5⟩ := hq5
  obtain rfl : n5 = 35 := by omega
  refine g_putF fwX6_36 rfl zcl_6 (congrArg Prod.fst sh_8) (by decide) (by decide) rfl rfl dX6_init_67 ?_
  rw [zgS_put rg_8_5]
  have F6 : ∀ b y, 43 ≤ b → (sset S5 8 5) b y = false := fun b y hb => by rw [sset_n (by omega)]; exact c5 b y hb
  have B6 : zBt (sset S5 8 5) 9 43 := zBt_s (zBt_j (mi := 38) (zBt_c B5 (fun b y hb => a5 b y hb)) b5)
  have p6_0 : (sset S5 8 5) 8 0 = true := by rw [sset_n (by omega), a5 8 0 (by omega)]; exact p5_0
  have p6_1 : (sset S5 8 5) 8 1 = true := by rw [sset_n (by omega), a5 8 1 (by omega)]; exact p5_1
  have p6_2 : (sset S5 8 5) 8 2 = true := by rw [sset_n (by omega), a5 8 2 (by omega)]; exact p5_2
  have p6_3 : (sset S5 8 5) 8 3 = true := by rw [sset_n (by omega), a5 8 3 (by omega)]; exact p5_3
  have p6_4 : (sset S5 8 5) 8 4 = true := by rw [sset_n (by omega), a5 8 4 (by omega)]; exact p5_4
  have p6_5 : (sset S5 8 5) 8 5 = true := sset_s _ _ _
  have q6 : ∀ b y, b < 8 → (sset S5 8 5) b y = S b y := fun b y hb => by rw [sset_n (by omega), a5 b y (by omega)]; exact q5 b y hb
  refine g_aload_n (x := 8) rfl dX6_init_70 ?_
  refine g_new (ci := 0) (nn := 3) (mc := 134) (ms := 1291) (n := 35) (σ' := zgS (sset S5 8 5) (ifill ι 19 (-1) 8)) rfl (zcl_0 _ rfl) tw_143 tw_144 tw_6 (congrArg Prod.fst sh_43) (fun _ _ => rfl) (df_acts (fun y => F6 _ y (by decide)) (hz1.m (by decide)) _ rfl) rfl rfl dX6_init_71 ?_
  rw [show 8 + 35 = 43 from rfl]
  refine g_dupR dX6_init_74 ?_
  refine g_callI mnX0_init tw_145 (c_acts0 (ι := (ifill ι 19 (-1) 8)) (fun b y hb => F6 b y (by omega)) (hz1.m (by decide))) (by decide) (st' := [zR 43, zR 8]) rfl (Nat.le_of_ble_eq_true rfl) rfl (mc := 13) (ms := 259) rfl rfl dX6_init_75 (fun v6 n6 σ6 hq6 => ?_)
  obtain ⟨rfl, hn6, S6, rfl, a6, b6, c6⟩ := hq6
  obtain rfl : n6 = 157 := by omega
  refine g_putF fwX6_42 rfl zcl_6 (congrArg Prod.fst sh_8) (by decide) (by decide) rfl rfl dX6_init_78 ?_
  rw [zgS_put rg_8_6]
  have F7 : ∀ b y, 165 ≤ b → (sset S6 8 6) b y = false := fun b y hb => by rw [sset_n (by omega)]; exact c6 b y hb
  have B7 : zBt (sset S6 8 6) 9 165 := zBt_s (zBt_j (mi := 43) (zBt_c B6 (fun b y hb => a6 b y hb)) b6)
  have p7_0 : (sset S6 8 6) 8 0 = true := by rw [sset_n (by omega), a6 8 0 (by omega)]; exact p6_0
  have p7_1 : (sset S6 8 6) 8 1 = true := by rw [sset_n (by omega), a6 8 1 (by omega)]; exact p6_1
  have p7_2 : (sset S6 8 6) 8 2 = true := by rw [sset_n (by omega), a6 8 2 (by omega)]; exact p6_2
  have p7_3 : (sset S6 8 6) 8 3 = true := by rw [sset_n (by omega), a6 8 3 (by omega)]; exact p6_3
  have p7_4 : (sset S6 8 6) 8 4 = true := by rw [sset_n (by omega), a6 8 4 (by omega)]; exact p6_4
  have p7_5 : (sset S6 8 6) 8 5 = true := by rw [sset_n (by omega), a6 8 5 (by omega)]; exact p6_5
  have p7_6 : (sset S6 8 6) 8 6 = true := sset_s _ _ _
  have q7 : ∀ b y, b < 8 → (sset S6 8 6) b y = S b y := fun b y hb => by rw [sset_n (by omega), a6 b y (by omega)]; exact q6 b y hb
  refine g_aload_n (x := 8) rfl dX6_init_81 ?_
  refine g_new (ci := 2) (nn := 9) (mc := 12) (ms := 250) (n := 157) (σ' := zgS (sset S6 8 6) (ifill ι 19 (-1) 8)) rfl (zcl_2 _ rfl) tw_163 tw_164 tw_7 (congrArg Prod.fst sh_165) (fun _ _ => rfl) (df_fore (fun y => F7 _ y (by decide)) (hz1.m (by decide)) _ rfl) rfl rfl dX6_init_82 ?_
  rw [show 8 + 157 = 165 from rfl]
  refine g_dupR dX6_init_85 ?_
  refine g_callN mnX2_init (zNest_m (k := 3) rfl) (c_fore0 (ι := (ifill ι 19 (-1) 8)) (fun b y hb => F7 b y (by omega)) (hz1.m (by decide))) (by decide) (st' := [zR 165, zR 8]) rfl (Nat.le_of_ble_eq_true rfl) rfl (mc := 2) (ms := 18) rfl rfl dX6_init_86 (fun v7 n7 σ7 hq7 => ?_)
  obtain ⟨rfl, hn7, S7, rfl, a7, b7, c7⟩ := hq7
  obtain rfl : n7 = 168 := by omega
  refine g_putF fwX6_49 rfl zcl_6 (congrArg Prod.fst sh_8) (by decide) (by decide) rfl rfl dX6_init_89 ?_
  rw [zgS_put rg_8_7]
  have F8 : ∀ b y, 176 ≤ b → (sset S7 8 7) b y = false := fun b y hb => by rw [sset_n (by omega)]; exact c7 b y hb
  have B8 : zBt (sset S7 8 7) 9 176 := zBt_s (zBt_j (mi := 165) (zBt_c B7 (fun b y hb => a7 b y hb)) b7)
  have p8_0 : (sset S7 8 7) 8 0 = true := by rw [sset_n (by omega), a7 8 0 (by omega)]; exact p7_0
  have p8_1 : (sset S7 8 7) 8 1 = true := by rw [sset_n (by omega), a7 8 1 (by omega)]; exact p7_1
  have p8_2 : (sset S7 8 7) 8 2 = true := by rw [sset_n (by omega), a7 8 2 (by omega)]; exact p7_2
  have p8_3 : (sset S7 8 7) 8 3 = true := by rw [sset_n (by omega), a7 8 3 (by omega)]; exact p7_3
  have p8_4 : (sset S7 8 7) 8 4 = true := by rw [sset_n (by omega), a7 8 4 (by omega)]; exact p7_4
  have p8_5 : (sset S7 8 7) 8 5 = true := by rw [sset_n (by omega), a7 8 5 (by omega)]; exact p7_5
  have p8_6 : (sset S7 8 7) 8 6 = true := by rw [sset_n (by omega), a7 8 6 (by omega)]; exact p7_6
  have p8_7 : (sset S7 8 7) 8 7 = true := sset_s _ _ _
  have q8 : ∀ b y, b < 8 → (sset S7 8 7) b y = S b y := fun b y hb => by rw [sset_n (by omega), a7 b y (by omega)]; exact q7 b y hb
  refine g_aload_n (x := 8) rfl dX6_init_92 ?_
  refine g_new (ci := 1) (nn := 2) (mc := 1) (ms := 16) (n := 168) (σ' := zgS (sset S7 8 7) (ifill ι 19 (-1) 8)) rfl (zcl_1 _ rfl) tw_200 tw_201 tw_8 (congrArg Prod.fst sh_176) (fun _ _ => rfl) (df_asks (fun y => F8 _ y (by decide)) (hz1.m (by decide)) _ rfl) rfl rfl dX6_init_93 ?_
  rw [show 8 + 168 = 176 from rfl]
  refine g_dupR dX6_init_96 ?_
  refine g_callN mnX1_init (zNest_m (k := 5) rfl) (c_asks0 (ι := (ifill ι 19 (-1) 8)) (fun b y hb => F8 b y (by omega)) (hz1.m (by decide))) (by decide) (st' := [zR 176, zR 8]) rfl (Nat.le_of_ble_eq_true rfl) rfl (mc := 0) (ms := 0) rfl rfl dX6_init_97 (fun v8 n8 σ8 hq8 => ?_)
  obtain ⟨rfl, hn8, S8, rfl, a8, b8, c8⟩ := hq8
  obtain rfl : n8 = 170 := by omega
  refine g_putF fwX6_56 rfl zcl_6 (congrArg Prod.fst sh_8) (by decide) (by decide) rfl rfl dX6_init_100 ?_
  rw [zgS_put rg_8_8]
  have F9 : ∀ b y, 178 ≤ b → (sset S8 8 8) b y = false := fun b y hb => by rw [sset_n (by omega)]; exact c8 b y hb
  have B9 : zBt (sset S8 8 8) 9 178 := zBt_s (zBt_j (mi := 176) (zBt_c B8 (fun b y hb => a8 b y hb)) b8)
  have p9_0 : (sset S8 8 8) 8 0 = true := by rw [sset_n (by omega), a8 8 0 (by omega)]; exact p8_0
  have p9_1 : (sset S8 8 8) 8 1 = true := by rw [sset_n (by omega), a8 8 1 (by omega)]; exact p8_1
  have p9_2 : (sset S8 8 8) 8 2 = true := by rw [sset_n (by omega), a8 8 2 (by omega)]; exact p8_2
  have p9_3 : (sset S8 8 8) 8 3 = true := by rw [sset_n (by omega), a8 8 3 (by omega)]; exact p8_3
  have p9_4 : (sset S8 8 8) 8 4 = true := by rw [sset_n (by omega), a8 8 4 (by omega)]; exact p8_4
  have p9_5 : (sset S8 8 8) 8 5 = true := by rw [sset_n (by omega), a8 8 5 (by omega)]; exact p8_5
  have p9_6 : (sset S8 8 8) 8 6 = true := by rw [sset_n (by omega), a8 8 6 (by omega)]; exact p8_6
  have p9_7 : (sset S8 8 8) 8 7 = true := by rw [sset_n (by omega), a8 8 7 (by omega)]; exact p8_7
  have p9_8 : (sset S8 8 8) 8 8 = true := sset_s _ _ _
  have q9 : ∀ b y, b < 8 → (sset S8 8 8) b y = S b y := fun b y hb => by rw [sset_n (by omega), a8 b y (by omega)]; exact q8 b y hb
  refine g_ret rfl dX6_init_103 ⟨rfl, rfl, _, rfl, q9, zBt_j (mi := 9) (fun b y b0 b1 y0 y1 hr => ?_) B9, F9⟩
  obtain rfl : b = 8 := by omega
  rcases (show y = 0 ∨ y = 1 ∨ y = 2 ∨ y = 3 ∨ y = 4 ∨ y = 5 ∨ y = 6 ∨ y = 7 ∨ y = 8 ∨ y = 9 by have : y < 10 := y1; omega) with g | g | g | g | g | g | g | g | g | g <;> subst g
  · exact p9_0
  · exact p9_1
  · exact p9_2
  · exact p9_3
  · exact p9_4
  · exact p9_5
  · exact p9_6
  · exact p9_7
  · exact p9_8
  · exact absurd (hr.symm.trans (zrf_f (ι := ι) ig_8_9)) (by decide)
end
