section
variable {l : Launch} {D : va_G} {ad : Nat → Nat} {L z : Nat} {ι : zi}
theorem zNest_m {k : Nat} {w : Cond} (h : zNest[k]? = some w) : w ∈ zNest := List.mem_of_getElem? h
theorem c_fore0 {S : Nat → Int → Bool} (hS : ∀ b y, 165 ≤ b → S b y = false) (hz : zZr ι 165) : zCt l (zc D ad L z) mX2_init 3 10 232 [zR 165] 158 (zgS S ι) (zQn ι S 165 176) := by
  refine zCt_of (by decide) (Nat.le_of_ble_eq_true rfl) 0 rfl ?_
  refine g_aload_n (x := 165) rfl dX2_init_0 ?_
  refine g_oinit tw_168 tw_24 tw_25 (by decide) (Nat.le_of_ble_eq_true rfl) dX2_init_1 ?_
  have hc3 : zg ι 165 ((3 : Nat) : Int) = zR 173 := by rw [rg_165_3, hz.2.1]; rfl
  have hc4 : zg ι 165 ((4 : Nat) : Int) = zR 174 := by rw [rg_165_4, hz.2.2]; rfl
  refine g_aload_n (x := 165) rfl dX2_init_4 ?_
  refine g_new (ci := 5) (nn := 10) (mc := 9) (ms := 222) (n := 158) (σ' := zgS S ι) rfl (zcl_5 _ rfl) tw_169 tw_76 tw_5 (congrArg Prod.fst sh_166) (fun _ _ => rfl) (df_town tt_166 (fun y => hS _ y (by decide)) (fun x => hz.1 _ _ (by decide) (Or.inl (by decide))) rfl _ rfl) rfl rfl dX2_init_5 ?_
  rw [show 8 + 158 = 166 from rfl]
  refine g_dupR dX2_init_8 ?_
  refine g_callN mnX5_init (zNest_m (k := 4) rfl) (c_town0 (a := 166) (n := 159) tt_166 rfl (fun b y hb => hS b y (by omega)) (fun b x b0 b1 => hz.1 b x (by omega) (by omega))) (by decide) (st' := [zR 166, zR 165]) rfl (Nat.le_of_ble_eq_true rfl) rfl (mc := 5) (ms := 190) rfl rfl dX2_init_9 (fun v n' σ' hq => ?_)
  obtain ⟨rfl, hn, S1, rfl, s1, s2, s3⟩ := hq
  obtain rfl : n' = 163 := by omega
  refine g_putF fwX2_14 rfl zcl_2 (congrArg Prod.fst sh_165) (by decide) (by decide) rfl rfl dX2_init_12 ?_
  rw [zgS_put rg_165_0]
  refine g_aload_n (x := 165) rfl dX2_init_15 ?_
  refine g_sipush (x := 128) (by decide) dX2_init_16 ?_
  refine g_newI (N := 128) (mc := 4) (ms := 62) (n := 163) (σ' := zgS (sset S1 165 0) ι) tw_49 rfl (by decide) sh_171 (fun _ _ => rfl) (fun j hj => by rw [show 8 + 163 = 171 from rfl, zgS_i ag_171, hz.1 _ _ (by omega) (by omega)]) rfl rfl dX2_init_19 ?_
  rw [show 8 + 163 = 171 from rfl]
  refine g_putF fwX2_18 rfl zcl_2 (congrArg Prod.fst sh_165) (by decide) (by decide) rfl rfl dX2_init_21 ?_
  rw [zgS_put rg_165_1]
  refine g_aload_n (x := 165) rfl dX2_init_24 ?_
  refine g_bipush (x := 8) (by decide) dX2_init_25 ?_
  refine g_newI (N := 8) (mc := 3) (ms := 54) (n := 164) (σ' := zgS (sset (sset S1 165 0) 165 1) ι) tw_49 rfl (by decide) sh_172 (fun _ _ => rfl) (fun j hj => by rw [show 8 + 164 = 172 from rfl, zgS_i ag_172, hz.1 _ _ (by omega) (by omega)]) rfl rfl dX2_init_27 ?_
  rw [show 8 + 164 = 172 from rfl]
  refine g_putF fwX2_22 rfl zcl_2 (congrArg Prod.fst sh_165) (by decide) (by decide) rfl rfl dX2_init_29 ?_
  rw [zgS_put rg_165_2]
  refine g_aload_n (x := 165) rfl dX2_init_32 ?_
  refine g_bipush (x := 21) (by decide) dX2_init_33 ?_
  refine g_newI (N := 21) (mc := 2) (ms := 33) (n := 165) (σ' := zgS (sset (sset (sset S1 165 0) 165 1) 165 2) ι) tw_49 rfl (by decide) sh_173 (fun _ _ => rfl) (fun j hj => by rw [show 8 + 165 = 173 from rfl, zgS_i ag_173, hz.1 _ _ (by omega) (by omega)]) rfl rfl dX2_init_35 ?_
  rw [show 8 + 165 = 173 from rfl]
  refine g_put fwX2_25 zcl_2 (congrArg Prod.fst sh_165) (by decide) (by decide) rfl rfl dX2_init_37 ?_
  rw [zgS_put hc3]
  refine g_aload_n (x := 165) rfl dX2_init_40 ?_
  refine g_bipush (x := 21) (by decide) dX2_init_41 ?_
  refine g_newI (N := 21) (mc := 1) (ms := 12) (n := 166) (σ' := zgS (sset (sset (sset (sset S1 165 0) 165 1) 165 2) 165 3) ι) tw_49 rfl (by decide) sh_174 (fun _ _ => rfl) (fun j hj => by rw [show 8 + 166 = 174 from rfl, zgS_i ag_174, hz.1 _ _ (by omega) (by omega)]) rfl rfl dX2_init_43 ?_
  rw [show 8 + 166 = 174 from rfl]
  refine g_put fwX2_28 zcl_2 (congrArg Prod.fst sh_165) (by decide) (by decide) rfl rfl dX2_init_45 ?_
  rw [zgS_put hc4]
  refine g_aload_n (x := 165) rfl dX2_init_48 ?_
  refine g_bipush (x := 12) (by decide) dX2_init_49 ?_
  refine g_newI (N := 12) (mc := 0) (ms := 0) (n := 167) (σ' := zgS (sset (sset (sset (sset (sset S1 165 0) 165 1) 165 2) 165 3) 165 4) ι) tw_49 rfl (by decide) sh_175 (fun _ _ => rfl) (fun j hj => by rw [show 8 + 167 = 175 from rfl, zgS_i ag_175, hz.1 _ _ (by omega) (by omega)]) rfl rfl dX2_init_51 ?_
  rw [show 8 + 167 = 175 from rfl]
  refine g_putF fwX2_31 rfl zcl_2 (congrArg Prod.fst sh_165) (by decide) (by decide) rfl rfl dX2_init_53 ?_
  rw [zgS_put rg_165_5]
  refine g_ret rfl dX2_init_56 ⟨rfl, rfl, _, rfl, fun b y hb => ?_, zBt_j (mi := 166) (fun b y b0 b1 y0 y1 hr => ?_) (zBt_j (mi := 171) (zBt_s (zBt_s (zBt_s (zBt_s (zBt_s (zBt_s s2)))))) (fun b y b0 b1 y0 y1 hr => ?_)), fun b y hb => ?_⟩
  · rw [sset_n (by omega), sset_n (by omega), sset_n (by omega), sset_n (by omega), sset_n (by omega), sset_n (by omega)]
    exact s1 b y (by omega)
  · obtain rfl : b = 165 := by omega
    · rcases (show y = 0 ∨ y = 1 ∨ y = 2 ∨ y = 3 ∨ y = 4 ∨ y = 5 ∨ y = 6 ∨ y = 7 ∨ y = 8 by have : y < 9 := y1; omega) with g | g | g | g | g | g | g | g | g <;> subst g
      · rw [sset_n (by omega), sset_n (by omega), sset_n (by omega), sset_n (by omega), sset_n (by omega)]; exact sset_s _ _ _
      · rw [sset_n (by omega), sset_n (by omega), sset_n (by omega), sset_n (by omega)]; exact sset_s _ _ _
      · rw [sset_n (by omega), sset_n (by omega), sset_n (by omega)]; exact sset_s _ _ _
      · rw [sset_n (by omega), sset_n (by omega)]; exact sset_s _ _ _
      · rw [sset_n (by omega)]; exact sset_s _ _ _
      · exact sset_s _ _ _
      · exact absurd (hr.symm.trans (zrf_f (ι := ι) ig_165_6)) (by decide)
      · exact absurd (hr.symm.trans (zrf_f (ι := ι) ig_165_7)) (by decide)
      · exact absurd (hr.symm.trans (zrf_f (ι := ι) ig_165_8)) (by decide)
  · rcases (show b = 171 ∨ b = 172 ∨ b = 173 ∨ b = 174 ∨ b = 175 by omega) with g | g | g | g | g <;> subst g
    · exact absurd (hr.symm.trans (zrf_f (ι := ι) ag_171)) (by decide)
    · exact absurd (hr.symm.trans (zrf_f (ι := ι) ag_172)) (by decide)
    · exact absurd (hr.symm.trans (zrf_f (ι := ι) ag_173)) (by decide)
    · exact absurd (hr.symm.trans (zrf_f (ι := ι) ag_174)) (by decide)
    · exact absurd (hr.symm.trans (zrf_f (ι := ι) ag_175)) (by decide)
  · rw [sset_n (by omega), sset_n (by omega), sset_n (by omega), sset_n (by omega), sset_n (by omega), sset_n (by omega)]
    exact s3 b y (by omega)
theorem c_fill0 {S : Nat → Int → Bool} : zCt l (zc D ad L z) mJ7_fill_53178 0 0 0 [zR 19, zI (-1)] 13 (zgS S ι) (fun v n' σ' => v = none ∧ n' = 13 ∧ σ' = zgS S (ifill ι 19 (-1) 8)) := by
  have key : ∀ i : Int, 0 ≤ i → i ≤ 8 → zGo l (zc D ad L z) mJ7_fill_53178 0 0 0 5 [some (zR 19), some (zI (-1)), some (zI i), some (zI ((8 : Nat) : Int))] [] 13 (zgS S (ifill ι 19 (-1) i)) (fun v n' σ' => v = none ∧ n' = 13 ∧ σ' = zgS S (ifill ι 19 (-1) 8)) := by
    refine z_loopI (fun i h0 h1 ih => ?_)
    refine g_iload_n (x := i) rfl dJ7_fill_53178_5 ?_
    refine g_iload_n (x := ((8 : Nat) : Int)) rfl dJ7_fill_53178_6 ?_
    refine g_icmp_ge ⟨by omega, by omega⟩ ⟨by omega, by omega⟩ (t := 20) dJ7_fill_53178_7 (by decide) (fun h7 => ?_) (fun h7 => ?_)
    · exact g_ret rfl dJ7_fill_53178_20 ⟨rfl, rfl, by rw [show i = 8 by omega]⟩
    · refine g_aload_n (x := 19) rfl dJ7_fill_53178_10 ?_
      refine g_iload_n (x := i) rfl dJ7_fill_53178_11 ?_
      refine g_iload_n (x := (-1)) rfl dJ7_fill_53178_12 ?_
      refine g_iast sh_19 (by decide) (by decide) h0 (by omega) (by decide) dJ7_fill_53178_13 ?_
      rw [zgS_up ag_19 au_19, ifill_s ι 19 (-1) h0]
      refine g_iinc (x := i) (y := i + 1) (ls' := [some (zR 19), some (zI (-1)), some (zI (i + 1)), some (zI ((8 : Nat) : Int))]) dJ7_fill_53178_14 rfl (rfl) (by decide) rfl ?_
      refine g_goto (t := 5) dJ7_fill_53178_17 (by decide) ?_
      exact ih (by omega)
  refine zCt_of (by decide) (Nat.le_of_ble_eq_true rfl) 2 rfl ?_
  refine g_iconst (x := 0) rfl dJ7_fill_53178_0 ?_
  refine g_istore_n (ls' := [some (zR 19), some (zI (-1)), some (zI 0), none]) dJ7_fill_53178_1 (by decide) rfl ?_
  refine g_aload_n (x := 19) rfl dJ7_fill_53178_2 ?_
  refine g_alen sh_19 (by decide) (by decide) (by decide) dJ7_fill_53178_3 ?_
  refine g_istore_n (ls' := [some (zR 19), some (zI (-1)), some (zI 0), some (zI ((8 : Nat) : Int))]) dJ7_fill_53178_4 (by decide) rfl ?_
  have hh := key 0 (by decide) (by decide)
  rw [ifill_0] at hh
  exact hh
theorem c_rows0 {S : Nat → Int → Bool} (hS : ∀ b y, 9 ≤ b → S b y = false) (hz : zZr ι 9) : zCt l (zc D ad L z) mX3_init 1 11 344 [zR 9] 2 (zgS S ι) (zQn (ifill ι 19 (-1) 8) S 9 21) := by
  refine zCt_of (by decide) (Nat.le_of_ble_eq_true rfl) 0 rfl ?_
  refine g_aload_n (x := 9) rfl dX3_init_0 ?_
  refine g_oinit tw_31 tw_24 tw_25 (by decide) (Nat.le_of_ble_eq_true rfl) dX3_init_1 ?_
  refine g_aload_n (x := 9) rfl dX3_init_4 ?_
  refine g_bipush (x := 8) (by decide) dX3_init_5 ?_
  refine g_bipush (x := 40) (by decide) dX3_init_7 ?_
  obtain ⟨S1, hS1⟩ : ∃ S1 : Nat → Int → Bool, S1 = fun b y => if b = 10 then true else S b y := ⟨_, rfl⟩
  have t10 : ∀ y, S1 10 y = true := fun y => by rw [hS1]; rfl
  have tn : ∀ b y, b ≠ 10 → S1 b y = S b y := fun b y hb => by rw [hS1]; exact if_neg hb
  refine g_mnew (mc := 2) (ms := 16) (n := 2) (σ' := zgS S1 ι) tw_32 tw_49 sh_10 (fun j hj => by rcases (show j = 0 ∨ j = 1 ∨ j = 2 ∨ j = 3 ∨ j = 4 ∨ j = 5 ∨ j = 6 ∨ j = 7 by omega) with g | g | g | g | g | g | g | g <;> subst g <;> rfl) (fun b hb => by funext y; unfold zgS; rw [tn b y (by omega)]) (fun j hj => by rw [show 8 + 2 = 10 from rfl, zgS_t (t10 _), ag_10]; exact congrArg zR (show 11 + ((j : Int)).toNat = 10 + 1 + j by omega)) (fun j hj k hk => ?_) rfl rfl dX3_init_9 ?_
  · have sl : zSl.getD (8 + 2 + 1 + j) (0, 0) = (1, 40) := by rcases (show j = 0 ∨ j = 1 ∨ j = 2 ∨ j = 3 ∨ j = 4 ∨ j = 5 ∨ j = 6 ∨ j = 7 by omega) with g | g | g | g | g | g | g | g <;> subst g <;> rfl
    rw [zgS_i (zg_arr sl), hz.1 _ _ (by omega) (by omega)]
  rw [show 8 + 2 = 10 from rfl]
  refine g_putF fwX3_11 rfl zcl_3 (congrArg Prod.fst sh_9) (by decide) (by decide) rfl rfl dX3_init_13 ?_
  rw [zgS_put rg_9_0]
  refine g_aload_n (x := 9) rfl dX3_init_16 ?_
  refine g_bipush (x := 8) (by decide) dX3_init_17 ?_
  refine g_newI (N := 8) (mc := 1) (ms := 8) (n := 11) (σ' := zgS (sset S1 9 0) ι) tw_49 rfl (by decide) sh_19 (fun _ _ => rfl) (fun j hj => by rw [show 8 + 11 = 19 from rfl, zgS_i ag_19, hz.1 _ _ (by omega) (by omega)]) rfl rfl dX3_init_19 ?_
  rw [show 8 + 11 = 19 from rfl]
  refine g_putF fwX3_14 rfl zcl_3 (congrArg Prod.fst sh_9) (by decide) (by decide) rfl rfl dX3_init_21 ?_
  rw [zgS_put rg_9_1]
  refine g_aload_n (x := 9) rfl dX3_init_24 ?_
  refine g_bipush (x := 8) (by decide) dX3_init_25 ?_
  refine g_newI (N := 8) (mc := 0) (ms := 0) (n := 12) (σ' := zgS (sset (sset S1 9 0) 9 1) ι) tw_49 rfl (by decide) sh_20 (fun _ _ => rfl) (fun j hj => by rw [show 8 + 12 = 20 from rfl, zgS_i ag_20, hz.1 _ _ (by omega) (by omega)]) rfl rfl dX3_init_27 ?_
  rw [show 8 + 12 = 20 from rfl]
  refine g_putF fwX3_18 rfl zcl_3 (congrArg Prod.fst sh_9) (by decide) (by decide) rfl rfl dX3_init_29 ?_
  rw [zgS_put rg_9_2]
  refine g_aload_n (x := 9) rfl dX3_init_32 ?_
  refine g_get fgX3_14 zcl_3 (congrArg Prod.fst sh_9) (by decide) (v := zR 19) (by rw [zgS_t (by rw [sset_n (by omega)]; exact sset_s _ _ _)]; exact rg_9_1) dX3_init_33 ?_
  refine g_iconst (x := -1) rfl dX3_init_36 ?_
  refine g_callS msJ7_fill_53178 tw_34 c_fill0 (by decide) (st' := []) rfl (Nat.le_of_ble_eq_true rfl) rfl (mc := 0) (ms := 0) rfl rfl dX3_init_37 (fun v n' σ' hq => ?_)
  obtain ⟨rfl, rfl, rfl⟩ := hq
  refine g_ret rfl dX3_init_40 ⟨rfl, rfl, _, rfl, fun b y hb => ?_, fun b y b0 b1 y0 y1 hr => ?_, fun b y hb => ?_⟩
  · rw [sset_n (by omega), sset_n (by omega), sset_n (by omega), tn b y (by omega)]
  · by_cases g9 : b = 9
    · subst g9
      rcases (show y = 0 ∨ y = 1 ∨ y = 2 by have : y < 3 := y1; omega) with g | g | g <;> subst g
      · rw [sset_n (by omega), sset_n (by omega)]; exact sset_s _ _ _
      · rw [sset_n (by omega)]; exact sset_s _ _ _
      · exact sset_s _ _ _
    · by_cases g10 : b = 10
      · rw [sset_n (by omega), sset_n (by omega), sset_n (by omega), g10]; exact t10 y
      · exfalso
        have sl : ∃ N, zSl.getD b (0, 0) = (1, N) := by
          rcases (show b = 11 ∨ b = 12 ∨ b = 13 ∨ b = 14 ∨ b = 15 ∨ b = 16 ∨ b = 17 ∨ b = 18 ∨ b = 19 ∨ b = 20 by omega) with g | g | g | g | g | g | g | g | g | g <;> subst g <;> exact ⟨_, rfl⟩
        obtain ⟨N, sl⟩ := sl
        exact absurd (hr.symm.trans (zrf_f (ι := ι) (zg_arr sl))) (by decide)
  · rw [sset_n (by omega), sset_n (by omega), sset_n (by omega), tn b y (by omega)]
    exact hS b y (by omega)
end
