section
variable {l : Launch} {D : va_G} {ad : Nat → Nat} {L z : Nat} {ι : zi}
theorem zBt_s {S : Nat → Int → Bool} {lo hi a : Nat} {x : Int} (h : zBt S lo hi) : zBt (sset S a x) lo hi := fun b y b0 b1 y0 y1 hr => by
  have := h b y b0 b1 y0 y1 hr
  unfold sset
  split
  · rfl
  · exact this
def zZr (ι : zi) (lo : Nat) : Prop := (∀ b x, lo ≤ b → (b ≠ 165 ∨ (x ≠ 3 ∧ x ≠ 4)) → ι b x = 0) ∧ ι 165 3 = 173 ∧ ι 165 4 = 174
theorem zZr.m {lo hi : Nat} (h : zZr ι lo) (hl : lo ≤ hi) : zZr ι hi := ⟨fun b x hb hx => h.1 b x (by omega) hx, h.2⟩
theorem df_rows {S : Nat → Int → Bool} (hS : ∀ y, S 9 y = false) (hz : zZr ι 9) : ∀ r, vwCl[3]? = some r → ∀ (k : Nat) (t : FieldType), k < r.2.2 → parseFieldDescriptor (r.2.1 k).2.2.1 = some t → zv ad (zgS S ι 9 (k : Int)) = defaultValue t := by
  intro r hr k t hk ht2
  injection (show some _ = some r from hr) with hr'
  subst hr'
  have hk : k < 3 := hk
  rcases (show k = 0 ∨ k = 1 ∨ k = 2 by omega) with g | g | g <;> subst g
  · cases ht2.symm.trans (by decide +kernel : parseFieldDescriptor "[[I" = some (.array (.array .int))); rw [zgS_n rg_9_0 (hS _)]; rfl
  · cases ht2.symm.trans (by decide +kernel : parseFieldDescriptor "[I" = some (.array .int)); rw [zgS_n rg_9_1 (hS _)]; rfl
  · cases ht2.symm.trans (by decide +kernel : parseFieldDescriptor "[I" = some (.array .int)); rw [zgS_n rg_9_2 (hS _)]; rfl
theorem df_tape {S : Nat → Int → Bool} (hS : ∀ y, S 21 y = false) (hz : zZr ι 21) : ∀ r, vwCl[4]? = some r → ∀ (k : Nat) (t : FieldType), k < r.2.2 → parseFieldDescriptor (r.2.1 k).2.2.1 = some t → zv ad (zgS S ι 21 (k : Int)) = defaultValue t := by
  intro r hr k t hk ht2
  injection (show some _ = some r from hr) with hr'
  subst hr'
  have hk : k < 5 := hk
  rcases (show k = 0 ∨ k = 1 ∨ k = 2 ∨ k = 3 ∨ k = 4 by omega) with g | g | g | g | g <;> subst g
  · cases ht2.symm.trans (by decide +kernel : parseFieldDescriptor "[I" = some (.array .int)); rw [zgS_n rg_21_0 (hS _)]; rfl
  · cases ht2.symm.trans (by decide +kernel : parseFieldDescriptor "I" = some .int); rw [zgS_i ig_21_1, hz.1 _ _ (by omega) (by omega)]; rfl
  · cases ht2.symm.trans (by decide +kernel : parseFieldDescriptor "I" = some .int); rw [zgS_i ig_21_2, hz.1 _ _ (by omega) (by omega)]; rfl
  · cases ht2.symm.trans (by decide +kernel : parseFieldDescriptor "I" = some .int); rw [zgS_i ig_21_3, hz.1 _ _ (by omega) (by omega)]; rfl
  · cases ht2.symm.trans (by decide +kernel : parseFieldDescriptor "I" = some .int); rw [zgS_i ig_21_4, hz.1 _ _ (by omega) (by omega)]; rfl
theorem df_acts {S : Nat → Int → Bool} (hS : ∀ y, S 43 y = false) (hz : zZr ι 43) : ∀ r, vwCl[0]? = some r → ∀ (k : Nat) (t : FieldType), k < r.2.2 → parseFieldDescriptor (r.2.1 k).2.2.1 = some t → zv ad (zgS S ι 43 (k : Int)) = defaultValue t := by
  intro r hr k t hk ht2
  injection (show some _ = some r from hr) with hr'
  subst hr'
  have hk : k < 3 := hk
  rcases (show k = 0 ∨ k = 1 ∨ k = 2 by omega) with g | g | g <;> subst g
  · cases ht2.symm.trans (by decide +kernel : parseFieldDescriptor "[LDrumPeace$Town;" = some (.array (.object "DrumPeace$Town"))); rw [zgS_n rg_43_0 (hS _)]; rfl
  · cases ht2.symm.trans (by decide +kernel : parseFieldDescriptor "I" = some .int); rw [zgS_i ig_43_1, hz.1 _ _ (by omega) (by omega)]; rfl
  · cases ht2.symm.trans (by decide +kernel : parseFieldDescriptor "I" = some .int); rw [zgS_i ig_43_2, hz.1 _ _ (by omega) (by omega)]; rfl
theorem df_fore {S : Nat → Int → Bool} (hS : ∀ y, S 165 y = false) (hz : zZr ι 165) : ∀ r, vwCl[2]? = some r → ∀ (k : Nat) (t : FieldType), k < r.2.2 → parseFieldDescriptor (r.2.1 k).2.2.1 = some t → zv ad (zgS S ι 165 (k : Int)) = defaultValue t := by
  intro r hr k t hk ht2
  injection (show some _ = some r from hr) with hr'
  subst hr'
  have hk : k < 9 := hk
  rcases (show k = 0 ∨ k = 1 ∨ k = 2 ∨ k = 3 ∨ k = 4 ∨ k = 5 ∨ k = 6 ∨ k = 7 ∨ k = 8 by omega) with g | g | g | g | g | g | g | g | g <;> subst g
  · cases ht2.symm.trans (by decide +kernel : parseFieldDescriptor "LDrumPeace$Town;" = some (.object "DrumPeace$Town")); rw [zgS_n rg_165_0 (hS _)]; rfl
  · cases ht2.symm.trans (by decide +kernel : parseFieldDescriptor "[I" = some (.array .int)); rw [zgS_n rg_165_1 (hS _)]; rfl
  · cases ht2.symm.trans (by decide +kernel : parseFieldDescriptor "[I" = some (.array .int)); rw [zgS_n rg_165_2 (hS _)]; rfl
  · cases ht2.symm.trans (by decide +kernel : parseFieldDescriptor "[I" = some (.array .int)); rw [zgS_n rg_165_3 (hS _)]; rfl
  · cases ht2.symm.trans (by decide +kernel : parseFieldDescriptor "[I" = some (.array .int)); rw [zgS_n rg_165_4 (hS _)]; rfl
  · cases ht2.symm.trans (by decide +kernel : parseFieldDescriptor "[I" = some (.array .int)); rw [zgS_n rg_165_5 (hS _)]; rfl
  · cases ht2.symm.trans (by decide +kernel : parseFieldDescriptor "I" = some .int); rw [zgS_i ig_165_6, hz.1 _ _ (by omega) (by omega)]; rfl
  · cases ht2.symm.trans (by decide +kernel : parseFieldDescriptor "I" = some .int); rw [zgS_i ig_165_7, hz.1 _ _ (by omega) (by omega)]; rfl
  · cases ht2.symm.trans (by decide +kernel : parseFieldDescriptor "I" = some .int); rw [zgS_i ig_165_8, hz.1 _ _ (by omega) (by omega)]; rfl
theorem df_asks {S : Nat → Int → Bool} (hS : ∀ y, S 176 y = false) (hz : zZr ι 176) : ∀ r, vwCl[1]? = some r → ∀ (k : Nat) (t : FieldType), k < r.2.2 → parseFieldDescriptor (r.2.1 k).2.2.1 = some t → zv ad (zgS S ι 176 (k : Int)) = defaultValue t := by
  intro r hr k t hk ht2
  injection (show some _ = some r from hr) with hr'
  subst hr'
  have hk : k < 2 := hk
  rcases (show k = 0 ∨ k = 1 by omega) with g | g <;> subst g
  · cases ht2.symm.trans (by decide +kernel : parseFieldDescriptor "[I" = some (.array .int)); rw [zgS_n rg_176_0 (hS _)]; rfl
  · cases ht2.symm.trans (by decide +kernel : parseFieldDescriptor "I" = some .int); rw [zgS_i ig_176_1, hz.1 _ _ (by omega) (by omega)]; rfl
theorem df_peace {S : Nat → Int → Bool} (hS : ∀ y, S 8 y = false) (hz : zZr ι 8) : ∀ r, vwCl[6]? = some r → ∀ (k : Nat) (t : FieldType), k < r.2.2 → parseFieldDescriptor (r.2.1 k).2.2.1 = some t → zv ad (zgS S ι 8 (k : Int)) = defaultValue t := by
  intro r hr k t hk ht2
  injection (show some _ = some r from hr) with hr'
  subst hr'
  have hk : k < 10 := hk
  rcases (show k = 0 ∨ k = 1 ∨ k = 2 ∨ k = 3 ∨ k = 4 ∨ k = 5 ∨ k = 6 ∨ k = 7 ∨ k = 8 ∨ k = 9 by omega) with g | g | g | g | g | g | g | g | g | g <;> subst g
  · cases ht2.symm.trans (by decide +kernel : parseFieldDescriptor "LDrumPeace$Rows;" = some (.object "DrumPeace$Rows")); rw [zgS_n rg_8_0 (hS _)]; rfl
  · cases ht2.symm.trans (by decide +kernel : parseFieldDescriptor "LDrumPeace$Tape;" = some (.object "DrumPeace$Tape")); rw [zgS_n rg_8_1 (hS _)]; rfl
  · cases ht2.symm.trans (by decide +kernel : parseFieldDescriptor "LDrumPeace$Town;" = some (.object "DrumPeace$Town")); rw [zgS_n rg_8_2 (hS _)]; rfl
  · cases ht2.symm.trans (by decide +kernel : parseFieldDescriptor "LDrumPeace$Town;" = some (.object "DrumPeace$Town")); rw [zgS_n rg_8_3 (hS _)]; rfl
  · cases ht2.symm.trans (by decide +kernel : parseFieldDescriptor "LDrumPeace$Town;" = some (.object "DrumPeace$Town")); rw [zgS_n rg_8_4 (hS _)]; rfl
  · cases ht2.symm.trans (by decide +kernel : parseFieldDescriptor "LDrumPeace$Town;" = some (.object "DrumPeace$Town")); rw [zgS_n rg_8_5 (hS _)]; rfl
  · cases ht2.symm.trans (by decide +kernel : parseFieldDescriptor "LDrumPeace$Acts;" = some (.object "DrumPeace$Acts")); rw [zgS_n rg_8_6 (hS _)]; rfl
  · cases ht2.symm.trans (by decide +kernel : parseFieldDescriptor "LDrumPeace$Foresight;" = some (.object "DrumPeace$Foresight")); rw [zgS_n rg_8_7 (hS _)]; rfl
  · cases ht2.symm.trans (by decide +kernel : parseFieldDescriptor "LDrumPeace$Asks;" = some (.object "DrumPeace$Asks")); rw [zgS_n rg_8_8 (hS _)]; rfl
  · cases ht2.symm.trans (by decide +kernel : parseFieldDescriptor "I" = some .int); rw [zgS_i ig_8_9, hz.1 _ _ (by omega) (by omega)]; rfl
theorem df_model {S : Nat → Int → Bool} (hS : ∀ y, S 178 y = false) (hz : zZr ι 178) : ∀ r, vwCl[7]? = some r → ∀ (k : Nat) (t : FieldType), k < r.2.2 → parseFieldDescriptor (r.2.1 k).2.2.1 = some t → zv ad (zgS S ι 178 (k : Int)) = defaultValue t := by
  intro r hr k t hk ht2
  injection (show some _ = some r from hr) with hr'
  subst hr'
  have hk : k < 17 := hk
  rcases (show k = 0 ∨ k = 1 ∨ k = 2 ∨ k = 3 ∨ k = 4 ∨ k = 5 ∨ k = 6 ∨ k = 7 ∨ k = 8 ∨ k = 9 ∨ k = 10 ∨ k = 11 ∨ k = 12 ∨ k = 13 ∨ k = 14 ∨ k = 15 ∨ k = 16 by omega) with g | g | g | g | g | g | g | g | g | g | g | g | g | g | g | g | g <;> subst g
  · cases ht2.symm.trans (by decide +kernel : parseFieldDescriptor "[I" = some (.array .int)); rw [zgS_n rg_178_0 (hS _)]; rfl
  · cases ht2.symm.trans (by decide +kernel : parseFieldDescriptor "I" = some .int); rw [zgS_i ig_178_1, hz.1 _ _ (by omega) (by omega)]; rfl
  · cases ht2.symm.trans (by decide +kernel : parseFieldDescriptor "[I" = some (.array .int)); rw [zgS_n rg_178_2 (hS _)]; rfl
  · cases ht2.symm.trans (by decide +kernel : parseFieldDescriptor "I" = some .int); rw [zgS_i ig_178_3, hz.1 _ _ (by omega) (by omega)]; rfl
  · cases ht2.symm.trans (by decide +kernel : parseFieldDescriptor "I" = some .int); rw [zgS_i ig_178_4, hz.1 _ _ (by omega) (by omega)]; rfl
  · cases ht2.symm.trans (by decide +kernel : parseFieldDescriptor "I" = some .int); rw [zgS_i ig_178_5, hz.1 _ _ (by omega) (by omega)]; rfl
  · cases ht2.symm.trans (by decide +kernel : parseFieldDescriptor "[I" = some (.array .int)); rw [zgS_n rg_178_6 (hS _)]; rfl
  · cases ht2.symm.trans (by decide +kernel : parseFieldDescriptor "[I" = some (.array .int)); rw [zgS_n rg_178_7 (hS _)]; rfl
  · cases ht2.symm.trans (by decide +kernel : parseFieldDescriptor "[I" = some (.array .int)); rw [zgS_n rg_178_8 (hS _)]; rfl
  · cases ht2.symm.trans (by decide +kernel : parseFieldDescriptor "[I" = some (.array .int)); rw [zgS_n rg_178_9 (hS _)]; rfl
  · cases ht2.symm.trans (by decide +kernel : parseFieldDescriptor "I" = some .int); rw [zgS_i ig_178_10, hz.1 _ _ (by omega) (by omega)]; rfl
  · cases ht2.symm.trans (by decide +kernel : parseFieldDescriptor "I" = some .int); rw [zgS_i ig_178_11, hz.1 _ _ (by omega) (by omega)]; rfl
  · cases ht2.symm.trans (by decide +kernel : parseFieldDescriptor "I" = some .int); rw [zgS_i ig_178_12, hz.1 _ _ (by omega) (by omega)]; rfl
  · cases ht2.symm.trans (by decide +kernel : parseFieldDescriptor "[I" = some (.array .int)); rw [zgS_n rg_178_13 (hS _)]; rfl
  · cases ht2.symm.trans (by decide +kernel : parseFieldDescriptor "[Z" = some (.array .boolean)); rw [zgS_n rg_178_14 (hS _)]; rfl
  · cases ht2.symm.trans (by decide +kernel : parseFieldDescriptor "[I" = some (.array .int)); rw [zgS_n rg_178_15 (hS _)]; rfl
  · cases ht2.symm.trans (by decide +kernel : parseFieldDescriptor "I" = some .int); rw [zgS_i ig_178_16, hz.1 _ _ (by omega) (by omega)]; rfl
theorem c_tape0 {S : Nat → Int → Bool} (hS : ∀ b y, 21 ≤ b → S b y = false) (hz : zZr ι 21) : zCt l (zc D ad L z) mX4_init 1 1 110 [zR 21] 14 (zgS S ι) (zQn ι S 21 23) := by
  refine zCt_of (by decide) (Nat.le_of_ble_eq_true rfl) 0 rfl ?_
  refine g_aload_n (x := 21) rfl dX4_init_0 ?_
  refine g_oinit tw_55 tw_24 tw_25 (by decide) (Nat.le_of_ble_eq_true rfl) dX4_init_1 ?_
  refine g_aload_n (x := 21) rfl dX4_init_4 ?_
  refine g_bipush (x := 110) (by decide) dX4_init_5 ?_
  refine g_newI (N := 110) (mc := 0) (ms := 0) (n := 14) (σ' := zgS S ι) tw_49 rfl (by decide) sh_22 (fun _ _ => rfl) (fun j hj => by rw [show 8 + 14 = 22 from rfl, zgS_i ag_22, hz.1 _ _ (by omega) (by omega)]) rfl rfl dX4_init_7 ?_
  rw [show 8 + 14 = 22 from rfl]
  refine g_putF fwX4_9 rfl zcl_4 (congrArg Prod.fst sh_21) (by decide) (by decide) rfl rfl dX4_init_9 ?_
  rw [zgS_put rg_21_0]
  refine g_ret rfl dX4_init_12 ⟨rfl, rfl, _, rfl, fun b y hb => ?_, fun b y b0 b1 y0 y1 hr => ?_, fun b y hb => ?_⟩
  · rw [sset_n (by omega)]
  · rcases (show b = 21 ∨ b = 22 by omega) with g | g <;> subst g
    · rcases (show y = 0 ∨ y = 1 ∨ y = 2 ∨ y = 3 ∨ y = 4 by have : y < 5 := y1; omega) with g | g | g | g | g <;> subst g
      · exact sset_s _ _ _
      · exact absurd (hr.symm.trans (zrf_f (ι := ι) ig_21_1)) (by decide)
      · exact absurd (hr.symm.trans (zrf_f (ι := ι) ig_21_2)) (by decide)
      · exact absurd (hr.symm.trans (zrf_f (ι := ι) ig_21_3)) (by decide)
      · exact absurd (hr.symm.trans (zrf_f (ι := ι) ig_21_4)) (by decide)
    · exact absurd (hr.symm.trans (zrf_f (ι := ι) ag_22)) (by decide)
  · rw [sset_n (by omega)]
    exact hS b y (by omega)
theorem c_asks0 {S : Nat → Int → Bool} (hS : ∀ b y, 176 ≤ b → S b y = false) (hz : zZr ι 176) : zCt l (zc D ad L z) mX1_init 1 1 16 [zR 176] 169 (zgS S ι) (zQn ι S 176 178) := by
  refine zCt_of (by decide) (Nat.le_of_ble_eq_true rfl) 0 rfl ?_
  refine g_aload_n (x := 176) rfl dX1_init_0 ?_
  refine g_oinit tw_205 tw_24 tw_25 (by decide) (Nat.le_of_ble_eq_true rfl) dX1_init_1 ?_
  refine g_aload_n (x := 176) rfl dX1_init_4 ?_
  refine g_bipush (x := 16) (by decide) dX1_init_5 ?_
  refine g_newI (N := 16) (mc := 0) (ms := 0) (n := 169) (σ' := zgS S ι) tw_49 rfl (by decide) sh_177 (fun _ _ => rfl) (fun j hj => by rw [show 8 + 169 = 177 from rfl, zgS_i ag_177, hz.1 _ _ (by omega) (by omega)]) rfl rfl dX1_init_7 ?_
  rw [show 8 + 169 = 177 from rfl]
  refine g_putF fwX1_9 rfl zcl_1 (congrArg Prod.fst sh_176) (by decide) (by decide) rfl rfl dX1_init_9 ?_
  rw [zgS_put rg_176_0]
  refine g_ret rfl dX1_init_12 ⟨rfl, rfl, _, rfl, fun b y hb => ?_, fun b y b0 b1 y0 y1 hr => ?_, fun b y hb => ?_⟩
  · rw [sset_n (by omega)]
  · rcases (show b = 176 ∨ b = 177 by omega) with g | g <;> subst g
    · rcases (show y = 0 ∨ y = 1 by have : y < 2 := y1; omega) with g | g <;> subst g
      · exact sset_s _ _ _
      · exact absurd (hr.symm.trans (zrf_f (ι := ι) ig_176_1)) (by decide)
    · exact absurd (hr.symm.trans (zrf_f (ι := ι) ag_177)) (by decide)
  · rw [sset_n (by omega)]
    exact hS b y (by omega)
end
