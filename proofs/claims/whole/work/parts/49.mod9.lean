section
variable {l : Launch} {D : va_G} {ad : Nat → Nat} {L z : Nat} {ι : zi}
/-! what might be in place of what is -/
def zfpl (R : zr) (s w : Int) : Int := if w = 0 then 6 + s else if w = 1 then 14 + s else if w = 2 then 2 else 30 + R 4 % R 1
def zffr (w : Int) : Int := if w = 0 then 1 else 0
def zfto (R : zr) (w : Int) : Int := if w = 0 then 5 else if w = 1 then 20 else if w = 2 then 3 else R 0 - 1
def zfit (R : zr) (s w : Int) (g : Int → Int) (n : Int) : Int := zgb (fun v => zso (ru R (zfpl R s w) v) s g n) (zffr w) (zfto R w + 1)
theorem zfpl_V {R : zr} (hz : tz R) (hV : zVT R) (hB : 0 < R 1) {s w v : Int} (hs : 0 ≤ s ∧ s < R 0) (hw : 0 ≤ w ∧ w ≤ 3) (h0 : zffr w ≤ v) (h1 : v ≤ zfto R w) : (2 ≤ zfpl R s w ∧ zfpl R s w < 38) ∧ zVT (ru R (zfpl R s w) v) ∧ tz (ru R (zfpl R s w) v) ∧ (ru R (zfpl R s w) v) 0 = R 0 ∧ (ru R (zfpl R s w) v) 1 = R 1 ∧ (ru R (zfpl R s w) v) 4 = R 4 := by
  have hV0 := hV.1
  have hV1 := hV.2.1
  have b0 := Int.emod_nonneg (R 4) (show R 1 ≠ 0 by omega)
  have b1 := Int.emod_lt_of_pos (R 4) hB
  unfold zffr at h0
  unfold zfto at h1
  unfold zfpl
  rcases (show w = 0 ∨ w = 1 ∨ w = 2 ∨ w = 3 by omega) with h | h | h | h <;> subst h
  · rw [if_pos rfl] at h0 h1 ⊢
    exact ⟨by omega, zVT_k hV (by omega) (by omega), ru_tz hz (by omega) (by omega), ru_n _ (by omega), ru_n _ (by omega), ru_n _ (by omega)⟩
  · rw [if_neg (by decide), if_pos rfl] at h1 ⊢
    rw [if_neg (by decide)] at h0
    exact ⟨by omega, zVT_d hV (by omega) (by omega), ru_tz hz (by omega) (by omega), ru_n _ (by omega), ru_n _ (by omega), ru_n _ (by omega)⟩
  · rw [if_neg (by decide), if_neg (by decide), if_pos rfl] at h1 ⊢
    rw [if_neg (by decide)] at h0
    exact ⟨by omega, zVT_2 hV (by omega), ru_tz hz (by omega) (by omega), ru_n _ (by omega), ru_n _ (by omega), ru_n _ (by omega)⟩
  · rw [if_neg (by decide), if_neg (by decide), if_neg (by decide)] at h1 ⊢
    rw [if_neg (by decide)] at h0
    exact ⟨by omega, zVT_w hV (by omega) (by omega), ru_tz hz (by omega) (by omega), ru_n _ (by omega), ru_n _ (by omega), ru_n _ (by omega)⟩
theorem zfr_b {R : zr} (hV : zVT R) (hN : 0 < R 0) {w : Int} (hw : 0 ≤ w ∧ w ≤ 3) : (0 ≤ zffr w ∧ zffr w ≤ 1) ∧ zffr w ≤ zfto R w + 1 ∧ zfto R w ≤ 20 ∧ 0 ≤ zfto R w := by
  have hV0 := hV.1
  unfold zffr zfto
  (repeat' split) <;> omega
set_option maxRecDepth 100000 in
theorem lp_fits (hT : zTM (wb 0 ι)) (hB : 0 < wb 0 ι 1) {s r i n w q : Int} (hs : 0 ≤ s ∧ s < wb 0 ι 0) (hr : 0 ≤ r ∧ r ≤ 7) (hi : 0 ≤ i ∧ i + n ≤ 40) (hn : 1 ≤ n ∧ n ≤ 12) (hw : 0 ≤ w ∧ w ≤ 3) (hI : ∀ k, 0 ≤ k → k < 320 → zB (ι 183 k)) : ∀ k : Int, zffr w ≤ k → k ≤ zfto (wb 0 ι) w + 1 → ∀ X, zGi l (zc D ad L z) mX7_fits 5 183 [some (zR 178), some (zI s), some (zI r), some (zI i), some (zI n), some (zI w), some (zI q), some (zI (zffr w)), some (zI (zfto (wb 0 ι) w)), some (zI (zfpl (wb 0 ι) s w)), some (zI (zgb (fun v => zso (ru (wb 0 ι) (zfpl (wb 0 ι) s w) v) s (fun e => ι 183 (40 * r + i + e)) n) (zffr w) k)), some (zI k)] [] (wp 38 X ι) (fun x ι' => x = some (zI (zfit (wb 0 ι) s w (fun e => ι 183 (40 * r + i + e)) n)) ∧ zSc ι ι') := by
  refine z_loopI (P := fun k => ∀ X, _) (fun k h0 h1 ih X => ?_)
  obtain ⟨ι1, hι1⟩ : ∃ y, y = wp 38 X ι := ⟨_, rfl⟩
  rw [← hι1]
  obtain ⟨hV, hNB, hH9⟩ := id hT
  have hfb := zfr_b hV (by omega) hw
  refine g_iload (x := k) rfl dX7_fits_183 ?_
  refine g_iload (x := (zfto (wb 0 ι) w)) rfl dX7_fits_185 ?_
  refine g_icmp_gt ⟨by omega, by omega⟩ ⟨by omega, by omega⟩ (t := 241) dX7_fits_187 (by decide) (fun h187 => ?_) (fun h187 => ?_)
  · refine g_iload (x := (zgb (fun v => zso (ru (wb 0 ι) (zfpl (wb 0 ι) s w) v) s (fun e => ι 183 (40 * r + i + e)) n) (zffr w) k)) rfl dX7_fits_241 ?_
    exact i_iret rfl dX7_fits_243 (⟨by unfold zfit; rw [show k = zfto (wb 0 ι) w + 1 by omega], ⟨_, hι1⟩⟩)
  · have hw0 : wb 0 ι1 = wb 0 ι := by rw [hι1, wb_wpo (Or.inl (by decide))]
    obtain ⟨p1, f1, f2, f3, f4, f5⟩ := zfpl_V (wb_tz 0 ι) hV hB hs hw h0 (by omega)
    obtain ⟨pl, hpl⟩ : ∃ y_, y_ = zfpl (wb 0 ι) s w := ⟨_, rfl⟩
    have hV0 := hV.1
    refine g_aload_n (x := 178) rfl dX7_fits_190 ?_
    refine i_callV mvX7_tries tw_1037 (ci := 7) (congrArg Prod.fst sh_178) rfl (by decide) (c_tries) (by decide) (st' := []) rfl (Nat.le_of_ble_eq_true rfl) rfl dX7_fits_191 (fun v_1 ι2 hq_191 => ?_)
    obtain ⟨rfl, hι2⟩ := hq_191
    refine g_aload_n (x := 178) rfl dX7_fits_194 ?_
    refine g_get fgX7_7 zcl_7 (congrArg Prod.fst sh_178) (by decide) rg_178_0 dX7_fits_195 ?_
    refine g_bipush (x := 38) (by decide) dX7_fits_198 ?_
    refine g_iload (x := (zfpl (wb 0 ι) s w)) rfl dX7_fits_200 ?_
    refine g_iadd dX7_fits_202 ?_
    refine g_iload (x := k) rfl dX7_fits_203 ?_
    obtain ⟨ι3, hι3⟩ : ∃ y_, y_ = iup ι2 179 (38 + (zfpl (wb 0 ι) s w)) k := ⟨_, rfl⟩
    refine i_iast sh_179 (by decide) (by decide) (by omega) (by omega) (by decide) (ι1 := ι3) (by rw [hι3]; exact au_179) dX7_fits_205 ?_
    have e3 : ι3 = wp 38 (ru (wb 0 ι) (zfpl (wb 0 ι) s w) k) ι := by rw [hι3, hι2, hι1, wp_wp, ← hι1, hw0, wp_up 38 _ _ (i := zfpl (wb 0 ι) s w) (by omega) (by omega) (by omega)]
    have e4 : wb 38 ι3 = ru (wb 0 ι) (zfpl (wb 0 ι) s w) k := by rw [e3, wb_wp 38 f2]
    have e5 : ∀ x, ι3 183 x = ι 183 x := fun x => by rw [e3, wp_o _ _ _ (Or.inl (by decide))]
    refine g_iload (x := (zgb (fun v => zso (ru (wb 0 ι) (zfpl (wb 0 ι) s w) v) s (fun e => ι 183 (40 * r + i + e)) n) (zffr w) k)) rfl dX7_fits_206 ?_
    refine g_aload_n (x := 178) rfl dX7_fits_208 ?_
    refine g_iload_n (x := s) rfl dX7_fits_209 ?_
    refine g_bipush (x := 40) (by decide) dX7_fits_210 ?_
    refine g_iload_n (x := r) rfl dX7_fits_212 ?_
    refine g_imul dX7_fits_213 ?_
    refine g_iload_n (x := i) rfl dX7_fits_214 ?_
    refine g_iadd dX7_fits_215 ?_
    refine g_iload (x := n) rfl dX7_fits_216 ?_
    refine i_callV mvX7_isSo tw_1097 (ci := 7) (congrArg Prod.fst sh_178) rfl (by decide) (c_isSo (by rw [e4]; exact f1) (by rw [e4, f4]; exact hB) (s := s) (n := n) (by rw [e4, f3]; exact hs) (by omega) (by rw [e4, f5]; omega) (by omega) (fun x q0 q1 => by rw [e5]; exact hI x q0 q1)) (by decide) (st' := [zI (zgb (fun v => zso (ru (wb 0 ι) (zfpl (wb 0 ι) s w) v) s (fun e => ι 183 (40 * r + i + e)) n) (zffr w) k)]) rfl (Nat.le_of_ble_eq_true rfl) rfl dX7_fits_218 (fun v_2 ι4 hq_218 => ?_)
    obtain ⟨rfl, X, hι4⟩ := hq_218
    rw [e3, wp_wp] at hι4
    have e6 : zso (wb 38 ι3) s (fun e => ι3 183 (40 * r + i + e)) n = (fun v => zso (ru (wb 0 ι) (zfpl (wb 0 ι) s w) v) s (fun e => ι 183 (40 * r + i + e)) n) k := by rw [e4]; simp only [e5]
    refine g_nm (fun b hb => ?_)
    have hb01 := zso_01 (wb 38 ι3) s (fun e => ι3 183 (40 * r + i + e)) n
    rw [← hb] at hb01
    rw [e6] at hb
    simp only [] at hb
    refine g_if_eq ⟨by omega, by omega⟩ (t := 231) dX7_fits_221 (by decide) (fun h221 => ?_) (fun h221 => ?_)
    · refine g_iconst (x := 0) rfl dX7_fits_231 ?_
      refine g_ior dX7_fits_232 ?_
      refine g_nm (fun x4 hx4 => ?_)
      refine g_istore (ls' := [some (zR 178), some (zI s), some (zI r), some (zI i), some (zI n), some (zI w), some (zI q), some (zI (zffr w)), some (zI (zfto (wb 0 ι) w)), some (zI (zfpl (wb 0 ι) s w)), some (zI x4), some (zI k)]) dX7_fits_233 (by decide) rfl ?_
      refine g_iinc (x := k) (y := k + 1) (ls' := [some (zR 178), some (zI s), some (zI r), some (zI i), some (zI n), some (zI w), some (zI q), some (zI (zffr w)), some (zI (zfto (wb 0 ι) w)), some (zI (zfpl (wb 0 ι) s w)), some (zI x4), some (zI (k + 1))]) dX7_fits_235 rfl (rfl) (by decide) rfl ?_
      refine g_goto (t := 183) dX7_fits_238 (by decide) ?_
      have hh := ih (by omega)
      rw [zgb_s _ h0, ← hb, show zor (zgb (fun v => zso (ru (wb 0 ι) (zfpl (wb 0 ι) s w) v) s (fun e => ι 183 (40 * r + i + e)) n) (zffr w) k) (if b = 1 then zshl 1 k else 0) = x4 by first | rw [if_pos (by omega), hx4] | rw [if_neg (by omega), hx4]] at hh
      rw [hι4]
      exact hh _
    · refine g_iconst (x := 1) rfl dX7_fits_224 ?_
      refine g_iload (x := k) rfl dX7_fits_225 ?_
      refine g_ishl dX7_fits_227 ?_
      refine g_goto (t := 232) dX7_fits_228 (by decide) ?_
      refine g_ior dX7_fits_232 ?_
      refine g_nm (fun x4 hx4 => ?_)
      refine g_istore (ls' := [some (zR 178), some (zI s), some (zI r), some (zI i), some (zI n), some (zI w), some (zI q), some (zI (zffr w)), some (zI (zfto (wb 0 ι) w)), some (zI (zfpl (wb 0 ι) s w)), some (zI x4), some (zI k)]) dX7_fits_233 (by decide) rfl ?_
      refine g_iinc (x := k) (y := k + 1) (ls' := [some (zR 178), some (zI s), some (zI r), some (zI i), some (zI n), some (zI w), some (zI q), some (zI (zffr w)), some (zI (zfto (wb 0 ι) w)), some (zI (zfpl (wb 0 ι) s w)), some (zI x4), some (zI (k + 1))]) dX7_fits_235 rfl (rfl) (by decide) rfl ?_
      refine g_goto (t := 183) dX7_fits_238 (by decide) ?_
      have hh := ih (by omega)
      rw [zgb_s _ h0, ← hb, show zor (zgb (fun v => zso (ru (wb 0 ι) (zfpl (wb 0 ι) s w) v) s (fun e => ι 183 (40 * r + i + e)) n) (zffr w) k) (if b = 1 then zshl 1 k else 0) = x4 by first | rw [if_pos (by omega), hx4] | rw [if_neg (by omega), hx4]] at hh
      rw [hι4]
      exact hh _

set_option maxRecDepth 100000 in
theorem c_mFits (hT : zTM (wb 0 ι)) {s r i n w : Int} (hs : zB s) (hr : zB r) (hi : zB i) (hn : zB n) (hw : zB w) (hM : ∀ k, 0 ≤ k → k < 8 → -1 ≤ ι 181 k ∧ ι 181 k ≤ 40) (hI : ∀ k, 0 ≤ k → k < 320 → zB (ι 183 k)) : zCi l (zc D ad L z) mX7_fits 5 [zR 178, zI s, zI r, zI i, zI n, zI w] ι (fun (x : Option zV) (ι' : zi) => x = some (zI (if ¬ ((0 ≤ s ∧ s < wb 0 ι 0) ∧ (0 ≤ r ∧ r ≤ 7) ∧ (1 ≤ n ∧ n ≤ 12) ∧ (0 ≤ w ∧ w ≤ 3)) then -1000001 else if 0 < zag (ι 181 r) i n then -1000010 - zag (ι 181 r) i n else zfit (wb 0 ι) s w (fun e => ι 183 (40 * r + i + e)) n)) ∧ zSc (if ¬ ((0 ≤ s ∧ s < wb 0 ι 0) ∧ (0 ≤ r ∧ r ≤ 7) ∧ (1 ≤ n ∧ n ≤ 12) ∧ (0 ≤ w ∧ w ≤ 3)) then ι else if 0 < zag (ι 181 r) i n then iup ι 178 5 (zag (ι 181 r) i n) else iup ι 178 5 0) ι') := by
  refine zCt_of (by decide) (Nat.le_of_ble_eq_true rfl) 6 rfl ?_
  obtain ⟨hV, hNB, hH9⟩ := id hT
  obtain ⟨hV0, hV1, hV2, hV3, hV4, hV5, hVk, hVw⟩ := id hV
  have q0 := w0 ι (i := 0) (by decide) (by decide)
  have q1 := w0 ι (i := 1) (by decide) (by decide)
  have q2 := w0 ι (i := 2) (by decide) (by decide)
  have q4 := w0 ι (i := 4) (by decide) (by decide)
  refine g_aload_n (x := 178) rfl dX7_fits_0 ?_
  refine g_iload_n (x := s) rfl dX7_fits_1 ?_
  refine i_callVp mvX7_isStreet tw_1002 (ci := 7) (congrArg Prod.fst sh_178) rfl (by decide) (c_isStreet ⟨by omega, by omega⟩ (by omega)) (by decide) (st' := []) rfl (Nat.le_of_ble_eq_true rfl) rfl dX7_fits_2 ?_
  refine g_nm (fun b2 hq0 => ?_)
  have hb2 : ((0 ≤ s ∧ s ≤ ι 179 0 - 1) ∧ b2 = 1) ∨ (¬ (0 ≤ s ∧ s ≤ ι 179 0 - 1) ∧ b2 = 0) := zb_c hq0
  clear hq0
  refine g_if_eq ⟨by omega, by omega⟩ (t := 41) dX7_fits_5 (by decide) (fun h5 => ?_) (fun h5 => ?_)
  · refine g_ldc (x := -1000001) tw_880 (by decide) dX7_fits_41 ?_
    exact i_iret rfl dX7_fits_43 (⟨by rw [if_pos (by omega)], by rw [if_pos (by omega)]; exact zSc.r _⟩)
  · refine g_iload_n (x := r) rfl dX7_fits_8 ?_
    refine i_callSp msX7_isRow tw_872 (c_mIsRow ⟨by omega, by omega⟩) (by decide) (st' := []) rfl (Nat.le_of_ble_eq_true rfl) rfl dX7_fits_9 ?_
    refine g_nm (fun b9 hq0 => ?_)
    have hb9 : ((0 ≤ r ∧ r ≤ 7) ∧ b9 = 1) ∨ (¬ (0 ≤ r ∧ r ≤ 7) ∧ b9 = 0) := zb_c hq0
    clear hq0
    refine g_if_eq ⟨by omega, by omega⟩ (t := 41) dX7_fits_12 (by decide) (fun h12 => ?_) (fun h12 => ?_)
    · refine g_ldc (x := -1000001) tw_880 (by decide) dX7_fits_41 ?_
      exact i_iret rfl dX7_fits_43 (⟨by rw [if_pos (by omega)], by rw [if_pos (by omega)]; exact zSc.r _⟩)
    · refine g_iload (x := n) rfl dX7_fits_15 ?_
      refine g_i2l ⟨by omega, by omega⟩ dX7_fits_17 ?_
      refine g_lconst (x := 1) (by decide) dX7_fits_18 ?_
      refine g_ldc2 (x := 12) tw_1067 (by decide) dX7_fits_19 ?_
      refine i_callSp msX7_in tw_876 (c_in ⟨by omega, by omega⟩ ⟨by omega, by omega⟩ ⟨by omega, by omega⟩) (by decide) (st' := []) rfl (Nat.le_of_ble_eq_true rfl) rfl dX7_fits_22 ?_
      refine g_nm (fun b22 hq0 => ?_)
      have hb22 : ((1 ≤ n ∧ n ≤ 12) ∧ b22 = 1) ∨ (¬ (1 ≤ n ∧ n ≤ 12) ∧ b22 = 0) := zb_c hq0
      clear hq0
      refine g_if_eq ⟨by omega, by omega⟩ (t := 41) dX7_fits_25 (by decide) (fun h25 => ?_) (fun h25 => ?_)
      · refine g_ldc (x := -1000001) tw_880 (by decide) dX7_fits_41 ?_
        exact i_iret rfl dX7_fits_43 (⟨by rw [if_pos (by omega)], by rw [if_pos (by omega)]; exact zSc.r _⟩)
      · refine g_iload (x := w) rfl dX7_fits_28 ?_
        refine g_i2l ⟨by omega, by omega⟩ dX7_fits_30 ?_
        refine g_lconst (x := 0) (by decide) dX7_fits_31 ?_
        refine g_ldc2 (x := 3) tw_1010 (by decide) dX7_fits_32 ?_
        refine i_callSp msX7_in tw_876 (c_in ⟨by omega, by omega⟩ ⟨by omega, by omega⟩ ⟨by omega, by omega⟩) (by decide) (st' := []) rfl (Nat.le_of_ble_eq_true rfl) rfl dX7_fits_35 ?_
        refine g_nm (fun b35 hq0 => ?_)
        have hb35 : ((0 ≤ w ∧ w ≤ 3) ∧ b35 = 1) ∨ (¬ (0 ≤ w ∧ w ≤ 3) ∧ b35 = 0) := zb_c hq0
        clear hq0
        refine g_if_ne ⟨by omega, by omega⟩ (t := 44) dX7_fits_38 (by decide) (fun h38 => ?_) (fun h38 => ?_)
        · refine g_aload_n (x := 178) rfl dX7_fits_44 ?_
          refine g_iload_n (x := r) rfl dX7_fits_45 ?_
          refine g_iload_n (x := i) rfl dX7_fits_46 ?_
          refine g_iload (x := n) rfl dX7_fits_47 ?_
          refine i_callVp mvX7_against tw_890 (ci := 7) (congrArg Prod.fst sh_178) rfl (by decide) (c_ag (r := r) (by omega) (by omega) ⟨by omega, by omega⟩ ⟨by omega, by omega⟩ (hM r (by omega) (by omega))) (by decide) (st' := []) rfl (Nat.le_of_ble_eq_true rfl) rfl dX7_fits_49 ?_
          refine g_nm (fun q hq => ?_)
          refine g_istore (ls' := [some (zR 178), some (zI s), some (zI r), some (zI i), some (zI n), some (zI w), some (zI q), none, none, none, none, none]) dX7_fits_52 (by decide) rfl ?_
          have hz := zag_b (ι 181 r) i n
          have hmr := hM r (by omega) (by omega)
          refine g_iload (x := q) rfl dX7_fits_54 ?_
          refine g_if_le ⟨by omega, by omega⟩ (t := 66) dX7_fits_56 (by decide) (fun h56 => ?_) (fun h56 => ?_)
          · refine g_aload_n (x := 178) rfl dX7_fits_66 ?_
            refine g_iconst (x := 0) rfl dX7_fits_67 ?_
            obtain ⟨ι1, hι1⟩ : ∃ y_, y_ = iup ι 178 5 0 := ⟨_, rfl⟩
            refine i_put fwX7_44 zcl_7 (congrArg Prod.fst sh_178) (by decide) (by decide) (ι1 := ι1) (by rw [hι1]; exact iu_178_5) dX7_fits_68 ?_
            have hb : 0 ≤ i ∧ i + n ≤ 40 := by
              have hq2 : zag (ι 181 r) i n = 0 := by omega
              unfold zag at hq2
              (repeat' split at hq2) <;> omega
            have o0 : ι1 179 0 = wb 0 ι 0 := by rw [hι1, iup_n _ (Or.inl (by decide)), q0]
            have o1 : ι1 179 1 = wb 0 ι 1 := by rw [hι1, iup_n _ (Or.inl (by decide)), q1]
            have o4 : ι1 179 4 = wb 0 ι 4 := by rw [hι1, iup_n _ (Or.inl (by decide)), q4]
            refine g_iload (x := w) rfl dX7_fits_71 ?_
            refine g_if_ne ⟨by omega, by omega⟩ (t := 80) dX7_fits_73 (by decide) (fun h73 => ?_) (fun h73 => ?_)
            · refine g_iconst (x := 0) rfl dX7_fits_80 ?_
              refine g_istore (ls' := [some (zR 178), some (zI s), some (zI r), some (zI i), some (zI n), some (zI w), some (zI q), some (zI 0), none, none, none, none]) dX7_fits_81 (by decide) rfl ?_
              refine g_iload (x := w) rfl dX7_fits_83 ?_
              refine g_if_ne ⟨by omega, by omega⟩ (t := 92) dX7_fits_85 (by decide) (fun h85 => ?_) (fun h85 => ?_)
              · refine g_iload (x := w) rfl dX7_fits_92 ?_
                refine g_iconst (x := 1) rfl dX7_fits_94 ?_
                refine g_icmp_ne ⟨by omega, by omega⟩ (by decide) (t := 103) dX7_fits_95 (by decide) (fun h95 => ?_) (fun h95 => ?_)
                · refine g_iload (x := w) rfl dX7_fits_103 ?_
                  refine g_iconst (x := 2) rfl dX7_fits_105 ?_
                  refine g_icmp_ne ⟨by omega, by omega⟩ (by decide) (t := 113) dX7_fits_106 (by decide) (fun h106 => ?_) (fun h106 => ?_)
                  · refine g_aload_n (x := 178) rfl dX7_fits_113 ?_
                    refine g_get fgX7_7 zcl_7 (congrArg Prod.fst sh_178) (by decide) rg_178_0 dX7_fits_114 ?_
                    refine g_iconst (x := 0) rfl dX7_fits_117 ?_
                    refine g_iald sh_179 (by decide) (by omega) (by omega) (by decide) ag_179 dX7_fits_118 ?_
                    rw [o0]
                    refine g_iconst (x := 1) rfl dX7_fits_119 ?_
                    refine g_isub dX7_fits_120 ?_
                    refine g_istore (ls' := [some (zR 178), some (zI s), some (zI r), some (zI i), some (zI n), some (zI w), some (zI q), some (zI 0), some (zI ((wb 0 ι 0) - 1)), none, none, none]) dX7_fits_121 (by decide) rfl ?_
                    refine g_iload (x := w) rfl dX7_fits_123 ?_
                    refine g_if_ne ⟨by omega, by omega⟩ (t := 135) dX7_fits_125 (by decide) (fun h125 => ?_) (fun h125 => ?_)
                    · refine g_iload (x := w) rfl dX7_fits_135 ?_
                      refine g_iconst (x := 1) rfl dX7_fits_137 ?_
                      refine g_icmp_ne ⟨by omega, by omega⟩ (by decide) (t := 148) dX7_fits_138 (by decide) (fun h138 => ?_) (fun h138 => ?_)
                      · refine g_iload (x := w) rfl dX7_fits_148 ?_
                        refine g_iconst (x := 2) rfl dX7_fits_150 ?_
                        refine g_icmp_ne ⟨by omega, by omega⟩ (by decide) (t := 158) dX7_fits_151 (by decide) (fun h151 => ?_) (fun h151 => ?_)
                        · refine g_bipush (x := 30) (by decide) dX7_fits_158 ?_
                          refine g_aload_n (x := 178) rfl dX7_fits_160 ?_
                          refine g_get fgX7_7 zcl_7 (congrArg Prod.fst sh_178) (by decide) rg_178_0 dX7_fits_161 ?_
                          refine g_iconst (x := 4) rfl dX7_fits_164 ?_
                          refine g_iald sh_179 (by decide) (by omega) (by omega) (by decide) ag_179 dX7_fits_165 ?_
                          refine g_aload_n (x := 178) rfl dX7_fits_166 ?_
                          refine g_get fgX7_7 zcl_7 (congrArg Prod.fst sh_178) (by decide) rg_178_0 dX7_fits_167 ?_
                          refine g_iconst (x := 1) rfl dX7_fits_170 ?_
                          refine g_iald sh_179 (by decide) (by omega) (by omega) (by decide) ag_179 dX7_fits_171 ?_
                          rw [o4, o1]
                          refine g_irem (by omega) (by omega) (by omega) (by omega) dX7_fits_172 ?_
                          refine g_iadd dX7_fits_173 ?_
                          refine g_istore (ls' := [some (zR 178), some (zI s), some (zI r), some (zI i), some (zI n), some (zI w), some (zI q), some (zI 0), some (zI ((wb 0 ι 0) - 1)), some (zI (30 + ((wb 0 ι 4) % (wb 0 ι 1)))), none, none]) dX7_fits_174 (by decide) rfl ?_
                          refine g_iconst (x := 0) rfl dX7_fits_176 ?_
                          refine g_istore (ls' := [some (zR 178), some (zI s), some (zI r), some (zI i), some (zI n), some (zI w), some (zI q), some (zI 0), some (zI ((wb 0 ι 0) - 1)), some (zI (30 + ((wb 0 ι 4) % (wb 0 ι 1)))), some (zI 0), none]) dX7_fits_177 (by decide) rfl ?_
                          refine g_iload (x := 0) rfl dX7_fits_179 ?_
                          refine g_istore (ls' := [some (zR 178), some (zI s), some (zI r), some (zI i), some (zI n), some (zI w), some (zI q), some (zI 0), some (zI ((wb 0 ι 0) - 1)), some (zI (30 + ((wb 0 ι 4) % (wb 0 ι 1)))), some (zI 0), some (zI 0)]) dX7_fits_181 (by decide) rfl ?_
                          have e0 : wb 0 ι1 = wb 0 ι := by rw [hι1, wb_up (Or.inl (by decide))]
                          have e1 : ∀ x, ι1 183 x = ι 183 x := fun x => by rw [hι1, iup_n _ (Or.inl (by decide))]
                          have hh := lp_fits (l := l) (D := D) (ad := ad) (L := L) (z := z) (ι := ι1) (by rw [e0]; exact hT) (by rw [e0]; omega) (s := s) (r := r) (i := i) (n := n) (w := w) (q := q) (by rw [e0]; omega) (by omega) (by omega) (by omega) (by omega) (fun x q0 q1 => by rw [e1]; exact hI x q0 q1) (zffr w) (by omega) (by have := zfr_b hV (by omega) (w := w) (by omega); rw [e0]; omega) (wb 38 ι1)
                          rw [zgb_0, wp_wb, e0, show zffr w = 0 by unfold zffr; (repeat' split) <;> omega, show zfto (wb 0 ι) w = (wb 0 ι 0) - 1 by unfold zfto; (repeat' split) <;> omega, show zfpl (wb 0 ι) s w = 30 + ((wb 0 ι 4) % (wb 0 ι 1)) by unfold zfpl; (repeat' split) <;> first | rfl | (exfalso; omega)] at hh
                          refine zGi_mono ?_ hh
                          rintro x y ⟨hv, hy⟩
                          simp only [e1] at hv
                          rw [if_neg (by omega), if_neg (by omega), if_neg (by omega), if_neg (by omega), ← hι1]
                          exact ⟨hv, hy⟩
                        · refine g_iconst (x := 2) rfl dX7_fits_154 ?_
                          refine g_goto (t := 174) dX7_fits_155 (by decide) ?_
                          refine g_istore (ls' := [some (zR 178), some (zI s), some (zI r), some (zI i), some (zI n), some (zI w), some (zI q), some (zI 0), some (zI ((wb 0 ι 0) - 1)), some (zI 2), none, none]) dX7_fits_174 (by decide) rfl ?_
                          refine g_iconst (x := 0) rfl dX7_fits_176 ?_
                          refine g_istore (ls' := [some (zR 178), some (zI s), some (zI r), some (zI i), some (zI n), some (zI w), some (zI q), some (zI 0), some (zI ((wb 0 ι 0) - 1)), some (zI 2), some (zI 0), none]) dX7_fits_177 (by decide) rfl ?_
                          refine g_iload (x := 0) rfl dX7_fits_179 ?_
                          refine g_istore (ls' := [some (zR 178), some (zI s), some (zI r), some (zI i), some (zI n), some (zI w), some (zI q), some (zI 0), some (zI ((wb 0 ι 0) - 1)), some (zI 2), some (zI 0), some (zI 0)]) dX7_fits_181 (by decide) rfl ?_
                          have e0 : wb 0 ι1 = wb 0 ι := by rw [hι1, wb_up (Or.inl (by decide))]
                          have e1 : ∀ x, ι1 183 x = ι 183 x := fun x => by rw [hι1, iup_n _ (Or.inl (by decide))]
                          have hh := lp_fits (l := l) (D := D) (ad := ad) (L := L) (z := z) (ι := ι1) (by rw [e0]; exact hT) (by rw [e0]; omega) (s := s) (r := r) (i := i) (n := n) (w := w) (q := q) (by rw [e0]; omega) (by omega) (by omega) (by omega) (by omega) (fun x q0 q1 => by rw [e1]; exact hI x q0 q1) (zffr w) (by omega) (by have := zfr_b hV (by omega) (w := w) (by omega); rw [e0]; omega) (wb 38 ι1)
                          rw [zgb_0, wp_wb, e0, show zffr w = 0 by unfold zffr; (repeat' split) <;> omega, show zfto (wb 0 ι) w = (wb 0 ι 0) - 1 by unfold zfto; (repeat' split) <;> omega, show zfpl (wb 0 ι) s w = 2 by unfold zfpl; (repeat' split) <;> first | rfl | (exfalso; omega)] at hh
                          refine zGi_mono ?_ hh
                          rintro x y ⟨hv, hy⟩
                          simp only [e1] at hv
                          rw [if_neg (by omega), if_neg (by omega), if_neg (by omega), if_neg (by omega), ← hι1]
                          exact ⟨hv, hy⟩
                      · refine g_bipush (x := 14) (by decide) dX7_fits_141 ?_
                        refine g_iload_n (x := s) rfl dX7_fits_143 ?_
                        refine g_iadd dX7_fits_144 ?_
                        refine g_goto (t := 174) dX7_fits_145 (by decide) ?_
                        refine g_istore (ls' := [some (zR 178), some (zI s), some (zI r), some (zI i), some (zI n), some (zI w), some (zI q), some (zI 0), some (zI ((wb 0 ι 0) - 1)), some (zI (14 + s)), none, none]) dX7_fits_174 (by decide) rfl ?_
                        refine g_iconst (x := 0) rfl dX7_fits_176 ?_
                        refine g_istore (ls' := [some (zR 178), some (zI s), some (zI r), some (zI i), some (zI n), some (zI w), some (zI q), some (zI 0), some (zI ((wb 0 ι 0) - 1)), some (zI (14 + s)), some (zI 0), none]) dX7_fits_177 (by decide) rfl ?_
                        refine g_iload (x := 0) rfl dX7_fits_179 ?_
                        refine g_istore (ls' := [some (zR 178), some (zI s), some (zI r), some (zI i), some (zI n), some (zI w), some (zI q), some (zI 0), some (zI ((wb 0 ι 0) - 1)), some (zI (14 + s)), some (zI 0), some (zI 0)]) dX7_fits_181 (by decide) rfl ?_
                        have e0 : wb 0 ι1 = wb 0 ι := by rw [hι1, wb_up (Or.inl (by decide))]
                        have e1 : ∀ x, ι1 183 x = ι 183 x := fun x => by rw [hι1, iup_n _ (Or.inl (by decide))]
                        have hh := lp_fits (l := l) (D := D) (ad := ad) (L := L) (z := z) (ι := ι1) (by rw [e0]; exact hT) (by rw [e0]; omega) (s := s) (r := r) (i := i) (n := n) (w := w) (q := q) (by rw [e0]; omega) (by omega) (by omega) (by omega) (by omega) (fun x q0 q1 => by rw [e1]; exact hI x q0 q1) (zffr w) (by omega) (by have := zfr_b hV (by omega) (w := w) (by omega); rw [e0]; omega) (wb 38 ι1)
                        rw [zgb_0, wp_wb, e0, show zffr w = 0 by unfold zffr; (repeat' split) <;> omega, show zfto (wb 0 ι) w = (wb 0 ι 0) - 1 by unfold zfto; (repeat' split) <;> omega, show zfpl (wb 0 ι) s w = 14 + s by unfold zfpl; (repeat' split) <;> first | rfl | (exfalso; omega)] at hh
                        refine zGi_mono ?_ hh
                        rintro x y ⟨hv, hy⟩
                        simp only [e1] at hv
                        rw [if_neg (by omega), if_neg (by omega), if_neg (by omega), if_neg (by omega), ← hι1]
                        exact ⟨hv, hy⟩
                    · refine g_bipush (x := 6) (by decide) dX7_fits_128 ?_
                      refine g_iload_n (x := s) rfl dX7_fits_130 ?_
                      refine g_iadd dX7_fits_131 ?_
                      refine g_goto (t := 174) dX7_fits_132 (by decide) ?_
                      refine g_istore (ls' := [some (zR 178), some (zI s), some (zI r), some (zI i), some (zI n), some (zI w), some (zI q), some (zI 0), some (zI ((wb 0 ι 0) - 1)), some (zI (6 + s)), none, none]) dX7_fits_174 (by decide) rfl ?_
                      refine g_iconst (x := 0) rfl dX7_fits_176 ?_
                      refine g_istore (ls' := [some (zR 178), some (zI s), some (zI r), some (zI i), some (zI n), some (zI w), some (zI q), some (zI 0), some (zI ((wb 0 ι 0) - 1)), some (zI (6 + s)), some (zI 0), none]) dX7_fits_177 (by decide) rfl ?_
                      refine g_iload (x := 0) rfl dX7_fits_179 ?_
                      refine g_istore (ls' := [some (zR 178), some (zI s), some (zI r), some (zI i), some (zI n), some (zI w), some (zI q), some (zI 0), some (zI ((wb 0 ι 0) - 1)), some (zI (6 + s)), some (zI 0), some (zI 0)]) dX7_fits_181 (by decide) rfl ?_
                      have e0 : wb 0 ι1 = wb 0 ι := by rw [hι1, wb_up (Or.inl (by decide))]
                      have e1 : ∀ x, ι1 183 x = ι 183 x := fun x => by rw [hι1, iup_n _ (Or.inl (by decide))]
                      have hh := lp_fits (l := l) (D := D) (ad := ad) (L := L) (z := z) (ι := ι1) (by rw [e0]; exact hT) (by rw [e0]; omega) (s := s) (r := r) (i := i) (n := n) (w := w) (q := q) (by rw [e0]; omega) (by omega) (by omega) (by omega) (by omega) (fun x q0 q1 => by rw [e1]; exact hI x q0 q1) (zffr w) (by omega) (by have := zfr_b hV (by omega) (w := w) (by omega); rw [e0]; omega) (wb 38 ι1)
                      rw [zgb_0, wp_wb, e0, show zffr w = 0 by unfold zffr; (repeat' split) <;> omega, show zfto (wb 0 ι) w = (wb 0 ι 0) - 1 by unfold zfto; (repeat' split) <;> omega, show zfpl (wb 0 ι) s w = 6 + s by unfold zfpl; (repeat' split) <;> first | rfl | (exfalso; omega)] at hh
                      refine zGi_mono ?_ hh
                      rintro x y ⟨hv, hy⟩
                      simp only [e1] at hv
                      rw [if_neg (by omega), if_neg (by omega), if_neg (by omega), if_neg (by omega), ← hι1]
                      exact ⟨hv, hy⟩
                  · refine g_iconst (x := 3) rfl dX7_fits_109 ?_
                    refine g_goto (t := 121) dX7_fits_110 (by decide) ?_
                    refine g_istore (ls' := [some (zR 178), some (zI s), some (zI r), some (zI i), some (zI n), some (zI w), some (zI q), some (zI 0), some (zI 3), none, none, none]) dX7_fits_121 (by decide) rfl ?_
                    refine g_iload (x := w) rfl dX7_fits_123 ?_
                    refine g_if_ne ⟨by omega, by omega⟩ (t := 135) dX7_fits_125 (by decide) (fun h125 => ?_) (fun h125 => ?_)
                    · refine g_iload (x := w) rfl dX7_fits_135 ?_
                      refine g_iconst (x := 1) rfl dX7_fits_137 ?_
                      refine g_icmp_ne ⟨by omega, by omega⟩ (by decide) (t := 148) dX7_fits_138 (by decide) (fun h138 => ?_) (fun h138 => ?_)
                      · refine g_iload (x := w) rfl dX7_fits_148 ?_
                        refine g_iconst (x := 2) rfl dX7_fits_150 ?_
                        refine g_icmp_ne ⟨by omega, by omega⟩ (by decide) (t := 158) dX7_fits_151 (by decide) (fun h151 => ?_) (fun h151 => ?_)
                        · refine g_bipush (x := 30) (by decide) dX7_fits_158 ?_
                          refine g_aload_n (x := 178) rfl dX7_fits_160 ?_
                          refine g_get fgX7_7 zcl_7 (congrArg Prod.fst sh_178) (by decide) rg_178_0 dX7_fits_161 ?_
                          refine g_iconst (x := 4) rfl dX7_fits_164 ?_
                          refine g_iald sh_179 (by decide) (by omega) (by omega) (by decide) ag_179 dX7_fits_165 ?_
                          refine g_aload_n (x := 178) rfl dX7_fits_166 ?_
                          refine g_get fgX7_7 zcl_7 (congrArg Prod.fst sh_178) (by decide) rg_178_0 dX7_fits_167 ?_
                          refine g_iconst (x := 1) rfl dX7_fits_170 ?_
                          refine g_iald sh_179 (by decide) (by omega) (by omega) (by decide) ag_179 dX7_fits_171 ?_
                          rw [o4, o1]
                          refine g_irem (by omega) (by omega) (by omega) (by omega) dX7_fits_172 ?_
                          refine g_iadd dX7_fits_173 ?_
                          refine g_istore (ls' := [some (zR 178), some (zI s), some (zI r), some (zI i), some (zI n), some (zI w), some (zI q), some (zI 0), some (zI 3), some (zI (30 + ((wb 0 ι 4) % (wb 0 ι 1)))), none, none]) dX7_fits_174 (by decide) rfl ?_
                          refine g_iconst (x := 0) rfl dX7_fits_176 ?_
                          refine g_istore (ls' := [some (zR 178), some (zI s), some (zI r), some (zI i), some (zI n), some (zI w), some (zI q), some (zI 0), some (zI 3), some (zI (30 + ((wb 0 ι 4) % (wb 0 ι 1)))), some (zI 0), none]) dX7_fits_177 (by decide) rfl ?_
                          refine g_iload (x := 0) rfl dX7_fits_179 ?_
                          refine g_istore (ls' := [some (zR 178), some (zI s), some (zI r), some (zI i), some (zI n), some (zI w), some (zI q), some (zI 0), some (zI 3), some (zI (30 + ((wb 0 ι 4) % (wb 0 ι 1)))), some (zI 0), some (zI 0)]) dX7_fits_181 (by decide) rfl ?_
                          have e0 : wb 0 ι1 = wb 0 ι := by rw [hι1, wb_up (Or.inl (by decide))]
                          have e1 : ∀ x, ι1 183 x = ι 183 x := fun x => by rw [hι1, iup_n _ (Or.inl (by decide))]
                          have hh := lp_fits (l := l) (D := D) (ad := ad) (L := L) (z := z) (ι := ι1) (by rw [e0]; exact hT) (by rw [e0]; omega) (s := s) (r := r) (i := i) (n := n) (w := w) (q := q) (by rw [e0]; omega) (by omega) (by omega) (by omega) (by omega) (fun x q0 q1 => by rw [e1]; exact hI x q0 q1) (zffr w) (by omega) (by have := zfr_b hV (by omega) (w := w) (by omega); rw [e0]; omega) (wb 38 ι1)
                          rw [zgb_0, wp_wb, e0, show zffr w = 0 by unfold zffr; (repeat' split) <;> omega, show zfto (wb 0 ι) w = 3 by unfold zfto; (repeat' split) <;> omega, show zfpl (wb 0 ι) s w = 30 + ((wb 0 ι 4) % (wb 0 ι 1)) by unfold zfpl; (repeat' split) <;> first | rfl | (exfalso; omega)] at hh
                          refine zGi_mono ?_ hh
                          rintro x y ⟨hv, hy⟩
                          simp only [e1] at hv
                          rw [if_neg (by omega), if_neg (by omega), if_neg (by omega), if_neg (by omega), ← hι1]
                          exact ⟨hv, hy⟩
                        · refine g_iconst (x := 2) rfl dX7_fits_154 ?_
                          refine g_goto (t := 174) dX7_fits_155 (by decide) ?_
                          refine g_istore (ls' := [some (zR 178), some (zI s), some (zI r), some (zI i), some (zI n), some (zI w), some (zI q), some (zI 0), some (zI 3), some (zI 2), none, none]) dX7_fits_174 (by decide) rfl ?_
                          refine g_iconst (x := 0) rfl dX7_fits_176 ?_
                          refine g_istore (ls' := [some (zR 178), some (zI s), some (zI r), some (zI i), some (zI n), some (zI w), some (zI q), some (zI 0), some (zI 3), some (zI 2), some (zI 0), none]) dX7_fits_177 (by decide) rfl ?_
                          refine g_iload (x := 0) rfl dX7_fits_179 ?_
                          refine g_istore (ls' := [some (zR 178), some (zI s), some (zI r), some (zI i), some (zI n), some (zI w), some (zI q), some (zI 0), some (zI 3), some (zI 2), some (zI 0), some (zI 0)]) dX7_fits_181 (by decide) rfl ?_
                          have e0 : wb 0 ι1 = wb 0 ι := by rw [hι1, wb_up (Or.inl (by decide))]
                          have e1 : ∀ x, ι1 183 x = ι 183 x := fun x => by rw [hι1, iup_n _ (Or.inl (by decide))]
                          have hh := lp_fits (l := l) (D := D) (ad := ad) (L := L) (z := z) (ι := ι1) (by rw [e0]; exact hT) (by rw [e0]; omega) (s := s) (r := r) (i := i) (n := n) (w := w) (q := q) (by rw [e0]; omega) (by omega) (by omega) (by omega) (by omega) (fun x q0 q1 => by rw [e1]; exact hI x q0 q1) (zffr w) (by omega) (by have := zfr_b hV (by omega) (w := w) (by omega); rw [e0]; omega) (wb 38 ι1)
                          rw [zgb_0, wp_wb, e0, show zffr w = 0 by unfold zffr; (repeat' split) <;> omega, show zfto (wb 0 ι) w = 3 by unfold zfto; (repeat' split) <;> omega, show zfpl (wb 0 ι) s w = 2 by unfold zfpl; (repeat' split) <;> first | rfl | (exfalso; omega)] at hh
                          refine zGi_mono ?_ hh
                          rintro x y ⟨hv, hy⟩
                          simp only [e1] at hv
                          rw [if_neg (by omega), if_neg (by omega), if_neg (by omega), if_neg (by omega), ← hι1]
                          exact ⟨hv, hy⟩
                      · refine g_bipush (x := 14) (by decide) dX7_fits_141 ?_
                        refine g_iload_n (x := s) rfl dX7_fits_143 ?_
                        refine g_iadd dX7_fits_144 ?_
                        refine g_goto (t := 174) dX7_fits_145 (by decide) ?_
                        refine g_istore (ls' := [some (zR 178), some (zI s), some (zI r), some (zI i), some (zI n), some (zI w), some (zI q), some (zI 0), some (zI 3), some (zI (14 + s)), none, none]) dX7_fits_174 (by decide) rfl ?_
                        refine g_iconst (x := 0) rfl dX7_fits_176 ?_
                        refine g_istore (ls' := [some (zR 178), some (zI s), some (zI r), some (zI i), some (zI n), some (zI w), some (zI q), some (zI 0), some (zI 3), some (zI (14 + s)), some (zI 0), none]) dX7_fits_177 (by decide) rfl ?_
                        refine g_iload (x := 0) rfl dX7_fits_179 ?_
                        refine g_istore (ls' := [some (zR 178), some (zI s), some (zI r), some (zI i), some (zI n), some (zI w), some (zI q), some (zI 0), some (zI 3), some (zI (14 + s)), some (zI 0), some (zI 0)]) dX7_fits_181 (by decide) rfl ?_
                        have e0 : wb 0 ι1 = wb 0 ι := by rw [hι1, wb_up (Or.inl (by decide))]
                        have e1 : ∀ x, ι1 183 x = ι 183 x := fun x => by rw [hι1, iup_n _ (Or.inl (by decide))]
                        have hh := lp_fits (l := l) (D := D) (ad := ad) (L := L) (z := z) (ι := ι1) (by rw [e0]; exact hT) (by rw [e0]; omega) (s := s) (r := r) (i := i) (n := n) (w := w) (q := q) (by rw [e0]; omega) (by omega) (by omega) (by omega) (by omega) (fun x q0 q1 => by rw [e1]; exact hI x q0 q1) (zffr w) (by omega) (by have := zfr_b hV (by omega) (w := w) (by omega); rw [e0]; omega) (wb 38 ι1)
                        rw [zgb_0, wp_wb, e0, show zffr w = 0 by unfold zffr; (repeat' split) <;> omega, show zfto (wb 0 ι) w = 3 by unfold zfto; (repeat' split) <;> omega, show zfpl (wb 0 ι) s w = 14 + s by unfold zfpl; (repeat' split) <;> first | rfl | (exfalso; omega)] at hh
                        refine zGi_mono ?_ hh
                        rintro x y ⟨hv, hy⟩
                        simp only [e1] at hv
                        rw [if_neg (by omega), if_neg (by omega), if_neg (by omega), if_neg (by omega), ← hι1]
                        exact ⟨hv, hy⟩
                    · refine g_bipush (x := 6) (by decide) dX7_fits_128 ?_
                      refine g_iload_n (x := s) rfl dX7_fits_130 ?_
                      refine g_iadd dX7_fits_131 ?_
                      refine g_goto (t := 174) dX7_fits_132 (by decide) ?_
                      refine g_istore (ls' := [some (zR 178), some (zI s), some (zI r), some (zI i), some (zI n), some (zI w), some (zI q), some (zI 0), some (zI 3), some (zI (6 + s)), none, none]) dX7_fits_174 (by decide) rfl ?_
                      refine g_iconst (x := 0) rfl dX7_fits_176 ?_
                      refine g_istore (ls' := [some (zR 178), some (zI s), some (zI r), some (zI i), some (zI n), some (zI w), some (zI q), some (zI 0), some (zI 3), some (zI (6 + s)), some (zI 0), none]) dX7_fits_177 (by decide) rfl ?_
                      refine g_iload (x := 0) rfl dX7_fits_179 ?_
                      refine g_istore (ls' := [some (zR 178), some (zI s), some (zI r), some (zI i), some (zI n), some (zI w), some (zI q), some (zI 0), some (zI 3), some (zI (6 + s)), some (zI 0), some (zI 0)]) dX7_fits_181 (by decide) rfl ?_
                      have e0 : wb 0 ι1 = wb 0 ι := by rw [hι1, wb_up (Or.inl (by decide))]
                      have e1 : ∀ x, ι1 183 x = ι 183 x := fun x => by rw [hι1, iup_n _ (Or.inl (by decide))]
                      have hh := lp_fits (l := l) (D := D) (ad := ad) (L := L) (z := z) (ι := ι1) (by rw [e0]; exact hT) (by rw [e0]; omega) (s := s) (r := r) (i := i) (n := n) (w := w) (q := q) (by rw [e0]; omega) (by omega) (by omega) (by omega) (by omega) (fun x q0 q1 => by rw [e1]; exact hI x q0 q1) (zffr w) (by omega) (by have := zfr_b hV (by omega) (w := w) (by omega); rw [e0]; omega) (wb 38 ι1)
                      rw [zgb_0, wp_wb, e0, show zffr w = 0 by unfold zffr; (repeat' split) <;> omega, show zfto (wb 0 ι) w = 3 by unfold zfto; (repeat' split) <;> omega, show zfpl (wb 0 ι) s w = 6 + s by unfold zfpl; (repeat' split) <;> first | rfl | (exfalso; omega)] at hh
                      refine zGi_mono ?_ hh
                      rintro x y ⟨hv, hy⟩
                      simp only [e1] at hv
                      rw [if_neg (by omega), if_neg (by omega), if_neg (by omega), if_neg (by omega), ← hι1]
                      exact ⟨hv, hy⟩
                · refine g_bipush (x := 20) (by decide) dX7_fits_98 ?_
                  refine g_goto (t := 121) dX7_fits_100 (by decide) ?_
                  refine g_istore (ls' := [some (zR 178), some (zI s), some (zI r), some (zI i), some (zI n), some (zI w), some (zI q), some (zI 0), some (zI 20), none, none, none]) dX7_fits_121 (by decide) rfl ?_
                  refine g_iload (x := w) rfl dX7_fits_123 ?_
                  refine g_if_ne ⟨by omega, by omega⟩ (t := 135) dX7_fits_125 (by decide) (fun h125 => ?_) (fun h125 => ?_)
                  · refine g_iload (x := w) rfl dX7_fits_135 ?_
                    refine g_iconst (x := 1) rfl dX7_fits_137 ?_
                    refine g_icmp_ne ⟨by omega, by omega⟩ (by decide) (t := 148) dX7_fits_138 (by decide) (fun h138 => ?_) (fun h138 => ?_)
                    · refine g_iload (x := w) rfl dX7_fits_148 ?_
                      refine g_iconst (x := 2) rfl dX7_fits_150 ?_
                      refine g_icmp_ne ⟨by omega, by omega⟩ (by decide) (t := 158) dX7_fits_151 (by decide) (fun h151 => ?_) (fun h151 => ?_)
                      · refine g_bipush (x := 30) (by decide) dX7_fits_158 ?_
                        refine g_aload_n (x := 178) rfl dX7_fits_160 ?_
                        refine g_get fgX7_7 zcl_7 (congrArg Prod.fst sh_178) (by decide) rg_178_0 dX7_fits_161 ?_
                        refine g_iconst (x := 4) rfl dX7_fits_164 ?_
                        refine g_iald sh_179 (by decide) (by omega) (by omega) (by decide) ag_179 dX7_fits_165 ?_
                        refine g_aload_n (x := 178) rfl dX7_fits_166 ?_
                        refine g_get fgX7_7 zcl_7 (congrArg Prod.fst sh_178) (by decide) rg_178_0 dX7_fits_167 ?_
                        refine g_iconst (x := 1) rfl dX7_fits_170 ?_
                        refine g_iald sh_179 (by decide) (by omega) (by omega) (by decide) ag_179 dX7_fits_171 ?_
                        rw [o4, o1]
                        refine g_irem (by omega) (by omega) (by omega) (by omega) dX7_fits_172 ?_
                        refine g_iadd dX7_fits_173 ?_
                        refine g_istore (ls' := [some (zR 178), some (zI s), some (zI r), some (zI i), some (zI n), some (zI w), some (zI q), some (zI 0), some (zI 20), some (zI (30 + ((wb 0 ι 4) % (wb 0 ι 1)))), none, none]) dX7_fits_174 (by decide) rfl ?_
                        refine g_iconst (x := 0) rfl dX7_fits_176 ?_
                        refine g_istore (ls' := [some (zR 178), some (zI s), some (zI r), some (zI i), some (zI n), some (zI w), some (zI q), some (zI 0), some (zI 20), some (zI (30 + ((wb 0 ι 4) % (wb 0 ι 1)))), some (zI 0), none]) dX7_fits_177 (by decide) rfl ?_
                        refine g_iload (x := 0) rfl dX7_fits_179 ?_
                        refine g_istore (ls' := [some (zR 178), some (zI s), some (zI r), some (zI i), some (zI n), some (zI w), some (zI q), some (zI 0), some (zI 20), some (zI (30 + ((wb 0 ι 4) % (wb 0 ι 1)))), some (zI 0), some (zI 0)]) dX7_fits_181 (by decide) rfl ?_
                        have e0 : wb 0 ι1 = wb 0 ι := by rw [hι1, wb_up (Or.inl (by decide))]
                        have e1 : ∀ x, ι1 183 x = ι 183 x := fun x => by rw [hι1, iup_n _ (Or.inl (by decide))]
                        have hh := lp_fits (l := l) (D := D) (ad := ad) (L := L) (z := z) (ι := ι1) (by rw [e0]; exact hT) (by rw [e0]; omega) (s := s) (r := r) (i := i) (n := n) (w := w) (q := q) (by rw [e0]; omega) (by omega) (by omega) (by omega) (by omega) (fun x q0 q1 => by rw [e1]; exact hI x q0 q1) (zffr w) (by omega) (by have := zfr_b hV (by omega) (w := w) (by omega); rw [e0]; omega) (wb 38 ι1)
                        rw [zgb_0, wp_wb, e0, show zffr w = 0 by unfold zffr; (repeat' split) <;> omega, show zfto (wb 0 ι) w = 20 by unfold zfto; (repeat' split) <;> omega, show zfpl (wb 0 ι) s w = 30 + ((wb 0 ι 4) % (wb 0 ι 1)) by unfold zfpl; (repeat' split) <;> first | rfl | (exfalso; omega)] at hh
                        refine zGi_mono ?_ hh
                        rintro x y ⟨hv, hy⟩
                        simp only [e1] at hv
                        rw [if_neg (by omega), if_neg (by omega), if_neg (by omega), if_neg (by omega), ← hι1]
                        exact ⟨hv, hy⟩
                      · refine g_iconst (x := 2) rfl dX7_fits_154 ?_
                        refine g_goto (t := 174) dX7_fits_155 (by decide) ?_
                        refine g_istore (ls' := [some (zR 178), some (zI s), some (zI r), some (zI i), some (zI n), some (zI w), some (zI q), some (zI 0), some (zI 20), some (zI 2), none, none]) dX7_fits_174 (by decide) rfl ?_
                        refine g_iconst (x := 0) rfl dX7_fits_176 ?_
                        refine g_istore (ls' := [some (zR 178), some (zI s), some (zI r), some (zI i), some (zI n), some (zI w), some (zI q), some (zI 0), some (zI 20), some (zI 2), some (zI 0), none]) dX7_fits_177 (by decide) rfl ?_
                        refine g_iload (x := 0) rfl dX7_fits_179 ?_
                        refine g_istore (ls' := [some (zR 178), some (zI s), some (zI r), some (zI i), some (zI n), some (zI w), some (zI q), some (zI 0), some (zI 20), some (zI 2), some (zI 0), some (zI 0)]) dX7_fits_181 (by decide) rfl ?_
                        have e0 : wb 0 ι1 = wb 0 ι := by rw [hι1, wb_up (Or.inl (by decide))]
                        have e1 : ∀ x, ι1 183 x = ι 183 x := fun x => by rw [hι1, iup_n _ (Or.inl (by decide))]
                        have hh := lp_fits (l := l) (D := D) (ad := ad) (L := L) (z := z) (ι := ι1) (by rw [e0]; exact hT) (by rw [e0]; omega) (s := s) (r := r) (i := i) (n := n) (w := w) (q := q) (by rw [e0]; omega) (by omega) (by omega) (by omega) (by omega) (fun x q0 q1 => by rw [e1]; exact hI x q0 q1) (zffr w) (by omega) (by have := zfr_b hV (by omega) (w := w) (by omega); rw [e0]; omega) (wb 38 ι1)
                        rw [zgb_0, wp_wb, e0, show zffr w = 0 by unfold zffr; (repeat' split) <;> omega, show zfto (wb 0 ι) w = 20 by unfold zfto; (repeat' split) <;> omega, show zfpl (wb 0 ι) s w = 2 by unfold zfpl; (repeat' split) <;> first | rfl | (exfalso; omega)] at hh
                        refine zGi_mono ?_ hh
                        rintro x y ⟨hv, hy⟩
                        simp only [e1] at hv
                        rw [if_neg (by omega), if_neg (by omega), if_neg (by omega), if_neg (by omega), ← hι1]
                        exact ⟨hv, hy⟩
                    · refine g_bipush (x := 14) (by decide) dX7_fits_141 ?_
                      refine g_iload_n (x := s) rfl dX7_fits_143 ?_
                      refine g_iadd dX7_fits_144 ?_
                      refine g_goto (t := 174) dX7_fits_145 (by decide) ?_
                      refine g_istore (ls' := [some (zR 178), some (zI s), some (zI r), some (zI i), some (zI n), some (zI w), some (zI q), some (zI 0), some (zI 20), some (zI (14 + s)), none, none]) dX7_fits_174 (by decide) rfl ?_
                      refine g_iconst (x := 0) rfl dX7_fits_176 ?_
                      refine g_istore (ls' := [some (zR 178), some (zI s), some (zI r), some (zI i), some (zI n), some (zI w), some (zI q), some (zI 0), some (zI 20), some (zI (14 + s)), some (zI 0), none]) dX7_fits_177 (by decide) rfl ?_
                      refine g_iload (x := 0) rfl dX7_fits_179 ?_
                      refine g_istore (ls' := [some (zR 178), some (zI s), some (zI r), some (zI i), some (zI n), some (zI w), some (zI q), some (zI 0), some (zI 20), some (zI (14 + s)), some (zI 0), some (zI 0)]) dX7_fits_181 (by decide) rfl ?_
                      have e0 : wb 0 ι1 = wb 0 ι := by rw [hι1, wb_up (Or.inl (by decide))]
                      have e1 : ∀ x, ι1 183 x = ι 183 x := fun x => by rw [hι1, iup_n _ (Or.inl (by decide))]
                      have hh := lp_fits (l := l) (D := D) (ad := ad) (L := L) (z := z) (ι := ι1) (by rw [e0]; exact hT) (by rw [e0]; omega) (s := s) (r := r) (i := i) (n := n) (w := w) (q := q) (by rw [e0]; omega) (by omega) (by omega) (by omega) (by omega) (fun x q0 q1 => by rw [e1]; exact hI x q0 q1) (zffr w) (by omega) (by have := zfr_b hV (by omega) (w := w) (by omega); rw [e0]; omega) (wb 38 ι1)
                      rw [zgb_0, wp_wb, e0, show zffr w = 0 by unfold zffr; (repeat' split) <;> omega, show zfto (wb 0 ι) w = 20 by unfold zfto; (repeat' split) <;> omega, show zfpl (wb 0 ι) s w = 14 + s by unfold zfpl; (repeat' split) <;> first | rfl | (exfalso; omega)] at hh
                      refine zGi_mono ?_ hh
                      rintro x y ⟨hv, hy⟩
                      simp only [e1] at hv
                      rw [if_neg (by omega), if_neg (by omega), if_neg (by omega), if_neg (by omega), ← hι1]
                      exact ⟨hv, hy⟩
                  · refine g_bipush (x := 6) (by decide) dX7_fits_128 ?_
                    refine g_iload_n (x := s) rfl dX7_fits_130 ?_
                    refine g_iadd dX7_fits_131 ?_
                    refine g_goto (t := 174) dX7_fits_132 (by decide) ?_
                    refine g_istore (ls' := [some (zR 178), some (zI s), some (zI r), some (zI i), some (zI n), some (zI w), some (zI q), some (zI 0), some (zI 20), some (zI (6 + s)), none, none]) dX7_fits_174 (by decide) rfl ?_
                    refine g_iconst (x := 0) rfl dX7_fits_176 ?_
                    refine g_istore (ls' := [some (zR 178), some (zI s), some (zI r), some (zI i), some (zI n), some (zI w), some (zI q), some (zI 0), some (zI 20), some (zI (6 + s)), some (zI 0), none]) dX7_fits_177 (by decide) rfl ?_
                    refine g_iload (x := 0) rfl dX7_fits_179 ?_
                    refine g_istore (ls' := [some (zR 178), some (zI s), some (zI r), some (zI i), some (zI n), some (zI w), some (zI q), some (zI 0), some (zI 20), some (zI (6 + s)), some (zI 0), some (zI 0)]) dX7_fits_181 (by decide) rfl ?_
                    have e0 : wb 0 ι1 = wb 0 ι := by rw [hι1, wb_up (Or.inl (by decide))]
                    have e1 : ∀ x, ι1 183 x = ι 183 x := fun x => by rw [hι1, iup_n _ (Or.inl (by decide))]
                    have hh := lp_fits (l := l) (D := D) (ad := ad) (L := L) (z := z) (ι := ι1) (by rw [e0]; exact hT) (by rw [e0]; omega) (s := s) (r := r) (i := i) (n := n) (w := w) (q := q) (by rw [e0]; omega) (by omega) (by omega) (by omega) (by omega) (fun x q0 q1 => by rw [e1]; exact hI x q0 q1) (zffr w) (by omega) (by have := zfr_b hV (by omega) (w := w) (by omega); rw [e0]; omega) (wb 38 ι1)
                    rw [zgb_0, wp_wb, e0, show zffr w = 0 by unfold zffr; (repeat' split) <;> omega, show zfto (wb 0 ι) w = 20 by unfold zfto; (repeat' split) <;> omega, show zfpl (wb 0 ι) s w = 6 + s by unfold zfpl; (repeat' split) <;> first | rfl | (exfalso; omega)] at hh
                    refine zGi_mono ?_ hh
                    rintro x y ⟨hv, hy⟩
                    simp only [e1] at hv
                    rw [if_neg (by omega), if_neg (by omega), if_neg (by omega), if_neg (by omega), ← hι1]
                    exact ⟨hv, hy⟩
              · refine g_iconst (x := 5) rfl dX7_fits_88 ?_
                refine g_goto (t := 121) dX7_fits_89 (by decide) ?_
                refine g_istore (ls' := [some (zR 178), some (zI s), some (zI r), some (zI i), some (zI n), some (zI w), some (zI q), some (zI 0), some (zI 5), none, none, none]) dX7_fits_121 (by decide) rfl ?_
                refine g_iload (x := w) rfl dX7_fits_123 ?_
                refine g_if_ne ⟨by omega, by omega⟩ (t := 135) dX7_fits_125 (by decide) (fun h125 => ?_) (fun h125 => ?_)
                · refine g_iload (x := w) rfl dX7_fits_135 ?_
                  refine g_iconst (x := 1) rfl dX7_fits_137 ?_
                  refine g_icmp_ne ⟨by omega, by omega⟩ (by decide) (t := 148) dX7_fits_138 (by decide) (fun h138 => ?_) (fun h138 => ?_)
                  · refine g_iload (x := w) rfl dX7_fits_148 ?_
                    refine g_iconst (x := 2) rfl dX7_fits_150 ?_
                    refine g_icmp_ne ⟨by omega, by omega⟩ (by decide) (t := 158) dX7_fits_151 (by decide) (fun h151 => ?_) (fun h151 => ?_)
                    · refine g_bipush (x := 30) (by decide) dX7_fits_158 ?_
                      refine g_aload_n (x := 178) rfl dX7_fits_160 ?_
                      refine g_get fgX7_7 zcl_7 (congrArg Prod.fst sh_178) (by decide) rg_178_0 dX7_fits_161 ?_
                      refine g_iconst (x := 4) rfl dX7_fits_164 ?_
                      refine g_iald sh_179 (by decide) (by omega) (by omega) (by decide) ag_179 dX7_fits_165 ?_
                      refine g_aload_n (x := 178) rfl dX7_fits_166 ?_
                      refine g_get fgX7_7 zcl_7 (congrArg Prod.fst sh_178) (by decide) rg_178_0 dX7_fits_167 ?_
                      refine g_iconst (x := 1) rfl dX7_fits_170 ?_
                      refine g_iald sh_179 (by decide) (by omega) (by omega) (by decide) ag_179 dX7_fits_171 ?_
                      rw [o4, o1]
                      refine g_irem (by omega) (by omega) (by omega) (by omega) dX7_fits_172 ?_
                      refine g_iadd dX7_fits_173 ?_
                      refine g_istore (ls' := [some (zR 178), some (zI s), some (zI r), some (zI i), some (zI n), some (zI w), some (zI q), some (zI 0), some (zI 5), some (zI (30 + ((wb 0 ι 4) % (wb 0 ι 1)))), none, none]) dX7_fits_174 (by decide) rfl ?_
                      refine g_iconst (x := 0) rfl dX7_fits_176 ?_
                      refine g_istore (ls' := [some (zR 178), some (zI s), some (zI r), some (zI i), some (zI n), some (zI w), some (zI q), some (zI 0), some (zI 5), some (zI (30 + ((wb 0 ι 4) % (wb 0 ι 1)))), some (zI 0), none]) dX7_fits_177 (by decide) rfl ?_
                      refine g_iload (x := 0) rfl dX7_fits_179 ?_
                      refine g_istore (ls' := [some (zR 178), some (zI s), some (zI r), some (zI i), some (zI n), some (zI w), some (zI q), some (zI 0), some (zI 5), some (zI (30 + ((wb 0 ι 4) % (wb 0 ι 1)))), some (zI 0), some (zI 0)]) dX7_fits_181 (by decide) rfl ?_
                      have e0 : wb 0 ι1 = wb 0 ι := by rw [hι1, wb_up (Or.inl (by decide))]
                      have e1 : ∀ x, ι1 183 x = ι 183 x := fun x => by rw [hι1, iup_n _ (Or.inl (by decide))]
                      have hh := lp_fits (l := l) (D := D) (ad := ad) (L := L) (z := z) (ι := ι1) (by rw [e0]; exact hT) (by rw [e0]; omega) (s := s) (r := r) (i := i) (n := n) (w := w) (q := q) (by rw [e0]; omega) (by omega) (by omega) (by omega) (by omega) (fun x q0 q1 => by rw [e1]; exact hI x q0 q1) (zffr w) (by omega) (by have := zfr_b hV (by omega) (w := w) (by omega); rw [e0]; omega) (wb 38 ι1)
                      rw [zgb_0, wp_wb, e0, show zffr w = 0 by unfold zffr; (repeat' split) <;> omega, show zfto (wb 0 ι) w = 5 by unfold zfto; (repeat' split) <;> omega, show zfpl (wb 0 ι) s w = 30 + ((wb 0 ι 4) % (wb 0 ι 1)) by unfold zfpl; (repeat' split) <;> first | rfl | (exfalso; omega)] at hh
                      refine zGi_mono ?_ hh
                      rintro x y ⟨hv, hy⟩
                      simp only [e1] at hv
                      rw [if_neg (by omega), if_neg (by omega), if_neg (by omega), if_neg (by omega), ← hι1]
                      exact ⟨hv, hy⟩
                    · refine g_iconst (x := 2) rfl dX7_fits_154 ?_
                      refine g_goto (t := 174) dX7_fits_155 (by decide) ?_
                      refine g_istore (ls' := [some (zR 178), some (zI s), some (zI r), some (zI i), some (zI n), some (zI w), some (zI q), some (zI 0), some (zI 5), some (zI 2), none, none]) dX7_fits_174 (by decide) rfl ?_
                      refine g_iconst (x := 0) rfl dX7_fits_176 ?_
                      refine g_istore (ls' := [some (zR 178), some (zI s), some (zI r), some (zI i), some (zI n), some (zI w), some (zI q), some (zI 0), some (zI 5), some (zI 2), some (zI 0), none]) dX7_fits_177 (by decide) rfl ?_
                      refine g_iload (x := 0) rfl dX7_fits_179 ?_
                      refine g_istore (ls' := [some (zR 178), some (zI s), some (zI r), some (zI i), some (zI n), some (zI w), some (zI q), some (zI 0), some (zI 5), some (zI 2), some (zI 0), some (zI 0)]) dX7_fits_181 (by decide) rfl ?_
                      have e0 : wb 0 ι1 = wb 0 ι := by rw [hι1, wb_up (Or.inl (by decide))]
                      have e1 : ∀ x, ι1 183 x = ι 183 x := fun x => by rw [hι1, iup_n _ (Or.inl (by decide))]
                      have hh := lp_fits (l := l) (D := D) (ad := ad) (L := L) (z := z) (ι := ι1) (by rw [e0]; exact hT) (by rw [e0]; omega) (s := s) (r := r) (i := i) (n := n) (w := w) (q := q) (by rw [e0]; omega) (by omega) (by omega) (by omega) (by omega) (fun x q0 q1 => by rw [e1]; exact hI x q0 q1) (zffr w) (by omega) (by have := zfr_b hV (by omega) (w := w) (by omega); rw [e0]; omega) (wb 38 ι1)
                      rw [zgb_0, wp_wb, e0, show zffr w = 0 by unfold zffr; (repeat' split) <;> omega, show zfto (wb 0 ι) w = 5 by unfold zfto; (repeat' split) <;> omega, show zfpl (wb 0 ι) s w = 2 by unfold zfpl; (repeat' split) <;> first | rfl | (exfalso; omega)] at hh
                      refine zGi_mono ?_ hh
                      rintro x y ⟨hv, hy⟩
                      simp only [e1] at hv
                      rw [if_neg (by omega), if_neg (by omega), if_neg (by omega), if_neg (by omega), ← hι1]
                      exact ⟨hv, hy⟩
                  · refine g_bipush (x := 14) (by decide) dX7_fits_141 ?_
                    refine g_iload_n (x := s) rfl dX7_fits_143 ?_
                    refine g_iadd dX7_fits_144 ?_
                    refine g_goto (t := 174) dX7_fits_145 (by decide) ?_
                    refine g_istore (ls' := [some (zR 178), some (zI s), some (zI r), some (zI i), some (zI n), some (zI w), some (zI q), some (zI 0), some (zI 5), some (zI (14 + s)), none, none]) dX7_fits_174 (by decide) rfl ?_
                    refine g_iconst (x := 0) rfl dX7_fits_176 ?_
                    refine g_istore (ls' := [some (zR 178), some (zI s), some (zI r), some (zI i), some (zI n), some (zI w), some (zI q), some (zI 0), some (zI 5), some (zI (14 + s)), some (zI 0), none]) dX7_fits_177 (by decide) rfl ?_
                    refine g_iload (x := 0) rfl dX7_fits_179 ?_
                    refine g_istore (ls' := [some (zR 178), some (zI s), some (zI r), some (zI i), some (zI n), some (zI w), some (zI q), some (zI 0), some (zI 5), some (zI (14 + s)), some (zI 0), some (zI 0)]) dX7_fits_181 (by decide) rfl ?_
                    have e0 : wb 0 ι1 = wb 0 ι := by rw [hι1, wb_up (Or.inl (by decide))]
                    have e1 : ∀ x, ι1 183 x = ι 183 x := fun x => by rw [hι1, iup_n _ (Or.inl (by decide))]
                    have hh := lp_fits (l := l) (D := D) (ad := ad) (L := L) (z := z) (ι := ι1) (by rw [e0]; exact hT) (by rw [e0]; omega) (s := s) (r := r) (i := i) (n := n) (w := w) (q := q) (by rw [e0]; omega) (by omega) (by omega) (by omega) (by omega) (fun x q0 q1 => by rw [e1]; exact hI x q0 q1) (zffr w) (by omega) (by have := zfr_b hV (by omega) (w := w) (by omega); rw [e0]; omega) (wb 38 ι1)
                    rw [zgb_0, wp_wb, e0, show zffr w = 0 by unfold zffr; (repeat' split) <;> omega, show zfto (wb 0 ι) w = 5 by unfold zfto; (repeat' split) <;> omega, show zfpl (wb 0 ι) s w = 14 + s by unfold zfpl; (repeat' split) <;> first | rfl | (exfalso; omega)] at hh
                    refine zGi_mono ?_ hh
                    rintro x y ⟨hv, hy⟩
                    simp only [e1] at hv
                    rw [if_neg (by omega), if_neg (by omega), if_neg (by omega), if_neg (by omega), ← hι1]
                    exact ⟨hv, hy⟩
                · refine g_bipush (x := 6) (by decide) dX7_fits_128 ?_
                  refine g_iload_n (x := s) rfl dX7_fits_130 ?_
                  refine g_iadd dX7_fits_131 ?_
                  refine g_goto (t := 174) dX7_fits_132 (by decide) ?_
                  refine g_istore (ls' := [some (zR 178), some (zI s), some (zI r), some (zI i), some (zI n), some (zI w), some (zI q), some (zI 0), some (zI 5), some (zI (6 + s)), none, none]) dX7_fits_174 (by decide) rfl ?_
                  refine g_iconst (x := 0) rfl dX7_fits_176 ?_
                  refine g_istore (ls' := [some (zR 178), some (zI s), some (zI r), some (zI i), some (zI n), some (zI w), some (zI q), some (zI 0), some (zI 5), some (zI (6 + s)), some (zI 0), none]) dX7_fits_177 (by decide) rfl ?_
                  refine g_iload (x := 0) rfl dX7_fits_179 ?_
                  refine g_istore (ls' := [some (zR 178), some (zI s), some (zI r), some (zI i), some (zI n), some (zI w), some (zI q), some (zI 0), some (zI 5), some (zI (6 + s)), some (zI 0), some (zI 0)]) dX7_fits_181 (by decide) rfl ?_
                  have e0 : wb 0 ι1 = wb 0 ι := by rw [hι1, wb_up (Or.inl (by decide))]
                  have e1 : ∀ x, ι1 183 x = ι 183 x := fun x => by rw [hι1, iup_n _ (Or.inl (by decide))]
                  have hh := lp_fits (l := l) (D := D) (ad := ad) (L := L) (z := z) (ι := ι1) (by rw [e0]; exact hT) (by rw [e0]; omega) (s := s) (r := r) (i := i) (n := n) (w := w) (q := q) (by rw [e0]; omega) (by omega) (by omega) (by omega) (by omega) (fun x q0 q1 => by rw [e1]; exact hI x q0 q1) (zffr w) (by omega) (by have := zfr_b hV (by omega) (w := w) (by omega); rw [e0]; omega) (wb 38 ι1)
                  rw [zgb_0, wp_wb, e0, show zffr w = 0 by unfold zffr; (repeat' split) <;> omega, show zfto (wb 0 ι) w = 5 by unfold zfto; (repeat' split) <;> omega, show zfpl (wb 0 ι) s w = 6 + s by unfold zfpl; (repeat' split) <;> first | rfl | (exfalso; omega)] at hh
                  refine zGi_mono ?_ hh
                  rintro x y ⟨hv, hy⟩
                  simp only [e1] at hv
                  rw [if_neg (by omega), if_neg (by omega), if_neg (by omega), if_neg (by omega), ← hι1]
                  exact ⟨hv, hy⟩
            · refine g_iconst (x := 1) rfl dX7_fits_76 ?_
              refine g_goto (t := 81) dX7_fits_77 (by decide) ?_
              refine g_istore (ls' := [some (zR 178), some (zI s), some (zI r), some (zI i), some (zI n), some (zI w), some (zI q), some (zI 1), none, none, none, none]) dX7_fits_81 (by decide) rfl ?_
              refine g_iload (x := w) rfl dX7_fits_83 ?_
              refine g_if_ne ⟨by omega, by omega⟩ (t := 92) dX7_fits_85 (by decide) (fun h85 => ?_) (fun h85 => ?_)
              · refine g_iload (x := w) rfl dX7_fits_92 ?_
                refine g_iconst (x := 1) rfl dX7_fits_94 ?_
                refine g_icmp_ne ⟨by omega, by omega⟩ (by decide) (t := 103) dX7_fits_95 (by decide) (fun h95 => ?_) (fun h95 => ?_)
                · refine g_iload (x := w) rfl dX7_fits_103 ?_
                  refine g_iconst (x := 2) rfl dX7_fits_105 ?_
                  refine g_icmp_ne ⟨by omega, by omega⟩ (by decide) (t := 113) dX7_fits_106 (by decide) (fun h106 => ?_) (fun h106 => ?_)
                  · refine g_aload_n (x := 178) rfl dX7_fits_113 ?_
                    refine g_get fgX7_7 zcl_7 (congrArg Prod.fst sh_178) (by decide) rg_178_0 dX7_fits_114 ?_
                    refine g_iconst (x := 0) rfl dX7_fits_117 ?_
                    refine g_iald sh_179 (by decide) (by omega) (by omega) (by decide) ag_179 dX7_fits_118 ?_
                    rw [o0]
                    refine g_iconst (x := 1) rfl dX7_fits_119 ?_
                    refine g_isub dX7_fits_120 ?_
                    refine g_istore (ls' := [some (zR 178), some (zI s), some (zI r), some (zI i), some (zI n), some (zI w), some (zI q), some (zI 1), some (zI ((wb 0 ι 0) - 1)), none, none, none]) dX7_fits_121 (by decide) rfl ?_
                    refine g_iload (x := w) rfl dX7_fits_123 ?_
                    refine g_if_ne ⟨by omega, by omega⟩ (t := 135) dX7_fits_125 (by decide) (fun h125 => ?_) (fun h125 => ?_)
                    · refine g_iload (x := w) rfl dX7_fits_135 ?_
                      refine g_iconst (x := 1) rfl dX7_fits_137 ?_
                      refine g_icmp_ne ⟨by omega, by omega⟩ (by decide) (t := 148) dX7_fits_138 (by decide) (fun h138 => ?_) (fun h138 => ?_)
                      · refine g_iload (x := w) rfl dX7_fits_148 ?_
                        refine g_iconst (x := 2) rfl dX7_fits_150 ?_
                        refine g_icmp_ne ⟨by omega, by omega⟩ (by decide) (t := 158) dX7_fits_151 (by decide) (fun h151 => ?_) (fun h151 => ?_)
                        · refine g_bipush (x := 30) (by decide) dX7_fits_158 ?_
                          refine g_aload_n (x := 178) rfl dX7_fits_160 ?_
                          refine g_get fgX7_7 zcl_7 (congrArg Prod.fst sh_178) (by decide) rg_178_0 dX7_fits_161 ?_
                          refine g_iconst (x := 4) rfl dX7_fits_164 ?_
                          refine g_iald sh_179 (by decide) (by omega) (by omega) (by decide) ag_179 dX7_fits_165 ?_
                          refine g_aload_n (x := 178) rfl dX7_fits_166 ?_
                          refine g_get fgX7_7 zcl_7 (congrArg Prod.fst sh_178) (by decide) rg_178_0 dX7_fits_167 ?_
                          refine g_iconst (x := 1) rfl dX7_fits_170 ?_
                          refine g_iald sh_179 (by decide) (by omega) (by omega) (by decide) ag_179 dX7_fits_171 ?_
                          rw [o4, o1]
                          refine g_irem (by omega) (by omega) (by omega) (by omega) dX7_fits_172 ?_
                          refine g_iadd dX7_fits_173 ?_
                          refine g_istore (ls' := [some (zR 178), some (zI s), some (zI r), some (zI i), some (zI n), some (zI w), some (zI q), some (zI 1), some (zI ((wb 0 ι 0) - 1)), some (zI (30 + ((wb 0 ι 4) % (wb 0 ι 1)))), none, none]) dX7_fits_174 (by decide) rfl ?_
                          refine g_iconst (x := 0) rfl dX7_fits_176 ?_
                          refine g_istore (ls' := [some (zR 178), some (zI s), some (zI r), some (zI i), some (zI n), some (zI w), some (zI q), some (zI 1), some (zI ((wb 0 ι 0) - 1)), some (zI (30 + ((wb 0 ι 4) % (wb 0 ι 1)))), some (zI 0), none]) dX7_fits_177 (by decide) rfl ?_
                          refine g_iload (x := 1) rfl dX7_fits_179 ?_
                          refine g_istore (ls' := [some (zR 178), some (zI s), some (zI r), some (zI i), some (zI n), some (zI w), some (zI q), some (zI 1), some (zI ((wb 0 ι 0) - 1)), some (zI (30 + ((wb 0 ι 4) % (wb 0 ι 1)))), some (zI 0), some (zI 1)]) dX7_fits_181 (by decide) rfl ?_
                          have e0 : wb 0 ι1 = wb 0 ι := by rw [hι1, wb_up (Or.inl (by decide))]
                          have e1 : ∀ x, ι1 183 x = ι 183 x := fun x => by rw [hι1, iup_n _ (Or.inl (by decide))]
                          have hh := lp_fits (l := l) (D := D) (ad := ad) (L := L) (z := z) (ι := ι1) (by rw [e0]; exact hT) (by rw [e0]; omega) (s := s) (r := r) (i := i) (n := n) (w := w) (q := q) (by rw [e0]; omega) (by omega) (by omega) (by omega) (by omega) (fun x q0 q1 => by rw [e1]; exact hI x q0 q1) (zffr w) (by omega) (by have := zfr_b hV (by omega) (w := w) (by omega); rw [e0]; omega) (wb 38 ι1)
                          rw [zgb_0, wp_wb, e0, show zffr w = 1 by unfold zffr; (repeat' split) <;> omega, show zfto (wb 0 ι) w = (wb 0 ι 0) - 1 by unfold zfto; (repeat' split) <;> omega, show zfpl (wb 0 ι) s w = 30 + ((wb 0 ι 4) % (wb 0 ι 1)) by unfold zfpl; (repeat' split) <;> first | rfl | (exfalso; omega)] at hh
                          refine zGi_mono ?_ hh
                          rintro x y ⟨hv, hy⟩
                          simp only [e1] at hv
                          rw [if_neg (by omega), if_neg (by omega), if_neg (by omega), if_neg (by omega), ← hι1]
                          exact ⟨hv, hy⟩
                        · refine g_iconst (x := 2) rfl dX7_fits_154 ?_
                          refine g_goto (t := 174) dX7_fits_155 (by decide) ?_
                          refine g_istore (ls' := [some (zR 178), some (zI s), some (zI r), some (zI i), some (zI n), some (zI w), some (zI q), some (zI 1), some (zI ((wb 0 ι 0) - 1)), some (zI 2), none, none]) dX7_fits_174 (by decide) rfl ?_
                          refine g_iconst (x := 0) rfl dX7_fits_176 ?_
                          refine g_istore (ls' := [some (zR 178), some (zI s), some (zI r), some (zI i), some (zI n), some (zI w), some (zI q), some (zI 1), some (zI ((wb 0 ι 0) - 1)), some (zI 2), some (zI 0), none]) dX7_fits_177 (by decide) rfl ?_
                          refine g_iload (x := 1) rfl dX7_fits_179 ?_
                          refine g_istore (ls' := [some (zR 178), some (zI s), some (zI r), some (zI i), some (zI n), some (zI w), some (zI q), some (zI 1), some (zI ((wb 0 ι 0) - 1)), some (zI 2), some (zI 0), some (zI 1)]) dX7_fits_181 (by decide) rfl ?_
                          have e0 : wb 0 ι1 = wb 0 ι := by rw [hι1, wb_up (Or.inl (by decide))]
                          have e1 : ∀ x, ι1 183 x = ι 183 x := fun x => by rw [hι1, iup_n _ (Or.inl (by decide))]
                          have hh := lp_fits (l := l) (D := D) (ad := ad) (L := L) (z := z) (ι := ι1) (by rw [e0]; exact hT) (by rw [e0]; omega) (s := s) (r := r) (i := i) (n := n) (w := w) (q := q) (by rw [e0]; omega) (by omega) (by omega) (by omega) (by omega) (fun x q0 q1 => by rw [e1]; exact hI x q0 q1) (zffr w) (by omega) (by have := zfr_b hV (by omega) (w := w) (by omega); rw [e0]; omega) (wb 38 ι1)
                          rw [zgb_0, wp_wb, e0, show zffr w = 1 by unfold zffr; (repeat' split) <;> omega, show zfto (wb 0 ι) w = (wb 0 ι 0) - 1 by unfold zfto; (repeat' split) <;> omega, show zfpl (wb 0 ι) s w = 2 by unfold zfpl; (repeat' split) <;> first | rfl | (exfalso; omega)] at hh
                          refine zGi_mono ?_ hh
                          rintro x y ⟨hv, hy⟩
                          simp only [e1] at hv
                          rw [if_neg (by omega), if_neg (by omega), if_neg (by omega), if_neg (by omega), ← hι1]
                          exact ⟨hv, hy⟩
                      · refine g_bipush (x := 14) (by decide) dX7_fits_141 ?_
                        refine g_iload_n (x := s) rfl dX7_fits_143 ?_
                        refine g_iadd dX7_fits_144 ?_
                        refine g_goto (t := 174) dX7_fits_145 (by decide) ?_
                        refine g_istore (ls' := [some (zR 178), some (zI s), some (zI r), some (zI i), some (zI n), some (zI w), some (zI q), some (zI 1), some (zI ((wb 0 ι 0) - 1)), some (zI (14 + s)), none, none]) dX7_fits_174 (by decide) rfl ?_
                        refine g_iconst (x := 0) rfl dX7_fits_176 ?_
                        refine g_istore (ls' := [some (zR 178), some (zI s), some (zI r), some (zI i), some (zI n), some (zI w), some (zI q), some (zI 1), some (zI ((wb 0 ι 0) - 1)), some (zI (14 + s)), some (zI 0), none]) dX7_fits_177 (by decide) rfl ?_
                        refine g_iload (x := 1) rfl dX7_fits_179 ?_
                        refine g_istore (ls' := [some (zR 178), some (zI s), some (zI r), some (zI i), some (zI n), some (zI w), some (zI q), some (zI 1), some (zI ((wb 0 ι 0) - 1)), some (zI (14 + s)), some (zI 0), some (zI 1)]) dX7_fits_181 (by decide) rfl ?_
                        have e0 : wb 0 ι1 = wb 0 ι := by rw [hι1, wb_up (Or.inl (by decide))]
                        have e1 : ∀ x, ι1 183 x = ι 183 x := fun x => by rw [hι1, iup_n _ (Or.inl (by decide))]
                        have hh := lp_fits (l := l) (D := D) (ad := ad) (L := L) (z := z) (ι := ι1) (by rw [e0]; exact hT) (by rw [e0]; omega) (s := s) (r := r) (i := i) (n := n) (w := w) (q := q) (by rw [e0]; omega) (by omega) (by omega) (by omega) (by omega) (fun x q0 q1 => by rw [e1]; exact hI x q0 q1) (zffr w) (by omega) (by have := zfr_b hV (by omega) (w := w) (by omega); rw [e0]; omega) (wb 38 ι1)
                        rw [zgb_0, wp_wb, e0, show zffr w = 1 by unfold zffr; (repeat' split) <;> omega, show zfto (wb 0 ι) w = (wb 0 ι 0) - 1 by unfold zfto; (repeat' split) <;> omega, show zfpl (wb 0 ι) s w = 14 + s by unfold zfpl; (repeat' split) <;> first | rfl | (exfalso; omega)] at hh
                        refine zGi_mono ?_ hh
                        rintro x y ⟨hv, hy⟩
                        simp only [e1] at hv
                        rw [if_neg (by omega), if_neg (by omega), if_neg (by omega), if_neg (by omega), ← hι1]
                        exact ⟨hv, hy⟩
                    · refine g_bipush (x := 6) (by decide) dX7_fits_128 ?_
                      refine g_iload_n (x := s) rfl dX7_fits_130 ?_
                      refine g_iadd dX7_fits_131 ?_
                      refine g_goto (t := 174) dX7_fits_132 (by decide) ?_
                      refine g_istore (ls' := [some (zR 178), some (zI s), some (zI r), some (zI i), some (zI n), some (zI w), some (zI q), some (zI 1), some (zI ((wb 0 ι 0) - 1)), some (zI (6 + s)), none, none]) dX7_fits_174 (by decide) rfl ?_
                      refine g_iconst (x := 0) rfl dX7_fits_176 ?_
                      refine g_istore (ls' := [some (zR 178), some (zI s), some (zI r), some (zI i), some (zI n), some (zI w), some (zI q), some (zI 1), some (zI ((wb 0 ι 0) - 1)), some (zI (6 + s)), some (zI 0), none]) dX7_fits_177 (by decide) rfl ?_
                      refine g_iload (x := 1) rfl dX7_fits_179 ?_
                      refine g_istore (ls' := [some (zR 178), some (zI s), some (zI r), some (zI i), some (zI n), some (zI w), some (zI q), some (zI 1), some (zI ((wb 0 ι 0) - 1)), some (zI (6 + s)), some (zI 0), some (zI 1)]) dX7_fits_181 (by decide) rfl ?_
                      have e0 : wb 0 ι1 = wb 0 ι := by rw [hι1, wb_up (Or.inl (by decide))]
                      have e1 : ∀ x, ι1 183 x = ι 183 x := fun x => by rw [hι1, iup_n _ (Or.inl (by decide))]
                      have hh := lp_fits (l := l) (D := D) (ad := ad) (L := L) (z := z) (ι := ι1) (by rw [e0]; exact hT) (by rw [e0]; omega) (s := s) (r := r) (i := i) (n := n) (w := w) (q := q) (by rw [e0]; omega) (by omega) (by omega) (by omega) (by omega) (fun x q0 q1 => by rw [e1]; exact hI x q0 q1) (zffr w) (by omega) (by have := zfr_b hV (by omega) (w := w) (by omega); rw [e0]; omega) (wb 38 ι1)
                      rw [zgb_0, wp_wb, e0, show zffr w = 1 by unfold zffr; (repeat' split) <;> omega, show zfto (wb 0 ι) w = (wb 0 ι 0) - 1 by unfold zfto; (repeat' split) <;> omega, show zfpl (wb 0 ι) s w = 6 + s by unfold zfpl; (repeat' split) <;> first | rfl | (exfalso; omega)] at hh
                      refine zGi_mono ?_ hh
                      rintro x y ⟨hv, hy⟩
                      simp only [e1] at hv
                      rw [if_neg (by omega), if_neg (by omega), if_neg (by omega), if_neg (by omega), ← hι1]
                      exact ⟨hv, hy⟩
                  · refine g_iconst (x := 3) rfl dX7_fits_109 ?_
                    refine g_goto (t := 121) dX7_fits_110 (by decide) ?_
                    refine g_istore (ls' := [some (zR 178), some (zI s), some (zI r), some (zI i), some (zI n), some (zI w), some (zI q), some (zI 1), some (zI 3), none, none, none]) dX7_fits_121 (by decide) rfl ?_
                    refine g_iload (x := w) rfl dX7_fits_123 ?_
                    refine g_if_ne ⟨by omega, by omega⟩ (t := 135) dX7_fits_125 (by decide) (fun h125 => ?_) (fun h125 => ?_)
                    · refine g_iload (x := w) rfl dX7_fits_135 ?_
                      refine g_iconst (x := 1) rfl dX7_fits_137 ?_
                      refine g_icmp_ne ⟨by omega, by omega⟩ (by decide) (t := 148) dX7_fits_138 (by decide) (fun h138 => ?_) (fun h138 => ?_)
                      · refine g_iload (x := w) rfl dX7_fits_148 ?_
                        refine g_iconst (x := 2) rfl dX7_fits_150 ?_
                        refine g_icmp_ne ⟨by omega, by omega⟩ (by decide) (t := 158) dX7_fits_151 (by decide) (fun h151 => ?_) (fun h151 => ?_)
                        · refine g_bipush (x := 30) (by decide) dX7_fits_158 ?_
                          refine g_aload_n (x := 178) rfl dX7_fits_160 ?_
                          refine g_get fgX7_7 zcl_7 (congrArg Prod.fst sh_178) (by decide) rg_178_0 dX7_fits_161 ?_
                          refine g_iconst (x := 4) rfl dX7_fits_164 ?_
                          refine g_iald sh_179 (by decide) (by omega) (by omega) (by decide) ag_179 dX7_fits_165 ?_
                          refine g_aload_n (x := 178) rfl dX7_fits_166 ?_
                          refine g_get fgX7_7 zcl_7 (congrArg Prod.fst sh_178) (by decide) rg_178_0 dX7_fits_167 ?_
                          refine g_iconst (x := 1) rfl dX7_fits_170 ?_
                          refine g_iald sh_179 (by decide) (by omega) (by omega) (by decide) ag_179 dX7_fits_171 ?_
                          rw [o4, o1]
                          refine g_irem (by omega) (by omega) (by omega) (by omega) dX7_fits_172 ?_
                          refine g_iadd dX7_fits_173 ?_
                          refine g_istore (ls' := [some (zR 178), some (zI s), some (zI r), some (zI i), some (zI n), some (zI w), some (zI q), some (zI 1), some (zI 3), some (zI (30 + ((wb 0 ι 4) % (wb 0 ι 1)))), none, none]) dX7_fits_174 (by decide) rfl ?_
                          refine g_iconst (x := 0) rfl dX7_fits_176 ?_
                          refine g_istore (ls' := [some (zR 178), some (zI s), some (zI r), some (zI i), some (zI n), some (zI w), some (zI q), some (zI 1), some (zI 3), some (zI (30 + ((wb 0 ι 4) % (wb 0 ι 1)))), some (zI 0), none]) dX7_fits_177 (by decide) rfl ?_
                          refine g_iload (x := 1) rfl dX7_fits_179 ?_
                          refine g_istore (ls' := [some (zR 178), some (zI s), some (zI r), some (zI i), some (zI n), some (zI w), some (zI q), some (zI 1), some (zI 3), some (zI (30 + ((wb 0 ι 4) % (wb 0 ι 1)))), some (zI 0), some (zI 1)]) dX7_fits_181 (by decide) rfl ?_
                          have e0 : wb 0 ι1 = wb 0 ι := by rw [hι1, wb_up (Or.inl (by decide))]
                          have e1 : ∀ x, ι1 183 x = ι 183 x := fun x => by rw [hι1, iup_n _ (Or.inl (by decide))]
                          have hh := lp_fits (l := l) (D := D) (ad := ad) (L := L) (z := z) (ι := ι1) (by rw [e0]; exact hT) (by rw [e0]; omega) (s := s) (r := r) (i := i) (n := n) (w := w) (q := q) (by rw [e0]; omega) (by omega) (by omega) (by omega) (by omega) (fun x q0 q1 => by rw [e1]; exact hI x q0 q1) (zffr w) (by omega) (by have := zfr_b hV (by omega) (w := w) (by omega); rw [e0]; omega) (wb 38 ι1)
                          rw [zgb_0, wp_wb, e0, show zffr w = 1 by unfold zffr; (repeat' split) <;> omega, show zfto (wb 0 ι) w = 3 by unfold zfto; (repeat' split) <;> omega, show zfpl (wb 0 ι) s w = 30 + ((wb 0 ι 4) % (wb 0 ι 1)) by unfold zfpl; (repeat' split) <;> first | rfl | (exfalso; omega)] at hh
                          refine zGi_mono ?_ hh
                          rintro x y ⟨hv, hy⟩
                          simp only [e1] at hv
                          rw [if_neg (by omega), if_neg (by omega), if_neg (by omega), if_neg (by omega), ← hι1]
                          exact ⟨hv, hy⟩
                        · refine g_iconst (x := 2) rfl dX7_fits_154 ?_
                          refine g_goto (t := 174) dX7_fits_155 (by decide) ?_
                          refine g_istore (ls' := [some (zR 178), some (zI s), some (zI r), some (zI i), some (zI n), some (zI w), some (zI q), some (zI 1), some (zI 3), some (zI 2), none, none]) dX7_fits_174 (by decide) rfl ?_
                          refine g_iconst (x := 0) rfl dX7_fits_176 ?_
                          refine g_istore (ls' := [some (zR 178), some (zI s), some (zI r), some (zI i), some (zI n), some (zI w), some (zI q), some (zI 1), some (zI 3), some (zI 2), some (zI 0), none]) dX7_fits_177 (by decide) rfl ?_
                          refine g_iload (x := 1) rfl dX7_fits_179 ?_
                          refine g_istore (ls' := [some (zR 178), some (zI s), some (zI r), some (zI i), some (zI n), some (zI w), some (zI q), some (zI 1), some (zI 3), some (zI 2), some (zI 0), some (zI 1)]) dX7_fits_181 (by decide) rfl ?_
                          have e0 : wb 0 ι1 = wb 0 ι := by rw [hι1, wb_up (Or.inl (by decide))]
                          have e1 : ∀ x, ι1 183 x = ι 183 x := fun x => by rw [hι1, iup_n _ (Or.inl (by decide))]
                          have hh := lp_fits (l := l) (D := D) (ad := ad) (L := L) (z := z) (ι := ι1) (by rw [e0]; exact hT) (by rw [e0]; omega) (s := s) (r := r) (i := i) (n := n) (w := w) (q := q) (by rw [e0]; omega) (by omega) (by omega) (by omega) (by omega) (fun x q0 q1 => by rw [e1]; exact hI x q0 q1) (zffr w) (by omega) (by have := zfr_b hV (by omega) (w := w) (by omega); rw [e0]; omega) (wb 38 ι1)
                          rw [zgb_0, wp_wb, e0, show zffr w = 1 by unfold zffr; (repeat' split) <;> omega, show zfto (wb 0 ι) w = 3 by unfold zfto; (repeat' split) <;> omega, show zfpl (wb 0 ι) s w = 2 by unfold zfpl; (repeat' split) <;> first | rfl | (exfalso; omega)] at hh
                          refine zGi_mono ?_ hh
                          rintro x y ⟨hv, hy⟩
                          simp only [e1] at hv
                          rw [if_neg (by omega), if_neg (by omega), if_neg (by omega), if_neg (by omega), ← hι1]
                          exact ⟨hv, hy⟩
                      · refine g_bipush (x := 14) (by decide) dX7_fits_141 ?_
                        refine g_iload_n (x := s) rfl dX7_fits_143 ?_
                        refine g_iadd dX7_fits_144 ?_
                        refine g_goto (t := 174) dX7_fits_145 (by decide) ?_
                        refine g_istore (ls' := [some (zR 178), some (zI s), some (zI r), some (zI i), some (zI n), some (zI w), some (zI q), some (zI 1), some (zI 3), some (zI (14 + s)), none, none]) dX7_fits_174 (by decide) rfl ?_
                        refine g_iconst (x := 0) rfl dX7_fits_176 ?_
                        refine g_istore (ls' := [some (zR 178), some (zI s), some (zI r), some (zI i), some (zI n), some (zI w), some (zI q), some (zI 1), some (zI 3), some (zI (14 + s)), some (zI 0), none]) dX7_fits_177 (by decide) rfl ?_
                        refine g_iload (x := 1) rfl dX7_fits_179 ?_
                        refine g_istore (ls' := [some (zR 178), some (zI s), some (zI r), some (zI i), some (zI n), some (zI w), some (zI q), some (zI 1), some (zI 3), some (zI (14 + s)), some (zI 0), some (zI 1)]) dX7_fits_181 (by decide) rfl ?_
                        have e0 : wb 0 ι1 = wb 0 ι := by rw [hι1, wb_up (Or.inl (by decide))]
                        have e1 : ∀ x, ι1 183 x = ι 183 x := fun x => by rw [hι1, iup_n _ (Or.inl (by decide))]
                        have hh := lp_fits (l := l) (D := D) (ad := ad) (L := L) (z := z) (ι := ι1) (by rw [e0]; exact hT) (by rw [e0]; omega) (s := s) (r := r) (i := i) (n := n) (w := w) (q := q) (by rw [e0]; omega) (by omega) (by omega) (by omega) (by omega) (fun x q0 q1 => by rw [e1]; exact hI x q0 q1) (zffr w) (by omega) (by have := zfr_b hV (by omega) (w := w) (by omega); rw [e0]; omega) (wb 38 ι1)
                        rw [zgb_0, wp_wb, e0, show zffr w = 1 by unfold zffr; (repeat' split) <;> omega, show zfto (wb 0 ι) w = 3 by unfold zfto; (repeat' split) <;> omega, show zfpl (wb 0 ι) s w = 14 + s by unfold zfpl; (repeat' split) <;> first | rfl | (exfalso; omega)] at hh
                        refine zGi_mono ?_ hh
                        rintro x y ⟨hv, hy⟩
                        simp only [e1] at hv
                        rw [if_neg (by omega), if_neg (by omega), if_neg (by omega), if_neg (by omega), ← hι1]
                        exact ⟨hv, hy⟩
                    · refine g_bipush (x := 6) (by decide) dX7_fits_128 ?_
                      refine g_iload_n (x := s) rfl dX7_fits_130 ?_
                      refine g_iadd dX7_fits_131 ?_
                      refine g_goto (t := 174) dX7_fits_132 (by decide) ?_
                      refine g_istore (ls' := [some (zR 178), some (zI s), some (zI r), some (zI i), some (zI n), some (zI w), some (zI q), some (zI 1), some (zI 3), some (zI (6 + s)), none, none]) dX7_fits_174 (by decide) rfl ?_
                      refine g_iconst (x := 0) rfl dX7_fits_176 ?_
                      refine g_istore (ls' := [some (zR 178), some (zI s), some (zI r), some (zI i), some (zI n), some (zI w), some (zI q), some (zI 1), some (zI 3), some (zI (6 + s)), some (zI 0), none]) dX7_fits_177 (by decide) rfl ?_
                      refine g_iload (x := 1) rfl dX7_fits_179 ?_
                      refine g_istore (ls' := [some (zR 178), some (zI s), some (zI r), some (zI i), some (zI n), some (zI w), some (zI q), some (zI 1), some (zI 3), some (zI (6 + s)), some (zI 0), some (zI 1)]) dX7_fits_181 (by decide) rfl ?_
                      have e0 : wb 0 ι1 = wb 0 ι := by rw [hι1, wb_up (Or.inl (by decide))]
                      have e1 : ∀ x, ι1 183 x = ι 183 x := fun x => by rw [hι1, iup_n _ (Or.inl (by decide))]
                      have hh := lp_fits (l := l) (D := D) (ad := ad) (L := L) (z := z) (ι := ι1) (by rw [e0]; exact hT) (by rw [e0]; omega) (s := s) (r := r) (i := i) (n := n) (w := w) (q := q) (by rw [e0]; omega) (by omega) (by omega) (by omega) (by omega) (fun x q0 q1 => by rw [e1]; exact hI x q0 q1) (zffr w) (by omega) (by have := zfr_b hV (by omega) (w := w) (by omega); rw [e0]; omega) (wb 38 ι1)
                      rw [zgb_0, wp_wb, e0, show zffr w = 1 by unfold zffr; (repeat' split) <;> omega, show zfto (wb 0 ι) w = 3 by unfold zfto; (repeat' split) <;> omega, show zfpl (wb 0 ι) s w = 6 + s by unfold zfpl; (repeat' split) <;> first | rfl | (exfalso; omega)] at hh
                      refine zGi_mono ?_ hh
                      rintro x y ⟨hv, hy⟩
                      simp only [e1] at hv
                      rw [if_neg (by omega), if_neg (by omega), if_neg (by omega), if_neg (by omega), ← hι1]
                      exact ⟨hv, hy⟩
                · refine g_bipush (x := 20) (by decide) dX7_fits_98 ?_
                  refine g_goto (t := 121) dX7_fits_100 (by decide) ?_
                  refine g_istore (ls' := [some (zR 178), some (zI s), some (zI r), some (zI i), some (zI n), some (zI w), some (zI q), some (zI 1), some (zI 20), none, none, none]) dX7_fits_121 (by decide) rfl ?_
                  refine g_iload (x := w) rfl dX7_fits_123 ?_
                  refine g_if_ne ⟨by omega, by omega⟩ (t := 135) dX7_fits_125 (by decide) (fun h125 => ?_) (fun h125 => ?_)
                  · refine g_iload (x := w) rfl dX7_fits_135 ?_
                    refine g_iconst (x := 1) rfl dX7_fits_137 ?_
                    refine g_icmp_ne ⟨by omega, by omega⟩ (by decide) (t := 148) dX7_fits_138 (by decide) (fun h138 => ?_) (fun h138 => ?_)
                    · refine g_iload (x := w) rfl dX7_fits_148 ?_
                      refine g_iconst (x := 2) rfl dX7_fits_150 ?_
                      refine g_icmp_ne ⟨by omega, by omega⟩ (by decide) (t := 158) dX7_fits_151 (by decide) (fun h151 => ?_) (fun h151 => ?_)
                      · refine g_bipush (x := 30) (by decide) dX7_fits_158 ?_
                        refine g_aload_n (x := 178) rfl dX7_fits_160 ?_
                        refine g_get fgX7_7 zcl_7 (congrArg Prod.fst sh_178) (by decide) rg_178_0 dX7_fits_161 ?_
                        refine g_iconst (x := 4) rfl dX7_fits_164 ?_
                        refine g_iald sh_179 (by decide) (by omega) (by omega) (by decide) ag_179 dX7_fits_165 ?_
                        refine g_aload_n (x := 178) rfl dX7_fits_166 ?_
                        refine g_get fgX7_7 zcl_7 (congrArg Prod.fst sh_178) (by decide) rg_178_0 dX7_fits_167 ?_
                        refine g_iconst (x := 1) rfl dX7_fits_170 ?_
                        refine g_iald sh_179 (by decide) (by omega) (by omega) (by decide) ag_179 dX7_fits_171 ?_
                        rw [o4, o1]
                        refine g_irem (by omega) (by omega) (by omega) (by omega) dX7_fits_172 ?_
                        refine g_iadd dX7_fits_173 ?_
                        refine g_istore (ls' := [some (zR 178), some (zI s), some (zI r), some (zI i), some (zI n), some (zI w), some (zI q), some (zI 1), some (zI 20), some (zI (30 + ((wb 0 ι 4) % (wb 0 ι 1)))), none, none]) dX7_fits_174 (by decide) rfl ?_
                        refine g_iconst (x := 0) rfl dX7_fits_176 ?_
                        refine g_istore (ls' := [some (zR 178), some (zI s), some (zI r), some (zI i), some (zI n), some (zI w), some (zI q), some (zI 1), some (zI 20), some (zI (30 + ((wb 0 ι 4) % (wb 0 ι 1)))), some (zI 0), none]) dX7_fits_177 (by decide) rfl ?_
                        refine g_iload (x := 1) rfl dX7_fits_179 ?_
                        refine g_istore (ls' := [some (zR 178), some (zI s), some (zI r), some (zI i), some (zI n), some (zI w), some (zI q), some (zI 1), some (zI 20), some (zI (30 + ((wb 0 ι 4) % (wb 0 ι 1)))), some (zI 0), some (zI 1)]) dX7_fits_181 (by decide) rfl ?_
                        have e0 : wb 0 ι1 = wb 0 ι := by rw [hι1, wb_up (Or.inl (by decide))]
                        have e1 : ∀ x, ι1 183 x = ι 183 x := fun x => by rw [hι1, iup_n _ (Or.inl (by decide))]
                        have hh := lp_fits (l := l) (D := D) (ad := ad) (L := L) (z := z) (ι := ι1) (by rw [e0]; exact hT) (by rw [e0]; omega) (s := s) (r := r) (i := i) (n := n) (w := w) (q := q) (by rw [e0]; omega) (by omega) (by omega) (by omega) (by omega) (fun x q0 q1 => by rw [e1]; exact hI x q0 q1) (zffr w) (by omega) (by have := zfr_b hV (by omega) (w := w) (by omega); rw [e0]; omega) (wb 38 ι1)
                        rw [zgb_0, wp_wb, e0, show zffr w = 1 by unfold zffr; (repeat' split) <;> omega, show zfto (wb 0 ι) w = 20 by unfold zfto; (repeat' split) <;> omega, show zfpl (wb 0 ι) s w = 30 + ((wb 0 ι 4) % (wb 0 ι 1)) by unfold zfpl; (repeat' split) <;> first | rfl | (exfalso; omega)] at hh
                        refine zGi_mono ?_ hh
                        rintro x y ⟨hv, hy⟩
                        simp only [e1] at hv
                        rw [if_neg (by omega), if_neg (by omega), if_neg (by omega), if_neg (by omega), ← hι1]
                        exact ⟨hv, hy⟩
                      · refine g_iconst (x := 2) rfl dX7_fits_154 ?_
                        refine g_goto (t := 174) dX7_fits_155 (by decide) ?_
                        refine g_istore (ls' := [some (zR 178), some (zI s), some (zI r), some (zI i), some (zI n), some (zI w), some (zI q), some (zI 1), some (zI 20), some (zI 2), none, none]) dX7_fits_174 (by decide) rfl ?_
                        refine g_iconst (x := 0) rfl dX7_fits_176 ?_
                        refine g_istore (ls' := [some (zR 178), some (zI s), some (zI r), some (zI i), some (zI n), some (zI w), some (zI q), some (zI 1), some (zI 20), some (zI 2), some (zI 0), none]) dX7_fits_177 (by decide) rfl ?_
                        refine g_iload (x := 1) rfl dX7_fits_179 ?_
                        refine g_istore (ls' := [some (zR 178), some (zI s), some (zI r), some (zI i), some (zI n), some (zI w), some (zI q), some (zI 1), some (zI 20), some (zI 2), some (zI 0), some (zI 1)]) dX7_fits_181 (by decide) rfl ?_
                        have e0 : wb 0 ι1 = wb 0 ι := by rw [hι1, wb_up (Or.inl (by decide))]
                        have e1 : ∀ x, ι1 183 x = ι 183 x := fun x => by rw [hι1, iup_n _ (Or.inl (by decide))]
                        have hh := lp_fits (l := l) (D := D) (ad := ad) (L := L) (z := z) (ι := ι1) (by rw [e0]; exact hT) (by rw [e0]; omega) (s := s) (r := r) (i := i) (n := n) (w := w) (q := q) (by rw [e0]; omega) (by omega) (by omega) (by omega) (by omega) (fun x q0 q1 => by rw [e1]; exact hI x q0 q1) (zffr w) (by omega) (by have := zfr_b hV (by omega) (w := w) (by omega); rw [e0]; omega) (wb 38 ι1)
                        rw [zgb_0, wp_wb, e0, show zffr w = 1 by unfold zffr; (repeat' split) <;> omega, show zfto (wb 0 ι) w = 20 by unfold zfto; (repeat' split) <;> omega, show zfpl (wb 0 ι) s w = 2 by unfold zfpl; (repeat' split) <;> first | rfl | (exfalso; omega)] at hh
                        refine zGi_mono ?_ hh
                        rintro x y ⟨hv, hy⟩
                        simp only [e1] at hv
                        rw [if_neg (by omega), if_neg (by omega), if_neg (by omega), if_neg (by omega), ← hι1]
                        exact ⟨hv, hy⟩
                    · refine g_bipush (x := 14) (by decide) dX7_fits_141 ?_
                      refine g_iload_n (x := s) rfl dX7_fits_143 ?_
                      refine g_iadd dX7_fits_144 ?_
                      refine g_goto (t := 174) dX7_fits_145 (by decide) ?_
                      refine g_istore (ls' := [some (zR 178), some (zI s), some (zI r), some (zI i), some (zI n), some (zI w), some (zI q), some (zI 1), some (zI 20), some (zI (14 + s)), none, none]) dX7_fits_174 (by decide) rfl ?_
                      refine g_iconst (x := 0) rfl dX7_fits_176 ?_
                      refine g_istore (ls' := [some (zR 178), some (zI s), some (zI r), some (zI i), some (zI n), some (zI w), some (zI q), some (zI 1), some (zI 20), some (zI (14 + s)), some (zI 0), none]) dX7_fits_177 (by decide) rfl ?_
                      refine g_iload (x := 1) rfl dX7_fits_179 ?_
                      refine g_istore (ls' := [some (zR 178), some (zI s), some (zI r), some (zI i), some (zI n), some (zI w), some (zI q), some (zI 1), some (zI 20), some (zI (14 + s)), some (zI 0), some (zI 1)]) dX7_fits_181 (by decide) rfl ?_
                      have e0 : wb 0 ι1 = wb 0 ι := by rw [hι1, wb_up (Or.inl (by decide))]
                      have e1 : ∀ x, ι1 183 x = ι 183 x := fun x => by rw [hι1, iup_n _ (Or.inl (by decide))]
                      have hh := lp_fits (l := l) (D := D) (ad := ad) (L := L) (z := z) (ι := ι1) (by rw [e0]; exact hT) (by rw [e0]; omega) (s := s) (r := r) (i := i) (n := n) (w := w) (q := q) (by rw [e0]; omega) (by omega) (by omega) (by omega) (by omega) (fun x q0 q1 => by rw [e1]; exact hI x q0 q1) (zffr w) (by omega) (by have := zfr_b hV (by omega) (w := w) (by omega); rw [e0]; omega) (wb 38 ι1)
                      rw [zgb_0, wp_wb, e0, show zffr w = 1 by unfold zffr; (repeat' split) <;> omega, show zfto (wb 0 ι) w = 20 by unfold zfto; (repeat' split) <;> omega, show zfpl (wb 0 ι) s w = 14 + s by unfold zfpl; (repeat' split) <;> first | rfl | (exfalso; omega)] at hh
                      refine zGi_mono ?_ hh
                      rintro x y ⟨hv, hy⟩
                      simp only [e1] at hv
                      rw [if_neg (by omega), if_neg (by omega), if_neg (by omega), if_neg (by omega), ← hι1]
                      exact ⟨hv, hy⟩
                  · refine g_bipush (x := 6) (by decide) dX7_fits_128 ?_
                    refine g_iload_n (x := s) rfl dX7_fits_130 ?_
                    refine g_iadd dX7_fits_131 ?_
                    refine g_goto (t := 174) dX7_fits_132 (by decide) ?_
                    refine g_istore (ls' := [some (zR 178), some (zI s), some (zI r), some (zI i), some (zI n), some (zI w), some (zI q), some (zI 1), some (zI 20), some (zI (6 + s)), none, none]) dX7_fits_174 (by decide) rfl ?_
                    refine g_iconst (x := 0) rfl dX7_fits_176 ?_
                    refine g_istore (ls' := [some (zR 178), some (zI s), some (zI r), some (zI i), some (zI n), some (zI w), some (zI q), some (zI 1), some (zI 20), some (zI (6 + s)), some (zI 0), none]) dX7_fits_177 (by decide) rfl ?_
                    refine g_iload (x := 1) rfl dX7_fits_179 ?_
                    refine g_istore (ls' := [some (zR 178), some (zI s), some (zI r), some (zI i), some (zI n), some (zI w), some (zI q), some (zI 1), some (zI 20), some (zI (6 + s)), some (zI 0), some (zI 1)]) dX7_fits_181 (by decide) rfl ?_
                    have e0 : wb 0 ι1 = wb 0 ι := by rw [hι1, wb_up (Or.inl (by decide))]
                    have e1 : ∀ x, ι1 183 x = ι 183 x := fun x => by rw [hι1, iup_n _ (Or.inl (by decide))]
                    have hh := lp_fits (l := l) (D := D) (ad := ad) (L := L) (z := z) (ι := ι1) (by rw [e0]; exact hT) (by rw [e0]; omega) (s := s) (r := r) (i := i) (n := n) (w := w) (q := q) (by rw [e0]; omega) (by omega) (by omega) (by omega) (by omega) (fun x q0 q1 => by rw [e1]; exact hI x q0 q1) (zffr w) (by omega) (by have := zfr_b hV (by omega) (w := w) (by omega); rw [e0]; omega) (wb 38 ι1)
                    rw [zgb_0, wp_wb, e0, show zffr w = 1 by unfold zffr; (repeat' split) <;> omega, show zfto (wb 0 ι) w = 20 by unfold zfto; (repeat' split) <;> omega, show zfpl (wb 0 ι) s w = 6 + s by unfold zfpl; (repeat' split) <;> first | rfl | (exfalso; omega)] at hh
                    refine zGi_mono ?_ hh
                    rintro x y ⟨hv, hy⟩
                    simp only [e1] at hv
                    rw [if_neg (by omega), if_neg (by omega), if_neg (by omega), if_neg (by omega), ← hι1]
                    exact ⟨hv, hy⟩
              · refine g_iconst (x := 5) rfl dX7_fits_88 ?_
                refine g_goto (t := 121) dX7_fits_89 (by decide) ?_
                refine g_istore (ls' := [some (zR 178), some (zI s), some (zI r), some (zI i), some (zI n), some (zI w), some (zI q), some (zI 1), some (zI 5), none, none, none]) dX7_fits_121 (by decide) rfl ?_
                refine g_iload (x := w) rfl dX7_fits_123 ?_
                refine g_if_ne ⟨by omega, by omega⟩ (t := 135) dX7_fits_125 (by decide) (fun h125 => ?_) (fun h125 => ?_)
                · refine g_iload (x := w) rfl dX7_fits_135 ?_
                  refine g_iconst (x := 1) rfl dX7_fits_137 ?_
                  refine g_icmp_ne ⟨by omega, by omega⟩ (by decide) (t := 148) dX7_fits_138 (by decide) (fun h138 => ?_) (fun h138 => ?_)
                  · refine g_iload (x := w) rfl dX7_fits_148 ?_
                    refine g_iconst (x := 2) rfl dX7_fits_150 ?_
                    refine g_icmp_ne ⟨by omega, by omega⟩ (by decide) (t := 158) dX7_fits_151 (by decide) (fun h151 => ?_) (fun h151 => ?_)
                    · refine g_bipush (x := 30) (by decide) dX7_fits_158 ?_
                      refine g_aload_n (x := 178) rfl dX7_fits_160 ?_
                      refine g_get fgX7_7 zcl_7 (congrArg Prod.fst sh_178) (by decide) rg_178_0 dX7_fits_161 ?_
                      refine g_iconst (x := 4) rfl dX7_fits_164 ?_
                      refine g_iald sh_179 (by decide) (by omega) (by omega) (by decide) ag_179 dX7_fits_165 ?_
                      refine g_aload_n (x := 178) rfl dX7_fits_166 ?_
                      refine g_get fgX7_7 zcl_7 (congrArg Prod.fst sh_178) (by decide) rg_178_0 dX7_fits_167 ?_
                      refine g_iconst (x := 1) rfl dX7_fits_170 ?_
                      refine g_iald sh_179 (by decide) (by omega) (by omega) (by decide) ag_179 dX7_fits_171 ?_
                      rw [o4, o1]
                      refine g_irem (by omega) (by omega) (by omega) (by omega) dX7_fits_172 ?_
                      refine g_iadd dX7_fits_173 ?_
                      refine g_istore (ls' := [some (zR 178), some (zI s), some (zI r), some (zI i), some (zI n), some (zI w), some (zI q), some (zI 1), some (zI 5), some (zI (30 + ((wb 0 ι 4) % (wb 0 ι 1)))), none, none]) dX7_fits_174 (by decide) rfl ?_
                      refine g_iconst (x := 0) rfl dX7_fits_176 ?_
                      refine g_istore (ls' := [some (zR 178), some (zI s), some (zI r), some (zI i), some (zI n), some (zI w), some (zI q), some (zI 1), some (zI 5), some (zI (30 + ((wb 0 ι 4) % (wb 0 ι 1)))), some (zI 0), none]) dX7_fits_177 (by decide) rfl ?_
                      refine g_iload (x := 1) rfl dX7_fits_179 ?_
                      refine g_istore (ls' := [some (zR 178), some (zI s), some (zI r), some (zI i), some (zI n), some (zI w), some (zI q), some (zI 1), some (zI 5), some (zI (30 + ((wb 0 ι 4) % (wb 0 ι 1)))), some (zI 0), some (zI 1)]) dX7_fits_181 (by decide) rfl ?_
                      have e0 : wb 0 ι1 = wb 0 ι := by rw [hι1, wb_up (Or.inl (by decide))]
                      have e1 : ∀ x, ι1 183 x = ι 183 x := fun x => by rw [hι1, iup_n _ (Or.inl (by decide))]
                      have hh := lp_fits (l := l) (D := D) (ad := ad) (L := L) (z := z) (ι := ι1) (by rw [e0]; exact hT) (by rw [e0]; omega) (s := s) (r := r) (i := i) (n := n) (w := w) (q := q) (by rw [e0]; omega) (by omega) (by omega) (by omega) (by omega) (fun x q0 q1 => by rw [e1]; exact hI x q0 q1) (zffr w) (by omega) (by have := zfr_b hV (by omega) (w := w) (by omega); rw [e0]; omega) (wb 38 ι1)
                      rw [zgb_0, wp_wb, e0, show zffr w = 1 by unfold zffr; (repeat' split) <;> omega, show zfto (wb 0 ι) w = 5 by unfold zfto; (repeat' split) <;> omega, show zfpl (wb 0 ι) s w = 30 + ((wb 0 ι 4) % (wb 0 ι 1)) by unfold zfpl; (repeat' split) <;> first | rfl | (exfalso; omega)] at hh
                      refine zGi_mono ?_ hh
                      rintro x y ⟨hv, hy⟩
                      simp only [e1] at hv
                      rw [if_neg (by omega), if_neg (by omega), if_neg (by omega), if_neg (by omega), ← hι1]
                      exact ⟨hv, hy⟩
                    · refine g_iconst (x := 2) rfl dX7_fits_154 ?_
                      refine g_goto (t := 174) dX7_fits_155 (by decide) ?_
                      refine g_istore (ls' := [some (zR 178), some (zI s), some (zI r), some (zI i), some (zI n), some (zI w), some (zI q), some (zI 1), some (zI 5), some (zI 2), none, none]) dX7_fits_174 (by decide) rfl ?_
                      refine g_iconst (x := 0) rfl dX7_fits_176 ?_
                      refine g_istore (ls' := [some (zR 178), some (zI s), some (zI r), some (zI i), some (zI n), some (zI w), some (zI q), some (zI 1), some (zI 5), some (zI 2), some (zI 0), none]) dX7_fits_177 (by decide) rfl ?_
                      refine g_iload (x := 1) rfl dX7_fits_179 ?_
                      refine g_istore (ls' := [some (zR 178), some (zI s), some (zI r), some (zI i), some (zI n), some (zI w), some (zI q), some (zI 1), some (zI 5), some (zI 2), some (zI 0), some (zI 1)]) dX7_fits_181 (by decide) rfl ?_
                      have e0 : wb 0 ι1 = wb 0 ι := by rw [hι1, wb_up (Or.inl (by decide))]
                      have e1 : ∀ x, ι1 183 x = ι 183 x := fun x => by rw [hι1, iup_n _ (Or.inl (by decide))]
                      have hh := lp_fits (l := l) (D := D) (ad := ad) (L := L) (z := z) (ι := ι1) (by rw [e0]; exact hT) (by rw [e0]; omega) (s := s) (r := r) (i := i) (n := n) (w := w) (q := q) (by rw [e0]; omega) (by omega) (by omega) (by omega) (by omega) (fun x q0 q1 => by rw [e1]; exact hI x q0 q1) (zffr w) (by omega) (by have := zfr_b hV (by omega) (w := w) (by omega); rw [e0]; omega) (wb 38 ι1)
                      rw [zgb_0, wp_wb, e0, show zffr w = 1 by unfold zffr; (repeat' split) <;> omega, show zfto (wb 0 ι) w = 5 by unfold zfto; (repeat' split) <;> omega, show zfpl (wb 0 ι) s w = 2 by unfold zfpl; (repeat' split) <;> first | rfl | (exfalso; omega)] at hh
                      refine zGi_mono ?_ hh
                      rintro x y ⟨hv, hy⟩
                      simp only [e1] at hv
                      rw [if_neg (by omega), if_neg (by omega), if_neg (by omega), if_neg (by omega), ← hι1]
                      exact ⟨hv, hy⟩
                  · refine g_bipush (x := 14) (by decide) dX7_fits_141 ?_
                    refine g_iload_n (x := s) rfl dX7_fits_143 ?_
                    refine g_iadd dX7_fits_144 ?_
                    refine g_goto (t := 174) dX7_fits_145 (by decide) ?_
                    refine g_istore (ls' := [some (zR 178), some (zI s), some (zI r), some (zI i), some (zI n), some (zI w), some (zI q), some (zI 1), some (zI 5), some (zI (14 + s)), none, none]) dX7_fits_174 (by decide) rfl ?_
                    refine g_iconst (x := 0) rfl dX7_fits_176 ?_
                    refine g_istore (ls' := [some (zR 178), some (zI s), some (zI r), some (zI i), some (zI n), some (zI w), some (zI q), some (zI 1), some (zI 5), some (zI (14 + s)), some (zI 0), none]) dX7_fits_177 (by decide) rfl ?_
                    refine g_iload (x := 1) rfl dX7_fits_179 ?_
                    refine g_istore (ls' := [some (zR 178), some (zI s), some (zI r), some (zI i), some (zI n), some (zI w), some (zI q), some (zI 1), some (zI 5), some (zI (14 + s)), some (zI 0), some (zI 1)]) dX7_fits_181 (by decide) rfl ?_
                    have e0 : wb 0 ι1 = wb 0 ι := by rw [hι1, wb_up (Or.inl (by decide))]
                    have e1 : ∀ x, ι1 183 x = ι 183 x := fun x => by rw [hι1, iup_n _ (Or.inl (by decide))]
                    have hh := lp_fits (l := l) (D := D) (ad := ad) (L := L) (z := z) (ι := ι1) (by rw [e0]; exact hT) (by rw [e0]; omega) (s := s) (r := r) (i := i) (n := n) (w := w) (q := q) (by rw [e0]; omega) (by omega) (by omega) (by omega) (by omega) (fun x q0 q1 => by rw [e1]; exact hI x q0 q1) (zffr w) (by omega) (by have := zfr_b hV (by omega) (w := w) (by omega); rw [e0]; omega) (wb 38 ι1)
                    rw [zgb_0, wp_wb, e0, show zffr w = 1 by unfold zffr; (repeat' split) <;> omega, show zfto (wb 0 ι) w = 5 by unfold zfto; (repeat' split) <;> omega, show zfpl (wb 0 ι) s w = 14 + s by unfold zfpl; (repeat' split) <;> first | rfl | (exfalso; omega)] at hh
                    refine zGi_mono ?_ hh
                    rintro x y ⟨hv, hy⟩
                    simp only [e1] at hv
                    rw [if_neg (by omega), if_neg (by omega), if_neg (by omega), if_neg (by omega), ← hι1]
                    exact ⟨hv, hy⟩
                · refine g_bipush (x := 6) (by decide) dX7_fits_128 ?_
                  refine g_iload_n (x := s) rfl dX7_fits_130 ?_
                  refine g_iadd dX7_fits_131 ?_
                  refine g_goto (t := 174) dX7_fits_132 (by decide) ?_
                  refine g_istore (ls' := [some (zR 178), some (zI s), some (zI r), some (zI i), some (zI n), some (zI w), some (zI q), some (zI 1), some (zI 5), some (zI (6 + s)), none, none]) dX7_fits_174 (by decide) rfl ?_
                  refine g_iconst (x := 0) rfl dX7_fits_176 ?_
                  refine g_istore (ls' := [some (zR 178), some (zI s), some (zI r), some (zI i), some (zI n), some (zI w), some (zI q), some (zI 1), some (zI 5), some (zI (6 + s)), some (zI 0), none]) dX7_fits_177 (by decide) rfl ?_
                  refine g_iload (x := 1) rfl dX7_fits_179 ?_
                  refine g_istore (ls' := [some (zR 178), some (zI s), some (zI r), some (zI i), some (zI n), some (zI w), some (zI q), some (zI 1), some (zI 5), some (zI (6 + s)), some (zI 0), some (zI 1)]) dX7_fits_181 (by decide) rfl ?_
                  have e0 : wb 0 ι1 = wb 0 ι := by rw [hι1, wb_up (Or.inl (by decide))]
                  have e1 : ∀ x, ι1 183 x = ι 183 x := fun x => by rw [hι1, iup_n _ (Or.inl (by decide))]
                  have hh := lp_fits (l := l) (D := D) (ad := ad) (L := L) (z := z) (ι := ι1) (by rw [e0]; exact hT) (by rw [e0]; omega) (s := s) (r := r) (i := i) (n := n) (w := w) (q := q) (by rw [e0]; omega) (by omega) (by omega) (by omega) (by omega) (fun x q0 q1 => by rw [e1]; exact hI x q0 q1) (zffr w) (by omega) (by have := zfr_b hV (by omega) (w := w) (by omega); rw [e0]; omega) (wb 38 ι1)
                  rw [zgb_0, wp_wb, e0, show zffr w = 1 by unfold zffr; (repeat' split) <;> omega, show zfto (wb 0 ι) w = 5 by unfold zfto; (repeat' split) <;> omega, show zfpl (wb 0 ι) s w = 6 + s by unfold zfpl; (repeat' split) <;> first | rfl | (exfalso; omega)] at hh
                  refine zGi_mono ?_ hh
                  rintro x y ⟨hv, hy⟩
                  simp only [e1] at hv
                  rw [if_neg (by omega), if_neg (by omega), if_neg (by omega), if_neg (by omega), ← hι1]
                  exact ⟨hv, hy⟩
          · refine g_aload_n (x := 178) rfl dX7_fits_59 ?_
            refine g_iload (x := q) rfl dX7_fits_60 ?_
            refine i_callV mvX7_finds tw_881 (ci := 7) (congrArg Prod.fst sh_178) rfl (by decide) (c_finds) (by decide) (st' := []) rfl (Nat.le_of_ble_eq_true rfl) rfl dX7_fits_62 (fun v_1 ι9 hq_62 => ?_)
            obtain ⟨rfl, hι9⟩ := hq_62
            exact i_iret rfl dX7_fits_65 (⟨by rw [if_neg (by omega), if_pos (by omega), hq], by rw [if_neg (by omega), if_pos (by omega), ← hq, ← hι9]; exact zSc.r _⟩)
        · refine g_ldc (x := -1000001) tw_880 (by decide) dX7_fits_41 ?_
          exact i_iret rfl dX7_fits_43 (⟨by rw [if_pos (by omega)], by rw [if_pos (by omega)]; exact zSc.r _⟩)

end
