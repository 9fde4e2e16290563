section
variable {l : Launch} {D : va_G} {ad : Nat → Nat} {L z : Nat} {ι : zi}
/-! the reader, purely: h is what stands at a place, -1 behind the tape -/
abbrev zE (α : Type) := Except (Int × Int) α
abbrev zdg (h : Int → Int) (p : Int) : Prop := 48 ≤ h p ∧ h p ≤ 57
def pSg (h : Int → Int) (c p : Int) : zE Int := if h p = c then .ok (p + 1) else .error (1, p)
def pNm (h : Int → Int) (hi p : Int) : zE (Int × Int) := if ¬ zdg h p then .error (1, p) else if ¬ zdg h (p + 1) then (if h p - 48 ≤ hi then .ok (h p - 48, p + 1) else .error (2, p)) else if ¬ zdg h (p + 2) then (if 10 * (h p - 48) + h (p + 1) - 48 ≤ hi then .ok (10 * (h p - 48) + h (p + 1) - 48, p + 2) else .error (2, p)) else .error (1, p)
def zkd (c : Int) : Int := if c = 97 then 1 else if c = 110 then 2 else if c = 103 then 3 else if c = 116 then 4 else if c = 112 then 5 else 0
def pLw (h : Int → Int) (p : Int) (R : zr) : zE (Int × zr) := do
  let p ← pSg h 100 p
  let (a, p) ← pNm h 3 p
  let p ← pSg h 44 p
  let (b, p) ← pNm h 9 p
  let p ← pSg h 59 p
  return (p, ru (ru R 2 a) 3 b)
def pSt (h : Int → Int) (p : Int) (R : zr) : zE (Int × zr) := if zkd (h p) = 0 then .error (1, p) else if R 0 = 8 then .error (3, p) else do
  let (a, q) ← pNm h 20 (p + 1)
  let q ← pSg h 44 q
  let (b, q) ← pNm h 60 q
  let q ← pSg h 59 q
  return (q, ru (ru (ru (ru R (6 + R 0) (zkd (h p))) (14 + R 0) a) (22 + R 0) b) 0 (R 0 + 1))
def pBt (h : Int → Int) (p : Int) (R : zr) : zE (Int × zr) := if h p ≠ 114 then .error (1, p) else if R 1 = 8 then .error (3, p) else do
  let (a, q) ← pNm h (R 0 - 1) (p + 1)
  let q ← pSg h 59 q
  return (q, ru (ru R (30 + R 1) a) 1 (R 1 + 1))
/-- the streets, n turns at the most -/
def pSs (h : Int → Int) : Nat → Int → zr → zE (Int × zr)
  | 0, p, _ => .error (1, p)
  | n + 1, p, R => if R 0 ≠ 0 ∧ h p = 114 then .ok (p, R) else do
    let (q, S) ← pSt h p R
    pSs h n q S
/-- the beats, n turns at the most; L is where the tape ends -/
def pBs (h : Int → Int) (L : Int) : Nat → Int → zr → zE (Int × zr)
  | 0, p, _ => .error (1, p)
  | n + 1, p, R => if R 1 ≠ 0 ∧ L ≤ p then .ok (p, R) else do
    let (q, S) ← pBt h p R
    pBs h L n q S
def pAl (h : Int → Int) (L : Int) (R : zr) : zE (Int × zr) := do
  let (p, R) ← pLw h 0 R
  let (p, R) ← pSs h 10 p R
  pBs h L 10 p R
/-- the tape of the reference -/
def zqM (h : Int → Int) (L' : Int) (ι : zi) : Prop := ι 178 3 = L' ∧ (0 ≤ L' ∧ L' ≤ 110) ∧ (∀ p, 0 ≤ p → p < L' → h p = ι 180 p ∧ 0 ≤ h p ∧ h p ≤ 255) ∧ (∀ p, L' ≤ p → h p = -1)
/-- what the reader may write -/
def zFr (ι ι' : zi) : Prop := ∀ b x, (b ≠ 178 ∨ (x ≠ 4 ∧ x ≠ 10 ∧ x ≠ 11 ∧ x ≠ 12)) → (b ≠ 179 ∨ x < 152 ∨ 190 ≤ x) → ι' b x = ι b x
theorem zFr.r (ι : zi) : zFr ι ι := fun _ _ _ _ => rfl
theorem zFr.t {ι ι1 ι2 : zi} (h1 : zFr ι ι1) (h2 : zFr ι1 ι2) : zFr ι ι2 := fun b x g1 g2 => (h2 b x g1 g2).trans (h1 b x g1 g2)
theorem zFr.u {ι : zi} {b : Nat} {x v : Int} (h : (b = 178 ∧ (x = 4 ∨ x = 10 ∨ x = 11 ∨ x = 12)) ∨ (b = 179 ∧ 152 ≤ x ∧ x < 190)) : zFr ι (iup ι b x v) := fun c y g1 g2 => iup_n _ (by omega)
theorem zFr.q {h : Int → Int} {L' : Int} {ι ι' : zi} (hf : zFr ι ι') (q : zqM h L' ι) : zqM h L' ι' := by
  obtain ⟨q1, q2, q3, q4⟩ := q
  exact ⟨by rw [hf 178 3 (by decide) (by decide)]; exact q1, q2, fun p g0 g1 => by rw [hf 180 p (by omega) (by omega)]; exact q3 p g0 g1, q4⟩
def zOk (ι : zi) (E : zE (Int × zr)) (b : Int) (ι' : zi) : Prop := zFr ι ι' ∧ ((b = 0 ∧ ∃ w q, E = .error (w, q) ∧ ι' 178 4 = w ∧ ι' 178 11 = q) ∨ (b = 1 ∧ ∃ p R, E = .ok (p, R) ∧ ι' 178 4 = ι 178 4 ∧ ι' 178 10 = p ∧ wb 152 ι' = R))
def zOn (ι : zi) (E : zE (Int × Int)) (b : Int) (ι' : zi) : Prop := zFr ι ι' ∧ ((b = 0 ∧ ∃ w q, E = .error (w, q) ∧ ι' 178 4 = w ∧ ι' 178 11 = q) ∨ (b = 1 ∧ ∃ v p, E = .ok (v, p) ∧ ι' 178 4 = ι 178 4 ∧ ι' 178 10 = p ∧ ι' 178 12 = v ∧ wb 152 ι' = wb 152 ι))
def zOs (ι : zi) (E : zE Int) (b : Int) (ι' : zi) : Prop := zFr ι ι' ∧ ((b = 0 ∧ ∃ w q, E = .error (w, q) ∧ ι' 178 4 = w ∧ ι' 178 11 = q) ∨ (b = 1 ∧ ∃ p, E = .ok p ∧ ι' 178 4 = ι 178 4 ∧ ι' 178 10 = p ∧ wb 152 ι' = wb 152 ι))
theorem pSg_ok {h : Int → Int} {c p q : Int} (e : pSg h c p = .ok q) : h p = c ∧ q = p + 1 := by
  unfold pSg at e
  split at e
  · cases e; exact ⟨by assumption, rfl⟩
  · cases e
theorem pNm_ok {h : Int → Int} {hi p v q : Int} (e : pNm h hi p = .ok (v, q)) : zdg h p ∧ (q = p + 1 ∨ (zdg h (p + 1) ∧ q = p + 2)) ∧ 0 ≤ v ∧ v ≤ hi := by
  unfold pNm at e
  (repeat' split at e) <;> try cases e
  · rename_i h1 h2 h3
    have h1' : zdg h p := Decidable.byContradiction (fun g => h1 g)
    exact ⟨h1', Or.inl rfl, by unfold zdg at h1'; omega, h3⟩
  · rename_i h1 h2 h3 h4
    have h1' : zdg h p := Decidable.byContradiction (fun g => h1 g)
    have h2' : zdg h (p + 1) := Decidable.byContradiction (fun g => h2 g)
    exact ⟨h1', Or.inr ⟨h2', rfl⟩, by unfold zdg at h1' h2'; omega, h4⟩
def zvl (h : Int → Int) (f j : Int) : Int := if j ≤ 0 then 0 else if j = 1 then h f - 48 else 10 * (h f - 48) + h (f + 1) - 48
set_option maxRecDepth 100000 in
theorem c_here {h : Int → Int} {L' : Int} (hq : zqM h L' ι) (hp : 0 ≤ ι 178 10 ∧ ι 178 10 ≤ L') : zCi l (zc D ad L z) mX7_here 0 [zR 178] ι (zP (zI (h (ι 178 10))) ι) := by
  refine zCt_of (by decide) (Nat.le_of_ble_eq_true rfl) 0 rfl ?_
  obtain ⟨q1, q2, q3, q4⟩ := hq
  refine g_aload_n (x := 178) rfl dX7_here_0 ?_
  refine g_get fgX7_70 zcl_7 (congrArg Prod.fst sh_178) (by decide) ig_178_10 dX7_here_1 ?_
  refine g_aload_n (x := 178) rfl dX7_here_4 ?_
  refine g_get fgX7_66 zcl_7 (congrArg Prod.fst sh_178) (by decide) ig_178_3 dX7_here_5 ?_
  refine g_icmp_ge ⟨by omega, by omega⟩ ⟨by omega, by omega⟩ (t := 23) dX7_here_8 (by decide) (fun h8 => ?_) (fun h8 => ?_)
  · refine g_iconst (x := -1) rfl dX7_here_23 ?_
    exact i_iret rfl dX7_here_24 (⟨by rw [q4 _ (by omega)], rfl⟩)
  · refine g_aload_n (x := 178) rfl dX7_here_11 ?_
    refine g_get fgX7_13 zcl_7 (congrArg Prod.fst sh_178) (by decide) rg_178_2 dX7_here_12 ?_
    refine g_aload_n (x := 178) rfl dX7_here_15 ?_
    refine g_get fgX7_70 zcl_7 (congrArg Prod.fst sh_178) (by decide) ig_178_10 dX7_here_16 ?_
    refine g_iald sh_180 (by decide) (by omega) (by omega) (by decide) ag_180 dX7_here_19 ?_
    refine g_goto (t := 24) dX7_here_20 (by decide) ?_
    exact i_iret rfl dX7_here_24 (⟨by rw [(q3 _ hp.1 (by omega)).1], rfl⟩)

set_option maxRecDepth 100000 in
theorem c_mFails {w q : Int} : zCi l (zc D ad L z) mX7_fails 0 [zR 178, zI w, zI q] ι (fun v ι' => v = some (zI 0) ∧ zFr ι ι' ∧ ι' 178 4 = w ∧ ι' 178 11 = q) := by
  refine zCt_of (by decide) (Nat.le_of_ble_eq_true rfl) 0 rfl ?_
  refine g_aload_n (x := 178) rfl dX7_fails_0 ?_
  refine g_iload_n (x := w) rfl dX7_fails_1 ?_
  obtain ⟨ι1, hι1⟩ : ∃ y_, y_ = iup ι 178 4 w := ⟨_, rfl⟩
  refine i_put fwX7_73 zcl_7 (congrArg Prod.fst sh_178) (by decide) (by decide) (ι1 := ι1) (by rw [hι1]; exact iu_178_4) dX7_fails_2 ?_
  refine g_aload_n (x := 178) rfl dX7_fails_5 ?_
  refine g_iload_n (x := q) rfl dX7_fails_6 ?_
  obtain ⟨ι2, hι2⟩ : ∃ y_, y_ = iup ι1 178 11 q := ⟨_, rfl⟩
  refine i_put fwX7_76 zcl_7 (congrArg Prod.fst sh_178) (by decide) (by decide) (ι1 := ι2) (by rw [hι2]; exact iu_178_11) dX7_fails_7 ?_
  refine g_iconst (x := 0) rfl dX7_fails_10 ?_
  exact i_zret rfl (by decide) dX7_fails_11 (⟨rfl, by rw [hι2, hι1]; exact (zFr.u (by decide)).t (zFr.u (by decide)), by rw [hι2, hι1, iup_n _ (by decide), iup_s], by rw [hι2, iup_s]⟩)

theorem zqM_b {h : Int → Int} {L' : Int} {ι : zi} (hq : zqM h L' ι) {p : Int} (h0 : 0 ≤ p) : -1 ≤ h p ∧ h p ≤ 255 := by
  obtain ⟨q1, q2, q3, q4⟩ := hq
  by_cases g : p < L'
  · have := q3 p h0 g; omega
  · have := q4 p (by omega); omega
theorem zqM_n {h : Int → Int} {L' : Int} {ι : zi} (hq : zqM h L' ι) {p : Int} (h0 : 0 ≤ h p) : p < L' := by
  by_cases g : p < L'
  · exact g
  · have := hq.2.2.2 p (by omega); omega
set_option maxRecDepth 100000 in
theorem c_takes {h : Int → Int} {L' : Int} (hq : zqM h L' ι) (hp : 0 ≤ ι 178 10 ∧ ι 178 10 ≤ L') {c : Int} (hc : 0 ≤ c ∧ c ≤ 255) : zCi l (zc D ad L z) mX7_takes 1 [zR 178, zI c] ι (fun v ι' => ∃ b, v = some (zI b) ∧ zOs ι (pSg h c (ι 178 10)) b ι') := by
  refine zCt_of (by decide) (Nat.le_of_ble_eq_true rfl) 0 rfl ?_
  have hhb : -1 ≤ h (ι 178 10) ∧ h (ι 178 10) ≤ 255 := zqM_b hq hp.1
  refine g_aload_n (x := 178) rfl dX7_takes_0 ?_
  refine i_callVp mvX7_here tw_924 (ci := 7) (congrArg Prod.fst sh_178) rfl (by decide) (c_here hq hp) (by decide) (st' := []) rfl (Nat.le_of_ble_eq_true rfl) rfl dX7_takes_1 ?_
  refine g_iload_n (x := c) rfl dX7_takes_4 ?_
  refine g_icmp_eq ⟨by omega, by omega⟩ ⟨by omega, by omega⟩ (t := 18) dX7_takes_5 (by decide) (fun h5 => ?_) (fun h5 => ?_)
  · refine g_aload_n (x := 178) rfl dX7_takes_18 ?_
    refine g_dupR dX7_takes_19 ?_
    refine g_get fgX7_70 zcl_7 (congrArg Prod.fst sh_178) (by decide) ig_178_10 dX7_takes_20 ?_
    refine g_iconst (x := 1) rfl dX7_takes_23 ?_
    refine g_iadd dX7_takes_24 ?_
    obtain ⟨ι1, hι1⟩ : ∃ y_, y_ = iup ι 178 10 ((ι 178 10) + 1) := ⟨_, rfl⟩
    refine i_put fwX7_70 zcl_7 (congrArg Prod.fst sh_178) (by decide) (by decide) (ι1 := ι1) (by rw [hι1]; exact iu_178_10) dX7_takes_25 ?_
    refine g_iconst (x := 1) rfl dX7_takes_28 ?_
    exact i_zret rfl (by decide) dX7_takes_29 (⟨1, rfl, by rw [hι1]; exact zFr.u (by decide), Or.inr ⟨rfl, ι 178 10 + 1, by unfold pSg; rw [if_pos (by omega)], by rw [hι1, iup_n _ (by decide)], by rw [hι1, iup_s], by rw [hι1, wb_up (Or.inl (by decide))]⟩⟩)
  · refine g_aload_n (x := 178) rfl dX7_takes_8 ?_
    refine g_iconst (x := 1) rfl dX7_takes_9 ?_
    refine g_aload_n (x := 178) rfl dX7_takes_10 ?_
    refine g_get fgX7_70 zcl_7 (congrArg Prod.fst sh_178) (by decide) ig_178_10 dX7_takes_11 ?_
    refine i_callV mvX7_fails tw_928 (ci := 7) (congrArg Prod.fst sh_178) rfl (by decide) (c_mFails) (by decide) (st' := []) rfl (Nat.le_of_ble_eq_true rfl) rfl dX7_takes_14 (fun v_1 ι9 hq_14 => ?_)
    obtain ⟨rfl, hFr, hF4, hF11⟩ := hq_14
    exact i_zret rfl (by decide) dX7_takes_17 (⟨0, rfl, hFr, Or.inl ⟨rfl, 1, ι 178 10, by unfold pSg; rw [if_neg (by omega)], hF4, hF11⟩⟩)

theorem pNm_x {h : Int → Int} {f i hi : Int} (hD : ∀ q, f ≤ q → q < i → zdg h q) (h0 : f ≤ i) (hn : ¬ zdg h i) (hx : ¬ (1 ≤ i - f ∧ i - f ≤ 2)) : pNm h hi f = .error (1, f) := by
  unfold pNm
  by_cases g : i = f
  · rw [if_pos (by rw [← g]; exact hn)]
  · rw [if_neg (fun k => k (hD f (by omega) (by omega))), if_neg (fun k => k (hD (f + 1) (by omega) (by omega))), if_neg (fun k => k (hD (f + 2) (by omega) (by omega)))]
theorem pNm_c {h : Int → Int} {f i hi : Int} (hD : ∀ q, f ≤ q → q < i → zdg h q) (hn : ¬ zdg h i) (hx : 1 ≤ i - f ∧ i - f ≤ 2) : pNm h hi f = if zvl h f (i - f) ≤ hi then .ok (zvl h f (i - f), i) else .error (2, f) := by
  by_cases g : i = f + 1
  · have e : zvl h f (i - f) = h f - 48 := by unfold zvl; rw [if_neg (by omega), if_pos (by omega)]
    rw [e]
    unfold pNm
    rw [if_neg (fun k => k (hD f (by omega) (by omega))), if_pos (by rw [← g]; exact hn), ← g]
  · have g2 : i = f + 2 := by omega
    have e : zvl h f (i - f) = 10 * (h f - 48) + h (f + 1) - 48 := by unfold zvl; rw [if_neg (by omega), if_neg (by omega)]
    rw [e]
    unfold pNm
    rw [if_neg (fun k => k (hD f (by omega) (by omega))), if_neg (fun k => k (hD (f + 1) (by omega) (by omega))), if_pos (by rw [← g2]; exact hn), ← g2]
theorem pNm_r {h : Int → Int} {f i hi : Int} (hD : ∀ q, f ≤ q → q < i → zdg h q) (hn : ¬ zdg h i) (hx : 1 ≤ i - f ∧ i - f ≤ 2) (hv : ¬ zvl h f (i - f) ≤ hi) : pNm h hi f = .error (2, f) := by
  rw [pNm_c hD hn hx, if_neg hv]
theorem pNm_y {h : Int → Int} {f i hi : Int} (hD : ∀ q, f ≤ q → q < i → zdg h q) (hn : ¬ zdg h i) (hx : 1 ≤ i - f ∧ i - f ≤ 2) (hv : zvl h f (i - f) ≤ hi) : pNm h hi f = .ok (zvl h f (i - f), i) := by
  rw [pNm_c hD hn hx, if_pos hv]
set_option maxRecDepth 100000 in
theorem lp_takesNumber {h : Int → Int} {L' : Int} (hq : zqM h L' ι) {f hi : Int} (hf : 0 ≤ f) (hhi : 0 ≤ hi ∧ hi ≤ 60) : ∀ i : Int, f ≤ i → i ≤ L' → ∀ ι1, zFr ι ι1 → ι1 178 4 = ι 178 4 → ι1 178 10 = i → ι1 178 12 = zvl h f (i - f) → wb 152 ι1 = wb 152 ι → (∀ q, f ≤ q → q < i → zdg h q) → zGi l (zc D ad L z) mX7_takesNumber 1 10 [some (zR 178), some (zI 0), some (zI hi), some (zI f)] [] ι1 (fun v ι' => ∃ b, v = some (zI b) ∧ zOn ι (pNm h hi f) b ι') := by
  refine z_loopI (P := fun i => ∀ ι1, zFr ι ι1 → ι1 178 4 = ι 178 4 → ι1 178 10 = i → ι1 178 12 = zvl h f (i - f) → wb 152 ι1 = wb 152 ι → (∀ q, f ≤ q → q < i → zdg h q) → _) (fun i h0 h1 ih ι1 hFr hF hA hNu hW hD => ?_)
  refine g_aload_n (x := 178) rfl dX7_takesNumber_10 ?_
  have hq1 : zqM h L' ι1 := hFr.q hq
  have hhb : -1 ≤ h i ∧ h i ≤ 255 := zqM_b hq1 (by omega)
  have hvb : 0 ≤ zvl h f (i - f) ∧ zvl h f (i - f) ≤ 99 := by
    unfold zvl
    have d0 : f < i → zdg h f := fun g => hD f (by omega) g
    have d1 : f + 1 < i → zdg h (f + 1) := fun g => hD (f + 1) (by omega) g
    unfold zdg at d0 d1
    (repeat' split) <;> omega
  have hL110 := hq.2.1
  refine i_callVp mvX7_here tw_924 (ci := 7) (congrArg Prod.fst sh_178) rfl (by decide) (c_here hq1 (by omega)) (by decide) (st' := []) rfl (Nat.le_of_ble_eq_true rfl) rfl dX7_takesNumber_11 ?_
  rw [hA]
  refine g_i2l ⟨by omega, by omega⟩ dX7_takesNumber_14 ?_
  refine g_ldc2 (x := 48) tw_936 (by decide) dX7_takesNumber_15 ?_
  refine g_ldc2 (x := 57) tw_937 (by decide) dX7_takesNumber_18 ?_
  refine i_callSp msX7_in tw_876 (c_in ⟨by omega, by omega⟩ ⟨by omega, by omega⟩ ⟨by omega, by omega⟩) (by decide) (st' := []) rfl (Nat.le_of_ble_eq_true rfl) rfl dX7_takesNumber_21 ?_
  refine g_nm (fun b21 hq0 => ?_)
  have hb21 : ((48 ≤ h i ∧ h i ≤ 57) ∧ b21 = 1) ∨ (¬ (48 ≤ h i ∧ h i ≤ 57) ∧ b21 = 0) := zb_c hq0
  clear hq0
  refine g_if_eq ⟨by omega, by omega⟩ (t := 76) dX7_takesNumber_24 (by decide) (fun h24 => ?_) (fun h24 => ?_)
  · refine g_aload_n (x := 178) rfl dX7_takesNumber_76 ?_
    refine g_get fgX7_70 zcl_7 (congrArg Prod.fst sh_178) (by decide) ig_178_10 dX7_takesNumber_77 ?_
    rw [hA]
    refine g_iload_n (x := f) rfl dX7_takesNumber_80 ?_
    refine g_isub dX7_takesNumber_81 ?_
    refine g_i2l ⟨by omega, by omega⟩ dX7_takesNumber_82 ?_
    refine g_lconst (x := 1) (by decide) dX7_takesNumber_83 ?_
    refine g_ldc2 (x := 2) tw_879 (by decide) dX7_takesNumber_84 ?_
    refine i_callSp msX7_in tw_876 (c_in ⟨by omega, by omega⟩ ⟨by omega, by omega⟩ ⟨by omega, by omega⟩) (by decide) (st' := []) rfl (Nat.le_of_ble_eq_true rfl) rfl dX7_takesNumber_87 ?_
    refine g_nm (fun b87 hq0 => ?_)
    have hb87 : ((1 ≤ i - f ∧ i - f ≤ 2) ∧ b87 = 1) ∨ (¬ (1 ≤ i - f ∧ i - f ≤ 2) ∧ b87 = 0) := zb_c hq0
    clear hq0
    refine g_if_ne ⟨by omega, by omega⟩ (t := 100) dX7_takesNumber_90 (by decide) (fun h90 => ?_) (fun h90 => ?_)
    · refine g_aload_n (x := 178) rfl dX7_takesNumber_100 ?_
      refine g_get fgX7_87 zcl_7 (congrArg Prod.fst sh_178) (by decide) ig_178_12 dX7_takesNumber_101 ?_
      refine g_i2l ⟨by omega, by omega⟩ dX7_takesNumber_104 ?_
      refine g_iload_n (x := 0) rfl dX7_takesNumber_105 ?_
      refine g_i2l (by decide) dX7_takesNumber_106 ?_
      refine g_iload_n (x := hi) rfl dX7_takesNumber_107 ?_
      refine g_i2l ⟨by omega, by omega⟩ dX7_takesNumber_108 ?_
      rw [hNu]
      refine i_callSp msX7_in tw_876 (c_in ⟨by omega, by omega⟩ ⟨by omega, by omega⟩ ⟨by omega, by omega⟩) (by decide) (st' := []) rfl (Nat.le_of_ble_eq_true rfl) rfl dX7_takesNumber_109 ?_
      refine g_nm (fun b109 hq0 => ?_)
      have hb109 : ((0 ≤ zvl h f (i - f) ∧ zvl h f (i - f) ≤ hi) ∧ b109 = 1) ∨ (¬ (0 ≤ zvl h f (i - f) ∧ zvl h f (i - f) ≤ hi) ∧ b109 = 0) := zb_c hq0
      clear hq0
      refine g_if_ne ⟨by omega, by omega⟩ (t := 122) dX7_takesNumber_112 (by decide) (fun h112 => ?_) (fun h112 => ?_)
      · refine g_iconst (x := 1) rfl dX7_takesNumber_122 ?_
        exact i_zret rfl (by decide) dX7_takesNumber_123 (⟨1, rfl, hFr, Or.inr ⟨rfl, zvl h f (i - f), i, pNm_y hD (by unfold zdg; omega) (by omega) (by omega), hF, hA, hNu, hW⟩⟩)
      · refine g_aload_n (x := 178) rfl dX7_takesNumber_115 ?_
        refine g_iconst (x := 2) rfl dX7_takesNumber_116 ?_
        refine g_iload_n (x := f) rfl dX7_takesNumber_117 ?_
        refine i_callV mvX7_fails tw_928 (ci := 7) (congrArg Prod.fst sh_178) rfl (by decide) (c_mFails) (by decide) (st' := []) rfl (Nat.le_of_ble_eq_true rfl) rfl dX7_takesNumber_118 (fun v_1 ι9 hq_118 => ?_)
        obtain ⟨rfl, hFr9, hF4, hF11⟩ := hq_118
        exact i_zret rfl (by decide) dX7_takesNumber_121 (⟨0, rfl, hFr.t hFr9, Or.inl ⟨rfl, 2, f, pNm_r hD (by unfold zdg; omega) (by omega) (by omega), hF4, hF11⟩⟩)
    · refine g_aload_n (x := 178) rfl dX7_takesNumber_93 ?_
      refine g_iconst (x := 1) rfl dX7_takesNumber_94 ?_
      refine g_iload_n (x := f) rfl dX7_takesNumber_95 ?_
      refine i_callV mvX7_fails tw_928 (ci := 7) (congrArg Prod.fst sh_178) rfl (by decide) (c_mFails) (by decide) (st' := []) rfl (Nat.le_of_ble_eq_true rfl) rfl dX7_takesNumber_96 (fun v_2 ι9 hq_96 => ?_)
      obtain ⟨rfl, hFr9, hF4, hF11⟩ := hq_96
      exact i_zret rfl (by decide) dX7_takesNumber_99 (⟨0, rfl, hFr.t hFr9, Or.inl ⟨rfl, 1, f, pNm_x hD (by omega) (by unfold zdg; omega) (by omega), hF4, hF11⟩⟩)
  · refine g_aload_n (x := 178) rfl dX7_takesNumber_27 ?_
    refine g_aload_n (x := 178) rfl dX7_takesNumber_28 ?_
    refine g_get fgX7_70 zcl_7 (congrArg Prod.fst sh_178) (by decide) ig_178_10 dX7_takesNumber_29 ?_
    refine g_iload_n (x := f) rfl dX7_takesNumber_32 ?_
    refine g_isub dX7_takesNumber_33 ?_
    refine g_iconst (x := 2) rfl dX7_takesNumber_34 ?_
    rw [hA]
    refine g_icmp_ge ⟨by omega, by omega⟩ (by decide) (t := 56) dX7_takesNumber_35 (by decide) (fun h35 => ?_) (fun h35 => ?_)
    · refine g_aload_n (x := 178) rfl dX7_takesNumber_56 ?_
      refine g_get fgX7_87 zcl_7 (congrArg Prod.fst sh_178) (by decide) ig_178_12 dX7_takesNumber_57 ?_
      rw [hNu]
      refine g_nm (fun xv hxv => ?_)
      have ex : xv = zvl h f (i + 1 - f) := by
        rw [hxv]
        unfold zvl
        by_cases g1 : i = f
        · (repeat' split) <;> first | (exfalso; omega) | (rw [g1]; try omega)
        · by_cases g2 : i = f + 1
          · (repeat' split) <;> first | (exfalso; omega) | (rw [g2]; try omega)
          · (repeat' split) <;> omega
      obtain ⟨ι2, hι2⟩ : ∃ y_, y_ = iup ι1 178 12 xv := ⟨_, rfl⟩
      refine i_put fwX7_87 zcl_7 (congrArg Prod.fst sh_178) (by decide) (by decide) (ι1 := ι2) (by rw [hι2]; exact iu_178_12) dX7_takesNumber_60 ?_
      refine g_aload_n (x := 178) rfl dX7_takesNumber_63 ?_
      refine g_dupR dX7_takesNumber_64 ?_
      refine g_get fgX7_70 zcl_7 (congrArg Prod.fst sh_178) (by decide) ig_178_10 dX7_takesNumber_65 ?_
      refine g_iconst (x := 1) rfl dX7_takesNumber_68 ?_
      refine g_iadd dX7_takesNumber_69 ?_
      rw [show ι2 178 10 = i by rw [hι2, iup_n _ (by decide), hA]]
      obtain ⟨ι3, hι3⟩ : ∃ y_, y_ = iup ι2 178 10 ((i) + 1) := ⟨_, rfl⟩
      refine i_put fwX7_70 zcl_7 (congrArg Prod.fst sh_178) (by decide) (by decide) (ι1 := ι3) (by rw [hι3]; exact iu_178_10) dX7_takesNumber_70 ?_
      refine g_goto (t := 10) dX7_takesNumber_73 (by decide) ?_
      refine ih (zqM_n hq1 (p := i) (by omega)) ι3 ?_ ?_ ?_ ?_ ?_ ?_
      · rw [hι3, hι2]; exact (hFr.t (zFr.u (by decide))).t (zFr.u (by decide))
      · rw [hι3, hι2, iup_n _ (by decide), iup_n _ (by decide), hF]
      · rw [hι3, iup_s]
      · rw [hι3, hι2, iup_n _ (by decide), iup_s, ex]
      · rw [hι3, hι2, wb_up (Or.inl (by decide)), wb_up (Or.inl (by decide)), hW]
      · intro q g0 g1
        by_cases g : q = i
        · rw [g]; unfold zdg; omega
        · exact hD q g0 (by omega)
    · refine g_bipush (x := 10) (by decide) dX7_takesNumber_38 ?_
      refine g_aload_n (x := 178) rfl dX7_takesNumber_40 ?_
      refine g_get fgX7_87 zcl_7 (congrArg Prod.fst sh_178) (by decide) ig_178_12 dX7_takesNumber_41 ?_
      refine g_imul dX7_takesNumber_44 ?_
      refine g_aload_n (x := 178) rfl dX7_takesNumber_45 ?_
      refine i_callVp mvX7_here tw_924 (ci := 7) (congrArg Prod.fst sh_178) rfl (by decide) (c_here hq1 (by omega)) (by decide) (st' := [zI (10 * (ι1 178 12)), zR 178]) rfl (Nat.le_of_ble_eq_true rfl) rfl dX7_takesNumber_46 ?_
      rw [hA, hNu]
      refine g_iadd dX7_takesNumber_49 ?_
      refine g_bipush (x := 48) (by decide) dX7_takesNumber_50 ?_
      refine g_isub dX7_takesNumber_52 ?_
      refine g_goto (t := 60) dX7_takesNumber_53 (by decide) ?_
      refine g_nm (fun xv hxv => ?_)
      have ex : xv = zvl h f (i + 1 - f) := by
        rw [hxv]
        unfold zvl
        by_cases g1 : i = f
        · (repeat' split) <;> first | (exfalso; omega) | (rw [g1]; try omega)
        · by_cases g2 : i = f + 1
          · (repeat' split) <;> first | (exfalso; omega) | (rw [g2]; try omega)
          · (repeat' split) <;> omega
      obtain ⟨ι2, hι2⟩ : ∃ y_, y_ = iup ι1 178 12 xv := ⟨_, rfl⟩
      refine i_put fwX7_87 zcl_7 (congrArg Prod.fst sh_178) (by decide) (by decide) (ι1 := ι2) (by rw [hι2]; exact iu_178_12) dX7_takesNumber_60 ?_
      refine g_aload_n (x := 178) rfl dX7_takesNumber_63 ?_
      refine g_dupR dX7_takesNumber_64 ?_
      refine g_get fgX7_70 zcl_7 (congrArg Prod.fst sh_178) (by decide) ig_178_10 dX7_takesNumber_65 ?_
      refine g_iconst (x := 1) rfl dX7_takesNumber_68 ?_
      refine g_iadd dX7_takesNumber_69 ?_
      rw [show ι2 178 10 = i by rw [hι2, iup_n _ (by decide), hA]]
      obtain ⟨ι3, hι3⟩ : ∃ y_, y_ = iup ι2 178 10 ((i) + 1) := ⟨_, rfl⟩
      refine i_put fwX7_70 zcl_7 (congrArg Prod.fst sh_178) (by decide) (by decide) (ι1 := ι3) (by rw [hι3]; exact iu_178_10) dX7_takesNumber_70 ?_
      refine g_goto (t := 10) dX7_takesNumber_73 (by decide) ?_
      refine ih (zqM_n hq1 (p := i) (by omega)) ι3 ?_ ?_ ?_ ?_ ?_ ?_
      · rw [hι3, hι2]; exact (hFr.t (zFr.u (by decide))).t (zFr.u (by decide))
      · rw [hι3, hι2, iup_n _ (by decide), iup_n _ (by decide), hF]
      · rw [hι3, iup_s]
      · rw [hι3, hι2, iup_n _ (by decide), iup_s, ex]
      · rw [hι3, hι2, wb_up (Or.inl (by decide)), wb_up (Or.inl (by decide)), hW]
      · intro q g0 g1
        by_cases g : q = i
        · rw [g]; unfold zdg; omega
        · exact hD q g0 (by omega)

set_option maxRecDepth 100000 in
theorem c_takesNumber {h : Int → Int} {L' : Int} (hq : zqM h L' ι) (hp : 0 ≤ ι 178 10 ∧ ι 178 10 ≤ L') {hi : Int} (hhi : 0 ≤ hi ∧ hi ≤ 60) : zCi l (zc D ad L z) mX7_takesNumber 1 [zR 178, zI 0, zI hi] ι (fun v ι' => ∃ b, v = some (zI b) ∧ zOn ι (pNm h hi (ι 178 10)) b ι') := by
  refine zCt_of (by decide) (Nat.le_of_ble_eq_true rfl) 1 rfl ?_
  refine g_aload_n (x := 178) rfl dX7_takesNumber_0 ?_
  refine g_get fgX7_70 zcl_7 (congrArg Prod.fst sh_178) (by decide) ig_178_10 dX7_takesNumber_1 ?_
  refine g_istore_n (ls' := [some (zR 178), some (zI 0), some (zI hi), some (zI (ι 178 10))]) dX7_takesNumber_4 (by decide) rfl ?_
  refine g_aload_n (x := 178) rfl dX7_takesNumber_5 ?_
  refine g_iconst (x := 0) rfl dX7_takesNumber_6 ?_
  obtain ⟨ι1, hι1⟩ : ∃ y_, y_ = iup ι 178 12 0 := ⟨_, rfl⟩
  refine i_put fwX7_87 zcl_7 (congrArg Prod.fst sh_178) (by decide) (by decide) (ι1 := ι1) (by rw [hι1]; exact iu_178_12) dX7_takesNumber_7 ?_
  exact lp_takesNumber (l := l) (D := D) (ad := ad) (L := L) (z := z) hq hp.1 hhi (ι 178 10) (by omega) (by omega) ι1 (by rw [hι1]; exact zFr.u (by decide)) (by rw [hι1, iup_n _ (by decide)]) (by rw [hι1, iup_n _ (by decide)]) (by rw [hι1, iup_s]; unfold zvl; rw [if_pos (by omega)]) (by rw [hι1, wb_up (Or.inl (by decide))]) (fun q g0 g1 => by omega)

set_option maxRecDepth 100000 in
theorem c_kindOf {c : Int} (hc : zB c) : zCi l (zc D ad L z) mX7_kindOf 0 [zI c] ι (zP (zI (zkd c)) ι) := by
  refine zCt_of (by decide) (Nat.le_of_ble_eq_true rfl) 0 rfl ?_
  refine g_iload_n (x := c) rfl dX7_kindOf_0 ?_
  refine g_bipush (x := 97) (by decide) dX7_kindOf_1 ?_
  refine g_icmp_ne ⟨by omega, by omega⟩ (by decide) (t := 10) dX7_kindOf_3 (by decide) (fun h3 => ?_) (fun h3 => ?_)
  · refine g_iload_n (x := c) rfl dX7_kindOf_10 ?_
    refine g_bipush (x := 110) (by decide) dX7_kindOf_11 ?_
    refine g_icmp_ne ⟨by omega, by omega⟩ (by decide) (t := 20) dX7_kindOf_13 (by decide) (fun h13 => ?_) (fun h13 => ?_)
    · refine g_iload_n (x := c) rfl dX7_kindOf_20 ?_
      refine g_bipush (x := 103) (by decide) dX7_kindOf_21 ?_
      refine g_icmp_ne ⟨by omega, by omega⟩ (by decide) (t := 30) dX7_kindOf_23 (by decide) (fun h23 => ?_) (fun h23 => ?_)
      · refine g_iload_n (x := c) rfl dX7_kindOf_30 ?_
        refine g_bipush (x := 116) (by decide) dX7_kindOf_31 ?_
        refine g_icmp_ne ⟨by omega, by omega⟩ (by decide) (t := 40) dX7_kindOf_33 (by decide) (fun h33 => ?_) (fun h33 => ?_)
        · refine g_iload_n (x := c) rfl dX7_kindOf_40 ?_
          refine g_bipush (x := 112) (by decide) dX7_kindOf_41 ?_
          refine g_icmp_ne ⟨by omega, by omega⟩ (by decide) (t := 50) dX7_kindOf_43 (by decide) (fun h43 => ?_) (fun h43 => ?_)
          · refine g_iconst (x := 0) rfl dX7_kindOf_50 ?_
            exact i_iret rfl dX7_kindOf_51 (⟨by unfold zkd; (repeat' split) <;> first | rfl | (exfalso; omega), rfl⟩)
          · refine g_iconst (x := 5) rfl dX7_kindOf_46 ?_
            refine g_goto (t := 51) dX7_kindOf_47 (by decide) ?_
            exact i_iret rfl dX7_kindOf_51 (⟨by unfold zkd; (repeat' split) <;> first | rfl | (exfalso; omega), rfl⟩)
        · refine g_iconst (x := 4) rfl dX7_kindOf_36 ?_
          refine g_goto (t := 51) dX7_kindOf_37 (by decide) ?_
          exact i_iret rfl dX7_kindOf_51 (⟨by unfold zkd; (repeat' split) <;> first | rfl | (exfalso; omega), rfl⟩)
      · refine g_iconst (x := 3) rfl dX7_kindOf_26 ?_
        refine g_goto (t := 51) dX7_kindOf_27 (by decide) ?_
        exact i_iret rfl dX7_kindOf_51 (⟨by unfold zkd; (repeat' split) <;> first | rfl | (exfalso; omega), rfl⟩)
    · refine g_iconst (x := 2) rfl dX7_kindOf_16 ?_
      refine g_goto (t := 51) dX7_kindOf_17 (by decide) ?_
      exact i_iret rfl dX7_kindOf_51 (⟨by unfold zkd; (repeat' split) <;> first | rfl | (exfalso; omega), rfl⟩)
  · refine g_iconst (x := 1) rfl dX7_kindOf_6 ?_
    refine g_goto (t := 51) dX7_kindOf_7 (by decide) ?_
    exact i_iret rfl dX7_kindOf_51 (⟨by unfold zkd; (repeat' split) <;> first | rfl | (exfalso; omega), rfl⟩)

end
