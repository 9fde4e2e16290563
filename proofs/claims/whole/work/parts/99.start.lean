section
variable {l : Launch} {D : va_G} {ad : Nat → Nat} {L z : Nat} {ι : zi} {nm : String}
theorem zrf_lo : ∀ a, a < 8 → ∀ x, zrf a x = false := by
  intro a ha x
  rcases (show a = 0 ∨ a = 1 ∨ a = 2 ∨ a = 3 ∨ a = 4 ∨ a = 5 ∨ a = 6 ∨ a = 7 by omega) with g | g | g | g | g | g | g | g <;> subst g <;> rfl
theorem zGo_cv {M : zMt} {d mc ms pc : Nat} {ls : List (Option zV)} {st : List zV} {Q : Option zV → Nat → zM → Prop} {S : Nat → Int → Bool} (hB : zBt S 8 188) (kk : zGo l (zc D ad L z) M d mc ms pc ls st 180 (zg ι) Q) : zGo l (zc D ad L z) M d mc ms pc ls st 180 (zgS S ι) Q := by
  intro p e R MC MS s m args below meth c Z F E H locs cells slots la hH hL hc hs2 hl
  refine kk p e R MC MS s m args below meth c Z F E H locs cells slots la (hH.conv (fun a x ha h0 h1 => ?_) zc_fit) hL hc hs2 hl
  unfold zgS
  rw [if_neg]
  rintro ⟨e1, e2⟩
  by_cases g : a < 8
  · rw [zrf_lo a g x] at e2
    exact absurd e2 (by decide)
  · have e : zsh (zc D ad L z) a = zSl.getD a (0, 0) := if_neg (by omega)
    rw [e] at h1
    rw [hB a x (by omega) (by omega) h0 h1 e2] at e1
    exact absurd e1 (by decide)
theorem Iv_0 (hO : zPre ι) (hz : zZr ι 8) : Iv (ifill (ifill ι 19 (-1) 8) 181 (-1) 8) 480 := by
  obtain ⟨ι2, hι⟩ : ∃ y_, y_ = ifill (ifill ι 19 (-1) 8) 181 (-1) 8 := ⟨_, rfl⟩
  rw [← hι]
  have h0 : ∀ b x, 8 ≤ b → b ≠ 19 → b ≠ 181 → b ≠ 165 → ι2 b x = 0 := fun b x b0 b1 b2 b3 => by
    rw [hι, ifill_n _ (Or.inl b2), ifill_n _ (Or.inl b1)]; exact hz.1 b x b0 (Or.inl b3)
  have hT : ∀ a, 8 ≤ a → (a + 4 < 19 ∨ 19 < a) → (a + 4 < 165 ∨ 165 < a) → (a + 4 < 181 ∨ 181 < a) → tb a ι2 = fun _ => 0 := by
    intro a a0 a1 a2 a3
    funext i
    unfold tb
    rw [h0 a _ (by omega) (by omega) (by omega) (by omega), h0 (a + 1) _ (by omega) (by omega) (by omega) (by omega), h0 (a + 2) _ (by omega) (by omega) (by omega) (by omega), h0 (a + 3) _ (by omega) (by omega) (by omega) (by omega), h0 (a + 4) _ (by omega) (by omega) (by omega) (by omega)]
    simp only [ite_self]
  have hw : ∀ r, wb r ι2 = fun _ => 0 := by
    intro r
    funext i
    unfold wb
    rw [h0 179 _ (by decide) (by decide) (by decide) (by decide)]
    simp only [ite_self]
  have z2 : ∀ b x, 8 ≤ b → b ≠ 19 → b ≠ 181 → b ≠ 165 → ι2 b x = 0 := h0
  have e19 : ∀ r, 0 ≤ r → r < 8 → ι2 19 r = -1 := fun r r0 r1 => by rw [hι, ifill_n _ (Or.inl (by decide)), ifill_i _ _ r0 r1]
  have e181 : ∀ r, 0 ≤ r → r < 8 → ι2 181 r = -1 := fun r r0 r1 => by rw [hι, ifill_i _ _ r0 r1]
  have d0 : zB 0 := by decide
  refine ⟨zPre_fr hO (fun b x hb => by rw [hι, ifill_n _ (Or.inl (by omega)), ifill_n _ (Or.inl (by omega))]), ?_, ?_, ?_, ?_, ?_, ?_, ?_, ?_⟩
  · refine Or.inl ⟨?_, ?_⟩
    · rw [hι, ifill_n _ (Or.inl (by decide)), ifill_n _ (Or.inl (by decide))]; exact hz.2.1
    · rw [hι, ifill_n _ (Or.inl (by decide)), ifill_n _ (Or.inl (by decide))]; exact hz.2.2
  · rw [hT 23 (by decide) (by decide) (by decide) (by decide), hw 0]
    refine ⟨⟨fun _ _ _ => rfl, fun _ _ _ => ⟨rfl, rfl, rfl⟩, fun _ _ _ => rfl⟩, ⟨?_, fun h => absurd h (by decide), by decide⟩, by decide⟩
    unfold zVT
    refine ⟨by decide, by decide, by decide, by decide, by decide, by decide, ?_⟩
    constructor
    · intro k k0 k1; have : k < 0 := k1; omega
    · intro k k0 k1; have : k < 0 := k1; omega
  · intro k k0 k1
    refine Or.inl ⟨z2 _ _ (by decide) (by decide) (by decide) (by decide), ?_⟩
    have hk : 33 ≤ zim2 k ∧ zim2 k ≤ 38 := by unfold zim2; split <;> omega
    rw [hT _ (by omega) (by omega) (by omega) (by omega)]
  · unfold zU
    rw [z2 43 1 (by decide) (by decide) (by decide) (by decide), z2 43 2 (by decide) (by decide) (by decide) (by decide), z2 178 1 (by decide) (by decide) (by decide) (by decide)]
    exact ⟨by decide, by decide, rfl, fun j j0 j1 => by omega⟩
  · intro r r0 r1
    rw [e19 r r0 r1, e181 r r0 r1, z2 20 r (by decide) (by decide) (by decide) (by decide), z2 182 r (by decide) (by decide) (by decide) (by decide)]
    refine ⟨by decide, by decide, by decide, fun h => absurd rfl h, by decide, fun i i0 i1 => ⟨?_, ?_, fun h => absurd rfl h⟩⟩
    · rw [z2 _ _ (by omega) (by omega) (by omega) (by omega)]; exact d0
    · rw [z2 183 _ (by decide) (by decide) (by decide) (by decide)]; exact d0
  · unfold zTa
    rw [z2 21 1 (by decide) (by decide) (by decide) (by decide), z2 21 2 (by decide) (by decide) (by decide) (by decide), z2 178 3 (by decide) (by decide) (by decide) (by decide), z2 178 4 (by decide) (by decide) (by decide) (by decide)]
    exact ⟨rfl, by decide, fun p p0 p1 => by omega, rfl⟩
  · rw [z2 8 9 (by decide) (by decide) (by decide) (by decide), z2 178 5 (by decide) (by decide) (by decide) (by decide)]
  · unfold zTc
    rw [z2 176 1 (by decide) (by decide) (by decide) (by decide), z2 178 16 (by decide) (by decide) (by decide) (by decide)]
    exact ⟨rfl, by decide, fun p p0 p1 => by omega⟩
theorem lw_go (hL : L ≤ 3072) (hO : zPre ι) (hz : zZr ι 8) (hb : ∀ y : Int, 0 ≤ y → y < (L : Int) → zB (ι 0 y)) : zGo l (zc D ad L z) (mL_law nm) 9 180 3561 0 [some (zR 0), none, none, none] [] 0 (zgS (fun _ _ => false) ι) (fun v n σ => ∃ ι' : zi, n = 180 ∧ σ = zg ι' ∧ v = some (zI 1)) := by
  refine g_new (ci := 6) (nn := 10) (mc := 179) (ms := 3551) (n := 0) (σ' := zgS (fun _ _ => false) ι) rfl (zcl_6 _ rfl) tw_18 tw_19 tw_1 (congrArg Prod.fst sh_8) (fun _ _ => rfl) (df_peace (fun _ => rfl) hz _ rfl) rfl rfl dL_law_0 ?_
  rw [show 8 + 0 = 8 from rfl]
  refine g_dupR dL_law_3 ?_
  refine g_callI mnX6_init tw_20 (c_peace0 (ι := ι) (S := fun _ _ => false) (fun _ _ _ => rfl) hz) (by decide) (st' := [zR 8]) rfl (Nat.le_of_ble_eq_true rfl) rfl (mc := 10) (ms := 1627) rfl rfl dL_law_4 (fun v0 n0 σ0 hq0 => ?_)
  obtain ⟨rfl, hn0, S0, rfl, a0, b0, c0⟩ := hq0
  obtain rfl : n0 = 170 := by omega
  refine g_astore_n (ls' := [some (zR 0), some (zR 8), none, none]) dL_law_7 (Nat.le_of_ble_eq_true rfl) rfl ?_
  have hz1 : zZr (ifill ι 19 (-1) 8) 178 := ⟨fun b x hb hx => by rw [ifill_n _ (by omega)]; exact hz.1 b x (by omega) hx, by rw [ifill_n _ (by omega)]; exact hz.2.1, by rw [ifill_n _ (by omega)]; exact hz.2.2⟩
  refine g_new (ci := 7) (nn := 17) (mc := 9) (ms := 1610) (n := 170) (σ' := zgS S0 (ifill ι 19 (-1) 8)) rfl (zcl_7 _ rfl) tw_809 tw_810 tw_9 (congrArg Prod.fst sh_178) (fun _ _ => rfl) (df_model (fun y => c0 _ y (by decide)) hz1 _ rfl) rfl rfl dL_law_8 ?_
  rw [show 8 + 170 = 178 from rfl]
  refine g_dupR dL_law_11 ?_
  refine g_callI mnX7_init tw_811 (c_model0 (ι := ifill ι 19 (-1) 8) (fun b y hb => c0 b y hb) hz1) (by decide) (st' := [zR 178]) rfl (Nat.le_of_ble_eq_true rfl) rfl (mc := 0) (ms := 0) rfl rfl dL_law_12 (fun v1 n1 σ1 hq1 => ?_)
  obtain ⟨rfl, hn1, S1, rfl, a1, b1, c1⟩ := hq1
  obtain rfl : n1 = 180 := by omega
  refine g_astore_n (ls' := [some (zR 0), some (zR 8), some (zR 178), none]) dL_law_15 (Nat.le_of_ble_eq_true rfl) rfl ?_
  refine g_iconst (x := 0) rfl dL_law_16 ?_
  refine g_istore_n (ls' := [some (zR 0), some (zR 8), some (zR 178), some (zI 0)]) dL_law_17 (Nat.le_of_ble_eq_true rfl) rfl ?_
  refine zGo_cv (zBt_j (mi := 178) (zBt_c b0 (fun b y hb => a1 b y hb)) b1) ?_
  exact lp_law (D := D) (ad := ad) (z := z) (ι := ι) hL hb 0 (by decide) (by decide) _ (Iv_0 hO hz) (fun y => by rw [ifill_n _ (Or.inl (by decide)), ifill_n _ (Or.inl (by decide))])
end
