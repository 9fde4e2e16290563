section
variable {l : Launch} {D : va_G} {ad : Nat → Nat} {L z : Nat} {ι : zi} {nm : String}
def mL_law (nm : String) : zMt := (⟨RL, nm, "([I)Z"⟩, cL_law, 4, some .boolean)
theorem g_icmp_eqS {C : zC} {M : zMt} {d mc ms pc n : Nat} {ls : List (Option zV)} {st : List zV} {σ : zM} {Q : Option zV → Nat → zM → Prop} {x : Int} {o : Int} {t : Nat} (hdg : decode M.2.1 pc = .ok (.if_icmp .eq o, 3)) (ht : (pc : Int) + o = (t : Int)) (kt : zGo l C M d mc ms t ls st n σ Q) : zGo l C M d mc ms pc ls (zI x :: zI x :: st) n σ Q := by
  intro p e R MC MS s m args below meth c Z F E H locs cells slots la hH hL hc hs hl
  exact lv_icmp_eq F.1 F.2.1 hdg ht (fun _ => kt p e R MC MS s m args below meth c Z F E H locs cells slots la hH hL hc hs hl) (fun h => absurd rfl h)
set_option maxRecDepth 100000 in
theorem lp_law (hL : L ≤ 3072) (hz : ∀ y : Int, 0 ≤ y → y < (L : Int) → zB (ι 0 y)) : ∀ i : Int, 0 ≤ i → i ≤ 512 → ∀ ι1 : zi, Iv ι1 (480 + 60 * i) → (∀ y, ι1 0 y = ι 0 y) → zGi l (zc D ad L z) (mL_law nm) 9 18 [some (zR 0), some (zR 8), some (zR 178), some (zI (6 * i))] [] ι1 (fun v _ => v = some (zI 1)) := by
  refine z_loopI (P := fun i => ∀ ι1 : zi, Iv ι1 (480 + 60 * i) → (∀ y, ι1 0 y = ι 0 y) → _) (fun i h0 h1 ih ι1 hI hs => ?_)
  obtain ⟨e6, hnext⟩ : True ∧ ∀ ι3 : zi, i < 512 → Iv ι3 (480 + 60 * i + 60) → (∀ y, ι3 0 y = ι1 0 y) → zGi l (zc D ad L z) (mL_law nm) 9 1253 [some (zR 0), some (zR 8), some (zR 178), some (zI (6 * i))] [] ι3 (fun v _ => v = some (zI 1)) := by
    refine ⟨trivial, fun ι3 hi h3 h4 => ?_⟩
    refine g_iinc (x := 6 * i) (y := 6 * i + 6) (ls' := [some (zR 0), some (zR 8), some (zR 178), some (zI (6 * i + 6))]) dL_law_1253 rfl rfl (Nat.le_of_ble_eq_true rfl) rfl ?_
    refine g_goto (t := 18) dL_law_1256 (by decide) ?_
    have hh := ih hi ι3 (by rw [show 480 + 60 * (i + 1) = 480 + 60 * i + 60 by omega]; exact h3) (fun y => (h4 y).trans (hs y))
    rw [show 6 * (i + 1) = 6 * i + 6 by omega] at hh
    exact hh
  refine g_iload_n (x := (6 * i)) rfl dL_law_18 ?_
  refine g_aload_n (x := 0) rfl dL_law_19 ?_
  refine g_alen sh_0 (by decide) (by decide) (by decide) dL_law_20 ?_
  refine g_bipush (x := 6) (by decide) dL_law_21 ?_
  refine g_isub dL_law_23 ?_
  refine g_icmp_gt ⟨by omega, by omega⟩ ⟨by omega, by omega⟩ (t := 1259) dL_law_24 (by decide) (fun h24 => ?_) (fun h24 => ?_)
  · refine g_iconst (x := 1) rfl dL_law_1259 ?_
    exact i_zret rfl (by decide) dL_law_1260 (rfl)
  · have hi5 : i < 512 := by omega
    have hz1 : zB (ι1 0 (6 * i + 1)) := by rw [hs]; exact hz _ (by omega) (by omega)
    have hz2 : zB (ι1 0 (6 * i + 2)) := by rw [hs]; exact hz _ (by omega) (by omega)
    have hz3 : zB (ι1 0 (6 * i + 3)) := by rw [hs]; exact hz _ (by omega) (by omega)
    have hz4 : zB (ι1 0 (6 * i + 4)) := by rw [hs]; exact hz _ (by omega) (by omega)
    have hz5 : zB (ι1 0 (6 * i + 5)) := by rw [hs]; exact hz _ (by omega) (by omega)
    refine g_aload_n (x := 0) rfl dL_law_27 ?_
    refine g_iload_n (x := (6 * i)) rfl dL_law_28 ?_
    refine g_iald sh_0 (by decide) (by omega) (by omega) (by omega) ag_0 dL_law_29 ?_
    refine g_bipush (x := 63) (by decide) dL_law_30 ?_
    refine g_iand dL_law_32 ?_
    by_cases hsw : zand (ι1 0 (6 * i)) 63 < 0 ∨ 34 < zand (ι1 0 (6 * i)) 63
    · refine g_tswOut (zi32_b _) dL_law_33 hsw (t := 1253) (by decide) ?_
      exact hnext ι1 hi5 (Iv_m hI (by omega)) (fun _ => rfl)
    · rcases (show zand (ι1 0 (6 * i)) 63 = 0 ∨ zand (ι1 0 (6 * i)) 63 = 1 ∨ zand (ι1 0 (6 * i)) 63 = 2 ∨ zand (ι1 0 (6 * i)) 63 = 3 ∨ zand (ι1 0 (6 * i)) 63 = 4 ∨ zand (ι1 0 (6 * i)) 63 = 5 ∨ zand (ι1 0 (6 * i)) 63 = 6 ∨ zand (ι1 0 (6 * i)) 63 = 7 ∨ zand (ι1 0 (6 * i)) 63 = 8 ∨ zand (ι1 0 (6 * i)) 63 = 9 ∨ zand (ι1 0 (6 * i)) 63 = 10 ∨ zand (ι1 0 (6 * i)) 63 = 11 ∨ zand (ι1 0 (6 * i)) 63 = 12 ∨ zand (ι1 0 (6 * i)) 63 = 13 ∨ zand (ι1 0 (6 * i)) 63 = 14 ∨ zand (ι1 0 (6 * i)) 63 = 15 ∨ zand (ι1 0 (6 * i)) 63 = 16 ∨ zand (ι1 0 (6 * i)) 63 = 17 ∨ zand (ι1 0 (6 * i)) 63 = 18 ∨ zand (ι1 0 (6 * i)) 63 = 19 ∨ zand (ι1 0 (6 * i)) 63 = 20 ∨ zand (ι1 0 (6 * i)) 63 = 21 ∨ zand (ι1 0 (6 * i)) 63 = 22 ∨ zand (ι1 0 (6 * i)) 63 = 23 ∨ zand (ι1 0 (6 * i)) 63 = 24 ∨ zand (ι1 0 (6 * i)) 63 = 25 ∨ zand (ι1 0 (6 * i)) 63 = 26 ∨ zand (ι1 0 (6 * i)) 63 = 27 ∨ zand (ι1 0 (6 * i)) 63 = 28 ∨ zand (ι1 0 (6 * i)) 63 = 29 ∨ zand (ι1 0 (6 * i)) 63 = 30 ∨ zand (ι1 0 (6 * i)) 63 = 31 ∨ zand (ι1 0 (6 * i)) 63 = 32 ∨ zand (ι1 0 (6 * i)) 63 = 33 ∨ zand (ι1 0 (6 * i)) 63 = 34 by omega) with hsv | hsv | hsv | hsv | hsv | hsv | hsv | hsv | hsv | hsv | hsv | hsv | hsv | hsv | hsv | hsv | hsv | hsv | hsv | hsv | hsv | hsv | hsv | hsv | hsv | hsv | hsv | hsv | hsv | hsv | hsv | hsv | hsv | hsv | hsv
      · refine g_tswIn (zi32_b _) dL_law_33 (by omega) (by omega) (off := 155) (by rw [hsv]; rfl) (t := 188) (by decide) ?_
        obtain ⟨Qx, hx, hk⟩ := o_row (l := l) (D := D) (ad := ad) (L := L) (z := z) hI hz1 hz2 hz3
        refine g_aload_n (x := 8) rfl dL_law_188 ?_
        refine g_aload_n (x := 0) rfl dL_law_189 ?_
        refine g_iload_n (x := (6 * i)) rfl dL_law_190 ?_
        refine g_iconst (x := 1) rfl dL_law_191 ?_
        refine g_iadd dL_law_192 ?_
        refine g_iald sh_0 (by decide) (by omega) (by omega) (by omega) ag_0 dL_law_193 ?_
        refine g_aload_n (x := 0) rfl dL_law_194 ?_
        refine g_iload_n (x := (6 * i)) rfl dL_law_195 ?_
        refine g_iconst (x := 2) rfl dL_law_196 ?_
        refine g_iadd dL_law_197 ?_
        refine g_iald sh_0 (by decide) (by omega) (by omega) (by omega) ag_0 dL_law_198 ?_
        refine g_aload_n (x := 0) rfl dL_law_199 ?_
        refine g_iload_n (x := (6 * i)) rfl dL_law_200 ?_
        refine g_iconst (x := 3) rfl dL_law_201 ?_
        refine g_iadd dL_law_202 ?_
        refine g_iald sh_0 (by decide) (by omega) (by omega) (by omega) ag_0 dL_law_203 ?_
        refine i_callV mvX6_row tw_246 (ci := 6) (congrArg Prod.fst sh_8) rfl (by decide) (hx) (by decide) (st' := []) rfl (Nat.le_of_ble_eq_true rfl) rfl dL_law_204 (fun v_1 ι2 hq_204 => ?_)
        obtain ⟨x, rfl, hs2, Qm, hm, hk2⟩ := hk _ _ hq_204
        refine g_aload_n (x := 178) rfl dL_law_207 ?_
        refine g_aload_n (x := 0) rfl dL_law_208 ?_
        refine g_iload_n (x := (6 * i)) rfl dL_law_209 ?_
        refine g_iconst (x := 1) rfl dL_law_210 ?_
        refine g_iadd dL_law_211 ?_
        refine g_iald sh_0 (by decide) (by omega) (by omega) (by omega) ag_0 dL_law_212 ?_
        simp only [hs2]
        refine g_aload_n (x := 0) rfl dL_law_213 ?_
        refine g_iload_n (x := (6 * i)) rfl dL_law_214 ?_
        refine g_iconst (x := 2) rfl dL_law_215 ?_
        refine g_iadd dL_law_216 ?_
        refine g_iald sh_0 (by decide) (by omega) (by omega) (by omega) ag_0 dL_law_217 ?_
        simp only [hs2]
        refine g_aload_n (x := 0) rfl dL_law_218 ?_
        refine g_iload_n (x := (6 * i)) rfl dL_law_219 ?_
        refine g_iconst (x := 3) rfl dL_law_220 ?_
        refine g_iadd dL_law_221 ?_
        refine g_iald sh_0 (by decide) (by omega) (by omega) (by omega) ag_0 dL_law_222 ?_
        simp only [hs2]
        refine i_callV mvX7_row tw_868 (ci := 7) (congrArg Prod.fst sh_178) rfl (by decide) (hm) (by decide) (st' := [zI x]) rfl (Nat.le_of_ble_eq_true rfl) rfl dL_law_223 (fun v_2 ι3 hq_223 => ?_)
        obtain ⟨rfl, hI3, hs3⟩ := hk2 _ _ hq_223
        refine g_icmp_eqS (t := 1253) dL_law_226 (by decide) ?_
        exact hnext ι3 hi5 hI3 hs3
      · refine g_tswIn (zi32_b _) dL_law_33 (by omega) (by omega) (off := 198) (by rw [hsv]; rfl) (t := 231) (by decide) ?_
        obtain ⟨Qx, hx, hk⟩ := o_set (l := l) (D := D) (ad := ad) (L := L) (z := z) hI hz1 hz2 hz3
        refine g_aload_n (x := 8) rfl dL_law_231 ?_
        refine g_aload_n (x := 0) rfl dL_law_232 ?_
        refine g_iload_n (x := (6 * i)) rfl dL_law_233 ?_
        refine g_iconst (x := 1) rfl dL_law_234 ?_
        refine g_iadd dL_law_235 ?_
        refine g_iald sh_0 (by decide) (by omega) (by omega) (by omega) ag_0 dL_law_236 ?_
        refine g_aload_n (x := 0) rfl dL_law_237 ?_
        refine g_iload_n (x := (6 * i)) rfl dL_law_238 ?_
        refine g_iconst (x := 2) rfl dL_law_239 ?_
        refine g_iadd dL_law_240 ?_
        refine g_iald sh_0 (by decide) (by omega) (by omega) (by omega) ag_0 dL_law_241 ?_
        refine g_aload_n (x := 0) rfl dL_law_242 ?_
        refine g_iload_n (x := (6 * i)) rfl dL_law_243 ?_
        refine g_iconst (x := 3) rfl dL_law_244 ?_
        refine g_iadd dL_law_245 ?_
        refine g_iald sh_0 (by decide) (by omega) (by omega) (by omega) ag_0 dL_law_246 ?_
        refine i_callV mvX6_set tw_267 (ci := 6) (congrArg Prod.fst sh_8) rfl (by decide) (hx) (by decide) (st' := []) rfl (Nat.le_of_ble_eq_true rfl) rfl dL_law_247 (fun v_3 ι2 hq_247 => ?_)
        obtain ⟨x, rfl, hs2, Qm, hm, hk2⟩ := hk _ _ hq_247
        refine g_aload_n (x := 178) rfl dL_law_250 ?_
        refine g_aload_n (x := 0) rfl dL_law_251 ?_
        refine g_iload_n (x := (6 * i)) rfl dL_law_252 ?_
        refine g_iconst (x := 1) rfl dL_law_253 ?_
        refine g_iadd dL_law_254 ?_
        refine g_iald sh_0 (by decide) (by omega) (by omega) (by omega) ag_0 dL_law_255 ?_
        simp only [hs2]
        refine g_aload_n (x := 0) rfl dL_law_256 ?_
        refine g_iload_n (x := (6 * i)) rfl dL_law_257 ?_
        refine g_iconst (x := 2) rfl dL_law_258 ?_
        refine g_iadd dL_law_259 ?_
        refine g_iald sh_0 (by decide) (by omega) (by omega) (by omega) ag_0 dL_law_260 ?_
        simp only [hs2]
        refine g_aload_n (x := 0) rfl dL_law_261 ?_
        refine g_iload_n (x := (6 * i)) rfl dL_law_262 ?_
        refine g_iconst (x := 3) rfl dL_law_263 ?_
        refine g_iadd dL_law_264 ?_
        refine g_iald sh_0 (by decide) (by omega) (by omega) (by omega) ag_0 dL_law_265 ?_
        simp only [hs2]
        refine i_callV mvX7_set tw_886 (ci := 7) (congrArg Prod.fst sh_178) rfl (by decide) (hm) (by decide) (st' := [zI x]) rfl (Nat.le_of_ble_eq_true rfl) rfl dL_law_266 (fun v_4 ι3 hq_266 => ?_)
        obtain ⟨rfl, hI3, hs3⟩ := hk2 _ _ hq_266
        refine g_icmp_eqS (t := 1253) dL_law_269 (by decide) ?_
        exact hnext ι3 hi5 hI3 hs3
      · refine g_tswIn (zi32_b _) dL_law_33 (by omega) (by omega) (off := 241) (by rw [hsv]; rfl) (t := 274) (by decide) ?_
        obtain ⟨Qx, hx, hk⟩ := o_copy (l := l) (D := D) (ad := ad) (L := L) (z := z) hI hz1 hz2 hz3 hz4 hz5
        refine g_aload_n (x := 8) rfl dL_law_274 ?_
        refine g_aload_n (x := 0) rfl dL_law_275 ?_
        refine g_iload_n (x := (6 * i)) rfl dL_law_276 ?_
        refine g_iconst (x := 1) rfl dL_law_277 ?_
        refine g_iadd dL_law_278 ?_
        refine g_iald sh_0 (by decide) (by omega) (by omega) (by omega) ag_0 dL_law_279 ?_
        refine g_aload_n (x := 0) rfl dL_law_280 ?_
        refine g_iload_n (x := (6 * i)) rfl dL_law_281 ?_
        refine g_iconst (x := 2) rfl dL_law_282 ?_
        refine g_iadd dL_law_283 ?_
        refine g_iald sh_0 (by decide) (by omega) (by omega) (by omega) ag_0 dL_law_284 ?_
        refine g_aload_n (x := 0) rfl dL_law_285 ?_
        refine g_iload_n (x := (6 * i)) rfl dL_law_286 ?_
        refine g_iconst (x := 3) rfl dL_law_287 ?_
        refine g_iadd dL_law_288 ?_
        refine g_iald sh_0 (by decide) (by omega) (by omega) (by omega) ag_0 dL_law_289 ?_
        refine g_aload_n (x := 0) rfl dL_law_290 ?_
        refine g_iload_n (x := (6 * i)) rfl dL_law_291 ?_
        refine g_iconst (x := 4) rfl dL_law_292 ?_
        refine g_iadd dL_law_293 ?_
        refine g_iald sh_0 (by decide) (by omega) (by omega) (by omega) ag_0 dL_law_294 ?_
        refine g_aload_n (x := 0) rfl dL_law_295 ?_
        refine g_iload_n (x := (6 * i)) rfl dL_law_296 ?_
        refine g_iconst (x := 5) rfl dL_law_297 ?_
        refine g_iadd dL_law_298 ?_
        refine g_iald sh_0 (by decide) (by omega) (by omega) (by omega) ag_0 dL_law_299 ?_
        refine i_callV mvX6_copy tw_283 (ci := 6) (congrArg Prod.fst sh_8) rfl (by decide) (hx) (by decide) (st' := []) rfl (Nat.le_of_ble_eq_true rfl) rfl dL_law_300 (fun v_5 ι2 hq_300 => ?_)
        obtain ⟨x, rfl, hs2, Qm, hm, hk2⟩ := hk _ _ hq_300
        refine g_aload_n (x := 178) rfl dL_law_303 ?_
        refine g_aload_n (x := 0) rfl dL_law_304 ?_
        refine g_iload_n (x := (6 * i)) rfl dL_law_305 ?_
        refine g_iconst (x := 1) rfl dL_law_306 ?_
        refine g_iadd dL_law_307 ?_
        refine g_iald sh_0 (by decide) (by omega) (by omega) (by omega) ag_0 dL_law_308 ?_
        simp only [hs2]
        refine g_aload_n (x := 0) rfl dL_law_309 ?_
        refine g_iload_n (x := (6 * i)) rfl dL_law_310 ?_
        refine g_iconst (x := 2) rfl dL_law_311 ?_
        refine g_iadd dL_law_312 ?_
        refine g_iald sh_0 (by decide) (by omega) (by omega) (by omega) ag_0 dL_law_313 ?_
        simp only [hs2]
        refine g_aload_n (x := 0) rfl dL_law_314 ?_
        refine g_iload_n (x := (6 * i)) rfl dL_law_315 ?_
        refine g_iconst (x := 3) rfl dL_law_316 ?_
        refine g_iadd dL_law_317 ?_
        refine g_iald sh_0 (by decide) (by omega) (by omega) (by omega) ag_0 dL_law_318 ?_
        simp only [hs2]
        refine g_aload_n (x := 0) rfl dL_law_319 ?_
        refine g_iload_n (x := (6 * i)) rfl dL_law_320 ?_
        refine g_iconst (x := 4) rfl dL_law_321 ?_
        refine g_iadd dL_law_322 ?_
        refine g_iald sh_0 (by decide) (by omega) (by omega) (by omega) ag_0 dL_law_323 ?_
        simp only [hs2]
        refine g_aload_n (x := 0) rfl dL_law_324 ?_
        refine g_iload_n (x := (6 * i)) rfl dL_law_325 ?_
        refine g_iconst (x := 5) rfl dL_law_326 ?_
        refine g_iadd dL_law_327 ?_
        refine g_iald sh_0 (by decide) (by omega) (by omega) (by omega) ag_0 dL_law_328 ?_
        simp only [hs2]
        refine i_callV mvX7_copy tw_894 (ci := 7) (congrArg Prod.fst sh_178) rfl (by decide) (hm) (by decide) (st' := [zI x]) rfl (Nat.le_of_ble_eq_true rfl) rfl dL_law_329 (fun v_6 ι3 hq_329 => ?_)
        obtain ⟨rfl, hI3, hs3⟩ := hk2 _ _ hq_329
        refine g_icmp_eqS (t := 1253) dL_law_332 (by decide) ?_
        exact hnext ι3 hi5 hI3 hs3
      · refine g_tswIn (zi32_b _) dL_law_33 (by omega) (by omega) (off := 304) (by rw [hsv]; rfl) (t := 337) (by decide) ?_
        obtain ⟨Qx, hx, hk⟩ := o_drop (l := l) (D := D) (ad := ad) (L := L) (z := z) hI hz1
        refine g_aload_n (x := 8) rfl dL_law_337 ?_
        refine g_aload_n (x := 0) rfl dL_law_338 ?_
        refine g_iload_n (x := (6 * i)) rfl dL_law_339 ?_
        refine g_iconst (x := 1) rfl dL_law_340 ?_
        refine g_iadd dL_law_341 ?_
        refine g_iald sh_0 (by decide) (by omega) (by omega) (by omega) ag_0 dL_law_342 ?_
        refine i_callV mvX6_drop tw_290 (ci := 6) (congrArg Prod.fst sh_8) rfl (by decide) (hx) (by decide) (st' := []) rfl (Nat.le_of_ble_eq_true rfl) rfl dL_law_343 (fun v_7 ι2 hq_343 => ?_)
        obtain ⟨x, rfl, hs2, Qm, hm, hk2⟩ := hk _ _ hq_343
        refine g_aload_n (x := 178) rfl dL_law_346 ?_
        refine g_aload_n (x := 0) rfl dL_law_347 ?_
        refine g_iload_n (x := (6 * i)) rfl dL_law_348 ?_
        refine g_iconst (x := 1) rfl dL_law_349 ?_
        refine g_iadd dL_law_350 ?_
        refine g_iald sh_0 (by decide) (by omega) (by omega) (by omega) ag_0 dL_law_351 ?_
        simp only [hs2]
        refine i_callV mvX7_drop tw_898 (ci := 7) (congrArg Prod.fst sh_178) rfl (by decide) (hm) (by decide) (st' := [zI x]) rfl (Nat.le_of_ble_eq_true rfl) rfl dL_law_352 (fun v_8 ι3 hq_352 => ?_)
        obtain ⟨rfl, hI3, hs3⟩ := hk2 _ _ hq_352
        refine g_icmp_eqS (t := 1253) dL_law_355 (by decide) ?_
        exact hnext ι3 hi5 hI3 hs3
      · refine g_tswIn (zi32_b _) dL_law_33 (by omega) (by omega) (off := 327) (by rw [hsv]; rfl) (t := 360) (by decide) ?_
        obtain ⟨Qx, hx, hk⟩ := o_feed (l := l) (D := D) (ad := ad) (L := L) (z := z) hI hz1
        refine g_aload_n (x := 8) rfl dL_law_360 ?_
        refine g_aload_n (x := 0) rfl dL_law_361 ?_
        refine g_iload_n (x := (6 * i)) rfl dL_law_362 ?_
        refine g_iconst (x := 1) rfl dL_law_363 ?_
        refine g_iadd dL_law_364 ?_
        refine g_iald sh_0 (by decide) (by omega) (by omega) (by omega) ag_0 dL_law_365 ?_
        refine i_callV mvX6_feed tw_298 (ci := 6) (congrArg Prod.fst sh_8) rfl (by decide) (hx) (by decide) (st' := []) rfl (Nat.le_of_ble_eq_true rfl) rfl dL_law_366 (fun v_9 ι2 hq_366 => ?_)
        obtain ⟨x, rfl, hs2, Qm, hm, hk2⟩ := hk _ _ hq_366
        refine g_aload_n (x := 178) rfl dL_law_369 ?_
        refine g_aload_n (x := 0) rfl dL_law_370 ?_
        refine g_iload_n (x := (6 * i)) rfl dL_law_371 ?_
        refine g_iconst (x := 1) rfl dL_law_372 ?_
        refine g_iadd dL_law_373 ?_
        refine g_iald sh_0 (by decide) (by omega) (by omega) (by omega) ag_0 dL_law_374 ?_
        simp only [hs2]
        refine i_callV mvX7_feed tw_902 (ci := 7) (congrArg Prod.fst sh_178) rfl (by decide) (hm) (by decide) (st' := [zI x]) rfl (Nat.le_of_ble_eq_true rfl) rfl dL_law_375 (fun v_10 ι3 hq_375 => ?_)
        obtain ⟨rfl, hI3, hs3⟩ := hk2 _ _ hq_375
        refine g_icmp_eqS (t := 1253) dL_law_378 (by decide) ?_
        exact hnext ι3 hi5 hI3 hs3
      · refine g_tswIn (zi32_b _) dL_law_33 (by omega) (by omega) (off := 350) (by rw [hsv]; rfl) (t := 383) (by decide) ?_
        obtain ⟨Qx, hx, hk⟩ := o_town (l := l) (D := D) (ad := ad) (L := L) (z := z) hI (by omega) 
        refine g_aload_n (x := 8) rfl dL_law_383 ?_
        refine i_callV mvX6_town tw_307 (ci := 6) (congrArg Prod.fst sh_8) rfl (by decide) (hx) (by decide) (st' := []) rfl (Nat.le_of_ble_eq_true rfl) rfl dL_law_384 (fun v_11 ι2 hq_384 => ?_)
        obtain ⟨x, rfl, hs2, Qm, hm, hk2⟩ := hk _ _ hq_384
        refine g_aload_n (x := 178) rfl dL_law_387 ?_
        refine i_callV mvX7_town tw_908 (ci := 7) (congrArg Prod.fst sh_178) rfl (by decide) (hm) (by decide) (st' := [zI x]) rfl (Nat.le_of_ble_eq_true rfl) rfl dL_law_388 (fun v_12 ι3 hq_388 => ?_)
        obtain ⟨rfl, hI3, hs3⟩ := hk2 _ _ hq_388
        refine g_icmp_eqS (t := 1253) dL_law_391 (by decide) ?_
        exact hnext ι3 hi5 hI3 hs3
      · refine g_tswIn (zi32_b _) dL_law_33 (by omega) (by omega) (off := 363) (by rw [hsv]; rfl) (t := 396) (by decide) ?_
        obtain ⟨Qx, hx, hk⟩ := o_fault (l := l) (D := D) (ad := ad) (L := L) (z := z) hI (by omega) 
        refine g_aload_n (x := 8) rfl dL_law_396 ?_
        refine i_callV mvX6_fault tw_453 (ci := 6) (congrArg Prod.fst sh_8) rfl (by decide) (hx) (by decide) (st' := []) rfl (Nat.le_of_ble_eq_true rfl) rfl dL_law_397 (fun v_13 ι2 hq_397 => ?_)
        obtain ⟨x, rfl, hs2, Qm, hm, hk2⟩ := hk _ _ hq_397
        refine g_aload_n (x := 178) rfl dL_law_400 ?_
        refine i_callV mvX7_fault tw_954 (ci := 7) (congrArg Prod.fst sh_178) rfl (by decide) (hm) (by decide) (st' := [zI x]) rfl (Nat.le_of_ble_eq_true rfl) rfl dL_law_401 (fun v_14 ι3 hq_401 => ?_)
        obtain ⟨rfl, hI3, hs3⟩ := hk2 _ _ hq_401
        refine g_icmp_eqS (t := 1253) dL_law_404 (by decide) ?_
        exact hnext ι3 hi5 hI3 hs3
      · refine g_tswIn (zi32_b _) dL_law_33 (by omega) (by omega) (off := 376) (by rw [hsv]; rfl) (t := 409) (by decide) ?_
        obtain ⟨Qx, hx, hk⟩ := o_hours (l := l) (D := D) (ad := ad) (L := L) (z := z) hI (by omega) hz1
        refine g_aload_n (x := 8) rfl dL_law_409 ?_
        refine g_aload_n (x := 0) rfl dL_law_410 ?_
        refine g_iload_n (x := (6 * i)) rfl dL_law_411 ?_
        refine g_iconst (x := 1) rfl dL_law_412 ?_
        refine g_iadd dL_law_413 ?_
        refine g_iald sh_0 (by decide) (by omega) (by omega) (by omega) ag_0 dL_law_414 ?_
        refine i_callV mvX6_hours tw_457 (ci := 6) (congrArg Prod.fst sh_8) rfl (by decide) (hx) (by decide) (st' := []) rfl (Nat.le_of_ble_eq_true rfl) rfl dL_law_415 (fun v_15 ι2 hq_415 => ?_)
        obtain ⟨x, rfl, hs2, Qm, hm, hk2⟩ := hk _ _ hq_415
        refine g_aload_n (x := 178) rfl dL_law_418 ?_
        refine g_aload_n (x := 0) rfl dL_law_419 ?_
        refine g_iload_n (x := (6 * i)) rfl dL_law_420 ?_
        refine g_iconst (x := 1) rfl dL_law_421 ?_
        refine g_iadd dL_law_422 ?_
        refine g_iald sh_0 (by decide) (by omega) (by omega) (by omega) ag_0 dL_law_423 ?_
        simp only [hs2]
        refine i_callV mvX7_hours tw_958 (ci := 7) (congrArg Prod.fst sh_178) rfl (by decide) (hm) (by decide) (st' := [zI x]) rfl (Nat.le_of_ble_eq_true rfl) rfl dL_law_424 (fun v_16 ι3 hq_424 => ?_)
        obtain ⟨rfl, hI3, hs3⟩ := hk2 _ _ hq_424
        refine g_icmp_eqS (t := 1253) dL_law_427 (by decide) ?_
        exact hnext ι3 hi5 hI3 hs3
      · refine g_tswIn (zi32_b _) dL_law_33 (by omega) (by omega) (off := 399) (by rw [hsv]; rfl) (t := 432) (by decide) ?_
        obtain ⟨Qx, hx, hk⟩ := o_beat (l := l) (D := D) (ad := ad) (L := L) (z := z) hI (by omega) hz1 hz2
        refine g_aload_n (x := 8) rfl dL_law_432 ?_
        refine g_aload_n (x := 0) rfl dL_law_433 ?_
        refine g_iload_n (x := (6 * i)) rfl dL_law_434 ?_
        refine g_iconst (x := 1) rfl dL_law_435 ?_
        refine g_iadd dL_law_436 ?_
        refine g_iald sh_0 (by decide) (by omega) (by omega) (by omega) ag_0 dL_law_437 ?_
        refine g_aload_n (x := 0) rfl dL_law_438 ?_
        refine g_iload_n (x := (6 * i)) rfl dL_law_439 ?_
        refine g_iconst (x := 2) rfl dL_law_440 ?_
        refine g_iadd dL_law_441 ?_
        refine g_iald sh_0 (by decide) (by omega) (by omega) (by omega) ag_0 dL_law_442 ?_
        refine i_callV mvX6_beat tw_504 (ci := 6) (congrArg Prod.fst sh_8) rfl (by decide) (hx) (by decide) (st' := []) rfl (Nat.le_of_ble_eq_true rfl) rfl dL_law_443 (fun v_17 ι2 hq_443 => ?_)
        obtain ⟨x, rfl, hs2, Qm, hm, hk2⟩ := hk _ _ hq_443
        refine g_aload_n (x := 178) rfl dL_law_446 ?_
        refine g_aload_n (x := 0) rfl dL_law_447 ?_
        refine g_iload_n (x := (6 * i)) rfl dL_law_448 ?_
        refine g_iconst (x := 1) rfl dL_law_449 ?_
        refine g_iadd dL_law_450 ?_
        refine g_iald sh_0 (by decide) (by omega) (by omega) (by omega) ag_0 dL_law_451 ?_
        simp only [hs2]
        refine g_aload_n (x := 0) rfl dL_law_452 ?_
        refine g_iload_n (x := (6 * i)) rfl dL_law_453 ?_
        refine g_iconst (x := 2) rfl dL_law_454 ?_
        refine g_iadd dL_law_455 ?_
        refine g_iald sh_0 (by decide) (by omega) (by omega) (by omega) ag_0 dL_law_456 ?_
        simp only [hs2]
        refine i_callV mvX7_beat tw_998 (ci := 7) (congrArg Prod.fst sh_178) rfl (by decide) (hm) (by decide) (st' := [zI x]) rfl (Nat.le_of_ble_eq_true rfl) rfl dL_law_457 (fun v_18 ι3 hq_457 => ?_)
        obtain ⟨rfl, hI3, hs3⟩ := hk2 _ _ hq_457
        refine g_icmp_eqS (t := 1253) dL_law_460 (by decide) ?_
        exact hnext ι3 hi5 hI3 hs3
      · refine g_tswIn (zi32_b _) dL_law_33 (by omega) (by omega) (off := 432) (by rw [hsv]; rfl) (t := 465) (by decide) ?_
        obtain ⟨Qx, hx, hk⟩ := o_reach (l := l) (D := D) (ad := ad) (L := L) (z := z) hI (by omega) hz1
        refine g_aload_n (x := 8) rfl dL_law_465 ?_
        refine g_aload_n (x := 0) rfl dL_law_466 ?_
        refine g_iload_n (x := (6 * i)) rfl dL_law_467 ?_
        refine g_iconst (x := 1) rfl dL_law_468 ?_
        refine g_iadd dL_law_469 ?_
        refine g_iald sh_0 (by decide) (by omega) (by omega) (by omega) ag_0 dL_law_470 ?_
        refine i_callV mvX6_reach tw_516 (ci := 6) (congrArg Prod.fst sh_8) rfl (by decide) (hx) (by decide) (st' := []) rfl (Nat.le_of_ble_eq_true rfl) rfl dL_law_471 (fun v_19 ι2 hq_471 => ?_)
        obtain ⟨x, rfl, hs2, Qm, hm, hk2⟩ := hk _ _ hq_471
        refine g_aload_n (x := 178) rfl dL_law_474 ?_
        refine g_aload_n (x := 0) rfl dL_law_475 ?_
        refine g_iload_n (x := (6 * i)) rfl dL_law_476 ?_
        refine g_iconst (x := 1) rfl dL_law_477 ?_
        refine g_iadd dL_law_478 ?_
        refine g_iald sh_0 (by decide) (by omega) (by omega) (by omega) ag_0 dL_law_479 ?_
        simp only [hs2]
        refine i_callV mvX7_reach tw_1006 (ci := 7) (congrArg Prod.fst sh_178) rfl (by decide) (hm) (by decide) (st' := [zI x]) rfl (Nat.le_of_ble_eq_true rfl) rfl dL_law_480 (fun v_20 ι3 hq_480 => ?_)
        obtain ⟨rfl, hI3, hs3⟩ := hk2 _ _ hq_480
        refine g_icmp_eqS (t := 1253) dL_law_483 (by decide) ?_
        exact hnext ι3 hi5 hI3 hs3
      · refine g_tswIn (zi32_b _) dL_law_33 (by omega) (by omega) (off := 455) (by rw [hsv]; rfl) (t := 488) (by decide) ?_
        obtain ⟨Qx, hx, hk⟩ := o_lull (l := l) (D := D) (ad := ad) (L := L) (z := z) hI (by omega) hz1 hz2
        refine g_aload_n (x := 8) rfl dL_law_488 ?_
        refine g_aload_n (x := 0) rfl dL_law_489 ?_
        refine g_iload_n (x := (6 * i)) rfl dL_law_490 ?_
        refine g_iconst (x := 1) rfl dL_law_491 ?_
        refine g_iadd dL_law_492 ?_
        refine g_iald sh_0 (by decide) (by omega) (by omega) (by omega) ag_0 dL_law_493 ?_
        refine g_aload_n (x := 0) rfl dL_law_494 ?_
        refine g_iload_n (x := (6 * i)) rfl dL_law_495 ?_
        refine g_iconst (x := 2) rfl dL_law_496 ?_
        refine g_iadd dL_law_497 ?_
        refine g_iald sh_0 (by decide) (by omega) (by omega) (by omega) ag_0 dL_law_498 ?_
        refine i_callV mvX6_lull tw_520 (ci := 6) (congrArg Prod.fst sh_8) rfl (by decide) (hx) (by decide) (st' := []) rfl (Nat.le_of_ble_eq_true rfl) rfl dL_law_499 (fun v_21 ι2 hq_499 => ?_)
        obtain ⟨x, rfl, hs2, Qm, hm, hk2⟩ := hk _ _ hq_499
        refine g_aload_n (x := 178) rfl dL_law_502 ?_
        refine g_aload_n (x := 0) rfl dL_law_503 ?_
        refine g_iload_n (x := (6 * i)) rfl dL_law_504 ?_
        refine g_iconst (x := 1) rfl dL_law_505 ?_
        refine g_iadd dL_law_506 ?_
        refine g_iald sh_0 (by decide) (by omega) (by omega) (by omega) ag_0 dL_law_507 ?_
        simp only [hs2]
        refine g_aload_n (x := 0) rfl dL_law_508 ?_
        refine g_iload_n (x := (6 * i)) rfl dL_law_509 ?_
        refine g_iconst (x := 2) rfl dL_law_510 ?_
        refine g_iadd dL_law_511 ?_
        refine g_iald sh_0 (by decide) (by omega) (by omega) (by omega) ag_0 dL_law_512 ?_
        simp only [hs2]
        refine i_callV mvX7_lull tw_1011 (ci := 7) (congrArg Prod.fst sh_178) rfl (by decide) (hm) (by decide) (st' := [zI x]) rfl (Nat.le_of_ble_eq_true rfl) rfl dL_law_513 (fun v_22 ι3 hq_513 => ?_)
        obtain ⟨rfl, hI3, hs3⟩ := hk2 _ _ hq_513
        refine g_icmp_eqS (t := 1253) dL_law_516 (by decide) ?_
        exact hnext ι3 hi5 hI3 hs3
      · refine g_tswIn (zi32_b _) dL_law_33 (by omega) (by omega) (off := 488) (by rw [hsv]; rfl) (t := 521) (by decide) ?_
        obtain ⟨Qx, hx, hk⟩ := o_bring (l := l) (D := D) (ad := ad) (L := L) (z := z) hI (by omega) hz1 hz2
        refine g_aload_n (x := 8) rfl dL_law_521 ?_
        refine g_aload_n (x := 0) rfl dL_law_522 ?_
        refine g_iload_n (x := (6 * i)) rfl dL_law_523 ?_
        refine g_iconst (x := 1) rfl dL_law_524 ?_
        refine g_iadd dL_law_525 ?_
        refine g_iald sh_0 (by decide) (by omega) (by omega) (by omega) ag_0 dL_law_526 ?_
        refine g_aload_n (x := 0) rfl dL_law_527 ?_
        refine g_iload_n (x := (6 * i)) rfl dL_law_528 ?_
        refine g_iconst (x := 2) rfl dL_law_529 ?_
        refine g_iadd dL_law_530 ?_
        refine g_iald sh_0 (by decide) (by omega) (by omega) (by omega) ag_0 dL_law_531 ?_
        refine i_callV mvX6_bring tw_525 (ci := 6) (congrArg Prod.fst sh_8) rfl (by decide) (hx) (by decide) (st' := []) rfl (Nat.le_of_ble_eq_true rfl) rfl dL_law_532 (fun v_23 ι2 hq_532 => ?_)
        obtain ⟨x, rfl, hs2, Qm, hm, hk2⟩ := hk _ _ hq_532
        refine g_aload_n (x := 178) rfl dL_law_535 ?_
        refine g_aload_n (x := 0) rfl dL_law_536 ?_
        refine g_iload_n (x := (6 * i)) rfl dL_law_537 ?_
        refine g_iconst (x := 1) rfl dL_law_538 ?_
        refine g_iadd dL_law_539 ?_
        refine g_iald sh_0 (by decide) (by omega) (by omega) (by omega) ag_0 dL_law_540 ?_
        simp only [hs2]
        refine g_aload_n (x := 0) rfl dL_law_541 ?_
        refine g_iload_n (x := (6 * i)) rfl dL_law_542 ?_
        refine g_iconst (x := 2) rfl dL_law_543 ?_
        refine g_iadd dL_law_544 ?_
        refine g_iald sh_0 (by decide) (by omega) (by omega) (by omega) ag_0 dL_law_545 ?_
        simp only [hs2]
        refine i_callV mvX7_bring tw_1016 (ci := 7) (congrArg Prod.fst sh_178) rfl (by decide) (hm) (by decide) (st' := [zI x]) rfl (Nat.le_of_ble_eq_true rfl) rfl dL_law_546 (fun v_24 ι3 hq_546 => ?_)
        obtain ⟨rfl, hI3, hs3⟩ := hk2 _ _ hq_546
        refine g_icmp_eqS (t := 1253) dL_law_549 (by decide) ?_
        exact hnext ι3 hi5 hI3 hs3
      · refine g_tswIn (zi32_b _) dL_law_33 (by omega) (by omega) (off := 521) (by rw [hsv]; rfl) (t := 554) (by decide) ?_
        obtain ⟨Qx, hx, hk⟩ := o_undo (l := l) (D := D) (ad := ad) (L := L) (z := z) hI 
        refine g_aload_n (x := 8) rfl dL_law_554 ?_
        refine i_callV mvX6_undo tw_529 (ci := 6) (congrArg Prod.fst sh_8) rfl (by decide) (hx) (by decide) (st' := []) rfl (Nat.le_of_ble_eq_true rfl) rfl dL_law_555 (fun v_25 ι2 hq_555 => ?_)
        obtain ⟨x, rfl, hs2, Qm, hm, hk2⟩ := hk _ _ hq_555
        refine g_aload_n (x := 178) rfl dL_law_558 ?_
        refine i_callV mvX7_undo tw_1021 (ci := 7) (congrArg Prod.fst sh_178) rfl (by decide) (hm) (by decide) (st' := [zI x]) rfl (Nat.le_of_ble_eq_true rfl) rfl dL_law_559 (fun v_26 ι3 hq_559 => ?_)
        obtain ⟨rfl, hI3, hs3⟩ := hk2 _ _ hq_559
        refine g_icmp_eqS (t := 1253) dL_law_562 (by decide) ?_
        exact hnext ι3 hi5 hI3 hs3
      · refine g_tswIn (zi32_b _) dL_law_33 (by omega) (by omega) (off := 534) (by rw [hsv]; rfl) (t := 567) (by decide) ?_
        obtain ⟨Qx, hx, hk⟩ := o_street (l := l) (D := D) (ad := ad) (L := L) (z := z) hI (by omega) hz1 hz2
        refine g_aload_n (x := 8) rfl dL_law_567 ?_
        refine g_aload_n (x := 0) rfl dL_law_568 ?_
        refine g_iload_n (x := (6 * i)) rfl dL_law_569 ?_
        refine g_iconst (x := 1) rfl dL_law_570 ?_
        refine g_iadd dL_law_571 ?_
        refine g_iald sh_0 (by decide) (by omega) (by omega) (by omega) ag_0 dL_law_572 ?_
        refine g_aload_n (x := 0) rfl dL_law_573 ?_
        refine g_iload_n (x := (6 * i)) rfl dL_law_574 ?_
        refine g_iconst (x := 2) rfl dL_law_575 ?_
        refine g_iadd dL_law_576 ?_
        refine g_iald sh_0 (by decide) (by omega) (by omega) (by omega) ag_0 dL_law_577 ?_
        refine i_callV mvX6_street tw_537 (ci := 6) (congrArg Prod.fst sh_8) rfl (by decide) (hx) (by decide) (st' := []) rfl (Nat.le_of_ble_eq_true rfl) rfl dL_law_578 (fun v_27 ι2 hq_578 => ?_)
        obtain ⟨x, rfl, hs2, Qm, hm, hk2⟩ := hk _ _ hq_578
        refine g_aload_n (x := 178) rfl dL_law_581 ?_
        refine g_aload_n (x := 0) rfl dL_law_582 ?_
        refine g_iload_n (x := (6 * i)) rfl dL_law_583 ?_
        refine g_iconst (x := 1) rfl dL_law_584 ?_
        refine g_iadd dL_law_585 ?_
        refine g_iald sh_0 (by decide) (by omega) (by omega) (by omega) ag_0 dL_law_586 ?_
        simp only [hs2]
        refine g_aload_n (x := 0) rfl dL_law_587 ?_
        refine g_iload_n (x := (6 * i)) rfl dL_law_588 ?_
        refine g_iconst (x := 2) rfl dL_law_589 ?_
        refine g_iadd dL_law_590 ?_
        refine g_iald sh_0 (by decide) (by omega) (by omega) (by omega) ag_0 dL_law_591 ?_
        simp only [hs2]
        refine i_callV mvX7_street tw_1025 (ci := 7) (congrArg Prod.fst sh_178) rfl (by decide) (hm) (by decide) (st' := [zI x]) rfl (Nat.le_of_ble_eq_true rfl) rfl dL_law_592 (fun v_28 ι3 hq_592 => ?_)
        obtain ⟨rfl, hI3, hs3⟩ := hk2 _ _ hq_592
        refine g_icmp_eqS (t := 1253) dL_law_595 (by decide) ?_
        exact hnext ι3 hi5 hI3 hs3
      · refine g_tswIn (zi32_b _) dL_law_33 (by omega) (by omega) (off := 567) (by rw [hsv]; rfl) (t := 600) (by decide) ?_
        obtain ⟨Qx, hx, hk⟩ := o_round (l := l) (D := D) (ad := ad) (L := L) (z := z) hI (by omega) hz1
        refine g_aload_n (x := 8) rfl dL_law_600 ?_
        refine g_aload_n (x := 0) rfl dL_law_601 ?_
        refine g_iload_n (x := (6 * i)) rfl dL_law_602 ?_
        refine g_iconst (x := 1) rfl dL_law_603 ?_
        refine g_iadd dL_law_604 ?_
        refine g_iald sh_0 (by decide) (by omega) (by omega) (by omega) ag_0 dL_law_605 ?_
        refine i_callV mvX6_round tw_547 (ci := 6) (congrArg Prod.fst sh_8) rfl (by decide) (hx) (by decide) (st' := []) rfl (Nat.le_of_ble_eq_true rfl) rfl dL_law_606 (fun v_29 ι2 hq_606 => ?_)
        obtain ⟨x, rfl, hs2, Qm, hm, hk2⟩ := hk _ _ hq_606
        refine g_aload_n (x := 178) rfl dL_law_609 ?_
        refine g_aload_n (x := 0) rfl dL_law_610 ?_
        refine g_iload_n (x := (6 * i)) rfl dL_law_611 ?_
        refine g_iconst (x := 1) rfl dL_law_612 ?_
        refine g_iadd dL_law_613 ?_
        refine g_iald sh_0 (by decide) (by omega) (by omega) (by omega) ag_0 dL_law_614 ?_
        simp only [hs2]
        refine i_callV mvX7_round tw_1029 (ci := 7) (congrArg Prod.fst sh_178) rfl (by decide) (hm) (by decide) (st' := [zI x]) rfl (Nat.le_of_ble_eq_true rfl) rfl dL_law_615 (fun v_30 ι3 hq_615 => ?_)
        obtain ⟨rfl, hI3, hs3⟩ := hk2 _ _ hq_615
        refine g_icmp_eqS (t := 1253) dL_law_618 (by decide) ?_
        exact hnext ι3 hi5 hI3 hs3
      · refine g_tswIn (zi32_b _) dL_law_33 (by omega) (by omega) (off := 590) (by rw [hsv]; rfl) (t := 623) (by decide) ?_
        obtain ⟨Qx, hx, hk⟩ := o_ahead (l := l) (D := D) (ad := ad) (L := L) (z := z) hI (by omega) hz1 hz2 hz3
        refine g_aload_n (x := 8) rfl dL_law_623 ?_
        refine g_aload_n (x := 0) rfl dL_law_624 ?_
        refine g_iload_n (x := (6 * i)) rfl dL_law_625 ?_
        refine g_iconst (x := 1) rfl dL_law_626 ?_
        refine g_iadd dL_law_627 ?_
        refine g_iald sh_0 (by decide) (by omega) (by omega) (by omega) ag_0 dL_law_628 ?_
        refine g_aload_n (x := 0) rfl dL_law_629 ?_
        refine g_iload_n (x := (6 * i)) rfl dL_law_630 ?_
        refine g_iconst (x := 2) rfl dL_law_631 ?_
        refine g_iadd dL_law_632 ?_
        refine g_iald sh_0 (by decide) (by omega) (by omega) (by omega) ag_0 dL_law_633 ?_
        refine g_aload_n (x := 0) rfl dL_law_634 ?_
        refine g_iload_n (x := (6 * i)) rfl dL_law_635 ?_
        refine g_iconst (x := 3) rfl dL_law_636 ?_
        refine g_iadd dL_law_637 ?_
        refine g_iald sh_0 (by decide) (by omega) (by omega) (by omega) ag_0 dL_law_638 ?_
        refine i_callV mvX6_ahead tw_551 (ci := 6) (congrArg Prod.fst sh_8) rfl (by decide) (hx) (by decide) (st' := []) rfl (Nat.le_of_ble_eq_true rfl) rfl dL_law_639 (fun v_31 ι2 hq_639 => ?_)
        obtain ⟨x, rfl, hs2, Qm, hm, hk2⟩ := hk _ _ hq_639
        refine g_aload_n (x := 178) rfl dL_law_642 ?_
        refine g_aload_n (x := 0) rfl dL_law_643 ?_
        refine g_iload_n (x := (6 * i)) rfl dL_law_644 ?_
        refine g_iconst (x := 1) rfl dL_law_645 ?_
        refine g_iadd dL_law_646 ?_
        refine g_iald sh_0 (by decide) (by omega) (by omega) (by omega) ag_0 dL_law_647 ?_
        simp only [hs2]
        refine g_aload_n (x := 0) rfl dL_law_648 ?_
        refine g_iload_n (x := (6 * i)) rfl dL_law_649 ?_
        refine g_iconst (x := 2) rfl dL_law_650 ?_
        refine g_iadd dL_law_651 ?_
        refine g_iald sh_0 (by decide) (by omega) (by omega) (by omega) ag_0 dL_law_652 ?_
        simp only [hs2]
        refine g_aload_n (x := 0) rfl dL_law_653 ?_
        refine g_iload_n (x := (6 * i)) rfl dL_law_654 ?_
        refine g_iconst (x := 3) rfl dL_law_655 ?_
        refine g_iadd dL_law_656 ?_
        refine g_iald sh_0 (by decide) (by omega) (by omega) (by omega) ag_0 dL_law_657 ?_
        simp only [hs2]
        refine i_callV mvX7_ahead tw_1033 (ci := 7) (congrArg Prod.fst sh_178) rfl (by decide) (hm) (by decide) (st' := [zI x]) rfl (Nat.le_of_ble_eq_true rfl) rfl dL_law_658 (fun v_32 ι3 hq_658 => ?_)
        obtain ⟨rfl, hI3, hs3⟩ := hk2 _ _ hq_658
        refine g_icmp_eqS (t := 1253) dL_law_661 (by decide) ?_
        exact hnext ι3 hi5 hI3 hs3
      · refine g_tswIn (zi32_b _) dL_law_33 (by omega) (by omega) (off := 633) (by rw [hsv]; rfl) (t := 666) (by decide) ?_
        obtain ⟨Qx, hx, hk⟩ := o_later (l := l) (D := D) (ad := ad) (L := L) (z := z) hI (by omega) hz1 hz2
        refine g_aload_n (x := 8) rfl dL_law_666 ?_
        refine g_aload_n (x := 0) rfl dL_law_667 ?_
        refine g_iload_n (x := (6 * i)) rfl dL_law_668 ?_
        refine g_iconst (x := 1) rfl dL_law_669 ?_
        refine g_iadd dL_law_670 ?_
        refine g_iald sh_0 (by decide) (by omega) (by omega) (by omega) ag_0 dL_law_671 ?_
        refine g_aload_n (x := 0) rfl dL_law_672 ?_
        refine g_iload_n (x := (6 * i)) rfl dL_law_673 ?_
        refine g_iconst (x := 2) rfl dL_law_674 ?_
        refine g_iadd dL_law_675 ?_
        refine g_iald sh_0 (by decide) (by omega) (by omega) (by omega) ag_0 dL_law_676 ?_
        refine i_callV mvX6_later tw_571 (ci := 6) (congrArg Prod.fst sh_8) rfl (by decide) (hx) (by decide) (st' := []) rfl (Nat.le_of_ble_eq_true rfl) rfl dL_law_677 (fun v_33 ι2 hq_677 => ?_)
        obtain ⟨x, rfl, hs2, Qm, hm, hk2⟩ := hk _ _ hq_677
        refine g_aload_n (x := 178) rfl dL_law_680 ?_
        refine g_aload_n (x := 0) rfl dL_law_681 ?_
        refine g_iload_n (x := (6 * i)) rfl dL_law_682 ?_
        refine g_iconst (x := 1) rfl dL_law_683 ?_
        refine g_iadd dL_law_684 ?_
        refine g_iald sh_0 (by decide) (by omega) (by omega) (by omega) ag_0 dL_law_685 ?_
        simp only [hs2]
        refine g_aload_n (x := 0) rfl dL_law_686 ?_
        refine g_iload_n (x := (6 * i)) rfl dL_law_687 ?_
        refine g_iconst (x := 2) rfl dL_law_688 ?_
        refine g_iadd dL_law_689 ?_
        refine g_iald sh_0 (by decide) (by omega) (by omega) (by omega) ag_0 dL_law_690 ?_
        simp only [hs2]
        refine i_callV mvX7_later tw_1045 (ci := 7) (congrArg Prod.fst sh_178) rfl (by decide) (hm) (by decide) (st' := [zI x]) rfl (Nat.le_of_ble_eq_true rfl) rfl dL_law_691 (fun v_34 ι3 hq_691 => ?_)
        obtain ⟨rfl, hI3, hs3⟩ := hk2 _ _ hq_691
        refine g_icmp_eqS (t := 1253) dL_law_694 (by decide) ?_
        exact hnext ι3 hi5 hI3 hs3
      · refine g_tswIn (zi32_b _) dL_law_33 (by omega) (by omega) (off := 666) (by rw [hsv]; rfl) (t := 699) (by decide) ?_
        obtain ⟨Qx, hx, hk⟩ := o_wakes (l := l) (D := D) (ad := ad) (L := L) (z := z) hI (by omega) hz1
        refine g_aload_n (x := 8) rfl dL_law_699 ?_
        refine g_aload_n (x := 0) rfl dL_law_700 ?_
        refine g_iload_n (x := (6 * i)) rfl dL_law_701 ?_
        refine g_iconst (x := 1) rfl dL_law_702 ?_
        refine g_iadd dL_law_703 ?_
        refine g_iald sh_0 (by decide) (by omega) (by omega) (by omega) ag_0 dL_law_704 ?_
        refine i_callV mvX6_wakes tw_575 (ci := 6) (congrArg Prod.fst sh_8) rfl (by decide) (hx) (by decide) (st' := []) rfl (Nat.le_of_ble_eq_true rfl) rfl dL_law_705 (fun v_35 ι2 hq_705 => ?_)
        obtain ⟨x, rfl, hs2, Qm, hm, hk2⟩ := hk _ _ hq_705
        refine g_aload_n (x := 178) rfl dL_law_708 ?_
        refine g_aload_n (x := 0) rfl dL_law_709 ?_
        refine g_iload_n (x := (6 * i)) rfl dL_law_710 ?_
        refine g_iconst (x := 1) rfl dL_law_711 ?_
        refine g_iadd dL_law_712 ?_
        refine g_iald sh_0 (by decide) (by omega) (by omega) (by omega) ag_0 dL_law_713 ?_
        simp only [hs2]
        refine i_callV mvX7_wakes tw_1049 (ci := 7) (congrArg Prod.fst sh_178) rfl (by decide) (hm) (by decide) (st' := [zI x]) rfl (Nat.le_of_ble_eq_true rfl) rfl dL_law_714 (fun v_36 ι3 hq_714 => ?_)
        obtain ⟨rfl, hI3, hs3⟩ := hk2 _ _ hq_714
        refine g_icmp_eqS (t := 1253) dL_law_717 (by decide) ?_
        exact hnext ι3 hi5 hI3 hs3
      · refine g_tswIn (zi32_b _) dL_law_33 (by omega) (by omega) (off := 689) (by rw [hsv]; rfl) (t := 722) (by decide) ?_
        obtain ⟨Qx, hx, hk⟩ := o_alarm (l := l) (D := D) (ad := ad) (L := L) (z := z) hI (by omega) 
        refine g_aload_n (x := 8) rfl dL_law_722 ?_
        refine i_callV mvX6_alarm tw_586 (ci := 6) (congrArg Prod.fst sh_8) rfl (by decide) (hx) (by decide) (st' := []) rfl (Nat.le_of_ble_eq_true rfl) rfl dL_law_723 (fun v_37 ι2 hq_723 => ?_)
        obtain ⟨x, rfl, hs2, Qm, hm, hk2⟩ := hk _ _ hq_723
        refine g_aload_n (x := 178) rfl dL_law_726 ?_
        refine i_callV mvX7_alarm tw_1058 (ci := 7) (congrArg Prod.fst sh_178) rfl (by decide) (hm) (by decide) (st' := [zI x]) rfl (Nat.le_of_ble_eq_true rfl) rfl dL_law_727 (fun v_38 ι3 hq_727 => ?_)
        obtain ⟨rfl, hI3, hs3⟩ := hk2 _ _ hq_727
        refine g_icmp_eqS (t := 1253) dL_law_730 (by decide) ?_
        exact hnext ι3 hi5 hI3 hs3
      · refine g_tswIn (zi32_b _) dL_law_33 (by omega) (by omega) (off := 702) (by rw [hsv]; rfl) (t := 735) (by decide) ?_
        obtain ⟨Qx, hx, hk⟩ := o_tune (l := l) (D := D) (ad := ad) (L := L) (z := z) hI (by omega) hz1 hz2 hz3
        refine g_aload_n (x := 8) rfl dL_law_735 ?_
        refine g_aload_n (x := 0) rfl dL_law_736 ?_
        refine g_iload_n (x := (6 * i)) rfl dL_law_737 ?_
        refine g_iconst (x := 1) rfl dL_law_738 ?_
        refine g_iadd dL_law_739 ?_
        refine g_iald sh_0 (by decide) (by omega) (by omega) (by omega) ag_0 dL_law_740 ?_
        refine g_aload_n (x := 0) rfl dL_law_741 ?_
        refine g_iload_n (x := (6 * i)) rfl dL_law_742 ?_
        refine g_iconst (x := 2) rfl dL_law_743 ?_
        refine g_iadd dL_law_744 ?_
        refine g_iald sh_0 (by decide) (by omega) (by omega) (by omega) ag_0 dL_law_745 ?_
        refine g_aload_n (x := 0) rfl dL_law_746 ?_
        refine g_iload_n (x := (6 * i)) rfl dL_law_747 ?_
        refine g_iconst (x := 3) rfl dL_law_748 ?_
        refine g_iadd dL_law_749 ?_
        refine g_iald sh_0 (by decide) (by omega) (by omega) (by omega) ag_0 dL_law_750 ?_
        refine i_callV mvX6_tune tw_594 (ci := 6) (congrArg Prod.fst sh_8) rfl (by decide) (hx) (by decide) (st' := []) rfl (Nat.le_of_ble_eq_true rfl) rfl dL_law_751 (fun v_39 ι2 hq_751 => ?_)
        obtain ⟨x, rfl, hs2, Qm, hm, hk2⟩ := hk _ _ hq_751
        refine g_aload_n (x := 178) rfl dL_law_754 ?_
        refine g_aload_n (x := 0) rfl dL_law_755 ?_
        refine g_iload_n (x := (6 * i)) rfl dL_law_756 ?_
        refine g_iconst (x := 1) rfl dL_law_757 ?_
        refine g_iadd dL_law_758 ?_
        refine g_iald sh_0 (by decide) (by omega) (by omega) (by omega) ag_0 dL_law_759 ?_
        simp only [hs2]
        refine g_aload_n (x := 0) rfl dL_law_760 ?_
        refine g_iload_n (x := (6 * i)) rfl dL_law_761 ?_
        refine g_iconst (x := 2) rfl dL_law_762 ?_
        refine g_iadd dL_law_763 ?_
        refine g_iald sh_0 (by decide) (by omega) (by omega) (by omega) ag_0 dL_law_764 ?_
        simp only [hs2]
        refine g_aload_n (x := 0) rfl dL_law_765 ?_
        refine g_iload_n (x := (6 * i)) rfl dL_law_766 ?_
        refine g_iconst (x := 3) rfl dL_law_767 ?_
        refine g_iadd dL_law_768 ?_
        refine g_iald sh_0 (by decide) (by omega) (by omega) (by omega) ag_0 dL_law_769 ?_
        simp only [hs2]
        refine i_callV mvX7_tune tw_1062 (ci := 7) (congrArg Prod.fst sh_178) rfl (by decide) (hm) (by decide) (st' := [zI x]) rfl (Nat.le_of_ble_eq_true rfl) rfl dL_law_770 (fun v_40 ι3 hq_770 => ?_)
        obtain ⟨rfl, hI3, hs3⟩ := hk2 _ _ hq_770
        refine g_icmp_eqS (t := 1253) dL_law_773 (by decide) ?_
        exact hnext ι3 hi5 hI3 hs3
      · refine g_tswIn (zi32_b _) dL_law_33 (by omega) (by omega) (off := 745) (by rw [hsv]; rfl) (t := 778) (by decide) ?_
        obtain ⟨Qx, hx, hk⟩ := o_shift (l := l) (D := D) (ad := ad) (L := L) (z := z) hI (by omega) hz1 hz2
        refine g_aload_n (x := 8) rfl dL_law_778 ?_
        refine g_aload_n (x := 0) rfl dL_law_779 ?_
        refine g_iload_n (x := (6 * i)) rfl dL_law_780 ?_
        refine g_iconst (x := 1) rfl dL_law_781 ?_
        refine g_iadd dL_law_782 ?_
        refine g_iald sh_0 (by decide) (by omega) (by omega) (by omega) ag_0 dL_law_783 ?_
        refine g_aload_n (x := 0) rfl dL_law_784 ?_
        refine g_iload_n (x := (6 * i)) rfl dL_law_785 ?_
        refine g_iconst (x := 2) rfl dL_law_786 ?_
        refine g_iadd dL_law_787 ?_
        refine g_iald sh_0 (by decide) (by omega) (by omega) (by omega) ag_0 dL_law_788 ?_
        refine i_callV mvX6_shift tw_626 (ci := 6) (congrArg Prod.fst sh_8) rfl (by decide) (hx) (by decide) (st' := []) rfl (Nat.le_of_ble_eq_true rfl) rfl dL_law_789 (fun v_41 ι2 hq_789 => ?_)
        obtain ⟨x, rfl, hs2, Qm, hm, hk2⟩ := hk _ _ hq_789
        refine g_aload_n (x := 178) rfl dL_law_792 ?_
        refine g_aload_n (x := 0) rfl dL_law_793 ?_
        refine g_iload_n (x := (6 * i)) rfl dL_law_794 ?_
        refine g_iconst (x := 1) rfl dL_law_795 ?_
        refine g_iadd dL_law_796 ?_
        refine g_iald sh_0 (by decide) (by omega) (by omega) (by omega) ag_0 dL_law_797 ?_
        simp only [hs2]
        refine g_aload_n (x := 0) rfl dL_law_798 ?_
        refine g_iload_n (x := (6 * i)) rfl dL_law_799 ?_
        refine g_iconst (x := 2) rfl dL_law_800 ?_
        refine g_iadd dL_law_801 ?_
        refine g_iald sh_0 (by decide) (by omega) (by omega) (by omega) ag_0 dL_law_802 ?_
        simp only [hs2]
        refine i_callV mvX7_shift tw_1072 (ci := 7) (congrArg Prod.fst sh_178) rfl (by decide) (hm) (by decide) (st' := [zI x]) rfl (Nat.le_of_ble_eq_true rfl) rfl dL_law_803 (fun v_42 ι3 hq_803 => ?_)
        obtain ⟨rfl, hI3, hs3⟩ := hk2 _ _ hq_803
        refine g_icmp_eqS (t := 1253) dL_law_806 (by decide) ?_
        exact hnext ι3 hi5 hI3 hs3
      · refine g_tswIn (zi32_b _) dL_law_33 (by omega) (by omega) (off := 778) (by rw [hsv]; rfl) (t := 811) (by decide) ?_
        obtain ⟨Qx, hx, hk⟩ := o_cover (l := l) (D := D) (ad := ad) (L := L) (z := z) hI (by omega) hz1
        refine g_aload_n (x := 8) rfl dL_law_811 ?_
        refine g_aload_n (x := 0) rfl dL_law_812 ?_
        refine g_iload_n (x := (6 * i)) rfl dL_law_813 ?_
        refine g_iconst (x := 1) rfl dL_law_814 ?_
        refine g_iadd dL_law_815 ?_
        refine g_iald sh_0 (by decide) (by omega) (by omega) (by omega) ag_0 dL_law_816 ?_
        refine i_callV mvX6_cover tw_639 (ci := 6) (congrArg Prod.fst sh_8) rfl (by decide) (hx) (by decide) (st' := []) rfl (Nat.le_of_ble_eq_true rfl) rfl dL_law_817 (fun v_43 ι2 hq_817 => ?_)
        obtain ⟨x, rfl, hs2, Qm, hm, hk2⟩ := hk _ _ hq_817
        refine g_aload_n (x := 178) rfl dL_law_820 ?_
        refine g_aload_n (x := 0) rfl dL_law_821 ?_
        refine g_iload_n (x := (6 * i)) rfl dL_law_822 ?_
        refine g_iconst (x := 1) rfl dL_law_823 ?_
        refine g_iadd dL_law_824 ?_
        refine g_iald sh_0 (by decide) (by omega) (by omega) (by omega) ag_0 dL_law_825 ?_
        simp only [hs2]
        refine i_callV mvX7_cover tw_1077 (ci := 7) (congrArg Prod.fst sh_178) rfl (by decide) (hm) (by decide) (st' := [zI x]) rfl (Nat.le_of_ble_eq_true rfl) rfl dL_law_826 (fun v_44 ι3 hq_826 => ?_)
        obtain ⟨rfl, hI3, hs3⟩ := hk2 _ _ hq_826
        refine g_icmp_eqS (t := 1253) dL_law_829 (by decide) ?_
        exact hnext ι3 hi5 hI3 hs3
      · refine g_tswIn (zi32_b _) dL_law_33 (by omega) (by omega) (off := 801) (by rw [hsv]; rfl) (t := 834) (by decide) ?_
        obtain ⟨Qx, hx, hk⟩ := o_spread (l := l) (D := D) (ad := ad) (L := L) (z := z) hI (by omega) hz1 hz2
        refine g_aload_n (x := 8) rfl dL_law_834 ?_
        refine g_aload_n (x := 0) rfl dL_law_835 ?_
        refine g_iload_n (x := (6 * i)) rfl dL_law_836 ?_
        refine g_iconst (x := 1) rfl dL_law_837 ?_
        refine g_iadd dL_law_838 ?_
        refine g_iald sh_0 (by decide) (by omega) (by omega) (by omega) ag_0 dL_law_839 ?_
        refine g_aload_n (x := 0) rfl dL_law_840 ?_
        refine g_iload_n (x := (6 * i)) rfl dL_law_841 ?_
        refine g_iconst (x := 2) rfl dL_law_842 ?_
        refine g_iadd dL_law_843 ?_
        refine g_iald sh_0 (by decide) (by omega) (by omega) (by omega) ag_0 dL_law_844 ?_
        refine i_callV mvX6_spread tw_658 (ci := 6) (congrArg Prod.fst sh_8) rfl (by decide) (hx) (by decide) (st' := []) rfl (Nat.le_of_ble_eq_true rfl) rfl dL_law_845 (fun v_45 ι2 hq_845 => ?_)
        obtain ⟨x, rfl, hs2, Qm, hm, hk2⟩ := hk _ _ hq_845
        refine g_aload_n (x := 178) rfl dL_law_848 ?_
        refine g_aload_n (x := 0) rfl dL_law_849 ?_
        refine g_iload_n (x := (6 * i)) rfl dL_law_850 ?_
        refine g_iconst (x := 1) rfl dL_law_851 ?_
        refine g_iadd dL_law_852 ?_
        refine g_iald sh_0 (by decide) (by omega) (by omega) (by omega) ag_0 dL_law_853 ?_
        simp only [hs2]
        refine g_aload_n (x := 0) rfl dL_law_854 ?_
        refine g_iload_n (x := (6 * i)) rfl dL_law_855 ?_
        refine g_iconst (x := 2) rfl dL_law_856 ?_
        refine g_iadd dL_law_857 ?_
        refine g_iald sh_0 (by decide) (by omega) (by omega) (by omega) ag_0 dL_law_858 ?_
        simp only [hs2]
        refine i_callV mvX7_spread tw_1084 (ci := 7) (congrArg Prod.fst sh_178) rfl (by decide) (hm) (by decide) (st' := [zI x]) rfl (Nat.le_of_ble_eq_true rfl) rfl dL_law_859 (fun v_46 ι3 hq_859 => ?_)
        obtain ⟨rfl, hI3, hs3⟩ := hk2 _ _ hq_859
        refine g_icmp_eqS (t := 1253) dL_law_862 (by decide) ?_
        exact hnext ι3 hi5 hI3 hs3
      · refine g_tswIn (zi32_b _) dL_law_33 (by omega) (by omega) (off := 834) (by rw [hsv]; rfl) (t := 867) (by decide) ?_
        obtain ⟨Qx, hx, hk⟩ := o_skins (l := l) (D := D) (ad := ad) (L := L) (z := z) hI (by omega) hz1 hz2
        refine g_aload_n (x := 8) rfl dL_law_867 ?_
        refine g_aload_n (x := 0) rfl dL_law_868 ?_
        refine g_iload_n (x := (6 * i)) rfl dL_law_869 ?_
        refine g_iconst (x := 1) rfl dL_law_870 ?_
        refine g_iadd dL_law_871 ?_
        refine g_iald sh_0 (by decide) (by omega) (by omega) (by omega) ag_0 dL_law_872 ?_
        refine g_aload_n (x := 0) rfl dL_law_873 ?_
        refine g_iload_n (x := (6 * i)) rfl dL_law_874 ?_
        refine g_iconst (x := 2) rfl dL_law_875 ?_
        refine g_iadd dL_law_876 ?_
        refine g_iald sh_0 (by decide) (by omega) (by omega) (by omega) ag_0 dL_law_877 ?_
        refine i_callV mvX6_skins tw_671 (ci := 6) (congrArg Prod.fst sh_8) rfl (by decide) (hx) (by decide) (st' := []) rfl (Nat.le_of_ble_eq_true rfl) rfl dL_law_878 (fun v_47 ι2 hq_878 => ?_)
        obtain ⟨x, rfl, hs2, Qm, hm, hk2⟩ := hk _ _ hq_878
        refine g_aload_n (x := 178) rfl dL_law_881 ?_
        refine g_aload_n (x := 0) rfl dL_law_882 ?_
        refine g_iload_n (x := (6 * i)) rfl dL_law_883 ?_
        refine g_iconst (x := 1) rfl dL_law_884 ?_
        refine g_iadd dL_law_885 ?_
        refine g_iald sh_0 (by decide) (by omega) (by omega) (by omega) ag_0 dL_law_886 ?_
        simp only [hs2]
        refine g_aload_n (x := 0) rfl dL_law_887 ?_
        refine g_iload_n (x := (6 * i)) rfl dL_law_888 ?_
        refine g_iconst (x := 2) rfl dL_law_889 ?_
        refine g_iadd dL_law_890 ?_
        refine g_iald sh_0 (by decide) (by omega) (by omega) (by omega) ag_0 dL_law_891 ?_
        simp only [hs2]
        refine i_callV mvX7_skins tw_1088 (ci := 7) (congrArg Prod.fst sh_178) rfl (by decide) (hm) (by decide) (st' := [zI x]) rfl (Nat.le_of_ble_eq_true rfl) rfl dL_law_892 (fun v_48 ι3 hq_892 => ?_)
        obtain ⟨rfl, hI3, hs3⟩ := hk2 _ _ hq_892
        refine g_icmp_eqS (t := 1253) dL_law_895 (by decide) ?_
        exact hnext ι3 hi5 hI3 hs3
      · refine g_tswIn (zi32_b _) dL_law_33 (by omega) (by omega) (off := 867) (by rw [hsv]; rfl) (t := 900) (by decide) ?_
        obtain ⟨Qx, hx, hk⟩ := o_fits (l := l) (D := D) (ad := ad) (L := L) (z := z) hI (by omega) hz1 hz2 hz3 hz4 hz5
        refine g_aload_n (x := 8) rfl dL_law_900 ?_
        refine g_aload_n (x := 0) rfl dL_law_901 ?_
        refine g_iload_n (x := (6 * i)) rfl dL_law_902 ?_
        refine g_iconst (x := 1) rfl dL_law_903 ?_
        refine g_iadd dL_law_904 ?_
        refine g_iald sh_0 (by decide) (by omega) (by omega) (by omega) ag_0 dL_law_905 ?_
        refine g_aload_n (x := 0) rfl dL_law_906 ?_
        refine g_iload_n (x := (6 * i)) rfl dL_law_907 ?_
        refine g_iconst (x := 2) rfl dL_law_908 ?_
        refine g_iadd dL_law_909 ?_
        refine g_iald sh_0 (by decide) (by omega) (by omega) (by omega) ag_0 dL_law_910 ?_
        refine g_aload_n (x := 0) rfl dL_law_911 ?_
        refine g_iload_n (x := (6 * i)) rfl dL_law_912 ?_
        refine g_iconst (x := 3) rfl dL_law_913 ?_
        refine g_iadd dL_law_914 ?_
        refine g_iald sh_0 (by decide) (by omega) (by omega) (by omega) ag_0 dL_law_915 ?_
        refine g_aload_n (x := 0) rfl dL_law_916 ?_
        refine g_iload_n (x := (6 * i)) rfl dL_law_917 ?_
        refine g_iconst (x := 4) rfl dL_law_918 ?_
        refine g_iadd dL_law_919 ?_
        refine g_iald sh_0 (by decide) (by omega) (by omega) (by omega) ag_0 dL_law_920 ?_
        refine g_aload_n (x := 0) rfl dL_law_921 ?_
        refine g_iload_n (x := (6 * i)) rfl dL_law_922 ?_
        refine g_iconst (x := 5) rfl dL_law_923 ?_
        refine g_iadd dL_law_924 ?_
        refine g_iald sh_0 (by decide) (by omega) (by omega) (by omega) ag_0 dL_law_925 ?_
        refine i_callV mvX6_fits tw_683 (ci := 6) (congrArg Prod.fst sh_8) rfl (by decide) (hx) (by decide) (st' := []) rfl (Nat.le_of_ble_eq_true rfl) rfl dL_law_926 (fun v_49 ι2 hq_926 => ?_)
        obtain ⟨x, rfl, hs2, Qm, hm, hk2⟩ := hk _ _ hq_926
        refine g_aload_n (x := 178) rfl dL_law_929 ?_
        refine g_aload_n (x := 0) rfl dL_law_930 ?_
        refine g_iload_n (x := (6 * i)) rfl dL_law_931 ?_
        refine g_iconst (x := 1) rfl dL_law_932 ?_
        refine g_iadd dL_law_933 ?_
        refine g_iald sh_0 (by decide) (by omega) (by omega) (by omega) ag_0 dL_law_934 ?_
        simp only [hs2]
        refine g_aload_n (x := 0) rfl dL_law_935 ?_
        refine g_iload_n (x := (6 * i)) rfl dL_law_936 ?_
        refine g_iconst (x := 2) rfl dL_law_937 ?_
        refine g_iadd dL_law_938 ?_
        refine g_iald sh_0 (by decide) (by omega) (by omega) (by omega) ag_0 dL_law_939 ?_
        simp only [hs2]
        refine g_aload_n (x := 0) rfl dL_law_940 ?_
        refine g_iload_n (x := (6 * i)) rfl dL_law_941 ?_
        refine g_iconst (x := 3) rfl dL_law_942 ?_
        refine g_iadd dL_law_943 ?_
        refine g_iald sh_0 (by decide) (by omega) (by omega) (by omega) ag_0 dL_law_944 ?_
        simp only [hs2]
        refine g_aload_n (x := 0) rfl dL_law_945 ?_
        refine g_iload_n (x := (6 * i)) rfl dL_law_946 ?_
        refine g_iconst (x := 4) rfl dL_law_947 ?_
        refine g_iadd dL_law_948 ?_
        refine g_iald sh_0 (by decide) (by omega) (by omega) (by omega) ag_0 dL_law_949 ?_
        simp only [hs2]
        refine g_aload_n (x := 0) rfl dL_law_950 ?_
        refine g_iload_n (x := (6 * i)) rfl dL_law_951 ?_
        refine g_iconst (x := 5) rfl dL_law_952 ?_
        refine g_iadd dL_law_953 ?_
        refine g_iald sh_0 (by decide) (by omega) (by omega) (by omega) ag_0 dL_law_954 ?_
        simp only [hs2]
        refine i_callV mvX7_fits tw_1093 (ci := 7) (congrArg Prod.fst sh_178) rfl (by decide) (hm) (by decide) (st' := [zI x]) rfl (Nat.le_of_ble_eq_true rfl) rfl dL_law_955 (fun v_50 ι3 hq_955 => ?_)
        obtain ⟨rfl, hI3, hs3⟩ := hk2 _ _ hq_955
        refine g_icmp_eqS (t := 1253) dL_law_958 (by decide) ?_
        exact hnext ι3 hi5 hI3 hs3
      · refine g_tswIn (zi32_b _) dL_law_33 (by omega) (by omega) (off := 930) (by rw [hsv]; rfl) (t := 963) (by decide) ?_
        obtain ⟨Qx, hx, hk⟩ := o_drops (l := l) (D := D) (ad := ad) (L := L) (z := z) hI (by omega) hz1 hz2 hz3 hz4
        refine g_aload_n (x := 8) rfl dL_law_963 ?_
        refine g_aload_n (x := 0) rfl dL_law_964 ?_
        refine g_iload_n (x := (6 * i)) rfl dL_law_965 ?_
        refine g_iconst (x := 1) rfl dL_law_966 ?_
        refine g_iadd dL_law_967 ?_
        refine g_iald sh_0 (by decide) (by omega) (by omega) (by omega) ag_0 dL_law_968 ?_
        refine g_aload_n (x := 0) rfl dL_law_969 ?_
        refine g_iload_n (x := (6 * i)) rfl dL_law_970 ?_
        refine g_iconst (x := 2) rfl dL_law_971 ?_
        refine g_iadd dL_law_972 ?_
        refine g_iald sh_0 (by decide) (by omega) (by omega) (by omega) ag_0 dL_law_973 ?_
        refine g_aload_n (x := 0) rfl dL_law_974 ?_
        refine g_iload_n (x := (6 * i)) rfl dL_law_975 ?_
        refine g_iconst (x := 3) rfl dL_law_976 ?_
        refine g_iadd dL_law_977 ?_
        refine g_iald sh_0 (by decide) (by omega) (by omega) (by omega) ag_0 dL_law_978 ?_
        refine g_aload_n (x := 0) rfl dL_law_979 ?_
        refine g_iload_n (x := (6 * i)) rfl dL_law_980 ?_
        refine g_iconst (x := 4) rfl dL_law_981 ?_
        refine g_iadd dL_law_982 ?_
        refine g_iald sh_0 (by decide) (by omega) (by omega) (by omega) ag_0 dL_law_983 ?_
        refine i_callV mvX6_drops tw_712 (ci := 6) (congrArg Prod.fst sh_8) rfl (by decide) (hx) (by decide) (st' := []) rfl (Nat.le_of_ble_eq_true rfl) rfl dL_law_984 (fun v_51 ι2 hq_984 => ?_)
        obtain ⟨x, rfl, hs2, Qm, hm, hk2⟩ := hk _ _ hq_984
        refine g_aload_n (x := 178) rfl dL_law_987 ?_
        refine g_aload_n (x := 0) rfl dL_law_988 ?_
        refine g_iload_n (x := (6 * i)) rfl dL_law_989 ?_
        refine g_iconst (x := 1) rfl dL_law_990 ?_
        refine g_iadd dL_law_991 ?_
        refine g_iald sh_0 (by decide) (by omega) (by omega) (by omega) ag_0 dL_law_992 ?_
        simp only [hs2]
        refine g_aload_n (x := 0) rfl dL_law_993 ?_
        refine g_iload_n (x := (6 * i)) rfl dL_law_994 ?_
        refine g_iconst (x := 2) rfl dL_law_995 ?_
        refine g_iadd dL_law_996 ?_
        refine g_iald sh_0 (by decide) (by omega) (by omega) (by omega) ag_0 dL_law_997 ?_
        simp only [hs2]
        refine g_aload_n (x := 0) rfl dL_law_998 ?_
        refine g_iload_n (x := (6 * i)) rfl dL_law_999 ?_
        refine g_iconst (x := 3) rfl dL_law_1000 ?_
        refine g_iadd dL_law_1001 ?_
        refine g_iald sh_0 (by decide) (by omega) (by omega) (by omega) ag_0 dL_law_1002 ?_
        simp only [hs2]
        refine g_aload_n (x := 0) rfl dL_law_1003 ?_
        refine g_iload_n (x := (6 * i)) rfl dL_law_1004 ?_
        refine g_iconst (x := 4) rfl dL_law_1005 ?_
        refine g_iadd dL_law_1006 ?_
        refine g_iald sh_0 (by decide) (by omega) (by omega) (by omega) ag_0 dL_law_1007 ?_
        simp only [hs2]
        refine i_callV mvX7_drops tw_1101 (ci := 7) (congrArg Prod.fst sh_178) rfl (by decide) (hm) (by decide) (st' := [zI x]) rfl (Nat.le_of_ble_eq_true rfl) rfl dL_law_1008 (fun v_52 ι3 hq_1008 => ?_)
        obtain ⟨rfl, hI3, hs3⟩ := hk2 _ _ hq_1008
        refine g_icmp_eqS (t := 1253) dL_law_1011 (by decide) ?_
        exact hnext ι3 hi5 hI3 hs3
      · refine g_tswIn (zi32_b _) dL_law_33 (by omega) (by omega) (off := 983) (by rw [hsv]; rfl) (t := 1016) (by decide) ?_
        obtain ⟨Qx, hx, hk⟩ := o_drawn (l := l) (D := D) (ad := ad) (L := L) (z := z) hI (by omega) hz1 hz2 hz3
        refine g_aload_n (x := 8) rfl dL_law_1016 ?_
        refine g_aload_n (x := 0) rfl dL_law_1017 ?_
        refine g_iload_n (x := (6 * i)) rfl dL_law_1018 ?_
        refine g_iconst (x := 1) rfl dL_law_1019 ?_
        refine g_iadd dL_law_1020 ?_
        refine g_iald sh_0 (by decide) (by omega) (by omega) (by omega) ag_0 dL_law_1021 ?_
        refine g_aload_n (x := 0) rfl dL_law_1022 ?_
        refine g_iload_n (x := (6 * i)) rfl dL_law_1023 ?_
        refine g_iconst (x := 2) rfl dL_law_1024 ?_
        refine g_iadd dL_law_1025 ?_
        refine g_iald sh_0 (by decide) (by omega) (by omega) (by omega) ag_0 dL_law_1026 ?_
        refine g_aload_n (x := 0) rfl dL_law_1027 ?_
        refine g_iload_n (x := (6 * i)) rfl dL_law_1028 ?_
        refine g_iconst (x := 3) rfl dL_law_1029 ?_
        refine g_iadd dL_law_1030 ?_
        refine g_iald sh_0 (by decide) (by omega) (by omega) (by omega) ag_0 dL_law_1031 ?_
        refine i_callV mvX6_drawn tw_732 (ci := 6) (congrArg Prod.fst sh_8) rfl (by decide) (hx) (by decide) (st' := []) rfl (Nat.le_of_ble_eq_true rfl) rfl dL_law_1032 (fun v_53 ι2 hq_1032 => ?_)
        obtain ⟨x, rfl, hs2, Qm, hm, hk2⟩ := hk _ _ hq_1032
        refine g_aload_n (x := 178) rfl dL_law_1035 ?_
        refine g_aload_n (x := 0) rfl dL_law_1036 ?_
        refine g_iload_n (x := (6 * i)) rfl dL_law_1037 ?_
        refine g_iconst (x := 1) rfl dL_law_1038 ?_
        refine g_iadd dL_law_1039 ?_
        refine g_iald sh_0 (by decide) (by omega) (by omega) (by omega) ag_0 dL_law_1040 ?_
        simp only [hs2]
        refine g_aload_n (x := 0) rfl dL_law_1041 ?_
        refine g_iload_n (x := (6 * i)) rfl dL_law_1042 ?_
        refine g_iconst (x := 2) rfl dL_law_1043 ?_
        refine g_iadd dL_law_1044 ?_
        refine g_iald sh_0 (by decide) (by omega) (by omega) (by omega) ag_0 dL_law_1045 ?_
        simp only [hs2]
        refine g_aload_n (x := 0) rfl dL_law_1046 ?_
        refine g_iload_n (x := (6 * i)) rfl dL_law_1047 ?_
        refine g_iconst (x := 3) rfl dL_law_1048 ?_
        refine g_iadd dL_law_1049 ?_
        refine g_iald sh_0 (by decide) (by omega) (by omega) (by omega) ag_0 dL_law_1050 ?_
        simp only [hs2]
        refine i_callV mvX7_drawn tw_1107 (ci := 7) (congrArg Prod.fst sh_178) rfl (by decide) (hm) (by decide) (st' := [zI x]) rfl (Nat.le_of_ble_eq_true rfl) rfl dL_law_1051 (fun v_54 ι3 hq_1051 => ?_)
        obtain ⟨rfl, hI3, hs3⟩ := hk2 _ _ hq_1051
        refine g_icmp_eqS (t := 1253) dL_law_1054 (by decide) ?_
        exact hnext ι3 hi5 hI3 hs3
      · refine g_tswIn (zi32_b _) dL_law_33 (by omega) (by omega) (off := 1026) (by rw [hsv]; rfl) (t := 1059) (by decide) ?_
        obtain ⟨Qx, hx, hk⟩ := o_image (l := l) (D := D) (ad := ad) (L := L) (z := z) hI (by omega) hz1
        refine g_aload_n (x := 8) rfl dL_law_1059 ?_
        refine g_aload_n (x := 0) rfl dL_law_1060 ?_
        refine g_iload_n (x := (6 * i)) rfl dL_law_1061 ?_
        refine g_iconst (x := 1) rfl dL_law_1062 ?_
        refine g_iadd dL_law_1063 ?_
        refine g_iald sh_0 (by decide) (by omega) (by omega) (by omega) ag_0 dL_law_1064 ?_
        refine i_callV mvX6_image tw_747 (ci := 6) (congrArg Prod.fst sh_8) rfl (by decide) (hx) (by decide) (st' := []) rfl (Nat.le_of_ble_eq_true rfl) rfl dL_law_1065 (fun v_55 ι2 hq_1065 => ?_)
        obtain ⟨x, rfl, hs2, Qm, hm, hk2⟩ := hk _ _ hq_1065
        refine g_aload_n (x := 178) rfl dL_law_1068 ?_
        refine g_aload_n (x := 0) rfl dL_law_1069 ?_
        refine g_iload_n (x := (6 * i)) rfl dL_law_1070 ?_
        refine g_iconst (x := 1) rfl dL_law_1071 ?_
        refine g_iadd dL_law_1072 ?_
        refine g_iald sh_0 (by decide) (by omega) (by omega) (by omega) ag_0 dL_law_1073 ?_
        simp only [hs2]
        refine i_callV mvX7_image tw_1115 (ci := 7) (congrArg Prod.fst sh_178) rfl (by decide) (hm) (by decide) (st' := [zI x]) rfl (Nat.le_of_ble_eq_true rfl) rfl dL_law_1074 (fun v_56 ι3 hq_1074 => ?_)
        obtain ⟨rfl, hI3, hs3⟩ := hk2 _ _ hq_1074
        refine g_icmp_eqS (t := 1253) dL_law_1077 (by decide) ?_
        exact hnext ι3 hi5 hI3 hs3
      · refine g_tswIn (zi32_b _) dL_law_33 (by omega) (by omega) (off := 1049) (by rw [hsv]; rfl) (t := 1082) (by decide) ?_
        obtain ⟨Qx, hx, hk⟩ := o_restore (l := l) (D := D) (ad := ad) (L := L) (z := z) hI hz1
        refine g_aload_n (x := 8) rfl dL_law_1082 ?_
        refine g_aload_n (x := 0) rfl dL_law_1083 ?_
        refine g_iload_n (x := (6 * i)) rfl dL_law_1084 ?_
        refine g_iconst (x := 1) rfl dL_law_1085 ?_
        refine g_iadd dL_law_1086 ?_
        refine g_iald sh_0 (by decide) (by omega) (by omega) (by omega) ag_0 dL_law_1087 ?_
        refine i_callV mvX6_restore tw_755 (ci := 6) (congrArg Prod.fst sh_8) rfl (by decide) (hx) (by decide) (st' := []) rfl (Nat.le_of_ble_eq_true rfl) rfl dL_law_1088 (fun v_57 ι2 hq_1088 => ?_)
        obtain ⟨x, rfl, hs2, Qm, hm, hk2⟩ := hk _ _ hq_1088
        refine g_aload_n (x := 178) rfl dL_law_1091 ?_
        refine g_aload_n (x := 0) rfl dL_law_1092 ?_
        refine g_iload_n (x := (6 * i)) rfl dL_law_1093 ?_
        refine g_iconst (x := 1) rfl dL_law_1094 ?_
        refine g_iadd dL_law_1095 ?_
        refine g_iald sh_0 (by decide) (by omega) (by omega) (by omega) ag_0 dL_law_1096 ?_
        simp only [hs2]
        refine i_callV mvX7_restore tw_1119 (ci := 7) (congrArg Prod.fst sh_178) rfl (by decide) (hm) (by decide) (st' := [zI x]) rfl (Nat.le_of_ble_eq_true rfl) rfl dL_law_1097 (fun v_58 ι3 hq_1097 => ?_)
        obtain ⟨rfl, hI3, hs3⟩ := hk2 _ _ hq_1097
        refine g_icmp_eqS (t := 1253) dL_law_1100 (by decide) ?_
        exact hnext ι3 hi5 hI3 hs3
      · refine g_tswIn (zi32_b _) dL_law_33 (by omega) (by omega) (off := 1072) (by rw [hsv]; rfl) (t := 1105) (by decide) ?_
        obtain ⟨Qx, hx, hk⟩ := o_kind (l := l) (D := D) (ad := ad) (L := L) (z := z) hI (by omega) hz1
        refine g_aload_n (x := 8) rfl dL_law_1105 ?_
        refine g_aload_n (x := 0) rfl dL_law_1106 ?_
        refine g_iload_n (x := (6 * i)) rfl dL_law_1107 ?_
        refine g_iconst (x := 1) rfl dL_law_1108 ?_
        refine g_iadd dL_law_1109 ?_
        refine g_iald sh_0 (by decide) (by omega) (by omega) (by omega) ag_0 dL_law_1110 ?_
        refine i_callV mvX6_kind tw_759 (ci := 6) (congrArg Prod.fst sh_8) rfl (by decide) (hx) (by decide) (st' := []) rfl (Nat.le_of_ble_eq_true rfl) rfl dL_law_1111 (fun v_59 ι2 hq_1111 => ?_)
        obtain ⟨x, rfl, hs2, Qm, hm, hk2⟩ := hk _ _ hq_1111
        refine g_aload_n (x := 178) rfl dL_law_1114 ?_
        refine g_aload_n (x := 0) rfl dL_law_1115 ?_
        refine g_iload_n (x := (6 * i)) rfl dL_law_1116 ?_
        refine g_iconst (x := 1) rfl dL_law_1117 ?_
        refine g_iadd dL_law_1118 ?_
        refine g_iald sh_0 (by decide) (by omega) (by omega) (by omega) ag_0 dL_law_1119 ?_
        simp only [hs2]
        refine i_callV mvX7_kind tw_1123 (ci := 7) (congrArg Prod.fst sh_178) rfl (by decide) (hm) (by decide) (st' := [zI x]) rfl (Nat.le_of_ble_eq_true rfl) rfl dL_law_1120 (fun v_60 ι3 hq_1120 => ?_)
        obtain ⟨rfl, hI3, hs3⟩ := hk2 _ _ hq_1120
        refine g_icmp_eqS (t := 1253) dL_law_1123 (by decide) ?_
        exact hnext ι3 hi5 hI3 hs3
      · refine g_tswIn (zi32_b _) dL_law_33 (by omega) (by omega) (off := 1095) (by rw [hsv]; rfl) (t := 1128) (by decide) ?_
        obtain ⟨Qx, hx, hk⟩ := o_as (l := l) (D := D) (ad := ad) (L := L) (z := z) hI (by omega) hz1 hz2
        refine g_aload_n (x := 8) rfl dL_law_1128 ?_
        refine g_aload_n (x := 0) rfl dL_law_1129 ?_
        refine g_iload_n (x := (6 * i)) rfl dL_law_1130 ?_
        refine g_iconst (x := 1) rfl dL_law_1131 ?_
        refine g_iadd dL_law_1132 ?_
        refine g_iald sh_0 (by decide) (by omega) (by omega) (by omega) ag_0 dL_law_1133 ?_
        refine g_aload_n (x := 0) rfl dL_law_1134 ?_
        refine g_iload_n (x := (6 * i)) rfl dL_law_1135 ?_
        refine g_iconst (x := 2) rfl dL_law_1136 ?_
        refine g_iadd dL_law_1137 ?_
        refine g_iald sh_0 (by decide) (by omega) (by omega) (by omega) ag_0 dL_law_1138 ?_
        refine i_callV mvX6_as tw_763 (ci := 6) (congrArg Prod.fst sh_8) rfl (by decide) (hx) (by decide) (st' := []) rfl (Nat.le_of_ble_eq_true rfl) rfl dL_law_1139 (fun v_61 ι2 hq_1139 => ?_)
        obtain ⟨x, rfl, hs2, Qm, hm, hk2⟩ := hk _ _ hq_1139
        refine g_aload_n (x := 178) rfl dL_law_1142 ?_
        refine g_aload_n (x := 0) rfl dL_law_1143 ?_
        refine g_iload_n (x := (6 * i)) rfl dL_law_1144 ?_
        refine g_iconst (x := 1) rfl dL_law_1145 ?_
        refine g_iadd dL_law_1146 ?_
        refine g_iald sh_0 (by decide) (by omega) (by omega) (by omega) ag_0 dL_law_1147 ?_
        simp only [hs2]
        refine g_aload_n (x := 0) rfl dL_law_1148 ?_
        refine g_iload_n (x := (6 * i)) rfl dL_law_1149 ?_
        refine g_iconst (x := 2) rfl dL_law_1150 ?_
        refine g_iadd dL_law_1151 ?_
        refine g_iald sh_0 (by decide) (by omega) (by omega) (by omega) ag_0 dL_law_1152 ?_
        simp only [hs2]
        refine i_callV mvX7_as tw_1127 (ci := 7) (congrArg Prod.fst sh_178) rfl (by decide) (hm) (by decide) (st' := [zI x]) rfl (Nat.le_of_ble_eq_true rfl) rfl dL_law_1153 (fun v_62 ι3 hq_1153 => ?_)
        obtain ⟨rfl, hI3, hs3⟩ := hk2 _ _ hq_1153
        refine g_icmp_eqS (t := 1253) dL_law_1156 (by decide) ?_
        exact hnext ι3 hi5 hI3 hs3
      · refine g_tswIn (zi32_b _) dL_law_33 (by omega) (by omega) (off := 1128) (by rw [hsv]; rfl) (t := 1161) (by decide) ?_
        obtain ⟨Qx, hx, hk⟩ := o_ask (l := l) (D := D) (ad := ad) (L := L) (z := z) hI (by omega) hz1 hz2
        refine g_aload_n (x := 8) rfl dL_law_1161 ?_
        refine g_aload_n (x := 0) rfl dL_law_1162 ?_
        refine g_iload_n (x := (6 * i)) rfl dL_law_1163 ?_
        refine g_iconst (x := 1) rfl dL_law_1164 ?_
        refine g_iadd dL_law_1165 ?_
        refine g_iald sh_0 (by decide) (by omega) (by omega) (by omega) ag_0 dL_law_1166 ?_
        refine g_aload_n (x := 0) rfl dL_law_1167 ?_
        refine g_iload_n (x := (6 * i)) rfl dL_law_1168 ?_
        refine g_iconst (x := 2) rfl dL_law_1169 ?_
        refine g_iadd dL_law_1170 ?_
        refine g_iald sh_0 (by decide) (by omega) (by omega) (by omega) ag_0 dL_law_1171 ?_
        refine i_callV mvX6_ask tw_772 (ci := 6) (congrArg Prod.fst sh_8) rfl (by decide) (hx) (by decide) (st' := []) rfl (Nat.le_of_ble_eq_true rfl) rfl dL_law_1172 (fun v_63 ι2 hq_1172 => ?_)
        obtain ⟨x, rfl, hs2, Qm, hm, hk2⟩ := hk _ _ hq_1172
        refine g_aload_n (x := 178) rfl dL_law_1175 ?_
        refine g_aload_n (x := 0) rfl dL_law_1176 ?_
        refine g_iload_n (x := (6 * i)) rfl dL_law_1177 ?_
        refine g_iconst (x := 1) rfl dL_law_1178 ?_
        refine g_iadd dL_law_1179 ?_
        refine g_iald sh_0 (by decide) (by omega) (by omega) (by omega) ag_0 dL_law_1180 ?_
        simp only [hs2]
        refine g_aload_n (x := 0) rfl dL_law_1181 ?_
        refine g_iload_n (x := (6 * i)) rfl dL_law_1182 ?_
        refine g_iconst (x := 2) rfl dL_law_1183 ?_
        refine g_iadd dL_law_1184 ?_
        refine g_iald sh_0 (by decide) (by omega) (by omega) (by omega) ag_0 dL_law_1185 ?_
        simp only [hs2]
        refine i_callV mvX7_ask tw_1134 (ci := 7) (congrArg Prod.fst sh_178) rfl (by decide) (hm) (by decide) (st' := [zI x]) rfl (Nat.le_of_ble_eq_true rfl) rfl dL_law_1186 (fun v_64 ι3 hq_1186 => ?_)
        obtain ⟨rfl, hI3, hs3⟩ := hk2 _ _ hq_1186
        refine g_icmp_eqS (t := 1253) dL_law_1189 (by decide) ?_
        exact hnext ι3 hi5 hI3 hs3
      · refine g_tswIn (zi32_b _) dL_law_33 (by omega) (by omega) (off := 1161) (by rw [hsv]; rfl) (t := 1194) (by decide) ?_
        obtain ⟨Qx, hx, hk⟩ := o_trace (l := l) (D := D) (ad := ad) (L := L) (z := z) hI (by omega) hz1
        refine g_aload_n (x := 8) rfl dL_law_1194 ?_
        refine g_aload_n (x := 0) rfl dL_law_1195 ?_
        refine g_iload_n (x := (6 * i)) rfl dL_law_1196 ?_
        refine g_iconst (x := 1) rfl dL_law_1197 ?_
        refine g_iadd dL_law_1198 ?_
        refine g_iald sh_0 (by decide) (by omega) (by omega) (by omega) ag_0 dL_law_1199 ?_
        refine i_callV mvX6_trace tw_792 (ci := 6) (congrArg Prod.fst sh_8) rfl (by decide) (hx) (by decide) (st' := []) rfl (Nat.le_of_ble_eq_true rfl) rfl dL_law_1200 (fun v_65 ι2 hq_1200 => ?_)
        obtain ⟨x, rfl, hs2, Qm, hm, hk2⟩ := hk _ _ hq_1200
        refine g_aload_n (x := 178) rfl dL_law_1203 ?_
        refine g_aload_n (x := 0) rfl dL_law_1204 ?_
        refine g_iload_n (x := (6 * i)) rfl dL_law_1205 ?_
        refine g_iconst (x := 1) rfl dL_law_1206 ?_
        refine g_iadd dL_law_1207 ?_
        refine g_iald sh_0 (by decide) (by omega) (by omega) (by omega) ag_0 dL_law_1208 ?_
        simp only [hs2]
        refine i_callV mvX7_trace tw_1174 (ci := 7) (congrArg Prod.fst sh_178) rfl (by decide) (hm) (by decide) (st' := [zI x]) rfl (Nat.le_of_ble_eq_true rfl) rfl dL_law_1209 (fun v_66 ι3 hq_1209 => ?_)
        obtain ⟨rfl, hI3, hs3⟩ := hk2 _ _ hq_1209
        refine g_icmp_eqS (t := 1253) dL_law_1212 (by decide) ?_
        exact hnext ι3 hi5 hI3 hs3
      · refine g_tswIn (zi32_b _) dL_law_33 (by omega) (by omega) (off := 1184) (by rw [hsv]; rfl) (t := 1217) (by decide) ?_
        obtain ⟨Qx, hx, hk⟩ := o_count (l := l) (D := D) (ad := ad) (L := L) (z := z) hI (by omega) hz1
        refine g_aload_n (x := 8) rfl dL_law_1217 ?_
        refine g_aload_n (x := 0) rfl dL_law_1218 ?_
        refine g_iload_n (x := (6 * i)) rfl dL_law_1219 ?_
        refine g_iconst (x := 1) rfl dL_law_1220 ?_
        refine g_iadd dL_law_1221 ?_
        refine g_iald sh_0 (by decide) (by omega) (by omega) (by omega) ag_0 dL_law_1222 ?_
        refine i_callV mvX6_count tw_796 (ci := 6) (congrArg Prod.fst sh_8) rfl (by decide) (hx) (by decide) (st' := []) rfl (Nat.le_of_ble_eq_true rfl) rfl dL_law_1223 (fun v_67 ι2 hq_1223 => ?_)
        obtain ⟨x, rfl, hs2, Qm, hm, hk2⟩ := hk _ _ hq_1223
        refine g_aload_n (x := 178) rfl dL_law_1226 ?_
        refine g_aload_n (x := 0) rfl dL_law_1227 ?_
        refine g_iload_n (x := (6 * i)) rfl dL_law_1228 ?_
        refine g_iconst (x := 1) rfl dL_law_1229 ?_
        refine g_iadd dL_law_1230 ?_
        refine g_iald sh_0 (by decide) (by omega) (by omega) (by omega) ag_0 dL_law_1231 ?_
        simp only [hs2]
        refine i_callV mvX7_count tw_1178 (ci := 7) (congrArg Prod.fst sh_178) rfl (by decide) (hm) (by decide) (st' := [zI x]) rfl (Nat.le_of_ble_eq_true rfl) rfl dL_law_1232 (fun v_68 ι3 hq_1232 => ?_)
        obtain ⟨rfl, hI3, hs3⟩ := hk2 _ _ hq_1232
        refine g_icmp_eqS (t := 1253) dL_law_1235 (by decide) ?_
        exact hnext ι3 hi5 hI3 hs3
      · refine g_tswIn (zi32_b _) dL_law_33 (by omega) (by omega) (off := 1207) (by rw [hsv]; rfl) (t := 1240) (by decide) ?_
        obtain ⟨Qx, hx, hk⟩ := o_status (l := l) (D := D) (ad := ad) (L := L) (z := z) hI (by omega) 
        refine g_aload_n (x := 8) rfl dL_law_1240 ?_
        refine i_callV mvX6_status tw_805 (ci := 6) (congrArg Prod.fst sh_8) rfl (by decide) (hx) (by decide) (st' := []) rfl (Nat.le_of_ble_eq_true rfl) rfl dL_law_1241 (fun v_69 ι2 hq_1241 => ?_)
        obtain ⟨x, rfl, hs2, Qm, hm, hk2⟩ := hk _ _ hq_1241
        refine g_aload_n (x := 178) rfl dL_law_1244 ?_
        refine i_callV mvX7_status tw_1186 (ci := 7) (congrArg Prod.fst sh_178) rfl (by decide) (hm) (by decide) (st' := [zI x]) rfl (Nat.le_of_ble_eq_true rfl) rfl dL_law_1245 (fun v_70 ι3 hq_1245 => ?_)
        obtain ⟨rfl, hI3, hs3⟩ := hk2 _ _ hq_1245
        refine g_icmp_eqS (t := 1253) dL_law_1248 (by decide) ?_
        exact hnext ι3 hi5 hI3 hs3

end
