section
variable {l : Launch} {D : va_G} {ad : Nat → Nat} {L z : Nat} {ι : zi}
/-! chances: a set of hours in which the drum is not heard -/
def zbt (set e : Int) : Prop := zand (zshr set e) 1 = 1
def zdp (K s set : Int) (R : zr) (e : Int) : zr := ru (ru R (14 + s) (zdeep K (R (14 + s)) (if zand (zshr set e) 1 = 1 then 0 else zhr R s) (R 4))) 4 (R 4 + 1)
def zwf (c set : Int) (a e : Int) : Int := a * (if zand (zshr set e) 1 = 1 then c else 10 - c)
def zwy (c n set : Int) : Int := zfd (zwf c set) 1 n
def zuf (R : zr) (K s n c : Int) (u set : Int) : Int := u + (if zfd (zdp K s set) R n (14 + s) = 0 then zwy c n set else 0)
def zupp (R : zr) (K s n c : Int) : Int := zfd (zuf R K s n c) 0 (zshl 1 n)
def ztn (n : Int) : Int := zfd (fun d _ => d * 10) 1 n
theorem ztn_b {n : Int} (h0 : 0 ≤ n) (h1 : n ≤ 8) : 1 ≤ ztn n ∧ ztn n ≤ 100000000 := by
  rcases (show n = 0 ∨ n = 1 ∨ n = 2 ∨ n = 3 ∨ n = 4 ∨ n = 5 ∨ n = 6 ∨ n = 7 ∨ n = 8 by omega) with h | h | h | h | h | h | h | h | h <;> subst h <;> decide
theorem zshl_v {n : Int} (h0 : 0 ≤ n) (h1 : n ≤ 8) : 1 ≤ zshl 1 n ∧ zshl 1 n ≤ 256 := by
  rcases (show n = 0 ∨ n = 1 ∨ n = 2 ∨ n = 3 ∨ n = 4 ∨ n = 5 ∨ n = 6 ∨ n = 7 ∨ n = 8 by omega) with h | h | h | h | h | h | h | h | h <;> subst h <;> decide
theorem zwy_b {c set n : Int} (hc : 0 ≤ c ∧ c ≤ 10) (h0 : 0 ≤ n) : 0 ≤ zfd (zwf c set) 1 n ∧ zfd (zwf c set) 1 n ≤ ztn n := by
  have key : ∀ m : Nat, 0 ≤ zfd (zwf c set) 1 m ∧ zfd (zwf c set) 1 m ≤ ztn m := by
    intro m
    induction m with
    | zero => exact ⟨by show (0 : Int) ≤ 1; decide, by show (1 : Int) ≤ 1; decide⟩
    | succ m ih =>
      unfold ztn at ih ⊢
      rw [show ((m + 1 : Nat) : Int) = (m : Int) + 1 by omega, zfd_s _ _ (by omega), zfd_s _ _ (by omega)]
      unfold zwf at ih ⊢
      have hx : 0 ≤ (if zand (zshr set m) 1 = 1 then c else 10 - c) ∧ (if zand (zshr set m) 1 = 1 then c else 10 - c) ≤ 10 := by split <;> omega
      exact zmul_b ih.1 ih.2 hx.1 hx.2
  have := key n.toNat
  rw [show ((n.toNat : Nat) : Int) = n by omega] at this
  exact this
theorem zuf_b {R : zr} {K s n c m : Int} (hc : 0 ≤ c ∧ c ≤ 10) (hn : 0 ≤ n ∧ n ≤ 8) (h0 : 0 ≤ m) : 0 ≤ zfd (zuf R K s n c) 0 m ∧ zfd (zuf R K s n c) 0 m ≤ 100000000 * m := by
  refine zfd_ind (f := zuf R K s n c) (P := fun i (a : Int) => 0 ≤ a ∧ a ≤ 100000000 * i) (by decide) (fun i x g0 g1 hx => ?_) h0
  have h1 := zwy_b (set := i) hc hn.1
  have h2 := ztn_b hn.1 hn.2
  unfold zuf zwy
  split <;> omega
theorem zdp_V {R : zr} (hz : tz R) {K s set : Int} (hs : 0 ≤ s ∧ s < 8) (hd : 0 ≤ R (14 + s) ∧ R (14 + s) ≤ 20) {n : Int} (h0 : 0 ≤ n) : tz (zfd (zdp K s set) R n) ∧ (0 ≤ zfd (zdp K s set) R n (14 + s) ∧ zfd (zdp K s set) R n (14 + s) ≤ 20) ∧ zfd (zdp K s set) R n 4 = R 4 + n ∧ ∀ j, j ≠ 4 → j ≠ 14 + s → zfd (zdp K s set) R n j = R j := by
  refine zfd_ind (f := zdp K s set) (P := fun i (x : zr) => tz x ∧ (0 ≤ x (14 + s) ∧ x (14 + s) ≤ 20) ∧ x 4 = R 4 + i ∧ ∀ j, j ≠ 4 → j ≠ 14 + s → x j = R j) ⟨hz, hd, by omega, fun _ _ _ => rfl⟩ (fun i x g0 g1 hx => ?_) h0
  obtain ⟨x1, x2, x3, x4⟩ := hx
  unfold zdp
  refine ⟨ru_tz (ru_tz x1 (by omega) (by omega)) (by omega) (by omega), ?_, ?_, fun j j1 j2 => ?_⟩
  · rw [ru_n _ (by omega), ru_s]; exact zdeep_b _ _ _ _
  · rw [ru_s, x3]; omega
  · rw [ru_n _ (by omega), ru_n _ (by omega)]; exact x4 j j1 j2
theorem zuf_y {R : zr} {K s n c u set : Int} (h : zfd (zdp K s set) R n (14 + s) = 0) : zuf R K s n c u set = u + zfd (zwf c set) 1 n := congrArg (fun t => u + t) (if_pos h)
theorem zuf_n {R : zr} {K s n c u set : Int} (h : ¬ zfd (zdp K s set) R n (14 + s) = 0) : zuf R K s n c u set = u + 0 := congrArg (fun t => u + t) (if_neg h)
theorem zwf_y {c set a e : Int} (h : zand (zshr set e) 1 = 1) : zwf c set a e = a * c := congrArg (fun t => a * t) (if_pos h)
theorem zwf_n {c set a e : Int} (h : ¬ zand (zshr set e) 1 = 1) : zwf c set a e = a * (10 - c) := congrArg (fun t => a * t) (if_neg h)
theorem zgcd_s {a b : Int} (h0 : 0 ≤ a) (h1 : 0 < b) : Int.gcd b (a % b) = Int.gcd a b := by
  obtain ⟨a', rfl⟩ := Int.eq_ofNat_of_zero_le h0
  obtain ⟨b', rfl⟩ := Int.eq_ofNat_of_zero_le (Int.le_of_lt h1)
  show Nat.gcd b' (a' % b') = Nat.gcd a' b'
  rw [Nat.gcd_comm b', ← Nat.gcd_rec, Nat.gcd_comm]
theorem zgcd_0 {a : Int} (h0 : 0 ≤ a) : ((Int.gcd a 0 : Nat) : Int) = a := by
  rw [Int.gcd_zero_right]; omega
set_option maxRecDepth 100000 in
theorem lp_drops4 {s n c w up dn : Int} (hw : 0 ≤ w ∧ w ≤ 1) (hu : 0 ≤ up ∧ up ≤ 1000000000000) (hd : 0 < dn ∧ dn ≤ 1000000000) : ∀ i : Int, 0 ≤ i → i ≤ 1000000000 → ∀ a b : Int, (0 ≤ a ∧ a ≤ 1000000000000) → (0 ≤ b ∧ b ≤ 1000000000 - i) → Int.gcd a b = Int.gcd up dn → zGi l (zc D ad L z) mX7_drops 3 247 [some (zR 178), some (zI s), some (zI n), some (zI c), some (zI w), some (zL up), none, some (zL dn), none, some (zL a), none, some (zL b), none, none, none] [] ι (zP (zI (if w = 0 then up / ((Int.gcd up dn : Nat) : Int) else dn / ((Int.gcd up dn : Nat) : Int))) ι) := by
  refine z_loopI (P := fun i => ∀ a b : Int, (0 ≤ a ∧ a ≤ 1000000000000) → (0 ≤ b ∧ b ≤ 1000000000 - i) → Int.gcd a b = Int.gcd up dn → _) (fun i h0 h1 ih a b ha hb hg => ?_)
  refine g_lload (x := b) rfl dX7_drops_247 ?_
  refine g_lconst (x := 0) (by decide) dX7_drops_249 ?_
  refine g_lcmp ⟨by omega, by omega⟩ ⟨by omega, by omega⟩ dX7_drops_250 ?_
  refine g_if_eq (zcmp_b _ _) (t := 272) dX7_drops_251 (by decide) (fun h251 => ?_) (fun h251 => ?_)
  · have hb0 : b = 0 := zcmp_eq0.1 h251
    rw [hb0] at hg
    have ea : a = ((Int.gcd up dn : Nat) : Int) := by rw [← hg, zgcd_0 ha.1]
    have hg0 : 0 < ((Int.gcd up dn : Nat) : Int) := by
      have := Int.gcd_pos_of_ne_zero_right up (show dn ≠ 0 by omega)
      omega
    refine g_iload (x := w) rfl dX7_drops_272 ?_
    refine g_if_ne ⟨by omega, by omega⟩ (t := 285) dX7_drops_274 (by decide) (fun h274 => ?_) (fun h274 => ?_)
    · refine g_lload (x := dn) rfl dX7_drops_285 ?_
      refine g_lload (x := a) rfl dX7_drops_287 ?_
      refine g_ldiv (by omega) (by omega) (by omega) (by omega) dX7_drops_289 ?_
      refine g_l2i dX7_drops_290 ?_
      exact i_iret rfl dX7_drops_291 (⟨by rw [if_neg (by omega), ← ea], rfl⟩)
    · refine g_lload (x := up) rfl dX7_drops_277 ?_
      refine g_lload (x := a) rfl dX7_drops_279 ?_
      refine g_ldiv (by omega) (by omega) (by omega) (by omega) dX7_drops_281 ?_
      refine g_goto (t := 290) dX7_drops_282 (by decide) ?_
      refine g_l2i dX7_drops_290 ?_
      exact i_iret rfl dX7_drops_291 (⟨by rw [if_pos (by omega), ← ea], rfl⟩)
  · have hbn : b ≠ 0 := fun g => h251 (zcmp_eq0.2 g)
    have m0 := Int.emod_nonneg a hbn
    have m1 := Int.emod_lt_of_pos a (show 0 < b by omega)
    refine g_lload (x := a) rfl dX7_drops_254 ?_
    refine g_lload (x := b) rfl dX7_drops_256 ?_
    refine g_lrem (by omega) (by omega) (by omega) (by omega) dX7_drops_258 ?_
    refine g_lstore (ls' := [some (zR 178), some (zI s), some (zI n), some (zI c), some (zI w), some (zL up), none, some (zL dn), none, some (zL a), none, some (zL b), none, some (zL (a % b)), none]) dX7_drops_259 (by decide) rfl ?_
    refine g_lload (x := b) rfl dX7_drops_261 ?_
    refine g_lstore (ls' := [some (zR 178), some (zI s), some (zI n), some (zI c), some (zI w), some (zL up), none, some (zL dn), none, some (zL b), none, some (zL b), none, some (zL (a % b)), none]) dX7_drops_263 (by decide) rfl ?_
    refine g_lload (x := (a % b)) rfl dX7_drops_265 ?_
    refine g_lstore (ls' := [some (zR 178), some (zI s), some (zI n), some (zI c), some (zI w), some (zL up), none, some (zL dn), none, some (zL b), none, some (zL (a % b)), none, some (zL (a % b)), none]) dX7_drops_267 (by decide) rfl ?_
    refine g_goto (t := 247) dX7_drops_269 (by decide) ?_
    have hh := ih (by omega) b (a % b) (by omega) (by omega) (by rw [zgcd_s ha.1 (by omega), hg])
    exact g_drop (by repeat' constructor) hh

set_option maxRecDepth 100000 in
theorem lp_drops3 (hT : zTM (wb 0 ι)) (hB : 0 < wb 0 ι 1) {s n c w : Int} (hs : 0 ≤ s ∧ s < wb 0 ι 0) (hn : 0 ≤ n ∧ n ≤ 8) (hc : 0 ≤ c ∧ c ≤ 10) {up dn set : Int} (hset : 0 ≤ set ∧ set ≤ 256) {Q : Option zV → zi → Prop} (hk : ∀ X, zGi l (zc D ad L z) mX7_drops 3 78 [some (zR 178), some (zI s), some (zI n), some (zI c), some (zI w), some (zL (zuf (wb 0 ι) (wb 0 ι (6 + s)) s n c up set)), none, some (zL dn), none, some (zI (set + 1)), none, none, none, none, none] [] (wp 38 X ι) Q) : ∀ e : Int, 0 ≤ e → e ≤ n → zGi l (zc D ad L z) mX7_drops 3 96 [some (zR 178), some (zI s), some (zI n), some (zI c), some (zI w), some (zL up), none, some (zL dn), none, some (zI set), some (zL (zfd (zwf c set) 1 e)), none, some (zI e), none, none] [] (wp 38 (zfd (zdp (wb 0 ι (6 + s)) s set) (wb 0 ι) e) ι) (Q) := by
  refine z_loopI (fun e h0 h1 ih => ?_)
  obtain ⟨ι1, hι1⟩ : ∃ y, y = wp 38 (zfd (zdp (wb 0 ι (6 + s)) s set) (wb 0 ι) e) ι := ⟨_, rfl⟩
  rw [← hι1]
  obtain ⟨hV, hNB, hH9⟩ := id hT
  obtain ⟨hV0, hV1, hV2, hV3, hV4, hV5, hVk, hVw⟩ := id hV
  have hk3 := hVk s hs.1 hs.2
  obtain ⟨d1, d2, d3, d4⟩ := zdp_V (wb_tz 0 ι) (K := (wb 0 ι (6 + s))) (s := s) (set := set) (by omega) hk3.2.1 h0
  have eR : wb 38 ι1 = (zfd (zdp (wb 0 ι (6 + s)) s set) (wb 0 ι) e) := by rw [hι1, wb_wp 38 d1]
  have o52 : ι1 179 (52 + s) = (zfd (zdp (wb 0 ι (6 + s)) s set) (wb 0 ι) e) (14 + s) := by rw [hι1, show 52 + s = 38 + (14 + s) by omega, wp_i 38 _ _ (by omega) (by omega)]
  have o42 : ι1 179 42 = (zfd (zdp (wb 0 ι (6 + s)) s set) (wb 0 ι) e) 4 := by rw [hι1, show (42 : Int) = 38 + 4 by decide, wp_i 38 _ _ (by decide) (by decide)]
  have o6 : ι1 179 (6 + s) = (wb 0 ι (6 + s)) := by rw [hι1, wp_o _ _ _ (by omega), w0 ι (by omega) (by omega)]
  have r1 := d4 1 (by decide) (by omega)
  have r2 := d4 2 (by decide) (by omega)
  have rw_ : ∀ b, 0 ≤ b → (zfd (zdp (wb 0 ι (6 + s)) s set) (wb 0 ι) e) (30 + b) = wb 0 ι (30 + b) := fun b g => d4 _ (by omega) (by omega)
  refine g_iload (x := e) rfl dX7_drops_96 ?_
  refine g_iload_n (x := n) rfl dX7_drops_98 ?_
  refine g_icmp_ge ⟨by omega, by omega⟩ ⟨by omega, by omega⟩ (t := 210) dX7_drops_99 (by decide) (fun h99 => ?_) (fun h99 => ?_)
  · have ee : e = n := by omega
    refine g_lload (x := up) rfl dX7_drops_210 ?_
    refine g_aload_n (x := 178) rfl dX7_drops_212 ?_
    refine g_get fgX7_7 zcl_7 (congrArg Prod.fst sh_178) (by decide) rg_178_0 dX7_drops_213 ?_
    refine g_bipush (x := 52) (by decide) dX7_drops_216 ?_
    refine g_iload_n (x := s) rfl dX7_drops_218 ?_
    refine g_iadd dX7_drops_219 ?_
    refine g_iald sh_179 (by decide) (by omega) (by omega) (by decide) ag_179 dX7_drops_220 ?_
    rw [o52]
    refine g_if_ne ⟨by omega, by omega⟩ (t := 229) dX7_drops_221 (by decide) (fun h221 => ?_) (fun h221 => ?_)
    · refine g_lconst (x := 0) (by decide) dX7_drops_229 ?_
      refine g_ladd dX7_drops_230 ?_
      refine g_nmL (fun x5 hx5 => ?_)
      refine g_lstore (ls' := [some (zR 178), some (zI s), some (zI n), some (zI c), some (zI w), some (zL x5), none, some (zL dn), none, some (zI set), some (zL (zfd (zwf c set) 1 e)), none, some (zI e), none, none]) dX7_drops_231 (by decide) rfl ?_
      refine g_iinc (x := set) (y := set + 1) (ls' := [some (zR 178), some (zI s), some (zI n), some (zI c), some (zI w), some (zL x5), none, some (zL dn), none, some (zI (set + 1)), some (zL (zfd (zwf c set) 1 e)), none, some (zI e), none, none]) dX7_drops_233 rfl (rfl) (by decide) rfl ?_
      refine g_goto (t := 78) dX7_drops_236 (by decide) ?_
      have e5 : zuf (wb 0 ι) (wb 0 ι (6 + s)) s n c up set = x5 := by
        first | exact (zuf_y (by rw [← ee]; omega)).trans (by rw [hx5, ee]) | exact (zuf_n (by rw [← ee]; omega)).trans hx5.symm
      rw [e5] at hk
      rw [hι1]
      exact g_drop (by repeat' constructor) (hk _)
    · refine g_lload (x := (zfd (zwf c set) 1 e)) rfl dX7_drops_224 ?_
      refine g_goto (t := 230) dX7_drops_226 (by decide) ?_
      refine g_ladd dX7_drops_230 ?_
      refine g_nmL (fun x5 hx5 => ?_)
      refine g_lstore (ls' := [some (zR 178), some (zI s), some (zI n), some (zI c), some (zI w), some (zL x5), none, some (zL dn), none, some (zI set), some (zL (zfd (zwf c set) 1 e)), none, some (zI e), none, none]) dX7_drops_231 (by decide) rfl ?_
      refine g_iinc (x := set) (y := set + 1) (ls' := [some (zR 178), some (zI s), some (zI n), some (zI c), some (zI w), some (zL x5), none, some (zL dn), none, some (zI (set + 1)), some (zL (zfd (zwf c set) 1 e)), none, some (zI e), none, none]) dX7_drops_233 rfl (rfl) (by decide) rfl ?_
      refine g_goto (t := 78) dX7_drops_236 (by decide) ?_
      have e5 : zuf (wb 0 ι) (wb 0 ι (6 + s)) s n c up set = x5 := by
        first | exact (zuf_y (by rw [← ee]; omega)).trans (by rw [hx5, ee]) | exact (zuf_n (by rw [← ee]; omega)).trans hx5.symm
      rw [e5] at hk
      rw [hι1]
      exact g_drop (by repeat' constructor) (hk _)
  · refine g_lload (x := (zfd (zwf c set) 1 e)) rfl dX7_drops_102 ?_
    refine g_iload (x := set) rfl dX7_drops_104 ?_
    refine g_iload (x := e) rfl dX7_drops_106 ?_
    refine i_callSp msX7_has tw_1081 (c_has) (by decide) (st' := [zL (zfd (zwf c set) 1 e)]) rfl (Nat.le_of_ble_eq_true rfl) rfl dX7_drops_108 ?_
    refine g_nm (fun b108 hq0 => ?_)
    have hb108 : ((zand (zshr set e) 1 = 1) ∧ b108 = 1) ∨ (¬ (zand (zshr set e) 1 = 1) ∧ b108 = 0) := zb_c hq0
    clear hq0
    refine g_if_eq ⟨by omega, by omega⟩ (t := 119) dX7_drops_111 (by decide) (fun h111 => ?_) (fun h111 => ?_)
    · refine g_bipush (x := 10) (by decide) dX7_drops_119 ?_
      refine g_iload_n (x := c) rfl dX7_drops_121 ?_
      refine g_isub dX7_drops_122 ?_
      refine g_i2l ⟨by omega, by omega⟩ dX7_drops_123 ?_
      refine g_lmul dX7_drops_124 ?_
      refine g_nmL (fun x10 hx10 => ?_)
      refine g_lstore (ls' := [some (zR 178), some (zI s), some (zI n), some (zI c), some (zI w), some (zL up), none, some (zL dn), none, some (zI set), some (zL x10), none, some (zI e), none, none]) dX7_drops_125 (by decide) rfl ?_
      refine g_iload (x := set) rfl dX7_drops_127 ?_
      refine g_iload (x := e) rfl dX7_drops_129 ?_
      refine i_callSp msX7_has tw_1081 (c_has) (by decide) (st' := []) rfl (Nat.le_of_ble_eq_true rfl) rfl dX7_drops_131 ?_
      refine g_nm (fun b131 hq0 => ?_)
      have hb131 : ((zand (zshr set e) 1 = 1) ∧ b131 = 1) ∨ (¬ (zand (zshr set e) 1 = 1) ∧ b131 = 0) := zb_c hq0
      clear hq0
      refine g_if_ne ⟨by omega, by omega⟩ (t := 151) dX7_drops_134 (by decide) (fun h134 => ?_) (fun h134 => ?_)
      · refine g_iconst (x := 0) rfl dX7_drops_151 ?_
        refine g_nm (fun x13 hx13 => ?_)
        refine g_istore (ls' := [some (zR 178), some (zI s), some (zI n), some (zI c), some (zI w), some (zL up), none, some (zL dn), none, some (zI set), some (zL x10), none, some (zI e), some (zI x13), none]) dX7_drops_152 (by decide) rfl ?_
        have ehd : x13 = (if zand (zshr set e) 1 = 1 then 0 else zhr (zfd (zdp (wb 0 ι (6 + s)) s set) (wb 0 ι) e) s) := by rw [← eR]; first | (rw [if_pos (by omega)]; omega) | (rw [if_neg (by omega)]; omega)
        refine g_aload_n (x := 178) rfl dX7_drops_154 ?_
        refine g_get fgX7_7 zcl_7 (congrArg Prod.fst sh_178) (by decide) rg_178_0 dX7_drops_155 ?_
        refine g_bipush (x := 52) (by decide) dX7_drops_158 ?_
        refine g_iload_n (x := s) rfl dX7_drops_160 ?_
        refine g_iadd dX7_drops_161 ?_
        refine g_aload_n (x := 178) rfl dX7_drops_162 ?_
        refine g_get fgX7_7 zcl_7 (congrArg Prod.fst sh_178) (by decide) rg_178_0 dX7_drops_163 ?_
        refine g_bipush (x := 6) (by decide) dX7_drops_166 ?_
        refine g_iload_n (x := s) rfl dX7_drops_168 ?_
        refine g_iadd dX7_drops_169 ?_
        refine g_iald sh_179 (by decide) (by omega) (by omega) (by decide) ag_179 dX7_drops_170 ?_
        refine g_aload_n (x := 178) rfl dX7_drops_171 ?_
        refine g_get fgX7_7 zcl_7 (congrArg Prod.fst sh_178) (by decide) rg_178_0 dX7_drops_172 ?_
        refine g_bipush (x := 52) (by decide) dX7_drops_175 ?_
        refine g_iload_n (x := s) rfl dX7_drops_177 ?_
        refine g_iadd dX7_drops_178 ?_
        refine g_iald sh_179 (by decide) (by omega) (by omega) (by decide) ag_179 dX7_drops_179 ?_
        refine g_iload (x := x13) rfl dX7_drops_180 ?_
        refine g_aload_n (x := 178) rfl dX7_drops_182 ?_
        refine g_get fgX7_7 zcl_7 (congrArg Prod.fst sh_178) (by decide) rg_178_0 dX7_drops_183 ?_
        refine g_bipush (x := 42) (by decide) dX7_drops_186 ?_
        refine g_iald sh_179 (by decide) (by omega) (by omega) (by decide) ag_179 dX7_drops_188 ?_
        rw [o6, o52, o42]
        refine i_callSp msX7_deepBy tw_987 (c_deepBy ⟨by omega, by omega⟩ d2 (by rw [ehd]; split; decide; unfold zhr zhf; split <;> decide) (by rw [d3]; omega)) (by decide) (st' := [zI (52 + s), zR 179]) rfl (Nat.le_of_ble_eq_true rfl) rfl dX7_drops_189 ?_
        obtain ⟨ι2, hι2⟩ : ∃ y_, y_ = iup ι1 179 (52 + s) (zdeep (wb 0 ι (6 + s)) ((zfd (zdp (wb 0 ι (6 + s)) s set) (wb 0 ι) e) (14 + s)) x13 ((zfd (zdp (wb 0 ι (6 + s)) s set) (wb 0 ι) e) 4)) := ⟨_, rfl⟩
        refine i_iast sh_179 (by decide) (by decide) (by omega) (by omega) (by decide) (ι1 := ι2) (by rw [hι2]; exact au_179) dX7_drops_192 ?_
        refine g_aload_n (x := 178) rfl dX7_drops_193 ?_
        refine g_get fgX7_7 zcl_7 (congrArg Prod.fst sh_178) (by decide) rg_178_0 dX7_drops_194 ?_
        refine g_bipush (x := 42) (by decide) dX7_drops_197 ?_
        refine g_dup2 dX7_drops_199 ?_
        refine g_iald sh_179 (by decide) (by omega) (by omega) (by decide) ag_179 dX7_drops_200 ?_
        refine g_iconst (x := 1) rfl dX7_drops_201 ?_
        refine g_iadd dX7_drops_202 ?_
        rw [show ι2 179 42 = (zfd (zdp (wb 0 ι (6 + s)) s set) (wb 0 ι) e) 4 by rw [hι2, iup_n _ (by omega), o42]]
        obtain ⟨ι3, hι3⟩ : ∃ y_, y_ = iup ι2 179 42 ((zfd (zdp (wb 0 ι (6 + s)) s set) (wb 0 ι) e 4) + 1) := ⟨_, rfl⟩
        refine i_iast sh_179 (by decide) (by decide) (by omega) (by omega) (by decide) (ι1 := ι3) (by rw [hι3]; exact au_179) dX7_drops_203 ?_
        refine g_iinc (x := e) (y := e + 1) (ls' := [some (zR 178), some (zI s), some (zI n), some (zI c), some (zI w), some (zL up), none, some (zL dn), none, some (zI set), some (zL x10), none, some (zI (e + 1)), some (zI x13), none]) dX7_drops_204 rfl (rfl) (by decide) rfl ?_
        refine g_goto (t := 96) dX7_drops_207 (by decide) ?_
        have hh := ih (by omega)
        rw [zfd_s _ _ h0, zfd_s _ _ h0, show zwf c set (zfd (zwf c set) 1 e) e = x10 by rw [hx10]; first | exact zwf_y (by omega) | exact zwf_n (by omega)] at hh
        have e3 : ι3 = wp 38 (zdp (wb 0 ι (6 + s)) s set (zfd (zdp (wb 0 ι (6 + s)) s set) (wb 0 ι) e) e) ι := by
          rw [hι3, hι2, hι1, wp_up 38 _ _ (i := 14 + s) (by omega) (by omega) (by omega), wp_up 38 _ _ (i := 4) (by decide) (by decide) (by decide), ehd]
          rfl
        rw [e3]
        exact g_drop (by repeat' constructor) hh
      · refine g_aload_n (x := 178) rfl dX7_drops_137 ?_
        refine g_bipush (x := 38) (by decide) dX7_drops_138 ?_
        refine g_iload_n (x := s) rfl dX7_drops_140 ?_
        refine i_callVp mvX7_hears tw_980 (ci := 7) (congrArg Prod.fst sh_178) rfl (by decide) (c_mHears (r := 38) (k := s) (by decide) (by omega) (by rw [eR, r1]; omega) (by rw [eR, d3]; omega) (fun b g0 g1 => by rw [eR] at g1 ⊢; rw [r1] at g1; rw [rw_ b g0]; have := hVw b g0 g1; omega) (by rw [eR, r2]; exact ⟨by omega, by omega⟩)) (by decide) (st' := []) rfl (Nat.le_of_ble_eq_true rfl) rfl dX7_drops_141 ?_
        have hz1 : zhr (wb 38 ι1) s = 0 ∨ zhr (wb 38 ι1) s = 1 := by unfold zhr zhf; split <;> simp
        refine g_if_eq ⟨by omega, by omega⟩ (t := 151) dX7_drops_144 (by decide) (fun h144 => ?_) (fun h144 => ?_)
        · refine g_iconst (x := 0) rfl dX7_drops_151 ?_
          refine g_nm (fun x13 hx13 => ?_)
          refine g_istore (ls' := [some (zR 178), some (zI s), some (zI n), some (zI c), some (zI w), some (zL up), none, some (zL dn), none, some (zI set), some (zL x10), none, some (zI e), some (zI x13), none]) dX7_drops_152 (by decide) rfl ?_
          have ehd : x13 = (if zand (zshr set e) 1 = 1 then 0 else zhr (zfd (zdp (wb 0 ι (6 + s)) s set) (wb 0 ι) e) s) := by rw [← eR]; first | (rw [if_pos (by omega)]; omega) | (rw [if_neg (by omega)]; omega)
          refine g_aload_n (x := 178) rfl dX7_drops_154 ?_
          refine g_get fgX7_7 zcl_7 (congrArg Prod.fst sh_178) (by decide) rg_178_0 dX7_drops_155 ?_
          refine g_bipush (x := 52) (by decide) dX7_drops_158 ?_
          refine g_iload_n (x := s) rfl dX7_drops_160 ?_
          refine g_iadd dX7_drops_161 ?_
          refine g_aload_n (x := 178) rfl dX7_drops_162 ?_
          refine g_get fgX7_7 zcl_7 (congrArg Prod.fst sh_178) (by decide) rg_178_0 dX7_drops_163 ?_
          refine g_bipush (x := 6) (by decide) dX7_drops_166 ?_
          refine g_iload_n (x := s) rfl dX7_drops_168 ?_
          refine g_iadd dX7_drops_169 ?_
          refine g_iald sh_179 (by decide) (by omega) (by omega) (by decide) ag_179 dX7_drops_170 ?_
          refine g_aload_n (x := 178) rfl dX7_drops_171 ?_
          refine g_get fgX7_7 zcl_7 (congrArg Prod.fst sh_178) (by decide) rg_178_0 dX7_drops_172 ?_
          refine g_bipush (x := 52) (by decide) dX7_drops_175 ?_
          refine g_iload_n (x := s) rfl dX7_drops_177 ?_
          refine g_iadd dX7_drops_178 ?_
          refine g_iald sh_179 (by decide) (by omega) (by omega) (by decide) ag_179 dX7_drops_179 ?_
          refine g_iload (x := x13) rfl dX7_drops_180 ?_
          refine g_aload_n (x := 178) rfl dX7_drops_182 ?_
          refine g_get fgX7_7 zcl_7 (congrArg Prod.fst sh_178) (by decide) rg_178_0 dX7_drops_183 ?_
          refine g_bipush (x := 42) (by decide) dX7_drops_186 ?_
          refine g_iald sh_179 (by decide) (by omega) (by omega) (by decide) ag_179 dX7_drops_188 ?_
          rw [o6, o52, o42]
          refine i_callSp msX7_deepBy tw_987 (c_deepBy ⟨by omega, by omega⟩ d2 (by rw [ehd]; split; decide; unfold zhr zhf; split <;> decide) (by rw [d3]; omega)) (by decide) (st' := [zI (52 + s), zR 179]) rfl (Nat.le_of_ble_eq_true rfl) rfl dX7_drops_189 ?_
          obtain ⟨ι2, hι2⟩ : ∃ y_, y_ = iup ι1 179 (52 + s) (zdeep (wb 0 ι (6 + s)) ((zfd (zdp (wb 0 ι (6 + s)) s set) (wb 0 ι) e) (14 + s)) x13 ((zfd (zdp (wb 0 ι (6 + s)) s set) (wb 0 ι) e) 4)) := ⟨_, rfl⟩
          refine i_iast sh_179 (by decide) (by decide) (by omega) (by omega) (by decide) (ι1 := ι2) (by rw [hι2]; exact au_179) dX7_drops_192 ?_
          refine g_aload_n (x := 178) rfl dX7_drops_193 ?_
          refine g_get fgX7_7 zcl_7 (congrArg Prod.fst sh_178) (by decide) rg_178_0 dX7_drops_194 ?_
          refine g_bipush (x := 42) (by decide) dX7_drops_197 ?_
          refine g_dup2 dX7_drops_199 ?_
          refine g_iald sh_179 (by decide) (by omega) (by omega) (by decide) ag_179 dX7_drops_200 ?_
          refine g_iconst (x := 1) rfl dX7_drops_201 ?_
          refine g_iadd dX7_drops_202 ?_
          rw [show ι2 179 42 = (zfd (zdp (wb 0 ι (6 + s)) s set) (wb 0 ι) e) 4 by rw [hι2, iup_n _ (by omega), o42]]
          obtain ⟨ι3, hι3⟩ : ∃ y_, y_ = iup ι2 179 42 ((zfd (zdp (wb 0 ι (6 + s)) s set) (wb 0 ι) e 4) + 1) := ⟨_, rfl⟩
          refine i_iast sh_179 (by decide) (by decide) (by omega) (by omega) (by decide) (ι1 := ι3) (by rw [hι3]; exact au_179) dX7_drops_203 ?_
          refine g_iinc (x := e) (y := e + 1) (ls' := [some (zR 178), some (zI s), some (zI n), some (zI c), some (zI w), some (zL up), none, some (zL dn), none, some (zI set), some (zL x10), none, some (zI (e + 1)), some (zI x13), none]) dX7_drops_204 rfl (rfl) (by decide) rfl ?_
          refine g_goto (t := 96) dX7_drops_207 (by decide) ?_
          have hh := ih (by omega)
          rw [zfd_s _ _ h0, zfd_s _ _ h0, show zwf c set (zfd (zwf c set) 1 e) e = x10 by rw [hx10]; first | exact zwf_y (by omega) | exact zwf_n (by omega)] at hh
          have e3 : ι3 = wp 38 (zdp (wb 0 ι (6 + s)) s set (zfd (zdp (wb 0 ι (6 + s)) s set) (wb 0 ι) e) e) ι := by
            rw [hι3, hι2, hι1, wp_up 38 _ _ (i := 14 + s) (by omega) (by omega) (by omega), wp_up 38 _ _ (i := 4) (by decide) (by decide) (by decide), ehd]
            rfl
          rw [e3]
          exact g_drop (by repeat' constructor) hh
        · refine g_iconst (x := 1) rfl dX7_drops_147 ?_
          refine g_goto (t := 152) dX7_drops_148 (by decide) ?_
          refine g_nm (fun x13 hx13 => ?_)
          refine g_istore (ls' := [some (zR 178), some (zI s), some (zI n), some (zI c), some (zI w), some (zL up), none, some (zL dn), none, some (zI set), some (zL x10), none, some (zI e), some (zI x13), none]) dX7_drops_152 (by decide) rfl ?_
          have ehd : x13 = (if zand (zshr set e) 1 = 1 then 0 else zhr (zfd (zdp (wb 0 ι (6 + s)) s set) (wb 0 ι) e) s) := by rw [← eR]; first | (rw [if_pos (by omega)]; omega) | (rw [if_neg (by omega)]; omega)
          refine g_aload_n (x := 178) rfl dX7_drops_154 ?_
          refine g_get fgX7_7 zcl_7 (congrArg Prod.fst sh_178) (by decide) rg_178_0 dX7_drops_155 ?_
          refine g_bipush (x := 52) (by decide) dX7_drops_158 ?_
          refine g_iload_n (x := s) rfl dX7_drops_160 ?_
          refine g_iadd dX7_drops_161 ?_
          refine g_aload_n (x := 178) rfl dX7_drops_162 ?_
          refine g_get fgX7_7 zcl_7 (congrArg Prod.fst sh_178) (by decide) rg_178_0 dX7_drops_163 ?_
          refine g_bipush (x := 6) (by decide) dX7_drops_166 ?_
          refine g_iload_n (x := s) rfl dX7_drops_168 ?_
          refine g_iadd dX7_drops_169 ?_
          refine g_iald sh_179 (by decide) (by omega) (by omega) (by decide) ag_179 dX7_drops_170 ?_
          refine g_aload_n (x := 178) rfl dX7_drops_171 ?_
          refine g_get fgX7_7 zcl_7 (congrArg Prod.fst sh_178) (by decide) rg_178_0 dX7_drops_172 ?_
          refine g_bipush (x := 52) (by decide) dX7_drops_175 ?_
          refine g_iload_n (x := s) rfl dX7_drops_177 ?_
          refine g_iadd dX7_drops_178 ?_
          refine g_iald sh_179 (by decide) (by omega) (by omega) (by decide) ag_179 dX7_drops_179 ?_
          refine g_iload (x := x13) rfl dX7_drops_180 ?_
          refine g_aload_n (x := 178) rfl dX7_drops_182 ?_
          refine g_get fgX7_7 zcl_7 (congrArg Prod.fst sh_178) (by decide) rg_178_0 dX7_drops_183 ?_
          refine g_bipush (x := 42) (by decide) dX7_drops_186 ?_
          refine g_iald sh_179 (by decide) (by omega) (by omega) (by decide) ag_179 dX7_drops_188 ?_
          rw [o6, o52, o42]
          refine i_callSp msX7_deepBy tw_987 (c_deepBy ⟨by omega, by omega⟩ d2 (by rw [ehd]; split; decide; unfold zhr zhf; split <;> decide) (by rw [d3]; omega)) (by decide) (st' := [zI (52 + s), zR 179]) rfl (Nat.le_of_ble_eq_true rfl) rfl dX7_drops_189 ?_
          obtain ⟨ι2, hι2⟩ : ∃ y_, y_ = iup ι1 179 (52 + s) (zdeep (wb 0 ι (6 + s)) ((zfd (zdp (wb 0 ι (6 + s)) s set) (wb 0 ι) e) (14 + s)) x13 ((zfd (zdp (wb 0 ι (6 + s)) s set) (wb 0 ι) e) 4)) := ⟨_, rfl⟩
          refine i_iast sh_179 (by decide) (by decide) (by omega) (by omega) (by decide) (ι1 := ι2) (by rw [hι2]; exact au_179) dX7_drops_192 ?_
          refine g_aload_n (x := 178) rfl dX7_drops_193 ?_
          refine g_get fgX7_7 zcl_7 (congrArg Prod.fst sh_178) (by decide) rg_178_0 dX7_drops_194 ?_
          refine g_bipush (x := 42) (by decide) dX7_drops_197 ?_
          refine g_dup2 dX7_drops_199 ?_
          refine g_iald sh_179 (by decide) (by omega) (by omega) (by decide) ag_179 dX7_drops_200 ?_
          refine g_iconst (x := 1) rfl dX7_drops_201 ?_
          refine g_iadd dX7_drops_202 ?_
          rw [show ι2 179 42 = (zfd (zdp (wb 0 ι (6 + s)) s set) (wb 0 ι) e) 4 by rw [hι2, iup_n _ (by omega), o42]]
          obtain ⟨ι3, hι3⟩ : ∃ y_, y_ = iup ι2 179 42 ((zfd (zdp (wb 0 ι (6 + s)) s set) (wb 0 ι) e 4) + 1) := ⟨_, rfl⟩
          refine i_iast sh_179 (by decide) (by decide) (by omega) (by omega) (by decide) (ι1 := ι3) (by rw [hι3]; exact au_179) dX7_drops_203 ?_
          refine g_iinc (x := e) (y := e + 1) (ls' := [some (zR 178), some (zI s), some (zI n), some (zI c), some (zI w), some (zL up), none, some (zL dn), none, some (zI set), some (zL x10), none, some (zI (e + 1)), some (zI x13), none]) dX7_drops_204 rfl (rfl) (by decide) rfl ?_
          refine g_goto (t := 96) dX7_drops_207 (by decide) ?_
          have hh := ih (by omega)
          rw [zfd_s _ _ h0, zfd_s _ _ h0, show zwf c set (zfd (zwf c set) 1 e) e = x10 by rw [hx10]; first | exact zwf_y (by omega) | exact zwf_n (by omega)] at hh
          have e3 : ι3 = wp 38 (zdp (wb 0 ι (6 + s)) s set (zfd (zdp (wb 0 ι (6 + s)) s set) (wb 0 ι) e) e) ι := by
            rw [hι3, hι2, hι1, wp_up 38 _ _ (i := 14 + s) (by omega) (by omega) (by omega), wp_up 38 _ _ (i := 4) (by decide) (by decide) (by decide), ehd]
            rfl
          rw [e3]
          exact g_drop (by repeat' constructor) hh
    · refine g_iload_n (x := c) rfl dX7_drops_114 ?_
      refine g_i2l ⟨by omega, by omega⟩ dX7_drops_115 ?_
      refine g_goto (t := 124) dX7_drops_116 (by decide) ?_
      refine g_lmul dX7_drops_124 ?_
      refine g_nmL (fun x10 hx10 => ?_)
      refine g_lstore (ls' := [some (zR 178), some (zI s), some (zI n), some (zI c), some (zI w), some (zL up), none, some (zL dn), none, some (zI set), some (zL x10), none, some (zI e), none, none]) dX7_drops_125 (by decide) rfl ?_
      refine g_iload (x := set) rfl dX7_drops_127 ?_
      refine g_iload (x := e) rfl dX7_drops_129 ?_
      refine i_callSp msX7_has tw_1081 (c_has) (by decide) (st' := []) rfl (Nat.le_of_ble_eq_true rfl) rfl dX7_drops_131 ?_
      refine g_nm (fun b131 hq0 => ?_)
      have hb131 : ((zand (zshr set e) 1 = 1) ∧ b131 = 1) ∨ (¬ (zand (zshr set e) 1 = 1) ∧ b131 = 0) := zb_c hq0
      clear hq0
      refine g_if_ne ⟨by omega, by omega⟩ (t := 151) dX7_drops_134 (by decide) (fun h134 => ?_) (fun h134 => ?_)
      · refine g_iconst (x := 0) rfl dX7_drops_151 ?_
        refine g_nm (fun x13 hx13 => ?_)
        refine g_istore (ls' := [some (zR 178), some (zI s), some (zI n), some (zI c), some (zI w), some (zL up), none, some (zL dn), none, some (zI set), some (zL x10), none, some (zI e), some (zI x13), none]) dX7_drops_152 (by decide) rfl ?_
        have ehd : x13 = (if zand (zshr set e) 1 = 1 then 0 else zhr (zfd (zdp (wb 0 ι (6 + s)) s set) (wb 0 ι) e) s) := by rw [← eR]; first | (rw [if_pos (by omega)]; omega) | (rw [if_neg (by omega)]; omega)
        refine g_aload_n (x := 178) rfl dX7_drops_154 ?_
        refine g_get fgX7_7 zcl_7 (congrArg Prod.fst sh_178) (by decide) rg_178_0 dX7_drops_155 ?_
        refine g_bipush (x := 52) (by decide) dX7_drops_158 ?_
        refine g_iload_n (x := s) rfl dX7_drops_160 ?_
        refine g_iadd dX7_drops_161 ?_
        refine g_aload_n (x := 178) rfl dX7_drops_162 ?_
        refine g_get fgX7_7 zcl_7 (congrArg Prod.fst sh_178) (by decide) rg_178_0 dX7_drops_163 ?_
        refine g_bipush (x := 6) (by decide) dX7_drops_166 ?_
        refine g_iload_n (x := s) rfl dX7_drops_168 ?_
        refine g_iadd dX7_drops_169 ?_
        refine g_iald sh_179 (by decide) (by omega) (by omega) (by decide) ag_179 dX7_drops_170 ?_
        refine g_aload_n (x := 178) rfl dX7_drops_171 ?_
        refine g_get fgX7_7 zcl_7 (congrArg Prod.fst sh_178) (by decide) rg_178_0 dX7_drops_172 ?_
        refine g_bipush (x := 52) (by decide) dX7_drops_175 ?_
        refine g_iload_n (x := s) rfl dX7_drops_177 ?_
        refine g_iadd dX7_drops_178 ?_
        refine g_iald sh_179 (by decide) (by omega) (by omega) (by decide) ag_179 dX7_drops_179 ?_
        refine g_iload (x := x13) rfl dX7_drops_180 ?_
        refine g_aload_n (x := 178) rfl dX7_drops_182 ?_
        refine g_get fgX7_7 zcl_7 (congrArg Prod.fst sh_178) (by decide) rg_178_0 dX7_drops_183 ?_
        refine g_bipush (x := 42) (by decide) dX7_drops_186 ?_
        refine g_iald sh_179 (by decide) (by omega) (by omega) (by decide) ag_179 dX7_drops_188 ?_
        rw [o6, o52, o42]
        refine i_callSp msX7_deepBy tw_987 (c_deepBy ⟨by omega, by omega⟩ d2 (by rw [ehd]; split; decide; unfold zhr zhf; split <;> decide) (by rw [d3]; omega)) (by decide) (st' := [zI (52 + s), zR 179]) rfl (Nat.le_of_ble_eq_true rfl) rfl dX7_drops_189 ?_
        obtain ⟨ι2, hι2⟩ : ∃ y_, y_ = iup ι1 179 (52 + s) (zdeep (wb 0 ι (6 + s)) ((zfd (zdp (wb 0 ι (6 + s)) s set) (wb 0 ι) e) (14 + s)) x13 ((zfd (zdp (wb 0 ι (6 + s)) s set) (wb 0 ι) e) 4)) := ⟨_, rfl⟩
        refine i_iast sh_179 (by decide) (by decide) (by omega) (by omega) (by decide) (ι1 := ι2) (by rw [hι2]; exact au_179) dX7_drops_192 ?_
        refine g_aload_n (x := 178) rfl dX7_drops_193 ?_
        refine g_get fgX7_7 zcl_7 (congrArg Prod.fst sh_178) (by decide) rg_178_0 dX7_drops_194 ?_
        refine g_bipush (x := 42) (by decide) dX7_drops_197 ?_
        refine g_dup2 dX7_drops_199 ?_
        refine g_iald sh_179 (by decide) (by omega) (by omega) (by decide) ag_179 dX7_drops_200 ?_
        refine g_iconst (x := 1) rfl dX7_drops_201 ?_
        refine g_iadd dX7_drops_202 ?_
        rw [show ι2 179 42 = (zfd (zdp (wb 0 ι (6 + s)) s set) (wb 0 ι) e) 4 by rw [hι2, iup_n _ (by omega), o42]]
        obtain ⟨ι3, hι3⟩ : ∃ y_, y_ = iup ι2 179 42 ((zfd (zdp (wb 0 ι (6 + s)) s set) (wb 0 ι) e 4) + 1) := ⟨_, rfl⟩
        refine i_iast sh_179 (by decide) (by decide) (by omega) (by omega) (by decide) (ι1 := ι3) (by rw [hι3]; exact au_179) dX7_drops_203 ?_
        refine g_iinc (x := e) (y := e + 1) (ls' := [some (zR 178), some (zI s), some (zI n), some (zI c), some (zI w), some (zL up), none, some (zL dn), none, some (zI set), some (zL x10), none, some (zI (e + 1)), some (zI x13), none]) dX7_drops_204 rfl (rfl) (by decide) rfl ?_
        refine g_goto (t := 96) dX7_drops_207 (by decide) ?_
        have hh := ih (by omega)
        rw [zfd_s _ _ h0, zfd_s _ _ h0, show zwf c set (zfd (zwf c set) 1 e) e = x10 by rw [hx10]; first | exact zwf_y (by omega) | exact zwf_n (by omega)] at hh
        have e3 : ι3 = wp 38 (zdp (wb 0 ι (6 + s)) s set (zfd (zdp (wb 0 ι (6 + s)) s set) (wb 0 ι) e) e) ι := by
          rw [hι3, hι2, hι1, wp_up 38 _ _ (i := 14 + s) (by omega) (by omega) (by omega), wp_up 38 _ _ (i := 4) (by decide) (by decide) (by decide), ehd]
          rfl
        rw [e3]
        exact g_drop (by repeat' constructor) hh
      · refine g_aload_n (x := 178) rfl dX7_drops_137 ?_
        refine g_bipush (x := 38) (by decide) dX7_drops_138 ?_
        refine g_iload_n (x := s) rfl dX7_drops_140 ?_
        refine i_callVp mvX7_hears tw_980 (ci := 7) (congrArg Prod.fst sh_178) rfl (by decide) (c_mHears (r := 38) (k := s) (by decide) (by omega) (by rw [eR, r1]; omega) (by rw [eR, d3]; omega) (fun b g0 g1 => by rw [eR] at g1 ⊢; rw [r1] at g1; rw [rw_ b g0]; have := hVw b g0 g1; omega) (by rw [eR, r2]; exact ⟨by omega, by omega⟩)) (by decide) (st' := []) rfl (Nat.le_of_ble_eq_true rfl) rfl dX7_drops_141 ?_
        have hz1 : zhr (wb 38 ι1) s = 0 ∨ zhr (wb 38 ι1) s = 1 := by unfold zhr zhf; split <;> simp
        refine g_if_eq ⟨by omega, by omega⟩ (t := 151) dX7_drops_144 (by decide) (fun h144 => ?_) (fun h144 => ?_)
        · refine g_iconst (x := 0) rfl dX7_drops_151 ?_
          refine g_nm (fun x13 hx13 => ?_)
          refine g_istore (ls' := [some (zR 178), some (zI s), some (zI n), some (zI c), some (zI w), some (zL up), none, some (zL dn), none, some (zI set), some (zL x10), none, some (zI e), some (zI x13), none]) dX7_drops_152 (by decide) rfl ?_
          have ehd : x13 = (if zand (zshr set e) 1 = 1 then 0 else zhr (zfd (zdp (wb 0 ι (6 + s)) s set) (wb 0 ι) e) s) := by rw [← eR]; first | (rw [if_pos (by omega)]; omega) | (rw [if_neg (by omega)]; omega)
          refine g_aload_n (x := 178) rfl dX7_drops_154 ?_
          refine g_get fgX7_7 zcl_7 (congrArg Prod.fst sh_178) (by decide) rg_178_0 dX7_drops_155 ?_
          refine g_bipush (x := 52) (by decide) dX7_drops_158 ?_
          refine g_iload_n (x := s) rfl dX7_drops_160 ?_
          refine g_iadd dX7_drops_161 ?_
          refine g_aload_n (x := 178) rfl dX7_drops_162 ?_
          refine g_get fgX7_7 zcl_7 (congrArg Prod.fst sh_178) (by decide) rg_178_0 dX7_drops_163 ?_
          refine g_bipush (x := 6) (by decide) dX7_drops_166 ?_
          refine g_iload_n (x := s) rfl dX7_drops_168 ?_
          refine g_iadd dX7_drops_169 ?_
          refine g_iald sh_179 (by decide) (by omega) (by omega) (by decide) ag_179 dX7_drops_170 ?_
          refine g_aload_n (x := 178) rfl dX7_drops_171 ?_
          refine g_get fgX7_7 zcl_7 (congrArg Prod.fst sh_178) (by decide) rg_178_0 dX7_drops_172 ?_
          refine g_bipush (x := 52) (by decide) dX7_drops_175 ?_
          refine g_iload_n (x := s) rfl dX7_drops_177 ?_
          refine g_iadd dX7_drops_178 ?_
          refine g_iald sh_179 (by decide) (by omega) (by omega) (by decide) ag_179 dX7_drops_179 ?_
          refine g_iload (x := x13) rfl dX7_drops_180 ?_
          refine g_aload_n (x := 178) rfl dX7_drops_182 ?_
          refine g_get fgX7_7 zcl_7 (congrArg Prod.fst sh_178) (by decide) rg_178_0 dX7_drops_183 ?_
          refine g_bipush (x := 42) (by decide) dX7_drops_186 ?_
          refine g_iald sh_179 (by decide) (by omega) (by omega) (by decide) ag_179 dX7_drops_188 ?_
          rw [o6, o52, o42]
          refine i_callSp msX7_deepBy tw_987 (c_deepBy ⟨by omega, by omega⟩ d2 (by rw [ehd]; split; decide; unfold zhr zhf; split <;> decide) (by rw [d3]; omega)) (by decide) (st' := [zI (52 + s), zR 179]) rfl (Nat.le_of_ble_eq_true rfl) rfl dX7_drops_189 ?_
          obtain ⟨ι2, hι2⟩ : ∃ y_, y_ = iup ι1 179 (52 + s) (zdeep (wb 0 ι (6 + s)) ((zfd (zdp (wb 0 ι (6 + s)) s set) (wb 0 ι) e) (14 + s)) x13 ((zfd (zdp (wb 0 ι (6 + s)) s set) (wb 0 ι) e) 4)) := ⟨_, rfl⟩
          refine i_iast sh_179 (by decide) (by decide) (by omega) (by omega) (by decide) (ι1 := ι2) (by rw [hι2]; exact au_179) dX7_drops_192 ?_
          refine g_aload_n (x := 178) rfl dX7_drops_193 ?_
          refine g_get fgX7_7 zcl_7 (congrArg Prod.fst sh_178) (by decide) rg_178_0 dX7_drops_194 ?_
          refine g_bipush (x := 42) (by decide) dX7_drops_197 ?_
          refine g_dup2 dX7_drops_199 ?_
          refine g_iald sh_179 (by decide) (by omega) (by omega) (by decide) ag_179 dX7_drops_200 ?_
          refine g_iconst (x := 1) rfl dX7_drops_201 ?_
          refine g_iadd dX7_drops_202 ?_
          rw [show ι2 179 42 = (zfd (zdp (wb 0 ι (6 + s)) s set) (wb 0 ι) e) 4 by rw [hι2, iup_n _ (by omega), o42]]
          obtain ⟨ι3, hι3⟩ : ∃ y_, y_ = iup ι2 179 42 ((zfd (zdp (wb 0 ι (6 + s)) s set) (wb 0 ι) e 4) + 1) := ⟨_, rfl⟩
          refine i_iast sh_179 (by decide) (by decide) (by omega) (by omega) (by decide) (ι1 := ι3) (by rw [hι3]; exact au_179) dX7_drops_203 ?_
          refine g_iinc (x := e) (y := e + 1) (ls' := [some (zR 178), some (zI s), some (zI n), some (zI c), some (zI w), some (zL up), none, some (zL dn), none, some (zI set), some (zL x10), none, some (zI (e + 1)), some (zI x13), none]) dX7_drops_204 rfl (rfl) (by decide) rfl ?_
          refine g_goto (t := 96) dX7_drops_207 (by decide) ?_
          have hh := ih (by omega)
          rw [zfd_s _ _ h0, zfd_s _ _ h0, show zwf c set (zfd (zwf c set) 1 e) e = x10 by rw [hx10]; first | exact zwf_y (by omega) | exact zwf_n (by omega)] at hh
          have e3 : ι3 = wp 38 (zdp (wb 0 ι (6 + s)) s set (zfd (zdp (wb 0 ι (6 + s)) s set) (wb 0 ι) e) e) ι := by
            rw [hι3, hι2, hι1, wp_up 38 _ _ (i := 14 + s) (by omega) (by omega) (by omega), wp_up 38 _ _ (i := 4) (by decide) (by decide) (by decide), ehd]
            rfl
          rw [e3]
          exact g_drop (by repeat' constructor) hh
        · refine g_iconst (x := 1) rfl dX7_drops_147 ?_
          refine g_goto (t := 152) dX7_drops_148 (by decide) ?_
          refine g_nm (fun x13 hx13 => ?_)
          refine g_istore (ls' := [some (zR 178), some (zI s), some (zI n), some (zI c), some (zI w), some (zL up), none, some (zL dn), none, some (zI set), some (zL x10), none, some (zI e), some (zI x13), none]) dX7_drops_152 (by decide) rfl ?_
          have ehd : x13 = (if zand (zshr set e) 1 = 1 then 0 else zhr (zfd (zdp (wb 0 ι (6 + s)) s set) (wb 0 ι) e) s) := by rw [← eR]; first | (rw [if_pos (by omega)]; omega) | (rw [if_neg (by omega)]; omega)
          refine g_aload_n (x := 178) rfl dX7_drops_154 ?_
          refine g_get fgX7_7 zcl_7 (congrArg Prod.fst sh_178) (by decide) rg_178_0 dX7_drops_155 ?_
          refine g_bipush (x := 52) (by decide) dX7_drops_158 ?_
          refine g_iload_n (x := s) rfl dX7_drops_160 ?_
          refine g_iadd dX7_drops_161 ?_
          refine g_aload_n (x := 178) rfl dX7_drops_162 ?_
          refine g_get fgX7_7 zcl_7 (congrArg Prod.fst sh_178) (by decide) rg_178_0 dX7_drops_163 ?_
          refine g_bipush (x := 6) (by decide) dX7_drops_166 ?_
          refine g_iload_n (x := s) rfl dX7_drops_168 ?_
          refine g_iadd dX7_drops_169 ?_
          refine g_iald sh_179 (by decide) (by omega) (by omega) (by decide) ag_179 dX7_drops_170 ?_
          refine g_aload_n (x := 178) rfl dX7_drops_171 ?_
          refine g_get fgX7_7 zcl_7 (congrArg Prod.fst sh_178) (by decide) rg_178_0 dX7_drops_172 ?_
          refine g_bipush (x := 52) (by decide) dX7_drops_175 ?_
          refine g_iload_n (x := s) rfl dX7_drops_177 ?_
          refine g_iadd dX7_drops_178 ?_
          refine g_iald sh_179 (by decide) (by omega) (by omega) (by decide) ag_179 dX7_drops_179 ?_
          refine g_iload (x := x13) rfl dX7_drops_180 ?_
          refine g_aload_n (x := 178) rfl dX7_drops_182 ?_
          refine g_get fgX7_7 zcl_7 (congrArg Prod.fst sh_178) (by decide) rg_178_0 dX7_drops_183 ?_
          refine g_bipush (x := 42) (by decide) dX7_drops_186 ?_
          refine g_iald sh_179 (by decide) (by omega) (by omega) (by decide) ag_179 dX7_drops_188 ?_
          rw [o6, o52, o42]
          refine i_callSp msX7_deepBy tw_987 (c_deepBy ⟨by omega, by omega⟩ d2 (by rw [ehd]; split; decide; unfold zhr zhf; split <;> decide) (by rw [d3]; omega)) (by decide) (st' := [zI (52 + s), zR 179]) rfl (Nat.le_of_ble_eq_true rfl) rfl dX7_drops_189 ?_
          obtain ⟨ι2, hι2⟩ : ∃ y_, y_ = iup ι1 179 (52 + s) (zdeep (wb 0 ι (6 + s)) ((zfd (zdp (wb 0 ι (6 + s)) s set) (wb 0 ι) e) (14 + s)) x13 ((zfd (zdp (wb 0 ι (6 + s)) s set) (wb 0 ι) e) 4)) := ⟨_, rfl⟩
          refine i_iast sh_179 (by decide) (by decide) (by omega) (by omega) (by decide) (ι1 := ι2) (by rw [hι2]; exact au_179) dX7_drops_192 ?_
          refine g_aload_n (x := 178) rfl dX7_drops_193 ?_
          refine g_get fgX7_7 zcl_7 (congrArg Prod.fst sh_178) (by decide) rg_178_0 dX7_drops_194 ?_
          refine g_bipush (x := 42) (by decide) dX7_drops_197 ?_
          refine g_dup2 dX7_drops_199 ?_
          refine g_iald sh_179 (by decide) (by omega) (by omega) (by decide) ag_179 dX7_drops_200 ?_
          refine g_iconst (x := 1) rfl dX7_drops_201 ?_
          refine g_iadd dX7_drops_202 ?_
          rw [show ι2 179 42 = (zfd (zdp (wb 0 ι (6 + s)) s set) (wb 0 ι) e) 4 by rw [hι2, iup_n _ (by omega), o42]]
          obtain ⟨ι3, hι3⟩ : ∃ y_, y_ = iup ι2 179 42 ((zfd (zdp (wb 0 ι (6 + s)) s set) (wb 0 ι) e 4) + 1) := ⟨_, rfl⟩
          refine i_iast sh_179 (by decide) (by decide) (by omega) (by omega) (by decide) (ι1 := ι3) (by rw [hι3]; exact au_179) dX7_drops_203 ?_
          refine g_iinc (x := e) (y := e + 1) (ls' := [some (zR 178), some (zI s), some (zI n), some (zI c), some (zI w), some (zL up), none, some (zL dn), none, some (zI set), some (zL x10), none, some (zI (e + 1)), some (zI x13), none]) dX7_drops_204 rfl (rfl) (by decide) rfl ?_
          refine g_goto (t := 96) dX7_drops_207 (by decide) ?_
          have hh := ih (by omega)
          rw [zfd_s _ _ h0, zfd_s _ _ h0, show zwf c set (zfd (zwf c set) 1 e) e = x10 by rw [hx10]; first | exact zwf_y (by omega) | exact zwf_n (by omega)] at hh
          have e3 : ι3 = wp 38 (zdp (wb 0 ι (6 + s)) s set (zfd (zdp (wb 0 ι (6 + s)) s set) (wb 0 ι) e) e) ι := by
            rw [hι3, hι2, hι1, wp_up 38 _ _ (i := 14 + s) (by omega) (by omega) (by omega), wp_up 38 _ _ (i := 4) (by decide) (by decide) (by decide), ehd]
            rfl
          rw [e3]
          exact g_drop (by repeat' constructor) hh

set_option maxRecDepth 100000 in
theorem lp_drops2 (hT : zTM (wb 0 ι)) (hB : 0 < wb 0 ι 1) {s n c w : Int} (hs : 0 ≤ s ∧ s < wb 0 ι 0) (hn : 0 ≤ n ∧ n ≤ 8) (hc : 0 ≤ c ∧ c ≤ 10) (hw : 0 ≤ w ∧ w ≤ 1) : ∀ set : Int, 0 ≤ set → set ≤ zshl 1 n → ∀ X, zGi l (zc D ad L z) mX7_drops 3 78 [some (zR 178), some (zI s), some (zI n), some (zI c), some (zI w), some (zL (zfd (zuf (wb 0 ι) (wb 0 ι (6 + s)) s n c) 0 set)), none, some (zL (ztn n)), none, some (zI set), none, none, none, none, none] [] (wp 38 X ι) (fun v ι' => v = some (zI (if w = 0 then zupp (wb 0 ι) (wb 0 ι (6 + s)) s n c / ((Int.gcd (zupp (wb 0 ι) (wb 0 ι (6 + s)) s n c) (ztn n) : Nat) : Int) else ztn n / ((Int.gcd (zupp (wb 0 ι) (wb 0 ι (6 + s)) s n c) (ztn n) : Nat) : Int))) ∧ zSc ι ι') := by
  refine z_loopI (P := fun set => ∀ X, _) (fun set h0 h1 ih X => ?_)
  obtain ⟨ι1, hι1⟩ : ∃ y, y = wp 38 X ι := ⟨_, rfl⟩
  rw [← hι1]
  have hsh := zshl_v hn.1 hn.2
  have htn := ztn_b hn.1 hn.2
  have hub := zuf_b (R := wb 0 ι) (K := (wb 0 ι (6 + s))) (s := s) (n := n) (c := c) hc hn h0
  have hw0 : wb 0 ι1 = wb 0 ι := by rw [hι1, wb_wpo (Or.inl (by decide))]
  refine g_iload (x := set) rfl dX7_drops_78 ?_
  refine g_iconst (x := 1) rfl dX7_drops_80 ?_
  refine g_iload_n (x := n) rfl dX7_drops_81 ?_
  refine g_ishl dX7_drops_82 ?_
  refine g_icmp_ge ⟨by omega, by omega⟩ ⟨by omega, by omega⟩ (t := 239) dX7_drops_83 (by decide) (fun h83 => ?_) (fun h83 => ?_)
  · refine g_lload (x := (zfd (zuf (wb 0 ι) (wb 0 ι (6 + s)) s n c) 0 set)) rfl dX7_drops_239 ?_
    refine g_lstore (ls' := [some (zR 178), some (zI s), some (zI n), some (zI c), some (zI w), some (zL (zfd (zuf (wb 0 ι) (wb 0 ι (6 + s)) s n c) 0 set)), none, some (zL (ztn n)), none, some (zL (zfd (zuf (wb 0 ι) (wb 0 ι (6 + s)) s n c) 0 set)), none, none, none, none, none]) dX7_drops_241 (by decide) rfl ?_
    refine g_lload (x := (ztn n)) rfl dX7_drops_243 ?_
    refine g_lstore (ls' := [some (zR 178), some (zI s), some (zI n), some (zI c), some (zI w), some (zL (zfd (zuf (wb 0 ι) (wb 0 ι (6 + s)) s n c) 0 set)), none, some (zL (ztn n)), none, some (zL (zfd (zuf (wb 0 ι) (wb 0 ι (6 + s)) s n c) 0 set)), none, some (zL (ztn n)), none, none, none]) dX7_drops_245 (by decide) rfl ?_
    have es : set = zshl 1 n := by omega
    have eu : zfd (zuf (wb 0 ι) (wb 0 ι (6 + s)) s n c) 0 set = zupp (wb 0 ι) (wb 0 ι (6 + s)) s n c := by rw [es]; rfl
    rw [eu] at hub ⊢
    have hh := lp_drops4 (l := l) (D := D) (ad := ad) (L := L) (z := z) (ι := ι1) (s := s) (n := n) (c := c) (w := w) (up := zupp (wb 0 ι) (wb 0 ι (6 + s)) s n c) (dn := ztn n) hw (by omega) (by omega) 0 (by omega) (by omega) (zupp (wb 0 ι) (wb 0 ι (6 + s)) s n c) (ztn n) (by omega) (by omega) rfl
    have hh2 := zGi_mono (Q' := fun v ι' => v = some (zI (if w = 0 then zupp (wb 0 ι) (wb 0 ι (6 + s)) s n c / ((Int.gcd (zupp (wb 0 ι) (wb 0 ι (6 + s)) s n c) (ztn n) : Nat) : Int) else ztn n / ((Int.gcd (zupp (wb 0 ι) (wb 0 ι (6 + s)) s n c) (ztn n) : Nat) : Int))) ∧ zSc ι ι') (by rintro v y ⟨hv, hy⟩; exact ⟨hv, X, by rw [hy, hι1]⟩) hh
    exact g_drop (by repeat' constructor) hh2
  · refine g_lconst (x := 1) (by decide) dX7_drops_86 ?_
    refine g_lstore (ls' := [some (zR 178), some (zI s), some (zI n), some (zI c), some (zI w), some (zL (zfd (zuf (wb 0 ι) (wb 0 ι (6 + s)) s n c) 0 set)), none, some (zL (ztn n)), none, some (zI set), some (zL 1), none, none, none, none]) dX7_drops_87 (by decide) rfl ?_
    refine g_aload_n (x := 178) rfl dX7_drops_89 ?_
    refine i_callV mvX7_tries tw_1037 (ci := 7) (congrArg Prod.fst sh_178) rfl (by decide) (c_tries) (by decide) (st' := []) rfl (Nat.le_of_ble_eq_true rfl) rfl dX7_drops_90 (fun v_1 ι2 hq_90 => ?_)
    obtain ⟨rfl, hι2⟩ := hq_90
    rw [hw0, hι1, wp_wp] at hι2
    refine g_iconst (x := 0) rfl dX7_drops_93 ?_
    refine g_istore (ls' := [some (zR 178), some (zI s), some (zI n), some (zI c), some (zI w), some (zL (zfd (zuf (wb 0 ι) (wb 0 ι (6 + s)) s n c) 0 set)), none, some (zL (ztn n)), none, some (zI set), some (zL 1), none, some (zI 0), none, none]) dX7_drops_94 (by decide) rfl ?_
    have hh := lp_drops3 (l := l) (D := D) (ad := ad) (L := L) (z := z) hT hB (w := w) hs hn hc (up := zfd (zuf (wb 0 ι) (wb 0 ι (6 + s)) s n c) 0 set) (dn := ztn n) (set := set) (by omega) (Q := fun v ι' => v = some (zI (if w = 0 then zupp (wb 0 ι) (wb 0 ι (6 + s)) s n c / ((Int.gcd (zupp (wb 0 ι) (wb 0 ι (6 + s)) s n c) (ztn n) : Nat) : Int) else ztn n / ((Int.gcd (zupp (wb 0 ι) (wb 0 ι (6 + s)) s n c) (ztn n) : Nat) : Int))) ∧ zSc ι ι') (fun X => by have hh := ih (by omega) X; rw [zfd_s _ _ h0] at hh; exact hh) 0 (by omega) (by omega)
    rw [zfd_0, zfd_0, ← hι2] at hh
    exact hh

set_option maxRecDepth 100000 in
theorem lp_drops1 (hT : zTM (wb 0 ι)) (hB : 0 < wb 0 ι 1) {s n c w : Int} (hs : 0 ≤ s ∧ s < wb 0 ι 0) (hn : 0 ≤ n ∧ n ≤ 8) (hc : 0 ≤ c ∧ c ≤ 10) (hw : 0 ≤ w ∧ w ≤ 1) : ∀ i : Int, 0 ≤ i → i ≤ n → zGi l (zc D ad L z) mX7_drops 3 55 [some (zR 178), some (zI s), some (zI n), some (zI c), some (zI w), some (zL 0), none, some (zL (ztn i)), none, some (zI i), none, none, none, none, none] [] ι (fun v ι' => v = some (zI (if w = 0 then zupp (wb 0 ι) (wb 0 ι (6 + s)) s n c / ((Int.gcd (zupp (wb 0 ι) (wb 0 ι (6 + s)) s n c) (ztn n) : Nat) : Int) else ztn n / ((Int.gcd (zupp (wb 0 ι) (wb 0 ι (6 + s)) s n c) (ztn n) : Nat) : Int))) ∧ zSc ι ι') := by
  refine z_loopI (fun i h0 h1 ih => ?_)
  refine g_iload (x := i) rfl dX7_drops_55 ?_
  refine g_iload_n (x := n) rfl dX7_drops_57 ?_
  refine g_icmp_ge ⟨by omega, by omega⟩ ⟨by omega, by omega⟩ (t := 75) dX7_drops_58 (by decide) (fun h58 => ?_) (fun h58 => ?_)
  · have ei : i = n := by omega
    rw [ei]
    refine g_iconst (x := 0) rfl dX7_drops_75 ?_
    refine g_istore (ls' := [some (zR 178), some (zI s), some (zI n), some (zI c), some (zI w), some (zL 0), none, some (zL (ztn n)), none, some (zI 0), none, none, none, none, none]) dX7_drops_76 (by decide) rfl ?_
    have hh := lp_drops2 (l := l) (D := D) (ad := ad) (L := L) (z := z) hT hB hs hn hc hw 0 (by omega) (by have := zshl_v hn.1 hn.2; omega) (wb 38 ι)
    rw [zfd_0, wp_wb] at hh
    exact hh
  · refine g_lload (x := (ztn i)) rfl dX7_drops_61 ?_
    refine g_ldc2 (x := 10) tw_1106 (by decide) dX7_drops_63 ?_
    refine g_lmul dX7_drops_66 ?_
    refine g_nmL (fun x7 hx7 => ?_)
    refine g_lstore (ls' := [some (zR 178), some (zI s), some (zI n), some (zI c), some (zI w), some (zL 0), none, some (zL x7), none, some (zI i), none, none, none, none, none]) dX7_drops_67 (by decide) rfl ?_
    refine g_iinc (x := i) (y := i + 1) (ls' := [some (zR 178), some (zI s), some (zI n), some (zI c), some (zI w), some (zL 0), none, some (zL x7), none, some (zI (i + 1)), none, none, none, none, none]) dX7_drops_69 rfl (rfl) (by decide) rfl ?_
    refine g_goto (t := 55) dX7_drops_72 (by decide) ?_
    have hh := ih (by omega)
    rw [show ztn (i + 1) = x7 by rw [hx7]; unfold ztn; rw [zfd_s _ _ h0]] at hh
    exact hh

set_option maxRecDepth 100000 in
theorem c_mDrops (hT : zTM (wb 0 ι)) {s n c w : Int} (hs : zB s) (hn : zB n) (hc : zB c) (hw : zB w) : zCi l (zc D ad L z) mX7_drops 3 [zR 178, zI s, zI n, zI c, zI w] ι (fun v ι' => v = some (zI (if ¬ ((0 ≤ s ∧ s < wb 0 ι 0) ∧ (0 ≤ n ∧ n ≤ 8) ∧ (0 ≤ c ∧ c ≤ 10) ∧ (0 ≤ w ∧ w ≤ 1)) then -1000001 else if w = 0 then zupp (wb 0 ι) (wb 0 ι (6 + s)) s n c / ((Int.gcd (zupp (wb 0 ι) (wb 0 ι (6 + s)) s n c) (ztn n) : Nat) : Int) else ztn n / ((Int.gcd (zupp (wb 0 ι) (wb 0 ι (6 + s)) s n c) (ztn n) : Nat) : Int))) ∧ zSc ι ι') := by
  refine zCt_of (by decide) (Nat.le_of_ble_eq_true rfl) 10 rfl ?_
  obtain ⟨hV, hNB, hH9⟩ := id hT
  obtain ⟨hV0, hV1, hV2, hV3, hV4, hV5, hVk, hVw⟩ := id hV
  have q0 := w0 ι (i := 0) (by decide) (by decide)
  have q1 := w0 ι (i := 1) (by decide) (by decide)
  have q2 := w0 ι (i := 2) (by decide) (by decide)
  have q4 := w0 ι (i := 4) (by decide) (by decide)
  refine g_aload_n (x := 178) rfl dX7_drops_0 ?_
  refine g_iload_n (x := s) rfl dX7_drops_1 ?_
  refine i_callVp mvX7_isStreet tw_1002 (ci := 7) (congrArg Prod.fst sh_178) rfl (by decide) (c_isStreet ⟨by omega, by omega⟩ (by omega)) (by decide) (st' := []) rfl (Nat.le_of_ble_eq_true rfl) rfl dX7_drops_2 ?_
  refine g_nm (fun b2 hq0 => ?_)
  have hb2 : ((0 ≤ s ∧ s ≤ ι 179 0 - 1) ∧ b2 = 1) ∨ (¬ (0 ≤ s ∧ s ≤ ι 179 0 - 1) ∧ b2 = 0) := zb_c hq0
  clear hq0
  refine g_if_eq ⟨by omega, by omega⟩ (t := 43) dX7_drops_5 (by decide) (fun h5 => ?_) (fun h5 => ?_)
  · refine g_ldc (x := -1000001) tw_880 (by decide) dX7_drops_43 ?_
    exact i_iret rfl dX7_drops_45 (⟨by rw [if_pos (by omega)], zSc.r ι⟩)
  · refine g_iload_n (x := n) rfl dX7_drops_8 ?_
    refine g_i2l ⟨by omega, by omega⟩ dX7_drops_9 ?_
    refine g_lconst (x := 0) (by decide) dX7_drops_10 ?_
    refine g_ldc2 (x := 8) tw_1105 (by decide) dX7_drops_11 ?_
    refine i_callSp msX7_in tw_876 (c_in ⟨by omega, by omega⟩ ⟨by omega, by omega⟩ ⟨by omega, by omega⟩) (by decide) (st' := []) rfl (Nat.le_of_ble_eq_true rfl) rfl dX7_drops_14 ?_
    refine g_nm (fun b14 hq0 => ?_)
    have hb14 : ((0 ≤ n ∧ n ≤ 8) ∧ b14 = 1) ∨ (¬ (0 ≤ n ∧ n ≤ 8) ∧ b14 = 0) := zb_c hq0
    clear hq0
    refine g_if_eq ⟨by omega, by omega⟩ (t := 43) dX7_drops_17 (by decide) (fun h17 => ?_) (fun h17 => ?_)
    · refine g_ldc (x := -1000001) tw_880 (by decide) dX7_drops_43 ?_
      exact i_iret rfl dX7_drops_45 (⟨by rw [if_pos (by omega)], zSc.r ι⟩)
    · refine g_iload_n (x := c) rfl dX7_drops_20 ?_
      refine g_i2l ⟨by omega, by omega⟩ dX7_drops_21 ?_
      refine g_lconst (x := 0) (by decide) dX7_drops_22 ?_
      refine g_ldc2 (x := 10) tw_1106 (by decide) dX7_drops_23 ?_
      refine i_callSp msX7_in tw_876 (c_in ⟨by omega, by omega⟩ ⟨by omega, by omega⟩ ⟨by omega, by omega⟩) (by decide) (st' := []) rfl (Nat.le_of_ble_eq_true rfl) rfl dX7_drops_26 ?_
      refine g_nm (fun b26 hq0 => ?_)
      have hb26 : ((0 ≤ c ∧ c ≤ 10) ∧ b26 = 1) ∨ (¬ (0 ≤ c ∧ c ≤ 10) ∧ b26 = 0) := zb_c hq0
      clear hq0
      refine g_if_eq ⟨by omega, by omega⟩ (t := 43) dX7_drops_29 (by decide) (fun h29 => ?_) (fun h29 => ?_)
      · refine g_ldc (x := -1000001) tw_880 (by decide) dX7_drops_43 ?_
        exact i_iret rfl dX7_drops_45 (⟨by rw [if_pos (by omega)], zSc.r ι⟩)
      · refine g_iload (x := w) rfl dX7_drops_32 ?_
        refine g_i2l ⟨by omega, by omega⟩ dX7_drops_34 ?_
        refine g_lconst (x := 0) (by decide) dX7_drops_35 ?_
        refine g_lconst (x := 1) (by decide) dX7_drops_36 ?_
        refine i_callSp msX7_in tw_876 (c_in ⟨by omega, by omega⟩ ⟨by omega, by omega⟩ ⟨by omega, by omega⟩) (by decide) (st' := []) rfl (Nat.le_of_ble_eq_true rfl) rfl dX7_drops_37 ?_
        refine g_nm (fun b37 hq0 => ?_)
        have hb37 : ((0 ≤ w ∧ w ≤ 1) ∧ b37 = 1) ∨ (¬ (0 ≤ w ∧ w ≤ 1) ∧ b37 = 0) := zb_c hq0
        clear hq0
        refine g_if_ne ⟨by omega, by omega⟩ (t := 46) dX7_drops_40 (by decide) (fun h40 => ?_) (fun h40 => ?_)
        · refine g_lconst (x := 0) (by decide) dX7_drops_46 ?_
          refine g_lstore (ls' := [some (zR 178), some (zI s), some (zI n), some (zI c), some (zI w), some (zL 0), none, none, none, none, none, none, none, none, none]) dX7_drops_47 (by decide) rfl ?_
          refine g_lconst (x := 1) (by decide) dX7_drops_49 ?_
          refine g_lstore (ls' := [some (zR 178), some (zI s), some (zI n), some (zI c), some (zI w), some (zL 0), none, some (zL 1), none, none, none, none, none, none, none]) dX7_drops_50 (by decide) rfl ?_
          refine g_iconst (x := 0) rfl dX7_drops_52 ?_
          refine g_istore (ls' := [some (zR 178), some (zI s), some (zI n), some (zI c), some (zI w), some (zL 0), none, some (zL 1), none, some (zI 0), none, none, none, none, none]) dX7_drops_53 (by decide) rfl ?_
          rw [if_neg (by omega)]
          exact lp_drops1 (l := l) (D := D) (ad := ad) (L := L) (z := z) hT (by omega) (s := s) (n := n) (c := c) (w := w) (by omega) (by omega) (by omega) (by omega) 0 (by omega) (by omega)
        · refine g_ldc (x := -1000001) tw_880 (by decide) dX7_drops_43 ?_
          exact i_iret rfl dX7_drops_45 (⟨by rw [if_pos (by omega)], zSc.r ι⟩)

end
