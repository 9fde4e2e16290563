section
variable {l : Launch} {D : va_G} {ad : Nat → Nat} {L z : Nat} {ι : zi}
/-! the round by which least is robbed -/
def ztrR (R : zr) (k n x : Int) : zr := pasI (zro R k x k) n
def ztsl (R : zr) (k n x : Int) : Int := R 0 - zon (zaw (fun j => ztrR R k n x (14 + j)) (R 0))
def ztf (R : zr) (k n : Int) (a : Int × Int × Int) (x : Int) : Int × Int × Int := if ztrR R k n x 5 < a.1 ∨ (ztrR R k n x 5 = a.1 ∧ a.2.1 < ztsl R k n x) then (ztrR R k n x 5, ztsl R k n x, x) else a
def ztu (R : zr) (k n m : Int) : Int × Int × Int := zfd (ztf R k n) (100000000, -1, 0) m
theorem ztf_y {R : zr} {k n x : Int} {a : Int × Int × Int} (h : ztrR R k n x 5 < a.1 ∨ (ztrR R k n x 5 = a.1 ∧ a.2.1 < ztsl R k n x)) : ztf R k n a x = (ztrR R k n x 5, ztsl R k n x, x) := if_pos h
theorem ztf_n {R : zr} {k n x : Int} {a : Int × Int × Int} (h : ¬ (ztrR R k n x 5 < a.1 ∨ (ztrR R k n x 5 = a.1 ∧ a.2.1 < ztsl R k n x))) : ztf R k n a x = a := if_neg h
theorem zpw_b {N k : Int} (hN : 1 ≤ N ∧ N ≤ 8) (hk : 0 ≤ k ∧ k ≤ 4) : 1 ≤ N ^ k.toNat ∧ N ^ k.toNat ≤ 4096 := by
  rcases (show k = 0 ∨ k = 1 ∨ k = 2 ∨ k = 3 ∨ k = 4 by omega) with h | h | h | h | h <;> subst h <;> rcases (show N = 1 ∨ N = 2 ∨ N = 3 ∨ N = 4 ∨ N = 5 ∨ N = 6 ∨ N = 7 ∨ N = 8 by omega) with h | h | h | h | h | h | h | h <;> subst h <;> decide
theorem zpw_s {N i : Int} (h : 0 ≤ i) : N ^ (i + 1).toNat = N ^ i.toNat * N := by
  rw [show (i + 1).toNat = i.toNat + 1 by omega, Int.pow_succ]
theorem zpw_d {N x i : Int} (hN : 0 < N) (h : 0 ≤ i) : x / N ^ (i + 1).toNat = x / N ^ i.toNat / N := by
  rw [zpw_s h, Int.ediv_ediv_of_nonneg (Int.le_of_lt (Int.pow_pos hN))]
theorem zpw_q {N x i : Int} (hN : 0 < N) (hx : 0 ≤ x) : 0 ≤ x / N ^ i.toNat ∧ x / N ^ i.toNat ≤ x := ⟨Int.ediv_nonneg hx (Int.le_of_lt (Int.pow_pos hN)), Int.ediv_le_self _ hx⟩
def zt5 (T : Int → Int) (ι : zi) : zi := fun a i => if a = 185 then T i else ι a i
theorem zt5_o {T : Int → Int} {ι : zi} {a : Nat} {i : Int} (h : a ≠ 185) : zt5 T ι a i = ι a i := if_neg h
theorem zt5_s {T : Int → Int} {ι : zi} {i : Int} : zt5 T ι 185 i = T i := if_pos rfl
theorem zt5_r (ι : zi) : zt5 (ι 185) ι = ι := by
  funext a i
  unfold zt5
  split
  · rename_i h; rw [h]
  · rfl
theorem zt5_up {T : Int → Int} {ι : zi} {X : zr} {e v : Int} : iup (wp 38 X (zt5 T ι)) 185 e v = wp 38 X (zt5 (fun i => if i = e then v else T i) ι) := by
  funext b y
  unfold iup
  by_cases h : b = 185 ∧ y = e
  · rw [if_pos h, wp_o _ _ _ (by omega), h.1, zt5_s, if_pos h.2]
  · rw [if_neg h]
    by_cases g : b = 185
    · rw [wp_o _ _ _ (by omega), wp_o _ _ _ (by omega), g, zt5_s, zt5_s, if_neg (by omega)]
    · unfold wp
      rw [zt5_o g, zt5_o g]
theorem zt5_wb {T : Int → Int} {ι : zi} {r : Int} : wb r (zt5 T ι) = wb r ι := by
  funext i
  unfold wb
  rw [zt5_o (by decide)]
theorem ztu_b {R : zr} (hz : tz R) (hV : zVT R) (hN : 0 < R 0) (hH : R 4 ≤ 9999) {k n : Int} (hk : 1 ≤ k ∧ k ≤ 4) (hn : 1 ≤ n ∧ n ≤ 12) (x : Int) : 0 ≤ ztrR R k n x 5 ∧ ztrR R k n x 5 ≤ 99999 ∧ -8 ≤ ztsl R k n x ∧ ztsl R k n x ≤ 8 ∧ zVT (ztrR R k n x) ∧ tz (ztrR R k n x) ∧ ztrR R k n x 0 = R 0 ∧ ztrR R k n x 1 = k ∧ ∀ e, 0 ≤ e → e < k → ztrR R k n x (30 + e) = zdi (R 0) x (k - 1 - e) := by
  obtain ⟨a1, a2, a3, a4, a5⟩ := zro_V hz hV hN (k := k) (x := x) hk
  obtain ⟨g1, g2, g3, g4, g5, g6, g7, g8, g9⟩ := pasI_V a2 a1 (n := n) (by omega) (by omega)
  have q := zon_b (zaw (fun j => ztrR R k n x (14 + j)) (R 0))
  have q0 := hV.1
  obtain ⟨v0, v1, v2, v3, v4, v5, v6, v7⟩ := id g1
  unfold ztsl
  refine ⟨v5.1, v5.2, by omega, by omega, g1, g2, by rw [ztrR, g3, a3], by rw [ztrR, g4, a4], fun e e0 e1 => ?_⟩
  rw [ztrR, g9 e e0 (by omega)]
  unfold zro
  rw [if_pos (by omega)]
  congr 1
  omega
theorem ztu_r {R : zr} (hz : tz R) (hV : zVT R) (hN : 0 < R 0) (hH : R 4 ≤ 9999) {k n : Int} (hk : 1 ≤ k ∧ k ≤ 4) (hn : 1 ≤ n ∧ n ≤ 12) {m : Int} (h0 : 0 ≤ m) : (0 ≤ (ztu R k n m).1 ∧ (ztu R k n m).1 ≤ 100000000) ∧ (-8 ≤ (ztu R k n m).2.1 ∧ (ztu R k n m).2.1 ≤ 8) ∧ (0 < m → (ztu R k n m).1 ≤ 99999) := by
  refine zfd_ind (f := ztf R k n) (P := fun i (a : Int × Int × Int) => (0 ≤ a.1 ∧ a.1 ≤ 100000000) ∧ (-8 ≤ a.2.1 ∧ a.2.1 ≤ 8) ∧ (0 < i → a.1 ≤ 99999)) (by decide) (fun i a g0 g1 ha => ?_) h0
  have q := ztu_b hz hV hN hH hk hn i
  by_cases h : ztrR R k n i 5 < a.1 ∨ (ztrR R k n i 5 = a.1 ∧ a.2.1 < ztsl R k n i)
  · rw [ztf_y h]
    exact ⟨⟨q.1, by show ztrR R k n i 5 ≤ 100000000; omega⟩, ⟨q.2.2.1, q.2.2.2.1⟩, fun _ => q.2.1⟩
  · rw [ztf_n h]
    exact ⟨ha.1, ha.2.1, fun _ => by omega⟩
set_option maxRecDepth 100000 in
theorem lp_tune3 (hT : zTM (wb 0 ι)) (hN : 0 < wb 0 ι 0) {k n j : Int} (hk : 1 ≤ k ∧ k ≤ 4) (hn : 1 ≤ n ∧ n ≤ 12) (hj : -1 ≤ j ∧ zB j) {cs a b x : Int} (hx : 0 ≤ x ∧ x ≤ 5000) {Q : Option zV → zi → Prop} (hk9 : ∀ X T, (∀ e, 0 ≤ e → e < k → T e = zdi (wb 0 ι 0) x (k - 1 - e)) → zGi l (zc D ad L z) mX7_tune 5 81 [some (zR 178), some (zI k), some (zI n), some (zI j), some (zI cs), some (zI a), some (zI b), some (zI (x + 1)), none, none, none, none] [] (wp 38 X (zt5 T ι)) Q) : ∀ i : Int, 0 ≤ i → i ≤ k → ∀ T : Int → Int, (∀ e, 0 ≤ e → e < i → T e = zdi (wb 0 ι 0) x (k - 1 - e)) → zGi l (zc D ad L z) mX7_tune 5 222 [some (zR 178), some (zI k), some (zI n), some (zI j), some (zI cs), some (zI a), some (zI b), some (zI x), none, none, none, some (zI i)] [] (wp 38 (ztrR (wb 0 ι) k n x) (zt5 T ι)) (Q) := by
  refine z_loopI (P := fun i => ∀ T : Int → Int, (∀ e, 0 ≤ e → e < i → T e = zdi (wb 0 ι 0) x (k - 1 - e)) → _) (fun i h0 h1 ih T hTe => ?_)
  obtain ⟨ι1, hι1⟩ : ∃ y, y = wp 38 (ztrR (wb 0 ι) k n x) (zt5 T ι) := ⟨_, rfl⟩
  rw [← hι1]
  obtain ⟨hV, hNB, hH9⟩ := id hT
  have hq := ztu_b (wb_tz 0 ι) hV hN hH9 hk hn x
  refine g_iload (x := i) rfl dX7_tune_222 ?_
  refine g_iload_n (x := k) rfl dX7_tune_224 ?_
  refine g_icmp_ge ⟨by omega, by omega⟩ ⟨by omega, by omega⟩ (t := 251) dX7_tune_225 (by decide) (fun h225 => ?_) (fun h225 => ?_)
  · refine g_iinc (x := x) (y := x + 1) (ls' := [some (zR 178), some (zI k), some (zI n), some (zI j), some (zI cs), some (zI a), some (zI b), some (zI (x + 1)), none, none, none, some (zI i)]) dX7_tune_251 rfl (rfl) (by decide) rfl ?_
    refine g_goto (t := 81) dX7_tune_254 (by decide) ?_
    rw [hι1]
    exact g_drop (by repeat' constructor) (hk9 _ T (fun e e0 e1 => hTe e e0 (by omega)))
  · refine g_aload_n (x := 178) rfl dX7_tune_228 ?_
    refine g_get fgX7_28 zcl_7 (congrArg Prod.fst sh_178) (by decide) rg_178_13 dX7_tune_229 ?_
    refine g_iload (x := i) rfl dX7_tune_232 ?_
    refine g_aload_n (x := 178) rfl dX7_tune_234 ?_
    refine g_get fgX7_7 zcl_7 (congrArg Prod.fst sh_178) (by decide) rg_178_0 dX7_tune_235 ?_
    refine g_bipush (x := 68) (by decide) dX7_tune_238 ?_
    refine g_iload (x := i) rfl dX7_tune_240 ?_
    refine g_iadd dX7_tune_242 ?_
    have o6 : ι1 179 (68 + i) = zdi (wb 0 ι 0) x (k - 1 - i) := by rw [hι1, show 68 + i = 38 + (30 + i) by omega, wp_i 38 _ _ (by omega) (by omega)]; exact hq.2.2.2.2.2.2.2.2 i (by omega) (by omega)
    refine g_iald sh_179 (by decide) (by omega) (by omega) (by decide) ag_179 dX7_tune_243 ?_
    rw [o6]
    obtain ⟨ι2, hι2⟩ : ∃ y_, y_ = iup ι1 185 i (zdi (wb 0 ι 0) x (k - 1 - i)) := ⟨_, rfl⟩
    refine i_iast sh_185 (by decide) (by decide) (by omega) (by omega) (by decide) (ι1 := ι2) (by rw [hι2]; exact au_185) dX7_tune_244 ?_
    refine g_iinc (x := i) (y := i + 1) (ls' := [some (zR 178), some (zI k), some (zI n), some (zI j), some (zI cs), some (zI a), some (zI b), some (zI x), none, none, none, some (zI (i + 1))]) dX7_tune_245 rfl (rfl) (by decide) rfl ?_
    refine g_goto (t := 222) dX7_tune_248 (by decide) ?_
    have hh := ih (by omega) (fun y => if y = i then zdi (wb 0 ι 0) x (k - 1 - i) else T y) (fun e e0 e1 => by
      by_cases g : e = i
      · rw [if_pos g, g]
      · rw [if_neg g]; exact hTe e e0 (by omega))
    rw [← zt5_up, ← hι1, ← hι2] at hh
    exact hh

set_option maxRecDepth 100000 in
theorem lp_tune2 (hT : zTM (wb 0 ι)) (hN : 0 < wb 0 ι 0) {k n j : Int} (hk : 1 ≤ k ∧ k ≤ 4) (hn : 1 ≤ n ∧ n ≤ 12) (hj : -1 ≤ j ∧ zB j) {cs a b x : Int} {T : Int → Int} (hx : 0 ≤ x ∧ x ≤ 5000) {Q : Option zV → zi → Prop} (hk8 : zGi l (zc D ad L z) mX7_tune 5 158 [some (zR 178), some (zI k), some (zI n), some (zI j), some (zI cs), some (zI a), some (zI b), some (zI x), none, none, none, none] [] (wp 38 (zro (wb 0 ι) k x k) (zt5 T ι)) Q) : ∀ i : Int, 0 ≤ i → i ≤ k → zGi l (zc D ad L z) mX7_tune 5 117 [some (zR 178), some (zI k), some (zI n), some (zI j), some (zI cs), some (zI a), some (zI b), some (zI x), some (zI (x / wb 0 ι 0 ^ i.toNat)), some (zI (k - 1 - i)), none, none] [] (wp 38 (zro (wb 0 ι) k x i) (zt5 T ι)) (Q) := by
  refine z_loopI (fun i h0 h1 ih => ?_)
  obtain ⟨ι1, hι1⟩ : ∃ y, y = wp 38 (zro (wb 0 ι) k x i) (zt5 T ι) := ⟨_, rfl⟩
  rw [← hι1]
  obtain ⟨hV, hNB, hH9⟩ := id hT
  have hV0 := hV.1
  have hpq := zpw_q (i := i) hN hx.1
  have o0 : ι1 179 0 = wb 0 ι 0 := by rw [hι1, wp_o _ _ _ (by omega), zt5_o (by decide), w0 ι (by decide) (by decide)]
  refine g_iload (x := (k - 1 - i)) rfl dX7_tune_117 ?_
  refine g_if_lt ⟨by omega, by omega⟩ (t := 158) dX7_tune_119 (by decide) (fun h119 => ?_) (fun h119 => ?_)
  · have ei : i = k := by omega
    rw [hι1, ei]
    exact g_drop (by repeat' constructor) hk8
  · refine g_aload_n (x := 178) rfl dX7_tune_122 ?_
    refine g_get fgX7_7 zcl_7 (congrArg Prod.fst sh_178) (by decide) rg_178_0 dX7_tune_123 ?_
    refine g_bipush (x := 68) (by decide) dX7_tune_126 ?_
    refine g_iload (x := (k - 1 - i)) rfl dX7_tune_128 ?_
    refine g_iadd dX7_tune_130 ?_
    refine g_iload (x := (x / wb 0 ι 0 ^ i.toNat)) rfl dX7_tune_131 ?_
    refine g_aload_n (x := 178) rfl dX7_tune_133 ?_
    refine g_get fgX7_7 zcl_7 (congrArg Prod.fst sh_178) (by decide) rg_178_0 dX7_tune_134 ?_
    refine g_iconst (x := 0) rfl dX7_tune_137 ?_
    refine g_iald sh_179 (by decide) (by omega) (by omega) (by decide) ag_179 dX7_tune_138 ?_
    rw [o0]
    refine g_irem (by omega) (by omega) (by omega) (by omega) dX7_tune_139 ?_
    obtain ⟨ι2, hι2⟩ : ∃ y_, y_ = iup ι1 179 (68 + (k - 1 - i)) ((x / wb 0 ι 0 ^ i.toNat) % (wb 0 ι 0)) := ⟨_, rfl⟩
    refine i_iast sh_179 (by decide) (by decide) (by omega) (by omega) (by decide) (ι1 := ι2) (by rw [hι2]; exact au_179) dX7_tune_140 ?_
    refine g_iload (x := (x / wb 0 ι 0 ^ i.toNat)) rfl dX7_tune_141 ?_
    refine g_aload_n (x := 178) rfl dX7_tune_143 ?_
    refine g_get fgX7_7 zcl_7 (congrArg Prod.fst sh_178) (by decide) rg_178_0 dX7_tune_144 ?_
    refine g_iconst (x := 0) rfl dX7_tune_147 ?_
    refine g_iald sh_179 (by decide) (by omega) (by omega) (by decide) ag_179 dX7_tune_148 ?_
    have o1 : ι2 179 0 = wb 0 ι 0 := by rw [hι2, iup_n _ (by omega), o0]
    rw [o1]
    refine g_idiv (by omega) (by omega) (by omega) (by omega) dX7_tune_149 ?_
    refine g_nm (fun x8 hx8 => ?_)
    refine g_istore (ls' := [some (zR 178), some (zI k), some (zI n), some (zI j), some (zI cs), some (zI a), some (zI b), some (zI x), some (zI x8), some (zI (k - 1 - i)), none, none]) dX7_tune_150 (by decide) rfl ?_
    refine g_iinc (x := (k - 1 - i)) (y := k - 1 - i + (-1)) (ls' := [some (zR 178), some (zI k), some (zI n), some (zI j), some (zI cs), some (zI a), some (zI b), some (zI x), some (zI x8), some (zI (k - 1 - i + (-1))), none, none]) dX7_tune_152 rfl (rfl) (by decide) rfl ?_
    refine g_goto (t := 117) dX7_tune_155 (by decide) ?_
    have hh := ih (by omega)
    rw [zpw_d hN h0, ← hx8, show k - 1 - (i + 1) = k - 1 - i + (-1) by omega] at hh
    have e3 : ι2 = wp 38 (zro (wb 0 ι) k x (i + 1)) (zt5 T ι) := by
      rw [hι2, hι1, wp_up 38 _ _ (i := 30 + (k - 1 - i)) (by omega) (by omega) (by omega), ← zro_s h0 (by omega)]
      rfl
    rw [e3]
    exact hh

set_option maxRecDepth 100000 in
theorem lp_tune4 (hT : zTM (wb 0 ι)) (hN : 0 < wb 0 ι 0) {k n j : Int} (hk : 1 ≤ k ∧ k ≤ 4) (hn : 1 ≤ n ∧ n ≤ 12) (hj : -1 ≤ j ∧ zB j) {cs x : Int} {T : Int → Int} (hx : 0 ≤ x ∧ x ≤ 5000) (hTT : 0 < x → ∀ e, 0 ≤ e → e < k → T e = zdi (wb 0 ι 0) (ztu (wb 0 ι) k n x).2.2 (k - 1 - e)) {Q : Option zV → zi → Prop} (hk9 : ∀ X T, (∀ e, 0 ≤ e → e < k → T e = zdi (wb 0 ι 0) (ztu (wb 0 ι) k n (x + 1)).2.2 (k - 1 - e)) → zGi l (zc D ad L z) mX7_tune 5 81 [some (zR 178), some (zI k), some (zI n), some (zI j), some (zI cs), some (zI (ztu (wb 0 ι) k n (x + 1)).1), some (zI (ztu (wb 0 ι) k n (x + 1)).2.1), some (zI (x + 1)), none, none, none, none] [] (wp 38 X (zt5 T ι)) Q) : zGi l (zc D ad L z) mX7_tune 5 158 [some (zR 178), some (zI k), some (zI n), some (zI j), some (zI cs), some (zI ((ztu (wb 0 ι) k n x).1)), some (zI ((ztu (wb 0 ι) k n x).2.1)), some (zI x), none, none, none, none] [] (wp 38 (zro (wb 0 ι) k x k) (zt5 T ι)) (Q) := by
  obtain ⟨ι1, hι1⟩ : ∃ y, y = wp 38 (zro (wb 0 ι) k x k) (zt5 T ι) := ⟨_, rfl⟩
  rw [← hι1]
  obtain ⟨hV, hNB, hH9⟩ := id hT
  have hV0 := hV.1
  obtain ⟨a1, a2, a3, a4, a5⟩ := zro_V (wb_tz 0 ι) hV hN (k := k) (x := x) hk
  obtain ⟨b1, b2, b3, b4, b5, b6, b7, b8, b9⟩ := ztu_b (wb_tz 0 ι) hV hN hH9 hk hn x
  have r3 := ztu_r (wb_tz 0 ι) hV hN hH9 hk hn hx.1
  have e1 : wb 38 ι1 = zro (wb 0 ι) k x k := by rw [hι1, wb_wp 38 a2]
  have e9 : ztu (wb 0 ι) k n (x + 1) = ztf (wb 0 ι) k n (ztu (wb 0 ι) k n x) x := zfd_s _ _ hx.1
  refine g_aload_n (x := 178) rfl dX7_tune_158 ?_
  refine g_iload_n (x := n) rfl dX7_tune_159 ?_
  refine i_callV mvX7_goesOn tw_1041 (ci := 7) (congrArg Prod.fst sh_178) rfl (by decide) (c_goesOn (by rw [e1]; exact a1) (by rw [e1, a4]; omega) (n := n) (by omega) (by rw [e1, a5]; omega)) (by decide) (st' := []) rfl (Nat.le_of_ble_eq_true rfl) rfl dX7_tune_160 (fun v_1 ι2 hq_160 => ?_)
  obtain ⟨rfl, hι2⟩ := hq_160
  rw [e1] at hι2
  have e3 : ι2 = wp 38 (ztrR (wb 0 ι) k n x) (zt5 T ι) := by rw [hι2, hι1, wp_wp]; rfl
  have e2 : wb 38 ι2 = ztrR (wb 0 ι) k n x := by rw [e3, wb_wp 38 b6]
  have o0 : ι2 179 0 = wb 0 ι 0 := by rw [e3, wp_o _ _ _ (by omega), zt5_o (by decide), w0 ι (by decide) (by decide)]
  have o5 : ι2 179 43 = ztrR (wb 0 ι) k n x 5 := by rw [← e2, w38 ι2 (by decide) (by decide)]; rfl
  refine g_aload_n (x := 178) rfl dX7_tune_163 ?_
  refine g_get fgX7_7 zcl_7 (congrArg Prod.fst sh_178) (by decide) rg_178_0 dX7_tune_164 ?_
  refine g_bipush (x := 43) (by decide) dX7_tune_167 ?_
  refine g_iald sh_179 (by decide) (by omega) (by omega) (by decide) ag_179 dX7_tune_169 ?_
  rw [o5]
  refine g_istore (ls' := [some (zR 178), some (zI k), some (zI n), some (zI j), some (zI cs), some (zI ((ztu (wb 0 ι) k n x).1)), some (zI ((ztu (wb 0 ι) k n x).2.1)), some (zI x), none, some (zI (ztrR (wb 0 ι) k n x 5)), none, none]) dX7_tune_170 (by decide) rfl ?_
  refine g_aload_n (x := 178) rfl dX7_tune_172 ?_
  refine g_get fgX7_7 zcl_7 (congrArg Prod.fst sh_178) (by decide) rg_178_0 dX7_tune_173 ?_
  refine g_iconst (x := 0) rfl dX7_tune_176 ?_
  refine g_iald sh_179 (by decide) (by omega) (by omega) (by decide) ag_179 dX7_tune_177 ?_
  rw [o0]
  refine g_aload_n (x := 178) rfl dX7_tune_178 ?_
  refine g_bipush (x := 38) (by decide) dX7_tune_179 ?_
  refine i_callVp mvX7_awake tw_994 (ci := 7) (congrArg Prod.fst sh_178) rfl (by decide) (c_mAwake (by decide) (by rw [e2]; exact b5.1) (fun k_ q0 q1 => by rw [e2] at q1 ⊢; have := (b5.2.2.2.2.2.2.1 k_ q0 q1).2.1; exact ⟨by omega, by omega⟩)) (by decide) (st' := [zI (wb 0 ι 0)]) rfl (Nat.le_of_ble_eq_true rfl) rfl dX7_tune_181 ?_
  refine i_callSp msX7_ones tw_1069 (c_ones) (by decide) (st' := [zI (wb 0 ι 0)]) rfl (Nat.le_of_ble_eq_true rfl) rfl dX7_tune_184 ?_
  refine g_isub dX7_tune_187 ?_
  refine g_nm (fun x10 hx10 => ?_)
  have hx10 : x10 = ztsl (wb 0 ι) k n x := by rw [hx10, e2, b7]; rfl
  refine g_istore (ls' := [some (zR 178), some (zI k), some (zI n), some (zI j), some (zI cs), some (zI ((ztu (wb 0 ι) k n x).1)), some (zI ((ztu (wb 0 ι) k n x).2.1)), some (zI x), none, some (zI (ztrR (wb 0 ι) k n x 5)), some (zI x10), none]) dX7_tune_188 (by decide) rfl ?_
  refine g_iload (x := (ztrR (wb 0 ι) k n x 5)) rfl dX7_tune_190 ?_
  refine g_iload (x := ((ztu (wb 0 ι) k n x).1)) rfl dX7_tune_192 ?_
  refine g_icmp_lt ⟨by omega, by omega⟩ ⟨by omega, by omega⟩ (t := 211) dX7_tune_194 (by decide) (fun h194 => ?_) (fun h194 => ?_)
  · refine g_iload (x := (ztrR (wb 0 ι) k n x 5)) rfl dX7_tune_211 ?_
    refine g_istore (ls' := [some (zR 178), some (zI k), some (zI n), some (zI j), some (zI cs), some (zI (ztrR (wb 0 ι) k n x 5)), some (zI ((ztu (wb 0 ι) k n x).2.1)), some (zI x), none, some (zI (ztrR (wb 0 ι) k n x 5)), some (zI x10), none]) dX7_tune_213 (by decide) rfl ?_
    refine g_iload (x := x10) rfl dX7_tune_215 ?_
    refine g_istore (ls' := [some (zR 178), some (zI k), some (zI n), some (zI j), some (zI cs), some (zI (ztrR (wb 0 ι) k n x 5)), some (zI x10), some (zI x), none, some (zI (ztrR (wb 0 ι) k n x 5)), some (zI x10), none]) dX7_tune_217 (by decide) rfl ?_
    refine g_iconst (x := 0) rfl dX7_tune_219 ?_
    refine g_istore (ls' := [some (zR 178), some (zI k), some (zI n), some (zI j), some (zI cs), some (zI (ztrR (wb 0 ι) k n x 5)), some (zI x10), some (zI x), none, some (zI (ztrR (wb 0 ι) k n x 5)), some (zI x10), some (zI 0)]) dX7_tune_220 (by decide) rfl ?_
    have hy := ztf_y (a := ztu (wb 0 ι) k n x) (R := wb 0 ι) (k := k) (n := n) (x := x) (by omega)
    rw [e9, hy] at hk9
    have hh := lp_tune3 (l := l) (D := D) (ad := ad) (L := L) (z := z) hT hN hk hn hj (cs := cs) (a := ztrR (wb 0 ι) k n x 5) (b := ztsl (wb 0 ι) k n x) (x := x) hx (Q := Q) hk9 0 (by omega) (by omega) T (fun e e0 e1 => by omega)
    rw [← e3] at hh
    rw [hx10]
    exact g_drop (by repeat' constructor) hh
  · refine g_iload (x := (ztrR (wb 0 ι) k n x 5)) rfl dX7_tune_197 ?_
    refine g_iload (x := ((ztu (wb 0 ι) k n x).1)) rfl dX7_tune_199 ?_
    refine g_icmp_ne ⟨by omega, by omega⟩ ⟨by omega, by omega⟩ (t := 251) dX7_tune_201 (by decide) (fun h201 => ?_) (fun h201 => ?_)
    · have hn_ := ztf_n (a := ztu (wb 0 ι) k n x) (R := wb 0 ι) (k := k) (n := n) (x := x) (by omega)
      rw [e9, hn_] at hk9
      rw [e3]
      refine g_iinc (x := x) (y := x + 1) (ls' := [some (zR 178), some (zI k), some (zI n), some (zI j), some (zI cs), some (zI (ztu (wb 0 ι) k n x).1), some (zI (ztu (wb 0 ι) k n x).2.1), some (zI (x + 1)), none, some (zI (ztrR (wb 0 ι) k n x 5)), some (zI x10), none]) dX7_tune_251 rfl rfl (by decide) rfl ?_
      refine g_goto (t := 81) dX7_tune_254 (by decide) ?_
      have hx0 : 0 < x := by
        rcases (show x = 0 ∨ 0 < x by omega) with g | g
        · exfalso
          have : (ztu (wb 0 ι) k n x).1 = 100000000 := by rw [g]; rfl
          omega
        · exact g
      exact g_drop (by repeat' constructor) (hk9 _ T (hTT hx0))
    · refine g_iload (x := x10) rfl dX7_tune_204 ?_
      refine g_iload (x := ((ztu (wb 0 ι) k n x).2.1)) rfl dX7_tune_206 ?_
      refine g_icmp_le ⟨by omega, by omega⟩ ⟨by omega, by omega⟩ (t := 251) dX7_tune_208 (by decide) (fun h208 => ?_) (fun h208 => ?_)
      · have hn_ := ztf_n (a := ztu (wb 0 ι) k n x) (R := wb 0 ι) (k := k) (n := n) (x := x) (by omega)
        rw [e9, hn_] at hk9
        rw [e3]
        refine g_iinc (x := x) (y := x + 1) (ls' := [some (zR 178), some (zI k), some (zI n), some (zI j), some (zI cs), some (zI (ztu (wb 0 ι) k n x).1), some (zI (ztu (wb 0 ι) k n x).2.1), some (zI (x + 1)), none, some (zI (ztrR (wb 0 ι) k n x 5)), some (zI x10), none]) dX7_tune_251 rfl rfl (by decide) rfl ?_
        refine g_goto (t := 81) dX7_tune_254 (by decide) ?_
        have hx0 : 0 < x := by
          rcases (show x = 0 ∨ 0 < x by omega) with g | g
          · exfalso
            have : (ztu (wb 0 ι) k n x).1 = 100000000 := by rw [g]; rfl
            omega
          · exact g
        exact g_drop (by repeat' constructor) (hk9 _ T (hTT hx0))
      · refine g_iload (x := (ztrR (wb 0 ι) k n x 5)) rfl dX7_tune_211 ?_
        refine g_istore (ls' := [some (zR 178), some (zI k), some (zI n), some (zI j), some (zI cs), some (zI (ztrR (wb 0 ι) k n x 5)), some (zI ((ztu (wb 0 ι) k n x).2.1)), some (zI x), none, some (zI (ztrR (wb 0 ι) k n x 5)), some (zI x10), none]) dX7_tune_213 (by decide) rfl ?_
        refine g_iload (x := x10) rfl dX7_tune_215 ?_
        refine g_istore (ls' := [some (zR 178), some (zI k), some (zI n), some (zI j), some (zI cs), some (zI (ztrR (wb 0 ι) k n x 5)), some (zI x10), some (zI x), none, some (zI (ztrR (wb 0 ι) k n x 5)), some (zI x10), none]) dX7_tune_217 (by decide) rfl ?_
        refine g_iconst (x := 0) rfl dX7_tune_219 ?_
        refine g_istore (ls' := [some (zR 178), some (zI k), some (zI n), some (zI j), some (zI cs), some (zI (ztrR (wb 0 ι) k n x 5)), some (zI x10), some (zI x), none, some (zI (ztrR (wb 0 ι) k n x 5)), some (zI x10), some (zI 0)]) dX7_tune_220 (by decide) rfl ?_
        have hy := ztf_y (a := ztu (wb 0 ι) k n x) (R := wb 0 ι) (k := k) (n := n) (x := x) (by omega)
        rw [e9, hy] at hk9
        have hh := lp_tune3 (l := l) (D := D) (ad := ad) (L := L) (z := z) hT hN hk hn hj (cs := cs) (a := ztrR (wb 0 ι) k n x 5) (b := ztsl (wb 0 ι) k n x) (x := x) hx (Q := Q) hk9 0 (by omega) (by omega) T (fun e e0 e1 => by omega)
        rw [← e3] at hh
        rw [hx10]
        exact g_drop (by repeat' constructor) hh

set_option maxRecDepth 100000 in
theorem lp_tune5 (hT : zTM (wb 0 ι)) (hN : 0 < wb 0 ι 0) {k n j : Int} (hk : 1 ≤ k ∧ k ≤ 4) (hn : 1 ≤ n ∧ n ≤ 12) (hj : -1 ≤ j ∧ zB j) : ∀ x : Int, 0 ≤ x → x ≤ (wb 0 ι 0) ^ k.toNat → ∀ (X : zr) (T : Int → Int), (0 < x → ∀ e, 0 ≤ e → e < k → T e = zdi (wb 0 ι 0) (ztu (wb 0 ι) k n x).2.2 (k - 1 - e)) → zGi l (zc D ad L z) mX7_tune 5 81 [some (zR 178), some (zI k), some (zI n), some (zI j), some (zI ((wb 0 ι 0) ^ k.toNat)), some (zI ((ztu (wb 0 ι) k n x).1)), some (zI ((ztu (wb 0 ι) k n x).2.1)), some (zI x), none, none, none, none] [] (wp 38 X (zt5 T ι)) (fun v ι' => v = some (zI (if j < 0 then (ztu (wb 0 ι) k n ((wb 0 ι 0) ^ k.toNat)).1 else if j < k then zdi (wb 0 ι 0) (ztu (wb 0 ι) k n ((wb 0 ι 0) ^ k.toNat)).2.2 (k - 1 - j) else -1000000)) ∧ ∃ X T, ι' = wp 38 X (zt5 T ι)) := by
  refine z_loopI (P := fun x => ∀ (X : zr) (T : Int → Int), (0 < x → ∀ e, 0 ≤ e → e < k → T e = zdi (wb 0 ι 0) (ztu (wb 0 ι) k n x).2.2 (k - 1 - e)) → _) (fun x h0 h1 ih X T hTT => ?_)
  obtain ⟨ι1, hι1⟩ : ∃ y, y = wp 38 X (zt5 T ι) := ⟨_, rfl⟩
  rw [← hι1]
  obtain ⟨hV, hNB, hH9⟩ := id hT
  have hV0 := hV.1
  have hpw := zpw_b (N := wb 0 ι 0) (k := k) (by omega) (by omega)
  have hw0 : wb 0 ι1 = wb 0 ι := by rw [hι1, wb_wpo (Or.inl (by decide)), zt5_wb]
  refine g_iload (x := x) rfl dX7_tune_81 ?_
  refine g_iload (x := ((wb 0 ι 0) ^ k.toNat)) rfl dX7_tune_83 ?_
  refine g_icmp_ge ⟨by omega, by omega⟩ ⟨by omega, by omega⟩ (t := 257) dX7_tune_85 (by decide) (fun h85 => ?_) (fun h85 => ?_)
  · have ex : x = wb 0 ι 0 ^ k.toNat := by omega
    refine g_iload_n (x := j) rfl dX7_tune_257 ?_
    refine g_if_ge ⟨by omega, by omega⟩ (t := 266) dX7_tune_258 (by decide) (fun h258 => ?_) (fun h258 => ?_)
    · refine g_iload_n (x := j) rfl dX7_tune_266 ?_
      refine g_iload_n (x := k) rfl dX7_tune_267 ?_
      refine g_icmp_ge ⟨by omega, by omega⟩ ⟨by omega, by omega⟩ (t := 280) dX7_tune_268 (by decide) (fun h268 => ?_) (fun h268 => ?_)
      · refine g_ldc (x := -1000000) tw_1057 (by decide) dX7_tune_280 ?_
        exact i_iret rfl dX7_tune_282 (⟨by rw [if_neg (by omega), if_neg (by omega)], X, T, hι1⟩)
      · refine g_aload_n (x := 178) rfl dX7_tune_271 ?_
        refine g_get fgX7_28 zcl_7 (congrArg Prod.fst sh_178) (by decide) rg_178_13 dX7_tune_272 ?_
        refine g_iload_n (x := j) rfl dX7_tune_275 ?_
        have o5 : ι1 185 j = zdi (wb 0 ι 0) (ztu (wb 0 ι) k n x).2.2 (k - 1 - j) := by rw [hι1, wp_o _ _ _ (Or.inl (by decide)), zt5_s]; exact hTT (by omega) j (by omega) (by omega)
        refine g_iald sh_185 (by decide) (by omega) (by omega) (by decide) ag_185 dX7_tune_276 ?_
        refine g_goto (t := 282) dX7_tune_277 (by decide) ?_
        exact i_iret rfl dX7_tune_282 (⟨by rw [if_neg (by omega), if_pos (by omega), o5, ex], X, T, hι1⟩)
    · 
      refine g_iload (x := ((ztu (wb 0 ι) k n x).1)) rfl dX7_tune_261 ?_
      refine g_goto (t := 282) dX7_tune_263 (by decide) ?_
      exact i_iret rfl dX7_tune_282 (⟨by rw [if_pos (by omega), ex], X, T, hι1⟩)
  · refine g_aload_n (x := 178) rfl dX7_tune_88 ?_
    refine i_callV mvX7_tries tw_1037 (ci := 7) (congrArg Prod.fst sh_178) rfl (by decide) (c_tries) (by decide) (st' := []) rfl (Nat.le_of_ble_eq_true rfl) rfl dX7_tune_89 (fun v_1 ι2 hq_89 => ?_)
    obtain ⟨rfl, hι2⟩ := hq_89
    rw [hw0, hι1, wp_wp] at hι2
    refine g_aload_n (x := 178) rfl dX7_tune_92 ?_
    refine g_get fgX7_7 zcl_7 (congrArg Prod.fst sh_178) (by decide) rg_178_0 dX7_tune_93 ?_
    refine g_bipush (x := 43) (by decide) dX7_tune_96 ?_
    refine g_iconst (x := 0) rfl dX7_tune_98 ?_
    obtain ⟨ι3, hι3⟩ : ∃ y_, y_ = iup ι2 179 43 0 := ⟨_, rfl⟩
    refine i_iast sh_179 (by decide) (by decide) (by omega) (by omega) (by decide) (ι1 := ι3) (by rw [hι3]; exact au_179) dX7_tune_99 ?_
    refine g_aload_n (x := 178) rfl dX7_tune_100 ?_
    refine g_get fgX7_7 zcl_7 (congrArg Prod.fst sh_178) (by decide) rg_178_0 dX7_tune_101 ?_
    refine g_bipush (x := 39) (by decide) dX7_tune_104 ?_
    refine g_iload_n (x := k) rfl dX7_tune_106 ?_
    obtain ⟨ι4, hι4⟩ : ∃ y_, y_ = iup ι3 179 39 k := ⟨_, rfl⟩
    refine i_iast sh_179 (by decide) (by decide) (by omega) (by omega) (by decide) (ι1 := ι4) (by rw [hι4]; exact au_179) dX7_tune_107 ?_
    refine g_iload (x := x) rfl dX7_tune_108 ?_
    refine g_istore (ls' := [some (zR 178), some (zI k), some (zI n), some (zI j), some (zI ((wb 0 ι 0) ^ k.toNat)), some (zI ((ztu (wb 0 ι) k n x).1)), some (zI ((ztu (wb 0 ι) k n x).2.1)), some (zI x), some (zI x), none, none, none]) dX7_tune_110 (by decide) rfl ?_
    refine g_iload_n (x := k) rfl dX7_tune_112 ?_
    refine g_iconst (x := 1) rfl dX7_tune_113 ?_
    refine g_isub dX7_tune_114 ?_
    refine g_istore (ls' := [some (zR 178), some (zI k), some (zI n), some (zI j), some (zI ((wb 0 ι 0) ^ k.toNat)), some (zI ((ztu (wb 0 ι) k n x).1)), some (zI ((ztu (wb 0 ι) k n x).2.1)), some (zI x), some (zI x), some (zI (k - 1)), none, none]) dX7_tune_115 (by decide) rfl ?_
    have e4 : ι4 = wp 38 (zro (wb 0 ι) k x 0) (zt5 T ι) := by
      rw [hι4, hι3, hι2, wp_up 38 _ _ (i := 5) (by decide) (by decide) (by decide), wp_up 38 _ _ (i := 1) (by decide) (by decide) (by decide), zro_0]
    have hh := lp_tune4 (l := l) (D := D) (ad := ad) (L := L) (z := z) hT hN hk hn hj (cs := wb 0 ι 0 ^ k.toNat) (x := x) (T := T) (by omega) hTT (Q := fun v ι' => v = some (zI (if j < 0 then (ztu (wb 0 ι) k n ((wb 0 ι 0) ^ k.toNat)).1 else if j < k then zdi (wb 0 ι 0) (ztu (wb 0 ι) k n ((wb 0 ι 0) ^ k.toNat)).2.2 (k - 1 - j) else -1000000)) ∧ ∃ X T, ι' = wp 38 X (zt5 T ι)) (fun X T hX => ih (by omega) X T (fun _ => hX))
    have hh2 := lp_tune2 (l := l) (D := D) (ad := ad) (L := L) (z := z) hT hN hk hn hj (cs := wb 0 ι 0 ^ k.toNat) (a := (ztu (wb 0 ι) k n x).1) (b := (ztu (wb 0 ι) k n x).2.1) (x := x) (T := T) (by omega) hh 0 (by omega) (by omega)
    rw [show x / wb 0 ι 0 ^ (0 : Int).toNat = x by rw [show (0 : Int).toNat = 0 from rfl, Int.pow_zero, Int.ediv_one], show k - 1 - 0 = k - 1 by omega, ← e4] at hh2
    exact hh2

set_option maxRecDepth 100000 in
theorem lp_tune1 (hT : zTM (wb 0 ι)) (hN : 0 < wb 0 ι 0) {k n j : Int} (hk : 1 ≤ k ∧ k ≤ 4) (hn : 1 ≤ n ∧ n ≤ 12) (hj : -1 ≤ j ∧ zB j) : ∀ i : Int, 0 ≤ i → i ≤ k → zGi l (zc D ad L z) mX7_tune 5 48 [some (zR 178), some (zI k), some (zI n), some (zI j), some (zI (wb 0 ι 0 ^ i.toNat)), some (zI i), none, none, none, none, none, none] [] ι (fun v ι' => v = some (zI (if j < 0 then (ztu (wb 0 ι) k n ((wb 0 ι 0) ^ k.toNat)).1 else if j < k then zdi (wb 0 ι 0) (ztu (wb 0 ι) k n ((wb 0 ι 0) ^ k.toNat)).2.2 (k - 1 - j) else -1000000)) ∧ ∃ X T, ι' = wp 38 X (zt5 T ι)) := by
  refine z_loopI (fun i h0 h1 ih => ?_)
  have o0 := w0 ι (i := 0) (by decide) (by decide)
  refine g_iload (x := i) rfl dX7_tune_48 ?_
  refine g_iload_n (x := k) rfl dX7_tune_50 ?_
  refine g_icmp_ge ⟨by omega, by omega⟩ ⟨by omega, by omega⟩ (t := 71) dX7_tune_51 (by decide) (fun h51 => ?_) (fun h51 => ?_)
  · have ei : i = k := by omega
    rw [ei]
    refine g_ldc (x := 100000000) tw_1068 (by decide) dX7_tune_71 ?_
    refine g_istore (ls' := [some (zR 178), some (zI k), some (zI n), some (zI j), some (zI (wb 0 ι 0 ^ k.toNat)), some (zI 100000000), none, none, none, none, none, none]) dX7_tune_73 (by decide) rfl ?_
    refine g_iconst (x := -1) rfl dX7_tune_75 ?_
    refine g_istore (ls' := [some (zR 178), some (zI k), some (zI n), some (zI j), some (zI (wb 0 ι 0 ^ k.toNat)), some (zI 100000000), some (zI (-1)), none, none, none, none, none]) dX7_tune_76 (by decide) rfl ?_
    refine g_iconst (x := 0) rfl dX7_tune_78 ?_
    refine g_istore (ls' := [some (zR 178), some (zI k), some (zI n), some (zI j), some (zI (wb 0 ι 0 ^ k.toNat)), some (zI 100000000), some (zI (-1)), some (zI 0), none, none, none, none]) dX7_tune_79 (by decide) rfl ?_
    have hh := lp_tune5 (l := l) (D := D) (ad := ad) (L := L) (z := z) hT hN hk hn hj 0 (by omega) (Int.le_of_lt (Int.pow_pos hN)) (wb 38 ι) (ι 185) (fun g => by omega)
    rw [zt5_r, wp_wb] at hh
    exact g_drop (by repeat' constructor) hh
  · refine g_iload (x := (wb 0 ι 0 ^ i.toNat)) rfl dX7_tune_54 ?_
    refine g_aload_n (x := 178) rfl dX7_tune_56 ?_
    refine g_get fgX7_7 zcl_7 (congrArg Prod.fst sh_178) (by decide) rg_178_0 dX7_tune_57 ?_
    refine g_iconst (x := 0) rfl dX7_tune_60 ?_
    refine g_iald sh_179 (by decide) (by omega) (by omega) (by decide) ag_179 dX7_tune_61 ?_
    rw [← o0]
    refine g_imul dX7_tune_62 ?_
    refine g_nm (fun x4 hx4 => ?_)
    refine g_istore (ls' := [some (zR 178), some (zI k), some (zI n), some (zI j), some (zI x4), some (zI i), none, none, none, none, none, none]) dX7_tune_63 (by decide) rfl ?_
    refine g_iinc (x := i) (y := i + 1) (ls' := [some (zR 178), some (zI k), some (zI n), some (zI j), some (zI x4), some (zI (i + 1)), none, none, none, none, none, none]) dX7_tune_65 rfl (rfl) (by decide) rfl ?_
    refine g_goto (t := 48) dX7_tune_68 (by decide) ?_
    have hh := ih (by omega)
    rw [zpw_s h0, ← hx4] at hh
    exact hh

set_option maxRecDepth 100000 in
theorem c_mTune (hT : zTM (wb 0 ι)) {k n j : Int} (hk : zB k) (hn : zB n) (hj : zB j) : zCi l (zc D ad L z) mX7_tune 5 [zR 178, zI k, zI n, zI j] ι (fun v ι' => v = some (zI (if ¬ (0 < wb 0 ι 0) then -1000002 else if ¬ ((1 ≤ k ∧ k ≤ 4) ∧ (1 ≤ n ∧ n ≤ 12) ∧ -1 ≤ j) then -1000001 else if j < 0 then (ztu (wb 0 ι) k n ((wb 0 ι 0) ^ k.toNat)).1 else if j < k then zdi (wb 0 ι 0) (ztu (wb 0 ι) k n ((wb 0 ι 0) ^ k.toNat)).2.2 (k - 1 - j) else -1000000)) ∧ ∃ X T, ι' = wp 38 X (zt5 T ι)) := by
  refine zCt_of (by decide) (Nat.le_of_ble_eq_true rfl) 8 rfl ?_
  obtain ⟨hV, hNB, hH9⟩ := id hT
  obtain ⟨hV0, hV1, hV2, hV3, hV4, hV5, hVk, hVw⟩ := id hV
  have q0 := w0 ι (i := 0) (by decide) (by decide)
  have q1 := w0 ι (i := 1) (by decide) (by decide)
  have q2 := w0 ι (i := 2) (by decide) (by decide)
  have q4 := w0 ι (i := 4) (by decide) (by decide)
  refine g_aload_n (x := 178) rfl dX7_tune_0 ?_
  refine i_callVp mvX7_isTown tw_962 (ci := 7) (congrArg Prod.fst sh_178) rfl (by decide) (c_isTown (by omega)) (by decide) (st' := []) rfl (Nat.le_of_ble_eq_true rfl) rfl dX7_tune_1 ?_
  refine g_nm (fun b1 hq0 => ?_)
  have hb1 : ((0 < ι 179 0) ∧ b1 = 1) ∨ (¬ (0 < ι 179 0) ∧ b1 = 0) := zb_c hq0
  clear hq0
  refine g_if_ne ⟨by omega, by omega⟩ (t := 10) dX7_tune_4 (by decide) (fun h4 => ?_) (fun h4 => ?_)
  · refine g_iload_n (x := k) rfl dX7_tune_10 ?_
    refine g_i2l ⟨by omega, by omega⟩ dX7_tune_11 ?_
    refine g_lconst (x := 1) (by decide) dX7_tune_12 ?_
    refine g_ldc2 (x := 4) tw_1066 (by decide) dX7_tune_13 ?_
    refine i_callSp msX7_in tw_876 (c_in ⟨by omega, by omega⟩ ⟨by omega, by omega⟩ ⟨by omega, by omega⟩) (by decide) (st' := []) rfl (Nat.le_of_ble_eq_true rfl) rfl dX7_tune_16 ?_
    refine g_nm (fun b16 hq0 => ?_)
    have hb16 : ((1 ≤ k ∧ k ≤ 4) ∧ b16 = 1) ∨ (¬ (1 ≤ k ∧ k ≤ 4) ∧ b16 = 0) := zb_c hq0
    clear hq0
    refine g_if_eq ⟨by omega, by omega⟩ (t := 39) dX7_tune_19 (by decide) (fun h19 => ?_) (fun h19 => ?_)
    · refine g_ldc (x := -1000001) tw_880 (by decide) dX7_tune_39 ?_
      exact i_iret rfl dX7_tune_41 (⟨by rw [if_neg (by omega), if_pos (by omega)], wb 38 ι, ι 185, by rw [zt5_r, wp_wb]⟩)
    · refine g_iload_n (x := n) rfl dX7_tune_22 ?_
      refine g_i2l ⟨by omega, by omega⟩ dX7_tune_23 ?_
      refine g_lconst (x := 1) (by decide) dX7_tune_24 ?_
      refine g_ldc2 (x := 12) tw_1067 (by decide) dX7_tune_25 ?_
      refine i_callSp msX7_in tw_876 (c_in ⟨by omega, by omega⟩ ⟨by omega, by omega⟩ ⟨by omega, by omega⟩) (by decide) (st' := []) rfl (Nat.le_of_ble_eq_true rfl) rfl dX7_tune_28 ?_
      refine g_nm (fun b28 hq0 => ?_)
      have hb28 : ((1 ≤ n ∧ n ≤ 12) ∧ b28 = 1) ∨ (¬ (1 ≤ n ∧ n ≤ 12) ∧ b28 = 0) := zb_c hq0
      clear hq0
      refine g_if_eq ⟨by omega, by omega⟩ (t := 39) dX7_tune_31 (by decide) (fun h31 => ?_) (fun h31 => ?_)
      · refine g_ldc (x := -1000001) tw_880 (by decide) dX7_tune_39 ?_
        exact i_iret rfl dX7_tune_41 (⟨by rw [if_neg (by omega), if_pos (by omega)], wb 38 ι, ι 185, by rw [zt5_r, wp_wb]⟩)
      · refine g_iload_n (x := j) rfl dX7_tune_34 ?_
        refine g_iconst (x := -1) rfl dX7_tune_35 ?_
        refine g_icmp_ge ⟨by omega, by omega⟩ (by decide) (t := 42) dX7_tune_36 (by decide) (fun h36 => ?_) (fun h36 => ?_)
        · refine g_iconst (x := 1) rfl dX7_tune_42 ?_
          refine g_istore (ls' := [some (zR 178), some (zI k), some (zI n), some (zI j), some (zI 1), none, none, none, none, none, none, none]) dX7_tune_43 (by decide) rfl ?_
          refine g_iconst (x := 0) rfl dX7_tune_45 ?_
          refine g_istore (ls' := [some (zR 178), some (zI k), some (zI n), some (zI j), some (zI 1), some (zI 0), none, none, none, none, none, none]) dX7_tune_46 (by decide) rfl ?_
          rw [if_neg (by omega), if_neg (by omega)]
          have hh := lp_tune1 (l := l) (D := D) (ad := ad) (L := L) (z := z) hT (by omega) (k := k) (n := n) (j := j) (by omega) (by omega) ⟨by omega, hj⟩ 0 (by omega) (by omega)
          rw [show wb 0 ι 0 ^ (0 : Int).toNat = 1 from Int.pow_zero _] at hh
          exact hh
        · refine g_ldc (x := -1000001) tw_880 (by decide) dX7_tune_39 ?_
          exact i_iret rfl dX7_tune_41 (⟨by rw [if_neg (by omega), if_pos (by omega)], wb 38 ι, ι 185, by rw [zt5_r, wp_wb]⟩)
  · refine g_ldc (x := -1000002) tw_966 (by decide) dX7_tune_7 ?_
    exact i_iret rfl dX7_tune_9 (⟨by rw [if_pos (by omega)], wb 38 ι, ι 185, by rw [zt5_r, wp_wb]⟩)

end
