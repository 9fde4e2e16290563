section
variable {l : Launch} {D : va_G} {ad : Nat → Nat} {L z : Nat} {ι : zi}
/-! folds -/
def zfdN {α : Type} (f : α → Int → α) (s : α) : Nat → α
  | 0 => s
  | n + 1 => f (zfdN f s n) n
def zfd {α : Type} (f : α → Int → α) (s : α) (n : Int) : α := zfdN f s n.toNat
theorem zfd_0 {α : Type} (f : α → Int → α) (s : α) : zfd f s 0 = s := rfl
theorem zfd_s {α : Type} (f : α → Int → α) (s : α) {n : Int} (h : 0 ≤ n) : zfd f s (n + 1) = f (zfd f s n) n := by
  unfold zfd
  rw [show (n + 1).toNat = n.toNat + 1 by omega, zfdN, show ((n.toNat : Nat) : Int) = n by omega]
theorem zfd_ind {α : Type} {f : α → Int → α} {P : Int → α → Prop} {s : α} (h0 : P 0 s) {n : Int} (hs : ∀ i x, 0 ≤ i → i < n → P i x → P (i + 1) (f x i)) (hn : 0 ≤ n) : P n (zfd f s n) := by
  have key : ∀ k : Nat, (k : Int) ≤ n → P k (zfdN f s k) := by
    intro k
    induction k with
    | zero => intro _; exact h0
    | succ k ih => intro hk; exact hs k _ (by omega) (by omega) (ih (by omega))
  have := key n.toNat (by omega)
  rw [show ((n.toNat : Nat) : Int) = n by omega] at this
  exact this
/-! another beat -/
def zim (R : zr) (n b k : Int) : Int := pasI (ru (ru R 5 0) (30 + b) k) n 5
def zss (f : Int → Int → Int) (b : Int) (s : Int × Int) (k : Int) : Int × Int := if f b k < s.2 then (10 * b + k, f b k) else s
theorem zss_y {f : Int → Int → Int} {b k : Int} {s : Int × Int} (h : f b k < s.2) : zss f b s k = (10 * b + k, f b k) := if_pos h
theorem zss_n {f : Int → Int → Int} {b k : Int} {s : Int × Int} (h : ¬ f b k < s.2) : zss f b s k = s := if_neg h
def zsf (f : Int → Int → Int) (s : Int × Int) (N B : Int) : Int × Int := zfd (fun s b => zfd (zss f b) s N) s B
theorem zss_b {f : Int → Int → Int} {b N M : Int} {s : Int × Int} (hb : 0 ≤ b ∧ b ≤ 8) (hN : 0 ≤ N ∧ N ≤ 8) (hf : ∀ k, 0 ≤ k → k < N → 0 ≤ f b k) (hs : (s.1 = -1000000 ∨ (0 ≤ s.1 ∧ s.1 ≤ 100)) ∧ 0 ≤ s.2 ∧ s.2 ≤ M) : ((zfd (zss f b) s N).1 = -1000000 ∨ (0 ≤ (zfd (zss f b) s N).1 ∧ (zfd (zss f b) s N).1 ≤ 100)) ∧ 0 ≤ (zfd (zss f b) s N).2 ∧ (zfd (zss f b) s N).2 ≤ M := by
  refine zfd_ind (P := fun _ (s : Int × Int) => (s.1 = -1000000 ∨ (0 ≤ s.1 ∧ s.1 ≤ 100)) ∧ 0 ≤ s.2 ∧ s.2 ≤ M) hs (fun i x g0 g1 hx => ?_) hN.1
  have hfi := hf i g0 g1
  simp only [zss]
  split
  · simp only []
    omega
  · exact hx
theorem zsf_b {f : Int → Int → Int} {N B M : Int} {s : Int × Int} (hB : 0 ≤ B ∧ B ≤ 8) (hN : 0 ≤ N ∧ N ≤ 8) (hf : ∀ b, 0 ≤ b → b < B → ∀ k, 0 ≤ k → k < N → 0 ≤ f b k) (hs : (s.1 = -1000000 ∨ (0 ≤ s.1 ∧ s.1 ≤ 100)) ∧ 0 ≤ s.2 ∧ s.2 ≤ M) : ((zsf f s N B).1 = -1000000 ∨ (0 ≤ (zsf f s N B).1 ∧ (zsf f s N B).1 ≤ 100)) ∧ 0 ≤ (zsf f s N B).2 ∧ (zsf f s N B).2 ≤ M := by
  refine zfd_ind (f := fun s b => zfd (zss f b) s N) (P := fun _ (s : Int × Int) => (s.1 = -1000000 ∨ (0 ≤ s.1 ∧ s.1 ≤ 100)) ∧ 0 ≤ s.2 ∧ s.2 ≤ M) hs (fun i x g0 g1 hx => ?_) hB.1
  exact zss_b (by omega) hN (hf i g0 g1) hx
theorem zim_V {R : zr} (hz : tz R) (hV : zVT R) {n b k : Int} (hn : 0 ≤ n ∧ n ≤ 30) (h4 : R 4 ≤ 9999) (hb : 0 ≤ b ∧ b < 8) (hk : 0 ≤ k ∧ k < R 0) : zVT (ru (ru R 5 0) (30 + b) k) ∧ tz (ru (ru R 5 0) (30 + b) k) ∧ ru (ru R 5 0) (30 + b) k 1 = R 1 ∧ ru (ru R 5 0) (30 + b) k 4 = R 4 ∧ 0 ≤ zim R n b k ∧ zim R n b k ≤ 99999 := by
  have f1 : zVT (ru (ru R 5 0) (30 + b) k) := zVT_w (zVT_5 hV (by decide)) hb (by rw [ru_n _ (by omega)]; exact hk)
  have f2 : tz (ru (ru R 5 0) (30 + b) k) := ru_tz (ru_tz hz (by decide) (by decide)) (by omega) (by omega)
  have f4 : ru (ru R 5 0) (30 + b) k 4 = R 4 := by rw [ru_n _ (by omega), ru_n _ (by omega)]
  obtain ⟨g1, -⟩ := pasI_V f2 f1 (n := n) (by omega) (by omega)
  exact ⟨f1, f2, by rw [ru_n _ (by omega), ru_n _ (by omega)], f4, g1.2.2.2.2.2.1⟩
set_option maxRecDepth 100000 in
theorem lp_shift1 (hT : zTM (wb 0 ι)) (hB : 0 < wb 0 ι 1) {n w : Int} (hn : 1 ≤ n ∧ n ≤ 30) {b : Int} (hb : 0 ≤ b ∧ b < wb 0 ι 1) {s : Int × Int} (hs : (s.1 = -1000000 ∨ (0 ≤ s.1 ∧ s.1 ≤ 100)) ∧ 0 ≤ s.2 ∧ s.2 ≤ 99999) {Q : Option zV → zi → Prop} (hk : ∀ X, zGi l (zc D ad L z) mX7_shift 5 67 [some (zR 178), some (zI n), some (zI w), some (zI (zfd (zss (zim (wb 0 ι) n) b) s (wb 0 ι 0)).2), some (zI (zfd (zss (zim (wb 0 ι) n) b) s (wb 0 ι 0)).1), some (zI (b + 1)), none, none] [] (wp 38 X ι) Q) : ∀ k : Int, 0 ≤ k → k ≤ wb 0 ι 0 → ∀ X, zGi l (zc D ad L z) mX7_shift 5 81 [some (zR 178), some (zI n), some (zI w), some (zI ((zfd (zss (zim (wb 0 ι) n) b) s k).2)), some (zI ((zfd (zss (zim (wb 0 ι) n) b) s k).1)), some (zI b), some (zI k), none] [] (wp 38 X ι) (Q) := by
  refine z_loopI (P := fun k => ∀ X, _) (fun k h0 h1 ih X => ?_)
  obtain ⟨ι1, hι1⟩ : ∃ y, y = wp 38 X ι := ⟨_, rfl⟩
  rw [← hι1]
  obtain ⟨hV, hNB, hH9⟩ := id hT
  have hV0 := hV.1
  have hV1 := hV.2.1
  have hw0 : wb 0 ι1 = wb 0 ι := by rw [hι1, wb_wpo (Or.inl (by decide))]
  have o0 : ι1 179 0 = wb 0 ι 0 := by rw [← hw0, w0 ι1 (by decide) (by decide)]
  refine g_iload (x := k) rfl dX7_shift_81 ?_
  refine g_aload_n (x := 178) rfl dX7_shift_83 ?_
  refine g_get fgX7_7 zcl_7 (congrArg Prod.fst sh_178) (by decide) rg_178_0 dX7_shift_84 ?_
  refine g_iconst (x := 0) rfl dX7_shift_87 ?_
  refine g_iald sh_179 (by decide) (by omega) (by omega) (by decide) ag_179 dX7_shift_88 ?_
  rw [o0]
  refine g_icmp_ge ⟨by omega, by omega⟩ ⟨by omega, by omega⟩ (t := 170) dX7_shift_89 (by decide) (fun h89 => ?_) (fun h89 => ?_)
  · refine g_iinc (x := b) (y := b + 1) (ls' := [some (zR 178), some (zI n), some (zI w), some (zI ((zfd (zss (zim (wb 0 ι) n) b) s k).2)), some (zI ((zfd (zss (zim (wb 0 ι) n) b) s k).1)), some (zI (b + 1)), some (zI k), none]) dX7_shift_170 rfl (rfl) (by decide) rfl ?_
    refine g_goto (t := 67) dX7_shift_173 (by decide) ?_
    rw [show k = wb 0 ι 0 by omega, hι1]
    exact g_drop (by repeat' constructor) (hk X)
  · obtain ⟨f1, f2, f3, f4, f5⟩ := zim_V (wb_tz 0 ι) hV (n := n) (b := b) (k := k) (by omega) hH9 (by omega) (by omega)
    have hsb := zss_b (f := (zim (wb 0 ι) n)) (b := b) (N := k) (M := 99999) (s := s) (by omega) (by omega) (fun j g0 g1 => (zim_V (wb_tz 0 ι) hV (n := n) (b := b) (k := j) (by omega) hH9 (by omega) (by omega)).2.2.2.2.1) hs
    obtain ⟨le, hle⟩ : ∃ y_, y_ = (zfd (zss (zim (wb 0 ι) n) b) s k).2 := ⟨_, rfl⟩
    obtain ⟨be, hbe⟩ : ∃ y_, y_ = (zfd (zss (zim (wb 0 ι) n) b) s k).1 := ⟨_, rfl⟩
    refine g_aload_n (x := 178) rfl dX7_shift_92 ?_
    refine i_callV mvX7_tries tw_1037 (ci := 7) (congrArg Prod.fst sh_178) rfl (by decide) (c_tries) (by decide) (st' := []) rfl (Nat.le_of_ble_eq_true rfl) rfl dX7_shift_93 (fun v_1 ι2 hq_93 => ?_)
    obtain ⟨rfl, hι2⟩ := hq_93
    refine g_aload_n (x := 178) rfl dX7_shift_96 ?_
    refine g_get fgX7_7 zcl_7 (congrArg Prod.fst sh_178) (by decide) rg_178_0 dX7_shift_97 ?_
    refine g_bipush (x := 43) (by decide) dX7_shift_100 ?_
    refine g_iconst (x := 0) rfl dX7_shift_102 ?_
    obtain ⟨ι3, hι3⟩ : ∃ y_, y_ = iup ι2 179 43 0 := ⟨_, rfl⟩
    refine i_iast sh_179 (by decide) (by decide) (by omega) (by omega) (by decide) (ι1 := ι3) (by rw [hι3]; exact au_179) dX7_shift_103 ?_
    refine g_aload_n (x := 178) rfl dX7_shift_104 ?_
    refine g_get fgX7_7 zcl_7 (congrArg Prod.fst sh_178) (by decide) rg_178_0 dX7_shift_105 ?_
    refine g_bipush (x := 68) (by decide) dX7_shift_108 ?_
    refine g_iload (x := b) rfl dX7_shift_110 ?_
    refine g_iadd dX7_shift_112 ?_
    refine g_iload (x := k) rfl dX7_shift_113 ?_
    obtain ⟨ι4, hι4⟩ : ∃ y_, y_ = iup ι3 179 (68 + b) k := ⟨_, rfl⟩
    refine i_iast sh_179 (by decide) (by decide) (by omega) (by omega) (by decide) (ι1 := ι4) (by rw [hι4]; exact au_179) dX7_shift_115 ?_
    have e4 : ι4 = wp 38 (ru (ru (wb 0 ι) 5 0) (30 + b) k) ι := by rw [hι4, hι3, hι2, hι1, wp_wp, ← hι1, hw0, wp_up 38 _ _ (i := 5) (by decide) (by decide) (by decide), wp_up 38 _ _ (i := 30 + b) (by omega) (by omega) (by omega)]
    have e5 : wb 38 ι4 = ru (ru (wb 0 ι) 5 0) (30 + b) k := by rw [e4, wb_wp 38 f2]
    refine g_aload_n (x := 178) rfl dX7_shift_116 ?_
    refine g_iload_n (x := n) rfl dX7_shift_117 ?_
    refine i_callV mvX7_goesOn tw_1041 (ci := 7) (congrArg Prod.fst sh_178) rfl (by decide) (c_goesOn (by rw [e5]; exact f1) (by rw [e5, f3]; exact hB) (n := n) (by omega) (by rw [e5, f4]; omega)) (by decide) (st' := []) rfl (Nat.le_of_ble_eq_true rfl) rfl dX7_shift_118 (fun v_2 ι5 hq_118 => ?_)
    obtain ⟨rfl, hι5⟩ := hq_118
    rw [e5, e4, wp_wp] at hι5
    have e6 : ι5 179 43 = zim (wb 0 ι) n b k := by rw [hι5, show (43 : Int) = 38 + 5 by decide, wp_i 38 _ _ (by decide) (by decide)]; rfl
    refine g_aload_n (x := 178) rfl dX7_shift_121 ?_
    refine g_get fgX7_7 zcl_7 (congrArg Prod.fst sh_178) (by decide) rg_178_0 dX7_shift_122 ?_
    refine g_bipush (x := 43) (by decide) dX7_shift_125 ?_
    refine g_iald sh_179 (by decide) (by omega) (by omega) (by decide) ag_179 dX7_shift_127 ?_
    rw [e6]
    refine g_istore (ls' := [some (zR 178), some (zI n), some (zI w), some (zI ((zfd (zss (zim (wb 0 ι) n) b) s k).2)), some (zI ((zfd (zss (zim (wb 0 ι) n) b) s k).1)), some (zI b), some (zI k), some (zI (zim (wb 0 ι) n b k))]) dX7_shift_128 (by decide) rfl ?_
    refine g_iload (x := (zim (wb 0 ι) n b k)) rfl dX7_shift_130 ?_
    refine g_iload_n (x := ((zfd (zss (zim (wb 0 ι) n) b) s k).2)) rfl dX7_shift_132 ?_
    refine g_icmp_ge ⟨by omega, by omega⟩ ⟨by omega, by omega⟩ (t := 147) dX7_shift_133 (by decide) (fun h133 => ?_) (fun h133 => ?_)
    · refine g_iload (x := ((zfd (zss (zim (wb 0 ι) n) b) s k).1)) rfl dX7_shift_147 ?_
      refine g_istore (ls' := [some (zR 178), some (zI n), some (zI w), some (zI ((zfd (zss (zim (wb 0 ι) n) b) s k).2)), some (zI ((zfd (zss (zim (wb 0 ι) n) b) s k).1)), some (zI b), some (zI k), some (zI (zim (wb 0 ι) n b k))]) dX7_shift_149 (by decide) rfl ?_
      refine g_iload (x := (zim (wb 0 ι) n b k)) rfl dX7_shift_151 ?_
      refine g_iload_n (x := ((zfd (zss (zim (wb 0 ι) n) b) s k).2)) rfl dX7_shift_153 ?_
      refine g_icmp_ge ⟨by omega, by omega⟩ ⟨by omega, by omega⟩ (t := 162) dX7_shift_154 (by decide) (fun h154 => ?_) (fun h154 => ?_)
      · refine g_iload_n (x := ((zfd (zss (zim (wb 0 ι) n) b) s k).2)) rfl dX7_shift_162 ?_
        refine g_istore_n (ls' := [some (zR 178), some (zI n), some (zI w), some (zI ((zfd (zss (zim (wb 0 ι) n) b) s k).2)), some (zI ((zfd (zss (zim (wb 0 ι) n) b) s k).1)), some (zI b), some (zI k), some (zI (zim (wb 0 ι) n b k))]) dX7_shift_163 (by decide) rfl ?_
        refine g_iinc (x := k) (y := k + 1) (ls' := [some (zR 178), some (zI n), some (zI w), some (zI ((zfd (zss (zim (wb 0 ι) n) b) s k).2)), some (zI ((zfd (zss (zim (wb 0 ι) n) b) s k).1)), some (zI b), some (zI (k + 1)), some (zI (zim (wb 0 ι) n b k))]) dX7_shift_164 rfl (rfl) (by decide) rfl ?_
        refine g_goto (t := 81) dX7_shift_167 (by decide) ?_
        have hh := ih (by omega) (pasI (ru (ru (wb 0 ι) 5 0) (30 + b) k) n)
        rw [zfd_s _ _ h0, ← hι5, show zss (zim (wb 0 ι) n) b (zfd (zss (zim (wb 0 ι) n) b) s k) k = zfd (zss (zim (wb 0 ι) n) b) s k from zss_n (by omega)] at hh
        exact g_drop (by repeat' constructor) hh
      · exfalso; omega
    · refine g_bipush (x := 10) (by decide) dX7_shift_136 ?_
      refine g_iload (x := b) rfl dX7_shift_138 ?_
      refine g_imul dX7_shift_140 ?_
      refine g_iload (x := k) rfl dX7_shift_141 ?_
      refine g_iadd dX7_shift_143 ?_
      refine g_goto (t := 149) dX7_shift_144 (by decide) ?_
      refine g_istore (ls' := [some (zR 178), some (zI n), some (zI w), some (zI ((zfd (zss (zim (wb 0 ι) n) b) s k).2)), some (zI ((10 * b) + k)), some (zI b), some (zI k), some (zI (zim (wb 0 ι) n b k))]) dX7_shift_149 (by decide) rfl ?_
      refine g_iload (x := (zim (wb 0 ι) n b k)) rfl dX7_shift_151 ?_
      refine g_iload_n (x := ((zfd (zss (zim (wb 0 ι) n) b) s k).2)) rfl dX7_shift_153 ?_
      refine g_icmp_ge ⟨by omega, by omega⟩ ⟨by omega, by omega⟩ (t := 162) dX7_shift_154 (by decide) (fun h154 => ?_) (fun h154 => ?_)
      · exfalso; omega
      · refine g_iload (x := (zim (wb 0 ι) n b k)) rfl dX7_shift_157 ?_
        refine g_goto (t := 163) dX7_shift_159 (by decide) ?_
        refine g_istore_n (ls' := [some (zR 178), some (zI n), some (zI w), some (zI (zim (wb 0 ι) n b k)), some (zI ((10 * b) + k)), some (zI b), some (zI k), some (zI (zim (wb 0 ι) n b k))]) dX7_shift_163 (by decide) rfl ?_
        refine g_iinc (x := k) (y := k + 1) (ls' := [some (zR 178), some (zI n), some (zI w), some (zI (zim (wb 0 ι) n b k)), some (zI ((10 * b) + k)), some (zI b), some (zI (k + 1)), some (zI (zim (wb 0 ι) n b k))]) dX7_shift_164 rfl (rfl) (by decide) rfl ?_
        refine g_goto (t := 81) dX7_shift_167 (by decide) ?_
        have hh := ih (by omega) (pasI (ru (ru (wb 0 ι) 5 0) (30 + b) k) n)
        rw [zfd_s _ _ h0, ← hι5, show zss (zim (wb 0 ι) n) b (zfd (zss (zim (wb 0 ι) n) b) s k) k = ((10 * b + k, zim (wb 0 ι) n b k) : Int × Int) from zss_y (by omega)] at hh
        exact g_drop (by repeat' constructor) hh

set_option maxRecDepth 100000 in
theorem lp_shift2 (hT : zTM (wb 0 ι)) (hB : 0 < wb 0 ι 1) {n w : Int} (hn : 1 ≤ n ∧ n ≤ 30) (hw : 0 ≤ w ∧ w ≤ 1) : ∀ b : Int, 0 ≤ b → b ≤ wb 0 ι 1 → ∀ X, zGi l (zc D ad L z) mX7_shift 5 67 [some (zR 178), some (zI n), some (zI w), some (zI ((zsf (zim (wb 0 ι) n) ((-1000000, pasI (ru (wb 0 ι) 5 0) n 5) : Int × Int) (wb 0 ι 0) b).2)), some (zI ((zsf (zim (wb 0 ι) n) ((-1000000, pasI (ru (wb 0 ι) 5 0) n 5) : Int × Int) (wb 0 ι 0) b).1)), some (zI b), none, none] [] (wp 38 X ι) (fun v ι' => v = some (zI (if (zsf (zim (wb 0 ι) n) (-1000000, pasI (ru (wb 0 ι) 5 0) n 5) (wb 0 ι 0) (wb 0 ι 1)).1 = -1000000 ∨ w = 0 then (zsf (zim (wb 0 ι) n) (-1000000, pasI (ru (wb 0 ι) 5 0) n 5) (wb 0 ι 0) (wb 0 ι 1)).1 else (zsf (zim (wb 0 ι) n) (-1000000, pasI (ru (wb 0 ι) 5 0) n 5) (wb 0 ι 0) (wb 0 ι 1)).2)) ∧ zSc ι ι') := by
  refine z_loopI (P := fun b => ∀ X, _) (fun b h0 h1 ih X => ?_)
  obtain ⟨ι1, hι1⟩ : ∃ y, y = wp 38 X ι := ⟨_, rfl⟩
  rw [← hι1]
  obtain ⟨hV, hNB, hH9⟩ := id hT
  have hV0 := hV.1
  have hV1 := hV.2.1
  have hw0 : wb 0 ι1 = wb 0 ι := by rw [hι1, wb_wpo (Or.inl (by decide))]
  have o1 : ι1 179 1 = wb 0 ι 1 := by rw [← hw0, w0 ι1 (by decide) (by decide)]
  obtain ⟨k1, -⟩ := pasI_V (ru_tz (wb_tz 0 ι) (i := 5) (v := 0) (by decide) (by decide)) (zVT_5 hV (v := 0) (by decide)) (n := n) (by omega) (by rw [ru_n _ (by omega)]; omega)
  have hsb := zsf_b (f := (zim (wb 0 ι) n)) (N := wb 0 ι 0) (B := b) (M := 99999) (s := ((-1000000, pasI (ru (wb 0 ι) 5 0) n 5) : Int × Int)) (by omega) hV0 (fun c c0 c1 j g0 g1 => (zim_V (wb_tz 0 ι) hV (n := n) (b := c) (k := j) (by omega) hH9 (by omega) (by omega)).2.2.2.2.1) ⟨Or.inl rfl, k1.2.2.2.2.2.1⟩
  refine g_iload (x := b) rfl dX7_shift_67 ?_
  refine g_aload_n (x := 178) rfl dX7_shift_69 ?_
  refine g_get fgX7_7 zcl_7 (congrArg Prod.fst sh_178) (by decide) rg_178_0 dX7_shift_70 ?_
  refine g_iconst (x := 1) rfl dX7_shift_73 ?_
  refine g_iald sh_179 (by decide) (by omega) (by omega) (by decide) ag_179 dX7_shift_74 ?_
  rw [o1]
  refine g_icmp_ge ⟨by omega, by omega⟩ ⟨by omega, by omega⟩ (t := 176) dX7_shift_75 (by decide) (fun h75 => ?_) (fun h75 => ?_)
  · have eb : b = wb 0 ι 1 := by omega
    rw [eb] at hsb ⊢
    refine g_iload (x := ((zsf (zim (wb 0 ι) n) ((-1000000, pasI (ru (wb 0 ι) 5 0) n 5) : Int × Int) (wb 0 ι 0) (wb 0 ι 1)).1)) rfl dX7_shift_176 ?_
    refine g_ldc (x := -1000000) tw_1057 (by decide) dX7_shift_178 ?_
    refine g_icmp_eq ⟨by omega, by omega⟩ (by decide) (t := 187) dX7_shift_180 (by decide) (fun h180 => ?_) (fun h180 => ?_)
    · refine g_iload (x := ((zsf (zim (wb 0 ι) n) ((-1000000, pasI (ru (wb 0 ι) 5 0) n 5) : Int × Int) (wb 0 ι 0) (wb 0 ι 1)).1)) rfl dX7_shift_187 ?_
      refine g_goto (t := 193) dX7_shift_189 (by decide) ?_
      exact i_iret rfl dX7_shift_193 (⟨by rw [if_pos (by omega)], ⟨_, hι1⟩⟩)
    · refine g_iload_n (x := w) rfl dX7_shift_183 ?_
      refine g_if_ne ⟨by omega, by omega⟩ (t := 192) dX7_shift_184 (by decide) (fun h184 => ?_) (fun h184 => ?_)
      · refine g_iload_n (x := ((zsf (zim (wb 0 ι) n) ((-1000000, pasI (ru (wb 0 ι) 5 0) n 5) : Int × Int) (wb 0 ι 0) (wb 0 ι 1)).2)) rfl dX7_shift_192 ?_
        exact i_iret rfl dX7_shift_193 (⟨by rw [if_neg (by omega)], ⟨_, hι1⟩⟩)
      · refine g_iload (x := ((zsf (zim (wb 0 ι) n) ((-1000000, pasI (ru (wb 0 ι) 5 0) n 5) : Int × Int) (wb 0 ι 0) (wb 0 ι 1)).1)) rfl dX7_shift_187 ?_
        refine g_goto (t := 193) dX7_shift_189 (by decide) ?_
        exact i_iret rfl dX7_shift_193 (⟨by rw [if_pos (by omega)], ⟨_, hι1⟩⟩)
  · refine g_iconst (x := 0) rfl dX7_shift_78 ?_
    refine g_istore (ls' := [some (zR 178), some (zI n), some (zI w), some (zI ((zsf (zim (wb 0 ι) n) ((-1000000, pasI (ru (wb 0 ι) 5 0) n 5) : Int × Int) (wb 0 ι 0) b).2)), some (zI ((zsf (zim (wb 0 ι) n) ((-1000000, pasI (ru (wb 0 ι) 5 0) n 5) : Int × Int) (wb 0 ι 0) b).1)), some (zI b), some (zI 0), none]) dX7_shift_79 (by decide) rfl ?_
    have hh := lp_shift1 (l := l) (D := D) (ad := ad) (L := L) (z := z) hT hB (n := n) (w := w) hn (b := b) (by omega) (s := zsf (zim (wb 0 ι) n) ((-1000000, pasI (ru (wb 0 ι) 5 0) n 5) : Int × Int) (wb 0 ι 0) b) hsb (Q := fun v ι' => v = some (zI (if (zsf (zim (wb 0 ι) n) (-1000000, pasI (ru (wb 0 ι) 5 0) n 5) (wb 0 ι 0) (wb 0 ι 1)).1 = -1000000 ∨ w = 0 then (zsf (zim (wb 0 ι) n) (-1000000, pasI (ru (wb 0 ι) 5 0) n 5) (wb 0 ι 0) (wb 0 ι 1)).1 else (zsf (zim (wb 0 ι) n) (-1000000, pasI (ru (wb 0 ι) 5 0) n 5) (wb 0 ι 0) (wb 0 ι 1)).2)) ∧ zSc ι ι') (fun X => by
      have hh := ih (by omega) X
      unfold zsf at hh ⊢
      rw [zfd_s _ _ h0] at hh
      exact hh) 0 (by omega) (by omega) X
    rw [zfd_0, ← hι1] at hh
    exact hh

set_option maxRecDepth 100000 in
theorem c_mShift (hT : zTM (wb 0 ι)) {n w : Int} (hn : zB n) (hw : zB w) : zCi l (zc D ad L z) mX7_shift 5 [zR 178, zI n, zI w] ι (fun v ι' => v = some (zI (if ¬ (0 < wb 0 ι 0) then -1000002 else if ¬ ((1 ≤ n ∧ n ≤ 30) ∧ (0 ≤ w ∧ w ≤ 1)) then -1000001 else if (zsf (zim (wb 0 ι) n) ((-1000000, pasI (ru (wb 0 ι) 5 0) n 5) : Int × Int) (wb 0 ι 0) (wb 0 ι 1)).1 = -1000000 ∨ w = 0 then (zsf (zim (wb 0 ι) n) ((-1000000, pasI (ru (wb 0 ι) 5 0) n 5) : Int × Int) (wb 0 ι 0) (wb 0 ι 1)).1 else (zsf (zim (wb 0 ι) n) ((-1000000, pasI (ru (wb 0 ι) 5 0) n 5) : Int × Int) (wb 0 ι 0) (wb 0 ι 1)).2)) ∧ zSc ι ι') := by
  refine zCt_of (by decide) (Nat.le_of_ble_eq_true rfl) 5 rfl ?_
  obtain ⟨hV, hNB, hH9⟩ := id hT
  obtain ⟨hV0, hV1, hV2, hV3, hV4, hV5, hVk, hVw⟩ := id hV
  have q0 := w0 ι (i := 0) (by decide) (by decide)
  have q1 := w0 ι (i := 1) (by decide) (by decide)
  have q2 := w0 ι (i := 2) (by decide) (by decide)
  have q4 := w0 ι (i := 4) (by decide) (by decide)
  refine g_aload_n (x := 178) rfl dX7_shift_0 ?_
  refine i_callVp mvX7_isTown tw_962 (ci := 7) (congrArg Prod.fst sh_178) rfl (by decide) (c_isTown (by omega)) (by decide) (st' := []) rfl (Nat.le_of_ble_eq_true rfl) rfl dX7_shift_1 ?_
  refine g_nm (fun b1 hq0 => ?_)
  have hb1 : ((0 < ι 179 0) ∧ b1 = 1) ∨ (¬ (0 < ι 179 0) ∧ b1 = 0) := zb_c hq0
  clear hq0
  refine g_if_ne ⟨by omega, by omega⟩ (t := 10) dX7_shift_4 (by decide) (fun h4 => ?_) (fun h4 => ?_)
  · refine g_iload_n (x := n) rfl dX7_shift_10 ?_
    refine g_i2l ⟨by omega, by omega⟩ dX7_shift_11 ?_
    refine g_lconst (x := 1) (by decide) dX7_shift_12 ?_
    refine g_ldc2 (x := 30) tw_1076 (by decide) dX7_shift_13 ?_
    refine i_callSp msX7_in tw_876 (c_in ⟨by omega, by omega⟩ ⟨by omega, by omega⟩ ⟨by omega, by omega⟩) (by decide) (st' := []) rfl (Nat.le_of_ble_eq_true rfl) rfl dX7_shift_16 ?_
    refine g_nm (fun b16 hq0 => ?_)
    have hb16 : ((1 ≤ n ∧ n ≤ 30) ∧ b16 = 1) ∨ (¬ (1 ≤ n ∧ n ≤ 30) ∧ b16 = 0) := zb_c hq0
    clear hq0
    refine g_if_eq ⟨by omega, by omega⟩ (t := 32) dX7_shift_19 (by decide) (fun h19 => ?_) (fun h19 => ?_)
    · refine g_ldc (x := -1000001) tw_880 (by decide) dX7_shift_32 ?_
      exact i_iret rfl dX7_shift_34 (⟨by rw [if_neg (by omega), if_pos (by omega)], zSc.r ι⟩)
    · refine g_iload_n (x := w) rfl dX7_shift_22 ?_
      refine g_i2l ⟨by omega, by omega⟩ dX7_shift_23 ?_
      refine g_lconst (x := 0) (by decide) dX7_shift_24 ?_
      refine g_lconst (x := 1) (by decide) dX7_shift_25 ?_
      refine i_callSp msX7_in tw_876 (c_in ⟨by omega, by omega⟩ ⟨by omega, by omega⟩ ⟨by omega, by omega⟩) (by decide) (st' := []) rfl (Nat.le_of_ble_eq_true rfl) rfl dX7_shift_26 ?_
      refine g_nm (fun b26 hq0 => ?_)
      have hb26 : ((0 ≤ w ∧ w ≤ 1) ∧ b26 = 1) ∨ (¬ (0 ≤ w ∧ w ≤ 1) ∧ b26 = 0) := zb_c hq0
      clear hq0
      refine g_if_ne ⟨by omega, by omega⟩ (t := 35) dX7_shift_29 (by decide) (fun h29 => ?_) (fun h29 => ?_)
      · refine g_aload_n (x := 178) rfl dX7_shift_35 ?_
        refine i_callV mvX7_tries tw_1037 (ci := 7) (congrArg Prod.fst sh_178) rfl (by decide) (c_tries) (by decide) (st' := []) rfl (Nat.le_of_ble_eq_true rfl) rfl dX7_shift_36 (fun v_1 ι1 hq_36 => ?_)
        obtain ⟨rfl, hι1⟩ := hq_36
        refine g_aload_n (x := 178) rfl dX7_shift_39 ?_
        refine g_get fgX7_7 zcl_7 (congrArg Prod.fst sh_178) (by decide) rg_178_0 dX7_shift_40 ?_
        refine g_bipush (x := 43) (by decide) dX7_shift_43 ?_
        refine g_iconst (x := 0) rfl dX7_shift_45 ?_
        obtain ⟨ι2, hι2⟩ : ∃ y_, y_ = iup ι1 179 43 0 := ⟨_, rfl⟩
        refine i_iast sh_179 (by decide) (by decide) (by omega) (by omega) (by decide) (ι1 := ι2) (by rw [hι2]; exact au_179) dX7_shift_46 ?_
        have f1 := zVT_5 hV (v := 0) (by decide)
        have f2 : tz (ru (wb 0 ι) 5 0) := ru_tz (wb_tz 0 ι) (by decide) (by decide)
        have f3 : ru (wb 0 ι) 5 0 1 = wb 0 ι 1 := ru_n _ (by decide)
        have f4 : ru (wb 0 ι) 5 0 4 = wb 0 ι 4 := ru_n _ (by decide)
        have e2 : ι2 = wp 38 (ru (wb 0 ι) 5 0) ι := by rw [hι2, hι1, wp_up 38 _ _ (i := 5) (by decide) (by decide) (by decide)]
        have e5 : wb 38 ι2 = ru (wb 0 ι) 5 0 := by rw [e2, wb_wp 38 f2]
        refine g_aload_n (x := 178) rfl dX7_shift_47 ?_
        refine g_iload_n (x := n) rfl dX7_shift_48 ?_
        refine i_callV mvX7_goesOn tw_1041 (ci := 7) (congrArg Prod.fst sh_178) rfl (by decide) (c_goesOn (by rw [e5]; exact f1) (by rw [e5, f3]; omega) (n := n) (by omega) (by rw [e5, f4]; omega)) (by decide) (st' := []) rfl (Nat.le_of_ble_eq_true rfl) rfl dX7_shift_49 (fun v_2 ι3 hq_49 => ?_)
        obtain ⟨rfl, hι3⟩ := hq_49
        rw [e5, e2, wp_wp] at hι3
        have e6 : ι3 179 43 = pasI (ru (wb 0 ι) 5 0) n 5 := by rw [hι3, show (43 : Int) = 38 + 5 by decide, wp_i 38 _ _ (by decide) (by decide)]
        refine g_aload_n (x := 178) rfl dX7_shift_52 ?_
        refine g_get fgX7_7 zcl_7 (congrArg Prod.fst sh_178) (by decide) rg_178_0 dX7_shift_53 ?_
        refine g_bipush (x := 43) (by decide) dX7_shift_56 ?_
        refine g_iald sh_179 (by decide) (by omega) (by omega) (by decide) ag_179 dX7_shift_58 ?_
        rw [e6]
        refine g_istore_n (ls' := [some (zR 178), some (zI n), some (zI w), some (zI (pasI (ru (wb 0 ι) 5 0) n 5)), none, none, none, none]) dX7_shift_59 (by decide) rfl ?_
        refine g_ldc (x := -1000000) tw_1057 (by decide) dX7_shift_60 ?_
        refine g_istore (ls' := [some (zR 178), some (zI n), some (zI w), some (zI (pasI (ru (wb 0 ι) 5 0) n 5)), some (zI (-1000000)), none, none, none]) dX7_shift_62 (by decide) rfl ?_
        refine g_iconst (x := 0) rfl dX7_shift_64 ?_
        refine g_istore (ls' := [some (zR 178), some (zI n), some (zI w), some (zI (pasI (ru (wb 0 ι) 5 0) n 5)), some (zI (-1000000)), some (zI 0), none, none]) dX7_shift_65 (by decide) rfl ?_
        rw [if_neg (by omega), if_neg (by omega)]
        have hh := lp_shift2 (l := l) (D := D) (ad := ad) (L := L) (z := z) hT (by omega) (n := n) (w := w) (by omega) (by omega) 0 (by omega) (by omega) (pasI (ru (wb 0 ι) 5 0) n)
        rw [← hι3] at hh
        exact hh
      · refine g_ldc (x := -1000001) tw_880 (by decide) dX7_shift_32 ?_
        exact i_iret rfl dX7_shift_34 (⟨by rw [if_neg (by omega), if_pos (by omega)], zSc.r ι⟩)
  · refine g_ldc (x := -1000002) tw_966 (by decide) dX7_shift_7 ?_
    exact i_iret rfl dX7_shift_9 (⟨by rw [if_pos (by omega)], zSc.r ι⟩)

end
