section
/-- a town of the class, that of the reference -/
def zRl (X R : zr) : Prop := zVD 0 X R ∧ tz X ∧ tz R ∧ zTM R ∧ 0 < R 0 ∧ zLo X ≤ 90000
theorem zRl.V {X R : zr} (h : zRl X R) : zVT R := h.2.2.2.1.1
theorem zRl.B {X R : zr} (h : zRl X R) : 0 < R 1 := h.2.2.2.1.2.1 h.2.2.2.2.1
theorem zRl.H {X R : zr} (h : zRl X R) : R 4 ≤ 9999 := h.2.2.2.1.2.2
theorem zRl.N {X R : zr} (h : zRl X R) : 0 < R 0 := h.2.2.2.2.1
theorem zRl_pas {X R : zr} (h : zRl X R) {n : Int} (h0 : 0 ≤ n) (h1 : n ≤ 60) : zVD 0 (pasI X n) (pasI R n) ∧ pasI X n 0 = X 0 ∧ pasI R n 0 = R 0 := by
  have hH := h.H
  obtain ⟨a, b⟩ := zVD_pas h.1 (by decide) h.2.2.1 h.2.1 h.V h.B (by have := h.2.2.2.2.2; omega) h0 (by omega)
  obtain ⟨g1, g2, g3, -⟩ := pasI_V h.2.2.1 h.V h0 (by omega)
  exact ⟨a, by rw [a.1.1, g3, h.1.1.1], g3⟩
theorem zRl_aw {X R : zr} (h : zRl X R) {n : Int} (h0 : 0 ≤ n) (h1 : n ≤ 60) : zaw (fun k => pasI X n (14 + k)) (X 0) = zaw (fun k => pasI R n (14 + k)) (R 0) := by
  obtain ⟨a, b, c⟩ := zRl_pas h h0 h1
  rw [← b, ← c]
  exact zVD_aw a
theorem zRl_fa {X R : zr} (h : zRl X R) (s : Int) : zfa X s 0 = zfa R s 0 := by
  have key : ∀ (m : Nat) (i : Int), 0 ≤ i → i + m = 61 → zfaN X s m i = zfaN R s m i := by
    intro m
    induction m with
    | zero => intro i _ _; rfl
    | succ m ih =>
      intro i i0 hi
      rw [zfaN, zfaN, zRl_aw h i0 (by omega), ih (i + 1) (by omega) (by omega)]
  exact key 61 0 (by decide) (by decide)
/-- with one thing else -/
theorem zRl_i {X R : zr} (h : zRl X R) {i v : Int} (hi : i = 2 ∨ (6 ≤ i ∧ i < 22) ∨ (30 ≤ i ∧ i < 38)) (hV : zVT (ru R i v)) : zRl (ru X i v) (ru R i v) := by
  have hN := h.V.1
  have hB := h.V.2.1
  have e0 : ru R i v 0 = R 0 := ru_n _ (by omega)
  have e1 : ru R i v 1 = R 1 := ru_n _ (by omega)
  have e4 : ru R i v 4 = R 4 := ru_n _ (by omega)
  refine ⟨?_, ru_tz h.2.1 (by omega) (by omega), ru_tz h.2.2.1 (by omega) (by omega), ⟨hV, by rw [e1]; exact fun _ => h.B, by rw [e4]; exact h.H⟩, by rw [e0]; exact h.N, ?_⟩
  · rcases (show i = 2 ∨ 6 ≤ i by omega) with g | g
    · rw [g]; exact zVD_2 h.1 v
    · exact zVD_i h.1 hN hB g v
  · rw [zLo_c (R := X) (ru_n _ (by omega)) (ru_n _ (by omega)) (fun k k0 k1 => ru_n _ (by have := h.1.1.1; omega))]
    exact h.2.2.2.2.2
theorem zRl_sp {X R : zr} (h : zRl X R) {s n : Int} (h0 : 0 ≤ s) (h1 : s < R 0) (hn : 0 ≤ n ∧ n ≤ 60) : zsp X s n 0 = zsp R s n 0 := by
  have key : ∀ (m : Nat) (v : Int), 0 ≤ v → v + m = 4 → zspN X s n m v = zspN R s n m v := by
    intro m
    induction m with
    | zero => intro i _ _; rfl
    | succ m ih =>
      intro v v0 hv
      have hr := zRl_i h (i := 2) (v := v) (Or.inl rfl) (zVT_2 h.V (by omega))
      obtain ⟨a, b, c⟩ := zRl_pas hr hn.1 hn.2
      have e := (a.2.1 s h0 (by rw [c, ru_n _ (by decide)]; exact h1)).2.1
      rw [zspN, zspN, e, ih (v + 1) (by omega) (by omega)]
  exact key 4 0 (by decide) (by decide)
theorem zgb_c {f g : Int → Int} {lo hi : Int} (h : ∀ v, lo ≤ v → v < hi → f v = g v) : zgb f lo hi = zgb g lo hi := by
  have key : ∀ m : Nat, lo + m ≤ hi → zgbN f lo m = zgbN g lo m := by
    intro m
    induction m with
    | zero => intro _; rfl
    | succ m ih =>
      intro hm
      rw [zgbN, zgbN, ih (by omega), h (lo + m) (by omega) (by omega)]
  unfold zgb
  rcases (show lo ≤ hi ∨ hi < lo by omega) with q | q
  · exact key _ (by omega)
  · rw [show (hi - lo).toNat = 0 by omega]; rfl
theorem zRl_so {X R : zr} (h : zRl X R) {s n : Int} (h0 : 0 ≤ s) (h1 : s < R 0) (g : Int → Int) (hn : n ≤ 60) : zso X s g n = zso R s g n := by
  have key : ∀ m : Nat, (m : Int) ≤ 60 → zsoN X s g m = zsoN R s g m := by
    intro m
    induction m with
    | zero => intro _; rfl
    | succ m ih =>
      intro hm
      obtain ⟨a, b, c⟩ := zRl_pas h (n := (m : Int) + 1) (by omega) (by omega)
      have e := (a.2.1 s h0 (by rw [c]; exact h1)).2.1
      rw [zsoN, zsoN, ih (by omega), e]
  unfold zso
  exact key n.toNat (by omega)
theorem zRl_fit {X R : zr} (h : zRl X R) {s w n : Int} (h0 : 0 ≤ s) (h1 : s < R 0) (hw : 0 ≤ w ∧ w ≤ 3) (g : Int → Int) (hn : n ≤ 60) : zfit X s w g n = zfit R s w g n := by
  obtain ⟨a0, a1, a2, a3, a4, a5⟩ := h.1.1
  have hN := h.V.1
  have hB := h.V.2.1
  have e1 : zfpl X s w = zfpl R s w := by unfold zfpl; rw [a4, a1]
  have e2 : zfto X w = zfto R w := by unfold zfto; rw [a0]
  unfold zfit
  rw [e1, e2]
  refine zgb_c (fun v v0 v1 => ?_)
  have hp := zfpl_b (R := R) (s := s) (w := w) ⟨h0, by omega⟩ ⟨h.B, by omega⟩
  have hpi : zfpl R s w = 2 ∨ (6 ≤ zfpl R s w ∧ zfpl R s w < 22) ∨ (30 ≤ zfpl R s w ∧ zfpl R s w < 38) := by
    have m0 := Int.emod_nonneg (R 4) (show R 1 ≠ 0 by have := h.B; omega)
    have m1 := Int.emod_lt_of_pos (R 4) h.B
    unfold zfpl
    (repeat' split) <;> omega
  have hV := zfpl_W h.V h.B (s := s) (w := w) (v := v) ⟨h0, by omega⟩ hw v0 (by omega)
  exact zRl_so (zRl_i h hpi hV) h0 (by rw [ru_n _ (by omega)]; exact h1) g hn
theorem zRl_tax {X R : zr} (h : zVD 0 X R) {s n : Int} (h0 : 0 ≤ s) (h1 : s < R 0) : ztax X s n = ztax R s n := by
  have hb := fun k (k0 : 0 ≤ k) (k1 : k < R 0) => (h.2.1 k k0 k1).2.2
  unfold ztax
  rw [h.1.1, hb s h0 h1, zsum_c (f := fun k => X (22 + k)) (g := fun k => R (22 + k)) hb]
  dsimp only
  rw [zsum_c (f := fun k => n * X (22 + k) / zsum (fun k => R (22 + k)) (R 0)) (g := fun k => n * R (22 + k) / zsum (fun k => R (22 + k)) (R 0)) (fun k k0 k1 => by rw [hb k k0 k1]),
    zsum_c (f := fun k => if k < s ∧ 0 < X (22 + k) then (1 : Int) else 0) (g := fun k => if k < s ∧ 0 < R (22 + k) then (1 : Int) else 0) (fun k k0 k1 => by rw [hb k k0 k1])]
theorem zRl_ask {X R : zr} (h : zVD 0 X R) {s w : Int} (h0 : 0 ≤ s) (h1 : s < R 0) : zask X s w = zask R s w := by
  obtain ⟨b1, b2, b3⟩ := h.2.1 s h0 h1
  have e1 : zmk X s = zmk R s := by unfold zmk; rw [b1, b2]
  have e2 : zs11 X s = zs11 R s := by unfold zs11; rw [b3, e1]
  have e3 : zsz X s = zsz R s := by unfold zsz; rw [b1, b3, e2]
  have e4 : zm23 X s = zm23 R s := by unfold zm23; rw [e3]
  unfold zask
  rw [b1, e1, e3, e4]
/-! draws -/
theorem zsum_u {f : Int → Int} {s v N : Int} (hf : ∀ k, 0 ≤ k → k < N → 0 ≤ f k) (hv : 0 ≤ v) : zsum (fun k => if k = s then v else f k) N ≤ zsum f N + v := by
  have key : ∀ n : Nat, (n : Int) ≤ N → zsumN (fun k => if k = s then v else f k) n ≤ zsumN f n + (if s < n then v else 0) := by
    intro n
    induction n with
    | zero => intro _; show (0 : Int) ≤ 0 + _; split <;> omega
    | succ n ih =>
      intro hn
      have h1 := ih (by omega)
      have h2 := hf n (by omega) (by omega)
      rw [zsumN, zsumN]
      by_cases g : (n : Int) = s
      · rw [if_pos g, if_pos (by omega)]
        rw [if_neg (by omega)] at h1
        omega
      · rw [if_neg g]
        by_cases g2 : s < n
        · rw [if_pos g2] at h1; rw [if_pos (by omega)]; omega
        · rw [if_neg g2] at h1; rw [if_neg (by omega)]; omega
  unfold zsum
  rcases (show 0 ≤ N ∨ N < 0 by omega) with g | g
  · have := key N.toNat (by omega)
    split at this <;> omega
  · rw [show N.toNat = 0 by omega]; show (0 : Int) ≤ 0 + v; omega
theorem zLo_dw {X : zr} (hV : zVT X) (hN : 0 < X 0) (hB : 0 < X 1) (x : Int) : zLo (zdw x X) ≤ zLo X + 60 := by
  have m2 := Int.emod_nonneg x (show X 0 ≠ 0 by omega)
  have m3 := Int.emod_lt_of_pos x hN
  have m4 := Int.emod_nonneg x (show X 1 ≠ 0 by omega)
  have m5 := Int.emod_lt_of_pos x hB
  have hN8 := hV.1
  have hB8 := hV.2.1
  unfold zdw
  split
  · rw [zLo_c (R := X) (ru_n _ (by omega)) (ru_n _ (by omega)) (fun k k0 k1 => ru_n _ (by omega))]; omega
  · split
    · unfold zLo
      rw [ru_n _ (by omega), ru_n _ (by omega), zsum_c (g := fun k => if k = x % X 0 then 60 else X (22 + k)) (fun k k0 k1 => by
        unfold ru
        by_cases g : k = x % X 0
        · rw [if_pos (by omega), if_pos g]
        · rw [if_neg (by omega), if_neg g])]
      have := zsum_u (f := fun k => X (22 + k)) (s := x % X 0) (v := 60) (N := X 0) (fun k k0 k1 => (hV.2.2.2.2.2.2.1 k k0 k1).2.2.1) (by decide)
      omega
    · omega
theorem zVD_dw {d : Int} {X R : zr} (h : zVD d X R) (hV : zVT R) (hN : 0 < R 0) (hB : 0 < R 1) (x : Int) : zVD d (zdw x X) (zdw x R) := by
  have m2 := Int.emod_nonneg x (show R 0 ≠ 0 by omega)
  have m4 := Int.emod_nonneg x (show R 1 ≠ 0 by omega)
  unfold zdw
  rw [h.1.1, h.1.2.1]
  split
  · exact zVD_i h hV.1 hV.2.1 (by omega) _
  · split
    · exact zVD_i h hV.1 hV.2.1 (by omega) _
    · exact h
theorem zVD_dr {d : Int} {X R : zr} (h : zVD d X R) (hd : 0 ≤ d) (hz : tz R) (hzX : tz X) (hV : zVT R) (hVX : zVT X) (hN : 0 < R 0) (hB : 0 < R 1) (hL : zLo X ≤ 90000) {x n : Int} (h0 : 0 ≤ n) (h1 : n ≤ 60) (h4 : R 4 ≤ 9999) : zVD d (zdr x X n) (zdr x R n) := by
  have key : ∀ m : Nat, (m : Int) ≤ n → zVD d (zdr x X m) (zdr x R m) ∧ zLo (zdr x X m) ≤ zLo X + 60 * m := by
    intro m
    induction m with
    | zero => intro _; exact ⟨h, by show zLo X ≤ zLo X + 60 * ((0 : Nat) : Int); omega⟩
    | succ m ih =>
      intro hm
      obtain ⟨a, b⟩ := ih (by omega)
      obtain ⟨g1, g2, g3, g4, g5⟩ := zdr_V (x := x) hz hV hN hB (n := (m : Int)) (by omega) (by omega)
      obtain ⟨k1, k2, k3, k4, k5⟩ := zdr_V (x := x) hzX hVX (by rw [h.1.1]; exact hN) (by rw [h.1.2.1]; exact hB) (n := (m : Int)) (by omega) (by rw [h.1.2.2.2.2.1]; omega)
      obtain ⟨d1, d2, d3, d4, -⟩ := zdw_V (x := zdx x ((m : Int) + 1)) g2 g1 (by rw [g3]; exact hN) (by rw [g4]; exact hB)
      obtain ⟨e1, e2, e3, e4, -⟩ := zdw_V (x := zdx x ((m : Int) + 1)) k2 k1 (by rw [k3, h.1.1]; exact hN) (by rw [k4, h.1.2.1]; exact hB)
      have hl := zLo_dw k1 (by rw [k3, h.1.1]; exact hN) (by rw [k4, h.1.2.1]; exact hB) (zdx x ((m : Int) + 1))
      rw [show ((m + 1 : Nat) : Int) = (m : Int) + 1 by omega, zdr_s _ _ (by omega), zdr_s _ _ (by omega)]
      refine ⟨zVD_pass (zVD_dw a g1 (by rw [g3]; exact hN) (by rw [g4]; exact hB) _) hd d1 (by rw [d4, g4]; exact hB) (by omega), ?_⟩
      have := (zLo_pass e1).1
      omega
  have := key n.toNat (by omega)
  rw [show ((n.toNat : Nat) : Int) = n by omega] at this
  exact this.1
theorem zRl_dr {X R : zr} (h : zRl X R) {x n : Int} (h0 : 0 ≤ n) (h1 : n ≤ 60) : zdr x X n 5 - X 5 = zdr x (ru R 5 0) n 5 ∧ zaw (fun k => zdr x X n (14 + k)) (X 0) = zaw (fun k => zdr x (ru R 5 0) n (14 + k)) (R 0) := by
  have hVR := zVT_5 h.V (v := 0) (by decide)
  have h5 : 0 ≤ X 5 ∧ X 5 ≤ 99999 := by
    have := h.V.2.2.2.2.2.1
    have e := h.1.1.2.2.2.2.2
    omega
  have hVX := zVD_V h.1 (by decide) h.V h5.2
  have hd := zVD_dr (zVD_5 h.1) h5.1 (ru_tz h.2.2.1 (by decide) (by decide)) h.2.1 hVR hVX (by rw [ru_n _ (by decide)]; exact h.N) (by rw [ru_n _ (by decide)]; exact h.B) h.2.2.2.2.2 (x := x) h0 h1 (by rw [ru_n _ (by decide)]; exact h.H)
  have hH := h.H
  obtain ⟨g1, g2, g3, g4, g5⟩ := zdr_V (x := x) (ru_tz h.2.2.1 (by decide) (by decide)) hVR (by rw [ru_n _ (by decide)]; exact h.N) (by rw [ru_n _ (by decide)]; exact h.B) h0 (by rw [ru_n _ (by decide)]; omega)
  rw [ru_n _ (by decide)] at g3
  refine ⟨by rw [hd.1.2.2.2.2.2]; omega, ?_⟩
  have e := zVD_aw hd
  rw [hd.1.1, g3] at e
  rw [h.1.1.1]
  exact e
/-! another beat -/
theorem zRl_cm {X R : zr} (h : zRl X R) {n b k : Int} (hn : 0 ≤ n ∧ n ≤ 60) (hb : 0 ≤ b ∧ b < 8) (hk : 0 ≤ k ∧ k < R 0) : zcm X n b k = zim R n b k := by
  have hVR := zVT_5 h.V (v := 0) (by decide)
  have h5 : 0 ≤ X 5 ∧ X 5 ≤ 99999 := by
    have := h.V.2.2.2.2.2.1
    have e := h.1.1.2.2.2.2.2
    omega
  have hH := h.H
  have hD := zVD_i (zVD_5 h.1) (by rw [ru_n _ (by decide)]; exact h.V.1) (by rw [ru_n _ (by decide)]; exact h.V.2.1) (i := 30 + b) (by omega) k
  have hd := (zVD_pas hD h5.1 (ru_tz (ru_tz h.2.2.1 (by decide) (by decide)) (by omega) (by omega)) (ru_tz h.2.1 (by omega) (by omega)) (zVT_w hVR hb (by rw [ru_n _ (by decide)]; exact hk)) (by rw [ru_n _ (by omega), ru_n _ (by decide)]; exact h.B) (by
    rw [zLo_c (R := X) (ru_n _ (by omega)) (ru_n _ (by omega)) (fun k k0 k1 => ru_n _ (by have := h.1.1.1; have := h.V.1; omega))]
    have := h.2.2.2.2.2; omega) hn.1 (by rw [ru_n _ (by omega), ru_n _ (by decide)]; omega)).1
  unfold zcm zim
  rw [hd.1.2.2.2.2.2]
  omega
theorem zRl_c0 {X R : zr} (h : zRl X R) {n : Int} (hn : 0 ≤ n ∧ n ≤ 60) : pasI X n 5 - X 5 = pasI (ru R 5 0) n 5 := by
  have hVR := zVT_5 h.V (v := 0) (by decide)
  have h5 : 0 ≤ X 5 ∧ X 5 ≤ 99999 := by
    have := h.V.2.2.2.2.2.1
    have e := h.1.1.2.2.2.2.2
    omega
  have hH := h.H
  have hd := (zVD_pas (zVD_5 h.1) h5.1 (ru_tz h.2.2.1 (by decide) (by decide)) h.2.1 hVR (by rw [ru_n _ (by decide)]; exact h.B) (by have := h.2.2.2.2.2; omega) hn.1 (by rw [ru_n _ (by decide)]; omega)).1
  rw [hd.1.2.2.2.2.2]
  omega
theorem zsf_c {f g : Int → Int → Int} {S : Int × Int} {N B : Int} (hN : 0 ≤ N) (hB : 0 ≤ B) (h : ∀ b k, 0 ≤ b → b < B → 0 ≤ k → k < N → f b k = g b k) : zsf f S N B = zsf g S N B := by
  unfold zsf
  refine zfd_c (fun b s b0 b1 => ?_) hB
  refine zfd_c (fun k s k0 k1 => ?_) hN
  unfold zss
  rw [h b k b0 b1 k0 k1]
theorem zRl_sf {X R : zr} (h : zRl X R) {n : Int} (hn : 0 ≤ n ∧ n ≤ 60) : zsf (zcm X n) ((-1000000, pasI X n 5 - X 5) : Int × Int) (X 0) (X 1) = zsf (zim R n) ((-1000000, pasI (ru R 5 0) n 5) : Int × Int) (R 0) (R 1) := by
  rw [zRl_c0 h hn, h.1.1.1, h.1.1.2.1]
  have := h.V.2.1
  exact zsf_c h.V.1.1 h.V.2.1.1 (fun b k b0 b1 k0 k1 => zRl_cm h hn ⟨b0, by omega⟩ ⟨k0, k1⟩)
end
