section
/-! searches -/
def zfaN (R : zr) (s : Int) : Nat → Int → Int
  | 0, _ => -1000000
  | n + 1, i => if zand (zaw (fun k => pasI R i (14 + k)) (R 0)) s = s then i else zfaN R s n (i + 1)
/-- behind how many hours all of some are awake first -/
def zfa (R : zr) (s i : Int) : Int := zfaN R s (61 - i).toNat i
theorem zfa_s {R : zr} {s i : Int} (h : i ≤ 60) : zfa R s i = if zand (zaw (fun k => pasI R i (14 + k)) (R 0)) s = s then i else zfa R s (i + 1) := by
  unfold zfa
  rw [show (61 - i).toNat = (61 - (i + 1)).toNat + 1 by omega, zfaN]
theorem zfa_e {R : zr} {s : Int} : zfa R s 61 = -1000000 := rfl
def zspN (R : zr) (s n : Int) : Nat → Int → Int
  | 0, _ => -1000000
  | m + 1, v => if 0 < pasI (ru R 2 v) n (14 + s) then v else zspN R s n m (v + 1)
/-- the least reach with which a street sleeps behind n hours -/
def zsp (R : zr) (s n v : Int) : Int := zspN R s n (4 - v).toNat v
theorem zsp_s {R : zr} {s n v : Int} (h : v < 4) : zsp R s n v = if 0 < pasI (ru R 2 v) n (14 + s) then v else zsp R s n (v + 1) := by
  unfold zsp
  rw [show (4 - v).toNat = (4 - (v + 1)).toNat + 1 by omega, zspN]
theorem zsp_e {R : zr} {s n : Int} : zsp R s n 4 = -1000000 := rfl
/-- whether a street sleeps as told, n hours long -/
def zsoN (R : zr) (s : Int) (g : Int → Int) : Nat → Int
  | 0 => 1
  | n + 1 => if zsoN R s g n = 1 ∧ pasI R (n + 1) (14 + s) = g n then 1 else 0
def zso (R : zr) (s : Int) (g : Int → Int) (n : Int) : Int := zsoN R s g n.toNat
theorem zso_0 (R : zr) (s : Int) (g : Int → Int) : zso R s g 0 = 1 := rfl
theorem zso_s (R : zr) (s : Int) (g : Int → Int) {n : Int} (h : 0 ≤ n) : zso R s g (n + 1) = if zso R s g n = 1 ∧ pasI R (n + 1) (14 + s) = g n then 1 else 0 := by
  unfold zso
  rw [show (n + 1).toNat = n.toNat + 1 by omega, zsoN, show ((n.toNat : Nat) : Int) = n by omega]
theorem zso_01 (R : zr) (s : Int) (g : Int → Int) (n : Int) : zso R s g n = 0 ∨ zso R s g n = 1 := by
  unfold zso
  cases n.toNat with
  | zero => exact Or.inr rfl
  | succ k => unfold zsoN; split <;> simp
/-- bits of all from lo on of which f says 1 -/
def zgbN (f : Int → Int) (lo : Int) : Nat → Int
  | 0 => 0
  | n + 1 => zor (zgbN f lo n) (if f (lo + n) = 1 then zshl 1 (lo + n) else 0)
def zgb (f : Int → Int) (lo i : Int) : Int := zgbN f lo (i - lo).toNat
theorem zgb_0 (f : Int → Int) (lo : Int) : zgb f lo lo = 0 := by unfold zgb; rw [show (lo - lo).toNat = 0 by omega]; rfl
theorem zgb_s (f : Int → Int) {lo i : Int} (h : lo ≤ i) : zgb f lo (i + 1) = zor (zgb f lo i) (if f i = 1 then zshl 1 i else 0) := by
  unfold zgb
  rw [show (i + 1 - lo).toNat = (i - lo).toNat + 1 by omega, zgbN, show lo + ((i - lo).toNat : Nat) = i by omega]
/-- ones of the lowest eight bits -/
def zon (x : Int) : Int := zsum (fun k => zand (zshr x k) 1) 8
/-- the draws: the number, the town -/
def zdw (x : Int) (R : zr) : zr := if x % 3 = 0 then ru R (30 + x % R 1) (x % R 0) else if x % 5 = 0 then ru R (22 + x % R 0) 60 else R
def zdxN (x : Int) : Nat → Int
  | 0 => x
  | n + 1 => zdxN x n * 16807 % 2147483647
def zdx (x n : Int) : Int := zdxN x n.toNat
theorem zdx_0 (x : Int) : zdx x 0 = x := rfl
theorem zdx_s (x : Int) {n : Int} (h : 0 ≤ n) : zdx x (n + 1) = zdx x n * 16807 % 2147483647 := by
  unfold zdx
  rw [show (n + 1).toNat = n.toNat + 1 by omega, zdxN]
theorem zdx_b {x : Int} (hx : 1 ≤ x ∧ x ≤ 999999) {n : Int} (h : 0 ≤ n) : 0 ≤ zdx x n ∧ zdx x n < 2147483647 := by
  unfold zdx
  cases n.toNat with
  | zero => exact ⟨by show 0 ≤ x; omega, by show x < _; omega⟩
  | succ k => exact ⟨Int.emod_nonneg _ (by decide), Int.emod_lt_of_pos _ (by decide)⟩
def zdrN (x : Int) (R : zr) : Nat → zr
  | 0 => R
  | n + 1 => passR (zdw (zdx x (n + 1)) (zdrN x R n))
def zdr (x : Int) (R : zr) (n : Int) : zr := zdrN x R n.toNat
theorem zdr_0 (x : Int) (R : zr) : zdr x R 0 = R := rfl
theorem zdr_s (x : Int) (R : zr) {n : Int} (h : 0 ≤ n) : zdr x R (n + 1) = passR (zdw (zdx x (n + 1)) (zdr x R n)) := by
  unfold zdr
  rw [show (n + 1).toNat = n.toNat + 1 by omega, zdrN, show ((n.toNat : Nat) : Int) = n by omega]
theorem zdw_V {R : zr} (hz : tz R) (hV : zVT R) (hN : 0 < R 0) (hB : 0 < R 1) {x : Int} : zVT (zdw x R) ∧ tz (zdw x R) ∧ zdw x R 0 = R 0 ∧ zdw x R 1 = R 1 ∧ zdw x R 2 = R 2 ∧ zdw x R 3 = R 3 ∧ zdw x R 4 = R 4 ∧ zdw x R 5 = R 5 := by
  obtain ⟨hV0, hV1, hV2, hV3, hV4, hV5, hVk, hVw⟩ := id hV
  have a0 := Int.emod_nonneg x (show R 0 ≠ 0 by omega)
  have a1 := Int.emod_lt_of_pos x hN
  have b0 := Int.emod_nonneg x (show R 1 ≠ 0 by omega)
  have b1 := Int.emod_lt_of_pos x hB
  unfold zdw
  split
  · refine ⟨?_, ru_tz hz (by omega) (by omega), ru_n _ (by omega), ru_n _ (by omega), ru_n _ (by omega), ru_n _ (by omega), ru_n _ (by omega), ru_n _ (by omega)⟩
    refine ⟨by rw [ru_n _ (by omega)]; exact hV0, by rw [ru_n _ (by omega)]; exact hV1, by rw [ru_n _ (by omega)]; exact hV2, by rw [ru_n _ (by omega)]; exact hV3, by rw [ru_n _ (by omega)]; exact hV4, by rw [ru_n _ (by omega)]; exact hV5, fun k q0 q1 => ?_, fun b q0 q1 => ?_⟩
    · rw [ru_n _ (by omega)] at q1
      rw [ru_n _ (by omega), ru_n _ (by omega), ru_n _ (by omega)]
      exact hVk k q0 q1
    · rw [ru_n _ (by omega)] at q1
      rw [ru_n (j := 0) _ (by omega)]
      by_cases g : b = x % R 1
      · rw [g, ru_s]; exact ⟨a0, a1⟩
      · rw [ru_n _ (by omega)]; exact hVw b q0 q1
  · split
    · refine ⟨?_, ru_tz hz (by omega) (by omega), ru_n _ (by omega), ru_n _ (by omega), ru_n _ (by omega), ru_n _ (by omega), ru_n _ (by omega), ru_n _ (by omega)⟩
      refine ⟨by rw [ru_n _ (by omega)]; exact hV0, by rw [ru_n _ (by omega)]; exact hV1, by rw [ru_n _ (by omega)]; exact hV2, by rw [ru_n _ (by omega)]; exact hV3, by rw [ru_n _ (by omega)]; exact hV4, by rw [ru_n _ (by omega)]; exact hV5, fun k q0 q1 => ?_, fun b q0 q1 => ?_⟩
      · rw [ru_n _ (by omega)] at q1
        have h3 := hVk k q0 q1
        rw [ru_n _ (by omega), ru_n _ (by omega)]
        refine ⟨h3.1, h3.2.1, ?_⟩
        by_cases g : k = x % R 0
        · rw [g, ru_s]; decide
        · rw [ru_n _ (by omega)]; exact h3.2.2
      · rw [ru_n _ (by omega)] at q1
        rw [ru_n _ (by omega), ru_n (j := 0) _ (by omega)]
        exact hVw b q0 q1
    · exact ⟨hV, hz, rfl, rfl, rfl, rfl, rfl, rfl⟩
theorem zdr_V {x : Int} {R : zr} (hz : tz R) (hV : zVT R) (hN : 0 < R 0) (hB : 0 < R 1) {n : Int} (h0 : 0 ≤ n) (h4 : R 4 + n ≤ 20000) : zVT (zdr x R n) ∧ tz (zdr x R n) ∧ zdr x R n 0 = R 0 ∧ zdr x R n 1 = R 1 ∧ zdr x R n 4 = R 4 + n := by
  have key : ∀ k : Nat, (k : Int) ≤ n → zVT (zdrN x R k) ∧ tz (zdrN x R k) ∧ zdrN x R k 0 = R 0 ∧ zdrN x R k 1 = R 1 ∧ zdrN x R k 4 = R 4 + k := by
    intro k
    induction k with
    | zero => intro _; exact ⟨hV, hz, rfl, rfl, by show R 4 = R 4 + 0; omega⟩
    | succ k ih =>
      intro hk
      obtain ⟨i1, i2, i3, i4, i5⟩ := ih (by omega)
      obtain ⟨j1, j2, j3, j4, j5, j6, j7, j8⟩ := zdw_V i2 i1 (by omega) (by omega) (x := zdx x (k + 1))
      refine ⟨passR_V j1 (by omega), passR_tz j2 j1.1.2, ?_, ?_, ?_⟩
      · show passR _ 0 = _
        rw [passR_o (by omega) (by omega) (by decide) (by decide), j3, i3]
      · show passR _ 1 = _
        rw [passR_o (by omega) (by omega) (by decide) (by decide), j4, i4]
      · show passR _ 4 = _
        rw [passR_4, j7, i5]
        omega
  have := key n.toNat (by omega)
  rw [show ((n.toNat : Nat) : Int) = n by omega] at this
  exact this
theorem zVT_2 {R : zr} (hV : zVT R) {v : Int} (h : 0 ≤ v ∧ v ≤ 3) : zVT (ru R 2 v) := by
  obtain ⟨hV0, hV1, hV2, hV3, hV4, hV5, hVk, hVw⟩ := hV
  refine ⟨by rw [ru_n _ (by omega)]; exact hV0, by rw [ru_n _ (by omega)]; exact hV1, by rw [ru_s]; omega, by rw [ru_n _ (by omega)]; exact hV3, by rw [ru_n _ (by omega)]; exact hV4, by rw [ru_n _ (by omega)]; exact hV5, fun k q0 q1 => ?_, fun b q0 q1 => ?_⟩
  · rw [ru_n _ (by omega)] at q1
    rw [ru_n _ (by omega), ru_n _ (by omega), ru_n _ (by omega)]
    exact hVk k q0 q1
  · rw [ru_n _ (by omega)] at q1
    rw [ru_n _ (by omega), ru_n (j := 0) _ (by omega)]
    exact hVw b q0 q1
theorem zVT_5 {R : zr} (hV : zVT R) {v : Int} (h : 0 ≤ v ∧ v ≤ 99999) : zVT (ru R 5 v) := by
  obtain ⟨hV0, hV1, hV2, hV3, hV4, hV5, hVk, hVw⟩ := hV
  refine ⟨by rw [ru_n _ (by omega)]; exact hV0, by rw [ru_n _ (by omega)]; exact hV1, by rw [ru_n _ (by omega)]; exact hV2, by rw [ru_n _ (by omega)]; exact hV3, by rw [ru_n _ (by omega)]; exact hV4, by rw [ru_s]; omega, fun k q0 q1 => ?_, fun b q0 q1 => ?_⟩
  · rw [ru_n _ (by omega)] at q1
    rw [ru_n _ (by omega), ru_n _ (by omega), ru_n _ (by omega)]
    exact hVk k q0 q1
  · rw [ru_n _ (by omega)] at q1
    rw [ru_n _ (by omega), ru_n (j := 0) _ (by omega)]
    exact hVw b q0 q1
theorem zVT_w {R : zr} (hV : zVT R) {b v : Int} (hb : 0 ≤ b ∧ b < 8) (h : 0 ≤ v ∧ v < R 0) : zVT (ru R (30 + b) v) := by
  obtain ⟨hV0, hV1, hV2, hV3, hV4, hV5, hVk, hVw⟩ := hV
  refine ⟨by rw [ru_n _ (by omega)]; exact hV0, by rw [ru_n _ (by omega)]; exact hV1, by rw [ru_n _ (by omega)]; exact hV2, by rw [ru_n _ (by omega)]; exact hV3, by rw [ru_n _ (by omega)]; exact hV4, by rw [ru_n _ (by omega)]; exact hV5, fun k q0 q1 => ?_, fun c q0 q1 => ?_⟩
  · rw [ru_n _ (by omega)] at q1
    rw [ru_n _ (by omega), ru_n _ (by omega), ru_n _ (by omega)]
    exact hVk k q0 q1
  · rw [ru_n _ (by omega)] at q1
    rw [ru_n (j := 0) _ (by omega)]
    by_cases g : c = b
    · rw [g, ru_s]; exact h
    · rw [ru_n _ (by omega)]; exact hVw c q0 q1
theorem zVT_k {R : zr} (hV : zVT R) {s v : Int} (hs : 0 ≤ s ∧ s < 8) (h : 1 ≤ v ∧ v ≤ 5) : zVT (ru R (6 + s) v) := by
  obtain ⟨hV0, hV1, hV2, hV3, hV4, hV5, hVk, hVw⟩ := hV
  refine ⟨by rw [ru_n _ (by omega)]; exact hV0, by rw [ru_n _ (by omega)]; exact hV1, by rw [ru_n _ (by omega)]; exact hV2, by rw [ru_n _ (by omega)]; exact hV3, by rw [ru_n _ (by omega)]; exact hV4, by rw [ru_n _ (by omega)]; exact hV5, fun k q0 q1 => ?_, fun c q0 q1 => ?_⟩
  · rw [ru_n _ (by omega)] at q1
    have h3 := hVk k q0 q1
    rw [ru_n (j := 14 + k) _ (by omega), ru_n (j := 22 + k) _ (by omega)]
    refine ⟨?_, h3.2⟩
    by_cases g : k = s
    · rw [g, ru_s]; omega
    · rw [ru_n _ (by omega)]; exact h3.1
  · rw [ru_n _ (by omega)] at q1
    rw [ru_n _ (by omega), ru_n (j := 0) _ (by omega)]
    exact hVw c q0 q1
theorem zVT_d {R : zr} (hV : zVT R) {s v : Int} (hs : 0 ≤ s ∧ s < 8) (h : 0 ≤ v ∧ v ≤ 20) : zVT (ru R (14 + s) v) := by
  obtain ⟨hV0, hV1, hV2, hV3, hV4, hV5, hVk, hVw⟩ := hV
  refine ⟨by rw [ru_n _ (by omega)]; exact hV0, by rw [ru_n _ (by omega)]; exact hV1, by rw [ru_n _ (by omega)]; exact hV2, by rw [ru_n _ (by omega)]; exact hV3, by rw [ru_n _ (by omega)]; exact hV4, by rw [ru_n _ (by omega)]; exact hV5, fun k q0 q1 => ?_, fun c q0 q1 => ?_⟩
  · rw [ru_n _ (by omega)] at q1
    have h3 := hVk k q0 q1
    rw [ru_n (j := 6 + k) _ (by omega), ru_n (j := 22 + k) _ (by omega)]
    refine ⟨h3.1, ?_, h3.2.2⟩
    by_cases g : k = s
    · rw [g, ru_s]; omega
    · rw [ru_n _ (by omega)]; exact h3.2.1
  · rw [ru_n _ (by omega)] at q1
    rw [ru_n _ (by omega), ru_n (j := 0) _ (by omega)]
    exact hVw c q0 q1
theorem zVT_l {R : zr} (hV : zVT R) {s v : Int} (hs : 0 ≤ s ∧ s < 8) (h : 0 ≤ v ∧ v ≤ 60) : zVT (ru R (22 + s) v) := by
  obtain ⟨hV0, hV1, hV2, hV3, hV4, hV5, hVk, hVw⟩ := hV
  refine ⟨by rw [ru_n _ (by omega)]; exact hV0, by rw [ru_n _ (by omega)]; exact hV1, by rw [ru_n _ (by omega)]; exact hV2, by rw [ru_n _ (by omega)]; exact hV3, by rw [ru_n _ (by omega)]; exact hV4, by rw [ru_n _ (by omega)]; exact hV5, fun k q0 q1 => ?_, fun c q0 q1 => ?_⟩
  · rw [ru_n _ (by omega)] at q1
    have h3 := hVk k q0 q1
    rw [ru_n (j := 6 + k) _ (by omega), ru_n (j := 14 + k) _ (by omega)]
    refine ⟨h3.1, h3.2.1, ?_⟩
    by_cases g : k = s
    · rw [g, ru_s]; omega
    · rw [ru_n _ (by omega)]; exact h3.2.2
  · rw [ru_n _ (by omega)] at q1
    rw [ru_n _ (by omega), ru_n (j := 0) _ (by omega)]
    exact hVw c q0 q1
/-- what may be written into the row that is tried -/
def zSc (ι ι' : zi) : Prop := ∃ X, ι' = wp 38 X ι
theorem zSc.r (ι : zi) : zSc ι ι := ⟨wb 38 ι, (wp_wb 38 ι).symm⟩
end
section
theorem zi32_b (x : Int32) : zB x.toInt := by
  have h2 := Int32.toInt_lt x
  have h3 := Int32.le_toInt x
  exact ⟨by omega, by omega⟩
theorem zshl_b (x y : Int) : zB (zshl x y) := zi32_b _
theorem zshr_b (x y : Int) : zB (zshr x y) := zi32_b _
theorem zushr_b (x y : Int) : zB (zushr x y) := zi32_b _
theorem zor_b (x y : Int) : zB (zor x y) := zi32_b _
theorem zshl_8 {x : Int} (h0 : 0 ≤ x) (h1 : x ≤ 8) : zB (zshl 1 x - 1) := by
  rcases (show x = 0 ∨ x = 1 ∨ x = 2 ∨ x = 3 ∨ x = 4 ∨ x = 5 ∨ x = 6 ∨ x = 7 ∨ x = 8 by omega) with h | h | h | h | h | h | h | h | h <;> subst h <;> decide
end
section
variable {l : Launch} {C : zC} {M : zMt} {d pc : Nat} {ls : List (Option zV)} {st : List zV} {ι : zi}
theorem zGi_mono {Q Q' : Option zV → zi → Prop} (h : ∀ v x, Q v x → Q' v x) (k : zGi l C M d pc ls st ι Q) : zGi l C M d pc ls st ι Q' := by
  intro p e R MC MS s m args below meth c Z F E H locs cells slots la hH hL hc hs hl
  refine k p e R MC MS s m args below meth c Z F (fun v n σ H locs cells slots pc la q => ?_) H locs cells slots la hH hL hc hs hl
  obtain ⟨ι', h1, h2, h3⟩ := q
  exact E v n σ H locs cells slots pc la ⟨ι', h1, h2, h _ _ h3⟩
end
