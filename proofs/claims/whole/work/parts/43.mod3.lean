section
/-! the reference's acts, purely -/
theorem w0 (ι : zi) {i : Int} (h0 : 0 ≤ i) (h1 : i < 38) : wb 0 ι i = ι 179 i := by rw [wb_i 0 ι h0 h1, Int.zero_add]
theorem w38 (ι : zi) {i : Int} (h0 : 0 ≤ i) (h1 : i < 38) : wb 38 ι i = ι 179 (38 + i) := wb_i 38 ι h0 h1
/-- a town, or none: the ranges, a round where there are streets, an hour that may be told -/
def zTM (R : zr) : Prop := zVT R ∧ (0 < R 0 → 0 < R 1) ∧ R 4 ≤ 9999
theorem zmd_u {ι : zi} : zmd ι 178 1 = if ι 178 1 = 24 then 24 else ι 178 1 + 1 := by
  unfold zmd
  split
  · rw [iup_s]
  · rw [iup_s]
theorem zmd_o {ι : zi} (hu : 0 ≤ ι 178 1 ∧ ι 178 1 ≤ 24) {b : Nat} {x : Int} (h : (b ≠ 178 ∨ x ≠ 1) ∧ (b ≠ 179 ∨ x < 190 ∨ 1102 ≤ x)) : zmd ι b x = ι b x := by
  unfold zmd
  split
  · rw [iup_n _ (by omega), iup_n _ (by omega), wp_o _ _ _ (by omega), icpy_n _ (by omega)]
  · rw [iup_n _ (by omega), wp_o _ _ _ (by omega)]
theorem zmd_w {ι : zi} (hu : 0 ≤ ι 178 1 ∧ ι 178 1 ≤ 24) {r : Int} (hr : r + 38 ≤ 190) : wb r (zmd ι) = wb r ι := by
  funext j
  by_cases g : 0 ≤ j ∧ j < 38
  · rw [wb_i _ _ g.1 g.2, wb_i _ _ g.1 g.2, zmd_o hu (by omega)]
  · rw [wb_tz _ _ j (by omega), wb_tz _ _ j (by omega)]
theorem zmd_r1 {ι : zi} (h24 : ι 178 1 ≠ 24) {j : Int} : wb (190 + 38 * j) (zmd ι) = if j = ι 178 1 then wb 0 ι else wb (190 + 38 * j) ι := by
  unfold zmd
  rw [if_neg h24, wb_up (Or.inl (by decide))]
  split
  · rename_i e
    rw [e, wb_wp _ (wb_tz 0 ι)]
  · rename_i e
    rw [wb_wpo (by omega)]
theorem zmd_r2 {ι : zi} (h24 : ι 178 1 = 24) {j : Int} (h0 : 0 ≤ j) (h1 : j < 24) : wb (190 + 38 * j) (zmd ι) = if j = 23 then wb 0 ι else wb (190 + 38 * (j + 1)) ι := by
  unfold zmd
  rw [if_pos h24, wb_up (Or.inl (by decide)), wb_up (Or.inl (by decide))]
  split
  · rename_i e
    rw [e]
    exact wb_wp 1064 (wb_tz 0 ι) _
  · rename_i e
    rw [wb_wpo (by omega)]
    funext k
    by_cases g : 0 ≤ k ∧ k < 38
    · rw [wb_i _ _ g.1 g.2, wb_i _ _ g.1 g.2, icpy_i _ (by omega) (by omega)]
      congr 1
      omega
    · rw [wb_tz _ _ k (by omega), wb_tz _ _ k (by omega)]
/-! repeated steps -/
def zitN (f : zi → zi) : Nat → zi → zi
  | 0, ι => ι
  | n + 1, ι => f (zitN f n ι)
def zit (f : zi → zi) (n : Int) (ι : zi) : zi := zitN f n.toNat ι
theorem zit_0 (f : zi → zi) (ι : zi) : zit f 0 ι = ι := rfl
theorem zit_s (f : zi → zi) {n : Int} (h : 0 ≤ n) (ι : zi) : zit f (n + 1) ι = f (zit f n ι) := by
  unfold zit
  rw [show (n + 1).toNat = n.toNat + 1 by omega, zitN]
theorem zit_ind {f : zi → zi} {P : Int → zi → Prop} {ι : zi} (h0 : P 0 ι) {n : Int} (hs : ∀ i x, 0 ≤ i → i < n → P i x → P (i + 1) (f x)) (hn : 0 ≤ n) : P n (zit f n ι) := by
  have key : ∀ k : Nat, (k : Int) ≤ n → P k (zitN f k ι) := by
    intro k
    induction k with
    | zero => intro _; exact h0
    | succ k ih => intro hk; exact hs k _ (by omega) (by omega) (ih (by omega))
  have := key n.toNat (by omega)
  rw [show ((n.toNat : Nat) : Int) = n by omega] at this
  exact this
/-- an hour of the reference that may be undone -/
def zhM (ι : zi) : zi := wp 0 (passR (wb 0 ι)) (zmd ι)
theorem zhM_w {ι : zi} (h8 : wb 0 ι 0 ≤ 8) : wb 0 (zhM ι) = passR (wb 0 ι) := wb_wp 0 (passR_tz (wb_tz 0 ι) h8) _
theorem zhM_u {ι : zi} : zhM ι 178 1 = if ι 178 1 = 24 then 24 else ι 178 1 + 1 := by
  unfold zhM
  rw [wp_o _ _ _ (Or.inl (by decide)), zmd_u]
theorem zhM_it {ι : zi} (hV : zVT (wb 0 ι)) (hu : 0 ≤ ι 178 1 ∧ ι 178 1 ≤ 24) {n : Int} (hn : 0 ≤ n) (h4 : wb 0 ι 4 + n ≤ 20000) : wb 0 (zit zhM n ι) = pasI (wb 0 ι) n ∧ (0 ≤ zit zhM n ι 178 1 ∧ zit zhM n ι 178 1 ≤ 24) := by
  refine zit_ind (f := zhM) (P := fun i x => wb 0 x = pasI (wb 0 ι) i ∧ (0 ≤ x 178 1 ∧ x 178 1 ≤ 24)) ⟨rfl, hu⟩ (fun i x h0 h1 hp => ?_) hn
  obtain ⟨g1, -⟩ := pasI_V (wb_tz 0 ι) hV h0 (by omega)
  refine ⟨?_, ?_⟩
  · rw [zhM_w (by rw [hp.1]; exact g1.1.2), hp.1, pasI_s _ h0]
  · rw [zhM_u]
    split <;> omega
end
