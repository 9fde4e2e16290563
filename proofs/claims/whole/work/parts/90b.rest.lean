section
variable {l : Launch} {D : va_G} {ad : Nat → Nat} {L z : Nat} {ι : zi}
set_option maxRecDepth 100000 in
theorem c_mRestoreB {k : Int} (gk : ¬ (0 ≤ k ∧ k ≤ 1)) (hk : zB k) : zCi l (zc D ad L z) mX7_restore 1 [zR 178, zI k] ι (zP (zI (-1000001)) ι) := by
  refine zCt_of (by decide) (Nat.le_of_ble_eq_true rfl) 0 rfl ?_
  refine g_iload_n (x := k) rfl dX7_restore_0 ?_
  refine g_i2l ⟨by omega, by omega⟩ dX7_restore_1 ?_
  refine g_lconst (x := 0) (by decide) dX7_restore_2 ?_
  refine g_lconst (x := 1) (by decide) dX7_restore_3 ?_
  refine i_callSp msX7_in tw_876 (c_in ⟨by omega, by omega⟩ ⟨by omega, by omega⟩ ⟨by omega, by omega⟩) (by decide) (st' := []) rfl (Nat.le_of_ble_eq_true rfl) rfl dX7_restore_4 ?_
  refine g_nm (fun b4 hq0 => ?_)
  have hb4 : ((0 ≤ k ∧ k ≤ 1) ∧ b4 = 1) ∨ (¬ (0 ≤ k ∧ k ≤ 1) ∧ b4 = 0) := zb_c hq0
  clear hq0
  refine g_if_ne ⟨by omega, by omega⟩ (t := 13) dX7_restore_7 (by decide) (fun h7 => ?_) (fun h7 => ?_)
  · exfalso; omega
  · refine g_ldc (x := -1000001) tw_880 (by decide) dX7_restore_10 ?_
    exact i_iret rfl dX7_restore_12 (⟨rfl, rfl⟩)

end
