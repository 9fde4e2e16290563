section
variable {l : Launch} {D : va_G} {ad : Nat → Nat} {L z : Nat} {ι : zi}
theorem zand_1 (x : Int) : zand x 1 = 0 ∨ zand x 1 = 1 := by
  have h1 : ((Int32.ofInt x &&& Int32.ofInt 1).toBitVec).toNat = (Int32.ofInt x).toBitVec.toNat % 2 := by
    rw [Int32.toBitVec_and, BitVec.toNat_and]
    exact Nat.and_one_is_mod _
  have h2 : zand x 1 = (((Int32.ofInt x &&& Int32.ofInt 1).toBitVec).toNat : Int) := by
    unfold zand
    show (Int32.toBitVec _).toInt = _
    exact BitVec.toInt_eq_toNat_of_lt (by omega)
  omega
theorem zon_b (x : Int) : 0 ≤ zon x ∧ zon x ≤ 8 := by
  have := zsum_b (fun k => zand (zshr x k) 1) (i := 8) (M := 1) (by decide) (fun k _ _ => by have := zand_1 (zshr x k); show 0 ≤ zand (zshr x k) 1 ∧ zand (zshr x k) 1 ≤ 1; omega)
  unfold zon
  omega
theorem zshl_f {x : Int} (h0 : 1 ≤ x) (h1 : x ≤ 8) : 1 ≤ zshl 1 x - 1 ∧ zshl 1 x - 1 ≤ 255 := by
  rcases (show x = 1 ∨ x = 2 ∨ x = 3 ∨ x = 4 ∨ x = 5 ∨ x = 6 ∨ x = 7 ∨ x = 8 by omega) with h | h | h | h | h | h | h | h <;> subst h <;> decide
/-! posts -/
def zcj (r set k : Int) (a j : Int) : Int := if a = 1 ∨ (zand (zshr set j) 1 = 1 ∧ zabs (j - k) ≤ r) then 1 else 0
def zck (N r set : Int) (a k : Int) : Int := if a = 1 ∧ zfd (zcj r set k) 0 N = 1 then 1 else 0
def zcv (N r set : Int) : Int := zfd (zck N r set) 1 N
def zcb (N r f : Int) (best i : Int) : Int := if zcv N r (f - i) = 1 ∧ zon (f - i) ≤ zon best then f - i else best
def zco (N r : Int) : Int := zfd (zcb N r (zshl 1 N - 1)) (zshl 1 N - 1) (zshl 1 N - 1)
theorem zcj_01 {r set k : Int} {n : Int} (h : 0 ≤ n) : zfd (zcj r set k) 0 n = 0 ∨ zfd (zcj r set k) 0 n = 1 := by
  refine zfd_ind (f := zcj r set k) (P := fun _ (a : Int) => a = 0 ∨ a = 1) (Or.inl rfl) (fun i x _ _ _ => ?_) h
  unfold zcj
  split <;> simp
theorem zck_01 {N r set : Int} {n : Int} (h : 0 ≤ n) : zfd (zck N r set) 1 n = 0 ∨ zfd (zck N r set) 1 n = 1 := by
  refine zfd_ind (f := zck N r set) (P := fun _ (a : Int) => a = 0 ∨ a = 1) (Or.inr rfl) (fun i x _ _ _ => ?_) h
  unfold zck
  split <;> simp
theorem zcb_b {N r f : Int} (hf : 0 ≤ f) {n : Int} (h : 0 ≤ n) (h2 : n ≤ f) : 0 ≤ zfd (zcb N r f) f n ∧ zfd (zcb N r f) f n ≤ f := by
  refine zfd_ind (f := zcb N r f) (P := fun _ (a : Int) => 0 ≤ a ∧ a ≤ f) ⟨hf, Int.le_refl _⟩ (fun i x g0 g1 hx => ?_) h
  unfold zcb
  split
  · omega
  · exact hx
set_option maxRecDepth 100000 in
theorem lp_cover1 (hT : zTM (wb 0 ι)) (hN : 0 < wb 0 ι 0) {w be set : Int} (hset : 0 ≤ set ∧ set ≤ 255) {al k : Int} (hal : al = 0 ∨ al = 1) (hk : 0 ≤ k ∧ k < wb 0 ι 0) {Q : Option zV → zi → Prop} (hc : zGi l (zc D ad L z) mX7_cover 2 46 [some (zR 178), some (zI w), some (zI be), some (zI set), some (zI (zck (wb 0 ι 0) (wb 0 ι 2) set al k)), some (zI (k + 1)), none, none] [] ι Q) : ∀ j : Int, 0 ≤ j → j ≤ wb 0 ι 0 → zGi l (zc D ad L z) mX7_cover 2 63 [some (zR 178), some (zI w), some (zI be), some (zI set), some (zI al), some (zI k), some (zI (zfd (zcj (wb 0 ι 2) set k) 0 j)), some (zI j)] [] ι (Q) := by
  refine z_loopI (fun j h0 h1 ih => ?_)
  obtain ⟨hV, hNB, hH9⟩ := id hT
  obtain ⟨hV0, hV1, hV2, hV3, hV4, hV5, hVk, hVw⟩ := id hV
  have q0 := w0 ι (i := 0) (by decide) (by decide)
  have q1 := w0 ι (i := 1) (by decide) (by decide)
  have q2 := w0 ι (i := 2) (by decide) (by decide)
  have q4 := w0 ι (i := 4) (by decide) (by decide)
  have h01 := zcj_01 (r := (wb 0 ι 2)) (set := set) (k := k) h0
  refine g_iload (x := j) rfl dX7_cover_63 ?_
  refine g_aload_n (x := 178) rfl dX7_cover_65 ?_
  refine g_get fgX7_7 zcl_7 (congrArg Prod.fst sh_178) (by decide) rg_178_0 dX7_cover_66 ?_
  refine g_iconst (x := 0) rfl dX7_cover_69 ?_
  refine g_iald sh_179 (by decide) (by omega) (by omega) (by decide) ag_179 dX7_cover_70 ?_
  rw [← q0]
  refine g_icmp_ge ⟨by omega, by omega⟩ ⟨by omega, by omega⟩ (t := 117) dX7_cover_71 (by decide) (fun h71 => ?_) (fun h71 => ?_)
  · refine g_iload (x := al) rfl dX7_cover_117 ?_
    refine g_if_eq ⟨by omega, by omega⟩ (t := 131) dX7_cover_119 (by decide) (fun h119 => ?_) (fun h119 => ?_)
    · refine g_iconst (x := 0) rfl dX7_cover_131 ?_
      refine g_nm (fun x4 hx4 => ?_)
      refine g_istore (ls' := [some (zR 178), some (zI w), some (zI be), some (zI set), some (zI x4), some (zI k), some (zI (zfd (zcj (wb 0 ι 2) set k) 0 j)), some (zI j)]) dX7_cover_132 (by decide) rfl ?_
      refine g_iinc (x := k) (y := k + 1) (ls' := [some (zR 178), some (zI w), some (zI be), some (zI set), some (zI x4), some (zI (k + 1)), some (zI (zfd (zcj (wb 0 ι 2) set k) 0 j)), some (zI j)]) dX7_cover_134 rfl (rfl) (by decide) rfl ?_
      refine g_goto (t := 46) dX7_cover_137 (by decide) ?_
      have ej : j = wb 0 ι 0 := by omega
      subst ej
      rw [show zck (wb 0 ι 0) (wb 0 ι 2) set al k = x4 by rw [hx4]; first | exact if_pos (by omega) | exact if_neg (by omega)] at hc
      exact g_drop (by repeat' constructor) hc
    · refine g_iload (x := (zfd (zcj (wb 0 ι 2) set k) 0 j)) rfl dX7_cover_122 ?_
      refine g_if_eq ⟨by omega, by omega⟩ (t := 131) dX7_cover_124 (by decide) (fun h124 => ?_) (fun h124 => ?_)
      · refine g_iconst (x := 0) rfl dX7_cover_131 ?_
        refine g_nm (fun x4 hx4 => ?_)
        refine g_istore (ls' := [some (zR 178), some (zI w), some (zI be), some (zI set), some (zI x4), some (zI k), some (zI (zfd (zcj (wb 0 ι 2) set k) 0 j)), some (zI j)]) dX7_cover_132 (by decide) rfl ?_
        refine g_iinc (x := k) (y := k + 1) (ls' := [some (zR 178), some (zI w), some (zI be), some (zI set), some (zI x4), some (zI (k + 1)), some (zI (zfd (zcj (wb 0 ι 2) set k) 0 j)), some (zI j)]) dX7_cover_134 rfl (rfl) (by decide) rfl ?_
        refine g_goto (t := 46) dX7_cover_137 (by decide) ?_
        have ej : j = wb 0 ι 0 := by omega
        subst ej
        rw [show zck (wb 0 ι 0) (wb 0 ι 2) set al k = x4 by rw [hx4]; first | exact if_pos (by omega) | exact if_neg (by omega)] at hc
        exact g_drop (by repeat' constructor) hc
      · refine g_iconst (x := 1) rfl dX7_cover_127 ?_
        refine g_goto (t := 132) dX7_cover_128 (by decide) ?_
        refine g_nm (fun x4 hx4 => ?_)
        refine g_istore (ls' := [some (zR 178), some (zI w), some (zI be), some (zI set), some (zI x4), some (zI k), some (zI (zfd (zcj (wb 0 ι 2) set k) 0 j)), some (zI j)]) dX7_cover_132 (by decide) rfl ?_
        refine g_iinc (x := k) (y := k + 1) (ls' := [some (zR 178), some (zI w), some (zI be), some (zI set), some (zI x4), some (zI (k + 1)), some (zI (zfd (zcj (wb 0 ι 2) set k) 0 j)), some (zI j)]) dX7_cover_134 rfl (rfl) (by decide) rfl ?_
        refine g_goto (t := 46) dX7_cover_137 (by decide) ?_
        have ej : j = wb 0 ι 0 := by omega
        subst ej
        rw [show zck (wb 0 ι 0) (wb 0 ι 2) set al k = x4 by rw [hx4]; first | exact if_pos (by omega) | exact if_neg (by omega)] at hc
        exact g_drop (by repeat' constructor) hc
  · refine g_iload (x := (zfd (zcj (wb 0 ι 2) set k) 0 j)) rfl dX7_cover_74 ?_
    refine g_if_ne ⟨by omega, by omega⟩ (t := 104) dX7_cover_76 (by decide) (fun h76 => ?_) (fun h76 => ?_)
    · refine g_iconst (x := 1) rfl dX7_cover_104 ?_
      refine g_goto (t := 109) dX7_cover_105 (by decide) ?_
      refine g_nm (fun x6 hx6 => ?_)
      refine g_istore (ls' := [some (zR 178), some (zI w), some (zI be), some (zI set), some (zI al), some (zI k), some (zI x6), some (zI j)]) dX7_cover_109 (by decide) rfl ?_
      refine g_iinc (x := j) (y := j + 1) (ls' := [some (zR 178), some (zI w), some (zI be), some (zI set), some (zI al), some (zI k), some (zI x6), some (zI (j + 1))]) dX7_cover_111 rfl (rfl) (by decide) rfl ?_
      refine g_goto (t := 63) dX7_cover_114 (by decide) ?_
      have hh := ih (by omega)
      rw [zfd_s _ _ h0, show zcj (wb 0 ι 2) set k (zfd (zcj (wb 0 ι 2) set k) 0 j) j = x6 by rw [hx6]; first | exact if_pos (by omega) | exact if_neg (by omega)] at hh
      exact hh
    · refine g_iload_n (x := set) rfl dX7_cover_79 ?_
      refine g_iload (x := j) rfl dX7_cover_80 ?_
      refine i_callSp msX7_has tw_1081 (c_has) (by decide) (st' := []) rfl (Nat.le_of_ble_eq_true rfl) rfl dX7_cover_82 ?_
      refine g_nm (fun b82 hq0 => ?_)
      have hb82 : ((zand (zshr set j) 1 = 1) ∧ b82 = 1) ∨ (¬ (zand (zshr set j) 1 = 1) ∧ b82 = 0) := zb_c hq0
      clear hq0
      refine g_if_eq ⟨by omega, by omega⟩ (t := 108) dX7_cover_85 (by decide) (fun h85 => ?_) (fun h85 => ?_)
      · refine g_iconst (x := 0) rfl dX7_cover_108 ?_
        refine g_nm (fun x6 hx6 => ?_)
        refine g_istore (ls' := [some (zR 178), some (zI w), some (zI be), some (zI set), some (zI al), some (zI k), some (zI x6), some (zI j)]) dX7_cover_109 (by decide) rfl ?_
        refine g_iinc (x := j) (y := j + 1) (ls' := [some (zR 178), some (zI w), some (zI be), some (zI set), some (zI al), some (zI k), some (zI x6), some (zI (j + 1))]) dX7_cover_111 rfl (rfl) (by decide) rfl ?_
        refine g_goto (t := 63) dX7_cover_114 (by decide) ?_
        have hh := ih (by omega)
        rw [zfd_s _ _ h0, show zcj (wb 0 ι 2) set k (zfd (zcj (wb 0 ι 2) set k) 0 j) j = x6 by rw [hx6]; first | exact if_pos (by omega) | exact if_neg (by omega)] at hh
        exact hh
      · refine g_iload (x := j) rfl dX7_cover_88 ?_
        refine g_iload (x := k) rfl dX7_cover_90 ?_
        refine i_callSp msX7_gap tw_984 (c_gap ⟨by omega, by omega⟩ ⟨by omega, by omega⟩) (by decide) (st' := []) rfl (Nat.le_of_ble_eq_true rfl) rfl dX7_cover_92 ?_
        refine g_aload_n (x := 178) rfl dX7_cover_95 ?_
        refine g_get fgX7_7 zcl_7 (congrArg Prod.fst sh_178) (by decide) rg_178_0 dX7_cover_96 ?_
        refine g_iconst (x := 2) rfl dX7_cover_99 ?_
        refine g_iald sh_179 (by decide) (by omega) (by omega) (by decide) ag_179 dX7_cover_100 ?_
        rw [← q2]
        have hzb : 0 ≤ zabs (j - k) ∧ zabs (j - k) ≤ 8 := by unfold zabs; split <;> omega
        refine g_icmp_gt ⟨by omega, by omega⟩ ⟨by omega, by omega⟩ (t := 108) dX7_cover_101 (by decide) (fun h101 => ?_) (fun h101 => ?_)
        · refine g_iconst (x := 0) rfl dX7_cover_108 ?_
          refine g_nm (fun x6 hx6 => ?_)
          refine g_istore (ls' := [some (zR 178), some (zI w), some (zI be), some (zI set), some (zI al), some (zI k), some (zI x6), some (zI j)]) dX7_cover_109 (by decide) rfl ?_
          refine g_iinc (x := j) (y := j + 1) (ls' := [some (zR 178), some (zI w), some (zI be), some (zI set), some (zI al), some (zI k), some (zI x6), some (zI (j + 1))]) dX7_cover_111 rfl (rfl) (by decide) rfl ?_
          refine g_goto (t := 63) dX7_cover_114 (by decide) ?_
          have hh := ih (by omega)
          rw [zfd_s _ _ h0, show zcj (wb 0 ι 2) set k (zfd (zcj (wb 0 ι 2) set k) 0 j) j = x6 by rw [hx6]; first | exact if_pos (by omega) | exact if_neg (by omega)] at hh
          exact hh
        · refine g_iconst (x := 1) rfl dX7_cover_104 ?_
          refine g_goto (t := 109) dX7_cover_105 (by decide) ?_
          refine g_nm (fun x6 hx6 => ?_)
          refine g_istore (ls' := [some (zR 178), some (zI w), some (zI be), some (zI set), some (zI al), some (zI k), some (zI x6), some (zI j)]) dX7_cover_109 (by decide) rfl ?_
          refine g_iinc (x := j) (y := j + 1) (ls' := [some (zR 178), some (zI w), some (zI be), some (zI set), some (zI al), some (zI k), some (zI x6), some (zI (j + 1))]) dX7_cover_111 rfl (rfl) (by decide) rfl ?_
          refine g_goto (t := 63) dX7_cover_114 (by decide) ?_
          have hh := ih (by omega)
          rw [zfd_s _ _ h0, show zcj (wb 0 ι 2) set k (zfd (zcj (wb 0 ι 2) set k) 0 j) j = x6 by rw [hx6]; first | exact if_pos (by omega) | exact if_neg (by omega)] at hh
          exact hh

set_option maxRecDepth 100000 in
theorem lp_cover2 (hT : zTM (wb 0 ι)) (hN : 0 < wb 0 ι 0) {w be set : Int} (hset : 0 ≤ set ∧ set ≤ 255) (hbe : 0 ≤ be ∧ be ≤ 255) {Q : Option zV → zi → Prop} (hc : zGi l (zc D ad L z) mX7_cover 2 36 [some (zR 178), some (zI w), some (zI (if zcv (wb 0 ι 0) (wb 0 ι 2) set = 1 ∧ zon set ≤ zon be then set else be)), some (zI (set - 1)), none, none, none, none] [] ι Q) : ∀ k : Int, 0 ≤ k → k ≤ wb 0 ι 0 → zGi l (zc D ad L z) mX7_cover 2 46 [some (zR 178), some (zI w), some (zI be), some (zI set), some (zI (zfd (zck (wb 0 ι 0) (wb 0 ι 2) set) 1 k)), some (zI k), none, none] [] ι (Q) := by
  refine z_loopI (fun k h0 h1 ih => ?_)
  obtain ⟨hV, hNB, hH9⟩ := id hT
  obtain ⟨hV0, hV1, hV2, hV3, hV4, hV5, hVk, hVw⟩ := id hV
  have q0 := w0 ι (i := 0) (by decide) (by decide)
  have q1 := w0 ι (i := 1) (by decide) (by decide)
  have q2 := w0 ι (i := 2) (by decide) (by decide)
  have q4 := w0 ι (i := 4) (by decide) (by decide)
  have h01 := zck_01 (N := (wb 0 ι 0)) (r := (wb 0 ι 2)) (set := set) h0
  refine g_iload (x := k) rfl dX7_cover_46 ?_
  refine g_aload_n (x := 178) rfl dX7_cover_48 ?_
  refine g_get fgX7_7 zcl_7 (congrArg Prod.fst sh_178) (by decide) rg_178_0 dX7_cover_49 ?_
  refine g_iconst (x := 0) rfl dX7_cover_52 ?_
  refine g_iald sh_179 (by decide) (by omega) (by omega) (by decide) ag_179 dX7_cover_53 ?_
  rw [← q0]
  refine g_icmp_ge ⟨by omega, by omega⟩ ⟨by omega, by omega⟩ (t := 140) dX7_cover_54 (by decide) (fun h54 => ?_) (fun h54 => ?_)
  · have ek : k = wb 0 ι 0 := by omega
    have ev : zfd (zck (wb 0 ι 0) (wb 0 ι 2) set) 1 k = zcv (wb 0 ι 0) (wb 0 ι 2) set := by rw [ek]; rfl
    rw [ev] at h01 ⊢
    have hz1 := zon_b set
    have hz2 := zon_b be
    refine g_iload (x := (zcv (wb 0 ι 0) (wb 0 ι 2) set)) rfl dX7_cover_140 ?_
    refine g_if_eq ⟨by omega, by omega⟩ (t := 160) dX7_cover_142 (by decide) (fun h142 => ?_) (fun h142 => ?_)
    · refine g_iload_n (x := be) rfl dX7_cover_160 ?_
      refine g_nm (fun x2 hx2 => ?_)
      refine g_istore_n (ls' := [some (zR 178), some (zI w), some (zI x2), some (zI set), some (zI (zcv (wb 0 ι 0) (wb 0 ι 2) set)), some (zI k), none, none]) dX7_cover_161 (by decide) rfl ?_
      refine g_iinc (x := set) (y := set + (-1)) (ls' := [some (zR 178), some (zI w), some (zI x2), some (zI (set + (-1))), some (zI (zcv (wb 0 ι 0) (wb 0 ι 2) set)), some (zI k), none, none]) dX7_cover_162 rfl (rfl) (by decide) rfl ?_
      refine g_goto (t := 36) dX7_cover_165 (by decide) ?_
      rw [show (if zcv (wb 0 ι 0) (wb 0 ι 2) set = 1 ∧ zon set ≤ zon be then set else be) = x2 by rw [hx2]; first | exact if_pos (by omega) | exact if_neg (by omega)] at hc
      exact g_drop (by repeat' constructor) hc
    · refine g_iload_n (x := set) rfl dX7_cover_145 ?_
      refine i_callSp msX7_ones tw_1069 (c_ones) (by decide) (st' := []) rfl (Nat.le_of_ble_eq_true rfl) rfl dX7_cover_146 ?_
      refine g_iload_n (x := be) rfl dX7_cover_149 ?_
      refine i_callSp msX7_ones tw_1069 (c_ones) (by decide) (st' := [zI (zon set)]) rfl (Nat.le_of_ble_eq_true rfl) rfl dX7_cover_150 ?_
      refine g_icmp_gt ⟨by omega, by omega⟩ ⟨by omega, by omega⟩ (t := 160) dX7_cover_153 (by decide) (fun h153 => ?_) (fun h153 => ?_)
      · refine g_iload_n (x := be) rfl dX7_cover_160 ?_
        refine g_nm (fun x2 hx2 => ?_)
        refine g_istore_n (ls' := [some (zR 178), some (zI w), some (zI x2), some (zI set), some (zI (zcv (wb 0 ι 0) (wb 0 ι 2) set)), some (zI k), none, none]) dX7_cover_161 (by decide) rfl ?_
        refine g_iinc (x := set) (y := set + (-1)) (ls' := [some (zR 178), some (zI w), some (zI x2), some (zI (set + (-1))), some (zI (zcv (wb 0 ι 0) (wb 0 ι 2) set)), some (zI k), none, none]) dX7_cover_162 rfl (rfl) (by decide) rfl ?_
        refine g_goto (t := 36) dX7_cover_165 (by decide) ?_
        rw [show (if zcv (wb 0 ι 0) (wb 0 ι 2) set = 1 ∧ zon set ≤ zon be then set else be) = x2 by rw [hx2]; first | exact if_pos (by omega) | exact if_neg (by omega)] at hc
        exact g_drop (by repeat' constructor) hc
      · refine g_iload_n (x := set) rfl dX7_cover_156 ?_
        refine g_goto (t := 161) dX7_cover_157 (by decide) ?_
        refine g_nm (fun x2 hx2 => ?_)
        refine g_istore_n (ls' := [some (zR 178), some (zI w), some (zI x2), some (zI set), some (zI (zcv (wb 0 ι 0) (wb 0 ι 2) set)), some (zI k), none, none]) dX7_cover_161 (by decide) rfl ?_
        refine g_iinc (x := set) (y := set + (-1)) (ls' := [some (zR 178), some (zI w), some (zI x2), some (zI (set + (-1))), some (zI (zcv (wb 0 ι 0) (wb 0 ι 2) set)), some (zI k), none, none]) dX7_cover_162 rfl (rfl) (by decide) rfl ?_
        refine g_goto (t := 36) dX7_cover_165 (by decide) ?_
        rw [show (if zcv (wb 0 ι 0) (wb 0 ι 2) set = 1 ∧ zon set ≤ zon be then set else be) = x2 by rw [hx2]; first | exact if_pos (by omega) | exact if_neg (by omega)] at hc
        exact g_drop (by repeat' constructor) hc
  · refine g_iconst (x := 0) rfl dX7_cover_57 ?_
    refine g_istore (ls' := [some (zR 178), some (zI w), some (zI be), some (zI set), some (zI (zfd (zck (wb 0 ι 0) (wb 0 ι 2) set) 1 k)), some (zI k), some (zI 0), none]) dX7_cover_58 (by decide) rfl ?_
    refine g_iconst (x := 0) rfl dX7_cover_60 ?_
    refine g_istore (ls' := [some (zR 178), some (zI w), some (zI be), some (zI set), some (zI (zfd (zck (wb 0 ι 0) (wb 0 ι 2) set) 1 k)), some (zI k), some (zI 0), some (zI 0)]) dX7_cover_61 (by decide) rfl ?_
    have hh := lp_cover1 (l := l) (D := D) (ad := ad) (L := L) (z := z) hT hN (w := w) (be := be) (set := set) hset (al := zfd (zck (wb 0 ι 0) (wb 0 ι 2) set) 1 k) (k := k) h01 (by omega) (Q := Q) (by have hh := ih (by omega); rw [zfd_s _ _ h0] at hh; exact hh) 0 (by omega) (by omega)
    rw [zfd_0] at hh
    exact hh

set_option maxRecDepth 100000 in
theorem lp_cover3 (hT : zTM (wb 0 ι)) (hN : 0 < wb 0 ι 0) {w : Int} (hw : 0 ≤ w ∧ w ≤ 1) : ∀ i : Int, 0 ≤ i → i ≤ (zshl 1 (wb 0 ι 0) - 1) → zGi l (zc D ad L z) mX7_cover 2 36 [some (zR 178), some (zI w), some (zI (zfd (zcb (wb 0 ι 0) (wb 0 ι 2) (zshl 1 (wb 0 ι 0) - 1)) (zshl 1 (wb 0 ι 0) - 1) i)), some (zI ((zshl 1 (wb 0 ι 0) - 1) - i)), none, none, none, none] [] ι (zP (zI (if w = 0 then zon (zco (wb 0 ι 0) (wb 0 ι 2)) else zco (wb 0 ι 0) (wb 0 ι 2))) ι) := by
  refine z_loopI (fun i h0 h1 ih => ?_)
  obtain ⟨hV, hNB, hH9⟩ := id hT
  obtain ⟨hV0, hV1, hV2, hV3, hV4, hV5, hVk, hVw⟩ := id hV
  have q0 := w0 ι (i := 0) (by decide) (by decide)
  have q1 := w0 ι (i := 1) (by decide) (by decide)
  have q2 := w0 ι (i := 2) (by decide) (by decide)
  have q4 := w0 ι (i := 4) (by decide) (by decide)
  have hf := zshl_f (x := (wb 0 ι 0)) (by omega) (by omega)
  have hbb := zcb_b (N := (wb 0 ι 0)) (r := (wb 0 ι 2)) (f := (zshl 1 (wb 0 ι 0) - 1)) (by omega) h0 h1
  refine g_iload_n (x := ((zshl 1 (wb 0 ι 0) - 1) - i)) rfl dX7_cover_36 ?_
  refine g_if_le ⟨by omega, by omega⟩ (t := 168) dX7_cover_37 (by decide) (fun h37 => ?_) (fun h37 => ?_)
  · have ei : i = (zshl 1 (wb 0 ι 0) - 1) := by omega
    have ev : zfd (zcb (wb 0 ι 0) (wb 0 ι 2) (zshl 1 (wb 0 ι 0) - 1)) (zshl 1 (wb 0 ι 0) - 1) i = zco (wb 0 ι 0) (wb 0 ι 2) := by rw [ei]; rfl
    rw [ev]
    refine g_iload_n (x := w) rfl dX7_cover_168 ?_
    refine g_if_ne ⟨by omega, by omega⟩ (t := 179) dX7_cover_169 (by decide) (fun h169 => ?_) (fun h169 => ?_)
    · refine g_iload_n (x := (zco (wb 0 ι 0) (wb 0 ι 2))) rfl dX7_cover_179 ?_
      exact i_iret rfl dX7_cover_180 (⟨by rw [if_neg (by omega)], rfl⟩)
    · refine g_iload_n (x := (zco (wb 0 ι 0) (wb 0 ι 2))) rfl dX7_cover_172 ?_
      refine i_callSp msX7_ones tw_1069 (c_ones) (by decide) (st' := []) rfl (Nat.le_of_ble_eq_true rfl) rfl dX7_cover_173 ?_
      refine g_goto (t := 180) dX7_cover_176 (by decide) ?_
      exact i_iret rfl dX7_cover_180 (⟨by rw [if_pos (by omega)], rfl⟩)
  · refine g_iconst (x := 1) rfl dX7_cover_40 ?_
    refine g_istore (ls' := [some (zR 178), some (zI w), some (zI (zfd (zcb (wb 0 ι 0) (wb 0 ι 2) (zshl 1 (wb 0 ι 0) - 1)) (zshl 1 (wb 0 ι 0) - 1) i)), some (zI ((zshl 1 (wb 0 ι 0) - 1) - i)), some (zI 1), none, none, none]) dX7_cover_41 (by decide) rfl ?_
    refine g_iconst (x := 0) rfl dX7_cover_43 ?_
    refine g_istore (ls' := [some (zR 178), some (zI w), some (zI (zfd (zcb (wb 0 ι 0) (wb 0 ι 2) (zshl 1 (wb 0 ι 0) - 1)) (zshl 1 (wb 0 ι 0) - 1) i)), some (zI ((zshl 1 (wb 0 ι 0) - 1) - i)), some (zI 1), some (zI 0), none, none]) dX7_cover_44 (by decide) rfl ?_
    have hh := lp_cover2 (l := l) (D := D) (ad := ad) (L := L) (z := z) hT hN (w := w) (be := zfd (zcb (wb 0 ι 0) (wb 0 ι 2) (zshl 1 (wb 0 ι 0) - 1)) (zshl 1 (wb 0 ι 0) - 1) i) (set := (zshl 1 (wb 0 ι 0) - 1) - i) (by omega) (by omega) (Q := zP (zI (if w = 0 then zon (zco (wb 0 ι 0) (wb 0 ι 2)) else zco (wb 0 ι 0) (wb 0 ι 2))) ι) (by have hh := ih (by omega); rw [zfd_s _ _ h0, show (zshl 1 (wb 0 ι 0) - 1) - (i + 1) = (zshl 1 (wb 0 ι 0) - 1) - i - 1 by omega] at hh; exact hh) 0 (by omega) (by omega)
    rw [zfd_0] at hh
    exact hh

set_option maxRecDepth 100000 in
theorem c_mCover (hT : zTM (wb 0 ι)) {w : Int} (hw : zB w) : zCi l (zc D ad L z) mX7_cover 2 [zR 178, zI w] ι (zP (zI (if ¬ (0 < wb 0 ι 0) then -1000002 else if ¬ (0 ≤ w ∧ w ≤ 1) then -1000001 else if w = 0 then zon (zco (wb 0 ι 0) (wb 0 ι 2)) else zco (wb 0 ι 0) (wb 0 ι 2))) ι) := by
  refine zCt_of (by decide) (Nat.le_of_ble_eq_true rfl) 6 rfl ?_
  obtain ⟨hV, hNB, hH9⟩ := id hT
  obtain ⟨hV0, hV1, hV2, hV3, hV4, hV5, hVk, hVw⟩ := id hV
  have q0 := w0 ι (i := 0) (by decide) (by decide)
  have q1 := w0 ι (i := 1) (by decide) (by decide)
  have q2 := w0 ι (i := 2) (by decide) (by decide)
  have q4 := w0 ι (i := 4) (by decide) (by decide)
  refine g_aload_n (x := 178) rfl dX7_cover_0 ?_
  refine i_callVp mvX7_isTown tw_962 (ci := 7) (congrArg Prod.fst sh_178) rfl (by decide) (c_isTown (by omega)) (by decide) (st' := []) rfl (Nat.le_of_ble_eq_true rfl) rfl dX7_cover_1 ?_
  refine g_nm (fun b1 hq0 => ?_)
  have hb1 : ((0 < ι 179 0) ∧ b1 = 1) ∨ (¬ (0 < ι 179 0) ∧ b1 = 0) := zb_c hq0
  clear hq0
  refine g_if_ne ⟨by omega, by omega⟩ (t := 10) dX7_cover_4 (by decide) (fun h4 => ?_) (fun h4 => ?_)
  · refine g_iload_n (x := w) rfl dX7_cover_10 ?_
    refine g_i2l ⟨by omega, by omega⟩ dX7_cover_11 ?_
    refine g_lconst (x := 0) (by decide) dX7_cover_12 ?_
    refine g_lconst (x := 1) (by decide) dX7_cover_13 ?_
    refine i_callSp msX7_in tw_876 (c_in ⟨by omega, by omega⟩ ⟨by omega, by omega⟩ ⟨by omega, by omega⟩) (by decide) (st' := []) rfl (Nat.le_of_ble_eq_true rfl) rfl dX7_cover_14 ?_
    refine g_nm (fun b14 hq0 => ?_)
    have hb14 : ((0 ≤ w ∧ w ≤ 1) ∧ b14 = 1) ∨ (¬ (0 ≤ w ∧ w ≤ 1) ∧ b14 = 0) := zb_c hq0
    clear hq0
    refine g_if_ne ⟨by omega, by omega⟩ (t := 23) dX7_cover_17 (by decide) (fun h17 => ?_) (fun h17 => ?_)
    · refine g_iconst (x := 1) rfl dX7_cover_23 ?_
      refine g_aload_n (x := 178) rfl dX7_cover_24 ?_
      refine g_get fgX7_7 zcl_7 (congrArg Prod.fst sh_178) (by decide) rg_178_0 dX7_cover_25 ?_
      refine g_iconst (x := 0) rfl dX7_cover_28 ?_
      refine g_iald sh_179 (by decide) (by omega) (by omega) (by decide) ag_179 dX7_cover_29 ?_
      refine g_ishl dX7_cover_30 ?_
      refine g_iconst (x := 1) rfl dX7_cover_31 ?_
      refine g_isub dX7_cover_32 ?_
      rw [← q0]
      refine g_istore_n (ls' := [some (zR 178), some (zI w), some (zI ((zshl 1 (wb 0 ι 0)) - 1)), none, none, none, none, none]) dX7_cover_33 (by decide) rfl ?_
      refine g_iload_n (x := ((zshl 1 (wb 0 ι 0)) - 1)) rfl dX7_cover_34 ?_
      refine g_istore_n (ls' := [some (zR 178), some (zI w), some (zI ((zshl 1 (wb 0 ι 0)) - 1)), some (zI ((zshl 1 (wb 0 ι 0)) - 1)), none, none, none, none]) dX7_cover_35 (by decide) rfl ?_
      rw [if_neg (by omega), if_neg (by omega)]
      have hf := zshl_f (x := (wb 0 ι 0)) (by omega) (by omega)
      have hh := lp_cover3 (l := l) (D := D) (ad := ad) (L := L) (z := z) hT (by omega) (w := w) (by omega) 0 (by omega) (by omega)
      rw [zfd_0, Int.sub_zero] at hh
      exact hh
    · refine g_ldc (x := -1000001) tw_880 (by decide) dX7_cover_20 ?_
      exact i_iret rfl dX7_cover_22 (⟨by rw [if_neg (by omega), if_pos (by omega)], rfl⟩)
  · refine g_ldc (x := -1000002) tw_966 (by decide) dX7_cover_7 ?_
    exact i_iret rfl dX7_cover_9 (⟨by rw [if_pos (by omega)], rfl⟩)

end
