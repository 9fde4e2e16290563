section
variable {l : Launch} {C : zC} {M : zMt} {d mc ms pc : Nat} {ls : List (Option zV)} {st : List zV} {n : Nat} {σ : zM} {Q : Option zV → Nat → zM → Prop}
theorem g_iconst {i x : Int} (hv : i = x) (hdg : decode M.2.1 pc = .ok (.iconst i, 1)) (k : zGo l C M d mc ms (pc + 1) ls (zI x :: st) n σ Q) : zGo l C M d mc ms pc ls (st) n σ Q := by
  intro p e R MC MS s m args below meth c Z F E H locs cells slots la hH hL hc hs hl
  refine lv_iconst (v := Int32.ofInt x) F.1 F.2.1 hdg (by rw [hv]) ?_
  exact k p e R MC MS s m args below meth c Z F E H locs cells slots la hH hL hc hs hl
theorem g_bipush {i x : Int} (hv : (Int8.ofInt i).toInt32 = Int32.ofInt x) (hdg : decode M.2.1 pc = .ok (.bipush i, 2)) (k : zGo l C M d mc ms (pc + 2) ls (zI x :: st) n σ Q) : zGo l C M d mc ms pc ls (st) n σ Q := by
  intro p e R MC MS s m args below meth c Z F E H locs cells slots la hH hL hc hs hl
  refine lv_bipush F.1 F.2.1 hdg hv ?_
  exact k p e R MC MS s m args below meth c Z F E H locs cells slots la hH hL hc hs hl
theorem g_sipush {i x : Int} (hv : (Int16.ofInt i).toInt32 = Int32.ofInt x) (hdg : decode M.2.1 pc = .ok (.sipush i, 3)) (k : zGo l C M d mc ms (pc + 3) ls (zI x :: st) n σ Q) : zGo l C M d mc ms pc ls (st) n σ Q := by
  intro p e R MC MS s m args below meth c Z F E H locs cells slots la hH hL hc hs hl
  refine lv_sipush F.1 F.2.1 hdg hv ?_
  exact k p e R MC MS s m args below meth c Z F E H locs cells slots la hH hL hc hs hl
theorem g_lconst {i : Fin 2} {x : Int} (hv : Int64.ofNat (i : Nat) = Int64.ofInt x) (hdg : decode M.2.1 pc = .ok (.lconst i, 1)) (k : zGo l C M d mc ms (pc + 1) ls (zL x :: st) n σ Q) : zGo l C M d mc ms pc ls (st) n σ Q := by
  intro p e R MC MS s m args below meth c Z F E H locs cells slots la hH hL hc hs hl
  refine lv_lconst F.1 F.2.1 hdg hv ?_
  exact k p e R MC MS s m args below meth c Z F E H locs cells slots la hH hL hc hs hl
theorem g_ldc {i : Nat} {v : Int32} {x : Int} (hw : Cond.constant M.1.cls i v ∈ ztb) (hv : v = Int32.ofInt x) (hdg : decode M.2.1 pc = .ok (.ldc i, 2)) (k : zGo l C M d mc ms (pc + 2) ls (zI x :: st) n σ Q) : zGo l C M d mc ms pc ls (st) n σ Q := by
  intro p e R MC MS s m args below meth c Z F E H locs cells slots la hH hL hc hs hl
  refine lv_ldc (v := Int32.ofInt x) F.1 F.2.1 F.2.2.2.1 (by rw [← hv]; exact F.2.2.2.2.1 _ hw) hdg ?_
  exact k p e R MC MS s m args below meth c Z F E H locs cells slots la hH hL hc hs hl
theorem g_ldcw {i : Nat} {v : Int32} {x : Int} (hw : Cond.constant M.1.cls i v ∈ ztb) (hv : v = Int32.ofInt x) (hdg : decode M.2.1 pc = .ok (.ldc_w i, 3)) (k : zGo l C M d mc ms (pc + 3) ls (zI x :: st) n σ Q) : zGo l C M d mc ms pc ls (st) n σ Q := by
  intro p e R MC MS s m args below meth c Z F E H locs cells slots la hH hL hc hs hl
  refine lv_ldcw (v := Int32.ofInt x) F.1 F.2.1 F.2.2.2.1 (by rw [← hv]; exact F.2.2.2.2.1 _ hw) hdg ?_
  exact k p e R MC MS s m args below meth c Z F E H locs cells slots la hH hL hc hs hl
theorem g_ldc2 {i : Nat} {v : Int64} {x : Int} (hw : Cond.constantLong M.1.cls i v ∈ ztb) (hv : v = Int64.ofInt x) (hdg : decode M.2.1 pc = .ok (.ldc2_w i, 3)) (k : zGo l C M d mc ms (pc + 3) ls (zL x :: st) n σ Q) : zGo l C M d mc ms pc ls (st) n σ Q := by
  intro p e R MC MS s m args below meth c Z F E H locs cells slots la hH hL hc hs hl
  refine lv_ldc2 (v := Int64.ofInt x) F.1 F.2.1 F.2.2.2.1 (by rw [← hv]; exact F.2.2.2.2.1 _ hw) hdg ?_
  exact k p e R MC MS s m args below meth c Z F E H locs cells slots la hH hL hc hs hl
theorem g_iload_n {i : Fin 4} {x : Int} (hv : ls[(i : Nat)]? = some (some (zI x))) (hdg : decode M.2.1 pc = .ok (.iload_n i, 1)) (k : zGo l C M d mc ms (pc + 1) ls (zI x :: st) n σ Q) : zGo l C M d mc ms pc ls (st) n σ Q := by
  intro p e R MC MS s m args below meth c Z F E H locs cells slots la hH hL hc hs hl
  refine lv_iload_n F.1 F.2.1 hdg rfl (hl.2.2 _ _ hv) ?_
  exact k p e R MC MS s m args below meth c Z F E H locs cells slots la hH hL hc hs hl
theorem g_iload {i : Nat} {x : Int} (hv : ls[i]? = some (some (zI x))) (hdg : decode M.2.1 pc = .ok (.iload i, 2)) (k : zGo l C M d mc ms (pc + 2) ls (zI x :: st) n σ Q) : zGo l C M d mc ms pc ls (st) n σ Q := by
  intro p e R MC MS s m args below meth c Z F E H locs cells slots la hH hL hc hs hl
  refine lv_iload F.1 F.2.1 hdg (hl.2.2 _ _ hv) ?_
  exact k p e R MC MS s m args below meth c Z F E H locs cells slots la hH hL hc hs hl
theorem g_lload_n {i : Fin 4} {x : Int} (hv : ls[(i : Nat)]? = some (some (zL x))) (hdg : decode M.2.1 pc = .ok (.lload_n i, 1)) (k : zGo l C M d mc ms (pc + 1) ls (zL x :: st) n σ Q) : zGo l C M d mc ms pc ls (st) n σ Q := by
  intro p e R MC MS s m args below meth c Z F E H locs cells slots la hH hL hc hs hl
  refine lv_lload_n F.1 F.2.1 hdg rfl (hl.2.2 _ _ hv) ?_
  exact k p e R MC MS s m args below meth c Z F E H locs cells slots la hH hL hc hs hl
theorem g_lload {i : Nat} {x : Int} (hv : ls[i]? = some (some (zL x))) (hdg : decode M.2.1 pc = .ok (.lload i, 2)) (k : zGo l C M d mc ms (pc + 2) ls (zL x :: st) n σ Q) : zGo l C M d mc ms pc ls (st) n σ Q := by
  intro p e R MC MS s m args below meth c Z F E H locs cells slots la hH hL hc hs hl
  refine lv_lload F.1 F.2.1 hdg (hl.2.2 _ _ hv) ?_
  exact k p e R MC MS s m args below meth c Z F E H locs cells slots la hH hL hc hs hl
theorem g_aload_n {i : Fin 4} {x : Nat} (hv : ls[(i : Nat)]? = some (some (zR x))) (hdg : decode M.2.1 pc = .ok (.aload_n i, 1)) (k : zGo l C M d mc ms (pc + 1) ls (zR x :: st) n σ Q) : zGo l C M d mc ms pc ls (st) n σ Q := by
  intro p e R MC MS s m args below meth c Z F E H locs cells slots la hH hL hc hs hl
  refine lv_aload_n F.1 F.2.1 hdg rfl (hl.2.2 _ _ hv) ?_
  exact k p e R MC MS s m args below meth c Z F E H locs cells slots la hH hL hc hs hl
theorem g_aload {i : Nat} {x : Nat} (hv : ls[i]? = some (some (zR x))) (hdg : decode M.2.1 pc = .ok (.aload i, 2)) (k : zGo l C M d mc ms (pc + 2) ls (zR x :: st) n σ Q) : zGo l C M d mc ms pc ls (st) n σ Q := by
  intro p e R MC MS s m args below meth c Z F E H locs cells slots la hH hL hc hs hl
  refine lv_aload F.1 F.2.1 hdg (hl.2.2 _ _ hv) ?_
  exact k p e R MC MS s m args below meth c Z F E H locs cells slots la hH hL hc hs hl
theorem g_istore_n {i : Fin 4} {x : Int} {ls' : List (Option zV)} (hdg : decode M.2.1 pc = .ok (.istore_n i, 1)) (hn : (i : Nat) < M.2.2.1) (hls : zst1 ls (i : Nat) (zI x) = ls') (k : zGo l C M d mc ms (pc + 1) ls' st n σ Q) : zGo l C M d mc ms pc ls (zI x :: st) n σ Q := by
  intro p e R MC MS s m args below meth c Z F E H locs cells slots la hH hL hc hs hl
  refine lv_istore_n (lv := zas (zad C) ls) F.1 F.2.1 hdg rfl hl.has hn rfl fun la' h' => ?_
  subst hls
  exact k p e R MC MS s m args below meth c Z F E H locs cells slots la' hH hL hc hs (zLoc.st1 h')
theorem g_istore {i : Nat} {x : Int} {ls' : List (Option zV)} (hdg : decode M.2.1 pc = .ok (.istore i, 2)) (hn : i < M.2.2.1) (hls : zst1 ls i (zI x) = ls') (k : zGo l C M d mc ms (pc + 2) ls' st n σ Q) : zGo l C M d mc ms pc ls (zI x :: st) n σ Q := by
  intro p e R MC MS s m args below meth c Z F E H locs cells slots la hH hL hc hs hl
  refine lv_istore (lv := zas (zad C) ls) F.1 F.2.1 hdg hl.has hn rfl fun la' h' => ?_
  subst hls
  exact k p e R MC MS s m args below meth c Z F E H locs cells slots la' hH hL hc hs (zLoc.st1 h')
theorem g_lstore_n {i : Fin 4} {x : Int} {ls' : List (Option zV)} (hdg : decode M.2.1 pc = .ok (.lstore_n i, 1)) (hn : (i : Nat) + 1 < M.2.2.1) (hls : zst2 ls (i : Nat) (zL x) = ls') (k : zGo l C M d mc ms (pc + 1) ls' st n σ Q) : zGo l C M d mc ms pc ls (zL x :: st) n σ Q := by
  intro p e R MC MS s m args below meth c Z F E H locs cells slots la hH hL hc hs hl
  refine lv_lstore_n (lv := zas (zad C) ls) F.1 F.2.1 hdg rfl hl.has hn rfl fun la' h' => ?_
  subst hls
  exact k p e R MC MS s m args below meth c Z F E H locs cells slots la' hH hL hc hs (zLoc.st2 h')
theorem g_lstore {i : Nat} {x : Int} {ls' : List (Option zV)} (hdg : decode M.2.1 pc = .ok (.lstore i, 2)) (hn : i + 1 < M.2.2.1) (hls : zst2 ls i (zL x) = ls') (k : zGo l C M d mc ms (pc + 2) ls' st n σ Q) : zGo l C M d mc ms pc ls (zL x :: st) n σ Q := by
  intro p e R MC MS s m args below meth c Z F E H locs cells slots la hH hL hc hs hl
  refine lv_lstore (lv := zas (zad C) ls) F.1 F.2.1 hdg hl.has hn rfl fun la' h' => ?_
  subst hls
  exact k p e R MC MS s m args below meth c Z F E H locs cells slots la' hH hL hc hs (zLoc.st2 h')
theorem g_astore_n {i : Fin 4} {x : Nat} {ls' : List (Option zV)} (hdg : decode M.2.1 pc = .ok (.astore_n i, 1)) (hn : (i : Nat) < M.2.2.1) (hls : zst1 ls (i : Nat) (zR x) = ls') (k : zGo l C M d mc ms (pc + 1) ls' st n σ Q) : zGo l C M d mc ms pc ls (zR x :: st) n σ Q := by
  intro p e R MC MS s m args below meth c Z F E H locs cells slots la hH hL hc hs hl
  refine lv_astore_n (lv := zas (zad C) ls) F.1 F.2.1 hdg rfl hl.has hn rfl fun la' h' => ?_
  subst hls
  exact k p e R MC MS s m args below meth c Z F E H locs cells slots la' hH hL hc hs (zLoc.st1 h')
theorem g_astore {i : Nat} {x : Nat} {ls' : List (Option zV)} (hdg : decode M.2.1 pc = .ok (.astore i, 2)) (hn : i < M.2.2.1) (hls : zst1 ls i (zR x) = ls') (k : zGo l C M d mc ms (pc + 2) ls' st n σ Q) : zGo l C M d mc ms pc ls (zR x :: st) n σ Q := by
  intro p e R MC MS s m args below meth c Z F E H locs cells slots la hH hL hc hs hl
  refine lv_astore (lv := zas (zad C) ls) F.1 F.2.1 hdg hl.has hn rfl fun la' h' => ?_
  subst hls
  exact k p e R MC MS s m args below meth c Z F E H locs cells slots la' hH hL hc hs (zLoc.st1 h')
theorem g_iinc {i : Nat} {b x y : Int} {ls' : List (Option zV)} (hdg : decode M.2.1 pc = .ok (.iinc i b, 3)) (hv : ls[i]? = some (some (zI x))) (hy : x + b = y) (hn : i < M.2.2.1) (hls : zst1 ls i (zI y) = ls') (k : zGo l C M d mc ms (pc + 3) ls' st n σ Q) : zGo l C M d mc ms pc ls st n σ Q := by
  intro p e R MC MS s m args below meth c Z F E H locs cells slots la hH hL hc hs hl
  obtain ⟨j, hj⟩ := List.getElem?_of_mem (zas_in (ad := zad C) hv)
  refine lv_iinc (v := Int32.ofInt y) F.1 F.2.1 hdg hl.has hj (by rw [← hy, Int32.ofInt_add]) hn rfl fun la' h' => ?_
  subst hls
  exact k p e R MC MS s m args below meth c Z F E H locs cells slots la' hH hL hc hs (zLoc.st1 (v := zI y) h')
theorem g_iadd {x y : Int} (hdg : decode M.2.1 pc = .ok (.iadd, 1)) (k : zGo l C M d mc ms (pc + 1) ls (zI (x + y) :: st) n σ Q) : zGo l C M d mc ms pc ls (zI y :: zI x :: st) n σ Q := by
  intro p e R MC MS s m args below meth c Z F E H locs cells slots la hH hL hc hs hl
  refine lv_iadd F.1 F.2.1 hdg ?_
  rw [← Int32.ofInt_add]
  exact k p e R MC MS s m args below meth c Z F E H locs cells slots la hH hL hc hs hl
theorem g_isub {x y : Int} (hdg : decode M.2.1 pc = .ok (.isub, 1)) (k : zGo l C M d mc ms (pc + 1) ls (zI (x - y) :: st) n σ Q) : zGo l C M d mc ms pc ls (zI y :: zI x :: st) n σ Q := by
  intro p e R MC MS s m args below meth c Z F E H locs cells slots la hH hL hc hs hl
  refine lv_isub F.1 F.2.1 hdg ?_
  rw [← Int32.ofInt_sub]
  exact k p e R MC MS s m args below meth c Z F E H locs cells slots la hH hL hc hs hl
theorem g_imul {x y : Int} (hdg : decode M.2.1 pc = .ok (.imul, 1)) (k : zGo l C M d mc ms (pc + 1) ls (zI (x * y) :: st) n σ Q) : zGo l C M d mc ms pc ls (zI y :: zI x :: st) n σ Q := by
  intro p e R MC MS s m args below meth c Z F E H locs cells slots la hH hL hc hs hl
  refine lv_imul F.1 F.2.1 hdg ?_
  rw [← Int32.ofInt_mul]
  exact k p e R MC MS s m args below meth c Z F E H locs cells slots la hH hL hc hs hl
theorem g_ladd {x y : Int} (hdg : decode M.2.1 pc = .ok (.ladd, 1)) (k : zGo l C M d mc ms (pc + 1) ls (zL (x + y) :: st) n σ Q) : zGo l C M d mc ms pc ls (zL y :: zL x :: st) n σ Q := by
  intro p e R MC MS s m args below meth c Z F E H locs cells slots la hH hL hc hs hl
  refine lv_ladd F.1 F.2.1 hdg ?_
  rw [← Int64.ofInt_add]
  exact k p e R MC MS s m args below meth c Z F E H locs cells slots la hH hL hc hs hl
theorem g_lmul {x y : Int} (hdg : decode M.2.1 pc = .ok (.lmul, 1)) (k : zGo l C M d mc ms (pc + 1) ls (zL (x * y) :: st) n σ Q) : zGo l C M d mc ms pc ls (zL y :: zL x :: st) n σ Q := by
  intro p e R MC MS s m args below meth c Z F E H locs cells slots la hH hL hc hs hl
  refine lv_lmul F.1 F.2.1 hdg ?_
  rw [← Int64.ofInt_mul]
  exact k p e R MC MS s m args below meth c Z F E H locs cells slots la hH hL hc hs hl
theorem g_ineg {x : Int} (hdg : decode M.2.1 pc = .ok (.ineg, 1)) (k : zGo l C M d mc ms (pc + 1) ls (zI (-x) :: st) n σ Q) : zGo l C M d mc ms pc ls (zI x :: st) n σ Q := by
  intro p e R MC MS s m args below meth c Z F E H locs cells slots la hH hL hc hs hl
  refine lv_ineg F.1 F.2.1 hdg ?_
  rw [← Int32.ofInt_neg]
  exact k p e R MC MS s m args below meth c Z F E H locs cells slots la hH hL hc hs hl
theorem g_idiv {x y : Int} (h0 : 0 ≤ x) (h1 : x < 2147483648) (h2 : 0 < y) (h3 : y < 2147483648) (hdg : decode M.2.1 pc = .ok (.idiv, 1)) (k : zGo l C M d mc ms (pc + 1) ls (zI (x / y) :: st) n σ Q) : zGo l C M d mc ms pc ls (zI y :: zI x :: st) n σ Q := by
  intro p e R MC MS s m args below meth c Z F E H locs cells slots la hH hL hc hs hl
  refine lv_idiv F.1 F.2.1 hdg (by rw [zi_eq0 ⟨by omega, h3⟩]; omega) ?_
  rw [zi_div h0 h1 h2 h3]
  exact k p e R MC MS s m args below meth c Z F E H locs cells slots la hH hL hc hs hl
theorem g_irem {x y : Int} (h0 : 0 ≤ x) (h1 : x < 2147483648) (h2 : 0 < y) (h3 : y < 2147483648) (hdg : decode M.2.1 pc = .ok (.irem, 1)) (k : zGo l C M d mc ms (pc + 1) ls (zI (x % y) :: st) n σ Q) : zGo l C M d mc ms pc ls (zI y :: zI x :: st) n σ Q := by
  intro p e R MC MS s m args below meth c Z F E H locs cells slots la hH hL hc hs hl
  refine lv_irem F.1 F.2.1 hdg (by rw [zi_eq0 ⟨by omega, h3⟩]; omega) ?_
  rw [zi_rem h0 h1 h2 h3]
  exact k p e R MC MS s m args below meth c Z F E H locs cells slots la hH hL hc hs hl
theorem g_ldiv {x y : Int} (h0 : 0 ≤ x) (h1 : x < 9223372036854775808) (h2 : 0 < y) (h3 : y < 9223372036854775808) (hdg : decode M.2.1 pc = .ok (.ldiv, 1)) (k : zGo l C M d mc ms (pc + 1) ls (zL (x / y) :: st) n σ Q) : zGo l C M d mc ms pc ls (zL y :: zL x :: st) n σ Q := by
  intro p e R MC MS s m args below meth c Z F E H locs cells slots la hH hL hc hs hl
  refine lv_ldiv F.1 F.2.1 hdg (fun q => by have q2 := (zl_eq (x := y) (y := 0) ⟨by omega, h3⟩ (by decide)).mp q; omega) ?_
  rw [zl_div h0 h1 h2 h3]
  exact k p e R MC MS s m args below meth c Z F E H locs cells slots la hH hL hc hs hl
theorem g_lrem {x y : Int} (h0 : 0 ≤ x) (h1 : x < 9223372036854775808) (h2 : 0 < y) (h3 : y < 9223372036854775808) (hdg : decode M.2.1 pc = .ok (.lrem, 1)) (k : zGo l C M d mc ms (pc + 1) ls (zL (x % y) :: st) n σ Q) : zGo l C M d mc ms pc ls (zL y :: zL x :: st) n σ Q := by
  intro p e R MC MS s m args below meth c Z F E H locs cells slots la hH hL hc hs hl
  refine lv_lrem F.1 F.2.1 hdg (fun q => by have q2 := (zl_eq (x := y) (y := 0) ⟨by omega, h3⟩ (by decide)).mp q; omega) ?_
  rw [zl_rem h0 h1 h2 h3]
  exact k p e R MC MS s m args below meth c Z F E H locs cells slots la hH hL hc hs hl
def zshl (x y : Int) : Int := (Int32.ofInt x <<< (Int32.ofInt y &&& 31)).toInt
def zshr (x y : Int) : Int := (Int32.ofInt x >>> (Int32.ofInt y &&& 31)).toInt
def zushr (x y : Int) : Int := ((Int32.ofInt x).toUInt32 >>> ((Int32.ofInt y).toUInt32 &&& Int32.toUInt32 31)).toInt32.toInt
def zand (x y : Int) : Int := (Int32.ofInt x &&& Int32.ofInt y).toInt
def zor (x y : Int) : Int := (Int32.ofInt x ||| Int32.ofInt y).toInt
theorem g_ishl {x y : Int} (hdg : decode M.2.1 pc = .ok (.ishl, 1)) (k : zGo l C M d mc ms (pc + 1) ls (zI (zshl x y) :: st) n σ Q) : zGo l C M d mc ms pc ls (zI y :: zI x :: st) n σ Q := by
  intro p e R MC MS s m args below meth c Z F E H locs cells slots la hH hL hc hs hl
  refine lv_ishl F.1 F.2.1 hdg ?_
  rw [show _ = Int32.ofInt (zshl x y) from (Int32.ofInt_toInt _).symm]
  exact k p e R MC MS s m args below meth c Z F E H locs cells slots la hH hL hc hs hl
theorem g_ishr {x y : Int} (hdg : decode M.2.1 pc = .ok (.ishr, 1)) (k : zGo l C M d mc ms (pc + 1) ls (zI (zshr x y) :: st) n σ Q) : zGo l C M d mc ms pc ls (zI y :: zI x :: st) n σ Q := by
  intro p e R MC MS s m args below meth c Z F E H locs cells slots la hH hL hc hs hl
  refine lv_ishr F.1 F.2.1 hdg ?_
  rw [show _ = Int32.ofInt (zshr x y) from (Int32.ofInt_toInt _).symm]
  exact k p e R MC MS s m args below meth c Z F E H locs cells slots la hH hL hc hs hl
theorem g_iand {x y : Int} (hdg : decode M.2.1 pc = .ok (.iand, 1)) (k : zGo l C M d mc ms (pc + 1) ls (zI (zand x y) :: st) n σ Q) : zGo l C M d mc ms pc ls (zI y :: zI x :: st) n σ Q := by
  intro p e R MC MS s m args below meth c Z F E H locs cells slots la hH hL hc hs hl
  refine lv_iand F.1 F.2.1 hdg ?_
  rw [show _ = Int32.ofInt (zand x y) from (Int32.ofInt_toInt _).symm]
  exact k p e R MC MS s m args below meth c Z F E H locs cells slots la hH hL hc hs hl
theorem g_ior {x y : Int} (hdg : decode M.2.1 pc = .ok (.ior, 1)) (k : zGo l C M d mc ms (pc + 1) ls (zI (zor x y) :: st) n σ Q) : zGo l C M d mc ms pc ls (zI y :: zI x :: st) n σ Q := by
  intro p e R MC MS s m args below meth c Z F E H locs cells slots la hH hL hc hs hl
  refine lv_ior F.1 F.2.1 hdg ?_
  rw [show _ = Int32.ofInt (zor x y) from (Int32.ofInt_toInt _).symm]
  exact k p e R MC MS s m args below meth c Z F E H locs cells slots la hH hL hc hs hl
theorem g_iushr {x y : Int} (hdg : decode M.2.1 pc = .ok (.iushr, 1)) (k : zGo l C M d mc ms (pc + 1) ls (zI (zushr x y) :: st) n σ Q) : zGo l C M d mc ms pc ls (zI y :: zI x :: st) n σ Q := by
  intro p e R MC MS s m args below meth c Z F E H locs cells slots la hH hL hc hs hl
  refine lv_iushr (v := Int32.ofInt (zushr x y)) F.1 F.2.1 hdg (Int32.ofInt_toInt _).symm ?_
  exact k p e R MC MS s m args below meth c Z F E H locs cells slots la hH hL hc hs hl
theorem g_i2l {x : Int} (hx : zB x) (hdg : decode M.2.1 pc = .ok (.i2l, 1)) (k : zGo l C M d mc ms (pc + 1) ls (zL x :: st) n σ Q) : zGo l C M d mc ms pc ls (zI x :: st) n σ Q := by
  intro p e R MC MS s m args below meth c Z F E H locs cells slots la hH hL hc hs hl
  refine lv_i2l F.1 F.2.1 hdg (zl_of hx) ?_
  exact k p e R MC MS s m args below meth c Z F E H locs cells slots la hH hL hc hs hl
theorem g_l2i {x : Int} (hdg : decode M.2.1 pc = .ok (.l2i, 1)) (k : zGo l C M d mc ms (pc + 1) ls (zI x :: st) n σ Q) : zGo l C M d mc ms pc ls (zL x :: st) n σ Q := by
  intro p e R MC MS s m args below meth c Z F E H locs cells slots la hH hL hc hs hl
  refine lv_l2i F.1 F.2.1 hdg zl_cut ?_
  exact k p e R MC MS s m args below meth c Z F E H locs cells slots la hH hL hc hs hl
def zi2b (x : Int) : Int := (Int32.ofInt x).toInt8.toInt32.toInt
def zi2s (x : Int) : Int := (Int32.ofInt x).toInt16.toInt32.toInt
theorem g_i2b {x : Int} (hdg : decode M.2.1 pc = .ok (.i2b, 1)) (k : zGo l C M d mc ms (pc + 1) ls (zI (zi2b x) :: st) n σ Q) : zGo l C M d mc ms pc ls (zI x :: st) n σ Q := by
  intro p e R MC MS s m args below meth c Z F E H locs cells slots la hH hL hc hs hl
  refine lv_i2b (v := Int32.ofInt (zi2b x)) F.1 F.2.1 hdg (Int32.ofInt_toInt _).symm ?_
  exact k p e R MC MS s m args below meth c Z F E H locs cells slots la hH hL hc hs hl
theorem g_i2s {x : Int} (hdg : decode M.2.1 pc = .ok (.i2s, 1)) (k : zGo l C M d mc ms (pc + 1) ls (zI (zi2s x) :: st) n σ Q) : zGo l C M d mc ms pc ls (zI x :: st) n σ Q := by
  intro p e R MC MS s m args below meth c Z F E H locs cells slots la hH hL hc hs hl
  refine lv_i2s (v := Int32.ofInt (zi2s x)) F.1 F.2.1 hdg (Int32.ofInt_toInt _).symm ?_
  exact k p e R MC MS s m args below meth c Z F E H locs cells slots la hH hL hc hs hl
theorem zi_c {x : Int} (h0 : 0 ≤ x) (h1 : x < 65536) : ((Int32.ofInt x).toUInt32 % 65536).toInt32 = Int32.ofInt x := by
  rw [pk_char, zi_nI x h0, pk_tn (by omega)]
  congr 1
  omega
theorem g_i2c {x : Int} (h0 : 0 ≤ x) (h1 : x < 65536) (hdg : decode M.2.1 pc = .ok (.i2c, 1)) (k : zGo l C M d mc ms (pc + 1) ls (zI x :: st) n σ Q) : zGo l C M d mc ms pc ls (zI x :: st) n σ Q := by
  intro p e R MC MS s m args below meth c Z F E H locs cells slots la hH hL hc hs hl
  refine lv_i2c F.1 F.2.1 hdg (zi_c h0 h1) ?_
  exact k p e R MC MS s m args below meth c Z F E H locs cells slots la hH hL hc hs hl
theorem zcatI (ad : Nat → Nat) (x : Int) : (zv ad (zI x)).category = 1 := rfl
theorem zcatR (ad : Nat → Nat) (a : Nat) : (zv ad (zR a)).category = 1 := rfl
theorem g_dupI {x : Int} (hdg : decode M.2.1 pc = .ok (.dup, 1)) (k : zGo l C M d mc ms (pc + 1) ls (zI x :: zI x :: st) n σ Q) : zGo l C M d mc ms pc ls (zI x :: st) n σ Q := by
  intro p e R MC MS s m args below meth c Z F E H locs cells slots la hH hL hc hs hl
  refine lv_dup F.1 F.2.1 hdg rfl ?_
  exact k p e R MC MS s m args below meth c Z F E H locs cells slots la hH hL hc hs hl
theorem g_dupR {a : Nat} (hdg : decode M.2.1 pc = .ok (.dup, 1)) (k : zGo l C M d mc ms (pc + 1) ls (zR a :: zR a :: st) n σ Q) : zGo l C M d mc ms pc ls (zR a :: st) n σ Q := by
  intro p e R MC MS s m args below meth c Z F E H locs cells slots la hH hL hc hs hl
  refine lv_dup F.1 F.2.1 hdg rfl ?_
  exact k p e R MC MS s m args below meth c Z F E H locs cells slots la hH hL hc hs hl
theorem g_dup2 {x : Int} {a : Nat} (hdg : decode M.2.1 pc = .ok (.dup2, 1)) (k : zGo l C M d mc ms (pc + 1) ls (zI x :: zR a :: zI x :: zR a :: st) n σ Q) : zGo l C M d mc ms pc ls (zI x :: zR a :: st) n σ Q := by
  intro p e R MC MS s m args below meth c Z F E H locs cells slots la hH hL hc hs hl
  refine lv_dup2_11 F.1 F.2.1 hdg rfl rfl ?_
  exact k p e R MC MS s m args below meth c Z F E H locs cells slots la hH hL hc hs hl
theorem g_popI {x : Int} (hdg : decode M.2.1 pc = .ok (.pop, 1)) (k : zGo l C M d mc ms (pc + 1) ls (st) n σ Q) : zGo l C M d mc ms pc ls (zI x :: st) n σ Q := by
  intro p e R MC MS s m args below meth c Z F E H locs cells slots la hH hL hc hs hl
  refine lv_pop F.1 F.2.1 hdg rfl ?_
  exact k p e R MC MS s m args below meth c Z F E H locs cells slots la hH hL hc hs hl
def zcmp (x y : Int) : Int := if y < x then 1 else if x = y then 0 else -1
theorem zcmp_eq {x y : Int} (hx : zB8 x) (hy : zB8 y) : lg_cmp (Int64.ofInt x) (Int64.ofInt y) = Int32.ofInt (zcmp x y) := by
  unfold lg_cmp zcmp
  by_cases h : y < x
  · rw [if_pos ((zl_lt hy hx).mpr h), if_pos h]; rfl
  · rw [if_neg (fun q => h ((zl_lt hy hx).mp q)), if_neg h]
    by_cases h2 : x = y
    · rw [if_pos ((zl_eq hx hy).mpr h2), if_pos h2]; rfl
    · rw [if_neg (fun q => h2 ((zl_eq hx hy).mp q)), if_neg h2]; rfl
theorem g_lcmp {x y : Int} (hx : zB8 x) (hy : zB8 y) (hdg : decode M.2.1 pc = .ok (.lcmp, 1)) (k : zGo l C M d mc ms (pc + 1) ls (zI (zcmp x y) :: st) n σ Q) : zGo l C M d mc ms pc ls (zL y :: zL x :: st) n σ Q := by
  intro p e R MC MS s m args below meth c Z F E H locs cells slots la hH hL hc hs hl
  refine W.lcmp F.1 F.2.1 hdg ?_
  rw [zcmp_eq hx hy]
  exact k p e R MC MS s m args below meth c Z F E H locs cells slots la hH hL hc hs hl
theorem g_icmp_eq {x y : Int} (hx : zB x) (hy : zB y) {o : Int} {t : Nat} (hdg : decode M.2.1 pc = .ok (.if_icmp .eq o, 3)) (ht : (pc : Int) + o = (t : Int)) (kt : x = y → zGo l C M d mc ms t ls st n σ Q) (kf : ¬ x = y → zGo l C M d mc ms (pc + 3) ls st n σ Q) : zGo l C M d mc ms pc ls (zI y :: zI x :: st) n σ Q := by
  intro p e R MC MS s m args below meth c Z F E H locs cells slots la hH hL hc hs hl
  refine lv_icmp_eq F.1 F.2.1 hdg ht (fun h => kt ((zi_eq hx hy).mp h) p e R MC MS s m args below meth c Z F E H locs cells slots la hH hL hc hs hl) (fun h => kf (fun q => h ((zi_eq hx hy).mpr q)) p e R MC MS s m args below meth c Z F E H locs cells slots la hH hL hc hs hl)
theorem g_if_eq {x : Int} (hx : zB x) {o : Int} {t : Nat} (hdg : decode M.2.1 pc = .ok (.ifCond .eq o, 3)) (ht : (pc : Int) + o = (t : Int)) (kt : x = 0 → zGo l C M d mc ms t ls st n σ Q) (kf : ¬ x = 0 → zGo l C M d mc ms (pc + 3) ls st n σ Q) : zGo l C M d mc ms pc ls (zI x :: st) n σ Q := by
  intro p e R MC MS s m args below meth c Z F E H locs cells slots la hH hL hc hs hl
  refine lv_if_eq F.1 F.2.1 hdg ht (fun h => kt ((zi_eq0 hx).mp h) p e R MC MS s m args below meth c Z F E H locs cells slots la hH hL hc hs hl) (fun h => kf (fun q => h ((zi_eq0 hx).mpr q)) p e R MC MS s m args below meth c Z F E H locs cells slots la hH hL hc hs hl)
theorem g_icmp_ne {x y : Int} (hx : zB x) (hy : zB y) {o : Int} {t : Nat} (hdg : decode M.2.1 pc = .ok (.if_icmp .ne o, 3)) (ht : (pc : Int) + o = (t : Int)) (kt : ¬ x = y → zGo l C M d mc ms t ls st n σ Q) (kf : x = y → zGo l C M d mc ms (pc + 3) ls st n σ Q) : zGo l C M d mc ms pc ls (zI y :: zI x :: st) n σ Q := by
  intro p e R MC MS s m args below meth c Z F E H locs cells slots la hH hL hc hs hl
  refine lv_icmp_ne F.1 F.2.1 hdg ht (fun h => kt (fun q => h ((zi_eq hx hy).mpr q)) p e R MC MS s m args below meth c Z F E H locs cells slots la hH hL hc hs hl) (fun h => kf ((zi_eq hx hy).mp h) p e R MC MS s m args below meth c Z F E H locs cells slots la hH hL hc hs hl)
theorem g_if_ne {x : Int} (hx : zB x) {o : Int} {t : Nat} (hdg : decode M.2.1 pc = .ok (.ifCond .ne o, 3)) (ht : (pc : Int) + o = (t : Int)) (kt : ¬ x = 0 → zGo l C M d mc ms t ls st n σ Q) (kf : x = 0 → zGo l C M d mc ms (pc + 3) ls st n σ Q) : zGo l C M d mc ms pc ls (zI x :: st) n σ Q := by
  intro p e R MC MS s m args below meth c Z F E H locs cells slots la hH hL hc hs hl
  refine lv_if_ne F.1 F.2.1 hdg ht (fun h => kt (fun q => h ((zi_eq0 hx).mpr q)) p e R MC MS s m args below meth c Z F E H locs cells slots la hH hL hc hs hl) (fun h => kf ((zi_eq0 hx).mp h) p e R MC MS s m args below meth c Z F E H locs cells slots la hH hL hc hs hl)
theorem g_icmp_lt {x y : Int} (hx : zB x) (hy : zB y) {o : Int} {t : Nat} (hdg : decode M.2.1 pc = .ok (.if_icmp .lt o, 3)) (ht : (pc : Int) + o = (t : Int)) (kt : x < y → zGo l C M d mc ms t ls st n σ Q) (kf : ¬ x < y → zGo l C M d mc ms (pc + 3) ls st n σ Q) : zGo l C M d mc ms pc ls (zI y :: zI x :: st) n σ Q := by
  intro p e R MC MS s m args below meth c Z F E H locs cells slots la hH hL hc hs hl
  refine lv_icmp_lt F.1 F.2.1 hdg ht (fun h => kt ((zi_lt hx hy).mp h) p e R MC MS s m args below meth c Z F E H locs cells slots la hH hL hc hs hl) (fun h => kf (fun q => h ((zi_lt hx hy).mpr q)) p e R MC MS s m args below meth c Z F E H locs cells slots la hH hL hc hs hl)
theorem g_if_lt {x : Int} (hx : zB x) {o : Int} {t : Nat} (hdg : decode M.2.1 pc = .ok (.ifCond .lt o, 3)) (ht : (pc : Int) + o = (t : Int)) (kt : x < 0 → zGo l C M d mc ms t ls st n σ Q) (kf : ¬ x < 0 → zGo l C M d mc ms (pc + 3) ls st n σ Q) : zGo l C M d mc ms pc ls (zI x :: st) n σ Q := by
  intro p e R MC MS s m args below meth c Z F E H locs cells slots la hH hL hc hs hl
  refine lv_if_lt F.1 F.2.1 hdg ht (fun h => kt ((zi_lt0 hx).mp h) p e R MC MS s m args below meth c Z F E H locs cells slots la hH hL hc hs hl) (fun h => kf (fun q => h ((zi_lt0 hx).mpr q)) p e R MC MS s m args below meth c Z F E H locs cells slots la hH hL hc hs hl)
theorem g_icmp_ge {x y : Int} (hx : zB x) (hy : zB y) {o : Int} {t : Nat} (hdg : decode M.2.1 pc = .ok (.if_icmp .ge o, 3)) (ht : (pc : Int) + o = (t : Int)) (kt : y ≤ x → zGo l C M d mc ms t ls st n σ Q) (kf : ¬ y ≤ x → zGo l C M d mc ms (pc + 3) ls st n σ Q) : zGo l C M d mc ms pc ls (zI y :: zI x :: st) n σ Q := by
  intro p e R MC MS s m args below meth c Z F E H locs cells slots la hH hL hc hs hl
  refine lv_icmp_ge F.1 F.2.1 hdg ht (fun h => kt ((zi_le hy hx).mp h) p e R MC MS s m args below meth c Z F E H locs cells slots la hH hL hc hs hl) (fun h => kf (fun q => h ((zi_le hy hx).mpr q)) p e R MC MS s m args below meth c Z F E H locs cells slots la hH hL hc hs hl)
theorem g_if_ge {x : Int} (hx : zB x) {o : Int} {t : Nat} (hdg : decode M.2.1 pc = .ok (.ifCond .ge o, 3)) (ht : (pc : Int) + o = (t : Int)) (kt : 0 ≤ x → zGo l C M d mc ms t ls st n σ Q) (kf : ¬ 0 ≤ x → zGo l C M d mc ms (pc + 3) ls st n σ Q) : zGo l C M d mc ms pc ls (zI x :: st) n σ Q := by
  intro p e R MC MS s m args below meth c Z F E H locs cells slots la hH hL hc hs hl
  refine lv_if_ge F.1 F.2.1 hdg ht (fun h => kt ((zi_0le hx).mp h) p e R MC MS s m args below meth c Z F E H locs cells slots la hH hL hc hs hl) (fun h => kf (fun q => h ((zi_0le hx).mpr q)) p e R MC MS s m args below meth c Z F E H locs cells slots la hH hL hc hs hl)
theorem g_icmp_gt {x y : Int} (hx : zB x) (hy : zB y) {o : Int} {t : Nat} (hdg : decode M.2.1 pc = .ok (.if_icmp .gt o, 3)) (ht : (pc : Int) + o = (t : Int)) (kt : y < x → zGo l C M d mc ms t ls st n σ Q) (kf : ¬ y < x → zGo l C M d mc ms (pc + 3) ls st n σ Q) : zGo l C M d mc ms pc ls (zI y :: zI x :: st) n σ Q := by
  intro p e R MC MS s m args below meth c Z F E H locs cells slots la hH hL hc hs hl
  refine lv_icmp_gt F.1 F.2.1 hdg ht (fun h => kt ((zi_lt hy hx).mp h) p e R MC MS s m args below meth c Z F E H locs cells slots la hH hL hc hs hl) (fun h => kf (fun q => h ((zi_lt hy hx).mpr q)) p e R MC MS s m args below meth c Z F E H locs cells slots la hH hL hc hs hl)
theorem g_if_gt {x : Int} (hx : zB x) {o : Int} {t : Nat} (hdg : decode M.2.1 pc = .ok (.ifCond .gt o, 3)) (ht : (pc : Int) + o = (t : Int)) (kt : 0 < x → zGo l C M d mc ms t ls st n σ Q) (kf : ¬ 0 < x → zGo l C M d mc ms (pc + 3) ls st n σ Q) : zGo l C M d mc ms pc ls (zI x :: st) n σ Q := by
  intro p e R MC MS s m args below meth c Z F E H locs cells slots la hH hL hc hs hl
  refine lv_if_gt F.1 F.2.1 hdg ht (fun h => kt ((zi_0lt hx).mp h) p e R MC MS s m args below meth c Z F E H locs cells slots la hH hL hc hs hl) (fun h => kf (fun q => h ((zi_0lt hx).mpr q)) p e R MC MS s m args below meth c Z F E H locs cells slots la hH hL hc hs hl)
theorem g_icmp_le {x y : Int} (hx : zB x) (hy : zB y) {o : Int} {t : Nat} (hdg : decode M.2.1 pc = .ok (.if_icmp .le o, 3)) (ht : (pc : Int) + o = (t : Int)) (kt : x ≤ y → zGo l C M d mc ms t ls st n σ Q) (kf : ¬ x ≤ y → zGo l C M d mc ms (pc + 3) ls st n σ Q) : zGo l C M d mc ms pc ls (zI y :: zI x :: st) n σ Q := by
  intro p e R MC MS s m args below meth c Z F E H locs cells slots la hH hL hc hs hl
  refine lv_icmp_le F.1 F.2.1 hdg ht (fun h => kt ((zi_le hx hy).mp h) p e R MC MS s m args below meth c Z F E H locs cells slots la hH hL hc hs hl) (fun h => kf (fun q => h ((zi_le hx hy).mpr q)) p e R MC MS s m args below meth c Z F E H locs cells slots la hH hL hc hs hl)
theorem g_if_le {x : Int} (hx : zB x) {o : Int} {t : Nat} (hdg : decode M.2.1 pc = .ok (.ifCond .le o, 3)) (ht : (pc : Int) + o = (t : Int)) (kt : x ≤ 0 → zGo l C M d mc ms t ls st n σ Q) (kf : ¬ x ≤ 0 → zGo l C M d mc ms (pc + 3) ls st n σ Q) : zGo l C M d mc ms pc ls (zI x :: st) n σ Q := by
  intro p e R MC MS s m args below meth c Z F E H locs cells slots la hH hL hc hs hl
  refine lv_if_le F.1 F.2.1 hdg ht (fun h => kt ((zi_le0 hx).mp h) p e R MC MS s m args below meth c Z F E H locs cells slots la hH hL hc hs hl) (fun h => kf (fun q => h ((zi_le0 hx).mpr q)) p e R MC MS s m args below meth c Z F E H locs cells slots la hH hL hc hs hl)
theorem g_goto {o : Int} {t : Nat} (hdg : decode M.2.1 pc = .ok (.goto o, 3)) (ht : (pc : Int) + o = (t : Int)) (k : zGo l C M d mc ms t ls st n σ Q) : zGo l C M d mc ms pc ls st n σ Q := by
  intro p e R MC MS s m args below meth c Z F E H locs cells slots la hH hL hc hs hl
  refine lv_goto F.1 F.2.1 hdg ht ?_
  exact k p e R MC MS s m args below meth c Z F E H locs cells slots la hH hL hc hs hl
theorem g_tswOut {dflt lo hi : Int} {offs : Array Int} {len : Nat} {x : Int} {t : Nat} (hx : zB x) (hdg : decode M.2.1 pc = .ok (.tableswitch dflt lo hi offs, len)) (h : x < lo ∨ hi < x) (ht : (pc : Int) + dflt = (t : Int)) (k : zGo l C M d mc ms t ls st n σ Q) : zGo l C M d mc ms pc ls (zI x :: st) n σ Q := by
  intro p e R MC MS s m args below meth c Z F E H locs cells slots la hH hL hc hs hl
  refine lv_tableOut F.1 F.2.1 hdg (by rw [zi_to hx]; exact h) ht ?_
  exact k p e R MC MS s m args below meth c Z F E H locs cells slots la hH hL hc hs hl
theorem g_tswIn {dflt lo hi : Int} {offs : Array Int} {len : Nat} {x off : Int} {t : Nat} (hx : zB x) (hdg : decode M.2.1 pc = .ok (.tableswitch dflt lo hi offs, len)) (h1 : ¬ x < lo) (h2 : ¬ hi < x) (ho : offs[(x - lo).toNat]? = some off) (ht : (pc : Int) + off = (t : Int)) (k : zGo l C M d mc ms t ls st n σ Q) : zGo l C M d mc ms pc ls (zI x :: st) n σ Q := by
  intro p e R MC MS s m args below meth c Z F E H locs cells slots la hH hL hc hs hl
  refine lv_tableIn F.1 F.2.1 hdg (by rw [zi_to hx]; exact h1) (by rw [zi_to hx]; exact h2) (by rw [zi_to hx]; exact ho) ht ?_
  exact k p e R MC MS s m args below meth c Z F E H locs cells slots la hH hL hc hs hl
theorem g_lsw {dflt : Int} {ps : Array (Int × Int)} {len : Nat} {x off : Int} {t : Nat} (hx : zB x) (hdg : decode M.2.1 pc = .ok (.lookupswitch dflt ps, len)) (hp : (ps.toList.zip (ps.toList.drop 1)).all (fun (a, next) => a.1 < next.1) = true) (ho : Op.lookupswitch.offset ps.toList dflt x = off) (ht : (pc : Int) + off = (t : Int)) (k : zGo l C M d mc ms t ls st n σ Q) : zGo l C M d mc ms pc ls (zI x :: st) n σ Q := by
  intro p e R MC MS s m args below meth c Z F E H locs cells slots la hH hL hc hs hl
  refine lv_lookup F.1 F.2.1 hdg hp (by rw [zi_to hx]; exact ho) ht ?_
  exact k p e R MC MS s m args below meth c Z F E H locs cells slots la hH hL hc hs hl
theorem g_nm {x : Int} (k : ∀ y : Int, y = x → zGo l C M d mc ms pc ls (zI y :: st) n σ Q) : zGo l C M d mc ms pc ls (zI x :: st) n σ Q := k x rfl
theorem g_nmL {x : Int} (k : ∀ y : Int, y = x → zGo l C M d mc ms pc ls (zL y :: st) n σ Q) : zGo l C M d mc ms pc ls (zL x :: st) n σ Q := k x rfl
theorem g_ret (hr : M.2.2.2 = none) (hdg : decode M.2.1 pc = .ok (.return_, 1)) (hq : Q none n σ) : zGo l C M d mc ms pc ls [] n σ Q := by
  intro p e R MC MS s m args below meth c Z F E H locs cells slots la hH hL hc hs hl
  exact E none n σ H locs cells slots pc la hq hH hL (by omega) (by omega) (Or.inl ⟨rfl, hr, hdg⟩)
theorem g_iret {x : Int} (hr : M.2.2.2 = some .int) (hdg : decode M.2.1 pc = .ok (.ireturn, 1)) (hq : Q (some (zI x)) n σ) : zGo l C M d mc ms pc ls [zI x] n σ Q := by
  intro p e R MC MS s m args below meth c Z F E H locs cells slots la hH hL hc hs hl
  exact E (some (zI x)) n σ H locs cells slots pc la hq hH hL (by omega) (by omega) (Or.inr (Or.inl ⟨x, rfl, hdg, Or.inl hr⟩))
theorem g_zret {x : Int} (hr : M.2.2.2 = some .boolean) (hx : x = 0 ∨ x = 1) (hdg : decode M.2.1 pc = .ok (.ireturn, 1)) (hq : Q (some (zI x)) n σ) : zGo l C M d mc ms pc ls [zI x] n σ Q := by
  intro p e R MC MS s m args below meth c Z F E H locs cells slots la hH hL hc hs hl
  exact E (some (zI x)) n σ H locs cells slots pc la hq hH hL (by omega) (by omega) (Or.inr (Or.inl ⟨x, rfl, hdg, Or.inr (Or.inl ⟨hr, hx⟩)⟩))
theorem g_bret (hr : M.2.2.2 = some .byte) (hdg : decode M.2.1 pc = .ok (.ireturn, 1)) (hq : Q (some (zI 0)) n σ) : zGo l C M d mc ms pc ls [zI 0] n σ Q := by
  intro p e R MC MS s m args below meth c Z F E H locs cells slots la hH hL hc hs hl
  exact E (some (zI 0)) n σ H locs cells slots pc la hq hH hL (by omega) (by omega) (Or.inr (Or.inl ⟨0, rfl, hdg, Or.inr (Or.inr ⟨hr, rfl⟩)⟩))
theorem g_aret {a : Nat} {nm : String} (hr : M.2.2.2 = some (.object nm)) (hdg : decode M.2.1 pc = .ok (.areturn, 1)) (hq : Q (some (zR a)) n σ) : zGo l C M d mc ms pc ls [zR a] n σ Q := by
  intro p e R MC MS s m args below meth c Z F E H locs cells slots la hH hL hc hs hl
  exact E (some (zR a)) n σ H locs cells slots pc la hq hH hL (by omega) (by omega) (Or.inr (Or.inr ⟨a, rfl, hdg, nm, hr⟩))
end
