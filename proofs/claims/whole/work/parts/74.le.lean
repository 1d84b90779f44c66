set_option maxHeartbeats 2000000 in
theorem lw_needs {p : Program} {l : Launch} {e : Env} {s : State} {m : MethodId} {below : List Frame} {meth : Method} {c : Code} {b L : Nat} {xs : Nat → Int32} {G : rs_G} (C0 : lw_Cx p s m c b L xs G) {N : Nat} (hN : 200000 < N) {cells slots : Nat} (hcs : cells + 8 ≤ 600000 ∧ slots + 76 ≤ 7302250) {i Y : Nat} (hi : i + 5 ≤ L) (hY : Y ≤ 2 ^ 21) {p1 p2 p3 p4 : Int32} (h1 : xs (i + 1) = p1) (h2 : xs (i + 2) = p2) (h3 : xs (i + 3) = p3) (h4 : xs (i + 4) = p4) {q k : Nat → Nat} {Q : State → Prop} {fi : Nat → Option Nat} {D : Nat → Nat} {V : Nat → Nat → Nat} {y : Nat} {cn : Nat} {pn : Nat} {f : Nat → Int32} {xl : Nat → Int32} {xy : Nat → Int32} {xc : Nat → Int32} {ps : Nat → Int32} {j : Nat → Int32} {ja : Nat → Nat → Int32} {jl : Nat → Nat → Int64} {jL : Nat → Int64} {g : Nat → Int32} {sl : Nat → Int32} {sy : Nat → Int32} {sc : Nat → Int32} {pm : Nat → Int32} {K : Nat → Int32} {kb : Nat → Int32} {mj : Nat → Int32} {ma : Nat → Nat → Int32} {ml : Nat → Nat → Int64} {S : Nat → Nat} {T0 : va_W} {T1 : va_W} {H : Heap} {locs : List Loc} {ls : Array Slot} (hI : rs_I G Y D V y cn pn f xl xy xc ps g sl sy sc pm K kb fi S T0 T1) (hP : va_P G.1 vwCl (rs_X G q fi D y cn pn f xl xy xc ps j ja jl jL (rs_M G k D y cn pn g sl sy sc pm K kb mj ma ml (T0 ++ T1))) H) (hD : va_D (fun q : Nat => s.heap.size ≤ q) (rs_X G q fi D y cn pn f xl xy xc ps j ja jl jL (rs_M G k D y cn pn g sl sy sc pm K kb mj ma ml (T0 ++ T1)))) (hS : va_S (fun q : Nat => s.heap.size ≤ q) s.heap H locs) (hl : lv_has ls 4 [(0, .ref b), (1, .ref (q 0)), (2, .ref (k 0)), (3, .int (nI i))]) (nx : lw_Nx p l e s m below meth c b G q k i (Y + 600) (cells + 8) (slots + 76) Q) : W p l e room_1 s m #[Value.ref b] below meth c H locs cells slots Q (F0 m 631 ls []) := by
  obtain ⟨hx, hb, hml, hown, hts, hXs, hbl, hK, hL⟩ := C0
  obtain ⟨hD0, hV, hX, hM, hy, hcn, hpn, e1, e2, e3, s1, s2, s3, i0, i1⟩ := hI
  have hA : ∀ q : Nat, s.heap.size ≤ q → (fun q : Nat => s.heap.size ≤ q) q := fun _ h => h
  have hbA : ¬ (fun q : Nat => s.heap.size ≤ q) b := Nat.not_le.mpr hbl
  have hcs0 : cells ≤ room_1.cells ∧ slots ≤ room_1.slots := ⟨Nat.le_trans (Nat.le_add_right _ 8) hcs.1, Nat.le_trans (Nat.le_add_right _ 76) hcs.2⟩
  obtain ⟨r, n1, n2, g2, d1, d2, hx1, hm1, hM3⟩ := e_needs hD0 hV hX hM (N := N) (by omega) (y := y) (by omega) p1 p2 (mj 1) (mj 2) (ma 5) (ma 4)
  refine lv_aload_n hx hb dL_law_631 rfl (lv_at hl 1 rfl) ?_
  refine lv_aload_n hx hb dL_law_632 rfl (lv_at hl 0 rfl) ?_
  refine lv_iload_n hx hb dL_law_633 rfl (lv_at hl 3 rfl) ?_
  refine lv_iconst (v := 1) hx hb dL_law_634 (by decide) ?_
  refine lv_iadd hx hb dL_law_635 ?_
  refine rs_sld 1 hx hb hXs hbl hbA hS rfl (by omega) hL h1 dL_law_636 ?_
  refine lv_aload_n hx hb dL_law_637 rfl (lv_at hl 0 rfl) ?_
  refine lv_iload_n hx hb dL_law_638 rfl (lv_at hl 3 rfl) ?_
  refine lv_iconst (v := 2) hx hb dL_law_639 (by decide) ?_
  refine lv_iadd hx hb dL_law_640 ?_
  refine rs_sld 2 hx hb hXs hbl hbA hS rfl (by omega) hL h2 dL_law_641 ?_
  refine rs_callVi (As := [.int p1, .int p2]) (rest := []) (index := 78) ⟨hx, hb, hml, hown, hts⟩ (c_X10_needs l G (q 0) (q 1) (q 9) (q 10) (q 12) (q 17) (q 20) (q 23) (q 26) (q 2) (q 3) (q 5) (q 4) (nI y) (nI (D 0)) (nI (D 1)) (nI (D 2)) (nI (D 3)) (nI (D 4)) (nI (D 5)) (nI (D 6)) f p1 p2 N r hx1) (cwV 2 hts gL_law_X10_needs rfl rfl rfl (by decide +kernel) ⟨Nat.le_of_ble_eq_true rfl, Nat.le_of_ble_eq_true rfl⟩) dL_law_642 hK hP hD hS hA [0, 1, 2, 3, 4] rfl (by decide) rfl rfl (q0 := 0) (ci := 10) rfl rfl rfl hl.1 (lv_room (Nat.le_of_ble_eq_true rfl)) hcs0 (fun (u : Unit) => (rs_X G q fi D y cn pn f xl xy xc ps j ja jl jL (rs_M G k D y cn pn g sl sy sc pm K kb mj ma ml (T0 ++ T1)))) (fun _ => rfl) (fun _ => rfl) (fun u H locs hP hD hS => ?_)
  have hP : va_P G.1 vwCl (rs_X G q fi D y cn pn f xl xy xc ps j ja jl jL (rs_M G k D y cn pn g sl sy sc pm K kb mj ma ml (T0 ++ T1))) H := hP
  have hD : va_D (fun q : Nat => s.heap.size ≤ q) (rs_X G q fi D y cn pn f xl xy xc ps j ja jl jL (rs_M G k D y cn pn g sl sy sc pm K kb mj ma ml (T0 ++ T1))) := hD
  refine lv_aload_n hx hb dL_law_645 rfl (lv_at hl 2 rfl) ?_
  refine lv_aload_n hx hb dL_law_646 rfl (lv_at hl 0 rfl) ?_
  refine lv_iload_n hx hb dL_law_647 rfl (lv_at hl 3 rfl) ?_
  refine lv_iconst (v := 1) hx hb dL_law_648 (by decide) ?_
  refine lv_iadd hx hb dL_law_649 ?_
  refine rs_sld 1 hx hb hXs hbl hbA hS rfl (by omega) hL h1 dL_law_650 ?_
  refine lv_aload_n hx hb dL_law_651 rfl (lv_at hl 0 rfl) ?_
  refine lv_iload_n hx hb dL_law_652 rfl (lv_at hl 3 rfl) ?_
  refine lv_iconst (v := 2) hx hb dL_law_653 (by decide) ?_
  refine lv_iadd hx hb dL_law_654 ?_
  refine rs_sld 2 hx hb hXs hbl hbA hS rfl (by omega) hL h2 dL_law_655 ?_
  refine rs_callVi (As := [.int p1, .int p2]) (rest := [.int r]) (index := 81) ⟨hx, hb, hml, hown, hts⟩ (c_X11_needs l G (k 0) (k 1) (k 2) (k 3) (k 4) (k 5) (k 6) (k 7) (k 8) (k 9) (k 10) (k 11) (k 12) (k 13) (k 14) (k 15) (k 16) (k 17) (k 18) (k 19) (nI (D 0)) (nI (D 1)) (nI (D 2)) (nI (D 3)) (nI (D 4)) (nI (D 5)) (nI (D 6)) (nI y) (nI cn) (nI pn) (mj 0) (mj 1) (mj 2) (mj 3) (mj 4) (mj 5) (mj 6) (mj 7) (mj 8) (mj 9) g (ma 5) (ma 4) p1 p2 N r n1 n2 g2 d1 d2 hm1) (cwV 2 hts gL_law_X11_needs rfl rfl rfl (by decide +kernel) ⟨Nat.le_of_ble_eq_true rfl, Nat.le_of_ble_eq_true rfl⟩) dL_law_656 hK hP hD hS hA [29, 30, 40, 39] rfl (by decide) rfl rfl (q0 := 0) (ci := 11) rfl rfl rfl hl.1 (lv_room (Nat.le_of_ble_eq_true rfl)) hcs0 (fun (u : Unit) => (rs_X G q fi D y cn pn f xl xy xc ps j ja jl jL (rs_M G k D y cn pn g2 sl sy sc pm K kb (rs_ls [mj 0, n1, n2] mj) (rs_ls [ma 0, ma 1, ma 2, ma 3, d2, d1] ma) ml (T0 ++ T1)))) (fun _ => rfl) (fun _ => rfl) (fun u H locs hP hD hS => ?_)
  have hP : va_P G.1 vwCl (rs_X G q fi D y cn pn f xl xy xc ps j ja jl jL (rs_M G k D y cn pn g2 sl sy sc pm K kb (rs_ls [mj 0, n1, n2] mj) (rs_ls [ma 0, ma 1, ma 2, ma 3, d2, d1] ma) ml (T0 ++ T1))) H := hP
  have hD : va_D (fun q : Nat => s.heap.size ≤ q) (rs_X G q fi D y cn pn f xl xy xc ps j ja jl jL (rs_M G k D y cn pn g2 sl sy sc pm K kb (rs_ls [mj 0, n1, n2] mj) (rs_ls [ma 0, ma 1, ma 2, ma 3, d2, d1] ma) ml (T0 ++ T1))) := hD
  refine lv_icmp_eq (tgt := 1303) hx hb dL_law_659 (by decide) (fun _ => ?_) (fun hc => absurd rfl hc)
  refine W.widen (k := cells + 8) (n := slots + 76) (Nat.le_add_right _ _) (Nat.le_add_right _ _) ?_
  exact nx fi D V y cn pn f xl xy xc ps j ja jl jL g2 sl sy sc pm K kb (rs_ls [mj 0, n1, n2] mj) (rs_ls [ma 0, ma 1, ma 2, ma 3, d2, d1] ma) ml S T0 T1 H locs ls ⟨hD0, hV, hX, hM3, (by omega), hcn, hpn, e1, e2, e3, s1, s2, s3, (i0.up (Nat.le_add_right _ _)), (i1.up (Nat.le_add_right _ _))⟩ hP hD hS hl
set_option maxHeartbeats 2000000 in
theorem lw_carry {p : Program} {l : Launch} {e : Env} {s : State} {m : MethodId} {below : List Frame} {meth : Method} {c : Code} {b L : Nat} {xs : Nat → Int32} {G : rs_G} (C0 : lw_Cx p s m c b L xs G) {N : Nat} (hN : 200000 < N) {cells slots : Nat} (hcs : cells + 8 ≤ 600000 ∧ slots + 76 ≤ 7302250) {i Y : Nat} (hi : i + 5 ≤ L) (hY : Y ≤ 2 ^ 21) {p1 p2 p3 p4 : Int32} (h1 : xs (i + 1) = p1) (h2 : xs (i + 2) = p2) (h3 : xs (i + 3) = p3) (h4 : xs (i + 4) = p4) {q k : Nat → Nat} {Q : State → Prop} {fi : Nat → Option Nat} {D : Nat → Nat} {V : Nat → Nat → Nat} {y : Nat} {cn : Nat} {pn : Nat} {f : Nat → Int32} {xl : Nat → Int32} {xy : Nat → Int32} {xc : Nat → Int32} {ps : Nat → Int32} {j : Nat → Int32} {ja : Nat → Nat → Int32} {jl : Nat → Nat → Int64} {jL : Nat → Int64} {g : Nat → Int32} {sl : Nat → Int32} {sy : Nat → Int32} {sc : Nat → Int32} {pm : Nat → Int32} {K : Nat → Int32} {kb : Nat → Int32} {mj : Nat → Int32} {ma : Nat → Nat → Int32} {ml : Nat → Nat → Int64} {S : Nat → Nat} {T0 : va_W} {T1 : va_W} {H : Heap} {locs : List Loc} {ls : Array Slot} (hI : rs_I G Y D V y cn pn f xl xy xc ps g sl sy sc pm K kb fi S T0 T1) (hP : va_P G.1 vwCl (rs_X G q fi D y cn pn f xl xy xc ps j ja jl jL (rs_M G k D y cn pn g sl sy sc pm K kb mj ma ml (T0 ++ T1))) H) (hD : va_D (fun q : Nat => s.heap.size ≤ q) (rs_X G q fi D y cn pn f xl xy xc ps j ja jl jL (rs_M G k D y cn pn g sl sy sc pm K kb mj ma ml (T0 ++ T1)))) (hS : va_S (fun q : Nat => s.heap.size ≤ q) s.heap H locs) (hl : lv_has ls 4 [(0, .ref b), (1, .ref (q 0)), (2, .ref (k 0)), (3, .int (nI i))]) (nx : lw_Nx p l e s m below meth c b G q k i (Y + 600) (cells + 8) (slots + 76) Q) : W p l e room_1 s m #[Value.ref b] below meth c H locs cells slots Q (F0 m 664 ls []) := by
  obtain ⟨hx, hb, hml, hown, hts, hXs, hbl, hK, hL⟩ := C0
  obtain ⟨hD0, hV, hX, hM, hy, hcn, hpn, e1, e2, e3, s1, s2, s3, i0, i1⟩ := hI
  have hA : ∀ q : Nat, s.heap.size ≤ q → (fun q : Nat => s.heap.size ≤ q) q := fun _ h => h
  have hbA : ¬ (fun q : Nat => s.heap.size ≤ q) b := Nat.not_le.mpr hbl
  have hcs0 : cells ≤ room_1.cells ∧ slots ≤ room_1.slots := ⟨Nat.le_trans (Nat.le_add_right _ 8) hcs.1, Nat.le_trans (Nat.le_add_right _ 76) hcs.2⟩
  obtain ⟨r, n1, n2, g2, d1, d2, d3, d4, hx1, hm1, hM3⟩ := e_carry hD0 hV hX hM (N := N) (by omega) (y := y) (by omega) p1 (ja 3) (ja 4) (mj 1) (mj 2) (ma 5) (ma 4) (ma 7) (ma 8)
  refine lv_aload_n hx hb dL_law_664 rfl (lv_at hl 1 rfl) ?_
  refine lv_aload_n hx hb dL_law_665 rfl (lv_at hl 0 rfl) ?_
  refine lv_iload_n hx hb dL_law_666 rfl (lv_at hl 3 rfl) ?_
  refine lv_iconst (v := 1) hx hb dL_law_667 (by decide) ?_
  refine lv_iadd hx hb dL_law_668 ?_
  refine rs_sld 1 hx hb hXs hbl hbA hS rfl (by omega) hL h1 dL_law_669 ?_
  refine rs_callVi (As := [.int p1]) (rest := []) (index := 82) ⟨hx, hb, hml, hown, hts⟩ (c_X10_carry l G (q 0) (q 1) (q 9) (q 10) (q 12) (q 17) (q 20) (q 23) (q 26) (q 24) (q 25) (q 2) (q 3) (q 5) (q 4) (nI y) (nI (D 0)) (nI (D 1)) (nI (D 2)) (nI (D 3)) (nI (D 4)) (nI (D 5)) (nI (D 6)) f (ja 3) (ja 4) p1 N r hx1) (cwV 1 hts gL_law_X10_carry rfl rfl rfl (by decide +kernel) ⟨Nat.le_of_ble_eq_true rfl, Nat.le_of_ble_eq_true rfl⟩) dL_law_670 hK hP hD hS hA [0, 23, 1, 2, 3, 4, 24, 25] rfl (by decide) rfl rfl (q0 := 0) (ci := 10) rfl rfl rfl hl.1 (lv_room (Nat.le_of_ble_eq_true rfl)) hcs0 (fun (u : ((Nat → Int32) × (Nat → Int32))) => (rs_X G q fi D y cn pn f xl xy xc ps j (rs_ls [ja 0, ja 1, ja 2, u.1, u.2] ja) jl jL (rs_M G k D y cn pn g sl sy sc pm K kb mj ma ml (T0 ++ T1)))) (fun _ => rfl) (fun _ => rfl) (fun u H locs hP hD hS => ?_)
  obtain ⟨u1, u2⟩ := u
  have hP : va_P G.1 vwCl (rs_X G q fi D y cn pn f xl xy xc ps j (rs_ls [ja 0, ja 1, ja 2, u1, u2] ja) jl jL (rs_M G k D y cn pn g sl sy sc pm K kb mj ma ml (T0 ++ T1))) H := hP
  have hD : va_D (fun q : Nat => s.heap.size ≤ q) (rs_X G q fi D y cn pn f xl xy xc ps j (rs_ls [ja 0, ja 1, ja 2, u1, u2] ja) jl jL (rs_M G k D y cn pn g sl sy sc pm K kb mj ma ml (T0 ++ T1))) := hD
  refine lv_aload_n hx hb dL_law_673 rfl (lv_at hl 2 rfl) ?_
  refine lv_aload_n hx hb dL_law_674 rfl (lv_at hl 0 rfl) ?_
  refine lv_iload_n hx hb dL_law_675 rfl (lv_at hl 3 rfl) ?_
  refine lv_iconst (v := 1) hx hb dL_law_676 (by decide) ?_
  refine lv_iadd hx hb dL_law_677 ?_
  refine rs_sld 1 hx hb hXs hbl hbA hS rfl (by omega) hL h1 dL_law_678 ?_
  refine rs_callVi (As := [.int p1]) (rest := [.int r]) (index := 85) ⟨hx, hb, hml, hown, hts⟩ (c_X11_carry l G (k 0) (k 1) (k 2) (k 3) (k 4) (k 5) (k 6) (k 7) (k 8) (k 9) (k 10) (k 11) (k 12) (k 13) (k 14) (k 15) (k 16) (k 17) (k 18) (k 19) (nI (D 0)) (nI (D 1)) (nI (D 2)) (nI (D 3)) (nI (D 4)) (nI (D 5)) (nI (D 6)) (nI y) (nI cn) (nI pn) (mj 0) (mj 1) (mj 2) (mj 3) (mj 4) (mj 5) (mj 6) (mj 7) (mj 8) (mj 9) g (ma 5) (ma 4) (ma 7) (ma 8) p1 N r n1 n2 g2 d1 d2 d3 d4 hm1) (cwV 1 hts gL_law_X11_carry rfl rfl rfl (by decide +kernel) ⟨Nat.le_of_ble_eq_true rfl, Nat.le_of_ble_eq_true rfl⟩) dL_law_679 hK hP hD hS hA [29, 30, 40, 39, 42, 43] rfl (by decide) rfl rfl (q0 := 0) (ci := 11) rfl rfl rfl hl.1 (lv_room (Nat.le_of_ble_eq_true rfl)) hcs0 (fun (u : Unit) => (rs_X G q fi D y cn pn f xl xy xc ps j (rs_ls [ja 0, ja 1, ja 2, u1, u2] ja) jl jL (rs_M G k D y cn pn g2 sl sy sc pm K kb (rs_ls [mj 0, n1, n2] mj) (rs_ls [ma 0, ma 1, ma 2, ma 3, d2, d1, ma 6, d3, d4] ma) ml (T0 ++ T1)))) (fun _ => rfl) (fun _ => rfl) (fun u H locs hP hD hS => ?_)
  have hP : va_P G.1 vwCl (rs_X G q fi D y cn pn f xl xy xc ps j (rs_ls [ja 0, ja 1, ja 2, u1, u2] ja) jl jL (rs_M G k D y cn pn g2 sl sy sc pm K kb (rs_ls [mj 0, n1, n2] mj) (rs_ls [ma 0, ma 1, ma 2, ma 3, d2, d1, ma 6, d3, d4] ma) ml (T0 ++ T1))) H := hP
  have hD : va_D (fun q : Nat => s.heap.size ≤ q) (rs_X G q fi D y cn pn f xl xy xc ps j (rs_ls [ja 0, ja 1, ja 2, u1, u2] ja) jl jL (rs_M G k D y cn pn g2 sl sy sc pm K kb (rs_ls [mj 0, n1, n2] mj) (rs_ls [ma 0, ma 1, ma 2, ma 3, d2, d1, ma 6, d3, d4] ma) ml (T0 ++ T1))) := hD
  refine lv_icmp_eq (tgt := 1303) hx hb dL_law_682 (by decide) (fun _ => ?_) (fun hc => absurd rfl hc)
  refine W.widen (k := cells + 8) (n := slots + 76) (Nat.le_add_right _ _) (Nat.le_add_right _ _) ?_
  exact nx fi D V y cn pn f xl xy xc ps j (rs_ls [ja 0, ja 1, ja 2, u1, u2] ja) jl jL g2 sl sy sc pm K kb (rs_ls [mj 0, n1, n2] mj) (rs_ls [ma 0, ma 1, ma 2, ma 3, d2, d1, ma 6, d3, d4] ma) ml S T0 T1 H locs ls ⟨hD0, hV, hX, hM3, (by omega), hcn, hpn, e1, e2, e3, s1, s2, s3, (i0.up (Nat.le_add_right _ _)), (i1.up (Nat.le_add_right _ _))⟩ hP hD hS hl
set_option maxHeartbeats 2000000 in
theorem lw_strike {p : Program} {l : Launch} {e : Env} {s : State} {m : MethodId} {below : List Frame} {meth : Method} {c : Code} {b L : Nat} {xs : Nat → Int32} {G : rs_G} (C0 : lw_Cx p s m c b L xs G) {N : Nat} (hN : 200000 < N) {cells slots : Nat} (hcs : cells + 8 ≤ 600000 ∧ slots + 76 ≤ 7302250) {i Y : Nat} (hi : i + 5 ≤ L) (hY : Y ≤ 2 ^ 21) {p1 p2 p3 p4 : Int32} (h1 : xs (i + 1) = p1) (h2 : xs (i + 2) = p2) (h3 : xs (i + 3) = p3) (h4 : xs (i + 4) = p4) {q k : Nat → Nat} {Q : State → Prop} {fi : Nat → Option Nat} {D : Nat → Nat} {V : Nat → Nat → Nat} {y : Nat} {cn : Nat} {pn : Nat} {f : Nat → Int32} {xl : Nat → Int32} {xy : Nat → Int32} {xc : Nat → Int32} {ps : Nat → Int32} {j : Nat → Int32} {ja : Nat → Nat → Int32} {jl : Nat → Nat → Int64} {jL : Nat → Int64} {g : Nat → Int32} {sl : Nat → Int32} {sy : Nat → Int32} {sc : Nat → Int32} {pm : Nat → Int32} {K : Nat → Int32} {kb : Nat → Int32} {mj : Nat → Int32} {ma : Nat → Nat → Int32} {ml : Nat → Nat → Int64} {S : Nat → Nat} {T0 : va_W} {T1 : va_W} {H : Heap} {locs : List Loc} {ls : Array Slot} (hI : rs_I G Y D V y cn pn f xl xy xc ps g sl sy sc pm K kb fi S T0 T1) (hP : va_P G.1 vwCl (rs_X G q fi D y cn pn f xl xy xc ps j ja jl jL (rs_M G k D y cn pn g sl sy sc pm K kb mj ma ml (T0 ++ T1))) H) (hD : va_D (fun q : Nat => s.heap.size ≤ q) (rs_X G q fi D y cn pn f xl xy xc ps j ja jl jL (rs_M G k D y cn pn g sl sy sc pm K kb mj ma ml (T0 ++ T1)))) (hS : va_S (fun q : Nat => s.heap.size ≤ q) s.heap H locs) (hl : lv_has ls 4 [(0, .ref b), (1, .ref (q 0)), (2, .ref (k 0)), (3, .int (nI i))]) (nx : lw_Nx p l e s m below meth c b G q k i (Y + 600) (cells + 8) (slots + 76) Q) : W p l e room_1 s m #[Value.ref b] below meth c H locs cells slots Q (F0 m 720 ls []) := by
  obtain ⟨hx, hb, hml, hown, hts, hXs, hbl, hK, hL⟩ := C0
  obtain ⟨hD0, hV, hX, hM, hy, hcn, hpn, e1, e2, e3, s1, s2, s3, i0, i1⟩ := hI
  have hA : ∀ q : Nat, s.heap.size ≤ q → (fun q : Nat => s.heap.size ≤ q) q := fun _ h => h
  have hbA : ¬ (fun q : Nat => s.heap.size ≤ q) b := Nat.not_le.mpr hbl
  have hcs0 : cells ≤ room_1.cells ∧ slots ≤ room_1.slots := ⟨Nat.le_trans (Nat.le_add_right _ 8) hcs.1, Nat.le_trans (Nat.le_add_right _ 76) hcs.2⟩
  obtain ⟨r, hx1, hm1⟩ := e_strike hD0 (N := N) (by omega) p1 p2 p3
  refine lv_aload_n hx hb dL_law_720 rfl (lv_at hl 1 rfl) ?_
  refine lv_aload_n hx hb dL_law_721 rfl (lv_at hl 0 rfl) ?_
  refine lv_iload_n hx hb dL_law_722 rfl (lv_at hl 3 rfl) ?_
  refine lv_iconst (v := 1) hx hb dL_law_723 (by decide) ?_
  refine lv_iadd hx hb dL_law_724 ?_
  refine rs_sld 1 hx hb hXs hbl hbA hS rfl (by omega) hL h1 dL_law_725 ?_
  refine lv_aload_n hx hb dL_law_726 rfl (lv_at hl 0 rfl) ?_
  refine lv_iload_n hx hb dL_law_727 rfl (lv_at hl 3 rfl) ?_
  refine lv_iconst (v := 2) hx hb dL_law_728 (by decide) ?_
  refine lv_iadd hx hb dL_law_729 ?_
  refine rs_sld 2 hx hb hXs hbl hbA hS rfl (by omega) hL h2 dL_law_730 ?_
  refine lv_aload_n hx hb dL_law_731 rfl (lv_at hl 0 rfl) ?_
  refine lv_iload_n hx hb dL_law_732 rfl (lv_at hl 3 rfl) ?_
  refine lv_iconst (v := 3) hx hb dL_law_733 (by decide) ?_
  refine lv_iadd hx hb dL_law_734 ?_
  refine rs_sld 3 hx hb hXs hbl hbA hS rfl (by omega) hL h3 dL_law_735 ?_
  refine rs_callVi (As := [.int p1, .int p2, .int p3]) (rest := []) (index := 90) ⟨hx, hb, hml, hown, hts⟩ (c_X10_strike l G (q 0) (q 1) (q 9) (q 10) (q 12) (q 17) (q 20) (q 23) (q 26) (q 2) (q 3) (q 5) (nI y) (nI (D 0)) (nI (D 1)) (nI (D 2)) (nI (D 3)) (nI (D 4)) (nI (D 5)) (nI (D 6)) p1 p2 p3 N r hx1) (cwV 3 hts gL_law_X10_strike rfl rfl rfl (by decide +kernel) ⟨Nat.le_of_ble_eq_true rfl, Nat.le_of_ble_eq_true rfl⟩) dL_law_736 hK hP hD hS hA [0, 1, 2] rfl (by decide) rfl rfl (q0 := 0) (ci := 10) rfl rfl rfl hl.1 (lv_room (Nat.le_of_ble_eq_true rfl)) hcs0 (fun (u : Unit) => (rs_X G q fi D y cn pn f xl xy xc ps j ja jl jL (rs_M G k D y cn pn g sl sy sc pm K kb mj ma ml (T0 ++ T1)))) (fun _ => rfl) (fun _ => rfl) (fun u H locs hP hD hS => ?_)
  have hP : va_P G.1 vwCl (rs_X G q fi D y cn pn f xl xy xc ps j ja jl jL (rs_M G k D y cn pn g sl sy sc pm K kb mj ma ml (T0 ++ T1))) H := hP
  have hD : va_D (fun q : Nat => s.heap.size ≤ q) (rs_X G q fi D y cn pn f xl xy xc ps j ja jl jL (rs_M G k D y cn pn g sl sy sc pm K kb mj ma ml (T0 ++ T1))) := hD
  refine lv_aload_n hx hb dL_law_739 rfl (lv_at hl 2 rfl) ?_
  refine lv_aload_n hx hb dL_law_740 rfl (lv_at hl 0 rfl) ?_
  refine lv_iload_n hx hb dL_law_741 rfl (lv_at hl 3 rfl) ?_
  refine lv_iconst (v := 1) hx hb dL_law_742 (by decide) ?_
  refine lv_iadd hx hb dL_law_743 ?_
  refine rs_sld 1 hx hb hXs hbl hbA hS rfl (by omega) hL h1 dL_law_744 ?_
  refine lv_aload_n hx hb dL_law_745 rfl (lv_at hl 0 rfl) ?_
  refine lv_iload_n hx hb dL_law_746 rfl (lv_at hl 3 rfl) ?_
  refine lv_iconst (v := 2) hx hb dL_law_747 (by decide) ?_
  refine lv_iadd hx hb dL_law_748 ?_
  refine rs_sld 2 hx hb hXs hbl hbA hS rfl (by omega) hL h2 dL_law_749 ?_
  refine lv_aload_n hx hb dL_law_750 rfl (lv_at hl 0 rfl) ?_
  refine lv_iload_n hx hb dL_law_751 rfl (lv_at hl 3 rfl) ?_
  refine lv_iconst (v := 3) hx hb dL_law_752 (by decide) ?_
  refine lv_iadd hx hb dL_law_753 ?_
  refine rs_sld 3 hx hb hXs hbl hbA hS rfl (by omega) hL h3 dL_law_754 ?_
  refine rs_callVi (As := [.int p1, .int p2, .int p3]) (rest := [.int r]) (index := 93) ⟨hx, hb, hml, hown, hts⟩ (c_X11_strike l G (k 0) (k 1) (k 2) (k 3) (k 4) (k 5) (k 6) (k 7) (k 8) (k 9) (k 10) (k 11) (k 12) (k 13) (k 14) (k 15) (k 16) (k 17) (k 18) (k 19) (nI (D 0)) (nI (D 1)) (nI (D 2)) (nI (D 3)) (nI (D 4)) (nI (D 5)) (nI (D 6)) (nI y) (nI cn) (nI pn) (mj 0) (mj 1) (mj 2) (mj 3) (mj 4) (mj 5) (mj 6) (mj 7) (mj 8) (mj 9) p1 p2 p3 N r hm1) (cwV 3 hts gL_law_X11_strike rfl rfl rfl (by decide +kernel) ⟨Nat.le_of_ble_eq_true rfl, Nat.le_of_ble_eq_true rfl⟩) dL_law_755 hK hP hD hS hA [29] rfl (by decide) rfl rfl (q0 := 0) (ci := 11) rfl rfl rfl hl.1 (lv_room (Nat.le_of_ble_eq_true rfl)) hcs0 (fun (u : Unit) => (rs_X G q fi D y cn pn f xl xy xc ps j ja jl jL (rs_M G k D y cn pn g sl sy sc pm K kb mj ma ml (T0 ++ T1)))) (fun _ => rfl) (fun _ => rfl) (fun u H locs hP hD hS => ?_)
  have hP : va_P G.1 vwCl (rs_X G q fi D y cn pn f xl xy xc ps j ja jl jL (rs_M G k D y cn pn g sl sy sc pm K kb mj ma ml (T0 ++ T1))) H := hP
  have hD : va_D (fun q : Nat => s.heap.size ≤ q) (rs_X G q fi D y cn pn f xl xy xc ps j ja jl jL (rs_M G k D y cn pn g sl sy sc pm K kb mj ma ml (T0 ++ T1))) := hD
  refine lv_icmp_eq (tgt := 1303) hx hb dL_law_758 (by decide) (fun _ => ?_) (fun hc => absurd rfl hc)
  refine W.widen (k := cells + 8) (n := slots + 76) (Nat.le_add_right _ _) (Nat.le_add_right _ _) ?_
  exact nx fi D V y cn pn f xl xy xc ps j ja jl jL g sl sy sc pm K kb mj ma ml S T0 T1 H locs ls ⟨hD0, hV, hX, hM, (by omega), hcn, hpn, e1, e2, e3, s1, s2, s3, (i0.up (Nat.le_add_right _ _)), (i1.up (Nat.le_add_right _ _))⟩ hP hD hS hl
set_option maxHeartbeats 2000000 in
theorem lw_strikes {p : Program} {l : Launch} {e : Env} {s : State} {m : MethodId} {below : List Frame} {meth : Method} {c : Code} {b L : Nat} {xs : Nat → Int32} {G : rs_G} (C0 : lw_Cx p s m c b L xs G) {N : Nat} (hN : 200000 < N) {cells slots : Nat} (hcs : cells + 8 ≤ 600000 ∧ slots + 76 ≤ 7302250) {i Y : Nat} (hi : i + 5 ≤ L) (hY : Y ≤ 2 ^ 21) {p1 p2 p3 p4 : Int32} (h1 : xs (i + 1) = p1) (h2 : xs (i + 2) = p2) (h3 : xs (i + 3) = p3) (h4 : xs (i + 4) = p4) {q k : Nat → Nat} {Q : State → Prop} {fi : Nat → Option Nat} {D : Nat → Nat} {V : Nat → Nat → Nat} {y : Nat} {cn : Nat} {pn : Nat} {f : Nat → Int32} {xl : Nat → Int32} {xy : Nat → Int32} {xc : Nat → Int32} {ps : Nat → Int32} {j : Nat → Int32} {ja : Nat → Nat → Int32} {jl : Nat → Nat → Int64} {jL : Nat → Int64} {g : Nat → Int32} {sl : Nat → Int32} {sy : Nat → Int32} {sc : Nat → Int32} {pm : Nat → Int32} {K : Nat → Int32} {kb : Nat → Int32} {mj : Nat → Int32} {ma : Nat → Nat → Int32} {ml : Nat → Nat → Int64} {S : Nat → Nat} {T0 : va_W} {T1 : va_W} {H : Heap} {locs : List Loc} {ls : Array Slot} (hI : rs_I G Y D V y cn pn f xl xy xc ps g sl sy sc pm K kb fi S T0 T1) (hP : va_P G.1 vwCl (rs_X G q fi D y cn pn f xl xy xc ps j ja jl jL (rs_M G k D y cn pn g sl sy sc pm K kb mj ma ml (T0 ++ T1))) H) (hD : va_D (fun q : Nat => s.heap.size ≤ q) (rs_X G q fi D y cn pn f xl xy xc ps j ja jl jL (rs_M G k D y cn pn g sl sy sc pm K kb mj ma ml (T0 ++ T1)))) (hS : va_S (fun q : Nat => s.heap.size ≤ q) s.heap H locs) (hl : lv_has ls 4 [(0, .ref b), (1, .ref (q 0)), (2, .ref (k 0)), (3, .int (nI i))]) (nx : lw_Nx p l e s m below meth c b G q k i (Y + 600) (cells + 8) (slots + 76) Q) : W p l e room_1 s m #[Value.ref b] below meth c H locs cells slots Q (F0 m 763 ls []) := by
  obtain ⟨hx, hb, hml, hown, hts, hXs, hbl, hK, hL⟩ := C0
  obtain ⟨hD0, hV, hX, hM, hy, hcn, hpn, e1, e2, e3, s1, s2, s3, i0, i1⟩ := hI
  have hA : ∀ q : Nat, s.heap.size ≤ q → (fun q : Nat => s.heap.size ≤ q) q := fun _ h => h
  have hbA : ¬ (fun q : Nat => s.heap.size ≤ q) b := Nat.not_le.mpr hbl
  have hcs0 : cells ≤ room_1.cells ∧ slots ≤ room_1.slots := ⟨Nat.le_trans (Nat.le_add_right _ 8) hcs.1, Nat.le_trans (Nat.le_add_right _ 76) hcs.2⟩
  obtain ⟨r, hx1, hm1⟩ := e_strikes hD0 (N := N) (by omega) p1 p2 p3 p4
  refine lv_aload_n hx hb dL_law_763 rfl (lv_at hl 1 rfl) ?_
  refine lv_aload_n hx hb dL_law_764 rfl (lv_at hl 0 rfl) ?_
  refine lv_iload_n hx hb dL_law_765 rfl (lv_at hl 3 rfl) ?_
  refine lv_iconst (v := 1) hx hb dL_law_766 (by decide) ?_
  refine lv_iadd hx hb dL_law_767 ?_
  refine rs_sld 1 hx hb hXs hbl hbA hS rfl (by omega) hL h1 dL_law_768 ?_
  refine lv_aload_n hx hb dL_law_769 rfl (lv_at hl 0 rfl) ?_
  refine lv_iload_n hx hb dL_law_770 rfl (lv_at hl 3 rfl) ?_
  refine lv_iconst (v := 2) hx hb dL_law_771 (by decide) ?_
  refine lv_iadd hx hb dL_law_772 ?_
  refine rs_sld 2 hx hb hXs hbl hbA hS rfl (by omega) hL h2 dL_law_773 ?_
  refine lv_aload_n hx hb dL_law_774 rfl (lv_at hl 0 rfl) ?_
  refine lv_iload_n hx hb dL_law_775 rfl (lv_at hl 3 rfl) ?_
  refine lv_iconst (v := 3) hx hb dL_law_776 (by decide) ?_
  refine lv_iadd hx hb dL_law_777 ?_
  refine rs_sld 3 hx hb hXs hbl hbA hS rfl (by omega) hL h3 dL_law_778 ?_
  refine lv_aload_n hx hb dL_law_779 rfl (lv_at hl 0 rfl) ?_
  refine lv_iload_n hx hb dL_law_780 rfl (lv_at hl 3 rfl) ?_
  refine lv_iconst (v := 4) hx hb dL_law_781 (by decide) ?_
  refine lv_iadd hx hb dL_law_782 ?_
  refine rs_sld 4 hx hb hXs hbl hbA hS rfl (by omega) hL h4 dL_law_783 ?_
  refine rs_callVi (As := [.int p1, .int p2, .int p3, .int p4]) (rest := []) (index := 94) ⟨hx, hb, hml, hown, hts⟩ (c_X10_strikes l G (q 0) (q 1) (q 9) (q 10) (q 12) (q 17) (q 20) (q 23) (q 26) (q 2) (q 3) (q 5) (nI y) (nI (D 0)) (nI (D 1)) (nI (D 2)) (nI (D 3)) (nI (D 4)) (nI (D 5)) (nI (D 6)) p1 p2 p3 p4 N r hx1) (cwV 4 hts gL_law_X10_strikes rfl rfl rfl (by decide +kernel) ⟨Nat.le_of_ble_eq_true rfl, Nat.le_of_ble_eq_true rfl⟩) dL_law_784 hK hP hD hS hA [0, 1, 2] rfl (by decide) rfl rfl (q0 := 0) (ci := 10) rfl rfl rfl hl.1 (lv_room (Nat.le_of_ble_eq_true rfl)) hcs0 (fun (u : Unit) => (rs_X G q fi D y cn pn f xl xy xc ps j ja jl jL (rs_M G k D y cn pn g sl sy sc pm K kb mj ma ml (T0 ++ T1)))) (fun _ => rfl) (fun _ => rfl) (fun u H locs hP hD hS => ?_)
  have hP : va_P G.1 vwCl (rs_X G q fi D y cn pn f xl xy xc ps j ja jl jL (rs_M G k D y cn pn g sl sy sc pm K kb mj ma ml (T0 ++ T1))) H := hP
  have hD : va_D (fun q : Nat => s.heap.size ≤ q) (rs_X G q fi D y cn pn f xl xy xc ps j ja jl jL (rs_M G k D y cn pn g sl sy sc pm K kb mj ma ml (T0 ++ T1))) := hD
  refine lv_aload_n hx hb dL_law_787 rfl (lv_at hl 2 rfl) ?_
  refine lv_aload_n hx hb dL_law_788 rfl (lv_at hl 0 rfl) ?_
  refine lv_iload_n hx hb dL_law_789 rfl (lv_at hl 3 rfl) ?_
  refine lv_iconst (v := 1) hx hb dL_law_790 (by decide) ?_
  refine lv_iadd hx hb dL_law_791 ?_
  refine rs_sld 1 hx hb hXs hbl hbA hS rfl (by omega) hL h1 dL_law_792 ?_
  refine lv_aload_n hx hb dL_law_793 rfl (lv_at hl 0 rfl) ?_
  refine lv_iload_n hx hb dL_law_794 rfl (lv_at hl 3 rfl) ?_
  refine lv_iconst (v := 2) hx hb dL_law_795 (by decide) ?_
  refine lv_iadd hx hb dL_law_796 ?_
  refine rs_sld 2 hx hb hXs hbl hbA hS rfl (by omega) hL h2 dL_law_797 ?_
  refine lv_aload_n hx hb dL_law_798 rfl (lv_at hl 0 rfl) ?_
  refine lv_iload_n hx hb dL_law_799 rfl (lv_at hl 3 rfl) ?_
  refine lv_iconst (v := 3) hx hb dL_law_800 (by decide) ?_
  refine lv_iadd hx hb dL_law_801 ?_
  refine rs_sld 3 hx hb hXs hbl hbA hS rfl (by omega) hL h3 dL_law_802 ?_
  refine lv_aload_n hx hb dL_law_803 rfl (lv_at hl 0 rfl) ?_
  refine lv_iload_n hx hb dL_law_804 rfl (lv_at hl 3 rfl) ?_
  refine lv_iconst (v := 4) hx hb dL_law_805 (by decide) ?_
  refine lv_iadd hx hb dL_law_806 ?_
  refine rs_sld 4 hx hb hXs hbl hbA hS rfl (by omega) hL h4 dL_law_807 ?_
  refine rs_callVi (As := [.int p1, .int p2, .int p3, .int p4]) (rest := [.int r]) (index := 98) ⟨hx, hb, hml, hown, hts⟩ (c_X11_strikes l G (k 0) (k 1) (k 2) (k 3) (k 4) (k 5) (k 6) (k 7) (k 8) (k 9) (k 10) (k 11) (k 12) (k 13) (k 14) (k 15) (k 16) (k 17) (k 18) (k 19) (nI (D 0)) (nI (D 1)) (nI (D 2)) (nI (D 3)) (nI (D 4)) (nI (D 5)) (nI (D 6)) (nI y) (nI cn) (nI pn) (mj 0) (mj 1) (mj 2) (mj 3) (mj 4) (mj 5) (mj 6) (mj 7) (mj 8) (mj 9) p1 p2 p3 p4 N r hm1) (cwV 4 hts gL_law_X11_strikes rfl rfl rfl (by decide +kernel) ⟨Nat.le_of_ble_eq_true rfl, Nat.le_of_ble_eq_true rfl⟩) dL_law_808 hK hP hD hS hA [29] rfl (by decide) rfl rfl (q0 := 0) (ci := 11) rfl rfl rfl hl.1 (lv_room (Nat.le_of_ble_eq_true rfl)) hcs0 (fun (u : Unit) => (rs_X G q fi D y cn pn f xl xy xc ps j ja jl jL (rs_M G k D y cn pn g sl sy sc pm K kb mj ma ml (T0 ++ T1)))) (fun _ => rfl) (fun _ => rfl) (fun u H locs hP hD hS => ?_)
  have hP : va_P G.1 vwCl (rs_X G q fi D y cn pn f xl xy xc ps j ja jl jL (rs_M G k D y cn pn g sl sy sc pm K kb mj ma ml (T0 ++ T1))) H := hP
  have hD : va_D (fun q : Nat => s.heap.size ≤ q) (rs_X G q fi D y cn pn f xl xy xc ps j ja jl jL (rs_M G k D y cn pn g sl sy sc pm K kb mj ma ml (T0 ++ T1))) := hD
  refine lv_icmp_eq (tgt := 1303) hx hb dL_law_811 (by decide) (fun _ => ?_) (fun hc => absurd rfl hc)
  refine W.widen (k := cells + 8) (n := slots + 76) (Nat.le_add_right _ _) (Nat.le_add_right _ _) ?_
  exact nx fi D V y cn pn f xl xy xc ps j ja jl jL g sl sy sc pm K kb mj ma ml S T0 T1 H locs ls ⟨hD0, hV, hX, hM, (by omega), hcn, hpn, e1, e2, e3, s1, s2, s3, (i0.up (Nat.le_add_right _ _)), (i1.up (Nat.le_add_right _ _))⟩ hP hD hS hl
set_option maxHeartbeats 2000000 in
theorem lw_ways {p : Program} {l : Launch} {e : Env} {s : State} {m : MethodId} {below : List Frame} {meth : Method} {c : Code} {b L : Nat} {xs : Nat → Int32} {G : rs_G} (C0 : lw_Cx p s m c b L xs G) {N : Nat} (hN : 200000 < N) {cells slots : Nat} (hcs : cells + 8 ≤ 600000 ∧ slots + 76 ≤ 7302250) {i Y : Nat} (hi : i + 5 ≤ L) (hY : Y ≤ 2 ^ 21) {p1 p2 p3 p4 : Int32} (h1 : xs (i + 1) = p1) (h2 : xs (i + 2) = p2) (h3 : xs (i + 3) = p3) (h4 : xs (i + 4) = p4) {q k : Nat → Nat} {Q : State → Prop} {fi : Nat → Option Nat} {D : Nat → Nat} {V : Nat → Nat → Nat} {y : Nat} {cn : Nat} {pn : Nat} {f : Nat → Int32} {xl : Nat → Int32} {xy : Nat → Int32} {xc : Nat → Int32} {ps : Nat → Int32} {j : Nat → Int32} {ja : Nat → Nat → Int32} {jl : Nat → Nat → Int64} {jL : Nat → Int64} {g : Nat → Int32} {sl : Nat → Int32} {sy : Nat → Int32} {sc : Nat → Int32} {pm : Nat → Int32} {K : Nat → Int32} {kb : Nat → Int32} {mj : Nat → Int32} {ma : Nat → Nat → Int32} {ml : Nat → Nat → Int64} {S : Nat → Nat} {T0 : va_W} {T1 : va_W} {H : Heap} {locs : List Loc} {ls : Array Slot} (hI : rs_I G Y D V y cn pn f xl xy xc ps g sl sy sc pm K kb fi S T0 T1) (hP : va_P G.1 vwCl (rs_X G q fi D y cn pn f xl xy xc ps j ja jl jL (rs_M G k D y cn pn g sl sy sc pm K kb mj ma ml (T0 ++ T1))) H) (hD : va_D (fun q : Nat => s.heap.size ≤ q) (rs_X G q fi D y cn pn f xl xy xc ps j ja jl jL (rs_M G k D y cn pn g sl sy sc pm K kb mj ma ml (T0 ++ T1)))) (hS : va_S (fun q : Nat => s.heap.size ≤ q) s.heap H locs) (hl : lv_has ls 4 [(0, .ref b), (1, .ref (q 0)), (2, .ref (k 0)), (3, .int (nI i))]) (nx : lw_Nx p l e s m below meth c b G q k i (Y + 600) (cells + 8) (slots + 76) Q) : W p l e room_1 s m #[Value.ref b] below meth c H locs cells slots Q (F0 m 816 ls []) := by
  obtain ⟨hx, hb, hml, hown, hts, hXs, hbl, hK, hL⟩ := C0
  obtain ⟨hD0, hV, hX, hM, hy, hcn, hpn, e1, e2, e3, s1, s2, s3, i0, i1⟩ := hI
  have hA : ∀ q : Nat, s.heap.size ≤ q → (fun q : Nat => s.heap.size ≤ q) q := fun _ h => h
  have hbA : ¬ (fun q : Nat => s.heap.size ≤ q) b := Nat.not_le.mpr hbl
  have hcs0 : cells ≤ room_1.cells ∧ slots ≤ room_1.slots := ⟨Nat.le_trans (Nat.le_add_right _ 8) hcs.1, Nat.le_trans (Nat.le_add_right _ 76) hcs.2⟩
  obtain ⟨r, v1, v2, hx1, hm1⟩ := e_ways hD0 (N := N) (by omega) p1 p2 p3 p4 (jl 0) (jl 1) (ml 0) (ml 1)
  refine lv_aload_n hx hb dL_law_816 rfl (lv_at hl 1 rfl) ?_
  refine lv_aload_n hx hb dL_law_817 rfl (lv_at hl 0 rfl) ?_
  refine lv_iload_n hx hb dL_law_818 rfl (lv_at hl 3 rfl) ?_
  refine lv_iconst (v := 1) hx hb dL_law_819 (by decide) ?_
  refine lv_iadd hx hb dL_law_820 ?_
  refine rs_sld 1 hx hb hXs hbl hbA hS rfl (by omega) hL h1 dL_law_821 ?_
  refine lv_aload_n hx hb dL_law_822 rfl (lv_at hl 0 rfl) ?_
  refine lv_iload_n hx hb dL_law_823 rfl (lv_at hl 3 rfl) ?_
  refine lv_iconst (v := 2) hx hb dL_law_824 (by decide) ?_
  refine lv_iadd hx hb dL_law_825 ?_
  refine rs_sld 2 hx hb hXs hbl hbA hS rfl (by omega) hL h2 dL_law_826 ?_
  refine lv_aload_n hx hb dL_law_827 rfl (lv_at hl 0 rfl) ?_
  refine lv_iload_n hx hb dL_law_828 rfl (lv_at hl 3 rfl) ?_
  refine lv_iconst (v := 3) hx hb dL_law_829 (by decide) ?_
  refine lv_iadd hx hb dL_law_830 ?_
  refine rs_sld 3 hx hb hXs hbl hbA hS rfl (by omega) hL h3 dL_law_831 ?_
  refine lv_aload_n hx hb dL_law_832 rfl (lv_at hl 0 rfl) ?_
  refine lv_iload_n hx hb dL_law_833 rfl (lv_at hl 3 rfl) ?_
  refine lv_iconst (v := 4) hx hb dL_law_834 (by decide) ?_
  refine lv_iadd hx hb dL_law_835 ?_
  refine rs_sld 4 hx hb hXs hbl hbA hS rfl (by omega) hL h4 dL_law_836 ?_
  refine rs_callVl (As := [.int p1, .int p2, .int p3, .int p4]) (rest := []) (index := 99) ⟨hx, hb, hml, hown, hts⟩ (c_X10_ways l G (q 0) (q 1) (q 9) (q 10) (q 12) (q 17) (q 20) (q 23) (q 26) (q 2) (q 3) (q 5) (q 18) (q 19) (nI y) (nI (D 0)) (nI (D 1)) (nI (D 2)) (nI (D 3)) (nI (D 4)) (nI (D 5)) (nI (D 6)) (jl 0) (jl 1) p1 p2 p3 p4 N r hx1) (cwV 4 hts gL_law_X10_ways rfl rfl rfl (by decide +kernel) ⟨Nat.le_of_ble_eq_true rfl, Nat.le_of_ble_eq_true rfl⟩) dL_law_837 hK hP hD hS hA [0, 1, 2, 17, 18, 19] rfl (by decide) rfl rfl (q0 := 0) (ci := 10) rfl rfl rfl hl.1 (lv_room (Nat.le_of_ble_eq_true rfl)) hcs0 (fun (u : ((Nat → Int64) × (Nat → Int64))) => (rs_X G q fi D y cn pn f xl xy xc ps j ja (rs_ls [u.1, u.2] jl) jL (rs_M G k D y cn pn g sl sy sc pm K kb mj ma ml (T0 ++ T1)))) (fun _ => rfl) (fun _ => rfl) (fun u H locs hP hD hS => ?_)
  obtain ⟨u1, u2⟩ := u
  have hP : va_P G.1 vwCl (rs_X G q fi D y cn pn f xl xy xc ps j ja (rs_ls [u1, u2] jl) jL (rs_M G k D y cn pn g sl sy sc pm K kb mj ma ml (T0 ++ T1))) H := hP
  have hD : va_D (fun q : Nat => s.heap.size ≤ q) (rs_X G q fi D y cn pn f xl xy xc ps j ja (rs_ls [u1, u2] jl) jL (rs_M G k D y cn pn g sl sy sc pm K kb mj ma ml (T0 ++ T1))) := hD
  refine lv_aload_n hx hb dL_law_840 rfl (lv_at hl 2 rfl) ?_
  refine lv_aload_n hx hb dL_law_841 rfl (lv_at hl 0 rfl) ?_
  refine lv_iload_n hx hb dL_law_842 rfl (lv_at hl 3 rfl) ?_
  refine lv_iconst (v := 1) hx hb dL_law_843 (by decide) ?_
  refine lv_iadd hx hb dL_law_844 ?_
  refine rs_sld 1 hx hb hXs hbl hbA hS rfl (by omega) hL h1 dL_law_845 ?_
  refine lv_aload_n hx hb dL_law_846 rfl (lv_at hl 0 rfl) ?_
  refine lv_iload_n hx hb dL_law_847 rfl (lv_at hl 3 rfl) ?_
  refine lv_iconst (v := 2) hx hb dL_law_848 (by decide) ?_
  refine lv_iadd hx hb dL_law_849 ?_
  refine rs_sld 2 hx hb hXs hbl hbA hS rfl (by omega) hL h2 dL_law_850 ?_
  refine lv_aload_n hx hb dL_law_851 rfl (lv_at hl 0 rfl) ?_
  refine lv_iload_n hx hb dL_law_852 rfl (lv_at hl 3 rfl) ?_
  refine lv_iconst (v := 3) hx hb dL_law_853 (by decide) ?_
  refine lv_iadd hx hb dL_law_854 ?_
  refine rs_sld 3 hx hb hXs hbl hbA hS rfl (by omega) hL h3 dL_law_855 ?_
  refine lv_aload_n hx hb dL_law_856 rfl (lv_at hl 0 rfl) ?_
  refine lv_iload_n hx hb dL_law_857 rfl (lv_at hl 3 rfl) ?_
  refine lv_iconst (v := 4) hx hb dL_law_858 (by decide) ?_
  refine lv_iadd hx hb dL_law_859 ?_
  refine rs_sld 4 hx hb hXs hbl hbA hS rfl (by omega) hL h4 dL_law_860 ?_
  refine rs_callVl (As := [.int p1, .int p2, .int p3, .int p4]) (rest := [.long r]) (index := 103) ⟨hx, hb, hml, hown, hts⟩ (c_X11_ways l G (k 0) (k 1) (k 2) (k 3) (k 4) (k 5) (k 6) (k 7) (k 8) (k 9) (k 10) (k 11) (k 12) (k 13) (k 14) (k 15) (k 16) (k 17) (k 18) (k 19) (nI (D 0)) (nI (D 1)) (nI (D 2)) (nI (D 3)) (nI (D 4)) (nI (D 5)) (nI (D 6)) (nI y) (nI cn) (nI pn) (mj 0) (mj 1) (mj 2) (mj 3) (mj 4) (mj 5) (mj 6) (mj 7) (mj 8) (mj 9) (ml 0) (ml 1) p1 p2 p3 p4 N r v1 v2 hm1) (cwV 4 hts gL_law_X11_ways rfl rfl rfl (by decide +kernel) ⟨Nat.le_of_ble_eq_true rfl, Nat.le_of_ble_eq_true rfl⟩) dL_law_861 hK hP hD hS hA [29, 44, 45] rfl (by decide) rfl rfl (q0 := 0) (ci := 11) rfl rfl rfl hl.1 (lv_room (Nat.le_of_ble_eq_true rfl)) hcs0 (fun (u : Unit) => (rs_X G q fi D y cn pn f xl xy xc ps j ja (rs_ls [u1, u2] jl) jL (rs_M G k D y cn pn g sl sy sc pm K kb mj ma (rs_ls [v1, v2] ml) (T0 ++ T1)))) (fun _ => rfl) (fun _ => rfl) (fun u H locs hP hD hS => ?_)
  have hP : va_P G.1 vwCl (rs_X G q fi D y cn pn f xl xy xc ps j ja (rs_ls [u1, u2] jl) jL (rs_M G k D y cn pn g sl sy sc pm K kb mj ma (rs_ls [v1, v2] ml) (T0 ++ T1))) H := hP
  have hD : va_D (fun q : Nat => s.heap.size ≤ q) (rs_X G q fi D y cn pn f xl xy xc ps j ja (rs_ls [u1, u2] jl) jL (rs_M G k D y cn pn g sl sy sc pm K kb mj ma (rs_ls [v1, v2] ml) (T0 ++ T1))) := hD
  refine W.lcmp hx hb dL_law_864 ?_
  rw [lg_cmp_self]
  refine lv_if_eq (tgt := 1303) hx hb dL_law_865 (by decide) (fun _ => ?_) (fun hc => absurd rfl hc)
  refine W.widen (k := cells + 8) (n := slots + 76) (Nat.le_add_right _ _) (Nat.le_add_right _ _) ?_
  exact nx fi D V y cn pn f xl xy xc ps j ja (rs_ls [u1, u2] jl) jL g sl sy sc pm K kb mj ma (rs_ls [v1, v2] ml) S T0 T1 H locs ls ⟨hD0, hV, hX, hM, (by omega), hcn, hpn, e1, e2, e3, s1, s2, s3, (i0.up (Nat.le_add_right _ _)), (i1.up (Nat.le_add_right _ _))⟩ hP hD hS hl
set_option maxHeartbeats 2000000 in
theorem lw_where {p : Program} {l : Launch} {e : Env} {s : State} {m : MethodId} {below : List Frame} {meth : Method} {c : Code} {b L : Nat} {xs : Nat → Int32} {G : rs_G} (C0 : lw_Cx p s m c b L xs G) {N : Nat} (hN : 200000 < N) {cells slots : Nat} (hcs : cells + 8 ≤ 600000 ∧ slots + 76 ≤ 7302250) {i Y : Nat} (hi : i + 5 ≤ L) (hY : Y ≤ 2 ^ 21) {p1 p2 p3 p4 : Int32} (h1 : xs (i + 1) = p1) (h2 : xs (i + 2) = p2) (h3 : xs (i + 3) = p3) (h4 : xs (i + 4) = p4) {q k : Nat → Nat} {Q : State → Prop} {fi : Nat → Option Nat} {D : Nat → Nat} {V : Nat → Nat → Nat} {y : Nat} {cn : Nat} {pn : Nat} {f : Nat → Int32} {xl : Nat → Int32} {xy : Nat → Int32} {xc : Nat → Int32} {ps : Nat → Int32} {j : Nat → Int32} {ja : Nat → Nat → Int32} {jl : Nat → Nat → Int64} {jL : Nat → Int64} {g : Nat → Int32} {sl : Nat → Int32} {sy : Nat → Int32} {sc : Nat → Int32} {pm : Nat → Int32} {K : Nat → Int32} {kb : Nat → Int32} {mj : Nat → Int32} {ma : Nat → Nat → Int32} {ml : Nat → Nat → Int64} {S : Nat → Nat} {T0 : va_W} {T1 : va_W} {H : Heap} {locs : List Loc} {ls : Array Slot} (hI : rs_I G Y D V y cn pn f xl xy xc ps g sl sy sc pm K kb fi S T0 T1) (hP : va_P G.1 vwCl (rs_X G q fi D y cn pn f xl xy xc ps j ja jl jL (rs_M G k D y cn pn g sl sy sc pm K kb mj ma ml (T0 ++ T1))) H) (hD : va_D (fun q : Nat => s.heap.size ≤ q) (rs_X G q fi D y cn pn f xl xy xc ps j ja jl jL (rs_M G k D y cn pn g sl sy sc pm K kb mj ma ml (T0 ++ T1)))) (hS : va_S (fun q : Nat => s.heap.size ≤ q) s.heap H locs) (hl : lv_has ls 4 [(0, .ref b), (1, .ref (q 0)), (2, .ref (k 0)), (3, .int (nI i))]) (nx : lw_Nx p l e s m below meth c b G q k i (Y + 600) (cells + 8) (slots + 76) Q) : W p l e room_1 s m #[Value.ref b] below meth c H locs cells slots Q (F0 m 870 ls []) := by
  obtain ⟨hx, hb, hml, hown, hts, hXs, hbl, hK, hL⟩ := C0
  obtain ⟨hD0, hV, hX, hM, hy, hcn, hpn, e1, e2, e3, s1, s2, s3, i0, i1⟩ := hI
  have hA : ∀ q : Nat, s.heap.size ≤ q → (fun q : Nat => s.heap.size ≤ q) q := fun _ h => h
  have hbA : ¬ (fun q : Nat => s.heap.size ≤ q) b := Nat.not_le.mpr hbl
  have hcs0 : cells ≤ room_1.cells ∧ slots ≤ room_1.slots := ⟨Nat.le_trans (Nat.le_add_right _ 8) hcs.1, Nat.le_trans (Nat.le_add_right _ 76) hcs.2⟩
  obtain ⟨r, v1, v2, hx1, hm1⟩ := e_where hD0 (N := N) (by omega) p1 p2 p3 (ml 0) (ml 1)
  refine lv_aload_n hx hb dL_law_870 rfl (lv_at hl 1 rfl) ?_
  refine lv_aload_n hx hb dL_law_871 rfl (lv_at hl 0 rfl) ?_
  refine lv_iload_n hx hb dL_law_872 rfl (lv_at hl 3 rfl) ?_
  refine lv_iconst (v := 1) hx hb dL_law_873 (by decide) ?_
  refine lv_iadd hx hb dL_law_874 ?_
  refine rs_sld 1 hx hb hXs hbl hbA hS rfl (by omega) hL h1 dL_law_875 ?_
  refine lv_aload_n hx hb dL_law_876 rfl (lv_at hl 0 rfl) ?_
  refine lv_iload_n hx hb dL_law_877 rfl (lv_at hl 3 rfl) ?_
  refine lv_iconst (v := 2) hx hb dL_law_878 (by decide) ?_
  refine lv_iadd hx hb dL_law_879 ?_
  refine rs_sld 2 hx hb hXs hbl hbA hS rfl (by omega) hL h2 dL_law_880 ?_
  refine lv_aload_n hx hb dL_law_881 rfl (lv_at hl 0 rfl) ?_
  refine lv_iload_n hx hb dL_law_882 rfl (lv_at hl 3 rfl) ?_
  refine lv_iconst (v := 3) hx hb dL_law_883 (by decide) ?_
  refine lv_iadd hx hb dL_law_884 ?_
  refine rs_sld 3 hx hb hXs hbl hbA hS rfl (by omega) hL h3 dL_law_885 ?_
  refine rs_callVi (As := [.int p1, .int p2, .int p3]) (rest := []) (index := 104) ⟨hx, hb, hml, hown, hts⟩ (c_X10_where l G (q 0) (q 1) (q 9) (q 10) (q 12) (q 17) (q 20) (q 23) (q 26) (q 2) (q 3) (q 5) (nI y) (nI (D 0)) (nI (D 1)) (nI (D 2)) (nI (D 3)) (nI (D 4)) (nI (D 5)) (nI (D 6)) p1 p2 p3 N r hx1) (cwV 3 hts gL_law_X10_where rfl rfl rfl (by decide +kernel) ⟨Nat.le_of_ble_eq_true rfl, Nat.le_of_ble_eq_true rfl⟩) dL_law_886 hK hP hD hS hA [0, 1, 2] rfl (by decide) rfl rfl (q0 := 0) (ci := 10) rfl rfl rfl hl.1 (lv_room (Nat.le_of_ble_eq_true rfl)) hcs0 (fun (u : Unit) => (rs_X G q fi D y cn pn f xl xy xc ps j ja jl jL (rs_M G k D y cn pn g sl sy sc pm K kb mj ma ml (T0 ++ T1)))) (fun _ => rfl) (fun _ => rfl) (fun u H locs hP hD hS => ?_)
  have hP : va_P G.1 vwCl (rs_X G q fi D y cn pn f xl xy xc ps j ja jl jL (rs_M G k D y cn pn g sl sy sc pm K kb mj ma ml (T0 ++ T1))) H := hP
  have hD : va_D (fun q : Nat => s.heap.size ≤ q) (rs_X G q fi D y cn pn f xl xy xc ps j ja jl jL (rs_M G k D y cn pn g sl sy sc pm K kb mj ma ml (T0 ++ T1))) := hD
  refine lv_aload_n hx hb dL_law_889 rfl (lv_at hl 2 rfl) ?_
  refine lv_aload_n hx hb dL_law_890 rfl (lv_at hl 0 rfl) ?_
  refine lv_iload_n hx hb dL_law_891 rfl (lv_at hl 3 rfl) ?_
  refine lv_iconst (v := 1) hx hb dL_law_892 (by decide) ?_
  refine lv_iadd hx hb dL_law_893 ?_
  refine rs_sld 1 hx hb hXs hbl hbA hS rfl (by omega) hL h1 dL_law_894 ?_
  refine lv_aload_n hx hb dL_law_895 rfl (lv_at hl 0 rfl) ?_
  refine lv_iload_n hx hb dL_law_896 rfl (lv_at hl 3 rfl) ?_
  refine lv_iconst (v := 2) hx hb dL_law_897 (by decide) ?_
  refine lv_iadd hx hb dL_law_898 ?_
  refine rs_sld 2 hx hb hXs hbl hbA hS rfl (by omega) hL h2 dL_law_899 ?_
  refine lv_aload_n hx hb dL_law_900 rfl (lv_at hl 0 rfl) ?_
  refine lv_iload_n hx hb dL_law_901 rfl (lv_at hl 3 rfl) ?_
  refine lv_iconst (v := 3) hx hb dL_law_902 (by decide) ?_
  refine lv_iadd hx hb dL_law_903 ?_
  refine rs_sld 3 hx hb hXs hbl hbA hS rfl (by omega) hL h3 dL_law_904 ?_
  refine rs_callVi (As := [.int p1, .int p2, .int p3]) (rest := [.int r]) (index := 107) ⟨hx, hb, hml, hown, hts⟩ (c_X11_where l G (k 0) (k 1) (k 2) (k 3) (k 4) (k 5) (k 6) (k 7) (k 8) (k 9) (k 10) (k 11) (k 12) (k 13) (k 14) (k 15) (k 16) (k 17) (k 18) (k 19) (nI (D 0)) (nI (D 1)) (nI (D 2)) (nI (D 3)) (nI (D 4)) (nI (D 5)) (nI (D 6)) (nI y) (nI cn) (nI pn) (mj 0) (mj 1) (mj 2) (mj 3) (mj 4) (mj 5) (mj 6) (mj 7) (mj 8) (mj 9) (ml 0) (ml 1) p1 p2 p3 N r v1 v2 hm1) (cwV 3 hts gL_law_X11_where rfl rfl rfl (by decide +kernel) ⟨Nat.le_of_ble_eq_true rfl, Nat.le_of_ble_eq_true rfl⟩) dL_law_905 hK hP hD hS hA [29, 44, 45] rfl (by decide) rfl rfl (q0 := 0) (ci := 11) rfl rfl rfl hl.1 (lv_room (Nat.le_of_ble_eq_true rfl)) hcs0 (fun (u : Unit) => (rs_X G q fi D y cn pn f xl xy xc ps j ja jl jL (rs_M G k D y cn pn g sl sy sc pm K kb mj ma (rs_ls [v1, v2] ml) (T0 ++ T1)))) (fun _ => rfl) (fun _ => rfl) (fun u H locs hP hD hS => ?_)
  have hP : va_P G.1 vwCl (rs_X G q fi D y cn pn f xl xy xc ps j ja jl jL (rs_M G k D y cn pn g sl sy sc pm K kb mj ma (rs_ls [v1, v2] ml) (T0 ++ T1))) H := hP
  have hD : va_D (fun q : Nat => s.heap.size ≤ q) (rs_X G q fi D y cn pn f xl xy xc ps j ja jl jL (rs_M G k D y cn pn g sl sy sc pm K kb mj ma (rs_ls [v1, v2] ml) (T0 ++ T1))) := hD
  refine lv_icmp_eq (tgt := 1303) hx hb dL_law_908 (by decide) (fun _ => ?_) (fun hc => absurd rfl hc)
  refine W.widen (k := cells + 8) (n := slots + 76) (Nat.le_add_right _ _) (Nat.le_add_right _ _) ?_
  exact nx fi D V y cn pn f xl xy xc ps j ja jl jL g sl sy sc pm K kb mj ma (rs_ls [v1, v2] ml) S T0 T1 H locs ls ⟨hD0, hV, hX, hM, (by omega), hcn, hpn, e1, e2, e3, s1, s2, s3, (i0.up (Nat.le_add_right _ _)), (i1.up (Nat.le_add_right _ _))⟩ hP hD hS hl
