set_option maxHeartbeats 2000000 in
theorem lw_judge {p : Program} {l : Launch} {e : Env} {s : State} {m : MethodId} {below : List Frame} {meth : Method} {c : Code} {b L : Nat} {xs : Nat → Int32} {G : rs_G} (C0 : lw_Cx p s m c b L xs G) {N : Nat} (hN : 200000 < N) {cells slots : Nat} (hcs : cells + 8 ≤ 600000 ∧ slots + 76 ≤ 7302250) {i Y : Nat} (hi : i + 5 ≤ L) (hY : Y ≤ 2 ^ 21) {p1 p2 p3 p4 : Int32} (h1 : xs (i + 1) = p1) (h2 : xs (i + 2) = p2) (h3 : xs (i + 3) = p3) (h4 : xs (i + 4) = p4) {q k : Nat → Nat} {Q : State → Prop} {fi : Nat → Option Nat} {D : Nat → Nat} {V : Nat → Nat → Nat} {y : Nat} {cn : Nat} {pn : Nat} {f : Nat → Int32} {xl : Nat → Int32} {xy : Nat → Int32} {xc : Nat → Int32} {ps : Nat → Int32} {j : Nat → Int32} {ja : Nat → Nat → Int32} {jl : Nat → Nat → Int64} {jL : Nat → Int64} {g : Nat → Int32} {sl : Nat → Int32} {sy : Nat → Int32} {sc : Nat → Int32} {pm : Nat → Int32} {K : Nat → Int32} {kb : Nat → Int32} {mj : Nat → Int32} {ma : Nat → Nat → Int32} {ml : Nat → Nat → Int64} {S : Nat → Nat} {T0 : va_W} {T1 : va_W} {H : Heap} {locs : List Loc} {ls : Array Slot} (hI : rs_I G Y D V y cn pn f xl xy xc ps g sl sy sc pm K kb fi S T0 T1) (hP : va_P G.1 vwCl (rs_X G q fi D y cn pn f xl xy xc ps j ja jl jL (rs_M G k D y cn pn g sl sy sc pm K kb mj ma ml (T0 ++ T1))) H) (hD : va_D (fun q : Nat => s.heap.size ≤ q) (rs_X G q fi D y cn pn f xl xy xc ps j ja jl jL (rs_M G k D y cn pn g sl sy sc pm K kb mj ma ml (T0 ++ T1)))) (hS : va_S (fun q : Nat => s.heap.size ≤ q) s.heap H locs) (hl : lv_has ls 4 [(0, .ref b), (1, .ref (q 0)), (2, .ref (k 0)), (3, .int (nI i))]) (nx : lw_Nx p l e s m below meth c b G q k i (Y + 600) (cells + 8) (slots + 76) Q) : W p l e room_1 s m #[Value.ref b] below meth c H locs cells slots Q (F0 m 338 ls []) := by
  obtain ⟨hx, hb, hml, hown, hts, hXs, hbl, hK, hL⟩ := C0
  obtain ⟨hD0, hV, hX, hM, hy, hcn, hpn, e1, e2, e3, s1, s2, s3, i0, i1⟩ := hI
  have hA : ∀ q : Nat, s.heap.size ≤ q → (fun q : Nat => s.heap.size ≤ q) q := fun _ h => h
  have hbA : ¬ (fun q : Nat => s.heap.size ≤ q) b := Nat.not_le.mpr hbl
  have hcs0 : cells ≤ room_1.cells ∧ slots ≤ room_1.slots := ⟨Nat.le_trans (Nat.le_add_right _ 8) hcs.1, Nat.le_trans (Nat.le_add_right _ 76) hcs.2⟩
  obtain ⟨r, o1, o2, o3, o4, o5, o6, o7, o8, o9, o10, o11, o12, o13, o14, c1, c2, n1, n2, n3, n4, n5, n6, n7, w1, w2, w3, w4, g3, d1, d2, d3, hx1, hm1, hM3⟩ := e_judge hD0 hV hX hM (N := N) (by omega) (y := y) (by omega) s1 s2 s3 hpn p1 (j 0) (j 1) (j 2) (j 3) (j 4) (j 5) (j 6) (j 7) (j 8) (j 9) (j 10) (j 11) (j 12) (j 13) (ja 0) (ja 1) (mj 0) (mj 1) (mj 2) (mj 3) (mj 4) (mj 5) (mj 6) (ma 0) (ma 1) (ma 2) (ma 3) (ma 5) (ma 4) (ma 6)
  refine lv_aload_n hx hb dL_law_338 rfl (lv_at hl 1 rfl) ?_
  refine lv_aload_n hx hb dL_law_339 rfl (lv_at hl 0 rfl) ?_
  refine lv_iload_n hx hb dL_law_340 rfl (lv_at hl 3 rfl) ?_
  refine lv_iconst (v := 1) hx hb dL_law_341 (by decide) ?_
  refine lv_iadd hx hb dL_law_342 ?_
  refine rs_sld 1 hx hb hXs hbl hbA hS rfl (by omega) hL h1 dL_law_343 ?_
  refine rs_callVi (As := [.int p1]) (rest := []) (index := 41) ⟨hx, hb, hml, hown, hts⟩ (c_X10_judge l G (q 0) (q 1) (q 9) (q 10) (q 12) (q 17) (q 20) (q 23) (q 26) (q 2) (q 3) (q 5) (q 11) (q 13) (q 14) (q 16) (q 15) (q 4) (nI y) (nI (D 0)) (nI (D 1)) (nI (D 2)) (nI (D 3)) (nI (D 4)) (nI (D 5)) (nI (D 6)) (nI pn) ps (j 0) (j 1) (j 2) (j 3) (j 4) (j 5) (j 6) (j 7) (j 8) (j 9) (j 10) (j 11) (j 12) (j 13) f (ja 0) (ja 1) p1 N r o1 o2 o3 o4 o5 o6 o7 o8 o9 o10 o11 o12 o13 o14 c1 c2 hx1) (cwV 1 hts gL_law_X10_judge rfl rfl rfl (by decide +kernel) ⟨Nat.le_of_ble_eq_true rfl, Nat.le_of_ble_eq_true rfl⟩) dL_law_344 hK hP hD hS hA [0, 1, 2, 10, 11, 12, 13, 14, 3, 4, 15, 16] rfl (by decide) rfl rfl (q0 := 0) (ci := 10) rfl rfl rfl hl.1 (lv_room (Nat.le_of_ble_eq_true rfl)) hcs0 (fun (u : Unit) => (rs_X G q fi D y cn pn f xl xy xc ps (rs_ls [o1, o2, o3, o4, o5, o6, o7, o8, o9, o10, o11, o12, o13, o14] j) (rs_ls [c1, c2] ja) jl jL (rs_M G k D y cn pn g sl sy sc pm K kb mj ma ml (T0 ++ T1)))) (fun _ => rfl) (fun _ => rfl) (fun u H locs hP hD hS => ?_)
  have hP : va_P G.1 vwCl (rs_X G q fi D y cn pn f xl xy xc ps (rs_ls [o1, o2, o3, o4, o5, o6, o7, o8, o9, o10, o11, o12, o13, o14] j) (rs_ls [c1, c2] ja) jl jL (rs_M G k D y cn pn g sl sy sc pm K kb mj ma ml (T0 ++ T1))) H := hP
  have hD : va_D (fun q : Nat => s.heap.size ≤ q) (rs_X G q fi D y cn pn f xl xy xc ps (rs_ls [o1, o2, o3, o4, o5, o6, o7, o8, o9, o10, o11, o12, o13, o14] j) (rs_ls [c1, c2] ja) jl jL (rs_M G k D y cn pn g sl sy sc pm K kb mj ma ml (T0 ++ T1))) := hD
  refine lv_aload_n hx hb dL_law_347 rfl (lv_at hl 2 rfl) ?_
  refine lv_aload_n hx hb dL_law_348 rfl (lv_at hl 0 rfl) ?_
  refine lv_iload_n hx hb dL_law_349 rfl (lv_at hl 3 rfl) ?_
  refine lv_iconst (v := 1) hx hb dL_law_350 (by decide) ?_
  refine lv_iadd hx hb dL_law_351 ?_
  refine rs_sld 1 hx hb hXs hbl hbA hS rfl (by omega) hL h1 dL_law_352 ?_
  refine rs_callVi (As := [.int p1]) (rest := [.int r]) (index := 44) ⟨hx, hb, hml, hown, hts⟩ (c_X11_judge l G (k 0) (k 1) (k 2) (k 3) (k 4) (k 5) (k 6) (k 7) (k 8) (k 9) (k 10) (k 11) (k 12) (k 13) (k 14) (k 15) (k 16) (k 17) (k 18) (k 19) (nI (D 0)) (nI (D 1)) (nI (D 2)) (nI (D 3)) (nI (D 4)) (nI (D 5)) (nI (D 6)) (nI y) (nI cn) (nI pn) (mj 0) (mj 1) (mj 2) (mj 3) (mj 4) (mj 5) (mj 6) (mj 7) (mj 8) (mj 9) pm (ma 0) (ma 1) (ma 2) (ma 3) g (ma 5) (ma 4) (ma 6) p1 N r (nI y) n1 n2 n3 n4 n5 n6 n7 w1 w2 w3 w4 g3 d1 d2 d3 hm1) (cwV 1 hts gL_law_X11_judge rfl rfl rfl (by decide +kernel) ⟨Nat.le_of_ble_eq_true rfl, Nat.le_of_ble_eq_true rfl⟩) dL_law_353 hK hP hD hS hA [29, 34, 35, 36, 37, 38, 30, 40, 39, 41] rfl (by decide) rfl rfl (q0 := 0) (ci := 11) rfl rfl rfl hl.1 (lv_room (Nat.le_of_ble_eq_true rfl)) hcs0 (fun (u : Unit) => (rs_X G q fi D y cn pn f xl xy xc ps (rs_ls [o1, o2, o3, o4, o5, o6, o7, o8, o9, o10, o11, o12, o13, o14] j) (rs_ls [c1, c2] ja) jl jL (rs_M G k D y cn pn g3 sl sy sc pm K kb (rs_ls [n1, n2, n3, n4, n5, n6, n7] mj) (rs_ls [w1, w2, w3, w4, d2, d1, d3] ma) ml (T0 ++ T1)))) (fun _ => rfl) (fun _ => rfl) (fun u H locs hP hD hS => ?_)
  have hP : va_P G.1 vwCl (rs_X G q fi D y cn pn f xl xy xc ps (rs_ls [o1, o2, o3, o4, o5, o6, o7, o8, o9, o10, o11, o12, o13, o14] j) (rs_ls [c1, c2] ja) jl jL (rs_M G k D y cn pn g3 sl sy sc pm K kb (rs_ls [n1, n2, n3, n4, n5, n6, n7] mj) (rs_ls [w1, w2, w3, w4, d2, d1, d3] ma) ml (T0 ++ T1))) H := hP
  have hD : va_D (fun q : Nat => s.heap.size ≤ q) (rs_X G q fi D y cn pn f xl xy xc ps (rs_ls [o1, o2, o3, o4, o5, o6, o7, o8, o9, o10, o11, o12, o13, o14] j) (rs_ls [c1, c2] ja) jl jL (rs_M G k D y cn pn g3 sl sy sc pm K kb (rs_ls [n1, n2, n3, n4, n5, n6, n7] mj) (rs_ls [w1, w2, w3, w4, d2, d1, d3] ma) ml (T0 ++ T1))) := hD
  refine lv_icmp_eq (tgt := 1303) hx hb dL_law_356 (by decide) (fun _ => ?_) (fun hc => absurd rfl hc)
  refine W.widen (k := cells + 8) (n := slots + 76) (Nat.le_add_right _ _) (Nat.le_add_right _ _) ?_
  exact nx fi D V y cn pn f xl xy xc ps (rs_ls [o1, o2, o3, o4, o5, o6, o7, o8, o9, o10, o11, o12, o13, o14] j) (rs_ls [c1, c2] ja) jl jL g3 sl sy sc pm K kb (rs_ls [n1, n2, n3, n4, n5, n6, n7] mj) (rs_ls [w1, w2, w3, w4, d2, d1, d3] ma) ml S T0 T1 H locs ls ⟨hD0, hV, hX, hM3, (by omega), hcn, hpn, e1, e2, e3, s1, s2, s3, (i0.up (Nat.le_add_right _ _)), (i1.up (Nat.le_add_right _ _))⟩ hP hD hS hl
set_option maxHeartbeats 2000000 in
theorem lw_behind {p : Program} {l : Launch} {e : Env} {s : State} {m : MethodId} {below : List Frame} {meth : Method} {c : Code} {b L : Nat} {xs : Nat → Int32} {G : rs_G} (C0 : lw_Cx p s m c b L xs G) {N : Nat} (hN : 200000 < N) {cells slots : Nat} (hcs : cells + 8 ≤ 600000 ∧ slots + 76 ≤ 7302250) {i Y : Nat} (hi : i + 5 ≤ L) (hY : Y ≤ 2 ^ 21) {p1 p2 p3 p4 : Int32} (h1 : xs (i + 1) = p1) (h2 : xs (i + 2) = p2) (h3 : xs (i + 3) = p3) (h4 : xs (i + 4) = p4) {q k : Nat → Nat} {Q : State → Prop} {fi : Nat → Option Nat} {D : Nat → Nat} {V : Nat → Nat → Nat} {y : Nat} {cn : Nat} {pn : Nat} {f : Nat → Int32} {xl : Nat → Int32} {xy : Nat → Int32} {xc : Nat → Int32} {ps : Nat → Int32} {j : Nat → Int32} {ja : Nat → Nat → Int32} {jl : Nat → Nat → Int64} {jL : Nat → Int64} {g : Nat → Int32} {sl : Nat → Int32} {sy : Nat → Int32} {sc : Nat → Int32} {pm : Nat → Int32} {K : Nat → Int32} {kb : Nat → Int32} {mj : Nat → Int32} {ma : Nat → Nat → Int32} {ml : Nat → Nat → Int64} {S : Nat → Nat} {T0 : va_W} {T1 : va_W} {H : Heap} {locs : List Loc} {ls : Array Slot} (hI : rs_I G Y D V y cn pn f xl xy xc ps g sl sy sc pm K kb fi S T0 T1) (hP : va_P G.1 vwCl (rs_X G q fi D y cn pn f xl xy xc ps j ja jl jL (rs_M G k D y cn pn g sl sy sc pm K kb mj ma ml (T0 ++ T1))) H) (hD : va_D (fun q : Nat => s.heap.size ≤ q) (rs_X G q fi D y cn pn f xl xy xc ps j ja jl jL (rs_M G k D y cn pn g sl sy sc pm K kb mj ma ml (T0 ++ T1)))) (hS : va_S (fun q : Nat => s.heap.size ≤ q) s.heap H locs) (hl : lv_has ls 4 [(0, .ref b), (1, .ref (q 0)), (2, .ref (k 0)), (3, .int (nI i))]) (nx : lw_Nx p l e s m below meth c b G q k i (Y + 600) (cells + 8) (slots + 76) Q) : W p l e room_1 s m #[Value.ref b] below meth c H locs cells slots Q (F0 m 361 ls []) := by
  obtain ⟨hx, hb, hml, hown, hts, hXs, hbl, hK, hL⟩ := C0
  obtain ⟨hD0, hV, hX, hM, hy, hcn, hpn, e1, e2, e3, s1, s2, s3, i0, i1⟩ := hI
  have hA : ∀ q : Nat, s.heap.size ≤ q → (fun q : Nat => s.heap.size ≤ q) q := fun _ h => h
  have hbA : ¬ (fun q : Nat => s.heap.size ≤ q) b := Nat.not_le.mpr hbl
  have hcs0 : cells ≤ room_1.cells ∧ slots ≤ room_1.slots := ⟨Nat.le_trans (Nat.le_add_right _ 8) hcs.1, Nat.le_trans (Nat.le_add_right _ 76) hcs.2⟩
  obtain ⟨r, o1, o2, o3, o4, o5, o6, o7, o8, o9, o10, o11, o12, o13, o14, c1, c2, n1, n2, n3, n4, n5, n6, n7, w1, w2, w3, w4, g3, d1, d2, d3, hx1, hm1, hM3⟩ := e_behind hD0 hV hX hM (N := N) (by omega) (y := y) (by omega) s1 s2 s3 hpn p1 p2 (j 0) (j 1) (j 2) (j 3) (j 4) (j 5) (j 6) (j 7) (j 8) (j 9) (j 10) (j 11) (j 12) (j 13) (ja 0) (ja 1) (mj 0) (mj 1) (mj 2) (mj 3) (mj 4) (mj 5) (mj 6) (ma 0) (ma 1) (ma 2) (ma 3) (ma 5) (ma 4) (ma 6)
  refine lv_aload_n hx hb dL_law_361 rfl (lv_at hl 1 rfl) ?_
  refine lv_aload_n hx hb dL_law_362 rfl (lv_at hl 0 rfl) ?_
  refine lv_iload_n hx hb dL_law_363 rfl (lv_at hl 3 rfl) ?_
  refine lv_iconst (v := 1) hx hb dL_law_364 (by decide) ?_
  refine lv_iadd hx hb dL_law_365 ?_
  refine rs_sld 1 hx hb hXs hbl hbA hS rfl (by omega) hL h1 dL_law_366 ?_
  refine lv_aload_n hx hb dL_law_367 rfl (lv_at hl 0 rfl) ?_
  refine lv_iload_n hx hb dL_law_368 rfl (lv_at hl 3 rfl) ?_
  refine lv_iconst (v := 2) hx hb dL_law_369 (by decide) ?_
  refine lv_iadd hx hb dL_law_370 ?_
  refine rs_sld 2 hx hb hXs hbl hbA hS rfl (by omega) hL h2 dL_law_371 ?_
  refine rs_callVi (As := [.int p1, .int p2]) (rest := []) (index := 45) ⟨hx, hb, hml, hown, hts⟩ (c_X10_behind l G (q 0) (q 1) (q 9) (q 10) (q 12) (q 17) (q 20) (q 23) (q 26) (q 2) (q 3) (q 5) (q 11) (q 13) (q 14) (q 16) (q 15) (q 4) (nI y) (nI (D 0)) (nI (D 1)) (nI (D 2)) (nI (D 3)) (nI (D 4)) (nI (D 5)) (nI (D 6)) (nI pn) ps (j 0) (j 1) (j 2) (j 3) (j 4) (j 5) (j 6) (j 7) (j 8) (j 9) (j 10) (j 11) (j 12) (j 13) f (ja 0) (ja 1) p1 p2 N r o1 o2 o3 o4 o5 o6 o7 o8 o9 o10 o11 o12 o13 o14 c1 c2 hx1) (cwV 2 hts gL_law_X10_behind rfl rfl rfl (by decide +kernel) ⟨Nat.le_of_ble_eq_true rfl, Nat.le_of_ble_eq_true rfl⟩) dL_law_372 hK hP hD hS hA [0, 1, 2, 10, 11, 12, 13, 14, 3, 4, 15, 16] rfl (by decide) rfl rfl (q0 := 0) (ci := 10) rfl rfl rfl hl.1 (lv_room (Nat.le_of_ble_eq_true rfl)) hcs0 (fun (u : Unit) => (rs_X G q fi D y cn pn f xl xy xc ps (rs_ls [o1, o2, o3, o4, o5, o6, o7, o8, o9, o10, o11, o12, o13, o14] j) (rs_ls [c1, c2] ja) jl jL (rs_M G k D y cn pn g sl sy sc pm K kb mj ma ml (T0 ++ T1)))) (fun _ => rfl) (fun _ => rfl) (fun u H locs hP hD hS => ?_)
  have hP : va_P G.1 vwCl (rs_X G q fi D y cn pn f xl xy xc ps (rs_ls [o1, o2, o3, o4, o5, o6, o7, o8, o9, o10, o11, o12, o13, o14] j) (rs_ls [c1, c2] ja) jl jL (rs_M G k D y cn pn g sl sy sc pm K kb mj ma ml (T0 ++ T1))) H := hP
  have hD : va_D (fun q : Nat => s.heap.size ≤ q) (rs_X G q fi D y cn pn f xl xy xc ps (rs_ls [o1, o2, o3, o4, o5, o6, o7, o8, o9, o10, o11, o12, o13, o14] j) (rs_ls [c1, c2] ja) jl jL (rs_M G k D y cn pn g sl sy sc pm K kb mj ma ml (T0 ++ T1))) := hD
  refine lv_aload_n hx hb dL_law_375 rfl (lv_at hl 2 rfl) ?_
  refine lv_aload_n hx hb dL_law_376 rfl (lv_at hl 0 rfl) ?_
  refine lv_iload_n hx hb dL_law_377 rfl (lv_at hl 3 rfl) ?_
  refine lv_iconst (v := 1) hx hb dL_law_378 (by decide) ?_
  refine lv_iadd hx hb dL_law_379 ?_
  refine rs_sld 1 hx hb hXs hbl hbA hS rfl (by omega) hL h1 dL_law_380 ?_
  refine lv_aload_n hx hb dL_law_381 rfl (lv_at hl 0 rfl) ?_
  refine lv_iload_n hx hb dL_law_382 rfl (lv_at hl 3 rfl) ?_
  refine lv_iconst (v := 2) hx hb dL_law_383 (by decide) ?_
  refine lv_iadd hx hb dL_law_384 ?_
  refine rs_sld 2 hx hb hXs hbl hbA hS rfl (by omega) hL h2 dL_law_385 ?_
  refine rs_callVi (As := [.int p1, .int p2]) (rest := [.int r]) (index := 48) ⟨hx, hb, hml, hown, hts⟩ (c_X11_behind l G (k 0) (k 1) (k 2) (k 3) (k 4) (k 5) (k 6) (k 7) (k 8) (k 9) (k 10) (k 11) (k 12) (k 13) (k 14) (k 15) (k 16) (k 17) (k 18) (k 19) (nI (D 0)) (nI (D 1)) (nI (D 2)) (nI (D 3)) (nI (D 4)) (nI (D 5)) (nI (D 6)) (nI y) (nI cn) (nI pn) (mj 0) (mj 1) (mj 2) (mj 3) (mj 4) (mj 5) (mj 6) (mj 7) (mj 8) (mj 9) pm (ma 0) (ma 1) (ma 2) (ma 3) g (ma 5) (ma 4) (ma 6) p1 p2 N r (nI y) n1 n2 n3 n4 n5 n6 n7 w1 w2 w3 w4 g3 d1 d2 d3 hm1) (cwV 2 hts gL_law_X11_behind rfl rfl rfl (by decide +kernel) ⟨Nat.le_of_ble_eq_true rfl, Nat.le_of_ble_eq_true rfl⟩) dL_law_386 hK hP hD hS hA [29, 34, 35, 36, 37, 38, 30, 40, 39, 41] rfl (by decide) rfl rfl (q0 := 0) (ci := 11) rfl rfl rfl hl.1 (lv_room (Nat.le_of_ble_eq_true rfl)) hcs0 (fun (u : Unit) => (rs_X G q fi D y cn pn f xl xy xc ps (rs_ls [o1, o2, o3, o4, o5, o6, o7, o8, o9, o10, o11, o12, o13, o14] j) (rs_ls [c1, c2] ja) jl jL (rs_M G k D y cn pn g3 sl sy sc pm K kb (rs_ls [n1, n2, n3, n4, n5, n6, n7] mj) (rs_ls [w1, w2, w3, w4, d2, d1, d3] ma) ml (T0 ++ T1)))) (fun _ => rfl) (fun _ => rfl) (fun u H locs hP hD hS => ?_)
  have hP : va_P G.1 vwCl (rs_X G q fi D y cn pn f xl xy xc ps (rs_ls [o1, o2, o3, o4, o5, o6, o7, o8, o9, o10, o11, o12, o13, o14] j) (rs_ls [c1, c2] ja) jl jL (rs_M G k D y cn pn g3 sl sy sc pm K kb (rs_ls [n1, n2, n3, n4, n5, n6, n7] mj) (rs_ls [w1, w2, w3, w4, d2, d1, d3] ma) ml (T0 ++ T1))) H := hP
  have hD : va_D (fun q : Nat => s.heap.size ≤ q) (rs_X G q fi D y cn pn f xl xy xc ps (rs_ls [o1, o2, o3, o4, o5, o6, o7, o8, o9, o10, o11, o12, o13, o14] j) (rs_ls [c1, c2] ja) jl jL (rs_M G k D y cn pn g3 sl sy sc pm K kb (rs_ls [n1, n2, n3, n4, n5, n6, n7] mj) (rs_ls [w1, w2, w3, w4, d2, d1, d3] ma) ml (T0 ++ T1))) := hD
  refine lv_icmp_eq (tgt := 1303) hx hb dL_law_389 (by decide) (fun _ => ?_) (fun hc => absurd rfl hc)
  refine W.widen (k := cells + 8) (n := slots + 76) (Nat.le_add_right _ _) (Nat.le_add_right _ _) ?_
  exact nx fi D V y cn pn f xl xy xc ps (rs_ls [o1, o2, o3, o4, o5, o6, o7, o8, o9, o10, o11, o12, o13, o14] j) (rs_ls [c1, c2] ja) jl jL g3 sl sy sc pm K kb (rs_ls [n1, n2, n3, n4, n5, n6, n7] mj) (rs_ls [w1, w2, w3, w4, d2, d1, d3] ma) ml S T0 T1 H locs ls ⟨hD0, hV, hX, hM3, (by omega), hcn, hpn, e1, e2, e3, s1, s2, s3, (i0.up (Nat.le_add_right _ _)), (i1.up (Nat.le_add_right _ _))⟩ hP hD hS hl
set_option maxHeartbeats 2000000 in
theorem lw_done {p : Program} {l : Launch} {e : Env} {s : State} {m : MethodId} {below : List Frame} {meth : Method} {c : Code} {b L : Nat} {xs : Nat → Int32} {G : rs_G} (C0 : lw_Cx p s m c b L xs G) {N : Nat} (hN : 200000 < N) {cells slots : Nat} (hcs : cells + 8 ≤ 600000 ∧ slots + 76 ≤ 7302250) {i Y : Nat} (hi : i + 5 ≤ L) (hY : Y ≤ 2 ^ 21) {p1 p2 p3 p4 : Int32} (h1 : xs (i + 1) = p1) (h2 : xs (i + 2) = p2) (h3 : xs (i + 3) = p3) (h4 : xs (i + 4) = p4) {q k : Nat → Nat} {Q : State → Prop} {fi : Nat → Option Nat} {D : Nat → Nat} {V : Nat → Nat → Nat} {y : Nat} {cn : Nat} {pn : Nat} {f : Nat → Int32} {xl : Nat → Int32} {xy : Nat → Int32} {xc : Nat → Int32} {ps : Nat → Int32} {j : Nat → Int32} {ja : Nat → Nat → Int32} {jl : Nat → Nat → Int64} {jL : Nat → Int64} {g : Nat → Int32} {sl : Nat → Int32} {sy : Nat → Int32} {sc : Nat → Int32} {pm : Nat → Int32} {K : Nat → Int32} {kb : Nat → Int32} {mj : Nat → Int32} {ma : Nat → Nat → Int32} {ml : Nat → Nat → Int64} {S : Nat → Nat} {T0 : va_W} {T1 : va_W} {H : Heap} {locs : List Loc} {ls : Array Slot} (hI : rs_I G Y D V y cn pn f xl xy xc ps g sl sy sc pm K kb fi S T0 T1) (hP : va_P G.1 vwCl (rs_X G q fi D y cn pn f xl xy xc ps j ja jl jL (rs_M G k D y cn pn g sl sy sc pm K kb mj ma ml (T0 ++ T1))) H) (hD : va_D (fun q : Nat => s.heap.size ≤ q) (rs_X G q fi D y cn pn f xl xy xc ps j ja jl jL (rs_M G k D y cn pn g sl sy sc pm K kb mj ma ml (T0 ++ T1)))) (hS : va_S (fun q : Nat => s.heap.size ≤ q) s.heap H locs) (hl : lv_has ls 4 [(0, .ref b), (1, .ref (q 0)), (2, .ref (k 0)), (3, .int (nI i))]) (nx : lw_Nx p l e s m below meth c b G q k i (Y + 600) (cells + 8) (slots + 76) Q) : W p l e room_1 s m #[Value.ref b] below meth c H locs cells slots Q (F0 m 394 ls []) := by
  obtain ⟨hx, hb, hml, hown, hts, hXs, hbl, hK, hL⟩ := C0
  obtain ⟨hD0, hV, hX, hM, hy, hcn, hpn, e1, e2, e3, s1, s2, s3, i0, i1⟩ := hI
  have hA : ∀ q : Nat, s.heap.size ≤ q → (fun q : Nat => s.heap.size ≤ q) q := fun _ h => h
  have hbA : ¬ (fun q : Nat => s.heap.size ≤ q) b := Nat.not_le.mpr hbl
  have hcs0 : cells ≤ room_1.cells ∧ slots ≤ room_1.slots := ⟨Nat.le_trans (Nat.le_add_right _ 8) hcs.1, Nat.le_trans (Nat.le_add_right _ 76) hcs.2⟩
  obtain ⟨r, U, y2, q2, f3, o1, o2, o3, o4, o5, o6, o7, o8, o9, o10, o11, o12, o13, o14, c1, c2, n1, n2, n3, n4, n5, n6, n7, w1, w2, w3, w4, g3, d1, d2, d3, hx1, hm1, hU, hXU, hMU, hy2, hq2⟩ := e_done hD0 hV hX hM (N := N) (by omega) (y := y) (by omega) s1 s2 s3 hpn (j 0) (j 1) (j 2) (j 3) (j 4) (j 5) (j 6) (j 7) (j 8) (j 9) (j 10) (j 11) (j 12) (j 13) (ja 0) (ja 1) (mj 1) (mj 2) (mj 3) (mj 4) (mj 5) (mj 6) (ma 0) (ma 1) (ma 2) (ma 3) (ma 5) (ma 4) (ma 6)
  refine lv_aload_n hx hb dL_law_394 rfl (lv_at hl 1 rfl) ?_
  refine rs_callVi (As := []) (rest := []) (index := 49) ⟨hx, hb, hml, hown, hts⟩ (c_X10_done l G (q 0) (q 1) (q 9) (q 10) (q 12) (q 17) (q 20) (q 23) (q 26) (q 2) (q 3) (q 5) (q 11) (q 13) (q 14) (q 16) (q 15) (q 4) (nI y) (nI (D 0)) (nI (D 1)) (nI (D 2)) (nI (D 3)) (nI (D 4)) (nI (D 5)) (nI (D 6)) (nI pn) ps (j 0) (j 1) (j 2) (j 3) (j 4) (j 5) (j 6) (j 7) (j 8) (j 9) (j 10) (j 11) (j 12) (j 13) f (ja 0) (ja 1) N r (nI y2) (nI q2) o1 o2 o3 o4 o5 o6 o7 o8 o9 o10 o11 o12 o13 o14 f3 c1 c2 hx1) (cwV 0 hts gL_law_X10_done rfl rfl rfl (by decide +kernel) ⟨Nat.le_of_ble_eq_true rfl, Nat.le_of_ble_eq_true rfl⟩) dL_law_395 hK hP hD hS hA [0, 1, 2, 10, 11, 12, 13, 14, 3, 4, 15, 16] rfl (by decide) rfl rfl (q0 := 0) (ci := 10) rfl rfl rfl hl.1 (lv_room (Nat.le_of_ble_eq_true rfl)) hcs0 (fun (u : Unit) => (rs_X G q fi D y2 cn q2 f3 xl xy xc ps (rs_ls [o1, o2, o3, o4, o5, o6, o7, o8, o9, o10, o11, o12, o13, o14] j) (rs_ls [c1, c2] ja) jl jL (rs_M G k D y cn pn g sl sy sc pm K kb mj ma ml (T0 ++ T1)))) (fun _ => rfl) (fun _ => rfl) (fun u H locs hP hD hS => ?_)
  have hP : va_P G.1 vwCl (rs_X G q fi D y2 cn q2 f3 xl xy xc ps (rs_ls [o1, o2, o3, o4, o5, o6, o7, o8, o9, o10, o11, o12, o13, o14] j) (rs_ls [c1, c2] ja) jl jL (rs_M G k D y cn pn g sl sy sc pm K kb mj ma ml (T0 ++ T1))) H := hP
  have hD : va_D (fun q : Nat => s.heap.size ≤ q) (rs_X G q fi D y2 cn q2 f3 xl xy xc ps (rs_ls [o1, o2, o3, o4, o5, o6, o7, o8, o9, o10, o11, o12, o13, o14] j) (rs_ls [c1, c2] ja) jl jL (rs_M G k D y cn pn g sl sy sc pm K kb mj ma ml (T0 ++ T1))) := hD
  refine lv_aload_n hx hb dL_law_398 rfl (lv_at hl 2 rfl) ?_
  refine rs_callVi (As := []) (rest := [.int r]) (index := 52) ⟨hx, hb, hml, hown, hts⟩ (c_X11_done l G (k 0) (k 1) (k 2) (k 3) (k 4) (k 5) (k 6) (k 7) (k 8) (k 9) (k 10) (k 11) (k 12) (k 13) (k 14) (k 15) (k 16) (k 17) (k 18) (k 19) (nI (D 0)) (nI (D 1)) (nI (D 2)) (nI (D 3)) (nI (D 4)) (nI (D 5)) (nI (D 6)) (nI y) (nI cn) (nI pn) (mj 0) (mj 1) (mj 2) (mj 3) (mj 4) (mj 5) (mj 6) (mj 7) (mj 8) (mj 9) pm (ma 0) (ma 1) (ma 2) (ma 3) g (ma 5) (ma 4) (ma 6) N r (nI y2) (nI q2) n1 n2 n3 n4 n5 n6 n7 w1 w2 w3 w4 g3 d1 d2 d3 hm1) (cwV 0 hts gL_law_X11_done rfl rfl rfl (by decide +kernel) ⟨Nat.le_of_ble_eq_true rfl, Nat.le_of_ble_eq_true rfl⟩) dL_law_399 hK hP hD hS hA [29, 34, 35, 36, 37, 38, 30, 40, 39, 41] rfl (by decide) rfl rfl (q0 := 0) (ci := 11) rfl rfl rfl hl.1 (lv_room (Nat.le_of_ble_eq_true rfl)) hcs0 (fun (u : Unit) => (rs_X G q fi D y2 cn q2 f3 xl xy xc ps (rs_ls [o1, o2, o3, o4, o5, o6, o7, o8, o9, o10, o11, o12, o13, o14] j) (rs_ls [c1, c2] ja) jl jL (rs_M G k D y2 cn q2 g3 sl sy sc pm K kb (rs_ls [n1, n2, n3, n4, n5, n6, n7] mj) (rs_ls [w1, w2, w3, w4, d2, d1, d3] ma) ml (T0 ++ T1)))) (fun _ => rfl) (fun _ => rfl) (fun u H locs hP hD hS => ?_)
  have hP : va_P G.1 vwCl (rs_X G q fi D y2 cn q2 f3 xl xy xc ps (rs_ls [o1, o2, o3, o4, o5, o6, o7, o8, o9, o10, o11, o12, o13, o14] j) (rs_ls [c1, c2] ja) jl jL (rs_M G k D y2 cn q2 g3 sl sy sc pm K kb (rs_ls [n1, n2, n3, n4, n5, n6, n7] mj) (rs_ls [w1, w2, w3, w4, d2, d1, d3] ma) ml (T0 ++ T1))) H := hP
  have hD : va_D (fun q : Nat => s.heap.size ≤ q) (rs_X G q fi D y2 cn q2 f3 xl xy xc ps (rs_ls [o1, o2, o3, o4, o5, o6, o7, o8, o9, o10, o11, o12, o13, o14] j) (rs_ls [c1, c2] ja) jl jL (rs_M G k D y2 cn q2 g3 sl sy sc pm K kb (rs_ls [n1, n2, n3, n4, n5, n6, n7] mj) (rs_ls [w1, w2, w3, w4, d2, d1, d3] ma) ml (T0 ++ T1))) := hD
  refine lv_icmp_eq (tgt := 1303) hx hb dL_law_402 (by decide) (fun _ => ?_) (fun hc => absurd rfl hc)
  refine W.widen (k := cells + 8) (n := slots + 76) (Nat.le_add_right _ _) (Nat.le_add_right _ _) ?_
  exact nx fi D U y2 cn q2 f3 xl xy xc ps (rs_ls [o1, o2, o3, o4, o5, o6, o7, o8, o9, o10, o11, o12, o13, o14] j) (rs_ls [c1, c2] ja) jl jL g3 sl sy sc pm K kb (rs_ls [n1, n2, n3, n4, n5, n6, n7] mj) (rs_ls [w1, w2, w3, w4, d2, d1, d3] ma) ml S T0 T1 H locs ls ⟨hD0, hU, hXU, hMU, (by omega), hcn, hq2, e1, e2, e3, s1, s2, s3, (i0.up (Nat.le_add_right _ _)), (i1.up (Nat.le_add_right _ _))⟩ hP hD hS hl
set_option maxHeartbeats 2000000 in
theorem lw_lit {p : Program} {l : Launch} {e : Env} {s : State} {m : MethodId} {below : List Frame} {meth : Method} {c : Code} {b L : Nat} {xs : Nat → Int32} {G : rs_G} (C0 : lw_Cx p s m c b L xs G) {N : Nat} (hN : 200000 < N) {cells slots : Nat} (hcs : cells + 8 ≤ 600000 ∧ slots + 76 ≤ 7302250) {i Y : Nat} (hi : i + 5 ≤ L) (hY : Y ≤ 2 ^ 21) {p1 p2 p3 p4 : Int32} (h1 : xs (i + 1) = p1) (h2 : xs (i + 2) = p2) (h3 : xs (i + 3) = p3) (h4 : xs (i + 4) = p4) {q k : Nat → Nat} {Q : State → Prop} {fi : Nat → Option Nat} {D : Nat → Nat} {V : Nat → Nat → Nat} {y : Nat} {cn : Nat} {pn : Nat} {f : Nat → Int32} {xl : Nat → Int32} {xy : Nat → Int32} {xc : Nat → Int32} {ps : Nat → Int32} {j : Nat → Int32} {ja : Nat → Nat → Int32} {jl : Nat → Nat → Int64} {jL : Nat → Int64} {g : Nat → Int32} {sl : Nat → Int32} {sy : Nat → Int32} {sc : Nat → Int32} {pm : Nat → Int32} {K : Nat → Int32} {kb : Nat → Int32} {mj : Nat → Int32} {ma : Nat → Nat → Int32} {ml : Nat → Nat → Int64} {S : Nat → Nat} {T0 : va_W} {T1 : va_W} {H : Heap} {locs : List Loc} {ls : Array Slot} (hI : rs_I G Y D V y cn pn f xl xy xc ps g sl sy sc pm K kb fi S T0 T1) (hP : va_P G.1 vwCl (rs_X G q fi D y cn pn f xl xy xc ps j ja jl jL (rs_M G k D y cn pn g sl sy sc pm K kb mj ma ml (T0 ++ T1))) H) (hD : va_D (fun q : Nat => s.heap.size ≤ q) (rs_X G q fi D y cn pn f xl xy xc ps j ja jl jL (rs_M G k D y cn pn g sl sy sc pm K kb mj ma ml (T0 ++ T1)))) (hS : va_S (fun q : Nat => s.heap.size ≤ q) s.heap H locs) (hl : lv_has ls 4 [(0, .ref b), (1, .ref (q 0)), (2, .ref (k 0)), (3, .int (nI i))]) (nx : lw_Nx p l e s m below meth c b G q k i (Y + 600) (cells + 8) (slots + 76) Q) : W p l e room_1 s m #[Value.ref b] below meth c H locs cells slots Q (F0 m 407 ls []) := by
  obtain ⟨hx, hb, hml, hown, hts, hXs, hbl, hK, hL⟩ := C0
  obtain ⟨hD0, hV, hX, hM, hy, hcn, hpn, e1, e2, e3, s1, s2, s3, i0, i1⟩ := hI
  have hA : ∀ q : Nat, s.heap.size ≤ q → (fun q : Nat => s.heap.size ≤ q) q := fun _ h => h
  have hbA : ¬ (fun q : Nat => s.heap.size ≤ q) b := Nat.not_le.mpr hbl
  have hcs0 : cells ≤ room_1.cells ∧ slots ≤ room_1.slots := ⟨Nat.le_trans (Nat.le_add_right _ 8) hcs.1, Nat.le_trans (Nat.le_add_right _ 76) hcs.2⟩
  obtain ⟨r, hx1, hm1⟩ := e_lit hD0 p1 p2
  refine lv_aload_n hx hb dL_law_407 rfl (lv_at hl 1 rfl) ?_
  refine lv_aload_n hx hb dL_law_408 rfl (lv_at hl 0 rfl) ?_
  refine lv_iload_n hx hb dL_law_409 rfl (lv_at hl 3 rfl) ?_
  refine lv_iconst (v := 1) hx hb dL_law_410 (by decide) ?_
  refine lv_iadd hx hb dL_law_411 ?_
  refine rs_sld 1 hx hb hXs hbl hbA hS rfl (by omega) hL h1 dL_law_412 ?_
  refine lv_aload_n hx hb dL_law_413 rfl (lv_at hl 0 rfl) ?_
  refine lv_iload_n hx hb dL_law_414 rfl (lv_at hl 3 rfl) ?_
  refine lv_iconst (v := 2) hx hb dL_law_415 (by decide) ?_
  refine lv_iadd hx hb dL_law_416 ?_
  refine rs_sld 2 hx hb hXs hbl hbA hS rfl (by omega) hL h2 dL_law_417 ?_
  refine rs_callVi (As := [.int p1, .int p2]) (rest := []) (index := 53) ⟨hx, hb, hml, hown, hts⟩ (c_X10_lit l G (q 0) (q 1) (q 9) (q 10) (q 12) (q 17) (q 20) (q 23) (q 26) (q 2) (q 3) (q 5) (nI y) (nI (D 0)) (nI (D 1)) (nI (D 2)) (nI (D 3)) (nI (D 4)) (nI (D 5)) (nI (D 6)) p1 p2 r hx1) (cwV 2 hts gL_law_X10_lit rfl rfl rfl (by decide +kernel) ⟨Nat.le_of_ble_eq_true rfl, Nat.le_of_ble_eq_true rfl⟩) dL_law_418 hK hP hD hS hA [0, 1, 2] rfl (by decide) rfl rfl (q0 := 0) (ci := 10) rfl rfl rfl hl.1 (lv_room (Nat.le_of_ble_eq_true rfl)) hcs0 (fun (u : Unit) => (rs_X G q fi D y cn pn f xl xy xc ps j ja jl jL (rs_M G k D y cn pn g sl sy sc pm K kb mj ma ml (T0 ++ T1)))) (fun _ => rfl) (fun _ => rfl) (fun u H locs hP hD hS => ?_)
  have hP : va_P G.1 vwCl (rs_X G q fi D y cn pn f xl xy xc ps j ja jl jL (rs_M G k D y cn pn g sl sy sc pm K kb mj ma ml (T0 ++ T1))) H := hP
  have hD : va_D (fun q : Nat => s.heap.size ≤ q) (rs_X G q fi D y cn pn f xl xy xc ps j ja jl jL (rs_M G k D y cn pn g sl sy sc pm K kb mj ma ml (T0 ++ T1))) := hD
  refine lv_aload_n hx hb dL_law_421 rfl (lv_at hl 2 rfl) ?_
  refine lv_aload_n hx hb dL_law_422 rfl (lv_at hl 0 rfl) ?_
  refine lv_iload_n hx hb dL_law_423 rfl (lv_at hl 3 rfl) ?_
  refine lv_iconst (v := 1) hx hb dL_law_424 (by decide) ?_
  refine lv_iadd hx hb dL_law_425 ?_
  refine rs_sld 1 hx hb hXs hbl hbA hS rfl (by omega) hL h1 dL_law_426 ?_
  refine lv_aload_n hx hb dL_law_427 rfl (lv_at hl 0 rfl) ?_
  refine lv_iload_n hx hb dL_law_428 rfl (lv_at hl 3 rfl) ?_
  refine lv_iconst (v := 2) hx hb dL_law_429 (by decide) ?_
  refine lv_iadd hx hb dL_law_430 ?_
  refine rs_sld 2 hx hb hXs hbl hbA hS rfl (by omega) hL h2 dL_law_431 ?_
  refine rs_callVi (As := [.int p1, .int p2]) (rest := [.int r]) (index := 56) ⟨hx, hb, hml, hown, hts⟩ (c_X11_lit l G (k 0) (k 1) (k 2) (k 3) (k 4) (k 5) (k 6) (k 7) (k 8) (k 9) (k 10) (k 11) (k 12) (k 13) (k 14) (k 15) (k 16) (k 17) (k 18) (k 19) (nI (D 0)) (nI (D 1)) (nI (D 2)) (nI (D 3)) (nI (D 4)) (nI (D 5)) (nI (D 6)) (nI y) (nI cn) (nI pn) (mj 0) (mj 1) (mj 2) (mj 3) (mj 4) (mj 5) (mj 6) (mj 7) (mj 8) (mj 9) p1 p2 r hm1) (cwV 2 hts gL_law_X11_lit rfl rfl rfl (by decide +kernel) ⟨Nat.le_of_ble_eq_true rfl, Nat.le_of_ble_eq_true rfl⟩) dL_law_432 hK hP hD hS hA [29] rfl (by decide) rfl rfl (q0 := 0) (ci := 11) rfl rfl rfl hl.1 (lv_room (Nat.le_of_ble_eq_true rfl)) hcs0 (fun (u : Unit) => (rs_X G q fi D y cn pn f xl xy xc ps j ja jl jL (rs_M G k D y cn pn g sl sy sc pm K kb mj ma ml (T0 ++ T1)))) (fun _ => rfl) (fun _ => rfl) (fun u H locs hP hD hS => ?_)
  have hP : va_P G.1 vwCl (rs_X G q fi D y cn pn f xl xy xc ps j ja jl jL (rs_M G k D y cn pn g sl sy sc pm K kb mj ma ml (T0 ++ T1))) H := hP
  have hD : va_D (fun q : Nat => s.heap.size ≤ q) (rs_X G q fi D y cn pn f xl xy xc ps j ja jl jL (rs_M G k D y cn pn g sl sy sc pm K kb mj ma ml (T0 ++ T1))) := hD
  refine lv_icmp_eq (tgt := 1303) hx hb dL_law_435 (by decide) (fun _ => ?_) (fun hc => absurd rfl hc)
  refine W.widen (k := cells + 8) (n := slots + 76) (Nat.le_add_right _ _) (Nat.le_add_right _ _) ?_
  exact nx fi D V y cn pn f xl xy xc ps j ja jl jL g sl sy sc pm K kb mj ma ml S T0 T1 H locs ls ⟨hD0, hV, hX, hM, (by omega), hcn, hpn, e1, e2, e3, s1, s2, s3, (i0.up (Nat.le_add_right _ _)), (i1.up (Nat.le_add_right _ _))⟩ hP hD hS hl
set_option maxHeartbeats 2000000 in
theorem lw_covered {p : Program} {l : Launch} {e : Env} {s : State} {m : MethodId} {below : List Frame} {meth : Method} {c : Code} {b L : Nat} {xs : Nat → Int32} {G : rs_G} (C0 : lw_Cx p s m c b L xs G) {N : Nat} (hN : 200000 < N) {cells slots : Nat} (hcs : cells + 8 ≤ 600000 ∧ slots + 76 ≤ 7302250) {i Y : Nat} (hi : i + 5 ≤ L) (hY : Y ≤ 2 ^ 21) {p1 p2 p3 p4 : Int32} (h1 : xs (i + 1) = p1) (h2 : xs (i + 2) = p2) (h3 : xs (i + 3) = p3) (h4 : xs (i + 4) = p4) {q k : Nat → Nat} {Q : State → Prop} {fi : Nat → Option Nat} {D : Nat → Nat} {V : Nat → Nat → Nat} {y : Nat} {cn : Nat} {pn : Nat} {f : Nat → Int32} {xl : Nat → Int32} {xy : Nat → Int32} {xc : Nat → Int32} {ps : Nat → Int32} {j : Nat → Int32} {ja : Nat → Nat → Int32} {jl : Nat → Nat → Int64} {jL : Nat → Int64} {g : Nat → Int32} {sl : Nat → Int32} {sy : Nat → Int32} {sc : Nat → Int32} {pm : Nat → Int32} {K : Nat → Int32} {kb : Nat → Int32} {mj : Nat → Int32} {ma : Nat → Nat → Int32} {ml : Nat → Nat → Int64} {S : Nat → Nat} {T0 : va_W} {T1 : va_W} {H : Heap} {locs : List Loc} {ls : Array Slot} (hI : rs_I G Y D V y cn pn f xl xy xc ps g sl sy sc pm K kb fi S T0 T1) (hP : va_P G.1 vwCl (rs_X G q fi D y cn pn f xl xy xc ps j ja jl jL (rs_M G k D y cn pn g sl sy sc pm K kb mj ma ml (T0 ++ T1))) H) (hD : va_D (fun q : Nat => s.heap.size ≤ q) (rs_X G q fi D y cn pn f xl xy xc ps j ja jl jL (rs_M G k D y cn pn g sl sy sc pm K kb mj ma ml (T0 ++ T1)))) (hS : va_S (fun q : Nat => s.heap.size ≤ q) s.heap H locs) (hl : lv_has ls 4 [(0, .ref b), (1, .ref (q 0)), (2, .ref (k 0)), (3, .int (nI i))]) (nx : lw_Nx p l e s m below meth c b G q k i (Y + 600) (cells + 8) (slots + 76) Q) : W p l e room_1 s m #[Value.ref b] below meth c H locs cells slots Q (F0 m 440 ls []) := by
  obtain ⟨hx, hb, hml, hown, hts, hXs, hbl, hK, hL⟩ := C0
  obtain ⟨hD0, hV, hX, hM, hy, hcn, hpn, e1, e2, e3, s1, s2, s3, i0, i1⟩ := hI
  have hA : ∀ q : Nat, s.heap.size ≤ q → (fun q : Nat => s.heap.size ≤ q) q := fun _ h => h
  have hbA : ¬ (fun q : Nat => s.heap.size ≤ q) b := Nat.not_le.mpr hbl
  have hcs0 : cells ≤ room_1.cells ∧ slots ≤ room_1.slots := ⟨Nat.le_trans (Nat.le_add_right _ 8) hcs.1, Nat.le_trans (Nat.le_add_right _ 76) hcs.2⟩
  obtain ⟨r, hx1, hm1⟩ := e_covered hD0 p1
  refine lv_aload_n hx hb dL_law_440 rfl (lv_at hl 1 rfl) ?_
  refine lv_aload_n hx hb dL_law_441 rfl (lv_at hl 0 rfl) ?_
  refine lv_iload_n hx hb dL_law_442 rfl (lv_at hl 3 rfl) ?_
  refine lv_iconst (v := 1) hx hb dL_law_443 (by decide) ?_
  refine lv_iadd hx hb dL_law_444 ?_
  refine rs_sld 1 hx hb hXs hbl hbA hS rfl (by omega) hL h1 dL_law_445 ?_
  refine rs_callVi (As := [.int p1]) (rest := []) (index := 57) ⟨hx, hb, hml, hown, hts⟩ (c_X10_covered l G (q 0) (q 1) (q 9) (q 10) (q 12) (q 17) (q 20) (q 23) (q 26) (q 2) (q 3) (q 5) (nI y) (nI (D 0)) (nI (D 1)) (nI (D 2)) (nI (D 3)) (nI (D 4)) (nI (D 5)) (nI (D 6)) p1 r hx1) (cwV 1 hts gL_law_X10_covered rfl rfl rfl (by decide +kernel) ⟨Nat.le_of_ble_eq_true rfl, Nat.le_of_ble_eq_true rfl⟩) dL_law_446 hK hP hD hS hA [0, 1, 2] rfl (by decide) rfl rfl (q0 := 0) (ci := 10) rfl rfl rfl hl.1 (lv_room (Nat.le_of_ble_eq_true rfl)) hcs0 (fun (u : Unit) => (rs_X G q fi D y cn pn f xl xy xc ps j ja jl jL (rs_M G k D y cn pn g sl sy sc pm K kb mj ma ml (T0 ++ T1)))) (fun _ => rfl) (fun _ => rfl) (fun u H locs hP hD hS => ?_)
  have hP : va_P G.1 vwCl (rs_X G q fi D y cn pn f xl xy xc ps j ja jl jL (rs_M G k D y cn pn g sl sy sc pm K kb mj ma ml (T0 ++ T1))) H := hP
  have hD : va_D (fun q : Nat => s.heap.size ≤ q) (rs_X G q fi D y cn pn f xl xy xc ps j ja jl jL (rs_M G k D y cn pn g sl sy sc pm K kb mj ma ml (T0 ++ T1))) := hD
  refine lv_aload_n hx hb dL_law_449 rfl (lv_at hl 2 rfl) ?_
  refine lv_aload_n hx hb dL_law_450 rfl (lv_at hl 0 rfl) ?_
  refine lv_iload_n hx hb dL_law_451 rfl (lv_at hl 3 rfl) ?_
  refine lv_iconst (v := 1) hx hb dL_law_452 (by decide) ?_
  refine lv_iadd hx hb dL_law_453 ?_
  refine rs_sld 1 hx hb hXs hbl hbA hS rfl (by omega) hL h1 dL_law_454 ?_
  refine rs_callVi (As := [.int p1]) (rest := [.int r]) (index := 60) ⟨hx, hb, hml, hown, hts⟩ (c_X11_covered l G (k 0) (k 1) (k 2) (k 3) (k 4) (k 5) (k 6) (k 7) (k 8) (k 9) (k 10) (k 11) (k 12) (k 13) (k 14) (k 15) (k 16) (k 17) (k 18) (k 19) (nI (D 0)) (nI (D 1)) (nI (D 2)) (nI (D 3)) (nI (D 4)) (nI (D 5)) (nI (D 6)) (nI y) (nI cn) (nI pn) (mj 0) (mj 1) (mj 2) (mj 3) (mj 4) (mj 5) (mj 6) (mj 7) (mj 8) (mj 9) p1 r hm1) (cwV 1 hts gL_law_X11_covered rfl rfl rfl (by decide +kernel) ⟨Nat.le_of_ble_eq_true rfl, Nat.le_of_ble_eq_true rfl⟩) dL_law_455 hK hP hD hS hA [29] rfl (by decide) rfl rfl (q0 := 0) (ci := 11) rfl rfl rfl hl.1 (lv_room (Nat.le_of_ble_eq_true rfl)) hcs0 (fun (u : Unit) => (rs_X G q fi D y cn pn f xl xy xc ps j ja jl jL (rs_M G k D y cn pn g sl sy sc pm K kb mj ma ml (T0 ++ T1)))) (fun _ => rfl) (fun _ => rfl) (fun u H locs hP hD hS => ?_)
  have hP : va_P G.1 vwCl (rs_X G q fi D y cn pn f xl xy xc ps j ja jl jL (rs_M G k D y cn pn g sl sy sc pm K kb mj ma ml (T0 ++ T1))) H := hP
  have hD : va_D (fun q : Nat => s.heap.size ≤ q) (rs_X G q fi D y cn pn f xl xy xc ps j ja jl jL (rs_M G k D y cn pn g sl sy sc pm K kb mj ma ml (T0 ++ T1))) := hD
  refine lv_icmp_eq (tgt := 1303) hx hb dL_law_458 (by decide) (fun _ => ?_) (fun hc => absurd rfl hc)
  refine W.widen (k := cells + 8) (n := slots + 76) (Nat.le_add_right _ _) (Nat.le_add_right _ _) ?_
  exact nx fi D V y cn pn f xl xy xc ps j ja jl jL g sl sy sc pm K kb mj ma ml S T0 T1 H locs ls ⟨hD0, hV, hX, hM, (by omega), hcn, hpn, e1, e2, e3, s1, s2, s3, (i0.up (Nat.le_add_right _ _)), (i1.up (Nat.le_add_right _ _))⟩ hP hD hS hl
set_option maxHeartbeats 2000000 in
theorem lw_lits {p : Program} {l : Launch} {e : Env} {s : State} {m : MethodId} {below : List Frame} {meth : Method} {c : Code} {b L : Nat} {xs : Nat → Int32} {G : rs_G} (C0 : lw_Cx p s m c b L xs G) {N : Nat} (hN : 200000 < N) {cells slots : Nat} (hcs : cells + 8 ≤ 600000 ∧ slots + 76 ≤ 7302250) {i Y : Nat} (hi : i + 5 ≤ L) (hY : Y ≤ 2 ^ 21) {p1 p2 p3 p4 : Int32} (h1 : xs (i + 1) = p1) (h2 : xs (i + 2) = p2) (h3 : xs (i + 3) = p3) (h4 : xs (i + 4) = p4) {q k : Nat → Nat} {Q : State → Prop} {fi : Nat → Option Nat} {D : Nat → Nat} {V : Nat → Nat → Nat} {y : Nat} {cn : Nat} {pn : Nat} {f : Nat → Int32} {xl : Nat → Int32} {xy : Nat → Int32} {xc : Nat → Int32} {ps : Nat → Int32} {j : Nat → Int32} {ja : Nat → Nat → Int32} {jl : Nat → Nat → Int64} {jL : Nat → Int64} {g : Nat → Int32} {sl : Nat → Int32} {sy : Nat → Int32} {sc : Nat → Int32} {pm : Nat → Int32} {K : Nat → Int32} {kb : Nat → Int32} {mj : Nat → Int32} {ma : Nat → Nat → Int32} {ml : Nat → Nat → Int64} {S : Nat → Nat} {T0 : va_W} {T1 : va_W} {H : Heap} {locs : List Loc} {ls : Array Slot} (hI : rs_I G Y D V y cn pn f xl xy xc ps g sl sy sc pm K kb fi S T0 T1) (hP : va_P G.1 vwCl (rs_X G q fi D y cn pn f xl xy xc ps j ja jl jL (rs_M G k D y cn pn g sl sy sc pm K kb mj ma ml (T0 ++ T1))) H) (hD : va_D (fun q : Nat => s.heap.size ≤ q) (rs_X G q fi D y cn pn f xl xy xc ps j ja jl jL (rs_M G k D y cn pn g sl sy sc pm K kb mj ma ml (T0 ++ T1)))) (hS : va_S (fun q : Nat => s.heap.size ≤ q) s.heap H locs) (hl : lv_has ls 4 [(0, .ref b), (1, .ref (q 0)), (2, .ref (k 0)), (3, .int (nI i))]) (nx : lw_Nx p l e s m below meth c b G q k i (Y + 600) (cells + 8) (slots + 76) Q) : W p l e room_1 s m #[Value.ref b] below meth c H locs cells slots Q (F0 m 463 ls []) := by
  obtain ⟨hx, hb, hml, hown, hts, hXs, hbl, hK, hL⟩ := C0
  obtain ⟨hD0, hV, hX, hM, hy, hcn, hpn, e1, e2, e3, s1, s2, s3, i0, i1⟩ := hI
  have hA : ∀ q : Nat, s.heap.size ≤ q → (fun q : Nat => s.heap.size ≤ q) q := fun _ h => h
  have hbA : ¬ (fun q : Nat => s.heap.size ≤ q) b := Nat.not_le.mpr hbl
  have hcs0 : cells ≤ room_1.cells ∧ slots ≤ room_1.slots := ⟨Nat.le_trans (Nat.le_add_right _ 8) hcs.1, Nat.le_trans (Nat.le_add_right _ 76) hcs.2⟩
  obtain ⟨r, hx1, hm1⟩ := e_lits hD0 (N := N) (by omega) p1 p2 p3
  refine lv_aload_n hx hb dL_law_463 rfl (lv_at hl 1 rfl) ?_
  refine lv_aload_n hx hb dL_law_464 rfl (lv_at hl 0 rfl) ?_
  refine lv_iload_n hx hb dL_law_465 rfl (lv_at hl 3 rfl) ?_
  refine lv_iconst (v := 1) hx hb dL_law_466 (by decide) ?_
  refine lv_iadd hx hb dL_law_467 ?_
  refine rs_sld 1 hx hb hXs hbl hbA hS rfl (by omega) hL h1 dL_law_468 ?_
  refine lv_aload_n hx hb dL_law_469 rfl (lv_at hl 0 rfl) ?_
  refine lv_iload_n hx hb dL_law_470 rfl (lv_at hl 3 rfl) ?_
  refine lv_iconst (v := 2) hx hb dL_law_471 (by decide) ?_
  refine lv_iadd hx hb dL_law_472 ?_
  refine rs_sld 2 hx hb hXs hbl hbA hS rfl (by omega) hL h2 dL_law_473 ?_
  refine lv_aload_n hx hb dL_law_474 rfl (lv_at hl 0 rfl) ?_
  refine lv_iload_n hx hb dL_law_475 rfl (lv_at hl 3 rfl) ?_
  refine lv_iconst (v := 3) hx hb dL_law_476 (by decide) ?_
  refine lv_iadd hx hb dL_law_477 ?_
  refine rs_sld 3 hx hb hXs hbl hbA hS rfl (by omega) hL h3 dL_law_478 ?_
  refine rs_callVi (As := [.int p1, .int p2, .int p3]) (rest := []) (index := 61) ⟨hx, hb, hml, hown, hts⟩ (c_X10_lits l G (q 0) (q 1) (q 9) (q 10) (q 12) (q 17) (q 20) (q 23) (q 26) (q 2) (q 3) (q 5) (nI y) (nI (D 0)) (nI (D 1)) (nI (D 2)) (nI (D 3)) (nI (D 4)) (nI (D 5)) (nI (D 6)) p1 p2 p3 N r hx1) (cwV 3 hts gL_law_X10_lits rfl rfl rfl (by decide +kernel) ⟨Nat.le_of_ble_eq_true rfl, Nat.le_of_ble_eq_true rfl⟩) dL_law_479 hK hP hD hS hA [0, 1, 2] rfl (by decide) rfl rfl (q0 := 0) (ci := 10) rfl rfl rfl hl.1 (lv_room (Nat.le_of_ble_eq_true rfl)) hcs0 (fun (u : Unit) => (rs_X G q fi D y cn pn f xl xy xc ps j ja jl jL (rs_M G k D y cn pn g sl sy sc pm K kb mj ma ml (T0 ++ T1)))) (fun _ => rfl) (fun _ => rfl) (fun u H locs hP hD hS => ?_)
  have hP : va_P G.1 vwCl (rs_X G q fi D y cn pn f xl xy xc ps j ja jl jL (rs_M G k D y cn pn g sl sy sc pm K kb mj ma ml (T0 ++ T1))) H := hP
  have hD : va_D (fun q : Nat => s.heap.size ≤ q) (rs_X G q fi D y cn pn f xl xy xc ps j ja jl jL (rs_M G k D y cn pn g sl sy sc pm K kb mj ma ml (T0 ++ T1))) := hD
  refine lv_aload_n hx hb dL_law_482 rfl (lv_at hl 2 rfl) ?_
  refine lv_aload_n hx hb dL_law_483 rfl (lv_at hl 0 rfl) ?_
  refine lv_iload_n hx hb dL_law_484 rfl (lv_at hl 3 rfl) ?_
  refine lv_iconst (v := 1) hx hb dL_law_485 (by decide) ?_
  refine lv_iadd hx hb dL_law_486 ?_
  refine rs_sld 1 hx hb hXs hbl hbA hS rfl (by omega) hL h1 dL_law_487 ?_
  refine lv_aload_n hx hb dL_law_488 rfl (lv_at hl 0 rfl) ?_
  refine lv_iload_n hx hb dL_law_489 rfl (lv_at hl 3 rfl) ?_
  refine lv_iconst (v := 2) hx hb dL_law_490 (by decide) ?_
  refine lv_iadd hx hb dL_law_491 ?_
  refine rs_sld 2 hx hb hXs hbl hbA hS rfl (by omega) hL h2 dL_law_492 ?_
  refine lv_aload_n hx hb dL_law_493 rfl (lv_at hl 0 rfl) ?_
  refine lv_iload_n hx hb dL_law_494 rfl (lv_at hl 3 rfl) ?_
  refine lv_iconst (v := 3) hx hb dL_law_495 (by decide) ?_
  refine lv_iadd hx hb dL_law_496 ?_
  refine rs_sld 3 hx hb hXs hbl hbA hS rfl (by omega) hL h3 dL_law_497 ?_
  refine rs_callVi (As := [.int p1, .int p2, .int p3]) (rest := [.int r]) (index := 64) ⟨hx, hb, hml, hown, hts⟩ (c_X11_lits l G (k 0) (k 1) (k 2) (k 3) (k 4) (k 5) (k 6) (k 7) (k 8) (k 9) (k 10) (k 11) (k 12) (k 13) (k 14) (k 15) (k 16) (k 17) (k 18) (k 19) (nI (D 0)) (nI (D 1)) (nI (D 2)) (nI (D 3)) (nI (D 4)) (nI (D 5)) (nI (D 6)) (nI y) (nI cn) (nI pn) (mj 0) (mj 1) (mj 2) (mj 3) (mj 4) (mj 5) (mj 6) (mj 7) (mj 8) (mj 9) p1 p2 p3 N r hm1) (cwV 3 hts gL_law_X11_lits rfl rfl rfl (by decide +kernel) ⟨Nat.le_of_ble_eq_true rfl, Nat.le_of_ble_eq_true rfl⟩) dL_law_498 hK hP hD hS hA [29] rfl (by decide) rfl rfl (q0 := 0) (ci := 11) rfl rfl rfl hl.1 (lv_room (Nat.le_of_ble_eq_true rfl)) hcs0 (fun (u : Unit) => (rs_X G q fi D y cn pn f xl xy xc ps j ja jl jL (rs_M G k D y cn pn g sl sy sc pm K kb mj ma ml (T0 ++ T1)))) (fun _ => rfl) (fun _ => rfl) (fun u H locs hP hD hS => ?_)
  have hP : va_P G.1 vwCl (rs_X G q fi D y cn pn f xl xy xc ps j ja jl jL (rs_M G k D y cn pn g sl sy sc pm K kb mj ma ml (T0 ++ T1))) H := hP
  have hD : va_D (fun q : Nat => s.heap.size ≤ q) (rs_X G q fi D y cn pn f xl xy xc ps j ja jl jL (rs_M G k D y cn pn g sl sy sc pm K kb mj ma ml (T0 ++ T1))) := hD
  refine lv_icmp_eq (tgt := 1303) hx hb dL_law_501 (by decide) (fun _ => ?_) (fun hc => absurd rfl hc)
  refine W.widen (k := cells + 8) (n := slots + 76) (Nat.le_add_right _ _) (Nat.le_add_right _ _) ?_
  exact nx fi D V y cn pn f xl xy xc ps j ja jl jL g sl sy sc pm K kb mj ma ml S T0 T1 H locs ls ⟨hD0, hV, hX, hM, (by omega), hcn, hpn, e1, e2, e3, s1, s2, s3, (i0.up (Nat.le_add_right _ _)), (i1.up (Nat.le_add_right _ _))⟩ hP hD hS hl
