set_option maxHeartbeats 2000000 in
theorem lw_lands {p : Program} {l : Launch} {e : Env} {s : State} {m : MethodId} {below : List Frame} {meth : Method} {c : Code} {b L : Nat} {xs : Nat → Int32} {G : rs_G} (C0 : lw_Cx p s m c b L xs G) {N : Nat} (hN : 200000 < N) {cells slots : Nat} (hcs : cells + 8 ≤ 600000 ∧ slots + 76 ≤ 7302250) {i Y : Nat} (hi : i + 5 ≤ L) (hY : Y ≤ 2 ^ 21) {p1 p2 p3 p4 : Int32} (h1 : xs (i + 1) = p1) (h2 : xs (i + 2) = p2) (h3 : xs (i + 3) = p3) (h4 : xs (i + 4) = p4) {q k : Nat → Nat} {Q : State → Prop} {fi : Nat → Option Nat} {D : Nat → Nat} {V : Nat → Nat → Nat} {y : Nat} {cn : Nat} {pn : Nat} {f : Nat → Int32} {xl : Nat → Int32} {xy : Nat → Int32} {xc : Nat → Int32} {ps : Nat → Int32} {j : Nat → Int32} {ja : Nat → Nat → Int32} {jl : Nat → Nat → Int64} {jL : Nat → Int64} {g : Nat → Int32} {sl : Nat → Int32} {sy : Nat → Int32} {sc : Nat → Int32} {pm : Nat → Int32} {K : Nat → Int32} {kb : Nat → Int32} {mj : Nat → Int32} {ma : Nat → Nat → Int32} {ml : Nat → Nat → Int64} {S : Nat → Nat} {T0 : va_W} {T1 : va_W} {H : Heap} {locs : List Loc} {ls : Array Slot} (hI : rs_I G Y D V y cn pn f xl xy xc ps g sl sy sc pm K kb fi S T0 T1) (hP : va_P G.1 vwCl (rs_X G q fi D y cn pn f xl xy xc ps j ja jl jL (rs_M G k D y cn pn g sl sy sc pm K kb mj ma ml (T0 ++ T1))) H) (hD : va_D (fun q : Nat => s.heap.size ≤ q) (rs_X G q fi D y cn pn f xl xy xc ps j ja jl jL (rs_M G k D y cn pn g sl sy sc pm K kb mj ma ml (T0 ++ T1)))) (hS : va_S (fun q : Nat => s.heap.size ≤ q) s.heap H locs) (hl : lv_has ls 4 [(0, .ref b), (1, .ref (q 0)), (2, .ref (k 0)), (3, .int (nI i))]) (nx : lw_Nx p l e s m below meth c b G q k i (Y + 600) (cells + 8) (slots + 76) Q) : W p l e room_1 s m #[Value.ref b] below meth c H locs cells slots Q (F0 m 180 ls []) := by
  obtain ⟨hx, hb, hml, hown, hts, hXs, hbl, hK, hL⟩ := C0
  obtain ⟨hD0, hV, hX, hM, hy, hcn, hpn, e1, e2, e3, s1, s2, s3, i0, i1⟩ := hI
  have hA : ∀ q : Nat, s.heap.size ≤ q → (fun q : Nat => s.heap.size ≤ q) q := fun _ h => h
  have hbA : ¬ (fun q : Nat => s.heap.size ≤ q) b := Nat.not_le.mpr hbl
  have hcs0 : cells ≤ room_1.cells ∧ slots ≤ room_1.slots := ⟨Nat.le_trans (Nat.le_add_right _ 8) hcs.1, Nat.le_trans (Nat.le_add_right _ 76) hcs.2⟩
  obtain ⟨r, E, U, y2, c2, f2, g2, hx1, hm1, hE, hEj, hU, hXU, hMU, hy2, hc2⟩ := e_lands hD0 hV hX hM (N := N) (by omega) y cn p1 p2
  refine lv_aload_n hx hb dL_law_180 rfl (lv_at hl 1 rfl) ?_
  refine lv_aload_n hx hb dL_law_181 rfl (lv_at hl 0 rfl) ?_
  refine lv_iload_n hx hb dL_law_182 rfl (lv_at hl 3 rfl) ?_
  refine lv_iconst (v := 1) hx hb dL_law_183 (by decide) ?_
  refine lv_iadd hx hb dL_law_184 ?_
  refine rs_sld 1 hx hb hXs hbl hbA hS rfl (by omega) hL h1 dL_law_185 ?_
  refine lv_aload_n hx hb dL_law_186 rfl (lv_at hl 0 rfl) ?_
  refine lv_iload_n hx hb dL_law_187 rfl (lv_at hl 3 rfl) ?_
  refine lv_iconst (v := 2) hx hb dL_law_188 (by decide) ?_
  refine lv_iadd hx hb dL_law_189 ?_
  refine rs_sld 2 hx hb hXs hbl hbA hS rfl (by omega) hL h2 dL_law_190 ?_
  refine rs_callVi (As := [.int p1, .int p2]) (rest := []) (index := 13) ⟨hx, hb, hml, hown, hts⟩ (c_X10_lands l G (q 0) (q 1) (q 9) (q 10) (q 12) (q 17) (q 20) (q 23) (q 26) (q 2) (q 3) (q 5) (q 4) (q 6) (q 7) (q 8) (nI y) (nI (D 0)) (nI (D 1)) (nI (D 2)) (nI (D 3)) (nI (D 4)) (nI (D 5)) (nI (D 6)) f (nI cn) p1 p2 N r (nI y2) (nI (E 0)) (nI (E 1)) f2 (nI c2) hx1) (cwV 2 hts gL_law_X10_lands rfl rfl rfl (by decide +kernel) ⟨Nat.le_of_ble_eq_true rfl, Nat.le_of_ble_eq_true rfl⟩) dL_law_191 hK hP hD hS hA [0, 1, 2, 3, 4, 5] rfl (by decide) rfl rfl (q0 := 0) (ci := 10) rfl rfl rfl hl.1 (lv_room (Nat.le_of_ble_eq_true rfl)) hcs0 (fun (u : Unit) => (rs_X G q fi (rs_ls [E 0, E 1, D 2, D 3, D 4, D 5, D 6] D) y2 c2 pn f2 xl xy xc ps j ja jl jL (rs_M G k D y cn pn g sl sy sc pm K kb mj ma ml (T0 ++ T1)))) (fun _ => rfl) (fun _ => rfl) (fun u H locs hP hD hS => ?_)
  have hP : va_P G.1 vwCl (rs_X G q fi (rs_ls [E 0, E 1, D 2, D 3, D 4, D 5, D 6] D) y2 c2 pn f2 xl xy xc ps j ja jl jL (rs_M G k D y cn pn g sl sy sc pm K kb mj ma ml (T0 ++ T1))) H := hP
  have hD : va_D (fun q : Nat => s.heap.size ≤ q) (rs_X G q fi (rs_ls [E 0, E 1, D 2, D 3, D 4, D 5, D 6] D) y2 c2 pn f2 xl xy xc ps j ja jl jL (rs_M G k D y cn pn g sl sy sc pm K kb mj ma ml (T0 ++ T1))) := hD
  refine lv_aload_n hx hb dL_law_194 rfl (lv_at hl 2 rfl) ?_
  refine lv_aload_n hx hb dL_law_195 rfl (lv_at hl 0 rfl) ?_
  refine lv_iload_n hx hb dL_law_196 rfl (lv_at hl 3 rfl) ?_
  refine lv_iconst (v := 1) hx hb dL_law_197 (by decide) ?_
  refine lv_iadd hx hb dL_law_198 ?_
  refine rs_sld 1 hx hb hXs hbl hbA hS rfl (by omega) hL h1 dL_law_199 ?_
  refine lv_aload_n hx hb dL_law_200 rfl (lv_at hl 0 rfl) ?_
  refine lv_iload_n hx hb dL_law_201 rfl (lv_at hl 3 rfl) ?_
  refine lv_iconst (v := 2) hx hb dL_law_202 (by decide) ?_
  refine lv_iadd hx hb dL_law_203 ?_
  refine rs_sld 2 hx hb hXs hbl hbA hS rfl (by omega) hL h2 dL_law_204 ?_
  refine rs_callVi (As := [.int p1, .int p2]) (rest := [.int r]) (index := 17) ⟨hx, hb, hml, hown, hts⟩ (c_X11_lands l G (k 0) (k 1) (k 2) (k 3) (k 4) (k 5) (k 6) (k 7) (k 8) (k 9) (k 10) (k 11) (k 12) (k 13) (k 14) (k 15) (k 16) (k 17) (k 18) (k 19) (nI (D 0)) (nI (D 1)) (nI (D 2)) (nI (D 3)) (nI (D 4)) (nI (D 5)) (nI (D 6)) (nI y) (nI cn) (nI pn) (mj 0) (mj 1) (mj 2) (mj 3) (mj 4) (mj 5) (mj 6) (mj 7) (mj 8) (mj 9) g p1 p2 N r (nI (E 0)) (nI (E 1)) (nI y2) (nI c2) g2 hm1) (cwV 2 hts gL_law_X11_lands rfl rfl rfl (by decide +kernel) ⟨Nat.le_of_ble_eq_true rfl, Nat.le_of_ble_eq_true rfl⟩) dL_law_205 hK hP hD hS hA [29, 30] rfl (by decide) rfl rfl (q0 := 0) (ci := 11) rfl rfl rfl hl.1 (lv_room (Nat.le_of_ble_eq_true rfl)) hcs0 (fun (u : Unit) => (rs_X G q fi (rs_ls [E 0, E 1, D 2, D 3, D 4, D 5, D 6] D) y2 c2 pn f2 xl xy xc ps j ja jl jL (rs_M G k (rs_ls [E 0, E 1, D 2, D 3, D 4, D 5, D 6] D) y2 c2 pn g2 sl sy sc pm K kb mj ma ml (T0 ++ T1)))) (fun _ => rfl) (fun _ => rfl) (fun u H locs hP hD hS => ?_)
  have hP : va_P G.1 vwCl (rs_X G q fi (rs_ls [E 0, E 1, D 2, D 3, D 4, D 5, D 6] D) y2 c2 pn f2 xl xy xc ps j ja jl jL (rs_M G k (rs_ls [E 0, E 1, D 2, D 3, D 4, D 5, D 6] D) y2 c2 pn g2 sl sy sc pm K kb mj ma ml (T0 ++ T1))) H := hP
  have hD : va_D (fun q : Nat => s.heap.size ≤ q) (rs_X G q fi (rs_ls [E 0, E 1, D 2, D 3, D 4, D 5, D 6] D) y2 c2 pn f2 xl xy xc ps j ja jl jL (rs_M G k (rs_ls [E 0, E 1, D 2, D 3, D 4, D 5, D 6] D) y2 c2 pn g2 sl sy sc pm K kb mj ma ml (T0 ++ T1))) := hD
  refine lv_icmp_eq (tgt := 1303) hx hb dL_law_208 (by decide) (fun _ => ?_) (fun hc => absurd rfl hc)
  refine W.widen (k := cells + 8) (n := slots + 76) (Nat.le_add_right _ _) (Nat.le_add_right _ _) ?_
  exact nx fi (rs_ls [E 0, E 1, D 2, D 3, D 4, D 5, D 6] D) U y2 c2 pn f2 xl xy xc ps j ja jl jL g2 sl sy sc pm K kb mj ma ml S T0 T1 H locs ls ⟨(sd_ok_eq hE rfl rfl (hEj 2 (by decide)).symm (hEj 3 (by decide)).symm (hEj 4 (by decide)).symm (hEj 5 (by decide)).symm (hEj 6 (by decide)).symm), hU, hXU, hMU, (by omega), (by omega), hpn, e1, e2, e3, s1, s2, s3, (i0.up (Nat.le_add_right _ _)), (i1.up (Nat.le_add_right _ _))⟩ hP hD hS hl
set_option maxHeartbeats 2000000 in
theorem lw_set {p : Program} {l : Launch} {e : Env} {s : State} {m : MethodId} {below : List Frame} {meth : Method} {c : Code} {b L : Nat} {xs : Nat → Int32} {G : rs_G} (C0 : lw_Cx p s m c b L xs G) {N : Nat} (hN : 200000 < N) {cells slots : Nat} (hcs : cells + 8 ≤ 600000 ∧ slots + 76 ≤ 7302250) {i Y : Nat} (hi : i + 5 ≤ L) (hY : Y ≤ 2 ^ 21) {p1 p2 p3 p4 : Int32} (h1 : xs (i + 1) = p1) (h2 : xs (i + 2) = p2) (h3 : xs (i + 3) = p3) (h4 : xs (i + 4) = p4) {q k : Nat → Nat} {Q : State → Prop} {fi : Nat → Option Nat} {D : Nat → Nat} {V : Nat → Nat → Nat} {y : Nat} {cn : Nat} {pn : Nat} {f : Nat → Int32} {xl : Nat → Int32} {xy : Nat → Int32} {xc : Nat → Int32} {ps : Nat → Int32} {j : Nat → Int32} {ja : Nat → Nat → Int32} {jl : Nat → Nat → Int64} {jL : Nat → Int64} {g : Nat → Int32} {sl : Nat → Int32} {sy : Nat → Int32} {sc : Nat → Int32} {pm : Nat → Int32} {K : Nat → Int32} {kb : Nat → Int32} {mj : Nat → Int32} {ma : Nat → Nat → Int32} {ml : Nat → Nat → Int64} {S : Nat → Nat} {T0 : va_W} {T1 : va_W} {H : Heap} {locs : List Loc} {ls : Array Slot} (hI : rs_I G Y D V y cn pn f xl xy xc ps g sl sy sc pm K kb fi S T0 T1) (hP : va_P G.1 vwCl (rs_X G q fi D y cn pn f xl xy xc ps j ja jl jL (rs_M G k D y cn pn g sl sy sc pm K kb mj ma ml (T0 ++ T1))) H) (hD : va_D (fun q : Nat => s.heap.size ≤ q) (rs_X G q fi D y cn pn f xl xy xc ps j ja jl jL (rs_M G k D y cn pn g sl sy sc pm K kb mj ma ml (T0 ++ T1)))) (hS : va_S (fun q : Nat => s.heap.size ≤ q) s.heap H locs) (hl : lv_has ls 4 [(0, .ref b), (1, .ref (q 0)), (2, .ref (k 0)), (3, .int (nI i))]) (nx : lw_Nx p l e s m below meth c b G q k i (Y + 600) (cells + 8) (slots + 76) Q) : W p l e room_1 s m #[Value.ref b] below meth c H locs cells slots Q (F0 m 213 ls []) := by
  obtain ⟨hx, hb, hml, hown, hts, hXs, hbl, hK, hL⟩ := C0
  obtain ⟨hD0, hV, hX, hM, hy, hcn, hpn, e1, e2, e3, s1, s2, s3, i0, i1⟩ := hI
  have hA : ∀ q : Nat, s.heap.size ≤ q → (fun q : Nat => s.heap.size ≤ q) q := fun _ h => h
  have hbA : ¬ (fun q : Nat => s.heap.size ≤ q) b := Nat.not_le.mpr hbl
  have hcs0 : cells ≤ room_1.cells ∧ slots ≤ room_1.slots := ⟨Nat.le_trans (Nat.le_add_right _ 8) hcs.1, Nat.le_trans (Nat.le_add_right _ 76) hcs.2⟩
  obtain ⟨r, E, hx1, hm1, hE, hE0, hE1⟩ := e_set hD0 p1 p2
  refine lv_aload_n hx hb dL_law_213 rfl (lv_at hl 1 rfl) ?_
  refine lv_aload_n hx hb dL_law_214 rfl (lv_at hl 0 rfl) ?_
  refine lv_iload_n hx hb dL_law_215 rfl (lv_at hl 3 rfl) ?_
  refine lv_iconst (v := 1) hx hb dL_law_216 (by decide) ?_
  refine lv_iadd hx hb dL_law_217 ?_
  refine rs_sld 1 hx hb hXs hbl hbA hS rfl (by omega) hL h1 dL_law_218 ?_
  refine lv_aload_n hx hb dL_law_219 rfl (lv_at hl 0 rfl) ?_
  refine lv_iload_n hx hb dL_law_220 rfl (lv_at hl 3 rfl) ?_
  refine lv_iconst (v := 2) hx hb dL_law_221 (by decide) ?_
  refine lv_iadd hx hb dL_law_222 ?_
  refine rs_sld 2 hx hb hXs hbl hbA hS rfl (by omega) hL h2 dL_law_223 ?_
  refine rs_callVi (As := [.int p1, .int p2]) (rest := []) (index := 18) ⟨hx, hb, hml, hown, hts⟩ (c_X10_set l G (q 0) (q 1) (q 9) (q 10) (q 12) (q 17) (q 20) (q 23) (q 26) (q 2) (q 3) (q 5) (nI y) (nI (D 0)) (nI (D 1)) (nI (D 2)) (nI (D 3)) (nI (D 4)) (nI (D 5)) (nI (D 6)) p1 p2 r (nI (E 2)) (nI (E 3)) (nI (E 4)) (nI (E 5)) (nI (E 6)) hx1) (cwV 2 hts gL_law_X10_set rfl rfl rfl (by decide +kernel) ⟨Nat.le_of_ble_eq_true rfl, Nat.le_of_ble_eq_true rfl⟩) dL_law_224 hK hP hD hS hA [0, 1, 2] rfl (by decide) rfl rfl (q0 := 0) (ci := 10) rfl rfl rfl hl.1 (lv_room (Nat.le_of_ble_eq_true rfl)) hcs0 (fun (u : Unit) => (rs_X G q fi (rs_ls [D 0, D 1, E 2, E 3, E 4, E 5, E 6] D) y cn pn f xl xy xc ps j ja jl jL (rs_M G k D y cn pn g sl sy sc pm K kb mj ma ml (T0 ++ T1)))) (fun _ => rfl) (fun _ => rfl) (fun u H locs hP hD hS => ?_)
  have hP : va_P G.1 vwCl (rs_X G q fi (rs_ls [D 0, D 1, E 2, E 3, E 4, E 5, E 6] D) y cn pn f xl xy xc ps j ja jl jL (rs_M G k D y cn pn g sl sy sc pm K kb mj ma ml (T0 ++ T1))) H := hP
  have hD : va_D (fun q : Nat => s.heap.size ≤ q) (rs_X G q fi (rs_ls [D 0, D 1, E 2, E 3, E 4, E 5, E 6] D) y cn pn f xl xy xc ps j ja jl jL (rs_M G k D y cn pn g sl sy sc pm K kb mj ma ml (T0 ++ T1))) := hD
  refine lv_aload_n hx hb dL_law_227 rfl (lv_at hl 2 rfl) ?_
  refine lv_aload_n hx hb dL_law_228 rfl (lv_at hl 0 rfl) ?_
  refine lv_iload_n hx hb dL_law_229 rfl (lv_at hl 3 rfl) ?_
  refine lv_iconst (v := 1) hx hb dL_law_230 (by decide) ?_
  refine lv_iadd hx hb dL_law_231 ?_
  refine rs_sld 1 hx hb hXs hbl hbA hS rfl (by omega) hL h1 dL_law_232 ?_
  refine lv_aload_n hx hb dL_law_233 rfl (lv_at hl 0 rfl) ?_
  refine lv_iload_n hx hb dL_law_234 rfl (lv_at hl 3 rfl) ?_
  refine lv_iconst (v := 2) hx hb dL_law_235 (by decide) ?_
  refine lv_iadd hx hb dL_law_236 ?_
  refine rs_sld 2 hx hb hXs hbl hbA hS rfl (by omega) hL h2 dL_law_237 ?_
  refine rs_callVi (As := [.int p1, .int p2]) (rest := [.int r]) (index := 21) ⟨hx, hb, hml, hown, hts⟩ (c_X11_set l G (k 0) (k 1) (k 2) (k 3) (k 4) (k 5) (k 6) (k 7) (k 8) (k 9) (k 10) (k 11) (k 12) (k 13) (k 14) (k 15) (k 16) (k 17) (k 18) (k 19) (nI (D 0)) (nI (D 1)) (nI (D 2)) (nI (D 3)) (nI (D 4)) (nI (D 5)) (nI (D 6)) (nI y) (nI cn) (nI pn) (mj 0) (mj 1) (mj 2) (mj 3) (mj 4) (mj 5) (mj 6) (mj 7) (mj 8) (mj 9) p1 p2 r (nI (E 2)) (nI (E 3)) (nI (E 4)) (nI (E 5)) (nI (E 6)) hm1) (cwV 2 hts gL_law_X11_set rfl rfl rfl (by decide +kernel) ⟨Nat.le_of_ble_eq_true rfl, Nat.le_of_ble_eq_true rfl⟩) dL_law_238 hK hP hD hS hA [29] rfl (by decide) rfl rfl (q0 := 0) (ci := 11) rfl rfl rfl hl.1 (lv_room (Nat.le_of_ble_eq_true rfl)) hcs0 (fun (u : Unit) => (rs_X G q fi (rs_ls [D 0, D 1, E 2, E 3, E 4, E 5, E 6] D) y cn pn f xl xy xc ps j ja jl jL (rs_M G k (rs_ls [D 0, D 1, E 2, E 3, E 4, E 5, E 6] D) y cn pn g sl sy sc pm K kb mj ma ml (T0 ++ T1)))) (fun _ => rfl) (fun _ => rfl) (fun u H locs hP hD hS => ?_)
  have hP : va_P G.1 vwCl (rs_X G q fi (rs_ls [D 0, D 1, E 2, E 3, E 4, E 5, E 6] D) y cn pn f xl xy xc ps j ja jl jL (rs_M G k (rs_ls [D 0, D 1, E 2, E 3, E 4, E 5, E 6] D) y cn pn g sl sy sc pm K kb mj ma ml (T0 ++ T1))) H := hP
  have hD : va_D (fun q : Nat => s.heap.size ≤ q) (rs_X G q fi (rs_ls [D 0, D 1, E 2, E 3, E 4, E 5, E 6] D) y cn pn f xl xy xc ps j ja jl jL (rs_M G k (rs_ls [D 0, D 1, E 2, E 3, E 4, E 5, E 6] D) y cn pn g sl sy sc pm K kb mj ma ml (T0 ++ T1))) := hD
  refine lv_icmp_eq (tgt := 1303) hx hb dL_law_241 (by decide) (fun _ => ?_) (fun hc => absurd rfl hc)
  refine W.widen (k := cells + 8) (n := slots + 76) (Nat.le_add_right _ _) (Nat.le_add_right _ _) ?_
  exact nx fi (rs_ls [D 0, D 1, E 2, E 3, E 4, E 5, E 6] D) V y cn pn f xl xy xc ps j ja jl jL g sl sy sc pm K kb mj ma ml S T0 T1 H locs ls ⟨(sd_ok_eq hE hE0.symm hE1.symm rfl rfl rfl rfl rfl), hV, hX, hM, (by omega), hcn, hpn, e1, e2, e3, s1, s2, s3, (i0.up (Nat.le_add_right _ _)), (i1.up (Nat.le_add_right _ _))⟩ hP hD hS hl
set_option maxHeartbeats 2000000 in
theorem lw_land {p : Program} {l : Launch} {e : Env} {s : State} {m : MethodId} {below : List Frame} {meth : Method} {c : Code} {b L : Nat} {xs : Nat → Int32} {G : rs_G} (C0 : lw_Cx p s m c b L xs G) {N : Nat} (hN : 200000 < N) {cells slots : Nat} (hcs : cells + 8 ≤ 600000 ∧ slots + 76 ≤ 7302250) {i Y : Nat} (hi : i + 5 ≤ L) (hY : Y ≤ 2 ^ 21) {p1 p2 p3 p4 : Int32} (h1 : xs (i + 1) = p1) (h2 : xs (i + 2) = p2) (h3 : xs (i + 3) = p3) (h4 : xs (i + 4) = p4) {q k : Nat → Nat} {Q : State → Prop} {fi : Nat → Option Nat} {D : Nat → Nat} {V : Nat → Nat → Nat} {y : Nat} {cn : Nat} {pn : Nat} {f : Nat → Int32} {xl : Nat → Int32} {xy : Nat → Int32} {xc : Nat → Int32} {ps : Nat → Int32} {j : Nat → Int32} {ja : Nat → Nat → Int32} {jl : Nat → Nat → Int64} {jL : Nat → Int64} {g : Nat → Int32} {sl : Nat → Int32} {sy : Nat → Int32} {sc : Nat → Int32} {pm : Nat → Int32} {K : Nat → Int32} {kb : Nat → Int32} {mj : Nat → Int32} {ma : Nat → Nat → Int32} {ml : Nat → Nat → Int64} {S : Nat → Nat} {T0 : va_W} {T1 : va_W} {H : Heap} {locs : List Loc} {ls : Array Slot} (hI : rs_I G Y D V y cn pn f xl xy xc ps g sl sy sc pm K kb fi S T0 T1) (hP : va_P G.1 vwCl (rs_X G q fi D y cn pn f xl xy xc ps j ja jl jL (rs_M G k D y cn pn g sl sy sc pm K kb mj ma ml (T0 ++ T1))) H) (hD : va_D (fun q : Nat => s.heap.size ≤ q) (rs_X G q fi D y cn pn f xl xy xc ps j ja jl jL (rs_M G k D y cn pn g sl sy sc pm K kb mj ma ml (T0 ++ T1)))) (hS : va_S (fun q : Nat => s.heap.size ≤ q) s.heap H locs) (hl : lv_has ls 4 [(0, .ref b), (1, .ref (q 0)), (2, .ref (k 0)), (3, .int (nI i))]) (nx : lw_Nx p l e s m below meth c b G q k i (Y + 600) (cells + 8) (slots + 76) Q) : W p l e room_1 s m #[Value.ref b] below meth c H locs cells slots Q (F0 m 246 ls []) := by
  obtain ⟨hx, hb, hml, hown, hts, hXs, hbl, hK, hL⟩ := C0
  obtain ⟨hD0, hV, hX, hM, hy, hcn, hpn, e1, e2, e3, s1, s2, s3, i0, i1⟩ := hI
  have hA : ∀ q : Nat, s.heap.size ≤ q → (fun q : Nat => s.heap.size ≤ q) q := fun _ h => h
  have hbA : ¬ (fun q : Nat => s.heap.size ≤ q) b := Nat.not_le.mpr hbl
  have hcs0 : cells ≤ room_1.cells ∧ slots ≤ room_1.slots := ⟨Nat.le_trans (Nat.le_add_right _ 8) hcs.1, Nat.le_trans (Nat.le_add_right _ 76) hcs.2⟩
  obtain ⟨r, U, f2, g2, hx1, hm1, hU, hXU, hMU⟩ := e_land hD0 hV hX hM p1 p2 p3
  refine lv_aload_n hx hb dL_law_246 rfl (lv_at hl 1 rfl) ?_
  refine lv_aload_n hx hb dL_law_247 rfl (lv_at hl 0 rfl) ?_
  refine lv_iload_n hx hb dL_law_248 rfl (lv_at hl 3 rfl) ?_
  refine lv_iconst (v := 1) hx hb dL_law_249 (by decide) ?_
  refine lv_iadd hx hb dL_law_250 ?_
  refine rs_sld 1 hx hb hXs hbl hbA hS rfl (by omega) hL h1 dL_law_251 ?_
  refine lv_aload_n hx hb dL_law_252 rfl (lv_at hl 0 rfl) ?_
  refine lv_iload_n hx hb dL_law_253 rfl (lv_at hl 3 rfl) ?_
  refine lv_iconst (v := 2) hx hb dL_law_254 (by decide) ?_
  refine lv_iadd hx hb dL_law_255 ?_
  refine rs_sld 2 hx hb hXs hbl hbA hS rfl (by omega) hL h2 dL_law_256 ?_
  refine lv_aload_n hx hb dL_law_257 rfl (lv_at hl 0 rfl) ?_
  refine lv_iload_n hx hb dL_law_258 rfl (lv_at hl 3 rfl) ?_
  refine lv_iconst (v := 3) hx hb dL_law_259 (by decide) ?_
  refine lv_iadd hx hb dL_law_260 ?_
  refine rs_sld 3 hx hb hXs hbl hbA hS rfl (by omega) hL h3 dL_law_261 ?_
  refine rs_callVi (As := [.int p1, .int p2, .int p3]) (rest := []) (index := 22) ⟨hx, hb, hml, hown, hts⟩ (c_X10_land l G (q 0) (q 1) (q 9) (q 10) (q 12) (q 17) (q 20) (q 23) (q 26) (q 2) (q 3) (q 5) (q 4) (nI y) (nI (D 0)) (nI (D 1)) (nI (D 2)) (nI (D 3)) (nI (D 4)) (nI (D 5)) (nI (D 6)) f p1 p2 p3 r f2 hx1) (cwV 3 hts gL_law_X10_land rfl rfl rfl (by decide +kernel) ⟨Nat.le_of_ble_eq_true rfl, Nat.le_of_ble_eq_true rfl⟩) dL_law_262 hK hP hD hS hA [0, 1, 2, 3, 4] rfl (by decide) rfl rfl (q0 := 0) (ci := 10) rfl rfl rfl hl.1 (lv_room (Nat.le_of_ble_eq_true rfl)) hcs0 (fun (u : Unit) => (rs_X G q fi D y cn pn f2 xl xy xc ps j ja jl jL (rs_M G k D y cn pn g sl sy sc pm K kb mj ma ml (T0 ++ T1)))) (fun _ => rfl) (fun _ => rfl) (fun u H locs hP hD hS => ?_)
  have hP : va_P G.1 vwCl (rs_X G q fi D y cn pn f2 xl xy xc ps j ja jl jL (rs_M G k D y cn pn g sl sy sc pm K kb mj ma ml (T0 ++ T1))) H := hP
  have hD : va_D (fun q : Nat => s.heap.size ≤ q) (rs_X G q fi D y cn pn f2 xl xy xc ps j ja jl jL (rs_M G k D y cn pn g sl sy sc pm K kb mj ma ml (T0 ++ T1))) := hD
  refine lv_aload_n hx hb dL_law_265 rfl (lv_at hl 2 rfl) ?_
  refine lv_aload_n hx hb dL_law_266 rfl (lv_at hl 0 rfl) ?_
  refine lv_iload_n hx hb dL_law_267 rfl (lv_at hl 3 rfl) ?_
  refine lv_iconst (v := 1) hx hb dL_law_268 (by decide) ?_
  refine lv_iadd hx hb dL_law_269 ?_
  refine rs_sld 1 hx hb hXs hbl hbA hS rfl (by omega) hL h1 dL_law_270 ?_
  refine lv_aload_n hx hb dL_law_271 rfl (lv_at hl 0 rfl) ?_
  refine lv_iload_n hx hb dL_law_272 rfl (lv_at hl 3 rfl) ?_
  refine lv_iconst (v := 2) hx hb dL_law_273 (by decide) ?_
  refine lv_iadd hx hb dL_law_274 ?_
  refine rs_sld 2 hx hb hXs hbl hbA hS rfl (by omega) hL h2 dL_law_275 ?_
  refine lv_aload_n hx hb dL_law_276 rfl (lv_at hl 0 rfl) ?_
  refine lv_iload_n hx hb dL_law_277 rfl (lv_at hl 3 rfl) ?_
  refine lv_iconst (v := 3) hx hb dL_law_278 (by decide) ?_
  refine lv_iadd hx hb dL_law_279 ?_
  refine rs_sld 3 hx hb hXs hbl hbA hS rfl (by omega) hL h3 dL_law_280 ?_
  refine rs_callVi (As := [.int p1, .int p2, .int p3]) (rest := [.int r]) (index := 26) ⟨hx, hb, hml, hown, hts⟩ (c_X11_land l G (k 0) (k 1) (k 2) (k 3) (k 4) (k 5) (k 6) (k 7) (k 8) (k 9) (k 10) (k 11) (k 12) (k 13) (k 14) (k 15) (k 16) (k 17) (k 18) (k 19) (nI (D 0)) (nI (D 1)) (nI (D 2)) (nI (D 3)) (nI (D 4)) (nI (D 5)) (nI (D 6)) (nI y) (nI cn) (nI pn) (mj 0) (mj 1) (mj 2) (mj 3) (mj 4) (mj 5) (mj 6) (mj 7) (mj 8) (mj 9) g p1 p2 p3 r g2 hm1) (cwV 3 hts gL_law_X11_land rfl rfl rfl (by decide +kernel) ⟨Nat.le_of_ble_eq_true rfl, Nat.le_of_ble_eq_true rfl⟩) dL_law_281 hK hP hD hS hA [29, 30] rfl (by decide) rfl rfl (q0 := 0) (ci := 11) rfl rfl rfl hl.1 (lv_room (Nat.le_of_ble_eq_true rfl)) hcs0 (fun (u : Unit) => (rs_X G q fi D y cn pn f2 xl xy xc ps j ja jl jL (rs_M G k D y cn pn g2 sl sy sc pm K kb mj ma ml (T0 ++ T1)))) (fun _ => rfl) (fun _ => rfl) (fun u H locs hP hD hS => ?_)
  have hP : va_P G.1 vwCl (rs_X G q fi D y cn pn f2 xl xy xc ps j ja jl jL (rs_M G k D y cn pn g2 sl sy sc pm K kb mj ma ml (T0 ++ T1))) H := hP
  have hD : va_D (fun q : Nat => s.heap.size ≤ q) (rs_X G q fi D y cn pn f2 xl xy xc ps j ja jl jL (rs_M G k D y cn pn g2 sl sy sc pm K kb mj ma ml (T0 ++ T1))) := hD
  refine lv_icmp_eq (tgt := 1303) hx hb dL_law_284 (by decide) (fun _ => ?_) (fun hc => absurd rfl hc)
  refine W.widen (k := cells + 8) (n := slots + 76) (Nat.le_add_right _ _) (Nat.le_add_right _ _) ?_
  exact nx fi D U y cn pn f2 xl xy xc ps j ja jl jL g2 sl sy sc pm K kb mj ma ml S T0 T1 H locs ls ⟨hD0, hU, hXU, hMU, (by omega), hcn, hpn, e1, e2, e3, s1, s2, s3, (i0.up (Nat.le_add_right _ _)), (i1.up (Nat.le_add_right _ _))⟩ hP hD hS hl
set_option maxHeartbeats 2000000 in
theorem lw_say {p : Program} {l : Launch} {e : Env} {s : State} {m : MethodId} {below : List Frame} {meth : Method} {c : Code} {b L : Nat} {xs : Nat → Int32} {G : rs_G} (C0 : lw_Cx p s m c b L xs G) {N : Nat} (hN : 200000 < N) {cells slots : Nat} (hcs : cells + 8 ≤ 600000 ∧ slots + 76 ≤ 7302250) {i Y : Nat} (hi : i + 5 ≤ L) (hY : Y ≤ 2 ^ 21) {p1 p2 p3 p4 : Int32} (h1 : xs (i + 1) = p1) (h2 : xs (i + 2) = p2) (h3 : xs (i + 3) = p3) (h4 : xs (i + 4) = p4) {q k : Nat → Nat} {Q : State → Prop} {fi : Nat → Option Nat} {D : Nat → Nat} {V : Nat → Nat → Nat} {y : Nat} {cn : Nat} {pn : Nat} {f : Nat → Int32} {xl : Nat → Int32} {xy : Nat → Int32} {xc : Nat → Int32} {ps : Nat → Int32} {j : Nat → Int32} {ja : Nat → Nat → Int32} {jl : Nat → Nat → Int64} {jL : Nat → Int64} {g : Nat → Int32} {sl : Nat → Int32} {sy : Nat → Int32} {sc : Nat → Int32} {pm : Nat → Int32} {K : Nat → Int32} {kb : Nat → Int32} {mj : Nat → Int32} {ma : Nat → Nat → Int32} {ml : Nat → Nat → Int64} {S : Nat → Nat} {T0 : va_W} {T1 : va_W} {H : Heap} {locs : List Loc} {ls : Array Slot} (hI : rs_I G Y D V y cn pn f xl xy xc ps g sl sy sc pm K kb fi S T0 T1) (hP : va_P G.1 vwCl (rs_X G q fi D y cn pn f xl xy xc ps j ja jl jL (rs_M G k D y cn pn g sl sy sc pm K kb mj ma ml (T0 ++ T1))) H) (hD : va_D (fun q : Nat => s.heap.size ≤ q) (rs_X G q fi D y cn pn f xl xy xc ps j ja jl jL (rs_M G k D y cn pn g sl sy sc pm K kb mj ma ml (T0 ++ T1)))) (hS : va_S (fun q : Nat => s.heap.size ≤ q) s.heap H locs) (hl : lv_has ls 4 [(0, .ref b), (1, .ref (q 0)), (2, .ref (k 0)), (3, .int (nI i))]) (nx : lw_Nx p l e s m below meth c b G q k i (Y + 600) (cells + 8) (slots + 76) Q) : W p l e room_1 s m #[Value.ref b] below meth c H locs cells slots Q (F0 m 289 ls []) := by
  obtain ⟨hx, hb, hml, hown, hts, hXs, hbl, hK, hL⟩ := C0
  obtain ⟨hD0, hV, hX, hM, hy, hcn, hpn, e1, e2, e3, s1, s2, s3, i0, i1⟩ := hI
  have hA : ∀ q : Nat, s.heap.size ≤ q → (fun q : Nat => s.heap.size ≤ q) q := fun _ h => h
  have hbA : ¬ (fun q : Nat => s.heap.size ≤ q) b := Nat.not_le.mpr hbl
  have hcs0 : cells ≤ room_1.cells ∧ slots ≤ room_1.slots := ⟨Nat.le_trans (Nat.le_add_right _ 8) hcs.1, Nat.le_trans (Nat.le_add_right _ 76) hcs.2⟩
  obtain ⟨r, S2, c2, f2, g2, hx1, hm1, z1, z2, z3, hc2⟩ := e_say s1 s2 s3 hpn p1
  refine lv_aload_n hx hb dL_law_289 rfl (lv_at hl 1 rfl) ?_
  refine lv_aload_n hx hb dL_law_290 rfl (lv_at hl 0 rfl) ?_
  refine lv_iload_n hx hb dL_law_291 rfl (lv_at hl 3 rfl) ?_
  refine lv_iconst (v := 1) hx hb dL_law_292 (by decide) ?_
  refine lv_iadd hx hb dL_law_293 ?_
  refine rs_sld 1 hx hb hXs hbl hbA hS rfl (by omega) hL h1 dL_law_294 ?_
  refine rs_callVi (As := [.int p1]) (rest := []) (index := 27) ⟨hx, hb, hml, hown, hts⟩ (c_X10_say l G (q 0) (q 1) (q 9) (q 10) (q 12) (q 17) (q 20) (q 23) (q 26) (q 11) (nI pn) ps p1 r (nI c2) f2 hx1) (cwV 1 hts gL_law_X10_say rfl rfl rfl (by decide +kernel) ⟨Nat.le_of_ble_eq_true rfl, Nat.le_of_ble_eq_true rfl⟩) dL_law_295 hK hP hD hS hA [0, 10, 11] rfl (by decide) rfl rfl (q0 := 0) (ci := 10) rfl rfl rfl hl.1 (lv_room (Nat.le_of_ble_eq_true rfl)) hcs0 (fun (u : Unit) => (rs_X G q fi D y cn c2 f xl xy xc f2 j ja jl jL (rs_M G k D y cn pn g sl sy sc pm K kb mj ma ml (T0 ++ T1)))) (fun _ => rfl) (fun _ => rfl) (fun u H locs hP hD hS => ?_)
  have hP : va_P G.1 vwCl (rs_X G q fi D y cn c2 f xl xy xc f2 j ja jl jL (rs_M G k D y cn pn g sl sy sc pm K kb mj ma ml (T0 ++ T1))) H := hP
  have hD : va_D (fun q : Nat => s.heap.size ≤ q) (rs_X G q fi D y cn c2 f xl xy xc f2 j ja jl jL (rs_M G k D y cn pn g sl sy sc pm K kb mj ma ml (T0 ++ T1))) := hD
  refine lv_aload_n hx hb dL_law_298 rfl (lv_at hl 2 rfl) ?_
  refine lv_aload_n hx hb dL_law_299 rfl (lv_at hl 0 rfl) ?_
  refine lv_iload_n hx hb dL_law_300 rfl (lv_at hl 3 rfl) ?_
  refine lv_iconst (v := 1) hx hb dL_law_301 (by decide) ?_
  refine lv_iadd hx hb dL_law_302 ?_
  refine rs_sld 1 hx hb hXs hbl hbA hS rfl (by omega) hL h1 dL_law_303 ?_
  refine rs_callVi (As := [.int p1]) (rest := [.int r]) (index := 31) ⟨hx, hb, hml, hown, hts⟩ (c_X11_say l G (k 0) (k 1) (k 2) (k 3) (k 4) (k 5) (k 6) (k 7) (k 8) (k 9) (k 10) (k 11) (k 12) (k 13) (k 14) (k 15) (k 16) (k 17) (k 18) (k 19) (nI (D 0)) (nI (D 1)) (nI (D 2)) (nI (D 3)) (nI (D 4)) (nI (D 5)) (nI (D 6)) (nI y) (nI cn) (nI pn) (mj 0) (mj 1) (mj 2) (mj 3) (mj 4) (mj 5) (mj 6) (mj 7) (mj 8) (mj 9) pm p1 r (nI c2) g2 hm1) (cwV 1 hts gL_law_X11_say rfl rfl rfl (by decide +kernel) ⟨Nat.le_of_ble_eq_true rfl, Nat.le_of_ble_eq_true rfl⟩) dL_law_304 hK hP hD hS hA [29, 34] rfl (by decide) rfl rfl (q0 := 0) (ci := 11) rfl rfl rfl hl.1 (lv_room (Nat.le_of_ble_eq_true rfl)) hcs0 (fun (u : Unit) => (rs_X G q fi D y cn c2 f xl xy xc f2 j ja jl jL (rs_M G k D y cn c2 g sl sy sc g2 K kb mj ma ml (T0 ++ T1)))) (fun _ => rfl) (fun _ => rfl) (fun u H locs hP hD hS => ?_)
  have hP : va_P G.1 vwCl (rs_X G q fi D y cn c2 f xl xy xc f2 j ja jl jL (rs_M G k D y cn c2 g sl sy sc g2 K kb mj ma ml (T0 ++ T1))) H := hP
  have hD : va_D (fun q : Nat => s.heap.size ≤ q) (rs_X G q fi D y cn c2 f xl xy xc f2 j ja jl jL (rs_M G k D y cn c2 g sl sy sc g2 K kb mj ma ml (T0 ++ T1))) := hD
  refine lv_icmp_eq (tgt := 1303) hx hb dL_law_307 (by decide) (fun _ => ?_) (fun hc => absurd rfl hc)
  refine W.widen (k := cells + 8) (n := slots + 76) (Nat.le_add_right _ _) (Nat.le_add_right _ _) ?_
  exact nx fi D V y cn c2 f xl xy xc f2 j ja jl jL g sl sy sc g2 K kb mj ma ml S2 T0 T1 H locs ls ⟨hD0, hV, hX, hM, (by omega), hcn, hc2, e1, e2, e3, z1, z2, z3, (i0.up (Nat.le_add_right _ _)), (i1.up (Nat.le_add_right _ _))⟩ hP hD hS hl
set_option maxHeartbeats 2000000 in
theorem lw_wipe {p : Program} {l : Launch} {e : Env} {s : State} {m : MethodId} {below : List Frame} {meth : Method} {c : Code} {b L : Nat} {xs : Nat → Int32} {G : rs_G} (C0 : lw_Cx p s m c b L xs G) {N : Nat} (hN : 200000 < N) {cells slots : Nat} (hcs : cells + 8 ≤ 600000 ∧ slots + 76 ≤ 7302250) {i Y : Nat} (hi : i + 5 ≤ L) (hY : Y ≤ 2 ^ 21) {p1 p2 p3 p4 : Int32} (h1 : xs (i + 1) = p1) (h2 : xs (i + 2) = p2) (h3 : xs (i + 3) = p3) (h4 : xs (i + 4) = p4) {q k : Nat → Nat} {Q : State → Prop} {fi : Nat → Option Nat} {D : Nat → Nat} {V : Nat → Nat → Nat} {y : Nat} {cn : Nat} {pn : Nat} {f : Nat → Int32} {xl : Nat → Int32} {xy : Nat → Int32} {xc : Nat → Int32} {ps : Nat → Int32} {j : Nat → Int32} {ja : Nat → Nat → Int32} {jl : Nat → Nat → Int64} {jL : Nat → Int64} {g : Nat → Int32} {sl : Nat → Int32} {sy : Nat → Int32} {sc : Nat → Int32} {pm : Nat → Int32} {K : Nat → Int32} {kb : Nat → Int32} {mj : Nat → Int32} {ma : Nat → Nat → Int32} {ml : Nat → Nat → Int64} {S : Nat → Nat} {T0 : va_W} {T1 : va_W} {H : Heap} {locs : List Loc} {ls : Array Slot} (hI : rs_I G Y D V y cn pn f xl xy xc ps g sl sy sc pm K kb fi S T0 T1) (hP : va_P G.1 vwCl (rs_X G q fi D y cn pn f xl xy xc ps j ja jl jL (rs_M G k D y cn pn g sl sy sc pm K kb mj ma ml (T0 ++ T1))) H) (hD : va_D (fun q : Nat => s.heap.size ≤ q) (rs_X G q fi D y cn pn f xl xy xc ps j ja jl jL (rs_M G k D y cn pn g sl sy sc pm K kb mj ma ml (T0 ++ T1)))) (hS : va_S (fun q : Nat => s.heap.size ≤ q) s.heap H locs) (hl : lv_has ls 4 [(0, .ref b), (1, .ref (q 0)), (2, .ref (k 0)), (3, .int (nI i))]) (nx : lw_Nx p l e s m below meth c b G q k i (Y + 600) (cells + 8) (slots + 76) Q) : W p l e room_1 s m #[Value.ref b] below meth c H locs cells slots Q (F0 m 312 ls []) := by
  obtain ⟨hx, hb, hml, hown, hts, hXs, hbl, hK, hL⟩ := C0
  obtain ⟨hD0, hV, hX, hM, hy, hcn, hpn, e1, e2, e3, s1, s2, s3, i0, i1⟩ := hI
  have hA : ∀ q : Nat, s.heap.size ≤ q → (fun q : Nat => s.heap.size ≤ q) q := fun _ h => h
  have hbA : ¬ (fun q : Nat => s.heap.size ≤ q) b := Nat.not_le.mpr hbl
  have hcs0 : cells ≤ room_1.cells ∧ slots ≤ room_1.slots := ⟨Nat.le_trans (Nat.le_add_right _ 8) hcs.1, Nat.le_trans (Nat.le_add_right _ 76) hcs.2⟩
  obtain ⟨r, hx1, hm1⟩ : ∃ r, f_X10_wipe (nI pn) = some (r, nI 0) ∧ f_X11_wipe (nI pn) = some (r, nI 0) := ⟨_, rfl, rfl⟩
  refine lv_aload_n hx hb dL_law_312 rfl (lv_at hl 1 rfl) ?_
  refine rs_callVi (As := []) (rest := []) (index := 32) ⟨hx, hb, hml, hown, hts⟩ (c_X10_wipe l G (q 0) (q 1) (q 9) (q 10) (q 12) (q 17) (q 20) (q 23) (q 26) (q 11) (nI pn) r (nI 0) hx1) (cwV 0 hts gL_law_X10_wipe rfl rfl rfl (by decide +kernel) ⟨Nat.le_of_ble_eq_true rfl, Nat.le_of_ble_eq_true rfl⟩) dL_law_313 hK hP hD hS hA [0, 10] rfl (by decide) rfl rfl (q0 := 0) (ci := 10) rfl rfl rfl hl.1 (lv_room (Nat.le_of_ble_eq_true rfl)) hcs0 (fun (u : Unit) => (rs_X G q fi D y cn 0 f xl xy xc ps j ja jl jL (rs_M G k D y cn pn g sl sy sc pm K kb mj ma ml (T0 ++ T1)))) (fun _ => rfl) (fun _ => rfl) (fun u H locs hP hD hS => ?_)
  have hP : va_P G.1 vwCl (rs_X G q fi D y cn 0 f xl xy xc ps j ja jl jL (rs_M G k D y cn pn g sl sy sc pm K kb mj ma ml (T0 ++ T1))) H := hP
  have hD : va_D (fun q : Nat => s.heap.size ≤ q) (rs_X G q fi D y cn 0 f xl xy xc ps j ja jl jL (rs_M G k D y cn pn g sl sy sc pm K kb mj ma ml (T0 ++ T1))) := hD
  refine lv_aload_n hx hb dL_law_316 rfl (lv_at hl 2 rfl) ?_
  refine rs_callVi (As := []) (rest := [.int r]) (index := 36) ⟨hx, hb, hml, hown, hts⟩ (c_X11_wipe l G (k 0) (k 1) (k 2) (k 3) (k 4) (k 5) (k 6) (k 7) (k 8) (k 9) (k 10) (k 11) (k 12) (k 13) (k 14) (k 15) (k 16) (k 17) (k 18) (k 19) (nI (D 0)) (nI (D 1)) (nI (D 2)) (nI (D 3)) (nI (D 4)) (nI (D 5)) (nI (D 6)) (nI y) (nI cn) (nI pn) (mj 0) (mj 1) (mj 2) (mj 3) (mj 4) (mj 5) (mj 6) (mj 7) (mj 8) (mj 9) r (nI 0) hm1) (cwV 0 hts gL_law_X11_wipe rfl rfl rfl (by decide +kernel) ⟨Nat.le_of_ble_eq_true rfl, Nat.le_of_ble_eq_true rfl⟩) dL_law_317 hK hP hD hS hA [29] rfl (by decide) rfl rfl (q0 := 0) (ci := 11) rfl rfl rfl hl.1 (lv_room (Nat.le_of_ble_eq_true rfl)) hcs0 (fun (u : Unit) => (rs_X G q fi D y cn 0 f xl xy xc ps j ja jl jL (rs_M G k D y cn 0 g sl sy sc pm K kb mj ma ml (T0 ++ T1)))) (fun _ => rfl) (fun _ => rfl) (fun u H locs hP hD hS => ?_)
  have hP : va_P G.1 vwCl (rs_X G q fi D y cn 0 f xl xy xc ps j ja jl jL (rs_M G k D y cn 0 g sl sy sc pm K kb mj ma ml (T0 ++ T1))) H := hP
  have hD : va_D (fun q : Nat => s.heap.size ≤ q) (rs_X G q fi D y cn 0 f xl xy xc ps j ja jl jL (rs_M G k D y cn 0 g sl sy sc pm K kb mj ma ml (T0 ++ T1))) := hD
  refine lv_icmp_eq (tgt := 1303) hx hb dL_law_320 (by decide) (fun _ => ?_) (fun hc => absurd rfl hc)
  refine W.widen (k := cells + 8) (n := slots + 76) (Nat.le_add_right _ _) (Nat.le_add_right _ _) ?_
  exact nx fi D V y cn 0 f xl xy xc ps j ja jl jL g sl sy sc pm K kb mj ma ml S T0 T1 H locs ls ⟨hD0, hV, hX, hM, (by omega), hcn, (Nat.zero_le _), e1, e2, e3, s1, s2, s3, (i0.up (Nat.le_add_right _ _)), (i1.up (Nat.le_add_right _ _))⟩ hP hD hS hl
set_option maxHeartbeats 2000000 in
theorem lw_fault {p : Program} {l : Launch} {e : Env} {s : State} {m : MethodId} {below : List Frame} {meth : Method} {c : Code} {b L : Nat} {xs : Nat → Int32} {G : rs_G} (C0 : lw_Cx p s m c b L xs G) {N : Nat} (hN : 200000 < N) {cells slots : Nat} (hcs : cells + 8 ≤ 600000 ∧ slots + 76 ≤ 7302250) {i Y : Nat} (hi : i + 5 ≤ L) (hY : Y ≤ 2 ^ 21) {p1 p2 p3 p4 : Int32} (h1 : xs (i + 1) = p1) (h2 : xs (i + 2) = p2) (h3 : xs (i + 3) = p3) (h4 : xs (i + 4) = p4) {q k : Nat → Nat} {Q : State → Prop} {fi : Nat → Option Nat} {D : Nat → Nat} {V : Nat → Nat → Nat} {y : Nat} {cn : Nat} {pn : Nat} {f : Nat → Int32} {xl : Nat → Int32} {xy : Nat → Int32} {xc : Nat → Int32} {ps : Nat → Int32} {j : Nat → Int32} {ja : Nat → Nat → Int32} {jl : Nat → Nat → Int64} {jL : Nat → Int64} {g : Nat → Int32} {sl : Nat → Int32} {sy : Nat → Int32} {sc : Nat → Int32} {pm : Nat → Int32} {K : Nat → Int32} {kb : Nat → Int32} {mj : Nat → Int32} {ma : Nat → Nat → Int32} {ml : Nat → Nat → Int64} {S : Nat → Nat} {T0 : va_W} {T1 : va_W} {H : Heap} {locs : List Loc} {ls : Array Slot} (hI : rs_I G Y D V y cn pn f xl xy xc ps g sl sy sc pm K kb fi S T0 T1) (hP : va_P G.1 vwCl (rs_X G q fi D y cn pn f xl xy xc ps j ja jl jL (rs_M G k D y cn pn g sl sy sc pm K kb mj ma ml (T0 ++ T1))) H) (hD : va_D (fun q : Nat => s.heap.size ≤ q) (rs_X G q fi D y cn pn f xl xy xc ps j ja jl jL (rs_M G k D y cn pn g sl sy sc pm K kb mj ma ml (T0 ++ T1)))) (hS : va_S (fun q : Nat => s.heap.size ≤ q) s.heap H locs) (hl : lv_has ls 4 [(0, .ref b), (1, .ref (q 0)), (2, .ref (k 0)), (3, .int (nI i))]) (nx : lw_Nx p l e s m below meth c b G q k i (Y + 600) (cells + 8) (slots + 76) Q) : W p l e room_1 s m #[Value.ref b] below meth c H locs cells slots Q (F0 m 325 ls []) := by
  obtain ⟨hx, hb, hml, hown, hts, hXs, hbl, hK, hL⟩ := C0
  obtain ⟨hD0, hV, hX, hM, hy, hcn, hpn, e1, e2, e3, s1, s2, s3, i0, i1⟩ := hI
  have hA : ∀ q : Nat, s.heap.size ≤ q → (fun q : Nat => s.heap.size ≤ q) q := fun _ h => h
  have hbA : ¬ (fun q : Nat => s.heap.size ≤ q) b := Nat.not_le.mpr hbl
  have hcs0 : cells ≤ room_1.cells ∧ slots ≤ room_1.slots := ⟨Nat.le_trans (Nat.le_add_right _ 8) hcs.1, Nat.le_trans (Nat.le_add_right _ 76) hcs.2⟩
  obtain ⟨r, n1, w1, w2, w3, w4, hx1, hm1⟩ := e_fault hD0 s1 s2 s3 hpn (N := N) (by omega) (ma 0) (ma 1) (ma 2) (ma 3)
  refine lv_aload_n hx hb dL_law_325 rfl (lv_at hl 1 rfl) ?_
  refine rs_callVi (As := []) (rest := []) (index := 37) ⟨hx, hb, hml, hown, hts⟩ (c_X10_fault l G (q 0) (q 1) (q 9) (q 10) (q 12) (q 17) (q 20) (q 23) (q 26) (q 2) (q 3) (q 5) (q 11) (nI y) (nI (D 0)) (nI (D 1)) (nI (D 2)) (nI (D 3)) (nI (D 4)) (nI (D 5)) (nI (D 6)) (nI pn) ps N r hx1) (cwV 0 hts gL_law_X10_fault rfl rfl rfl (by decide +kernel) ⟨Nat.le_of_ble_eq_true rfl, Nat.le_of_ble_eq_true rfl⟩) dL_law_326 hK hP hD hS hA [0, 1, 2, 10, 11] rfl (by decide) rfl rfl (q0 := 0) (ci := 10) rfl rfl rfl hl.1 (lv_room (Nat.le_of_ble_eq_true rfl)) hcs0 (fun (u : Unit) => (rs_X G q fi D y cn pn f xl xy xc ps j ja jl jL (rs_M G k D y cn pn g sl sy sc pm K kb mj ma ml (T0 ++ T1)))) (fun _ => rfl) (fun _ => rfl) (fun u H locs hP hD hS => ?_)
  have hP : va_P G.1 vwCl (rs_X G q fi D y cn pn f xl xy xc ps j ja jl jL (rs_M G k D y cn pn g sl sy sc pm K kb mj ma ml (T0 ++ T1))) H := hP
  have hD : va_D (fun q : Nat => s.heap.size ≤ q) (rs_X G q fi D y cn pn f xl xy xc ps j ja jl jL (rs_M G k D y cn pn g sl sy sc pm K kb mj ma ml (T0 ++ T1))) := hD
  refine lv_aload_n hx hb dL_law_329 rfl (lv_at hl 2 rfl) ?_
  refine rs_callVi (As := []) (rest := [.int r]) (index := 40) ⟨hx, hb, hml, hown, hts⟩ (c_X11_fault l G (k 0) (k 1) (k 2) (k 3) (k 4) (k 5) (k 6) (k 7) (k 8) (k 9) (k 10) (k 11) (k 12) (k 13) (k 14) (k 15) (k 16) (k 17) (k 18) (k 19) (nI (D 0)) (nI (D 1)) (nI (D 2)) (nI (D 3)) (nI (D 4)) (nI (D 5)) (nI (D 6)) (nI y) (nI cn) (nI pn) (mj 0) (mj 1) (mj 2) (mj 3) (mj 4) (mj 5) (mj 6) (mj 7) (mj 8) (mj 9) pm (ma 0) (ma 1) (ma 2) (ma 3) N r n1 w1 w2 w3 w4 hm1) (cwV 0 hts gL_law_X11_fault rfl rfl rfl (by decide +kernel) ⟨Nat.le_of_ble_eq_true rfl, Nat.le_of_ble_eq_true rfl⟩) dL_law_330 hK hP hD hS hA [29, 34, 35, 36, 37, 38] rfl (by decide) rfl rfl (q0 := 0) (ci := 11) rfl rfl rfl hl.1 (lv_room (Nat.le_of_ble_eq_true rfl)) hcs0 (fun (u : Unit) => (rs_X G q fi D y cn pn f xl xy xc ps j ja jl jL (rs_M G k D y cn pn g sl sy sc pm K kb (rs_ls [n1] mj) (rs_ls [w1, w2, w3, w4] ma) ml (T0 ++ T1)))) (fun _ => rfl) (fun _ => rfl) (fun u H locs hP hD hS => ?_)
  have hP : va_P G.1 vwCl (rs_X G q fi D y cn pn f xl xy xc ps j ja jl jL (rs_M G k D y cn pn g sl sy sc pm K kb (rs_ls [n1] mj) (rs_ls [w1, w2, w3, w4] ma) ml (T0 ++ T1))) H := hP
  have hD : va_D (fun q : Nat => s.heap.size ≤ q) (rs_X G q fi D y cn pn f xl xy xc ps j ja jl jL (rs_M G k D y cn pn g sl sy sc pm K kb (rs_ls [n1] mj) (rs_ls [w1, w2, w3, w4] ma) ml (T0 ++ T1))) := hD
  refine lv_icmp_eq (tgt := 1303) hx hb dL_law_333 (by decide) (fun _ => ?_) (fun hc => absurd rfl hc)
  refine W.widen (k := cells + 8) (n := slots + 76) (Nat.le_add_right _ _) (Nat.le_add_right _ _) ?_
  exact nx fi D V y cn pn f xl xy xc ps j ja jl jL g sl sy sc pm K kb (rs_ls [n1] mj) (rs_ls [w1, w2, w3, w4] ma) ml S T0 T1 H locs ls ⟨hD0, hV, hX, hM, (by omega), hcn, hpn, e1, e2, e3, s1, s2, s3, (i0.up (Nat.le_add_right _ _)), (i1.up (Nat.le_add_right _ _))⟩ hP hD hS hl
