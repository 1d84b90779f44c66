set_option maxHeartbeats 2000000 in
theorem lw_meet {p : Program} {l : Launch} {e : Env} {s : State} {m : MethodId} {below : List Frame} {meth : Method} {c : Code} {b L : Nat} {xs : Nat → Int32} {G : rs_G} (C0 : lw_Cx p s m c b L xs G) {N : Nat} (hN : 200000 < N) {cells slots : Nat} (hcs : cells + 8 ≤ 600000 ∧ slots + 76 ≤ 7302250) {i Y : Nat} (hi : i + 5 ≤ L) (hY : Y ≤ 2 ^ 21) {p1 p2 p3 p4 : Int32} (h1 : xs (i + 1) = p1) (h2 : xs (i + 2) = p2) (h3 : xs (i + 3) = p3) (h4 : xs (i + 4) = p4) {q k : Nat → Nat} {Q : State → Prop} {fi : Nat → Option Nat} {D : Nat → Nat} {V : Nat → Nat → Nat} {y : Nat} {cn : Nat} {pn : Nat} {f : Nat → Int32} {xl : Nat → Int32} {xy : Nat → Int32} {xc : Nat → Int32} {ps : Nat → Int32} {j : Nat → Int32} {ja : Nat → Nat → Int32} {jl : Nat → Nat → Int64} {jL : Nat → Int64} {g : Nat → Int32} {sl : Nat → Int32} {sy : Nat → Int32} {sc : Nat → Int32} {pm : Nat → Int32} {K : Nat → Int32} {kb : Nat → Int32} {mj : Nat → Int32} {ma : Nat → Nat → Int32} {ml : Nat → Nat → Int64} {S : Nat → Nat} {T0 : va_W} {T1 : va_W} {H : Heap} {locs : List Loc} {ls : Array Slot} (hI : rs_I G Y D V y cn pn f xl xy xc ps g sl sy sc pm K kb fi S T0 T1) (hP : va_P G.1 vwCl (rs_X G q fi D y cn pn f xl xy xc ps j ja jl jL (rs_M G k D y cn pn g sl sy sc pm K kb mj ma ml (T0 ++ T1))) H) (hD : va_D (fun q : Nat => s.heap.size ≤ q) (rs_X G q fi D y cn pn f xl xy xc ps j ja jl jL (rs_M G k D y cn pn g sl sy sc pm K kb mj ma ml (T0 ++ T1)))) (hS : va_S (fun q : Nat => s.heap.size ≤ q) s.heap H locs) (hl : lv_has ls 4 [(0, .ref b), (1, .ref (q 0)), (2, .ref (k 0)), (3, .int (nI i))]) (nx : lw_Nx p l e s m below meth c b G q k i (Y + 600) (cells + 8) (slots + 76) Q) : W p l e room_1 s m #[Value.ref b] below meth c H locs cells slots Q (F0 m 913 ls []) := by
  obtain ⟨hx, hb, hml, hown, hts, hXs, hbl, hK, hL⟩ := C0
  obtain ⟨hD0, hV, hX, hM, hy, hcn, hpn, e1, e2, e3, s1, s2, s3, i0, i1⟩ := hI
  have hA : ∀ q : Nat, s.heap.size ≤ q → (fun q : Nat => s.heap.size ≤ q) q := fun _ h => h
  have hbA : ¬ (fun q : Nat => s.heap.size ≤ q) b := Nat.not_le.mpr hbl
  have hcs0 : cells ≤ room_1.cells ∧ slots ≤ room_1.slots := ⟨Nat.le_trans (Nat.le_add_right _ 8) hcs.1, Nat.le_trans (Nat.le_add_right _ 76) hcs.2⟩
  obtain ⟨r, v1, v2, hx1, hm1⟩ := e_meet hD0 (N := N) (by omega) p1 p2 p3 (ml 0) (ml 1)
  refine lv_aload_n hx hb dL_law_913 rfl (lv_at hl 1 rfl) ?_
  refine lv_aload_n hx hb dL_law_914 rfl (lv_at hl 0 rfl) ?_
  refine lv_iload_n hx hb dL_law_915 rfl (lv_at hl 3 rfl) ?_
  refine lv_iconst (v := 1) hx hb dL_law_916 (by decide) ?_
  refine lv_iadd hx hb dL_law_917 ?_
  refine rs_sld 1 hx hb hXs hbl hbA hS rfl (by omega) hL h1 dL_law_918 ?_
  refine lv_aload_n hx hb dL_law_919 rfl (lv_at hl 0 rfl) ?_
  refine lv_iload_n hx hb dL_law_920 rfl (lv_at hl 3 rfl) ?_
  refine lv_iconst (v := 2) hx hb dL_law_921 (by decide) ?_
  refine lv_iadd hx hb dL_law_922 ?_
  refine rs_sld 2 hx hb hXs hbl hbA hS rfl (by omega) hL h2 dL_law_923 ?_
  refine lv_aload_n hx hb dL_law_924 rfl (lv_at hl 0 rfl) ?_
  refine lv_iload_n hx hb dL_law_925 rfl (lv_at hl 3 rfl) ?_
  refine lv_iconst (v := 3) hx hb dL_law_926 (by decide) ?_
  refine lv_iadd hx hb dL_law_927 ?_
  refine rs_sld 3 hx hb hXs hbl hbA hS rfl (by omega) hL h3 dL_law_928 ?_
  refine rs_callVi (As := [.int p1, .int p2, .int p3]) (rest := []) (index := 108) ⟨hx, hb, hml, hown, hts⟩ (c_X10_meet l G (q 0) (q 1) (q 9) (q 10) (q 12) (q 17) (q 20) (q 23) (q 26) (q 2) (q 3) (q 5) (nI y) (nI (D 0)) (nI (D 1)) (nI (D 2)) (nI (D 3)) (nI (D 4)) (nI (D 5)) (nI (D 6)) p1 p2 p3 N r hx1) (cwV 3 hts gL_law_X10_meet rfl rfl rfl (by decide +kernel) ⟨Nat.le_of_ble_eq_true rfl, Nat.le_of_ble_eq_true rfl⟩) dL_law_929 hK hP hD hS hA [0, 1, 2] rfl (by decide) rfl rfl (q0 := 0) (ci := 10) rfl rfl rfl hl.1 (lv_room (Nat.le_of_ble_eq_true rfl)) hcs0 (fun (u : Unit) => (rs_X G q fi D y cn pn f xl xy xc ps j ja jl jL (rs_M G k D y cn pn g sl sy sc pm K kb mj ma ml (T0 ++ T1)))) (fun _ => rfl) (fun _ => rfl) (fun u H locs hP hD hS => ?_)
  have hP : va_P G.1 vwCl (rs_X G q fi D y cn pn f xl xy xc ps j ja jl jL (rs_M G k D y cn pn g sl sy sc pm K kb mj ma ml (T0 ++ T1))) H := hP
  have hD : va_D (fun q : Nat => s.heap.size ≤ q) (rs_X G q fi D y cn pn f xl xy xc ps j ja jl jL (rs_M G k D y cn pn g sl sy sc pm K kb mj ma ml (T0 ++ T1))) := hD
  refine lv_aload_n hx hb dL_law_932 rfl (lv_at hl 2 rfl) ?_
  refine lv_aload_n hx hb dL_law_933 rfl (lv_at hl 0 rfl) ?_
  refine lv_iload_n hx hb dL_law_934 rfl (lv_at hl 3 rfl) ?_
  refine lv_iconst (v := 1) hx hb dL_law_935 (by decide) ?_
  refine lv_iadd hx hb dL_law_936 ?_
  refine rs_sld 1 hx hb hXs hbl hbA hS rfl (by omega) hL h1 dL_law_937 ?_
  refine lv_aload_n hx hb dL_law_938 rfl (lv_at hl 0 rfl) ?_
  refine lv_iload_n hx hb dL_law_939 rfl (lv_at hl 3 rfl) ?_
  refine lv_iconst (v := 2) hx hb dL_law_940 (by decide) ?_
  refine lv_iadd hx hb dL_law_941 ?_
  refine rs_sld 2 hx hb hXs hbl hbA hS rfl (by omega) hL h2 dL_law_942 ?_
  refine lv_aload_n hx hb dL_law_943 rfl (lv_at hl 0 rfl) ?_
  refine lv_iload_n hx hb dL_law_944 rfl (lv_at hl 3 rfl) ?_
  refine lv_iconst (v := 3) hx hb dL_law_945 (by decide) ?_
  refine lv_iadd hx hb dL_law_946 ?_
  refine rs_sld 3 hx hb hXs hbl hbA hS rfl (by omega) hL h3 dL_law_947 ?_
  refine rs_callVi (As := [.int p1, .int p2, .int p3]) (rest := [.int r]) (index := 111) ⟨hx, hb, hml, hown, hts⟩ (c_X11_meet l G (k 0) (k 1) (k 2) (k 3) (k 4) (k 5) (k 6) (k 7) (k 8) (k 9) (k 10) (k 11) (k 12) (k 13) (k 14) (k 15) (k 16) (k 17) (k 18) (k 19) (nI (D 0)) (nI (D 1)) (nI (D 2)) (nI (D 3)) (nI (D 4)) (nI (D 5)) (nI (D 6)) (nI y) (nI cn) (nI pn) (mj 0) (mj 1) (mj 2) (mj 3) (mj 4) (mj 5) (mj 6) (mj 7) (mj 8) (mj 9) (ml 0) (ml 1) p1 p2 p3 N r v1 v2 hm1) (cwV 3 hts gL_law_X11_meet rfl rfl rfl (by decide +kernel) ⟨Nat.le_of_ble_eq_true rfl, Nat.le_of_ble_eq_true rfl⟩) dL_law_948 hK hP hD hS hA [29, 44, 45] rfl (by decide) rfl rfl (q0 := 0) (ci := 11) rfl rfl rfl hl.1 (lv_room (Nat.le_of_ble_eq_true rfl)) hcs0 (fun (u : Unit) => (rs_X G q fi D y cn pn f xl xy xc ps j ja jl jL (rs_M G k D y cn pn g sl sy sc pm K kb mj ma (rs_ls [v1, v2] ml) (T0 ++ T1)))) (fun _ => rfl) (fun _ => rfl) (fun u H locs hP hD hS => ?_)
  have hP : va_P G.1 vwCl (rs_X G q fi D y cn pn f xl xy xc ps j ja jl jL (rs_M G k D y cn pn g sl sy sc pm K kb mj ma (rs_ls [v1, v2] ml) (T0 ++ T1))) H := hP
  have hD : va_D (fun q : Nat => s.heap.size ≤ q) (rs_X G q fi D y cn pn f xl xy xc ps j ja jl jL (rs_M G k D y cn pn g sl sy sc pm K kb mj ma (rs_ls [v1, v2] ml) (T0 ++ T1))) := hD
  refine lv_icmp_eq (tgt := 1303) hx hb dL_law_951 (by decide) (fun _ => ?_) (fun hc => absurd rfl hc)
  refine W.widen (k := cells + 8) (n := slots + 76) (Nat.le_add_right _ _) (Nat.le_add_right _ _) ?_
  exact nx fi D V y cn pn f xl xy xc ps j ja jl jL g sl sy sc pm K kb mj ma (rs_ls [v1, v2] ml) S T0 T1 H locs ls ⟨hD0, hV, hX, hM, (by omega), hcn, hpn, e1, e2, e3, s1, s2, s3, (i0.up (Nat.le_add_right _ _)), (i1.up (Nat.le_add_right _ _))⟩ hP hD hS hl
set_option maxHeartbeats 2000000 in
theorem lw_seen0 {p : Program} {l : Launch} {e : Env} {s : State} {m : MethodId} {below : List Frame} {meth : Method} {c : Code} {b L : Nat} {xs : Nat → Int32} {G : rs_G} (C0 : lw_Cx p s m c b L xs G) {N : Nat} (hN : 200000 < N) {cells slots : Nat} (hcs : cells + 8 ≤ 600000 ∧ slots + 76 ≤ 7302250) {i Y : Nat} (hi : i + 5 ≤ L) (hY : Y ≤ 2 ^ 21) {p1 p2 p3 p4 : Int32} (h1 : xs (i + 1) = p1) (h2 : xs (i + 2) = p2) (h3 : xs (i + 3) = p3) (h4 : xs (i + 4) = p4) {q k : Nat → Nat} {Q : State → Prop} (hz : p3 = 0) {fi : Nat → Option Nat} {D : Nat → Nat} {V : Nat → Nat → Nat} {y : Nat} {cn : Nat} {pn : Nat} {f : Nat → Int32} {xl : Nat → Int32} {xy : Nat → Int32} {xc : Nat → Int32} {ps : Nat → Int32} {j : Nat → Int32} {ja : Nat → Nat → Int32} {jl : Nat → Nat → Int64} {jL : Nat → Int64} {g : Nat → Int32} {sl : Nat → Int32} {sy : Nat → Int32} {sc : Nat → Int32} {pm : Nat → Int32} {K : Nat → Int32} {kb : Nat → Int32} {mj : Nat → Int32} {ma : Nat → Nat → Int32} {ml : Nat → Nat → Int64} {S : Nat → Nat} {T0 : va_W} {T1 : va_W} {H : Heap} {locs : List Loc} {ls : Array Slot} (hI : rs_I G Y D V y cn pn f xl xy xc ps g sl sy sc pm K kb fi S T0 T1) (hP : va_P G.1 vwCl (rs_X G q fi D y cn pn f xl xy xc ps j ja jl jL (rs_M G k D y cn pn g sl sy sc pm K kb mj ma ml (T0 ++ T1))) H) (hD : va_D (fun q : Nat => s.heap.size ≤ q) (rs_X G q fi D y cn pn f xl xy xc ps j ja jl jL (rs_M G k D y cn pn g sl sy sc pm K kb mj ma ml (T0 ++ T1)))) (hS : va_S (fun q : Nat => s.heap.size ≤ q) s.heap H locs) (hl : lv_has ls 4 [(0, .ref b), (1, .ref (q 0)), (2, .ref (k 0)), (3, .int (nI i))]) (nx : lw_Nx p l e s m below meth c b G q k i (Y + 600) (cells + 8) (slots + 76) Q) : W p l e room_1 s m #[Value.ref b] below meth c H locs cells slots Q (F0 m 956 ls []) := by
  obtain ⟨hx, hb, hml, hown, hts, hXs, hbl, hK, hL⟩ := C0
  obtain ⟨hD0, hV, hX, hM, hy, hcn, hpn, e1, e2, e3, s1, s2, s3, i0, i1⟩ := hI
  have hA : ∀ q : Nat, s.heap.size ≤ q → (fun q : Nat => s.heap.size ≤ q) q := fun _ h => h
  have hbA : ¬ (fun q : Nat => s.heap.size ≤ q) b := Nat.not_le.mpr hbl
  have hcs0 : cells ≤ room_1.cells ∧ slots ≤ room_1.slots := ⟨Nat.le_trans (Nat.le_add_right _ 8) hcs.1, Nat.le_trans (Nat.le_add_right _ 76) hcs.2⟩
  obtain ⟨r, c2, a1, a2, a3, b1, b2, b3, hx1, hm1, hc2, z1, z2, z3⟩ := e_seen hD0 hcn e1 e2 e3 p1 p2 0
  refine lv_aload_n hx hb dL_law_956 rfl (lv_at hl 1 rfl) ?_
  refine lv_aload_n hx hb dL_law_957 rfl (lv_at hl 0 rfl) ?_
  refine lv_iload_n hx hb dL_law_958 rfl (lv_at hl 3 rfl) ?_
  refine lv_iconst (v := 1) hx hb dL_law_959 (by decide) ?_
  refine lv_iadd hx hb dL_law_960 ?_
  refine rs_sld 1 hx hb hXs hbl hbA hS rfl (by omega) hL h1 dL_law_961 ?_
  refine lv_aload_n hx hb dL_law_962 rfl (lv_at hl 0 rfl) ?_
  refine lv_iload_n hx hb dL_law_963 rfl (lv_at hl 3 rfl) ?_
  refine lv_iconst (v := 2) hx hb dL_law_964 (by decide) ?_
  refine lv_iadd hx hb dL_law_965 ?_
  refine rs_sld 2 hx hb hXs hbl hbA hS rfl (by omega) hL h2 dL_law_966 ?_
  refine lv_aload_n hx hb dL_law_967 rfl (lv_at hl 0 rfl) ?_
  refine lv_iload_n hx hb dL_law_968 rfl (lv_at hl 3 rfl) ?_
  refine lv_iconst (v := 3) hx hb dL_law_969 (by decide) ?_
  refine lv_iadd hx hb dL_law_970 ?_
  refine rs_sld 3 hx hb hXs hbl hbA hS rfl (by omega) hL h3 dL_law_971 ?_
  refine lv_if_eq (tgt := 979) hx hb dL_law_972 (by decide) (fun _ => ?_) (fun hc => absurd hz hc)
  refine lv_iconst (v := 0) hx hb dL_law_979 (by decide) ?_
  refine rs_callVi (As := [.int p1, .int p2, .int 0]) (rest := []) (index := 112) ⟨hx, hb, hml, hown, hts⟩ (c_X10_seen l G (q 0) (q 1) (q 9) (q 10) (q 12) (q 17) (q 20) (q 23) (q 26) (q 2) (q 3) (q 5) (q 6) (q 7) (q 8) (nI y) (nI (D 0)) (nI (D 1)) (nI (D 2)) (nI (D 3)) (nI (D 4)) (nI (D 5)) (nI (D 6)) (nI cn) xl xy xc p1 p2 0 r (nI c2) a1 a2 a3 hx1) (cwV 3 hts gL_law_X10_seen rfl rfl rfl (by decide +kernel) ⟨Nat.le_of_ble_eq_true rfl, Nat.le_of_ble_eq_true rfl⟩) dL_law_980 hK hP hD hS hA [0, 1, 2, 5, 6, 7, 8] rfl (by decide) rfl rfl (q0 := 0) (ci := 10) rfl rfl rfl hl.1 (lv_room (Nat.le_of_ble_eq_true rfl)) hcs0 (fun (u : Unit) => (rs_X G q fi D y c2 pn f a1 a2 a3 ps j ja jl jL (rs_M G k D y cn pn g sl sy sc pm K kb mj ma ml (T0 ++ T1)))) (fun _ => rfl) (fun _ => rfl) (fun u H locs hP hD hS => ?_)
  have hP : va_P G.1 vwCl (rs_X G q fi D y c2 pn f a1 a2 a3 ps j ja jl jL (rs_M G k D y cn pn g sl sy sc pm K kb mj ma ml (T0 ++ T1))) H := hP
  have hD : va_D (fun q : Nat => s.heap.size ≤ q) (rs_X G q fi D y c2 pn f a1 a2 a3 ps j ja jl jL (rs_M G k D y cn pn g sl sy sc pm K kb mj ma ml (T0 ++ T1))) := hD
  refine lv_aload_n hx hb dL_law_983 rfl (lv_at hl 2 rfl) ?_
  refine lv_aload_n hx hb dL_law_984 rfl (lv_at hl 0 rfl) ?_
  refine lv_iload_n hx hb dL_law_985 rfl (lv_at hl 3 rfl) ?_
  refine lv_iconst (v := 1) hx hb dL_law_986 (by decide) ?_
  refine lv_iadd hx hb dL_law_987 ?_
  refine rs_sld 1 hx hb hXs hbl hbA hS rfl (by omega) hL h1 dL_law_988 ?_
  refine lv_aload_n hx hb dL_law_989 rfl (lv_at hl 0 rfl) ?_
  refine lv_iload_n hx hb dL_law_990 rfl (lv_at hl 3 rfl) ?_
  refine lv_iconst (v := 2) hx hb dL_law_991 (by decide) ?_
  refine lv_iadd hx hb dL_law_992 ?_
  refine rs_sld 2 hx hb hXs hbl hbA hS rfl (by omega) hL h2 dL_law_993 ?_
  refine lv_aload_n hx hb dL_law_994 rfl (lv_at hl 0 rfl) ?_
  refine lv_iload_n hx hb dL_law_995 rfl (lv_at hl 3 rfl) ?_
  refine lv_iconst (v := 3) hx hb dL_law_996 (by decide) ?_
  refine lv_iadd hx hb dL_law_997 ?_
  refine rs_sld 3 hx hb hXs hbl hbA hS rfl (by omega) hL h3 dL_law_998 ?_
  refine lv_if_eq (tgt := 1006) hx hb dL_law_999 (by decide) (fun _ => ?_) (fun hc => absurd hz hc)
  refine lv_iconst (v := 0) hx hb dL_law_1006 (by decide) ?_
  refine rs_callVi (As := [.int p1, .int p2, .int 0]) (rest := [.int r]) (index := 115) ⟨hx, hb, hml, hown, hts⟩ (c_X11_seen l G (k 0) (k 1) (k 2) (k 3) (k 4) (k 5) (k 6) (k 7) (k 8) (k 9) (k 10) (k 11) (k 12) (k 13) (k 14) (k 15) (k 16) (k 17) (k 18) (k 19) (nI (D 0)) (nI (D 1)) (nI (D 2)) (nI (D 3)) (nI (D 4)) (nI (D 5)) (nI (D 6)) (nI y) (nI cn) (nI pn) (mj 0) (mj 1) (mj 2) (mj 3) (mj 4) (mj 5) (mj 6) (mj 7) (mj 8) (mj 9) sl sy sc p1 p2 0 r (nI c2) b1 b2 b3 hm1) (cwV 3 hts gL_law_X11_seen rfl rfl rfl (by decide +kernel) ⟨Nat.le_of_ble_eq_true rfl, Nat.le_of_ble_eq_true rfl⟩) dL_law_1007 hK hP hD hS hA [29, 31, 32, 33] rfl (by decide) rfl rfl (q0 := 0) (ci := 11) rfl rfl rfl hl.1 (lv_room (Nat.le_of_ble_eq_true rfl)) hcs0 (fun (u : Unit) => (rs_X G q fi D y c2 pn f a1 a2 a3 ps j ja jl jL (rs_M G k D y c2 pn g b1 b2 b3 pm K kb mj ma ml (T0 ++ T1)))) (fun _ => rfl) (fun _ => rfl) (fun u H locs hP hD hS => ?_)
  have hP : va_P G.1 vwCl (rs_X G q fi D y c2 pn f a1 a2 a3 ps j ja jl jL (rs_M G k D y c2 pn g b1 b2 b3 pm K kb mj ma ml (T0 ++ T1))) H := hP
  have hD : va_D (fun q : Nat => s.heap.size ≤ q) (rs_X G q fi D y c2 pn f a1 a2 a3 ps j ja jl jL (rs_M G k D y c2 pn g b1 b2 b3 pm K kb mj ma ml (T0 ++ T1))) := hD
  refine lv_icmp_eq (tgt := 1303) hx hb dL_law_1010 (by decide) (fun _ => ?_) (fun hc => absurd rfl hc)
  refine W.widen (k := cells + 8) (n := slots + 76) (Nat.le_add_right _ _) (Nat.le_add_right _ _) ?_
  exact nx fi D V y c2 pn f a1 a2 a3 ps j ja jl jL g b1 b2 b3 pm K kb mj ma ml S T0 T1 H locs ls ⟨hD0, hV, hX, hM, (by omega), hc2, hpn, z1, z2, z3, s1, s2, s3, (i0.up (Nat.le_add_right _ _)), (i1.up (Nat.le_add_right _ _))⟩ hP hD hS hl
set_option maxHeartbeats 2000000 in
theorem lw_seen1 {p : Program} {l : Launch} {e : Env} {s : State} {m : MethodId} {below : List Frame} {meth : Method} {c : Code} {b L : Nat} {xs : Nat → Int32} {G : rs_G} (C0 : lw_Cx p s m c b L xs G) {N : Nat} (hN : 200000 < N) {cells slots : Nat} (hcs : cells + 8 ≤ 600000 ∧ slots + 76 ≤ 7302250) {i Y : Nat} (hi : i + 5 ≤ L) (hY : Y ≤ 2 ^ 21) {p1 p2 p3 p4 : Int32} (h1 : xs (i + 1) = p1) (h2 : xs (i + 2) = p2) (h3 : xs (i + 3) = p3) (h4 : xs (i + 4) = p4) {q k : Nat → Nat} {Q : State → Prop} (hz : ¬ p3 = 0) {fi : Nat → Option Nat} {D : Nat → Nat} {V : Nat → Nat → Nat} {y : Nat} {cn : Nat} {pn : Nat} {f : Nat → Int32} {xl : Nat → Int32} {xy : Nat → Int32} {xc : Nat → Int32} {ps : Nat → Int32} {j : Nat → Int32} {ja : Nat → Nat → Int32} {jl : Nat → Nat → Int64} {jL : Nat → Int64} {g : Nat → Int32} {sl : Nat → Int32} {sy : Nat → Int32} {sc : Nat → Int32} {pm : Nat → Int32} {K : Nat → Int32} {kb : Nat → Int32} {mj : Nat → Int32} {ma : Nat → Nat → Int32} {ml : Nat → Nat → Int64} {S : Nat → Nat} {T0 : va_W} {T1 : va_W} {H : Heap} {locs : List Loc} {ls : Array Slot} (hI : rs_I G Y D V y cn pn f xl xy xc ps g sl sy sc pm K kb fi S T0 T1) (hP : va_P G.1 vwCl (rs_X G q fi D y cn pn f xl xy xc ps j ja jl jL (rs_M G k D y cn pn g sl sy sc pm K kb mj ma ml (T0 ++ T1))) H) (hD : va_D (fun q : Nat => s.heap.size ≤ q) (rs_X G q fi D y cn pn f xl xy xc ps j ja jl jL (rs_M G k D y cn pn g sl sy sc pm K kb mj ma ml (T0 ++ T1)))) (hS : va_S (fun q : Nat => s.heap.size ≤ q) s.heap H locs) (hl : lv_has ls 4 [(0, .ref b), (1, .ref (q 0)), (2, .ref (k 0)), (3, .int (nI i))]) (nx : lw_Nx p l e s m below meth c b G q k i (Y + 600) (cells + 8) (slots + 76) Q) : W p l e room_1 s m #[Value.ref b] below meth c H locs cells slots Q (F0 m 956 ls []) := by
  obtain ⟨hx, hb, hml, hown, hts, hXs, hbl, hK, hL⟩ := C0
  obtain ⟨hD0, hV, hX, hM, hy, hcn, hpn, e1, e2, e3, s1, s2, s3, i0, i1⟩ := hI
  have hA : ∀ q : Nat, s.heap.size ≤ q → (fun q : Nat => s.heap.size ≤ q) q := fun _ h => h
  have hbA : ¬ (fun q : Nat => s.heap.size ≤ q) b := Nat.not_le.mpr hbl
  have hcs0 : cells ≤ room_1.cells ∧ slots ≤ room_1.slots := ⟨Nat.le_trans (Nat.le_add_right _ 8) hcs.1, Nat.le_trans (Nat.le_add_right _ 76) hcs.2⟩
  obtain ⟨r, c2, a1, a2, a3, b1, b2, b3, hx1, hm1, hc2, z1, z2, z3⟩ := e_seen hD0 hcn e1 e2 e3 p1 p2 1
  refine lv_aload_n hx hb dL_law_956 rfl (lv_at hl 1 rfl) ?_
  refine lv_aload_n hx hb dL_law_957 rfl (lv_at hl 0 rfl) ?_
  refine lv_iload_n hx hb dL_law_958 rfl (lv_at hl 3 rfl) ?_
  refine lv_iconst (v := 1) hx hb dL_law_959 (by decide) ?_
  refine lv_iadd hx hb dL_law_960 ?_
  refine rs_sld 1 hx hb hXs hbl hbA hS rfl (by omega) hL h1 dL_law_961 ?_
  refine lv_aload_n hx hb dL_law_962 rfl (lv_at hl 0 rfl) ?_
  refine lv_iload_n hx hb dL_law_963 rfl (lv_at hl 3 rfl) ?_
  refine lv_iconst (v := 2) hx hb dL_law_964 (by decide) ?_
  refine lv_iadd hx hb dL_law_965 ?_
  refine rs_sld 2 hx hb hXs hbl hbA hS rfl (by omega) hL h2 dL_law_966 ?_
  refine lv_aload_n hx hb dL_law_967 rfl (lv_at hl 0 rfl) ?_
  refine lv_iload_n hx hb dL_law_968 rfl (lv_at hl 3 rfl) ?_
  refine lv_iconst (v := 3) hx hb dL_law_969 (by decide) ?_
  refine lv_iadd hx hb dL_law_970 ?_
  refine rs_sld 3 hx hb hXs hbl hbA hS rfl (by omega) hL h3 dL_law_971 ?_
  refine lv_if_eq (tgt := 979) hx hb dL_law_972 (by decide) (fun hc => absurd hc hz) (fun _ => ?_)
  refine lv_iconst (v := 1) hx hb dL_law_975 (by decide) ?_
  refine lv_goto (tgt := 980) hx hb dL_law_976 (by decide) ?_
  refine rs_callVi (As := [.int p1, .int p2, .int 1]) (rest := []) (index := 112) ⟨hx, hb, hml, hown, hts⟩ (c_X10_seen l G (q 0) (q 1) (q 9) (q 10) (q 12) (q 17) (q 20) (q 23) (q 26) (q 2) (q 3) (q 5) (q 6) (q 7) (q 8) (nI y) (nI (D 0)) (nI (D 1)) (nI (D 2)) (nI (D 3)) (nI (D 4)) (nI (D 5)) (nI (D 6)) (nI cn) xl xy xc p1 p2 1 r (nI c2) a1 a2 a3 hx1) (cwV 3 hts gL_law_X10_seen rfl rfl rfl (by decide +kernel) ⟨Nat.le_of_ble_eq_true rfl, Nat.le_of_ble_eq_true rfl⟩) dL_law_980 hK hP hD hS hA [0, 1, 2, 5, 6, 7, 8] rfl (by decide) rfl rfl (q0 := 0) (ci := 10) rfl rfl rfl hl.1 (lv_room (Nat.le_of_ble_eq_true rfl)) hcs0 (fun (u : Unit) => (rs_X G q fi D y c2 pn f a1 a2 a3 ps j ja jl jL (rs_M G k D y cn pn g sl sy sc pm K kb mj ma ml (T0 ++ T1)))) (fun _ => rfl) (fun _ => rfl) (fun u H locs hP hD hS => ?_)
  have hP : va_P G.1 vwCl (rs_X G q fi D y c2 pn f a1 a2 a3 ps j ja jl jL (rs_M G k D y cn pn g sl sy sc pm K kb mj ma ml (T0 ++ T1))) H := hP
  have hD : va_D (fun q : Nat => s.heap.size ≤ q) (rs_X G q fi D y c2 pn f a1 a2 a3 ps j ja jl jL (rs_M G k D y cn pn g sl sy sc pm K kb mj ma ml (T0 ++ T1))) := hD
  refine lv_aload_n hx hb dL_law_983 rfl (lv_at hl 2 rfl) ?_
  refine lv_aload_n hx hb dL_law_984 rfl (lv_at hl 0 rfl) ?_
  refine lv_iload_n hx hb dL_law_985 rfl (lv_at hl 3 rfl) ?_
  refine lv_iconst (v := 1) hx hb dL_law_986 (by decide) ?_
  refine lv_iadd hx hb dL_law_987 ?_
  refine rs_sld 1 hx hb hXs hbl hbA hS rfl (by omega) hL h1 dL_law_988 ?_
  refine lv_aload_n hx hb dL_law_989 rfl (lv_at hl 0 rfl) ?_
  refine lv_iload_n hx hb dL_law_990 rfl (lv_at hl 3 rfl) ?_
  refine lv_iconst (v := 2) hx hb dL_law_991 (by decide) ?_
  refine lv_iadd hx hb dL_law_992 ?_
  refine rs_sld 2 hx hb hXs hbl hbA hS rfl (by omega) hL h2 dL_law_993 ?_
  refine lv_aload_n hx hb dL_law_994 rfl (lv_at hl 0 rfl) ?_
  refine lv_iload_n hx hb dL_law_995 rfl (lv_at hl 3 rfl) ?_
  refine lv_iconst (v := 3) hx hb dL_law_996 (by decide) ?_
  refine lv_iadd hx hb dL_law_997 ?_
  refine rs_sld 3 hx hb hXs hbl hbA hS rfl (by omega) hL h3 dL_law_998 ?_
  refine lv_if_eq (tgt := 1006) hx hb dL_law_999 (by decide) (fun hc => absurd hc hz) (fun _ => ?_)
  refine lv_iconst (v := 1) hx hb dL_law_1002 (by decide) ?_
  refine lv_goto (tgt := 1007) hx hb dL_law_1003 (by decide) ?_
  refine rs_callVi (As := [.int p1, .int p2, .int 1]) (rest := [.int r]) (index := 115) ⟨hx, hb, hml, hown, hts⟩ (c_X11_seen l G (k 0) (k 1) (k 2) (k 3) (k 4) (k 5) (k 6) (k 7) (k 8) (k 9) (k 10) (k 11) (k 12) (k 13) (k 14) (k 15) (k 16) (k 17) (k 18) (k 19) (nI (D 0)) (nI (D 1)) (nI (D 2)) (nI (D 3)) (nI (D 4)) (nI (D 5)) (nI (D 6)) (nI y) (nI cn) (nI pn) (mj 0) (mj 1) (mj 2) (mj 3) (mj 4) (mj 5) (mj 6) (mj 7) (mj 8) (mj 9) sl sy sc p1 p2 1 r (nI c2) b1 b2 b3 hm1) (cwV 3 hts gL_law_X11_seen rfl rfl rfl (by decide +kernel) ⟨Nat.le_of_ble_eq_true rfl, Nat.le_of_ble_eq_true rfl⟩) dL_law_1007 hK hP hD hS hA [29, 31, 32, 33] rfl (by decide) rfl rfl (q0 := 0) (ci := 11) rfl rfl rfl hl.1 (lv_room (Nat.le_of_ble_eq_true rfl)) hcs0 (fun (u : Unit) => (rs_X G q fi D y c2 pn f a1 a2 a3 ps j ja jl jL (rs_M G k D y c2 pn g b1 b2 b3 pm K kb mj ma ml (T0 ++ T1)))) (fun _ => rfl) (fun _ => rfl) (fun u H locs hP hD hS => ?_)
  have hP : va_P G.1 vwCl (rs_X G q fi D y c2 pn f a1 a2 a3 ps j ja jl jL (rs_M G k D y c2 pn g b1 b2 b3 pm K kb mj ma ml (T0 ++ T1))) H := hP
  have hD : va_D (fun q : Nat => s.heap.size ≤ q) (rs_X G q fi D y c2 pn f a1 a2 a3 ps j ja jl jL (rs_M G k D y c2 pn g b1 b2 b3 pm K kb mj ma ml (T0 ++ T1))) := hD
  refine lv_icmp_eq (tgt := 1303) hx hb dL_law_1010 (by decide) (fun _ => ?_) (fun hc => absurd rfl hc)
  refine W.widen (k := cells + 8) (n := slots + 76) (Nat.le_add_right _ _) (Nat.le_add_right _ _) ?_
  exact nx fi D V y c2 pn f a1 a2 a3 ps j ja jl jL g b1 b2 b3 pm K kb mj ma ml S T0 T1 H locs ls ⟨hD0, hV, hX, hM, (by omega), hc2, hpn, z1, z2, z3, s1, s2, s3, (i0.up (Nat.le_add_right _ _)), (i1.up (Nat.le_add_right _ _))⟩ hP hD hS hl
set_option maxHeartbeats 2000000 in
theorem lw_forget {p : Program} {l : Launch} {e : Env} {s : State} {m : MethodId} {below : List Frame} {meth : Method} {c : Code} {b L : Nat} {xs : Nat → Int32} {G : rs_G} (C0 : lw_Cx p s m c b L xs G) {N : Nat} (hN : 200000 < N) {cells slots : Nat} (hcs : cells + 8 ≤ 600000 ∧ slots + 76 ≤ 7302250) {i Y : Nat} (hi : i + 5 ≤ L) (hY : Y ≤ 2 ^ 21) {p1 p2 p3 p4 : Int32} (h1 : xs (i + 1) = p1) (h2 : xs (i + 2) = p2) (h3 : xs (i + 3) = p3) (h4 : xs (i + 4) = p4) {q k : Nat → Nat} {Q : State → Prop} {fi : Nat → Option Nat} {D : Nat → Nat} {V : Nat → Nat → Nat} {y : Nat} {cn : Nat} {pn : Nat} {f : Nat → Int32} {xl : Nat → Int32} {xy : Nat → Int32} {xc : Nat → Int32} {ps : Nat → Int32} {j : Nat → Int32} {ja : Nat → Nat → Int32} {jl : Nat → Nat → Int64} {jL : Nat → Int64} {g : Nat → Int32} {sl : Nat → Int32} {sy : Nat → Int32} {sc : Nat → Int32} {pm : Nat → Int32} {K : Nat → Int32} {kb : Nat → Int32} {mj : Nat → Int32} {ma : Nat → Nat → Int32} {ml : Nat → Nat → Int64} {S : Nat → Nat} {T0 : va_W} {T1 : va_W} {H : Heap} {locs : List Loc} {ls : Array Slot} (hI : rs_I G Y D V y cn pn f xl xy xc ps g sl sy sc pm K kb fi S T0 T1) (hP : va_P G.1 vwCl (rs_X G q fi D y cn pn f xl xy xc ps j ja jl jL (rs_M G k D y cn pn g sl sy sc pm K kb mj ma ml (T0 ++ T1))) H) (hD : va_D (fun q : Nat => s.heap.size ≤ q) (rs_X G q fi D y cn pn f xl xy xc ps j ja jl jL (rs_M G k D y cn pn g sl sy sc pm K kb mj ma ml (T0 ++ T1)))) (hS : va_S (fun q : Nat => s.heap.size ≤ q) s.heap H locs) (hl : lv_has ls 4 [(0, .ref b), (1, .ref (q 0)), (2, .ref (k 0)), (3, .int (nI i))]) (nx : lw_Nx p l e s m below meth c b G q k i (Y + 600) (cells + 8) (slots + 76) Q) : W p l e room_1 s m #[Value.ref b] below meth c H locs cells slots Q (F0 m 1015 ls []) := by
  obtain ⟨hx, hb, hml, hown, hts, hXs, hbl, hK, hL⟩ := C0
  obtain ⟨hD0, hV, hX, hM, hy, hcn, hpn, e1, e2, e3, s1, s2, s3, i0, i1⟩ := hI
  have hA : ∀ q : Nat, s.heap.size ≤ q → (fun q : Nat => s.heap.size ≤ q) q := fun _ h => h
  have hbA : ¬ (fun q : Nat => s.heap.size ≤ q) b := Nat.not_le.mpr hbl
  have hcs0 : cells ≤ room_1.cells ∧ slots ≤ room_1.slots := ⟨Nat.le_trans (Nat.le_add_right _ 8) hcs.1, Nat.le_trans (Nat.le_add_right _ 76) hcs.2⟩
  obtain ⟨r, hx1, hm1⟩ : ∃ r, f_X10_forget (nI cn) = some (r, nI 0) ∧ f_X11_forget (nI cn) = some (r, nI 0) := ⟨_, rfl, rfl⟩
  refine lv_aload_n hx hb dL_law_1015 rfl (lv_at hl 1 rfl) ?_
  refine rs_callVi (As := []) (rest := []) (index := 116) ⟨hx, hb, hml, hown, hts⟩ (c_X10_forget l G (q 0) (q 1) (q 9) (q 10) (q 12) (q 17) (q 20) (q 23) (q 26) (q 2) (q 3) (q 5) (q 6) (q 7) (q 8) (nI y) (nI cn) r (nI 0) hx1) (cwV 0 hts gL_law_X10_forget rfl rfl rfl (by decide +kernel) ⟨Nat.le_of_ble_eq_true rfl, Nat.le_of_ble_eq_true rfl⟩) dL_law_1016 hK hP hD hS hA [0, 1, 5] rfl (by decide) rfl rfl (q0 := 0) (ci := 10) rfl rfl rfl hl.1 (lv_room (Nat.le_of_ble_eq_true rfl)) hcs0 (fun (u : Unit) => (rs_X G q fi D y 0 pn f xl xy xc ps j ja jl jL (rs_M G k D y cn pn g sl sy sc pm K kb mj ma ml (T0 ++ T1)))) (fun _ => rfl) (fun _ => rfl) (fun u H locs hP hD hS => ?_)
  have hP : va_P G.1 vwCl (rs_X G q fi D y 0 pn f xl xy xc ps j ja jl jL (rs_M G k D y cn pn g sl sy sc pm K kb mj ma ml (T0 ++ T1))) H := hP
  have hD : va_D (fun q : Nat => s.heap.size ≤ q) (rs_X G q fi D y 0 pn f xl xy xc ps j ja jl jL (rs_M G k D y cn pn g sl sy sc pm K kb mj ma ml (T0 ++ T1))) := hD
  refine lv_aload_n hx hb dL_law_1019 rfl (lv_at hl 2 rfl) ?_
  refine rs_callVi (As := []) (rest := [.int r]) (index := 119) ⟨hx, hb, hml, hown, hts⟩ (c_X11_forget l G (k 0) (k 1) (k 2) (k 3) (k 4) (k 5) (k 6) (k 7) (k 8) (k 9) (k 10) (k 11) (k 12) (k 13) (k 14) (k 15) (k 16) (k 17) (k 18) (k 19) (nI (D 0)) (nI (D 1)) (nI (D 2)) (nI (D 3)) (nI (D 4)) (nI (D 5)) (nI (D 6)) (nI y) (nI cn) (nI pn) (mj 0) (mj 1) (mj 2) (mj 3) (mj 4) (mj 5) (mj 6) (mj 7) (mj 8) (mj 9) r (nI 0) hm1) (cwV 0 hts gL_law_X11_forget rfl rfl rfl (by decide +kernel) ⟨Nat.le_of_ble_eq_true rfl, Nat.le_of_ble_eq_true rfl⟩) dL_law_1020 hK hP hD hS hA [29] rfl (by decide) rfl rfl (q0 := 0) (ci := 11) rfl rfl rfl hl.1 (lv_room (Nat.le_of_ble_eq_true rfl)) hcs0 (fun (u : Unit) => (rs_X G q fi D y 0 pn f xl xy xc ps j ja jl jL (rs_M G k D y 0 pn g sl sy sc pm K kb mj ma ml (T0 ++ T1)))) (fun _ => rfl) (fun _ => rfl) (fun u H locs hP hD hS => ?_)
  have hP : va_P G.1 vwCl (rs_X G q fi D y 0 pn f xl xy xc ps j ja jl jL (rs_M G k D y 0 pn g sl sy sc pm K kb mj ma ml (T0 ++ T1))) H := hP
  have hD : va_D (fun q : Nat => s.heap.size ≤ q) (rs_X G q fi D y 0 pn f xl xy xc ps j ja jl jL (rs_M G k D y 0 pn g sl sy sc pm K kb mj ma ml (T0 ++ T1))) := hD
  refine lv_icmp_eq (tgt := 1303) hx hb dL_law_1023 (by decide) (fun _ => ?_) (fun hc => absurd rfl hc)
  refine W.widen (k := cells + 8) (n := slots + 76) (Nat.le_add_right _ _) (Nat.le_add_right _ _) ?_
  exact nx fi D V y 0 pn f xl xy xc ps j ja jl jL g sl sy sc pm K kb mj ma ml S T0 T1 H locs ls ⟨hD0, hV, hX, hM, (by omega), (Nat.zero_le _), hpn, e1, e2, e3, s1, s2, s3, (i0.up (Nat.le_add_right _ _)), (i1.up (Nat.le_add_right _ _))⟩ hP hD hS hl
set_option maxHeartbeats 2000000 in
theorem lw_laws {p : Program} {l : Launch} {e : Env} {s : State} {m : MethodId} {below : List Frame} {meth : Method} {c : Code} {b L : Nat} {xs : Nat → Int32} {G : rs_G} (C0 : lw_Cx p s m c b L xs G) {N : Nat} (hN : 200000 < N) {cells slots : Nat} (hcs : cells + 8 ≤ 600000 ∧ slots + 76 ≤ 7302250) {i Y : Nat} (hi : i + 5 ≤ L) (hY : Y ≤ 2 ^ 21) {p1 p2 p3 p4 : Int32} (h1 : xs (i + 1) = p1) (h2 : xs (i + 2) = p2) (h3 : xs (i + 3) = p3) (h4 : xs (i + 4) = p4) {q k : Nat → Nat} {Q : State → Prop} {fi : Nat → Option Nat} {D : Nat → Nat} {V : Nat → Nat → Nat} {y : Nat} {cn : Nat} {pn : Nat} {f : Nat → Int32} {xl : Nat → Int32} {xy : Nat → Int32} {xc : Nat → Int32} {ps : Nat → Int32} {j : Nat → Int32} {ja : Nat → Nat → Int32} {jl : Nat → Nat → Int64} {jL : Nat → Int64} {g : Nat → Int32} {sl : Nat → Int32} {sy : Nat → Int32} {sc : Nat → Int32} {pm : Nat → Int32} {K : Nat → Int32} {kb : Nat → Int32} {mj : Nat → Int32} {ma : Nat → Nat → Int32} {ml : Nat → Nat → Int64} {S : Nat → Nat} {T0 : va_W} {T1 : va_W} {H : Heap} {locs : List Loc} {ls : Array Slot} (hI : rs_I G Y D V y cn pn f xl xy xc ps g sl sy sc pm K kb fi S T0 T1) (hP : va_P G.1 vwCl (rs_X G q fi D y cn pn f xl xy xc ps j ja jl jL (rs_M G k D y cn pn g sl sy sc pm K kb mj ma ml (T0 ++ T1))) H) (hD : va_D (fun q : Nat => s.heap.size ≤ q) (rs_X G q fi D y cn pn f xl xy xc ps j ja jl jL (rs_M G k D y cn pn g sl sy sc pm K kb mj ma ml (T0 ++ T1)))) (hS : va_S (fun q : Nat => s.heap.size ≤ q) s.heap H locs) (hl : lv_has ls 4 [(0, .ref b), (1, .ref (q 0)), (2, .ref (k 0)), (3, .int (nI i))]) (nx : lw_Nx p l e s m below meth c b G q k i (Y + 600) (cells + 8) (slots + 76) Q) : W p l e room_1 s m #[Value.ref b] below meth c H locs cells slots Q (F0 m 1028 ls []) := by
  obtain ⟨hx, hb, hml, hown, hts, hXs, hbl, hK, hL⟩ := C0
  obtain ⟨hD0, hV, hX, hM, hy, hcn, hpn, e1, e2, e3, s1, s2, s3, i0, i1⟩ := hI
  have hA : ∀ q : Nat, s.heap.size ≤ q → (fun q : Nat => s.heap.size ≤ q) q := fun _ h => h
  have hbA : ¬ (fun q : Nat => s.heap.size ≤ q) b := Nat.not_le.mpr hbl
  have hcs0 : cells ≤ room_1.cells ∧ slots ≤ room_1.slots := ⟨Nat.le_trans (Nat.le_add_right _ 8) hcs.1, Nat.le_trans (Nat.le_add_right _ 76) hcs.2⟩
  obtain ⟨r, o1, o2, o4, o5, o6, o7, n1, o3, n2, hx1, hm1⟩ := e_laws hD0.1 hD0.2.1 hcn (N := N) (by omega) e1 e2 e3 p1 (j 21) (j 22) (j 14) (j 15) (j 16) (j 17) (ja 2) (ma 9)
  refine lv_aload_n hx hb dL_law_1028 rfl (lv_at hl 1 rfl) ?_
  refine lv_aload_n hx hb dL_law_1029 rfl (lv_at hl 0 rfl) ?_
  refine lv_iload_n hx hb dL_law_1030 rfl (lv_at hl 3 rfl) ?_
  refine lv_iconst (v := 1) hx hb dL_law_1031 (by decide) ?_
  refine lv_iadd hx hb dL_law_1032 ?_
  refine rs_sld 1 hx hb hXs hbl hbA hS rfl (by omega) hL h1 dL_law_1033 ?_
  refine rs_callVi (As := [.int p1]) (rest := []) (index := 120) ⟨hx, hb, hml, hown, hts⟩ (c_X10_laws l G (q 0) (q 1) (q 9) (q 10) (q 12) (q 17) (q 20) (q 23) (q 26) (q 21) (q 22) (q 2) (q 3) (q 5) (q 6) (q 7) (q 8) (j 21) (j 22) (ja 2) (nI y) (nI (D 0)) (nI (D 1)) (nI (D 2)) (nI (D 3)) (nI (D 4)) (nI (D 5)) (nI (D 6)) (j 14) (j 15) (j 16) (j 17) (j 18) (j 19) (j 20) (nI cn) xl xy xc p1 N r o1 o2 o3 o4 o5 o6 o7 hx1) (cwV 1 hts gL_law_X10_laws rfl rfl rfl (by decide +kernel) ⟨Nat.le_of_ble_eq_true rfl, Nat.le_of_ble_eq_true rfl⟩) dL_law_1034 hK hP hD hS hA [0, 20, 22, 1, 2, 21, 5, 6, 7, 8] rfl (by decide) rfl rfl (q0 := 0) (ci := 10) rfl rfl rfl hl.1 (lv_room (Nat.le_of_ble_eq_true rfl)) hcs0 (fun (u : Unit) => (rs_X G q fi D y cn pn f xl xy xc ps (rs_ls [j 0, j 1, j 2, j 3, j 4, j 5, j 6, j 7, j 8, j 9, j 10, j 11, j 12, j 13, o4, o5, o6, o7, j 18, j 19, j 20, o1, o2] j) (rs_ls [ja 0, ja 1, o3] ja) jl jL (rs_M G k D y cn pn g sl sy sc pm K kb mj ma ml (T0 ++ T1)))) (fun _ => rfl) (fun _ => rfl) (fun u H locs hP hD hS => ?_)
  have hP : va_P G.1 vwCl (rs_X G q fi D y cn pn f xl xy xc ps (rs_ls [j 0, j 1, j 2, j 3, j 4, j 5, j 6, j 7, j 8, j 9, j 10, j 11, j 12, j 13, o4, o5, o6, o7, j 18, j 19, j 20, o1, o2] j) (rs_ls [ja 0, ja 1, o3] ja) jl jL (rs_M G k D y cn pn g sl sy sc pm K kb mj ma ml (T0 ++ T1))) H := hP
  have hD : va_D (fun q : Nat => s.heap.size ≤ q) (rs_X G q fi D y cn pn f xl xy xc ps (rs_ls [j 0, j 1, j 2, j 3, j 4, j 5, j 6, j 7, j 8, j 9, j 10, j 11, j 12, j 13, o4, o5, o6, o7, j 18, j 19, j 20, o1, o2] j) (rs_ls [ja 0, ja 1, o3] ja) jl jL (rs_M G k D y cn pn g sl sy sc pm K kb mj ma ml (T0 ++ T1))) := hD
  refine lv_aload_n hx hb dL_law_1037 rfl (lv_at hl 2 rfl) ?_
  refine lv_aload_n hx hb dL_law_1038 rfl (lv_at hl 0 rfl) ?_
  refine lv_iload_n hx hb dL_law_1039 rfl (lv_at hl 3 rfl) ?_
  refine lv_iconst (v := 1) hx hb dL_law_1040 (by decide) ?_
  refine lv_iadd hx hb dL_law_1041 ?_
  refine rs_sld 1 hx hb hXs hbl hbA hS rfl (by omega) hL h1 dL_law_1042 ?_
  refine rs_callVi (As := [.int p1]) (rest := [.int r]) (index := 123) ⟨hx, hb, hml, hown, hts⟩ (c_X11_laws l G (k 0) (k 1) (k 2) (k 3) (k 4) (k 5) (k 6) (k 7) (k 8) (k 9) (k 10) (k 11) (k 12) (k 13) (k 14) (k 15) (k 16) (k 17) (k 18) (k 19) (nI (D 0)) (nI (D 1)) (nI (D 2)) (nI (D 3)) (nI (D 4)) (nI (D 5)) (nI (D 6)) (nI y) (nI cn) (nI pn) (mj 0) (mj 1) (mj 2) (mj 3) (mj 4) (mj 5) (mj 6) (mj 7) (mj 8) (mj 9) (ma 9) sl sy sc p1 N r n1 n2 hm1) (cwV 1 hts gL_law_X11_laws rfl rfl rfl (by decide +kernel) ⟨Nat.le_of_ble_eq_true rfl, Nat.le_of_ble_eq_true rfl⟩) dL_law_1043 hK hP hD hS hA [29, 46, 31, 32, 33] rfl (by decide) rfl rfl (q0 := 0) (ci := 11) rfl rfl rfl hl.1 (lv_room (Nat.le_of_ble_eq_true rfl)) hcs0 (fun (u : Unit) => (rs_X G q fi D y cn pn f xl xy xc ps (rs_ls [j 0, j 1, j 2, j 3, j 4, j 5, j 6, j 7, j 8, j 9, j 10, j 11, j 12, j 13, o4, o5, o6, o7, j 18, j 19, j 20, o1, o2] j) (rs_ls [ja 0, ja 1, o3] ja) jl jL (rs_M G k D y cn pn g sl sy sc pm K kb (rs_ls [mj 0, mj 1, mj 2, mj 3, mj 4, mj 5, mj 6, n1] mj) (rs_ls [ma 0, ma 1, ma 2, ma 3, ma 4, ma 5, ma 6, ma 7, ma 8, n2] ma) ml (T0 ++ T1)))) (fun _ => rfl) (fun _ => rfl) (fun u H locs hP hD hS => ?_)
  have hP : va_P G.1 vwCl (rs_X G q fi D y cn pn f xl xy xc ps (rs_ls [j 0, j 1, j 2, j 3, j 4, j 5, j 6, j 7, j 8, j 9, j 10, j 11, j 12, j 13, o4, o5, o6, o7, j 18, j 19, j 20, o1, o2] j) (rs_ls [ja 0, ja 1, o3] ja) jl jL (rs_M G k D y cn pn g sl sy sc pm K kb (rs_ls [mj 0, mj 1, mj 2, mj 3, mj 4, mj 5, mj 6, n1] mj) (rs_ls [ma 0, ma 1, ma 2, ma 3, ma 4, ma 5, ma 6, ma 7, ma 8, n2] ma) ml (T0 ++ T1))) H := hP
  have hD : va_D (fun q : Nat => s.heap.size ≤ q) (rs_X G q fi D y cn pn f xl xy xc ps (rs_ls [j 0, j 1, j 2, j 3, j 4, j 5, j 6, j 7, j 8, j 9, j 10, j 11, j 12, j 13, o4, o5, o6, o7, j 18, j 19, j 20, o1, o2] j) (rs_ls [ja 0, ja 1, o3] ja) jl jL (rs_M G k D y cn pn g sl sy sc pm K kb (rs_ls [mj 0, mj 1, mj 2, mj 3, mj 4, mj 5, mj 6, n1] mj) (rs_ls [ma 0, ma 1, ma 2, ma 3, ma 4, ma 5, ma 6, ma 7, ma 8, n2] ma) ml (T0 ++ T1))) := hD
  refine lv_icmp_eq (tgt := 1303) hx hb dL_law_1046 (by decide) (fun _ => ?_) (fun hc => absurd rfl hc)
  refine W.widen (k := cells + 8) (n := slots + 76) (Nat.le_add_right _ _) (Nat.le_add_right _ _) ?_
  exact nx fi D V y cn pn f xl xy xc ps (rs_ls [j 0, j 1, j 2, j 3, j 4, j 5, j 6, j 7, j 8, j 9, j 10, j 11, j 12, j 13, o4, o5, o6, o7, j 18, j 19, j 20, o1, o2] j) (rs_ls [ja 0, ja 1, o3] ja) jl jL g sl sy sc pm K kb (rs_ls [mj 0, mj 1, mj 2, mj 3, mj 4, mj 5, mj 6, n1] mj) (rs_ls [ma 0, ma 1, ma 2, ma 3, ma 4, ma 5, ma 6, ma 7, ma 8, n2] ma) ml S T0 T1 H locs ls ⟨hD0, hV, hX, hM, (by omega), hcn, hpn, e1, e2, e3, s1, s2, s3, (i0.up (Nat.le_add_right _ _)), (i1.up (Nat.le_add_right _ _))⟩ hP hD hS hl
set_option maxHeartbeats 2000000 in
theorem lw_look {p : Program} {l : Launch} {e : Env} {s : State} {m : MethodId} {below : List Frame} {meth : Method} {c : Code} {b L : Nat} {xs : Nat → Int32} {G : rs_G} (C0 : lw_Cx p s m c b L xs G) {N : Nat} (hN : 200000 < N) {cells slots : Nat} (hcs : cells + 8 ≤ 600000 ∧ slots + 76 ≤ 7302250) {i Y : Nat} (hi : i + 5 ≤ L) (hY : Y ≤ 2 ^ 21) {p1 p2 p3 p4 : Int32} (h1 : xs (i + 1) = p1) (h2 : xs (i + 2) = p2) (h3 : xs (i + 3) = p3) (h4 : xs (i + 4) = p4) {q k : Nat → Nat} {Q : State → Prop} {fi : Nat → Option Nat} {D : Nat → Nat} {V : Nat → Nat → Nat} {y : Nat} {cn : Nat} {pn : Nat} {f : Nat → Int32} {xl : Nat → Int32} {xy : Nat → Int32} {xc : Nat → Int32} {ps : Nat → Int32} {j : Nat → Int32} {ja : Nat → Nat → Int32} {jl : Nat → Nat → Int64} {jL : Nat → Int64} {g : Nat → Int32} {sl : Nat → Int32} {sy : Nat → Int32} {sc : Nat → Int32} {pm : Nat → Int32} {K : Nat → Int32} {kb : Nat → Int32} {mj : Nat → Int32} {ma : Nat → Nat → Int32} {ml : Nat → Nat → Int64} {S : Nat → Nat} {T0 : va_W} {T1 : va_W} {H : Heap} {locs : List Loc} {ls : Array Slot} (hI : rs_I G Y D V y cn pn f xl xy xc ps g sl sy sc pm K kb fi S T0 T1) (hP : va_P G.1 vwCl (rs_X G q fi D y cn pn f xl xy xc ps j ja jl jL (rs_M G k D y cn pn g sl sy sc pm K kb mj ma ml (T0 ++ T1))) H) (hD : va_D (fun q : Nat => s.heap.size ≤ q) (rs_X G q fi D y cn pn f xl xy xc ps j ja jl jL (rs_M G k D y cn pn g sl sy sc pm K kb mj ma ml (T0 ++ T1)))) (hS : va_S (fun q : Nat => s.heap.size ≤ q) s.heap H locs) (hl : lv_has ls 4 [(0, .ref b), (1, .ref (q 0)), (2, .ref (k 0)), (3, .int (nI i))]) (nx : lw_Nx p l e s m below meth c b G q k i (Y + 600) (cells + 8) (slots + 76) Q) : W p l e room_1 s m #[Value.ref b] below meth c H locs cells slots Q (F0 m 1051 ls []) := by
  obtain ⟨hx, hb, hml, hown, hts, hXs, hbl, hK, hL⟩ := C0
  obtain ⟨hD0, hV, hX, hM, hy, hcn, hpn, e1, e2, e3, s1, s2, s3, i0, i1⟩ := hI
  have hA : ∀ q : Nat, s.heap.size ≤ q → (fun q : Nat => s.heap.size ≤ q) q := fun _ h => h
  have hbA : ¬ (fun q : Nat => s.heap.size ≤ q) b := Nat.not_le.mpr hbl
  have hcs0 : cells ≤ room_1.cells ∧ slots ≤ room_1.slots := ⟨Nat.le_trans (Nat.le_add_right _ 8) hcs.1, Nat.le_trans (Nat.le_add_right _ 76) hcs.2⟩
  obtain ⟨r, o1, o2, o4, o5, o6, o7, n1, o3, n2, hx1, hm1⟩ := e_look hD0.1 hD0.2.1 hcn (N := N) (by omega) e1 e2 e3 p1 p2 (j 21) (j 22) (j 14) (j 15) (j 16) (j 17) (mj 7) (ja 2) (ma 9)
  refine lv_aload_n hx hb dL_law_1051 rfl (lv_at hl 1 rfl) ?_
  refine lv_aload_n hx hb dL_law_1052 rfl (lv_at hl 0 rfl) ?_
  refine lv_iload_n hx hb dL_law_1053 rfl (lv_at hl 3 rfl) ?_
  refine lv_iconst (v := 1) hx hb dL_law_1054 (by decide) ?_
  refine lv_iadd hx hb dL_law_1055 ?_
  refine rs_sld 1 hx hb hXs hbl hbA hS rfl (by omega) hL h1 dL_law_1056 ?_
  refine lv_aload_n hx hb dL_law_1057 rfl (lv_at hl 0 rfl) ?_
  refine lv_iload_n hx hb dL_law_1058 rfl (lv_at hl 3 rfl) ?_
  refine lv_iconst (v := 2) hx hb dL_law_1059 (by decide) ?_
  refine lv_iadd hx hb dL_law_1060 ?_
  refine rs_sld 2 hx hb hXs hbl hbA hS rfl (by omega) hL h2 dL_law_1061 ?_
  refine rs_callVi (As := [.int p1, .int p2]) (rest := []) (index := 124) ⟨hx, hb, hml, hown, hts⟩ (c_X10_look l G (q 0) (q 1) (q 9) (q 10) (q 12) (q 17) (q 20) (q 23) (q 26) (q 21) (q 22) (q 2) (q 3) (q 5) (q 6) (q 7) (q 8) (j 21) (j 22) (ja 2) (nI y) (nI (D 0)) (nI (D 1)) (nI (D 2)) (nI (D 3)) (nI (D 4)) (nI (D 5)) (nI (D 6)) (j 14) (j 15) (j 16) (j 17) (j 18) (j 19) (j 20) (nI cn) xl xy xc p1 p2 N r o1 o2 o3 o4 o5 o6 o7 hx1) (cwV 2 hts gL_law_X10_look rfl rfl rfl (by decide +kernel) ⟨Nat.le_of_ble_eq_true rfl, Nat.le_of_ble_eq_true rfl⟩) dL_law_1062 hK hP hD hS hA [0, 20, 22, 1, 2, 21, 5, 6, 7, 8] rfl (by decide) rfl rfl (q0 := 0) (ci := 10) rfl rfl rfl hl.1 (lv_room (Nat.le_of_ble_eq_true rfl)) hcs0 (fun (u : Unit) => (rs_X G q fi D y cn pn f xl xy xc ps (rs_ls [j 0, j 1, j 2, j 3, j 4, j 5, j 6, j 7, j 8, j 9, j 10, j 11, j 12, j 13, o4, o5, o6, o7, j 18, j 19, j 20, o1, o2] j) (rs_ls [ja 0, ja 1, o3] ja) jl jL (rs_M G k D y cn pn g sl sy sc pm K kb mj ma ml (T0 ++ T1)))) (fun _ => rfl) (fun _ => rfl) (fun u H locs hP hD hS => ?_)
  have hP : va_P G.1 vwCl (rs_X G q fi D y cn pn f xl xy xc ps (rs_ls [j 0, j 1, j 2, j 3, j 4, j 5, j 6, j 7, j 8, j 9, j 10, j 11, j 12, j 13, o4, o5, o6, o7, j 18, j 19, j 20, o1, o2] j) (rs_ls [ja 0, ja 1, o3] ja) jl jL (rs_M G k D y cn pn g sl sy sc pm K kb mj ma ml (T0 ++ T1))) H := hP
  have hD : va_D (fun q : Nat => s.heap.size ≤ q) (rs_X G q fi D y cn pn f xl xy xc ps (rs_ls [j 0, j 1, j 2, j 3, j 4, j 5, j 6, j 7, j 8, j 9, j 10, j 11, j 12, j 13, o4, o5, o6, o7, j 18, j 19, j 20, o1, o2] j) (rs_ls [ja 0, ja 1, o3] ja) jl jL (rs_M G k D y cn pn g sl sy sc pm K kb mj ma ml (T0 ++ T1))) := hD
  refine lv_aload_n hx hb dL_law_1065 rfl (lv_at hl 2 rfl) ?_
  refine lv_aload_n hx hb dL_law_1066 rfl (lv_at hl 0 rfl) ?_
  refine lv_iload_n hx hb dL_law_1067 rfl (lv_at hl 3 rfl) ?_
  refine lv_iconst (v := 1) hx hb dL_law_1068 (by decide) ?_
  refine lv_iadd hx hb dL_law_1069 ?_
  refine rs_sld 1 hx hb hXs hbl hbA hS rfl (by omega) hL h1 dL_law_1070 ?_
  refine lv_aload_n hx hb dL_law_1071 rfl (lv_at hl 0 rfl) ?_
  refine lv_iload_n hx hb dL_law_1072 rfl (lv_at hl 3 rfl) ?_
  refine lv_iconst (v := 2) hx hb dL_law_1073 (by decide) ?_
  refine lv_iadd hx hb dL_law_1074 ?_
  refine rs_sld 2 hx hb hXs hbl hbA hS rfl (by omega) hL h2 dL_law_1075 ?_
  refine rs_callVi (As := [.int p1, .int p2]) (rest := [.int r]) (index := 127) ⟨hx, hb, hml, hown, hts⟩ (c_X11_look l G (k 0) (k 1) (k 2) (k 3) (k 4) (k 5) (k 6) (k 7) (k 8) (k 9) (k 10) (k 11) (k 12) (k 13) (k 14) (k 15) (k 16) (k 17) (k 18) (k 19) (nI (D 0)) (nI (D 1)) (nI (D 2)) (nI (D 3)) (nI (D 4)) (nI (D 5)) (nI (D 6)) (nI y) (nI cn) (nI pn) (mj 0) (mj 1) (mj 2) (mj 3) (mj 4) (mj 5) (mj 6) (mj 7) (mj 8) (mj 9) (ma 9) sl sy sc p1 p2 N r n1 n2 hm1) (cwV 2 hts gL_law_X11_look rfl rfl rfl (by decide +kernel) ⟨Nat.le_of_ble_eq_true rfl, Nat.le_of_ble_eq_true rfl⟩) dL_law_1076 hK hP hD hS hA [29, 46, 31, 32, 33] rfl (by decide) rfl rfl (q0 := 0) (ci := 11) rfl rfl rfl hl.1 (lv_room (Nat.le_of_ble_eq_true rfl)) hcs0 (fun (u : Unit) => (rs_X G q fi D y cn pn f xl xy xc ps (rs_ls [j 0, j 1, j 2, j 3, j 4, j 5, j 6, j 7, j 8, j 9, j 10, j 11, j 12, j 13, o4, o5, o6, o7, j 18, j 19, j 20, o1, o2] j) (rs_ls [ja 0, ja 1, o3] ja) jl jL (rs_M G k D y cn pn g sl sy sc pm K kb (rs_ls [mj 0, mj 1, mj 2, mj 3, mj 4, mj 5, mj 6, n1] mj) (rs_ls [ma 0, ma 1, ma 2, ma 3, ma 4, ma 5, ma 6, ma 7, ma 8, n2] ma) ml (T0 ++ T1)))) (fun _ => rfl) (fun _ => rfl) (fun u H locs hP hD hS => ?_)
  have hP : va_P G.1 vwCl (rs_X G q fi D y cn pn f xl xy xc ps (rs_ls [j 0, j 1, j 2, j 3, j 4, j 5, j 6, j 7, j 8, j 9, j 10, j 11, j 12, j 13, o4, o5, o6, o7, j 18, j 19, j 20, o1, o2] j) (rs_ls [ja 0, ja 1, o3] ja) jl jL (rs_M G k D y cn pn g sl sy sc pm K kb (rs_ls [mj 0, mj 1, mj 2, mj 3, mj 4, mj 5, mj 6, n1] mj) (rs_ls [ma 0, ma 1, ma 2, ma 3, ma 4, ma 5, ma 6, ma 7, ma 8, n2] ma) ml (T0 ++ T1))) H := hP
  have hD : va_D (fun q : Nat => s.heap.size ≤ q) (rs_X G q fi D y cn pn f xl xy xc ps (rs_ls [j 0, j 1, j 2, j 3, j 4, j 5, j 6, j 7, j 8, j 9, j 10, j 11, j 12, j 13, o4, o5, o6, o7, j 18, j 19, j 20, o1, o2] j) (rs_ls [ja 0, ja 1, o3] ja) jl jL (rs_M G k D y cn pn g sl sy sc pm K kb (rs_ls [mj 0, mj 1, mj 2, mj 3, mj 4, mj 5, mj 6, n1] mj) (rs_ls [ma 0, ma 1, ma 2, ma 3, ma 4, ma 5, ma 6, ma 7, ma 8, n2] ma) ml (T0 ++ T1))) := hD
  refine lv_icmp_eq (tgt := 1303) hx hb dL_law_1079 (by decide) (fun _ => ?_) (fun hc => absurd rfl hc)
  refine W.widen (k := cells + 8) (n := slots + 76) (Nat.le_add_right _ _) (Nat.le_add_right _ _) ?_
  exact nx fi D V y cn pn f xl xy xc ps (rs_ls [j 0, j 1, j 2, j 3, j 4, j 5, j 6, j 7, j 8, j 9, j 10, j 11, j 12, j 13, o4, o5, o6, o7, j 18, j 19, j 20, o1, o2] j) (rs_ls [ja 0, ja 1, o3] ja) jl jL g sl sy sc pm K kb (rs_ls [mj 0, mj 1, mj 2, mj 3, mj 4, mj 5, mj 6, n1] mj) (rs_ls [ma 0, ma 1, ma 2, ma 3, ma 4, ma 5, ma 6, ma 7, ma 8, n2] ma) ml S T0 T1 H locs ls ⟨hD0, hV, hX, hM, (by omega), hcn, hpn, e1, e2, e3, s1, s2, s3, (i0.up (Nat.le_add_right _ _)), (i1.up (Nat.le_add_right _ _))⟩ hP hD hS hl
