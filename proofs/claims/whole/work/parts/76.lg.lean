set_option maxHeartbeats 2000000 in
theorem lw_dust {p : Program} {l : Launch} {e : Env} {s : State} {m : MethodId} {below : List Frame} {meth : Method} {c : Code} {b L : Nat} {xs : Nat → Int32} {G : rs_G} (C0 : lw_Cx p s m c b L xs G) {N : Nat} (hN : 200000 < N) {cells slots : Nat} (hcs : cells + 8 ≤ 600000 ∧ slots + 76 ≤ 7302250) {i Y : Nat} (hi : i + 5 ≤ L) (hY : Y ≤ 2 ^ 21) {p1 p2 p3 p4 : Int32} (h1 : xs (i + 1) = p1) (h2 : xs (i + 2) = p2) (h3 : xs (i + 3) = p3) (h4 : xs (i + 4) = p4) {q k : Nat → Nat} {Q : State → Prop} {fi : Nat → Option Nat} {D : Nat → Nat} {V : Nat → Nat → Nat} {y : Nat} {cn : Nat} {pn : Nat} {f : Nat → Int32} {xl : Nat → Int32} {xy : Nat → Int32} {xc : Nat → Int32} {ps : Nat → Int32} {j : Nat → Int32} {ja : Nat → Nat → Int32} {jl : Nat → Nat → Int64} {jL : Nat → Int64} {g : Nat → Int32} {sl : Nat → Int32} {sy : Nat → Int32} {sc : Nat → Int32} {pm : Nat → Int32} {K : Nat → Int32} {kb : Nat → Int32} {mj : Nat → Int32} {ma : Nat → Nat → Int32} {ml : Nat → Nat → Int64} {S : Nat → Nat} {T0 : va_W} {T1 : va_W} {H : Heap} {locs : List Loc} {ls : Array Slot} (hI : rs_I G Y D V y cn pn f xl xy xc ps g sl sy sc pm K kb fi S T0 T1) (hP : va_P G.1 vwCl (rs_X G q fi D y cn pn f xl xy xc ps j ja jl jL (rs_M G k D y cn pn g sl sy sc pm K kb mj ma ml (T0 ++ T1))) H) (hD : va_D (fun q : Nat => s.heap.size ≤ q) (rs_X G q fi D y cn pn f xl xy xc ps j ja jl jL (rs_M G k D y cn pn g sl sy sc pm K kb mj ma ml (T0 ++ T1)))) (hS : va_S (fun q : Nat => s.heap.size ≤ q) s.heap H locs) (hl : lv_has ls 4 [(0, .ref b), (1, .ref (q 0)), (2, .ref (k 0)), (3, .int (nI i))]) (nx : lw_Nx p l e s m below meth c b G q k i (Y + 600) (cells + 8) (slots + 76) Q) : W p l e room_1 s m #[Value.ref b] below meth c H locs cells slots Q (F0 m 1084 ls []) := by
  obtain ⟨hx, hb, hml, hown, hts, hXs, hbl, hK, hL⟩ := C0
  obtain ⟨hD0, hV, hX, hM, hy, hcn, hpn, e1, e2, e3, s1, s2, s3, i0, i1⟩ := hI
  have hA : ∀ q : Nat, s.heap.size ≤ q → (fun q : Nat => s.heap.size ≤ q) q := fun _ h => h
  have hbA : ¬ (fun q : Nat => s.heap.size ≤ q) b := Nat.not_le.mpr hbl
  have hcs0 : cells ≤ room_1.cells ∧ slots ≤ room_1.slots := ⟨Nat.le_trans (Nat.le_add_right _ 8) hcs.1, Nat.le_trans (Nat.le_add_right _ 76) hcs.2⟩
  obtain ⟨r, o1, o2, g2, hx1, hm1, hM3⟩ := e_dust hD0 hV hX hM (N := N) (by omega) (y := y) (by omega) p1 p2 p3 p4 (jL 0) (jL 1) (jl 2) (jl 3)
  refine lv_aload_n hx hb dL_law_1084 rfl (lv_at hl 1 rfl) ?_
  refine lv_aload_n hx hb dL_law_1085 rfl (lv_at hl 0 rfl) ?_
  refine lv_iload_n hx hb dL_law_1086 rfl (lv_at hl 3 rfl) ?_
  refine lv_iconst (v := 1) hx hb dL_law_1087 (by decide) ?_
  refine lv_iadd hx hb dL_law_1088 ?_
  refine rs_sld 1 hx hb hXs hbl hbA hS rfl (by omega) hL h1 dL_law_1089 ?_
  refine lv_aload_n hx hb dL_law_1090 rfl (lv_at hl 0 rfl) ?_
  refine lv_iload_n hx hb dL_law_1091 rfl (lv_at hl 3 rfl) ?_
  refine lv_iconst (v := 2) hx hb dL_law_1092 (by decide) ?_
  refine lv_iadd hx hb dL_law_1093 ?_
  refine rs_sld 2 hx hb hXs hbl hbA hS rfl (by omega) hL h2 dL_law_1094 ?_
  refine lv_aload_n hx hb dL_law_1095 rfl (lv_at hl 0 rfl) ?_
  refine lv_iload_n hx hb dL_law_1096 rfl (lv_at hl 3 rfl) ?_
  refine lv_iconst (v := 3) hx hb dL_law_1097 (by decide) ?_
  refine lv_iadd hx hb dL_law_1098 ?_
  refine rs_sld 3 hx hb hXs hbl hbA hS rfl (by omega) hL h3 dL_law_1099 ?_
  refine lv_aload_n hx hb dL_law_1100 rfl (lv_at hl 0 rfl) ?_
  refine lv_iload_n hx hb dL_law_1101 rfl (lv_at hl 3 rfl) ?_
  refine lv_iconst (v := 4) hx hb dL_law_1102 (by decide) ?_
  refine lv_iadd hx hb dL_law_1103 ?_
  refine rs_sld 4 hx hb hXs hbl hbA hS rfl (by omega) hL h4 dL_law_1104 ?_
  refine rs_callVl (As := [.int p1, .int p2, .int p3, .int p4]) (rest := []) (index := 128) ⟨hx, hb, hml, hown, hts⟩ (c_X10_dust l G (q 0) (q 1) (q 9) (q 10) (q 12) (q 17) (q 20) (q 23) (q 26) (q 2) (q 3) (q 5) (q 27) (q 28) (q 4) (nI y) (nI (D 0)) (nI (D 1)) (nI (D 2)) (nI (D 3)) (nI (D 4)) (nI (D 5)) (nI (D 6)) (jL 0) (jL 1) (jl 2) f (jl 3) p1 p2 p3 p4 N r o1 o2 hx1) (cwV 4 hts gL_law_X10_dust rfl rfl rfl (by decide +kernel) ⟨Nat.le_of_ble_eq_true rfl, Nat.le_of_ble_eq_true rfl⟩) dL_law_1105 hK hP hD hS hA [0, 1, 2, 26, 27, 3, 4, 28] rfl (by decide) rfl rfl (q0 := 0) (ci := 10) rfl rfl rfl hl.1 (lv_room (Nat.le_of_ble_eq_true rfl)) hcs0 (fun (u : ((Nat → Int64) × (Nat → Int64))) => (rs_X G q fi D y cn pn f xl xy xc ps j ja (rs_ls [jl 0, jl 1, u.1, u.2] jl) (rs_ls [o1, o2] jL) (rs_M G k D y cn pn g sl sy sc pm K kb mj ma ml (T0 ++ T1)))) (fun _ => rfl) (fun _ => rfl) (fun u H locs hP hD hS => ?_)
  obtain ⟨u1, u2⟩ := u
  have hP : va_P G.1 vwCl (rs_X G q fi D y cn pn f xl xy xc ps j ja (rs_ls [jl 0, jl 1, u1, u2] jl) (rs_ls [o1, o2] jL) (rs_M G k D y cn pn g sl sy sc pm K kb mj ma ml (T0 ++ T1))) H := hP
  have hD : va_D (fun q : Nat => s.heap.size ≤ q) (rs_X G q fi D y cn pn f xl xy xc ps j ja (rs_ls [jl 0, jl 1, u1, u2] jl) (rs_ls [o1, o2] jL) (rs_M G k D y cn pn g sl sy sc pm K kb mj ma ml (T0 ++ T1))) := hD
  refine lv_aload_n hx hb dL_law_1108 rfl (lv_at hl 2 rfl) ?_
  refine lv_aload_n hx hb dL_law_1109 rfl (lv_at hl 0 rfl) ?_
  refine lv_iload_n hx hb dL_law_1110 rfl (lv_at hl 3 rfl) ?_
  refine lv_iconst (v := 1) hx hb dL_law_1111 (by decide) ?_
  refine lv_iadd hx hb dL_law_1112 ?_
  refine rs_sld 1 hx hb hXs hbl hbA hS rfl (by omega) hL h1 dL_law_1113 ?_
  refine lv_aload_n hx hb dL_law_1114 rfl (lv_at hl 0 rfl) ?_
  refine lv_iload_n hx hb dL_law_1115 rfl (lv_at hl 3 rfl) ?_
  refine lv_iconst (v := 2) hx hb dL_law_1116 (by decide) ?_
  refine lv_iadd hx hb dL_law_1117 ?_
  refine rs_sld 2 hx hb hXs hbl hbA hS rfl (by omega) hL h2 dL_law_1118 ?_
  refine lv_aload_n hx hb dL_law_1119 rfl (lv_at hl 0 rfl) ?_
  refine lv_iload_n hx hb dL_law_1120 rfl (lv_at hl 3 rfl) ?_
  refine lv_iconst (v := 3) hx hb dL_law_1121 (by decide) ?_
  refine lv_iadd hx hb dL_law_1122 ?_
  refine rs_sld 3 hx hb hXs hbl hbA hS rfl (by omega) hL h3 dL_law_1123 ?_
  refine lv_aload_n hx hb dL_law_1124 rfl (lv_at hl 0 rfl) ?_
  refine lv_iload_n hx hb dL_law_1125 rfl (lv_at hl 3 rfl) ?_
  refine lv_iconst (v := 4) hx hb dL_law_1126 (by decide) ?_
  refine lv_iadd hx hb dL_law_1127 ?_
  refine rs_sld 4 hx hb hXs hbl hbA hS rfl (by omega) hL h4 dL_law_1128 ?_
  refine rs_callVl (As := [.int p1, .int p2, .int p3, .int p4]) (rest := [.long r]) (index := 131) ⟨hx, hb, hml, hown, hts⟩ (c_X11_dust l G (k 0) (k 1) (k 2) (k 3) (k 4) (k 5) (k 6) (k 7) (k 8) (k 9) (k 10) (k 11) (k 12) (k 13) (k 14) (k 15) (k 16) (k 17) (k 18) (k 19) (nI (D 0)) (nI (D 1)) (nI (D 2)) (nI (D 3)) (nI (D 4)) (nI (D 5)) (nI (D 6)) (nI y) (nI cn) (nI pn) (mj 0) (mj 1) (mj 2) (mj 3) (mj 4) (mj 5) (mj 6) (mj 7) (mj 8) (mj 9) g p1 p2 p3 p4 N r g2 hm1) (cwV 4 hts gL_law_X11_dust rfl rfl rfl (by decide +kernel) ⟨Nat.le_of_ble_eq_true rfl, Nat.le_of_ble_eq_true rfl⟩) dL_law_1129 hK hP hD hS hA [29, 30] rfl (by decide) rfl rfl (q0 := 0) (ci := 11) rfl rfl rfl hl.1 (lv_room (Nat.le_of_ble_eq_true rfl)) hcs0 (fun (u : Unit) => (rs_X G q fi D y cn pn f xl xy xc ps j ja (rs_ls [jl 0, jl 1, u1, u2] jl) (rs_ls [o1, o2] jL) (rs_M G k D y cn pn g2 sl sy sc pm K kb mj ma ml (T0 ++ T1)))) (fun _ => rfl) (fun _ => rfl) (fun u H locs hP hD hS => ?_)
  have hP : va_P G.1 vwCl (rs_X G q fi D y cn pn f xl xy xc ps j ja (rs_ls [jl 0, jl 1, u1, u2] jl) (rs_ls [o1, o2] jL) (rs_M G k D y cn pn g2 sl sy sc pm K kb mj ma ml (T0 ++ T1))) H := hP
  have hD : va_D (fun q : Nat => s.heap.size ≤ q) (rs_X G q fi D y cn pn f xl xy xc ps j ja (rs_ls [jl 0, jl 1, u1, u2] jl) (rs_ls [o1, o2] jL) (rs_M G k D y cn pn g2 sl sy sc pm K kb mj ma ml (T0 ++ T1))) := hD
  refine W.lcmp hx hb dL_law_1132 ?_
  rw [lg_cmp_self]
  refine lv_if_eq (tgt := 1303) hx hb dL_law_1133 (by decide) (fun _ => ?_) (fun hc => absurd rfl hc)
  refine W.widen (k := cells + 8) (n := slots + 76) (Nat.le_add_right _ _) (Nat.le_add_right _ _) ?_
  exact nx fi D V y cn pn f xl xy xc ps j ja (rs_ls [jl 0, jl 1, u1, u2] jl) (rs_ls [o1, o2] jL) g2 sl sy sc pm K kb mj ma ml S T0 T1 H locs ls ⟨hD0, hV, hX, hM3, (by omega), hcn, hpn, e1, e2, e3, s1, s2, s3, (i0.up (Nat.le_add_right _ _)), (i1.up (Nat.le_add_right _ _))⟩ hP hD hS hl
set_option maxHeartbeats 2000000 in
theorem lw_rent {p : Program} {l : Launch} {e : Env} {s : State} {m : MethodId} {below : List Frame} {meth : Method} {c : Code} {b L : Nat} {xs : Nat → Int32} {G : rs_G} (C0 : lw_Cx p s m c b L xs G) {N : Nat} (hN : 200000 < N) {cells slots : Nat} (hcs : cells + 8 ≤ 600000 ∧ slots + 76 ≤ 7302250) {i Y : Nat} (hi : i + 5 ≤ L) (hY : Y ≤ 2 ^ 21) {p1 p2 p3 p4 : Int32} (h1 : xs (i + 1) = p1) (h2 : xs (i + 2) = p2) (h3 : xs (i + 3) = p3) (h4 : xs (i + 4) = p4) {q k : Nat → Nat} {Q : State → Prop} {fi : Nat → Option Nat} {D : Nat → Nat} {V : Nat → Nat → Nat} {y : Nat} {cn : Nat} {pn : Nat} {f : Nat → Int32} {xl : Nat → Int32} {xy : Nat → Int32} {xc : Nat → Int32} {ps : Nat → Int32} {j : Nat → Int32} {ja : Nat → Nat → Int32} {jl : Nat → Nat → Int64} {jL : Nat → Int64} {g : Nat → Int32} {sl : Nat → Int32} {sy : Nat → Int32} {sc : Nat → Int32} {pm : Nat → Int32} {K : Nat → Int32} {kb : Nat → Int32} {mj : Nat → Int32} {ma : Nat → Nat → Int32} {ml : Nat → Nat → Int64} {S : Nat → Nat} {T0 : va_W} {T1 : va_W} {H : Heap} {locs : List Loc} {ls : Array Slot} (hI : rs_I G Y D V y cn pn f xl xy xc ps g sl sy sc pm K kb fi S T0 T1) (hP : va_P G.1 vwCl (rs_X G q fi D y cn pn f xl xy xc ps j ja jl jL (rs_M G k D y cn pn g sl sy sc pm K kb mj ma ml (T0 ++ T1))) H) (hD : va_D (fun q : Nat => s.heap.size ≤ q) (rs_X G q fi D y cn pn f xl xy xc ps j ja jl jL (rs_M G k D y cn pn g sl sy sc pm K kb mj ma ml (T0 ++ T1)))) (hS : va_S (fun q : Nat => s.heap.size ≤ q) s.heap H locs) (hl : lv_has ls 4 [(0, .ref b), (1, .ref (q 0)), (2, .ref (k 0)), (3, .int (nI i))]) (nx : lw_Nx p l e s m below meth c b G q k i (Y + 600) (cells + 8) (slots + 76) Q) : W p l e room_1 s m #[Value.ref b] below meth c H locs cells slots Q (F0 m 1138 ls []) := by
  obtain ⟨hx, hb, hml, hown, hts, hXs, hbl, hK, hL⟩ := C0
  obtain ⟨hD0, hV, hX, hM, hy, hcn, hpn, e1, e2, e3, s1, s2, s3, i0, i1⟩ := hI
  have hA : ∀ q : Nat, s.heap.size ≤ q → (fun q : Nat => s.heap.size ≤ q) q := fun _ h => h
  have hbA : ¬ (fun q : Nat => s.heap.size ≤ q) b := Nat.not_le.mpr hbl
  have hcs0 : cells ≤ room_1.cells ∧ slots ≤ room_1.slots := ⟨Nat.le_trans (Nat.le_add_right _ 8) hcs.1, Nat.le_trans (Nat.le_add_right _ 76) hcs.2⟩
  obtain ⟨r, hx1, hm1⟩ := e_rent hD0 (N := N) (by omega) p1 p2 p3 p4
  refine lv_aload_n hx hb dL_law_1138 rfl (lv_at hl 1 rfl) ?_
  refine lv_aload_n hx hb dL_law_1139 rfl (lv_at hl 0 rfl) ?_
  refine lv_iload_n hx hb dL_law_1140 rfl (lv_at hl 3 rfl) ?_
  refine lv_iconst (v := 1) hx hb dL_law_1141 (by decide) ?_
  refine lv_iadd hx hb dL_law_1142 ?_
  refine rs_sld 1 hx hb hXs hbl hbA hS rfl (by omega) hL h1 dL_law_1143 ?_
  refine lv_aload_n hx hb dL_law_1144 rfl (lv_at hl 0 rfl) ?_
  refine lv_iload_n hx hb dL_law_1145 rfl (lv_at hl 3 rfl) ?_
  refine lv_iconst (v := 2) hx hb dL_law_1146 (by decide) ?_
  refine lv_iadd hx hb dL_law_1147 ?_
  refine rs_sld 2 hx hb hXs hbl hbA hS rfl (by omega) hL h2 dL_law_1148 ?_
  refine lv_aload_n hx hb dL_law_1149 rfl (lv_at hl 0 rfl) ?_
  refine lv_iload_n hx hb dL_law_1150 rfl (lv_at hl 3 rfl) ?_
  refine lv_iconst (v := 3) hx hb dL_law_1151 (by decide) ?_
  refine lv_iadd hx hb dL_law_1152 ?_
  refine rs_sld 3 hx hb hXs hbl hbA hS rfl (by omega) hL h3 dL_law_1153 ?_
  refine lv_aload_n hx hb dL_law_1154 rfl (lv_at hl 0 rfl) ?_
  refine lv_iload_n hx hb dL_law_1155 rfl (lv_at hl 3 rfl) ?_
  refine lv_iconst (v := 4) hx hb dL_law_1156 (by decide) ?_
  refine lv_iadd hx hb dL_law_1157 ?_
  refine rs_sld 4 hx hb hXs hbl hbA hS rfl (by omega) hL h4 dL_law_1158 ?_
  refine rs_callVi (As := [.int p1, .int p2, .int p3, .int p4]) (rest := []) (index := 132) ⟨hx, hb, hml, hown, hts⟩ (c_X10_rent l G (q 0) (q 1) (q 9) (q 10) (q 12) (q 17) (q 20) (q 23) (q 26) (q 2) (q 3) (q 5) (nI y) (nI (D 0)) (nI (D 1)) (nI (D 2)) (nI (D 3)) (nI (D 4)) (nI (D 5)) (nI (D 6)) p1 p2 p3 p4 N r hx1) (cwV 4 hts gL_law_X10_rent rfl rfl rfl (by decide +kernel) ⟨Nat.le_of_ble_eq_true rfl, Nat.le_of_ble_eq_true rfl⟩) dL_law_1159 hK hP hD hS hA [0, 1, 2] rfl (by decide) rfl rfl (q0 := 0) (ci := 10) rfl rfl rfl hl.1 (lv_room (Nat.le_of_ble_eq_true rfl)) hcs0 (fun (u : Unit) => (rs_X G q fi D y cn pn f xl xy xc ps j ja jl jL (rs_M G k D y cn pn g sl sy sc pm K kb mj ma ml (T0 ++ T1)))) (fun _ => rfl) (fun _ => rfl) (fun u H locs hP hD hS => ?_)
  have hP : va_P G.1 vwCl (rs_X G q fi D y cn pn f xl xy xc ps j ja jl jL (rs_M G k D y cn pn g sl sy sc pm K kb mj ma ml (T0 ++ T1))) H := hP
  have hD : va_D (fun q : Nat => s.heap.size ≤ q) (rs_X G q fi D y cn pn f xl xy xc ps j ja jl jL (rs_M G k D y cn pn g sl sy sc pm K kb mj ma ml (T0 ++ T1))) := hD
  refine lv_aload_n hx hb dL_law_1162 rfl (lv_at hl 2 rfl) ?_
  refine lv_aload_n hx hb dL_law_1163 rfl (lv_at hl 0 rfl) ?_
  refine lv_iload_n hx hb dL_law_1164 rfl (lv_at hl 3 rfl) ?_
  refine lv_iconst (v := 1) hx hb dL_law_1165 (by decide) ?_
  refine lv_iadd hx hb dL_law_1166 ?_
  refine rs_sld 1 hx hb hXs hbl hbA hS rfl (by omega) hL h1 dL_law_1167 ?_
  refine lv_aload_n hx hb dL_law_1168 rfl (lv_at hl 0 rfl) ?_
  refine lv_iload_n hx hb dL_law_1169 rfl (lv_at hl 3 rfl) ?_
  refine lv_iconst (v := 2) hx hb dL_law_1170 (by decide) ?_
  refine lv_iadd hx hb dL_law_1171 ?_
  refine rs_sld 2 hx hb hXs hbl hbA hS rfl (by omega) hL h2 dL_law_1172 ?_
  refine lv_aload_n hx hb dL_law_1173 rfl (lv_at hl 0 rfl) ?_
  refine lv_iload_n hx hb dL_law_1174 rfl (lv_at hl 3 rfl) ?_
  refine lv_iconst (v := 3) hx hb dL_law_1175 (by decide) ?_
  refine lv_iadd hx hb dL_law_1176 ?_
  refine rs_sld 3 hx hb hXs hbl hbA hS rfl (by omega) hL h3 dL_law_1177 ?_
  refine lv_aload_n hx hb dL_law_1178 rfl (lv_at hl 0 rfl) ?_
  refine lv_iload_n hx hb dL_law_1179 rfl (lv_at hl 3 rfl) ?_
  refine lv_iconst (v := 4) hx hb dL_law_1180 (by decide) ?_
  refine lv_iadd hx hb dL_law_1181 ?_
  refine rs_sld 4 hx hb hXs hbl hbA hS rfl (by omega) hL h4 dL_law_1182 ?_
  refine rs_callVi (As := [.int p1, .int p2, .int p3, .int p4]) (rest := [.int r]) (index := 135) ⟨hx, hb, hml, hown, hts⟩ (c_X11_rent l G (k 0) (k 1) (k 2) (k 3) (k 4) (k 5) (k 6) (k 7) (k 8) (k 9) (k 10) (k 11) (k 12) (k 13) (k 14) (k 15) (k 16) (k 17) (k 18) (k 19) (nI (D 0)) (nI (D 1)) (nI (D 2)) (nI (D 3)) (nI (D 4)) (nI (D 5)) (nI (D 6)) (nI y) (nI cn) (nI pn) (mj 0) (mj 1) (mj 2) (mj 3) (mj 4) (mj 5) (mj 6) (mj 7) (mj 8) (mj 9) p1 p2 p3 p4 N r hm1) (cwV 4 hts gL_law_X11_rent rfl rfl rfl (by decide +kernel) ⟨Nat.le_of_ble_eq_true rfl, Nat.le_of_ble_eq_true rfl⟩) dL_law_1183 hK hP hD hS hA [29] rfl (by decide) rfl rfl (q0 := 0) (ci := 11) rfl rfl rfl hl.1 (lv_room (Nat.le_of_ble_eq_true rfl)) hcs0 (fun (u : Unit) => (rs_X G q fi D y cn pn f xl xy xc ps j ja jl jL (rs_M G k D y cn pn g sl sy sc pm K kb mj ma ml (T0 ++ T1)))) (fun _ => rfl) (fun _ => rfl) (fun u H locs hP hD hS => ?_)
  have hP : va_P G.1 vwCl (rs_X G q fi D y cn pn f xl xy xc ps j ja jl jL (rs_M G k D y cn pn g sl sy sc pm K kb mj ma ml (T0 ++ T1))) H := hP
  have hD : va_D (fun q : Nat => s.heap.size ≤ q) (rs_X G q fi D y cn pn f xl xy xc ps j ja jl jL (rs_M G k D y cn pn g sl sy sc pm K kb mj ma ml (T0 ++ T1))) := hD
  refine lv_icmp_eq (tgt := 1303) hx hb dL_law_1186 (by decide) (fun _ => ?_) (fun hc => absurd rfl hc)
  refine W.widen (k := cells + 8) (n := slots + 76) (Nat.le_add_right _ _) (Nat.le_add_right _ _) ?_
  exact nx fi D V y cn pn f xl xy xc ps j ja jl jL g sl sy sc pm K kb mj ma ml S T0 T1 H locs ls ⟨hD0, hV, hX, hM, (by omega), hcn, hpn, e1, e2, e3, s1, s2, s3, (i0.up (Nat.le_add_right _ _)), (i1.up (Nat.le_add_right _ _))⟩ hP hD hS hl
set_option maxHeartbeats 2000000 in
theorem lw_told {p : Program} {l : Launch} {e : Env} {s : State} {m : MethodId} {below : List Frame} {meth : Method} {c : Code} {b L : Nat} {xs : Nat → Int32} {G : rs_G} (C0 : lw_Cx p s m c b L xs G) {N : Nat} (hN : 200000 < N) {cells slots : Nat} (hcs : cells + 8 ≤ 600000 ∧ slots + 76 ≤ 7302250) {i Y : Nat} (hi : i + 5 ≤ L) (hY : Y ≤ 2 ^ 21) {p1 p2 p3 p4 : Int32} (h1 : xs (i + 1) = p1) (h2 : xs (i + 2) = p2) (h3 : xs (i + 3) = p3) (h4 : xs (i + 4) = p4) {q k : Nat → Nat} {Q : State → Prop} {fi : Nat → Option Nat} {D : Nat → Nat} {V : Nat → Nat → Nat} {y : Nat} {cn : Nat} {pn : Nat} {f : Nat → Int32} {xl : Nat → Int32} {xy : Nat → Int32} {xc : Nat → Int32} {ps : Nat → Int32} {j : Nat → Int32} {ja : Nat → Nat → Int32} {jl : Nat → Nat → Int64} {jL : Nat → Int64} {g : Nat → Int32} {sl : Nat → Int32} {sy : Nat → Int32} {sc : Nat → Int32} {pm : Nat → Int32} {K : Nat → Int32} {kb : Nat → Int32} {mj : Nat → Int32} {ma : Nat → Nat → Int32} {ml : Nat → Nat → Int64} {S : Nat → Nat} {T0 : va_W} {T1 : va_W} {H : Heap} {locs : List Loc} {ls : Array Slot} (hI : rs_I G Y D V y cn pn f xl xy xc ps g sl sy sc pm K kb fi S T0 T1) (hP : va_P G.1 vwCl (rs_X G q fi D y cn pn f xl xy xc ps j ja jl jL (rs_M G k D y cn pn g sl sy sc pm K kb mj ma ml (T0 ++ T1))) H) (hD : va_D (fun q : Nat => s.heap.size ≤ q) (rs_X G q fi D y cn pn f xl xy xc ps j ja jl jL (rs_M G k D y cn pn g sl sy sc pm K kb mj ma ml (T0 ++ T1)))) (hS : va_S (fun q : Nat => s.heap.size ≤ q) s.heap H locs) (hl : lv_has ls 4 [(0, .ref b), (1, .ref (q 0)), (2, .ref (k 0)), (3, .int (nI i))]) (nx : lw_Nx p l e s m below meth c b G q k i (Y + 600) (cells + 8) (slots + 76) Q) : W p l e room_1 s m #[Value.ref b] below meth c H locs cells slots Q (F0 m 1280 ls []) := by
  obtain ⟨hx, hb, hml, hown, hts, hXs, hbl, hK, hL⟩ := C0
  obtain ⟨hD0, hV, hX, hM, hy, hcn, hpn, e1, e2, e3, s1, s2, s3, i0, i1⟩ := hI
  have hA : ∀ q : Nat, s.heap.size ≤ q → (fun q : Nat => s.heap.size ≤ q) q := fun _ h => h
  have hbA : ¬ (fun q : Nat => s.heap.size ≤ q) b := Nat.not_le.mpr hbl
  have hcs0 : cells ≤ room_1.cells ∧ slots ≤ room_1.slots := ⟨Nat.le_trans (Nat.le_add_right _ 8) hcs.1, Nat.le_trans (Nat.le_add_right _ 76) hcs.2⟩
  obtain ⟨r, hx1, hm1⟩ := e_told hD0 hX hM (nI y) (nI cn) (nI pn) p1
  refine lv_aload_n hx hb dL_law_1280 rfl (lv_at hl 1 rfl) ?_
  refine lv_aload_n hx hb dL_law_1281 rfl (lv_at hl 0 rfl) ?_
  refine lv_iload_n hx hb dL_law_1282 rfl (lv_at hl 3 rfl) ?_
  refine lv_iconst (v := 1) hx hb dL_law_1283 (by decide) ?_
  refine lv_iadd hx hb dL_law_1284 ?_
  refine rs_sld 1 hx hb hXs hbl hbA hS rfl (by omega) hL h1 dL_law_1285 ?_
  refine rs_callVi (As := [.int p1]) (rest := []) (index := 148) ⟨hx, hb, hml, hown, hts⟩ (c_X10_told l G (q 0) (q 1) (q 9) (q 10) (q 12) (q 17) (q 20) (q 23) (q 26) (q 2) (q 3) (q 5) (q 4) (q 6) (q 7) (q 8) (q 11) (nI y) (nI (D 0)) (nI (D 1)) (nI (D 2)) (nI (D 3)) (nI (D 4)) (nI (D 5)) (nI (D 6)) f (nI cn) (nI pn) p1 r hx1) (cwV 1 hts gL_law_X10_told rfl rfl rfl (by decide +kernel) ⟨Nat.le_of_ble_eq_true rfl, Nat.le_of_ble_eq_true rfl⟩) dL_law_1286 hK hP hD hS hA [0, 1, 2, 3, 4, 5, 10] rfl (by decide) rfl rfl (q0 := 0) (ci := 10) rfl rfl rfl hl.1 (lv_room (Nat.le_of_ble_eq_true rfl)) hcs0 (fun (u : Unit) => (rs_X G q fi D y cn pn f xl xy xc ps j ja jl jL (rs_M G k D y cn pn g sl sy sc pm K kb mj ma ml (T0 ++ T1)))) (fun _ => rfl) (fun _ => rfl) (fun u H locs hP hD hS => ?_)
  have hP : va_P G.1 vwCl (rs_X G q fi D y cn pn f xl xy xc ps j ja jl jL (rs_M G k D y cn pn g sl sy sc pm K kb mj ma ml (T0 ++ T1))) H := hP
  have hD : va_D (fun q : Nat => s.heap.size ≤ q) (rs_X G q fi D y cn pn f xl xy xc ps j ja jl jL (rs_M G k D y cn pn g sl sy sc pm K kb mj ma ml (T0 ++ T1))) := hD
  refine lv_aload_n hx hb dL_law_1289 rfl (lv_at hl 2 rfl) ?_
  refine lv_aload_n hx hb dL_law_1290 rfl (lv_at hl 0 rfl) ?_
  refine lv_iload_n hx hb dL_law_1291 rfl (lv_at hl 3 rfl) ?_
  refine lv_iconst (v := 1) hx hb dL_law_1292 (by decide) ?_
  refine lv_iadd hx hb dL_law_1293 ?_
  refine rs_sld 1 hx hb hXs hbl hbA hS rfl (by omega) hL h1 dL_law_1294 ?_
  refine rs_callVi (As := [.int p1]) (rest := [.int r]) (index := 151) ⟨hx, hb, hml, hown, hts⟩ (c_X11_told l G (k 0) (k 1) (k 2) (k 3) (k 4) (k 5) (k 6) (k 7) (k 8) (k 9) (k 10) (k 11) (k 12) (k 13) (k 14) (k 15) (k 16) (k 17) (k 18) (k 19) (nI (D 0)) (nI (D 1)) (nI (D 2)) (nI (D 3)) (nI (D 4)) (nI (D 5)) (nI (D 6)) (nI y) (nI cn) (nI pn) (mj 0) (mj 1) (mj 2) (mj 3) (mj 4) (mj 5) (mj 6) (mj 7) (mj 8) (mj 9) g p1 r hm1) (cwV 1 hts gL_law_X11_told rfl rfl rfl (by decide +kernel) ⟨Nat.le_of_ble_eq_true rfl, Nat.le_of_ble_eq_true rfl⟩) dL_law_1295 hK hP hD hS hA [29, 30] rfl (by decide) rfl rfl (q0 := 0) (ci := 11) rfl rfl rfl hl.1 (lv_room (Nat.le_of_ble_eq_true rfl)) hcs0 (fun (u : Unit) => (rs_X G q fi D y cn pn f xl xy xc ps j ja jl jL (rs_M G k D y cn pn g sl sy sc pm K kb mj ma ml (T0 ++ T1)))) (fun _ => rfl) (fun _ => rfl) (fun u H locs hP hD hS => ?_)
  have hP : va_P G.1 vwCl (rs_X G q fi D y cn pn f xl xy xc ps j ja jl jL (rs_M G k D y cn pn g sl sy sc pm K kb mj ma ml (T0 ++ T1))) H := hP
  have hD : va_D (fun q : Nat => s.heap.size ≤ q) (rs_X G q fi D y cn pn f xl xy xc ps j ja jl jL (rs_M G k D y cn pn g sl sy sc pm K kb mj ma ml (T0 ++ T1))) := hD
  refine lv_icmp_eq (tgt := 1303) hx hb dL_law_1298 (by decide) (fun _ => ?_) (fun hc => absurd rfl hc)
  refine W.widen (k := cells + 8) (n := slots + 76) (Nat.le_add_right _ _) (Nat.le_add_right _ _) ?_
  exact nx fi D V y cn pn f xl xy xc ps j ja jl jL g sl sy sc pm K kb mj ma ml S T0 T1 H locs ls ⟨hD0, hV, hX, hM, (by omega), hcn, hpn, e1, e2, e3, s1, s2, s3, (i0.up (Nat.le_add_right _ _)), (i1.up (Nat.le_add_right _ _))⟩ hP hD hS hl
