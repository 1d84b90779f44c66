theorem rs_in2z {p1 : Int32} (h : vp_in p1 2) : ∃ z : Nat, z < 2 ∧ p1 = nI z := by
  obtain ⟨j, hj, rfl⟩ := nI_of (fun z => h (Or.inl z))
  have h1 : ¬ 2 ≤ (nI j).toNatClampNeg := fun z => h (Or.inr z)
  rw [nI_clamp hj] at h1
  exact ⟨j, by omega, rfl⟩
set_option maxHeartbeats 2000000 in
theorem lw_image {p : Program} {l : Launch} {e : Env} {s : State} {m : MethodId} {below : List Frame} {meth : Method} {c : Code} {b L : Nat} {xs : Nat → Int32} {G : rs_G} (C0 : lw_Cx p s m c b L xs G) {N : Nat} (hN : 200000 < N) {cells slots : Nat} (hcs : cells + 8 ≤ 600000 ∧ slots + 76 ≤ 7302250) {i Y : Nat} (hi : i + 5 ≤ L) (hY : Y ≤ 2 ^ 21) {p1 p2 p3 p4 : Int32} (h1 : xs (i + 1) = p1) (h2 : xs (i + 2) = p2) (h3 : xs (i + 3) = p3) (h4 : xs (i + 4) = p4) {q k : Nat → Nat} {Q : State → Prop} {fi : Nat → Option Nat} {D : Nat → Nat} {V : Nat → Nat → Nat} {y : Nat} {cn : Nat} {pn : Nat} {f : Nat → Int32} {xl : Nat → Int32} {xy : Nat → Int32} {xc : Nat → Int32} {ps : Nat → Int32} {j : Nat → Int32} {ja : Nat → Nat → Int32} {jl : Nat → Nat → Int64} {jL : Nat → Int64} {g : Nat → Int32} {sl : Nat → Int32} {sy : Nat → Int32} {sc : Nat → Int32} {pm : Nat → Int32} {K : Nat → Int32} {kb : Nat → Int32} {mj : Nat → Int32} {ma : Nat → Nat → Int32} {ml : Nat → Nat → Int64} {S : Nat → Nat} {T0 : va_W} {T1 : va_W} {H : Heap} {locs : List Loc} {ls : Array Slot} (hI : rs_I G Y D V y cn pn f xl xy xc ps g sl sy sc pm K kb fi S T0 T1) (hP : va_P G.1 vwCl (rs_X G q fi D y cn pn f xl xy xc ps j ja jl jL (rs_M G k D y cn pn g sl sy sc pm K kb mj ma ml (T0 ++ T1))) H) (hD : va_D (fun q : Nat => s.heap.size ≤ q) (rs_X G q fi D y cn pn f xl xy xc ps j ja jl jL (rs_M G k D y cn pn g sl sy sc pm K kb mj ma ml (T0 ++ T1)))) (hS : va_S (fun q : Nat => s.heap.size ≤ q) s.heap H locs) (hl : lv_has ls 4 [(0, .ref b), (1, .ref (q 0)), (2, .ref (k 0)), (3, .int (nI i))]) (nx : lw_Nx p l e s m below meth c b G q k i (Y + 600) (cells + 8) (slots + 76) Q) : W p l e room_1 s m #[Value.ref b] below meth c H locs cells slots Q (F0 m 1234 ls []) := by
  obtain ⟨hD0, hV, hX, hM, hy, hcn, hpn, e1, e2, e3, s1, s2, s3, i0, i1⟩ := hI
  by_cases hp : vp_in p1 2
  · obtain ⟨z, hz, hpz⟩ := rs_in2z hp
    rcases (show z = 0 ∨ z = 1 by omega) with rfl | rfl
    · rcases i0 with ⟨hf, hkb, hT⟩ | ⟨a, E, U, yk, ck, fk, lk, jk, vk, hf, hkb, hT, hE, hU, hXk, hyk, hck, hKI⟩
      · subst hT
        refine lw_imageN C0 hN hcs hi hY h1 h2 h3 h4 (z := 0) (V := V) hz hpz hX hM e1 e2 e3 hf (T := T1) hP hD hS hl ?_
        intro a K2 f2 xl2 xy2 xc2 mj2 H locs ls hKI hKo hX2 hP hD hS hl
        exact nx (va_up fi 0 (some (a 0))) D V y cn pn f xl xy xc ps j ja jl jL g sl sy sc pm K2 (upd kb 0 1) mj2 ma ml S (rs_Im G a D y cn f2 xl2 xy2 xc2) T1 H locs ls ⟨hD0, hV, hX, hM, by omega, hcn, hpn, e1, e2, e3, s1, s2, s3, Or.inr ⟨a, D, V, y, cn, f2, xl2, xy2, xc2, by simp [va_up], by simp [upd], rfl, hD0, hV, hX2, by omega, hcn, hKI⟩, ((i1.up (Nat.le_add_right _ 600)).other (fun q h5 h6 => hKo q (by omega)) (by simp [upd]) (by simp [va_up]))⟩ hP hD hS hl
      · subst hT
        refine lw_imageK C0 hN hcs hi hY h1 h2 h3 h4 (z := 0) (U := U) (V := V) hz hpz hX hM e1 e2 e3 hf (T := T1) hP hD hS hl ?_
        intro K2 f2 xl2 xy2 xc2 mj2 H locs ls hKI hKo hX2 hP hD hS hl
        exact nx fi D V y cn pn f xl xy xc ps j ja jl jL g sl sy sc pm K2 (upd kb 0 1) mj2 ma ml S (rs_Im G a D y cn f2 xl2 xy2 xc2) T1 H locs ls ⟨hD0, hV, hX, hM, by omega, hcn, hpn, e1, e2, e3, s1, s2, s3, Or.inr ⟨a, D, V, y, cn, f2, xl2, xy2, xc2, hf, by simp [upd], rfl, hD0, hV, hX2, by omega, hcn, hKI⟩, ((i1.up (Nat.le_add_right _ 600)).other (fun q h5 h6 => hKo q (by omega)) (by simp [upd]) rfl)⟩ hP hD hS hl
    · have hP := rs_swapP (rs_X G q fi D y cn pn f xl xy xc ps j ja jl jL (rs_M G k D y cn pn g sl sy sc pm K kb mj ma ml [])) T0 T1 hP
      have hD := rs_swapD (rs_X G q fi D y cn pn f xl xy xc ps j ja jl jL (rs_M G k D y cn pn g sl sy sc pm K kb mj ma ml [])) T0 T1 hD
      rcases i1 with ⟨hf, hkb, hT⟩ | ⟨a, E, U, yk, ck, fk, lk, jk, vk, hf, hkb, hT, hE, hU, hXk, hyk, hck, hKI⟩
      · subst hT
        refine lw_imageN C0 hN hcs hi hY h1 h2 h3 h4 (z := 1) (V := V) hz hpz hX hM e1 e2 e3 hf (T := T0) hP hD hS hl ?_
        intro a K2 f2 xl2 xy2 xc2 mj2 H locs ls hKI hKo hX2 hP hD hS hl
        have hP := rs_swapP (rs_X G q (va_up fi 1 (some (a 0))) D y cn pn f xl xy xc ps j ja jl jL (rs_M G k D y cn pn g sl sy sc pm K2 (upd kb 1 1) mj2 ma ml [])) (rs_Im G a D y cn f2 xl2 xy2 xc2) T0 hP
        have hD := rs_swapD (rs_X G q (va_up fi 1 (some (a 0))) D y cn pn f xl xy xc ps j ja jl jL (rs_M G k D y cn pn g sl sy sc pm K2 (upd kb 1 1) mj2 ma ml [])) (rs_Im G a D y cn f2 xl2 xy2 xc2) T0 hD
        exact nx (va_up fi 1 (some (a 0))) D V y cn pn f xl xy xc ps j ja jl jL g sl sy sc pm K2 (upd kb 1 1) mj2 ma ml S T0 (rs_Im G a D y cn f2 xl2 xy2 xc2) H locs ls ⟨hD0, hV, hX, hM, by omega, hcn, hpn, e1, e2, e3, s1, s2, s3, ((i0.up (Nat.le_add_right _ 600)).other (fun q h5 h6 => hKo q (by omega)) (by simp [upd]) (by simp [va_up])), Or.inr ⟨a, D, V, y, cn, f2, xl2, xy2, xc2, by simp [va_up], by simp [upd], rfl, hD0, hV, hX2, by omega, hcn, hKI⟩⟩ hP hD hS hl
      · subst hT
        refine lw_imageK C0 hN hcs hi hY h1 h2 h3 h4 (z := 1) (U := U) (V := V) hz hpz hX hM e1 e2 e3 hf (T := T0) hP hD hS hl ?_
        intro K2 f2 xl2 xy2 xc2 mj2 H locs ls hKI hKo hX2 hP hD hS hl
        have hP := rs_swapP (rs_X G q fi D y cn pn f xl xy xc ps j ja jl jL (rs_M G k D y cn pn g sl sy sc pm K2 (upd kb 1 1) mj2 ma ml [])) (rs_Im G a D y cn f2 xl2 xy2 xc2) T0 hP
        have hD := rs_swapD (rs_X G q fi D y cn pn f xl xy xc ps j ja jl jL (rs_M G k D y cn pn g sl sy sc pm K2 (upd kb 1 1) mj2 ma ml [])) (rs_Im G a D y cn f2 xl2 xy2 xc2) T0 hD
        exact nx fi D V y cn pn f xl xy xc ps j ja jl jL g sl sy sc pm K2 (upd kb 1 1) mj2 ma ml S T0 (rs_Im G a D y cn f2 xl2 xy2 xc2) H locs ls ⟨hD0, hV, hX, hM, by omega, hcn, hpn, e1, e2, e3, s1, s2, s3, ((i0.up (Nat.le_add_right _ 600)).other (fun q h5 h6 => hKo q (by omega)) (by simp [upd]) rfl), Or.inr ⟨a, D, V, y, cn, f2, xl2, xy2, xc2, hf, by simp [upd], rfl, hD0, hV, hX2, by omega, hcn, hKI⟩⟩ hP hD hS hl
  · refine lw_imageNo C0 hN hcs hi hY h1 h2 h3 h4 hp (T := T0 ++ T1) hP hD hS hl ?_
    intro mj2 H locs ls hP hD hS hl
    exact nx fi D V y cn pn f xl xy xc ps j ja jl jL g sl sy sc pm K kb mj2 ma ml S T0 T1 H locs ls ⟨hD0, hV, hX, hM, by omega, hcn, hpn, e1, e2, e3, s1, s2, s3, (i0.up (Nat.le_add_right _ 600)), (i1.up (Nat.le_add_right _ 600))⟩ hP hD hS hl
set_option maxHeartbeats 2000000 in
theorem lw_restore {p : Program} {l : Launch} {e : Env} {s : State} {m : MethodId} {below : List Frame} {meth : Method} {c : Code} {b L : Nat} {xs : Nat → Int32} {G : rs_G} (C0 : lw_Cx p s m c b L xs G) {N : Nat} (hN : 200000 < N) {cells slots : Nat} (hcs : cells + 8 ≤ 600000 ∧ slots + 76 ≤ 7302250) {i Y : Nat} (hi : i + 5 ≤ L) (hY : Y ≤ 2 ^ 21) {p1 p2 p3 p4 : Int32} (h1 : xs (i + 1) = p1) (h2 : xs (i + 2) = p2) (h3 : xs (i + 3) = p3) (h4 : xs (i + 4) = p4) {q k : Nat → Nat} {Q : State → Prop} {fi : Nat → Option Nat} {D : Nat → Nat} {V : Nat → Nat → Nat} {y : Nat} {cn : Nat} {pn : Nat} {f : Nat → Int32} {xl : Nat → Int32} {xy : Nat → Int32} {xc : Nat → Int32} {ps : Nat → Int32} {j : Nat → Int32} {ja : Nat → Nat → Int32} {jl : Nat → Nat → Int64} {jL : Nat → Int64} {g : Nat → Int32} {sl : Nat → Int32} {sy : Nat → Int32} {sc : Nat → Int32} {pm : Nat → Int32} {K : Nat → Int32} {kb : Nat → Int32} {mj : Nat → Int32} {ma : Nat → Nat → Int32} {ml : Nat → Nat → Int64} {S : Nat → Nat} {T0 : va_W} {T1 : va_W} {H : Heap} {locs : List Loc} {ls : Array Slot} (hI : rs_I G Y D V y cn pn f xl xy xc ps g sl sy sc pm K kb fi S T0 T1) (hP : va_P G.1 vwCl (rs_X G q fi D y cn pn f xl xy xc ps j ja jl jL (rs_M G k D y cn pn g sl sy sc pm K kb mj ma ml (T0 ++ T1))) H) (hD : va_D (fun q : Nat => s.heap.size ≤ q) (rs_X G q fi D y cn pn f xl xy xc ps j ja jl jL (rs_M G k D y cn pn g sl sy sc pm K kb mj ma ml (T0 ++ T1)))) (hS : va_S (fun q : Nat => s.heap.size ≤ q) s.heap H locs) (hl : lv_has ls 4 [(0, .ref b), (1, .ref (q 0)), (2, .ref (k 0)), (3, .int (nI i))]) (nx : lw_Nx p l e s m below meth c b G q k i (Y + 600) (cells + 8) (slots + 76) Q) : W p l e room_1 s m #[Value.ref b] below meth c H locs cells slots Q (F0 m 1257 ls []) := by
  obtain ⟨hD0, hV, hX, hM, hy, hcn, hpn, e1, e2, e3, s1, s2, s3, i0, i1⟩ := hI
  by_cases hp : vp_in p1 2
  · obtain ⟨z, hz, hpz⟩ := rs_in2z hp
    rcases (show z = 0 ∨ z = 1 by omega) with rfl | rfl
    · rcases i0 with ⟨hf, hkb, hT⟩ | ⟨a, E, U, yk, ck, fk, lk, jk, vk, hf, hkb, hT, hE, hU, hXk, hyk, hck, hKI⟩
      · subst hT
        refine lw_restoreNone C0 hN hcs hi hY h1 h2 h3 h4 (z := 0) hz hpz hf hkb (T := T1) hP hD hS hl ?_
        intro mj2 H locs ls hP hD hS hl
        exact nx fi D V y cn pn f xl xy xc ps j ja jl jL g sl sy sc pm K kb mj2 ma ml S ([]) T1 H locs ls ⟨hD0, hV, hX, hM, by omega, hcn, hpn, e1, e2, e3, s1, s2, s3, Or.inl ⟨hf, hkb, rfl⟩, (i1.up (Nat.le_add_right _ 600))⟩ hP hD hS hl
      · have hT2 := hT
        subst hT2
        refine lw_restoreK C0 hN hcs hi hY h1 h2 h3 h4 (z := 0) (U := U) hz hpz hf hkb hXk hKI (T := T1) hP hD hS hl ?_
        intro f2 xl2 xy2 xc2 g2 sl2 sy2 sc2 mj2 H locs ls hX2 hM2 z1 z2 z3 hP hD hS hl
        exact nx fi E U yk ck pn f2 xl2 xy2 xc2 ps j ja jl jL g2 sl2 sy2 sc2 pm K kb mj2 ma ml S (rs_Im G a E yk ck fk lk jk vk) T1 H locs ls ⟨hE, hU, hX2, hM2, by omega, hck, hpn, z1, z2, z3, s1, s2, s3, Or.inr ⟨a, E, U, yk, ck, fk, lk, jk, vk, hf, hkb, rfl, hE, hU, hXk, by omega, hck, hKI⟩, (i1.up (Nat.le_add_right _ 600))⟩ hP hD hS hl
    · have hP := rs_swapP (rs_X G q fi D y cn pn f xl xy xc ps j ja jl jL (rs_M G k D y cn pn g sl sy sc pm K kb mj ma ml [])) T0 T1 hP
      have hD := rs_swapD (rs_X G q fi D y cn pn f xl xy xc ps j ja jl jL (rs_M G k D y cn pn g sl sy sc pm K kb mj ma ml [])) T0 T1 hD
      rcases i1 with ⟨hf, hkb, hT⟩ | ⟨a, E, U, yk, ck, fk, lk, jk, vk, hf, hkb, hT, hE, hU, hXk, hyk, hck, hKI⟩
      · subst hT
        refine lw_restoreNone C0 hN hcs hi hY h1 h2 h3 h4 (z := 1) hz hpz hf hkb (T := T0) hP hD hS hl ?_
        intro mj2 H locs ls hP hD hS hl
        have hP := rs_swapP (rs_X G q fi D y cn pn f xl xy xc ps j ja jl jL (rs_M G k D y cn pn g sl sy sc pm K kb mj2 ma ml [])) [] T0 hP
        have hD := rs_swapD (rs_X G q fi D y cn pn f xl xy xc ps j ja jl jL (rs_M G k D y cn pn g sl sy sc pm K kb mj2 ma ml [])) [] T0 hD
        exact nx fi D V y cn pn f xl xy xc ps j ja jl jL g sl sy sc pm K kb mj2 ma ml S T0 ([]) H locs ls ⟨hD0, hV, hX, hM, by omega, hcn, hpn, e1, e2, e3, s1, s2, s3, (i0.up (Nat.le_add_right _ 600)), Or.inl ⟨hf, hkb, rfl⟩⟩ hP hD hS hl
      · have hT2 := hT
        subst hT2
        refine lw_restoreK C0 hN hcs hi hY h1 h2 h3 h4 (z := 1) (U := U) hz hpz hf hkb hXk hKI (T := T0) hP hD hS hl ?_
        intro f2 xl2 xy2 xc2 g2 sl2 sy2 sc2 mj2 H locs ls hX2 hM2 z1 z2 z3 hP hD hS hl
        have hP := rs_swapP (rs_X G q fi E yk ck pn f2 xl2 xy2 xc2 ps j ja jl jL (rs_M G k E yk ck pn g2 sl2 sy2 sc2 pm K kb mj2 ma ml [])) (rs_Im G a E yk ck fk lk jk vk) T0 hP
        have hD := rs_swapD (rs_X G q fi E yk ck pn f2 xl2 xy2 xc2 ps j ja jl jL (rs_M G k E yk ck pn g2 sl2 sy2 sc2 pm K kb mj2 ma ml [])) (rs_Im G a E yk ck fk lk jk vk) T0 hD
        exact nx fi E U yk ck pn f2 xl2 xy2 xc2 ps j ja jl jL g2 sl2 sy2 sc2 pm K kb mj2 ma ml S T0 (rs_Im G a E yk ck fk lk jk vk) H locs ls ⟨hE, hU, hX2, hM2, by omega, hck, hpn, z1, z2, z3, s1, s2, s3, (i0.up (Nat.le_add_right _ 600)), Or.inr ⟨a, E, U, yk, ck, fk, lk, jk, vk, hf, hkb, rfl, hE, hU, hXk, by omega, hck, hKI⟩⟩ hP hD hS hl
  · refine lw_restoreNo C0 hN hcs hi hY h1 h2 h3 h4 hp (T := T0 ++ T1) hP hD hS hl ?_
    intro mj2 H locs ls hP hD hS hl
    exact nx fi D V y cn pn f xl xy xc ps j ja jl jL g sl sy sc pm K kb mj2 ma ml S T0 T1 H locs ls ⟨hD0, hV, hX, hM, by omega, hcn, hpn, e1, e2, e3, s1, s2, s3, (i0.up (Nat.le_add_right _ 600)), (i1.up (Nat.le_add_right _ 600))⟩ hP hD hS hl
