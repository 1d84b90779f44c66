def rs_ls {α : Type} (l : List α) (d : Nat → α) (n : Nat) : α := (l[n]?).getD (d n)
def rs_X (G : rs_G) (q : Nat → Nat) (fi : Nat → Option Nat) (D : Nat → Nat) (y : Nat) (cn : Nat) (pn : Nat) (f : Nat → Int32) (xl : Nat → Int32) (xy : Nat → Int32) (xc : Nat → Int32) (ps : Nat → Int32) (j : Nat → Int32) (ja : Nat → Nat → Int32) (jl : Nat → Nat → Int64) (jL : Nat → Int64) (T : va_W) : va_W :=
  ((q 0), .inr (10, [.ref (q 1), .ref (q 9), .ref (q 10), .ref (q 12), .ref (q 17), .ref (q 20), .ref (q 23), .ref (q 26)])) ::
  ((q 1), .inr (9, [.ref (q 2), .ref (q 3), .ref (q 5), .int (nI y)])) ::
  ((q 2), .inr (4, [.int (nI (D 0)), .int (nI (D 1)), .int (nI (D 2)), .int (nI (D 3)), .int (nI (D 4)), .int (nI (D 5)), .int (nI (D 6))])) ::
  ((q 3), .inr (6, [.ref (q 4)])) ::
  ((q 4), .inl (G.2.1, 36, .inl f)) ::
  ((q 5), .inr (5, [.ref (q 6), .ref (q 7), .ref (q 8), .int (nI cn)])) ::
  ((q 6), .inl (G.2.1, 8, .inl xl)) ::
  ((q 7), .inl (G.2.1, 8, .inl xy)) ::
  ((q 8), .inl (G.2.1, 8, .inl xc)) ::
  ((q 9), .inl (G.2.2.2.2.2, 2, .inr (.inr (.inr (.inr fi))))) ::
  ((q 10), .inr (3, [.ref (q 11), .int (nI pn)])) ::
  ((q 11), .inl (G.2.2.2.1, 60, .inl ps)) ::
  ((q 12), .inr (7, [.ref (q 13), .ref (q 14), .ref (q 16), .int (j 0), .int (j 1), .int (j 2), .int (j 3), .int (j 4), .int (j 5), .int (j 6)])) ::
  ((q 13), .inr (4, [.int (j 7), .int (j 8), .int (j 9), .int (j 10), .int (j 11), .int (j 12), .int (j 13)])) ::
  ((q 14), .inr (6, [.ref (q 15)])) ::
  ((q 15), .inl (G.2.1, 36, .inl (ja 0))) ::
  ((q 16), .inl (G.2.1, 9, .inl (ja 1))) ::
  ((q 17), .inr (8, [.ref (q 18), .ref (q 19)])) ::
  ((q 18), .inl (G.2.2.1, 9, .inr (.inl (jl 0)))) ::
  ((q 19), .inl (G.2.2.1, 9, .inr (.inl (jl 1)))) ::
  ((q 20), .inr (1, [.ref (q 21), .ref (q 22), .int (j 21), .int (j 22)])) ::
  ((q 21), .inr (4, [.int (j 14), .int (j 15), .int (j 16), .int (j 17), .int (j 18), .int (j 19), .int (j 20)])) ::
  ((q 22), .inl (G.2.1, 9, .inl (ja 2))) ::
  ((q 23), .inr (0, [.ref (q 24), .ref (q 25)])) ::
  ((q 24), .inl (G.2.1, 892, .inl (ja 3))) ::
  ((q 25), .inl (G.2.1, 892, .inl (ja 4))) ::
  ((q 26), .inr (2, [.ref (q 27), .ref (q 28), .long (jL 0), .long (jL 1)])) ::
  ((q 27), .inl (G.2.2.1, 100, .inr (.inl (jl 2)))) ::
  ((q 28), .inl (G.2.2.1, 100, .inr (.inl (jl 3)))) :: T
def rs_M (G : rs_G) (k : Nat → Nat) (D : Nat → Nat) (y : Nat) (cn : Nat) (pn : Nat) (g : Nat → Int32) (sl : Nat → Int32) (sy : Nat → Int32) (sc : Nat → Int32) (pm : Nat → Int32) (K : Nat → Int32) (kb : Nat → Int32) (mj : Nat → Int32) (ma : Nat → Nat → Int32) (ml : Nat → Nat → Int64) (T : va_W) : va_W :=
  (k 0, .inr (11, [.int (nI (D 0)), .int (nI (D 1)), .int (nI (D 2)), .int (nI (D 3)), .int (nI (D 4)), .int (nI (D 5)), .int (nI (D 6)), .int (nI y), .ref (k 1), .ref (k 2), .ref (k 3), .ref (k 4), .int (nI cn), .ref (k 5), .int (nI pn), .ref (k 6), .ref (k 7), .ref (k 8), .ref (k 9), .int (mj 0), .int (mj 1), .ref (k 10), .ref (k 11), .int (mj 2), .int (mj 3), .int (mj 4), .int (mj 5), .ref (k 12), .int (mj 6), .ref (k 13), .ref (k 14), .ref (k 15), .ref (k 16), .int (mj 7), .ref (k 17), .ref (k 18), .ref (k 19), .int (mj 8), .int (mj 9)])) ::
  (k 1, .inl (G.2.1, 36, .inl g)) ::
  (k 2, .inl (G.2.1, 8, .inl sl)) ::
  (k 3, .inl (G.2.1, 8, .inl sy)) ::
  (k 4, .inl (G.2.1, 8, .inl sc)) ::
  (k 5, .inl (G.2.1, 60, .inl pm)) ::
  (k 6, .inl (G.2.1, 60, .inl (ma 0))) ::
  (k 7, .inl (G.2.1, 60, .inl (ma 1))) ::
  (k 8, .inl (G.2.1, 60, .inl (ma 2))) ::
  (k 9, .inl (G.2.1, 60, .inl (ma 3))) ::
  (k 10, .inl (G.2.1, 9, .inl (ma 4))) ::
  (k 11, .inl (G.2.1, 9, .inl (ma 5))) ::
  (k 12, .inl (G.2.1, 9, .inl (ma 6))) ::
  (k 13, .inl (G.2.1, 892, .inl (ma 7))) ::
  (k 14, .inl (G.2.1, 892, .inl (ma 8))) ::
  (k 15, .inl (G.2.2.1, 9, .inr (.inl (ml 0)))) ::
  (k 16, .inl (G.2.2.1, 9, .inr (.inl (ml 1)))) ::
  (k 17, .inl (G.2.1, 9, .inl (ma 9))) ::
  (k 18, .inl (G.2.1, 160, .inl K)) ::
  (k 19, .inl (G.2.2.2.2.1, 2, .inl kb)) :: T
def rs_Im (G : rs_G) (a E : Nat → Nat) (y cn : Nat) (f xl xy xc : Nat → Int32) : va_W :=
  [(a 0, .inr (9, [.ref (a 1), .ref (a 2), .ref (a 4), .int (nI y)])), (a 1, .inr (4, [.int (nI (E 0)), .int (nI (E 1)), .int (nI (E 2)), .int (nI (E 3)), .int (nI (E 4)), .int (nI (E 5)), .int (nI (E 6))])), (a 2, .inr (6, [.ref (a 3)])), (a 3, .inl (G.2.1, 36, .inl f)), (a 4, .inr (5, [.ref (a 5), .ref (a 6), .ref (a 7), .int (nI cn)])), (a 5, .inl (G.2.1, 8, .inl xl)), (a 6, .inl (G.2.1, 8, .inl xy)), (a 7, .inl (G.2.1, 8, .inl xc))]
def rs_IM (G : rs_G) (K kb : Nat → Int32) (fi : Nat → Option Nat) (Y k : Nat) (T : va_W) : Prop :=
  (fi k = none ∧ kb k = 0 ∧ T = []) ∨ ∃ (a E : Nat → Nat) (U : Nat → Nat → Nat) (y cn : Nat) (f xl xy xc : Nat → Int32), fi k = some (a 0) ∧ kb k = 1 ∧ T = rs_Im G a E y cn f xl xy xc ∧ sd_ok E ∧ vok U ∧ XS U f ∧ y ≤ Y ∧ cn ≤ 8 ∧ KI K (80 * k) E U y cn xl xy xc
theorem rs_IM.up {G : rs_G} {K kb : Nat → Int32} {fi : Nat → Option Nat} {Y Y2 k : Nat} {T : va_W} (hY : Y ≤ Y2) (h : rs_IM G K kb fi Y k T) : rs_IM G K kb fi Y2 k T := by
  rcases h with h | ⟨a, E, U, y, cn, f, xl, xy, xc, h1, h2, h3, h4, h5, h6, h7, h8, h9⟩
  · exact Or.inl h
  · exact Or.inr ⟨a, E, U, y, cn, f, xl, xy, xc, h1, h2, h3, h4, h5, h6, Nat.le_trans h7 hY, h8, h9⟩
def rs_I (G : rs_G) (Y : Nat) (D : Nat → Nat) (V : Nat → Nat → Nat) (y : Nat) (cn : Nat) (pn : Nat) (f : Nat → Int32) (xl : Nat → Int32) (xy : Nat → Int32) (xc : Nat → Int32) (ps : Nat → Int32) (g : Nat → Int32) (sl : Nat → Int32) (sy : Nat → Int32) (sc : Nat → Int32) (pm : Nat → Int32) (K : Nat → Int32) (kb : Nat → Int32) (fi : Nat → Option Nat) (S : Nat → Nat) (T0 : va_W) (T1 : va_W) : Prop := sd_ok D ∧ vok V ∧ XS V f ∧ MS V g ∧ y ≤ Y ∧ cn ≤ 8 ∧ pn ≤ 60 ∧ (∀ j, j < 8 → xl j = sl j) ∧ (∀ j, j < 8 → xy j = sy j) ∧ (∀ j, j < 8 → xc j = sc j) ∧ (∀ j, j < 60 → S j < 65536) ∧ (∀ j, j < 60 → ps j = nI (S j)) ∧ (∀ j, j < 60 → pm j = nI (S j)) ∧ rs_IM G K kb fi Y 0 T0 ∧ rs_IM G K kb fi Y 1 T1
def lw_Cx (p : Program) (s : State) (m : MethodId) (c : Code) (b L : Nat) (xs : Nat → Int32) (G : rs_G) : Prop := p.tables.exec = Jvm.exec ∧ c.code = cL_law ∧ c.maxLocals = 4 ∧ s.vm.findClass RL = some m.cls ∧ (∀ w ∈ wsL_law, w.before #[Value.ref b] s = true) ∧ va_X b L xs s s.heap ∧ b < s.heap.size ∧ rs_K G s ∧ L ≤ 2560
def lw_Nx (p : Program) (l : Launch) (e : Env) (s : State) (m : MethodId) (below : List Frame) (meth : Method) (c : Code) (b : Nat) (G : rs_G) (q k : Nat → Nat) (i Y cells slots : Nat) (Q : State → Prop) : Prop := ∀ (fi : Nat → Option Nat) (D : Nat → Nat) (V : Nat → Nat → Nat) (y : Nat) (cn : Nat) (pn : Nat) (f : Nat → Int32) (xl : Nat → Int32) (xy : Nat → Int32) (xc : Nat → Int32) (ps : Nat → Int32) (j : Nat → Int32) (ja : Nat → Nat → Int32) (jl : Nat → Nat → Int64) (jL : Nat → Int64) (g : Nat → Int32) (sl : Nat → Int32) (sy : Nat → Int32) (sc : Nat → Int32) (pm : Nat → Int32) (K : Nat → Int32) (kb : Nat → Int32) (mj : Nat → Int32) (ma : Nat → Nat → Int32) (ml : Nat → Nat → Int64) (S : Nat → Nat) (T0 : va_W) (T1 : va_W) (H : Heap) (locs : List Loc) (ls : Array Slot), rs_I G Y D V y cn pn f xl xy xc ps g sl sy sc pm K kb fi S T0 T1 → va_P G.1 vwCl (rs_X G q fi D y cn pn f xl xy xc ps j ja jl jL (rs_M G k D y cn pn g sl sy sc pm K kb mj ma ml (T0 ++ T1))) H → va_D (fun q : Nat => s.heap.size ≤ q) (rs_X G q fi D y cn pn f xl xy xc ps j ja jl jL (rs_M G k D y cn pn g sl sy sc pm K kb mj ma ml (T0 ++ T1))) → va_S (fun q : Nat => s.heap.size ≤ q) s.heap H locs → lv_has ls 4 [(0, .ref b), (1, .ref (q 0)), (2, .ref (k 0)), (3, .int (nI i))] → W p l e room_1 s m #[Value.ref b] below meth c H locs cells slots Q (F0 m 1303 ls [])
theorem rs_sld {p : Program} {l : Launch} {e : Env} {R : Room} {s : State} {m : MethodId} {args : Array Value} {below : List Frame} {meth : Method} {c : Code} {H : Heap} {locs : List Loc} {cells slots : Nat} {Q : State → Prop} {cc : ByteArray} {pc : Nat} {ls : Array Slot} {rest : List Value} {A : Nat → Prop} {b L i : Nat} {xs : Nat → Int32} {dx v : Int32} (d : Nat) (hexec : p.tables.exec = Jvm.exec) (hb : c.code = cc) (hX : va_X b L xs s s.heap) (hbl : b < s.heap.size) (hbA : ¬ A b) (hS : va_S A s.heap H locs) (hdx : nI d = dx) (hid : i + d < L) (hL : L ≤ 2560) (hv : xs (i + d) = v) (hdg : decode cc pc = .ok (.iaload, 1))
    (kk : W p l e R s m args below meth c H locs cells slots Q (F0 m (pc + 1) ls (.int v :: rest))) : W p l e R s m args below meth c H locs cells slots Q (F0 m pc ls (.int (nI i + dx) :: .ref b :: rest)) := by
  subst hdx
  rw [nI_add]
  refine va_sld hexec hb hX hbl hbA hS (vp_in_nI hid (by omega)) hdg ?_
  rw [nI_clamp (by omega), hv]
  exact kk
theorem sd_ok_eq {D E : Nat → Nat} (h : sd_ok E) (h0 : D 0 = E 0) (h1 : D 1 = E 1) (h2 : D 2 = E 2) (h3 : D 3 = E 3) (h4 : D 4 = E 4) (h5 : D 5 = E 5) (h6 : D 6 = E 6) : sd_ok D := by
  unfold sd_ok at h ⊢
  rw [h0, h1, h2, h3, h4, h5, h6]
  exact h
theorem lg_cmp_self (x : Int64) : lg_cmp x x = 0 := by
  unfold lg_cmp
  rw [if_neg (by rw [gt_iff_lt, Int64.lt_iff_toInt_lt]; omega), if_pos rfl]
