/-! THE CLAIM OUT OF ONE WALK OF THE LAW'S BODY. Your part is whole_start (and what it stands on); all else here is the same for every law, but numbers. -/
def R_law : String := "RingShadowLaw"
def lw_P (b : Addr) (xs : List Int32) (args : Array Value) (s : State) : Prop := args = #[.ref b] ∧ s.IntsAt b xs ∧ xs.length ≤ 2560 ∧ (Jvm.Cond.and given_1 narrow_1).before args s = true
def lw_Q (_ : Array Value) (s : State) (o : Outcome) (t : State) : Prop := o = .returned (some (.int 1)) ∧ Framed s o t [] 600000 7302250
def lw_Z (below : List Frame) (a : Array Value) (s : State) : State → Prop := fun t => ∃ o, t.status = .running ∧ Ended t below o ∧ lw_Q a s o t
/-- the law's own end, with 1 on the stack, nothing written that was there before, its room as the claim has it -/
theorem lw_ret {p : Program} {l : Launch} {e : Env} {s : State} {m : MethodId} {below : List Frame} {meth : Method} {c : Code} {b : Nat} (hx : p.tables.exec = Jvm.exec) (hb : c.code = code) (hr : meth.sig.returnType = ret) (hlocks : meth.locks = false) {pc : Nat} {H : Heap} {ls : Array Slot} (hdg : decode code pc = .ok (.ireturn, 1)) : W p l e room_1 s m #[Value.ref b] below meth c H [] 600000 7302250 (lw_Z below #[Value.ref b] s) (F0 m pc ls [.int 1]) := by
  intro T hT X
  obtain ⟨fs, hret, hrun, hended, hW, hframe⟩ := X.leave (v := some (.int 1)) (hlocks := hlocks) (fun h => by rw [hr] at h; cases h)
  have hmeth' : T.vm.method? m = some meth := X.method'
  refine ⟨T.setFrames fs, ?_, .returned (some (.int 1)), hrun, hended, rfl, ⟨_, rfl⟩, hW, hframe⟩
  jvm_step X.here [X.here.top, hx, hb, hdg, hmeth', hr, ret, narrow_b1]
  (try refine ⟨rfl, ?_⟩); (try refine ⟨rfl, ?_⟩)
  first | (intro acts; rw [hret _ acts rfl rfl rfl]) | rw [hret _ _ rfl rfl rfl]
  exact Steps.refl _
/-- what holds at the law's entry: the machine, the code, the tables' words (any of lw_tbl by 'hts w (by decide +kernel)'), the script of L ints xs at the cell b, what the Statement gives of the start (any of its parts by flat_of_before) -/
def lw_At (p : Program) (s : State) (m : MethodId) (meth : Method) (c : Code) (b L : Nat) (xs : Nat → Int32) : Prop :=
  p.tables.exec = Jvm.exec ∧ c.code = code ∧ meth.sig.returnType = ret ∧ c.maxLocals = 4 ∧ s.vm.findClass R_law = some m.cls ∧ (∀ w ∈ lw_tbl, w.before #[Value.ref b] s = true) ∧ va_X b L xs s s.heap ∧ b < s.heap.size ∧ meth.locks = false ∧ (Jvm.Cond.and given_1 narrow_1).before #[Value.ref b] s = true
theorem rs_I.up {G : rs_G} {Y Y2 : Nat} {D : Nat → Nat} {V : Nat → Nat → Nat} {y : Nat} {cn : Nat} {pn : Nat} {f : Nat → Int32} {xl : Nat → Int32} {xy : Nat → Int32} {xc : Nat → Int32} {ps : Nat → Int32} {g : Nat → Int32} {sl : Nat → Int32} {sy : Nat → Int32} {sc : Nat → Int32} {pm : Nat → Int32} {K : Nat → Int32} {kb : Nat → Int32} {fi : Nat → Option Nat} {S : Nat → Nat} {T0 : va_W} {T1 : va_W} (hY : Y ≤ Y2) (h : rs_I G Y D V y cn pn f xl xy xc ps g sl sy sc pm K kb fi S T0 T1) : rs_I G Y2 D V y cn pn f xl xy xc ps g sl sy sc pm K kb fi S T0 T1 := by
  obtain ⟨hD0, hV, hX, hM, hy, hcn, hpn, e1, e2, e3, s1, s2, s3, i0, i1⟩ := h
  exact ⟨hD0, hV, hX, hM, Nat.le_trans hy hY, hcn, hpn, e1, e2, e3, s1, s2, s3, i0.up hY, i1.up hY⟩
set_option maxHeartbeats 4000000 in
theorem lw_round {p : Program} {l : Launch} {e : Env} {s : State} {m : MethodId} {below : List Frame} {meth : Method} {c : Code} {b L : Nat} {xs : Nat → Int32} {G : rs_G} (C0 : lw_Cx p s m c b L xs G) {N : Nat} (hN : 200000 < N) {cells slots : Nat} (hcs : cells + 8 ≤ 600000 ∧ slots + 76 ≤ 7302250) {i Y : Nat} (hi : i + 5 ≤ L) (hY : Y ≤ 2 ^ 21) {q k : Nat → Nat} {Q : State → Prop} {fi : Nat → Option Nat} {D : Nat → Nat} {V : Nat → Nat → Nat} {y : Nat} {cn : Nat} {pn : Nat} {f : Nat → Int32} {xl : Nat → Int32} {xy : Nat → Int32} {xc : Nat → Int32} {ps : Nat → Int32} {j : Nat → Int32} {ja : Nat → Nat → Int32} {jl : Nat → Nat → Int64} {jL : Nat → Int64} {g : Nat → Int32} {sl : Nat → Int32} {sy : Nat → Int32} {sc : Nat → Int32} {pm : Nat → Int32} {K : Nat → Int32} {kb : Nat → Int32} {mj : Nat → Int32} {ma : Nat → Nat → Int32} {ml : Nat → Nat → Int64} {S : Nat → Nat} {T0 : va_W} {T1 : va_W} {H : Heap} {locs : List Loc} {ls : Array Slot} (hI : rs_I G Y D V y cn pn f xl xy xc ps g sl sy sc pm K kb fi S T0 T1) (hP : va_P G.1 vwCl (rs_X G q fi D y cn pn f xl xy xc ps j ja jl jL (rs_M G k D y cn pn g sl sy sc pm K kb mj ma ml (T0 ++ T1))) H) (hD : va_D (fun q : Nat => s.heap.size ≤ q) (rs_X G q fi D y cn pn f xl xy xc ps j ja jl jL (rs_M G k D y cn pn g sl sy sc pm K kb mj ma ml (T0 ++ T1)))) (hS : va_S (fun q : Nat => s.heap.size ≤ q) s.heap H locs) (hl : lv_has ls 4 [(0, .ref b), (1, .ref (q 0)), (2, .ref (k 0)), (3, .int (nI i))]) (nx : lw_Nx p l e s m below meth c b G q k i (Y + 600) (cells + 8) (slots + 76) Q) (x : Int32) : W p l e room_1 s m #[Value.ref b] below meth c H locs cells slots Q (F0 m 32 ls [.int x]) := by
  obtain ⟨hx, hb, hml, hown, hts, hXs, hbl, hK, hL⟩ := id C0
  by_cases hout : x.toInt < 0 ∨ 32 < x.toInt
  · refine lv_tableOut (tgt := 1303) hx hb dL_law_32 hout (by decide) ?_
    refine W.widen (k := cells + 8) (n := slots + 76) (Nat.le_add_right _ _) (Nat.le_add_right _ _) ?_
    exact nx fi D V y cn pn f xl xy xc ps j ja jl jL g sl sy sc pm K kb mj ma ml S T0 T1 H locs ls (hI.up (Nat.le_add_right _ _)) hP hD hS hl
  obtain ⟨n, hn, hxn⟩ : ∃ n : Nat, n ≤ 32 ∧ x.toInt = (n : Int) := ⟨x.toInt.toNat, by omega, by omega⟩
  have ha : ¬ x.toInt < 0 := by omega
  have hc : ¬ 32 < x.toInt := by omega
  obtain ⟨p1, h1⟩ : ∃ v, xs (i + 1) = v := ⟨_, rfl⟩
  obtain ⟨p2, h2⟩ : ∃ v, xs (i + 2) = v := ⟨_, rfl⟩
  obtain ⟨p3, h3⟩ : ∃ v, xs (i + 3) = v := ⟨_, rfl⟩
  obtain ⟨p4, h4⟩ : ∃ v, xs (i + 4) = v := ⟨_, rfl⟩
  match n, hn, hxn with
  | 0, _, hxn =>
    refine lv_tableIn (tgt := 180) (off := 148) hx hb dL_law_32 ha hc (by rw [hxn]; rfl) (by decide) ?_
    exact lw_lands C0 hN hcs hi hY h1 h2 h3 h4 hI hP hD hS hl nx
  | 1, _, hxn =>
    refine lv_tableIn (tgt := 213) (off := 181) hx hb dL_law_32 ha hc (by rw [hxn]; rfl) (by decide) ?_
    exact lw_set C0 hN hcs hi hY h1 h2 h3 h4 hI hP hD hS hl nx
  | 2, _, hxn =>
    refine lv_tableIn (tgt := 246) (off := 214) hx hb dL_law_32 ha hc (by rw [hxn]; rfl) (by decide) ?_
    exact lw_land C0 hN hcs hi hY h1 h2 h3 h4 hI hP hD hS hl nx
  | 3, _, hxn =>
    refine lv_tableIn (tgt := 289) (off := 257) hx hb dL_law_32 ha hc (by rw [hxn]; rfl) (by decide) ?_
    exact lw_say C0 hN hcs hi hY h1 h2 h3 h4 hI hP hD hS hl nx
  | 4, _, hxn =>
    refine lv_tableIn (tgt := 312) (off := 280) hx hb dL_law_32 ha hc (by rw [hxn]; rfl) (by decide) ?_
    exact lw_wipe C0 hN hcs hi hY h1 h2 h3 h4 hI hP hD hS hl nx
  | 5, _, hxn =>
    refine lv_tableIn (tgt := 325) (off := 293) hx hb dL_law_32 ha hc (by rw [hxn]; rfl) (by decide) ?_
    exact lw_fault C0 hN hcs hi hY h1 h2 h3 h4 hI hP hD hS hl nx
  | 6, _, hxn =>
    refine lv_tableIn (tgt := 338) (off := 306) hx hb dL_law_32 ha hc (by rw [hxn]; rfl) (by decide) ?_
    exact lw_judge C0 hN hcs hi hY h1 h2 h3 h4 hI hP hD hS hl nx
  | 7, _, hxn =>
    refine lv_tableIn (tgt := 361) (off := 329) hx hb dL_law_32 ha hc (by rw [hxn]; rfl) (by decide) ?_
    exact lw_behind C0 hN hcs hi hY h1 h2 h3 h4 hI hP hD hS hl nx
  | 8, _, hxn =>
    refine lv_tableIn (tgt := 394) (off := 362) hx hb dL_law_32 ha hc (by rw [hxn]; rfl) (by decide) ?_
    exact lw_done C0 hN hcs hi hY h1 h2 h3 h4 hI hP hD hS hl nx
  | 9, _, hxn =>
    refine lv_tableIn (tgt := 407) (off := 375) hx hb dL_law_32 ha hc (by rw [hxn]; rfl) (by decide) ?_
    exact lw_lit C0 hN hcs hi hY h1 h2 h3 h4 hI hP hD hS hl nx
  | 10, _, hxn =>
    refine lv_tableIn (tgt := 440) (off := 408) hx hb dL_law_32 ha hc (by rw [hxn]; rfl) (by decide) ?_
    exact lw_covered C0 hN hcs hi hY h1 h2 h3 h4 hI hP hD hS hl nx
  | 11, _, hxn =>
    refine lv_tableIn (tgt := 463) (off := 431) hx hb dL_law_32 ha hc (by rw [hxn]; rfl) (by decide) ?_
    exact lw_lits C0 hN hcs hi hY h1 h2 h3 h4 hI hP hD hS hl nx
  | 12, _, hxn =>
    refine lv_tableIn (tgt := 506) (off := 474) hx hb dL_law_32 ha hc (by rw [hxn]; rfl) (by decide) ?_
    by_cases hz : p3 = 0
    · exact lw_next0 C0 hN hcs hi hY h1 h2 h3 h4 hz hI hP hD hS hl nx
    · exact lw_next1 C0 hN hcs hi hY h1 h2 h3 h4 hz hI hP hD hS hl nx
  | 13, _, hxn =>
    refine lv_tableIn (tgt := 565) (off := 533) hx hb dL_law_32 ha hc (by rw [hxn]; rfl) (by decide) ?_
    exact lw_longest C0 hN hcs hi hY h1 h2 h3 h4 hI hP hD hS hl nx
  | 14, _, hxn =>
    refine lv_tableIn (tgt := 608) (off := 576) hx hb dL_law_32 ha hc (by rw [hxn]; rfl) (by decide) ?_
    exact lw_hungry C0 hN hcs hi hY h1 h2 h3 h4 hI hP hD hS hl nx
  | 15, _, hxn =>
    refine lv_tableIn (tgt := 631) (off := 599) hx hb dL_law_32 ha hc (by rw [hxn]; rfl) (by decide) ?_
    exact lw_needs C0 hN hcs hi hY h1 h2 h3 h4 hI hP hD hS hl nx
  | 16, _, hxn =>
    refine lv_tableIn (tgt := 664) (off := 632) hx hb dL_law_32 ha hc (by rw [hxn]; rfl) (by decide) ?_
    exact lw_carry C0 hN hcs hi hY h1 h2 h3 h4 hI hP hD hS hl nx
  | 17, _, hxn =>
    refine lv_tableIn (tgt := 687) (off := 655) hx hb dL_law_32 ha hc (by rw [hxn]; rfl) (by decide) ?_
    exact lw_paced C0 hN hcs hi hY h1 h2 h3 h4 hI hP hD hS hl nx
  | 18, _, hxn =>
    refine lv_tableIn (tgt := 720) (off := 688) hx hb dL_law_32 ha hc (by rw [hxn]; rfl) (by decide) ?_
    exact lw_strike C0 hN hcs hi hY h1 h2 h3 h4 hI hP hD hS hl nx
  | 19, _, hxn =>
    refine lv_tableIn (tgt := 763) (off := 731) hx hb dL_law_32 ha hc (by rw [hxn]; rfl) (by decide) ?_
    exact lw_strikes C0 hN hcs hi hY h1 h2 h3 h4 hI hP hD hS hl nx
  | 20, _, hxn =>
    refine lv_tableIn (tgt := 816) (off := 784) hx hb dL_law_32 ha hc (by rw [hxn]; rfl) (by decide) ?_
    exact lw_ways C0 hN hcs hi hY h1 h2 h3 h4 hI hP hD hS hl nx
  | 21, _, hxn =>
    refine lv_tableIn (tgt := 870) (off := 838) hx hb dL_law_32 ha hc (by rw [hxn]; rfl) (by decide) ?_
    exact lw_where C0 hN hcs hi hY h1 h2 h3 h4 hI hP hD hS hl nx
  | 22, _, hxn =>
    refine lv_tableIn (tgt := 913) (off := 881) hx hb dL_law_32 ha hc (by rw [hxn]; rfl) (by decide) ?_
    exact lw_meet C0 hN hcs hi hY h1 h2 h3 h4 hI hP hD hS hl nx
  | 23, _, hxn =>
    refine lv_tableIn (tgt := 956) (off := 924) hx hb dL_law_32 ha hc (by rw [hxn]; rfl) (by decide) ?_
    by_cases hz : p3 = 0
    · exact lw_seen0 C0 hN hcs hi hY h1 h2 h3 h4 hz hI hP hD hS hl nx
    · exact lw_seen1 C0 hN hcs hi hY h1 h2 h3 h4 hz hI hP hD hS hl nx
  | 24, _, hxn =>
    refine lv_tableIn (tgt := 1015) (off := 983) hx hb dL_law_32 ha hc (by rw [hxn]; rfl) (by decide) ?_
    exact lw_forget C0 hN hcs hi hY h1 h2 h3 h4 hI hP hD hS hl nx
  | 25, _, hxn =>
    refine lv_tableIn (tgt := 1028) (off := 996) hx hb dL_law_32 ha hc (by rw [hxn]; rfl) (by decide) ?_
    exact lw_laws C0 hN hcs hi hY h1 h2 h3 h4 hI hP hD hS hl nx
  | 26, _, hxn =>
    refine lv_tableIn (tgt := 1051) (off := 1019) hx hb dL_law_32 ha hc (by rw [hxn]; rfl) (by decide) ?_
    exact lw_look C0 hN hcs hi hY h1 h2 h3 h4 hI hP hD hS hl nx
  | 27, _, hxn =>
    refine lv_tableIn (tgt := 1084) (off := 1052) hx hb dL_law_32 ha hc (by rw [hxn]; rfl) (by decide) ?_
    exact lw_dust C0 hN hcs hi hY h1 h2 h3 h4 hI hP hD hS hl nx
  | 28, _, hxn =>
    refine lv_tableIn (tgt := 1138) (off := 1106) hx hb dL_law_32 ha hc (by rw [hxn]; rfl) (by decide) ?_
    exact lw_rent C0 hN hcs hi hY h1 h2 h3 h4 hI hP hD hS hl nx
  | 29, _, hxn =>
    refine lv_tableIn (tgt := 1191) (off := 1159) hx hb dL_law_32 ha hc (by rw [hxn]; rfl) (by decide) ?_
    exact lw_age C0 hN hcs hi hY h1 h2 h3 h4 hI hP hD hS hl nx
  | 30, _, hxn =>
    refine lv_tableIn (tgt := 1234) (off := 1202) hx hb dL_law_32 ha hc (by rw [hxn]; rfl) (by decide) ?_
    exact lw_image C0 hN hcs hi hY h1 h2 h3 h4 hI hP hD hS hl nx
  | 31, _, hxn =>
    refine lv_tableIn (tgt := 1257) (off := 1225) hx hb dL_law_32 ha hc (by rw [hxn]; rfl) (by decide) ?_
    exact lw_restore C0 hN hcs hi hY h1 h2 h3 h4 hI hP hD hS hl nx
  | 32, _, hxn =>
    refine lv_tableIn (tgt := 1280) (off := 1248) hx hb dL_law_32 ha hc (by rw [hxn]; rfl) (by decide) ?_
    exact lw_told C0 hN hcs hi hY h1 h2 h3 h4 hI hP hD hS hl nx
  | n + 33, hn, _ => exact absurd hn (by omega)
set_option maxHeartbeats 4000000 in
theorem law_loop {p : Program} {l : Launch} {e : Env} {s : State} {m : MethodId} {below : List Frame} {meth : Method} {c : Code} {b L : Nat} {xs : Nat → Int32} {G : rs_G} (C0 : lw_Cx p s m c b L xs G) (hr : meth.sig.returnType = ret) (hlocks : meth.locks = false) {N : Nat} (hN : 200000 < N) {q k : Nat → Nat} :
    ∀ (n i : Nat), L < i + n → i ≤ L + 5 → ∀ (fi : Nat → Option Nat) (D : Nat → Nat) (V : Nat → Nat → Nat) (y : Nat) (cn : Nat) (pn : Nat) (f : Nat → Int32) (xl : Nat → Int32) (xy : Nat → Int32) (xc : Nat → Int32) (ps : Nat → Int32) (j : Nat → Int32) (ja : Nat → Nat → Int32) (jl : Nat → Nat → Int64) (jL : Nat → Int64) (g : Nat → Int32) (sl : Nat → Int32) (sy : Nat → Int32) (sc : Nat → Int32) (pm : Nat → Int32) (K : Nat → Int32) (kb : Nat → Int32) (mj : Nat → Int32) (ma : Nat → Nat → Int32) (ml : Nat → Nat → Int64) (S : Nat → Nat) (T0 : va_W) (T1 : va_W) (H : Heap) (locs : List Loc) (ls : Array Slot), rs_I G (600 * i) D V y cn pn f xl xy xc ps g sl sy sc pm K kb fi S T0 T1 → va_P G.1 vwCl (rs_X G q fi D y cn pn f xl xy xc ps j ja jl jL (rs_M G k D y cn pn g sl sy sc pm K kb mj ma ml (T0 ++ T1))) H → va_D (fun q : Nat => s.heap.size ≤ q) (rs_X G q fi D y cn pn f xl xy xc ps j ja jl jL (rs_M G k D y cn pn g sl sy sc pm K kb mj ma ml (T0 ++ T1))) → va_S (fun q : Nat => s.heap.size ≤ q) s.heap H locs → lv_has ls 4 [(0, .ref b), (1, .ref (q 0)), (2, .ref (k 0)), (3, .int (nI i))] → W p l e room_1 s m #[Value.ref b] below meth c H locs (1000 + 8 * i) (10000 + 76 * i) (lw_Z below #[Value.ref b] s) (F0 m 18 ls []) := by
  obtain ⟨hx, hb, hml, hown, hts, hXs, hbl, hK, hL⟩ := id C0
  have hbA : ¬ (fun q : Nat => s.heap.size ≤ q) b := Nat.not_le.mpr hbl
  intro n
  induction n with
  | zero =>
    intro i h1 h2 fi D V y cn pn f xl xy xc ps j ja jl jL g sl sy sc pm K kb mj ma ml S T0 T1 H locs ls hI hP hD hS hl
    have hlt : Int32.ofNat L - 5 < nI i := by
      rw [pn_lt]
      have e1 : (Int32.ofNat L - 5).toInt = (L : Int) - 5 := pk_sub_toInt (a := L) (b := 5) (by omega) (by decide)
      rw [e1, nI_toInt (by omega)]
      omega
    refine lv_iload_n hx hb dL_law_18 rfl (lv_at hl 3 rfl) ?_
    refine lv_aload_n hx hb dL_law_19 rfl (lv_at hl 0 rfl) ?_
    refine va_slen hx hb hXs hbl hbA hS dL_law_20 ?_
    refine lv_iconst (v := 5) hx hb dL_law_21 (by decide) ?_
    refine lv_isub hx hb dL_law_22 ?_
    refine lv_icmp_gt (tgt := 1309) hx hb dL_law_23 (by decide) (fun _ => ?_) (fun hc => absurd hlt hc)
    refine lv_iconst (v := 1) hx hb dL_law_1309 (by decide) ?_
    refine va_forget (fun q hq => hS.2.2 q hq) ?_
    refine W.widen (k := 600000) (n := 7302250) (by omega) (by omega) ?_
    exact lw_ret hx hb hr hlocks dL_law_1310
  | succ n ih =>
    intro i h1 h2 fi D V y cn pn f xl xy xc ps j ja jl jL g sl sy sc pm K kb mj ma ml S T0 T1 H locs ls hI hP hD hS hl
    by_cases hi : i + 5 ≤ L
    · have hLn : Int32.ofNat L - 5 = nI (L - 5) := pk_sub (a := L) (b := 5) (by omega)
      refine lv_iload_n hx hb dL_law_18 rfl (lv_at hl 3 rfl) ?_
      refine lv_aload_n hx hb dL_law_19 rfl (lv_at hl 0 rfl) ?_
      refine va_slen hx hb hXs hbl hbA hS dL_law_20 ?_
      refine lv_iconst (v := 5) hx hb dL_law_21 (by decide) ?_
      refine lv_isub hx hb dL_law_22 ?_
      rw [hLn]
      refine lv_icmp_gt (tgt := 1309) hx hb dL_law_23 (by decide) (fun hc => absurd hc (nI_nlt (by omega) (by omega))) (fun _ => ?_)
      refine lv_aload_n hx hb dL_law_26 rfl (lv_at hl 0 rfl) ?_
      refine lv_iload_n hx hb dL_law_27 rfl (lv_at hl 3 rfl) ?_
      refine va_sld hx hb hXs hbl hbA hS (vp_in_nI (by omega) (by omega)) dL_law_28 ?_
      refine lv_bipush (v := 63) hx hb dL_law_29 (by decide) ?_
      refine lv_iand hx hb dL_law_31 ?_
      refine lw_round C0 hN (cells := 1000 + 8 * i) (slots := 10000 + 76 * i) ⟨by omega, by omega⟩ (Y := 600 * i) hi (by omega) hI hP hD hS hl ?_ _
      intro fi D V y cn pn f xl xy xc ps j ja jl jL g sl sy sc pm K kb mj ma ml S T0 T1 H locs ls hI hP hD hS hl
      refine lv_iinc (v := nI (i + 5)) (lv' := [(3, .int (nI (i + 5))), (0, .ref b), (1, .ref (q 0)), (2, .ref (k 0))]) hx hb dL_law_1303 hl (k := 3) rfl (nI_add i 5) (by decide) rfl (fun ls hl => ?_)
      refine lv_goto (tgt := 18) hx hb dL_law_1306 (by decide) ?_
      refine W.widen (k := 1000 + 8 * (i + 5)) (n := 10000 + 76 * (i + 5)) (by omega) (by omega) ?_
      exact ih (i + 5) (by omega) (by omega) fi D V y cn pn f xl xy xc ps j ja jl jL g sl sy sc pm K kb mj ma ml S T0 T1 H locs ls (hI.up (by omega)) hP hD hS (lv_sub hl [1, 2, 3, 0] rfl)
    · skip
      have hlt : Int32.ofNat L - 5 < nI i := by
        rw [pn_lt]
        have e1 : (Int32.ofNat L - 5).toInt = (L : Int) - 5 := pk_sub_toInt (a := L) (b := 5) (by omega) (by decide)
        rw [e1, nI_toInt (by omega)]
        omega
      refine lv_iload_n hx hb dL_law_18 rfl (lv_at hl 3 rfl) ?_
      refine lv_aload_n hx hb dL_law_19 rfl (lv_at hl 0 rfl) ?_
      refine va_slen hx hb hXs hbl hbA hS dL_law_20 ?_
      refine lv_iconst (v := 5) hx hb dL_law_21 (by decide) ?_
      refine lv_isub hx hb dL_law_22 ?_
      refine lv_icmp_gt (tgt := 1309) hx hb dL_law_23 (by decide) (fun _ => ?_) (fun hc => absurd hlt hc)
      refine lv_iconst (v := 1) hx hb dL_law_1309 (by decide) ?_
      refine va_forget (fun q hq => hS.2.2 q hq) ?_
      refine W.widen (k := 600000) (n := 7302250) (by omega) (by omega) ?_
      exact lw_ret hx hb hr hlocks dL_law_1310
