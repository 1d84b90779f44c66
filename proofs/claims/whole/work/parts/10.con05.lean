abbrev rmX10_at_ : Room := { frames := 0, cells := 0, slots := 0, locals := 0 }
set_option maxRecDepth 100000 in
set_option maxHeartbeats 4000000 in
theorem c_X10_at_ (l : Launch) (G : rs_G) (A_a0 : Nat) (v_a0 : (Nat → Int64)) (n_a0 : Nat) (p1 : Int32) (r0 : Int64) (h : f_X10_at_ n_a0 p1 v_a0 = some r0) : rs_Cl l yX10_at_ wsX10_at_ rmX10_at_ G [.ref A_a0, .int p1] [(A_a0, .inl (G.2.2.1, n_a0, .inr (.inl v_a0)))] (fun (_ : Unit) => [(A_a0, .inl (G.2.2.1, n_a0, .inr (.inl v_a0)))]) r0 := by
  refine rs_enter_l (cc := cX10_at_) (maxL := 2) (by decide) rfl (Nat.le_of_ble_eq_true rfl) (fun p e s m args below meth c A Q ls E ret hP hD hS hA hl => ?_)
  obtain ⟨hx, hb, hml, hown, hts, hK⟩ := E
  have hown : s.vm.findClass RX10 = some m.cls := hown
  have hl : lv_has ls 2 [(0, .ref A_a0), (1, .int p1)] := hl
  have ret : ∀ (v0 : Int64) (u : Unit) (H : Heap) (locs : List Loc) (pc : Nat) (ls : Array Slot), some v0 = some r0 → va_P G.1 vwCl [(A_a0, .inl (G.2.2.1, n_a0, .inr (.inl v_a0)))] H → va_S A s.heap H locs → decode cX10_at_ pc = .ok (.lreturn, 1) → W p l e rmX10_at_ s m args below meth c H locs 0 0 Q (F0 m pc ls [.long v0]) := by
    intro v0 u H locs pc ls hz
    cases hz
    exact ret u H locs pc ls
  unfold f_X10_at_ at h
  refine lv_iload_n hx hb dX10_at__0 rfl (lv_at hl 1 rfl) ?_
  refine lv_if_lt (tgt := 16) hx hb dX10_at__1 (by decide) (fun hc => ?_) (fun hc => ?_)
  · have h := rs_pos hc h
    refine lv_lconst (v := 0) hx hb dX10_at__16 (by decide) ?_
    exact ret _ () _ _ _ _ h hP hS dX10_at__17
  have h := rs_neg hc h
  refine lv_iload_n hx hb dX10_at__4 rfl (lv_at hl 1 rfl) ?_
  refine lv_aload_n hx hb dX10_at__5 rfl (lv_at hl 0 rfl) ?_
  refine va_alen (v := (Int32.ofNat n_a0)) hx hb hK.1 hP 0 1 rfl rfl rfl dX10_at__6 ?_
  refine lv_icmp_ge (tgt := 16) hx hb dX10_at__7 (by decide) (fun hc => ?_) (fun hc => ?_)
  · have h := rs_pos hc h
    refine lv_lconst (v := 0) hx hb dX10_at__16 (by decide) ?_
    exact ret _ () _ _ _ _ h hP hS dX10_at__17
  have h := rs_neg hc h
  refine lv_aload_n hx hb dX10_at__10 rfl (lv_at hl 0 rfl) ?_
  refine lv_iload_n hx hb dX10_at__11 rfl (lv_at hl 1 rfl) ?_
  obtain ⟨hg, h⟩ := rs_gd h
  refine va_lald hx hb hK.1 hP 0 1 rfl rfl hg dX10_at__12 ?_
  refine lv_goto (tgt := 17) hx hb dX10_at__13 (by decide) ?_
  exact ret _ () _ _ _ _ h hP hS dX10_at__17
abbrev rmX8_step : Room := { frames := 1, cells := 0, slots := 0, locals := 23 }
set_option maxRecDepth 100000 in
set_option maxHeartbeats 4000000 in
theorem c_X8_step (l : Launch) (G : rs_G) (A_a0 : Nat) (A_a1 : Nat) (v_a1 : (Nat → Int64)) (v_a0 : (Nat → Int64)) (n_a1 : Nat) (n_a0 : Nat) (p2 : Int32) (N : Nat) (o0 : (Nat → Int64)) (h : f_X8_step N n_a1 n_a0 p2 v_a1 v_a0 = some o0) : rs_Cv l yX8_step wsX8_step rmX8_step G [.ref A_a0, .ref A_a1, .int p2] [(A_a1, .inl (G.2.2.1, n_a1, .inr (.inl v_a1))), (A_a0, .inl (G.2.2.1, n_a0, .inr (.inl v_a0)))] (fun (_ : Unit) => [(A_a1, .inl (G.2.2.1, n_a1, .inr (.inl o0))), (A_a0, .inl (G.2.2.1, n_a0, .inr (.inl v_a0)))]) := by
  refine rs_enter_v (cc := cX8_step) (maxL := 4) (by decide) rfl (Nat.le_of_ble_eq_true rfl) (fun p e s m args below meth c A Q ls E ret hP hD hS hA hl => ?_)
  obtain ⟨hx, hb, hml, hown, hts, hK⟩ := E
  have hown : s.vm.findClass RX8 = some m.cls := hown
  have hl : lv_has ls 4 [(0, .ref A_a0), (1, .ref A_a1), (2, .int p2)] := hl
  have ret : ∀ (w0 : (Nat → Int64)) (u : Unit) (H : Heap) (locs : List Loc) (pc : Nat) (ls : Array Slot), some w0 = some o0 → va_P G.1 vwCl [(A_a1, .inl (G.2.2.1, n_a1, .inr (.inl w0))), (A_a0, .inl (G.2.2.1, n_a0, .inr (.inl v_a0)))] H → va_S A s.heap H locs → decode cX8_step pc = .ok (.return_, 1) → W p l e rmX8_step s m args below meth c H locs 0 0 Q (F0 m pc ls []) := by
    intro w0 u H locs pc ls hz
    cases hz
    exact ret u H locs pc ls
  unfold f_X8_step at h
  refine lv_aload_n hx hb dX8_step_0 rfl (lv_at hl 1 rfl) ?_
  obtain ⟨f1, h2, h⟩ := rs_b1s h
  have h := h _ rfl
  refine rs_callNv (As := [.ref A_a1]) (rest := []) ⟨hx, hb, hml, hown, hts⟩ (c_X10_clear_ l G A_a1 v_a1 n_a1 N f1 h2) ⟨va_cnB 1 hts gX8_step_X10_clear__n18 rfl rfl rfl (rs_nw12 hK.2.1) (hts (.initialized RX10) (List.mem_of_getElem? (i := 2) rfl)) (by decide +kernel) ⟨Nat.le_of_ble_eq_true rfl, Nat.le_of_ble_eq_true rfl⟩, (hts (.static yX10_clear_) (List.mem_of_getElem? (i := 1) rfl)), trivial⟩ dX8_step_1 hK hP hD hS hA [0] rfl (by decide) rfl rfl hl.1 (lv_room (Nat.le_of_ble_eq_true rfl)) ⟨Nat.zero_le _, Nat.zero_le _⟩ (fun (_ : Unit) => [(A_a1, .inl (G.2.2.1, n_a1, .inr (.inl f1))), (A_a0, .inl (G.2.2.1, n_a0, .inr (.inl v_a0)))]) (fun _ => rfl) (fun _ => rfl) (fun u2 H locs hP hD hS => ?_)
  refine lv_iconst (v := 0) hx hb dX8_step_4 (by decide) ?_
  refine lv_istore_n (lv' := [(3, .int 0), (0, .ref A_a0), (1, .ref A_a1), (2, .int p2)]) hx hb dX8_step_5 rfl hl (by decide) rfl (fun ls hl => ?_)
  obtain ⟨X41, hX41, h⟩ := rs_b1s h
  have J41 : ∀ (f42 : (Nat → Int64)), X41 = f42 → ∀  (H : Heap) (locs : List Loc) (ls : Array Slot), va_P G.1 vwCl [(A_a1, .inl (G.2.2.1, n_a1, .inr (.inl f42))), (A_a0, .inl (G.2.2.1, n_a0, .inr (.inl v_a0)))] H → va_D A [(A_a1, .inl (G.2.2.1, n_a1, .inr (.inl f42))), (A_a0, .inl (G.2.2.1, n_a0, .inr (.inl v_a0)))] → va_S A s.heap H locs → lv_has ls 4 [] → W p l e rmX8_step s m args below meth c H locs 0 0 Q (F0 m 53 ls []) := by
    intro f42 hz  H locs ls hP hD hS hl
    have h := h _ hz
    exact ret _ () _ _ _ _ h hP hS dX8_step_53
  refine rs_l2W (Wd := fun (f21 : (Nat → Int64)) (x22 : Int32) => ∀  (H : Heap) (locs : List Loc) (ls : Array Slot), va_P G.1 vwCl [(A_a1, .inl (G.2.2.1, n_a1, .inr (.inl f21))), (A_a0, .inl (G.2.2.1, n_a0, .inr (.inl v_a0)))] H → va_D A [(A_a1, .inl (G.2.2.1, n_a1, .inr (.inl f21))), (A_a0, .inl (G.2.2.1, n_a0, .inr (.inl v_a0)))] → va_S A s.heap H locs → lv_has ls 4 [(0, .ref A_a0), (1, .ref A_a1), (2, .int p2), (3, .int x22)] → W p l e rmX8_step s m args below meth c H locs 0 0 Q (F0 m 6 ls [])) ?_ N f1 0 hX41 _ _ _ hP hD hS (lv_sub hl [1, 2, 3, 0] rfl)
  intro f21 x22 o41 h K41 L41  H locs ls hP hD hS hl
  unfold f_X8_step_L6 at h
  refine lv_iload_n hx hb dX8_step_6 rfl (lv_at hl 3 rfl) ?_
  refine lv_bipush (v := 9) hx hb dX8_step_7 (by decide) ?_
  refine lv_icmp_ge (tgt := 53) hx hb dX8_step_9 (by decide) (fun hc => ?_) (fun hc => ?_)
  · have h := rs_pos hc h
    exact J41 _ (L41 _ (Option.some.inj h).symm) _ _ _ hP hD hS (lv_sub hl [] rfl)
  have h := rs_neg hc h
  refine lv_iload_n hx hb dX8_step_12 rfl (lv_at hl 2 rfl) ?_
  refine lv_iload_n hx hb dX8_step_13 rfl (lv_at hl 3 rfl) ?_
  refine lv_ishr hx hb dX8_step_14 ?_
  refine lv_iconst (v := 1) hx hb dX8_step_15 (by decide) ?_
  refine lv_iand hx hb dX8_step_16 ?_
  refine lv_iconst (v := 1) hx hb dX8_step_17 (by decide) ?_
  obtain ⟨X52, hX52, h⟩ := rs_b1s h
  have J52 : ∀ (f51 : (Nat → Int64)), X52 = f51 → ∀ (H : Heap) (locs : List Loc) (ls : Array Slot), va_P G.1 vwCl [(A_a1, .inl (G.2.2.1, n_a1, .inr (.inl f51))), (A_a0, .inl (G.2.2.1, n_a0, .inr (.inl v_a0)))] H → va_D A [(A_a1, .inl (G.2.2.1, n_a1, .inr (.inl f51))), (A_a0, .inl (G.2.2.1, n_a0, .inr (.inl v_a0)))] → va_S A s.heap H locs → lv_has ls 4 [(0, .ref A_a0), (1, .ref A_a1), (2, .int p2), (3, .int x22)] → W p l e rmX8_step s m args below meth c H locs 0 0 Q (F0 m 47 ls []) := by
    intro f51 hz H locs ls hP hD hS hl
    have h := h _ hz
    refine lv_iinc (v := (x22 + 1)) (lv' := [(3, .int (x22 + 1)), (0, .ref A_a0), (1, .ref A_a1), (2, .int p2)]) hx hb dX8_step_47 hl (k := 3) rfl (by first | rfl | decide) (by decide) rfl (fun ls hl => ?_)
    refine lv_goto (tgt := 6) hx hb dX8_step_50 (by decide) ?_
    exact K41 _ _ (Option.some.inj h).symm _ _ _ hP hD hS (lv_sub hl [1, 2, 3, 0] rfl)
  have h := hX52
  refine lv_icmp_ne (tgt := 47) hx hb dX8_step_18 (by decide) (fun hc => ?_) (fun hc => ?_)
  · have h := rs_neg hc h
    exact J52 _ (Option.some.inj h).symm _ _ _ hP hD hS (lv_sub hl [0, 1, 2, 3] rfl)
  have h := rs_pos hc h
  refine lv_aload_n hx hb dX8_step_21 rfl (lv_at hl 1 rfl) ?_
  refine lv_iload_n hx hb dX8_step_22 rfl (lv_at hl 3 rfl) ?_
  refine lv_aload_n hx hb dX8_step_23 rfl (lv_at hl 0 rfl) ?_
  refine lv_iload_n hx hb dX8_step_24 rfl (lv_at hl 3 rfl) ?_
  refine lv_iconst (v := 1) hx hb dX8_step_25 (by decide) ?_
  refine lv_isub hx hb dX8_step_26 ?_
  obtain ⟨x53, h54, h⟩ := rs_b1s h
  have h := h _ rfl
  refine rs_callNl (As := [.ref A_a0, .int (x22 - 1)]) (rest := [.int x22, .ref A_a1]) ⟨hx, hb, hml, hown, hts⟩ (c_X10_at_ l G A_a0 v_a0 n_a0 (x22 - 1) x53 h54) ⟨va_cnB 2 hts gX8_step_X10_at__n40 rfl rfl rfl (rs_nw14 hK.2.1) (hts (.initialized RX10) (List.mem_of_getElem? (i := 2) rfl)) (by decide +kernel) ⟨Nat.le_of_ble_eq_true rfl, Nat.le_of_ble_eq_true rfl⟩, (hts (.static yX10_at_) (List.mem_of_getElem? (i := 4) rfl)), trivial⟩ dX8_step_27 hK hP hD hS hA [1] rfl (by decide) rfl rfl hl.1 (lv_room (Nat.le_of_ble_eq_true rfl)) ⟨Nat.zero_le _, Nat.zero_le _⟩ (fun (_ : Unit) => [(A_a1, .inl (G.2.2.1, n_a1, .inr (.inl f21))), (A_a0, .inl (G.2.2.1, n_a0, .inr (.inl v_a0)))]) (fun _ => rfl) (fun _ => rfl) (fun u54 H locs hP hD hS => ?_)
  refine lv_aload_n hx hb dX8_step_30 rfl (lv_at hl 0 rfl) ?_
  refine lv_iload_n hx hb dX8_step_31 rfl (lv_at hl 3 rfl) ?_
  obtain ⟨x55, h56, h⟩ := rs_b1s h
  have h := h _ rfl
  refine rs_callNl (As := [.ref A_a0, .int x22]) (rest := [.long x53, .int x22, .ref A_a1]) ⟨hx, hb, hml, hown, hts⟩ (c_X10_at_ l G A_a0 v_a0 n_a0 x22 x55 h56) ⟨va_cnB 2 hts gX8_step_X10_at__n40 rfl rfl rfl (rs_nw14 hK.2.1) (hts (.initialized RX10) (List.mem_of_getElem? (i := 2) rfl)) (by decide +kernel) ⟨Nat.le_of_ble_eq_true rfl, Nat.le_of_ble_eq_true rfl⟩, (hts (.static yX10_at_) (List.mem_of_getElem? (i := 4) rfl)), trivial⟩ dX8_step_32 hK hP hD hS hA [1] rfl (by decide) rfl rfl hl.1 (lv_room (Nat.le_of_ble_eq_true rfl)) ⟨Nat.zero_le _, Nat.zero_le _⟩ (fun (_ : Unit) => [(A_a1, .inl (G.2.2.1, n_a1, .inr (.inl f21))), (A_a0, .inl (G.2.2.1, n_a0, .inr (.inl v_a0)))]) (fun _ => rfl) (fun _ => rfl) (fun u56 H locs hP hD hS => ?_)
  refine lv_ladd hx hb dX8_step_35 ?_
  refine lv_aload_n hx hb dX8_step_36 rfl (lv_at hl 0 rfl) ?_
  refine lv_iload_n hx hb dX8_step_37 rfl (lv_at hl 3 rfl) ?_
  refine lv_iconst (v := 1) hx hb dX8_step_38 (by decide) ?_
  refine lv_iadd hx hb dX8_step_39 ?_
  obtain ⟨x57, h58, h⟩ := rs_b1s h
  have h := h _ rfl
  refine rs_callNl (As := [.ref A_a0, .int (x22 + 1)]) (rest := [.long (x53 + x55), .int x22, .ref A_a1]) ⟨hx, hb, hml, hown, hts⟩ (c_X10_at_ l G A_a0 v_a0 n_a0 (x22 + 1) x57 h58) ⟨va_cnB 2 hts gX8_step_X10_at__n40 rfl rfl rfl (rs_nw14 hK.2.1) (hts (.initialized RX10) (List.mem_of_getElem? (i := 2) rfl)) (by decide +kernel) ⟨Nat.le_of_ble_eq_true rfl, Nat.le_of_ble_eq_true rfl⟩, (hts (.static yX10_at_) (List.mem_of_getElem? (i := 4) rfl)), trivial⟩ dX8_step_40 hK hP hD hS hA [1] rfl (by decide) rfl rfl hl.1 (lv_room (Nat.le_of_ble_eq_true rfl)) ⟨Nat.zero_le _, Nat.zero_le _⟩ (fun (_ : Unit) => [(A_a1, .inl (G.2.2.1, n_a1, .inr (.inl f21))), (A_a0, .inl (G.2.2.1, n_a0, .inr (.inl v_a0)))]) (fun _ => rfl) (fun _ => rfl) (fun u58 H locs hP hD hS => ?_)
  refine lv_ladd hx hb dX8_step_43 ?_
  obtain ⟨f59, h60, h⟩ := rs_b1s h
  have h := h _ rfl
  refine rs_callNv (As := [.ref A_a1, .int x22, .long ((x53 + x55) + x57)]) (rest := []) ⟨hx, hb, hml, hown, hts⟩ (c_X10_add l G A_a1 f21 n_a1 x22 ((x53 + x55) + x57) f59 h60) ⟨va_cnB 3 hts gX8_step_X10_add_n28 rfl rfl rfl (rs_nw13 hK.2.1) (hts (.initialized RX10) (List.mem_of_getElem? (i := 2) rfl)) (by decide +kernel) ⟨Nat.le_of_ble_eq_true rfl, Nat.le_of_ble_eq_true rfl⟩, (hts (.static yX10_add) (List.mem_of_getElem? (i := 6) rfl)), trivial⟩ dX8_step_44 hK hP hD hS hA [0] rfl (by decide) rfl rfl hl.1 (lv_room (Nat.le_of_ble_eq_true rfl)) ⟨Nat.zero_le _, Nat.zero_le _⟩ (fun (_ : Unit) => [(A_a1, .inl (G.2.2.1, n_a1, .inr (.inl f59))), (A_a0, .inl (G.2.2.1, n_a0, .inr (.inl v_a0)))]) (fun _ => rfl) (fun _ => rfl) (fun u60 H locs hP hD hS => ?_)
  exact J52 _ (Option.some.inj h).symm _ _ _ hP hD hS (lv_sub hl [0, 1, 2, 3] rfl)
theorem uX8_countWays_8 : ∀ w ∈ wsX80, w ∈ wsX8_countWays := fun _ h => List.mem_cons_of_mem _ (List.mem_append_left _ (List.mem_append_right _ h))
abbrev rmX8_countWays : Room := { frames := 3, cells := 0, slots := 0, locals := 68 }
set_option maxRecDepth 100000 in
set_option maxHeartbeats 4000000 in
theorem c_X8_countWays (l : Launch) (G : rs_G) (A_a0 : Nat) (A_a1 : Nat) (A_a0_first : Nat) (A_a0_second : Nat) (v_a0_first : (Nat → Int64)) (v_a1_lands : Int32) (v_a1_wide : Int32) (v_a1_pace : Int32) (v_a1_age : Int32) (v_a1_slits : Int32) (v_a1_slitA : Int32) (v_a1_slitB : Int32) (v_a0_second : (Nat → Int64)) (p2 : Int32) (p3 : Int32) (p4 : Int32) (p5 : Int32) (N : Nat) (r0 : Int64) (h : f_X8_countWays N p2 p3 p4 p5 v_a0_first v_a1_lands v_a1_wide v_a1_pace v_a1_age v_a1_slits v_a1_slitA v_a1_slitB v_a0_second = some r0) : rs_Cl l yX8_countWays wsX8_countWays rmX8_countWays G [.ref A_a0, .ref A_a1, .int p2, .int p3, .int p4, .int p5] [(A_a0, .inr (8, [.ref A_a0_first, .ref A_a0_second])), (A_a0_first, .inl (G.2.2.1, 9, .inr (.inl v_a0_first))), (A_a1, .inr (4, [.int v_a1_lands, .int v_a1_wide, .int v_a1_pace, .int v_a1_age, .int v_a1_slits, .int v_a1_slitA, .int v_a1_slitB])), (A_a0_second, .inl (G.2.2.1, 9, .inr (.inl v_a0_second)))] (fun (u : ((Nat → Int64) × (Nat → Int64))) => [(A_a0, .inr (8, [.ref A_a0_first, .ref A_a0_second])), (A_a0_first, .inl (G.2.2.1, 9, .inr (.inl u.1))), (A_a1, .inr (4, [.int v_a1_lands, .int v_a1_wide, .int v_a1_pace, .int v_a1_age, .int v_a1_slits, .int v_a1_slitA, .int v_a1_slitB])), (A_a0_second, .inl (G.2.2.1, 9, .inr (.inl u.2)))]) r0 := by
  refine rs_enter_l (cc := cX8_countWays) (maxL := 10) (by decide) rfl (Nat.le_of_ble_eq_true rfl) (fun p e s m args below meth c A Q ls E ret hP hD hS hA hl => ?_)
  obtain ⟨hx, hb, hml, hown, hts, hK⟩ := E
  have hown : s.vm.findClass RX8 = some m.cls := hown
  have hl : lv_has ls 10 [(0, .ref A_a0), (1, .ref A_a1), (2, .int p2), (3, .int p3), (4, .int p4), (5, .int p5)] := hl
  have ret : ∀ (v0 : Int64) (u : ((Nat → Int64) × (Nat → Int64))) (H : Heap) (locs : List Loc) (pc : Nat) (ls : Array Slot), some v0 = some r0 → va_P G.1 vwCl [(A_a0, .inr (8, [.ref A_a0_first, .ref A_a0_second])), (A_a0_first, .inl (G.2.2.1, 9, .inr (.inl u.1))), (A_a1, .inr (4, [.int v_a1_lands, .int v_a1_wide, .int v_a1_pace, .int v_a1_age, .int v_a1_slits, .int v_a1_slitA, .int v_a1_slitB])), (A_a0_second, .inl (G.2.2.1, 9, .inr (.inl u.2)))] H → va_S A s.heap H locs → decode cX8_countWays pc = .ok (.lreturn, 1) → W p l e rmX8_countWays s m args below meth c H locs 0 0 Q (F0 m pc ls [.long v0]) := by
    intro v0 u H locs pc ls hz
    cases hz
    exact ret u H locs pc ls
  unfold f_X8_countWays at h
  refine lv_aload_n hx hb dX8_countWays_0 rfl (lv_at hl 0 rfl) ?_
  refine va_get (D := G.1) (ci := 8) (v := .ref A_a0_first) (C := RX8) (T := TX8) (N := 2) hx hb hts uX8_countWays_8 hown hK.1 hP 0 rfl rfl 0 (by decide) (hts (.fieldLink RX8 9 "RingShadow$Walk" "first" "[J") (List.mem_of_getElem? (i := 1) rfl)) (fun _ h9 => h9) rfl dX8_countWays_1 ?_
  refine lv_astore (lv' := [(6, .ref A_a0_first), (0, .ref A_a0), (1, .ref A_a1), (2, .int p2), (3, .int p3), (4, .int p4), (5, .int p5)]) hx hb dX8_countWays_4 hl (by decide) rfl (fun ls hl => ?_)
  refine lv_aload_n hx hb dX8_countWays_6 rfl (lv_at hl 1 rfl) ?_
  refine va_get (D := G.1) (ci := 8) (v := .ref A_a0_second) (C := RX8) (T := TX8) (N := 2) hx hb hts uX8_countWays_8 hown hK.1 hP 0 rfl rfl 1 (by decide) (hts (.fieldLink RX8 15 "RingShadow$Walk" "second" "[J") (List.mem_of_getElem? (i := 2) rfl)) (fun _ h9 => h9) rfl dX8_countWays_7 ?_
  refine lv_astore (lv' := [(7, .ref A_a0_second), (6, .ref A_a0_first), (0, .ref A_a0), (1, .ref A_a1), (2, .int p2), (3, .int p3), (4, .int p4), (5, .int p5)]) hx hb dX8_countWays_10 hl (by decide) rfl (fun ls hl => ?_)
  refine lv_aload hx hb dX8_countWays_12 (lv_at hl 1 rfl) ?_
  obtain ⟨f1, h2, h⟩ := rs_b1s h
  have h := h _ rfl
  refine rs_callNv (As := [.ref A_a0_first]) (rest := []) ⟨hx, hb, hml, hown, hts⟩ (c_X10_clear_ l G A_a0_first v_a0_first 9 N f1 h2) ⟨va_cnB 1 hts gX8_countWays_X10_clear__n18 rfl rfl rfl (rs_nw12 hK.2.1) (hts (.initialized RX10) (List.mem_of_getElem? (i := 4) rfl)) (by decide +kernel) ⟨Nat.le_of_ble_eq_true rfl, Nat.le_of_ble_eq_true rfl⟩, (hts (.static yX10_clear_) (List.mem_of_getElem? (i := 3) rfl)), trivial⟩ dX8_countWays_14 hK hP hD hS hA [1] rfl (by decide) rfl rfl hl.1 (lv_room (Nat.le_of_ble_eq_true rfl)) ⟨Nat.zero_le _, Nat.zero_le _⟩ (fun (_ : Unit) => [(A_a0, .inr (8, [.ref A_a0_first, .ref A_a0_second])), (A_a0_first, .inl (G.2.2.1, 9, .inr (.inl f1))), (A_a1, .inr (4, [.int v_a1_lands, .int v_a1_wide, .int v_a1_pace, .int v_a1_age, .int v_a1_slits, .int v_a1_slitA, .int v_a1_slitB])), (A_a0_second, .inl (G.2.2.1, 9, .inr (.inl v_a0_second)))]) (fun _ => rfl) (fun _ => rfl) (fun u2 H locs hP hD hS => ?_)
  refine lv_aload hx hb dX8_countWays_17 (lv_at hl 1 rfl) ?_
  refine lv_iload_n hx hb dX8_countWays_19 rfl (lv_at hl 4 rfl) ?_
  refine lv_aload_n hx hb dX8_countWays_20 rfl (lv_at hl 3 rfl) ?_
  refine lv_iload_n hx hb dX8_countWays_21 rfl (lv_at hl 4 rfl) ?_
  refine lv_iload hx hb dX8_countWays_22 (lv_at hl 6 rfl) ?_
  obtain ⟨x3, h4, h⟩ := rs_b1s h
  have h := h _ rfl
  refine rs_callVi (As := [.int p2, .int p4]) (rest := [.int p2, .ref A_a0_first]) ⟨hx, hb, hml, hown, hts⟩ (c_X4_isDark l G A_a1 v_a1_lands v_a1_wide v_a1_pace v_a1_age v_a1_slits v_a1_slitA v_a1_slitB p2 p4 x3 h4) (cwV 2 hts gX8_countWays_X4_isDark rfl rfl rfl (by decide +kernel) ⟨Nat.le_of_ble_eq_true rfl, Nat.le_of_ble_eq_true rfl⟩) dX8_countWays_24 hK hP hD hS hA [2] rfl (by decide) rfl rfl (q0 := 0) (ci := 4) rfl rfl rfl hl.1 (lv_room (Nat.le_of_ble_eq_true rfl)) ⟨Nat.zero_le _, Nat.zero_le _⟩ (fun (_ : Unit) => [(A_a0, .inr (8, [.ref A_a0_first, .ref A_a0_second])), (A_a0_first, .inl (G.2.2.1, 9, .inr (.inl f1))), (A_a1, .inr (4, [.int v_a1_lands, .int v_a1_wide, .int v_a1_pace, .int v_a1_age, .int v_a1_slits, .int v_a1_slitA, .int v_a1_slitB])), (A_a0_second, .inl (G.2.2.1, 9, .inr (.inl v_a0_second)))]) (fun _ => rfl) (fun _ => rfl) (fun u4 H locs hP hD hS => ?_)
  obtain ⟨X6, hX6, h⟩ := rs_b1s h
  have J6 : ∀ (x5 : Int64), X6 = x5 → ∀ (H : Heap) (locs : List Loc) (ls : Array Slot), va_P G.1 vwCl [(A_a0, .inr (8, [.ref A_a0_first, .ref A_a0_second])), (A_a0_first, .inl (G.2.2.1, 9, .inr (.inl f1))), (A_a1, .inr (4, [.int v_a1_lands, .int v_a1_wide, .int v_a1_pace, .int v_a1_age, .int v_a1_slits, .int v_a1_slitA, .int v_a1_slitB])), (A_a0_second, .inl (G.2.2.1, 9, .inr (.inl v_a0_second)))] H → va_D A [(A_a0, .inr (8, [.ref A_a0_first, .ref A_a0_second])), (A_a0_first, .inl (G.2.2.1, 9, .inr (.inl f1))), (A_a1, .inr (4, [.int v_a1_lands, .int v_a1_wide, .int v_a1_pace, .int v_a1_age, .int v_a1_slits, .int v_a1_slitA, .int v_a1_slitB])), (A_a0_second, .inl (G.2.2.1, 9, .inr (.inl v_a0_second)))] → va_S A s.heap H locs → lv_has ls 10 [(1, .ref A_a1), (3, .int p3), (4, .int p4), (5, .int p5), (6, .ref A_a0_first), (7, .ref A_a0_second)] → W p l e rmX8_countWays s m args below meth c H locs 0 0 Q (F0 m 35 ls [.long x5, .int p2, .ref A_a0_first]) := by
    intro x5 hz H locs ls hP hD hS hl
    have h := h _ hz
    obtain ⟨f7, h8, h⟩ := rs_b1s h
    have h := h _ rfl
    refine rs_callNv (As := [.ref A_a0_first, .int p2, .long x5]) (rest := []) ⟨hx, hb, hml, hown, hts⟩ (c_X10_add l G A_a0_first f1 9 p2 x5 f7 h8) ⟨va_cnB 3 hts gX8_countWays_X10_add_n28 rfl rfl rfl (rs_nw13 hK.2.1) (hts (.initialized RX10) (List.mem_of_getElem? (i := 4) rfl)) (by decide +kernel) ⟨Nat.le_of_ble_eq_true rfl, Nat.le_of_ble_eq_true rfl⟩, (hts (.static yX10_add) (List.mem_of_getElem? (i := 30) rfl)), trivial⟩ dX8_countWays_35 hK hP hD hS hA [1] rfl (by decide) rfl rfl hl.1 (lv_room (Nat.le_of_ble_eq_true rfl)) ⟨Nat.zero_le _, Nat.zero_le _⟩ (fun (_ : Unit) => [(A_a0, .inr (8, [.ref A_a0_first, .ref A_a0_second])), (A_a0_first, .inl (G.2.2.1, 9, .inr (.inl f7))), (A_a1, .inr (4, [.int v_a1_lands, .int v_a1_wide, .int v_a1_pace, .int v_a1_age, .int v_a1_slits, .int v_a1_slitA, .int v_a1_slitB])), (A_a0_second, .inl (G.2.2.1, 9, .inr (.inl v_a0_second)))]) (fun _ => rfl) (fun _ => rfl) (fun u8 H locs hP hD hS => ?_)
    refine lv_iconst (v := 1) hx hb dX8_countWays_38 (by decide) ?_
    refine lv_istore (lv' := [(8, .int 1), (1, .ref A_a1), (3, .int p3), (4, .int p4), (5, .int p5), (6, .ref A_a0_first), (7, .ref A_a0_second)]) hx hb dX8_countWays_39 hl (by decide) rfl (fun ls hl => ?_)
    obtain ⟨X26, hX26, h⟩ := rs_b2s h
    have J26 : ∀ (f27 : (Nat → Int64)) (f28 : (Nat → Int64)), X26 = (f27, f28) → ∀ (q29 : Nat) (q30 : Nat) (H : Heap) (locs : List Loc) (ls : Array Slot), rs_pm q29 q30 A_a0_first A_a0_second → va_P G.1 vwCl [(A_a0, .inr (8, [.ref A_a0_first, .ref A_a0_second])), (q29, .inl (G.2.2.1, 9, .inr (.inl f27))), (A_a1, .inr (4, [.int v_a1_lands, .int v_a1_wide, .int v_a1_pace, .int v_a1_age, .int v_a1_slits, .int v_a1_slitA, .int v_a1_slitB])), (q30, .inl (G.2.2.1, 9, .inr (.inl f28)))] H → va_D A [(A_a0, .inr (8, [.ref A_a0_first, .ref A_a0_second])), (q29, .inl (G.2.2.1, 9, .inr (.inl f27))), (A_a1, .inr (4, [.int v_a1_lands, .int v_a1_wide, .int v_a1_pace, .int v_a1_age, .int v_a1_slits, .int v_a1_slitA, .int v_a1_slitB])), (q30, .inl (G.2.2.1, 9, .inr (.inl f28)))] → va_S A s.heap H locs → lv_has ls 10 [(3, .int p3), (6, .ref q29)] → W p l e rmX8_countWays s m args below meth c H locs 0 0 Q (F0 m 82 ls []) := by
      intro f27 f28 hz q29 q30 H locs ls hpm26 hP hD hS hl
      have h := h _ _ hz
      refine lv_aload hx hb dX8_countWays_82 (lv_at hl 1 rfl) ?_
      refine lv_iload_n hx hb dX8_countWays_84 rfl (lv_at hl 0 rfl) ?_
      obtain ⟨x31, h32, h⟩ := rs_b1s h
      have h := h _ rfl
      refine rs_callNl (As := [.ref q29, .int p3]) (rest := []) ⟨hx, hb, hml, hown, hts⟩ (c_X10_at_ l G q29 f27 9 p3 x31 h32) ⟨va_cnB 2 hts gX8_countWays_X10_at__n40 rfl rfl rfl (rs_nw14 hK.2.1) (hts (.initialized RX10) (List.mem_of_getElem? (i := 4) rfl)) (by decide +kernel) ⟨Nat.le_of_ble_eq_true rfl, Nat.le_of_ble_eq_true rfl⟩, (hts (.static yX10_at_) (List.mem_of_getElem? (i := 40) rfl)), trivial⟩ dX8_countWays_85 hK hP hD hS hA [1] rfl (by decide) rfl rfl hl.1 (lv_room (Nat.le_of_ble_eq_true rfl)) ⟨Nat.zero_le _, Nat.zero_le _⟩ (fun (_ : Unit) => [(A_a0, .inr (8, [.ref A_a0_first, .ref A_a0_second])), (q29, .inl (G.2.2.1, 9, .inr (.inl f27))), (A_a1, .inr (4, [.int v_a1_lands, .int v_a1_wide, .int v_a1_pace, .int v_a1_age, .int v_a1_slits, .int v_a1_slitA, .int v_a1_slitB])), (q30, .inl (G.2.2.1, 9, .inr (.inl f28)))]) (fun _ => rfl) (fun _ => rfl) (fun u32 H locs hP hD hS => ?_)
      rcases hpm26 with ⟨hq1, hq2⟩ | ⟨hq1, hq2⟩
      · subst hq1 hq2
        exact ret _ (f27, f28) _ _ _ _ h (hP.sub [0, 1, 2, 3] rfl) hS dX8_countWays_88
      subst hq1 hq2
      exact ret _ (f28, f27) _ _ _ _ h (hP.sub [0, 3, 2, 1] rfl) hS dX8_countWays_88
    refine rs_l3W (Wd := fun (f21 : (Nat → Int64)) (f13 : (Nat → Int64)) (x16 : Int32) => ∀ (q14 : Nat) (q15 : Nat) (H : Heap) (locs : List Loc) (ls : Array Slot), rs_pm q14 q15 A_a0_first A_a0_second → va_P G.1 vwCl [(A_a0, .inr (8, [.ref A_a0_first, .ref A_a0_second])), (q14, .inl (G.2.2.1, 9, .inr (.inl f21))), (A_a1, .inr (4, [.int v_a1_lands, .int v_a1_wide, .int v_a1_pace, .int v_a1_age, .int v_a1_slits, .int v_a1_slitA, .int v_a1_slitB])), (q15, .inl (G.2.2.1, 9, .inr (.inl f13)))] H → va_D A [(A_a0, .inr (8, [.ref A_a0_first, .ref A_a0_second])), (q14, .inl (G.2.2.1, 9, .inr (.inl f21))), (A_a1, .inr (4, [.int v_a1_lands, .int v_a1_wide, .int v_a1_pace, .int v_a1_age, .int v_a1_slits, .int v_a1_slitA, .int v_a1_slitB])), (q15, .inl (G.2.2.1, 9, .inr (.inl f13)))] → va_S A s.heap H locs → lv_has ls 10 [(1, .ref A_a1), (3, .int p3), (4, .int p4), (5, .int p5), (6, .ref q14), (7, .ref q15), (8, .int x16)] → W p l e rmX8_countWays s m args below meth c H locs 0 0 Q (F0 m 41 ls [])) ?_ N f7 v_a0_second 1 hX26 _ _ _ _ _ rs_pm_rf hP hD hS (lv_sub hl [1, 2, 3, 4, 5, 6, 0] rfl)
    intro f21 f13 x16 o26 h K26 L26 q14 q15 H locs ls hpm26 hP hD hS hl
    unfold f_X8_countWays_L41 at h
    refine lv_iload hx hb dX8_countWays_41 (lv_at hl 6 rfl) ?_
    refine lv_iload hx hb dX8_countWays_43 (lv_at hl 3 rfl) ?_
    refine lv_icmp_gt (tgt := 82) hx hb dX8_countWays_45 (by decide) (fun hc => ?_) (fun hc => ?_)
    · have h := rs_pos hc h
      exact J26 _ _ (L26 _ (Option.some.inj h).symm) _ _ _ _ _ hpm26 hP hD hS (lv_sub hl [1, 4] rfl)
    have h := rs_neg hc h
    refine lv_aload hx hb dX8_countWays_48 (lv_at hl 4 rfl) ?_
    refine lv_aload hx hb dX8_countWays_50 (lv_at hl 5 rfl) ?_
    refine lv_aload_n hx hb dX8_countWays_52 rfl (lv_at hl 0 rfl) ?_
    refine lv_iload hx hb dX8_countWays_53 (lv_at hl 2 rfl) ?_
    refine lv_iload hx hb dX8_countWays_55 (lv_at hl 6 rfl) ?_
    refine lv_iadd hx hb dX8_countWays_57 ?_
    obtain ⟨x33, h34, h⟩ := rs_b1s h
    have h := h _ rfl
    refine rs_callVi (As := [.int (p4 + x16)]) (rest := [.ref q15, .ref q14]) ⟨hx, hb, hml, hown, hts⟩ (c_X4_darkAt l G A_a1 v_a1_lands v_a1_wide v_a1_pace v_a1_age v_a1_slits v_a1_slitA v_a1_slitB (p4 + x16) N x33 h34) (cwV 1 hts gX8_countWays_X4_darkAt rfl rfl rfl (by decide +kernel) ⟨Nat.le_of_ble_eq_true rfl, Nat.le_of_ble_eq_true rfl⟩) dX8_countWays_58 hK hP hD hS hA [2] rfl (by decide) rfl rfl (q0 := 0) (ci := 4) rfl rfl rfl hl.1 (lv_room (Nat.le_of_ble_eq_true rfl)) ⟨Nat.zero_le _, Nat.zero_le _⟩ (fun (_ : Unit) => [(A_a0, .inr (8, [.ref A_a0_first, .ref A_a0_second])), (q14, .inl (G.2.2.1, 9, .inr (.inl f21))), (A_a1, .inr (4, [.int v_a1_lands, .int v_a1_wide, .int v_a1_pace, .int v_a1_age, .int v_a1_slits, .int v_a1_slitA, .int v_a1_slitB])), (q15, .inl (G.2.2.1, 9, .inr (.inl f13)))]) (fun _ => rfl) (fun _ => rfl) (fun u34 H locs hP hD hS => ?_)
    obtain ⟨f35, h36, h⟩ := rs_b1s h
    have h := h _ rfl
    refine rs_callSv (As := [.ref q14, .ref q15, .int x33]) (rest := []) ⟨hx, hb, hml, hown, hts⟩ (c_X8_step l G q14 q15 f13 f21 9 9 x33 N f35 h36) (va_cwS 3 hts gX8_countWays_X8_step rfl rfl rfl (by decide +kernel) ⟨Nat.le_of_ble_eq_true rfl, Nat.le_of_ble_eq_true rfl⟩) dX8_countWays_61 hK hP hD hS hA [3, 1] rfl (by decide) rfl rfl hl.1 (lv_room (Nat.le_of_ble_eq_true rfl)) ⟨Nat.zero_le _, Nat.zero_le _⟩ (fun (_ : Unit) => [(A_a0, .inr (8, [.ref A_a0_first, .ref A_a0_second])), (q14, .inl (G.2.2.1, 9, .inr (.inl f21))), (A_a1, .inr (4, [.int v_a1_lands, .int v_a1_wide, .int v_a1_pace, .int v_a1_age, .int v_a1_slits, .int v_a1_slitA, .int v_a1_slitB])), (q15, .inl (G.2.2.1, 9, .inr (.inl f35)))]) (fun _ => rfl) (fun _ => rfl) (fun u36 H locs hP hD hS => ?_)
    refine lv_aload hx hb dX8_countWays_64 (lv_at hl 4 rfl) ?_
    refine lv_astore (lv' := [(9, .ref q14), (1, .ref A_a1), (3, .int p3), (4, .int p4), (5, .int p5), (6, .ref q14), (7, .ref q15), (8, .int x16)]) hx hb dX8_countWays_66 hl (by decide) rfl (fun ls hl => ?_)
    refine lv_aload hx hb dX8_countWays_68 (lv_at hl 6 rfl) ?_
    refine lv_astore (lv' := [(6, .ref q15), (9, .ref q14), (1, .ref A_a1), (3, .int p3), (4, .int p4), (5, .int p5), (7, .ref q15), (8, .int x16)]) hx hb dX8_countWays_70 hl (by decide) rfl (fun ls hl => ?_)
    refine lv_aload hx hb dX8_countWays_72 (lv_at hl 1 rfl) ?_
    refine lv_astore (lv' := [(7, .ref q14), (6, .ref q15), (9, .ref q14), (1, .ref A_a1), (3, .int p3), (4, .int p4), (5, .int p5), (8, .int x16)]) hx hb dX8_countWays_74 hl (by decide) rfl (fun ls hl => ?_)
    refine lv_iinc (v := (x16 + 1)) (lv' := [(8, .int (x16 + 1)), (7, .ref q14), (6, .ref q15), (9, .ref q14), (1, .ref A_a1), (3, .int p3), (4, .int p4), (5, .int p5)]) hx hb dX8_countWays_76 hl (k := 7) rfl (by first | rfl | decide) (by decide) rfl (fun ls hl => ?_)
    refine lv_goto (tgt := 41) hx hb dX8_countWays_79 (by decide) ?_
    exact K26 _ _ _ (Option.some.inj h).symm _ _ _ _ _ (rs_pm_swap hpm26) (hP.sub [0, 3, 2, 1] rfl) (hD.sub [0, 3, 2, 1] (by decide) rfl) hS (lv_sub hl [4, 5, 6, 7, 2, 1, 0] rfl)
  have h := hX6
  refine lv_if_eq (tgt := 34) hx hb dX8_countWays_27 (by decide) (fun hc => ?_) (fun hc => ?_)
  · have h := rs_pos hc h
    refine lv_lconst (v := 0) hx hb dX8_countWays_34 (by decide) ?_
    exact J6 _ (Option.some.inj h).symm _ _ _ hP hD hS (lv_sub hl [3, 5, 6, 7, 1, 0] rfl)
  have h := rs_neg hc h
  refine lv_lconst (v := 1) hx hb dX8_countWays_30 (by decide) ?_
  refine lv_goto (tgt := 35) hx hb dX8_countWays_31 (by decide) ?_
  exact J6 _ (Option.some.inj h).symm _ _ _ hP hD hS (lv_sub hl [3, 5, 6, 7, 1, 0] rfl)
theorem uX9_takeFrom_9 : ∀ w ∈ wsX90, w ∈ wsX9_takeFrom := fun _ h => List.mem_cons_of_mem _ (List.mem_append_left _ (List.mem_append_left _ (List.mem_append_left _ (List.mem_append_right _ h))))
abbrev rmX9_takeFrom : Room := { frames := 2, cells := 0, slots := 0, locals := 43 }
set_option maxRecDepth 100000 in
set_option maxHeartbeats 4000000 in
theorem c_X9_takeFrom (l : Launch) (G : rs_G) (A_a0 : Nat) (A_a1 : Nat) (A_a0_shadow : Nat) (A_a0_stock : Nat) (A_a0_sights : Nat) (A_a1_shadow : Nat) (A_a1_stock : Nat) (A_a1_sights : Nat) (A_a0_stock_cells : Nat) (A_a1_stock_cells : Nat) (A_a0_sights_lands : Nat) (A_a0_sights_years : Nat) (A_a0_sights_covers : Nat) (A_a1_sights_lands : Nat) (A_a1_sights_years : Nat) (A_a1_sights_covers : Nat) (v_a0_year : Int32) (v_a1_year : Int32) (v_a0_shadow_lands : Int32) (v_a0_shadow_wide : Int32) (v_a0_shadow_pace : Int32) (v_a0_shadow_age : Int32) (v_a0_shadow_slits : Int32) (v_a0_shadow_slitA : Int32) (v_a0_shadow_slitB : Int32) (v_a1_shadow_lands : Int32) (v_a1_shadow_wide : Int32) (v_a1_shadow_pace : Int32) (v_a1_shadow_age : Int32) (v_a1_shadow_slits : Int32) (v_a1_shadow_slitA : Int32) (v_a1_shadow_slitB : Int32) (v_a1_stock_cells : (Nat → Int32)) (v_a0_stock_cells : (Nat → Int32)) (v_a0_sights_count : Int32) (v_a1_sights_count : Int32) (v_a1_sights_lands : (Nat → Int32)) (v_a0_sights_lands : (Nat → Int32)) (v_a1_sights_years : (Nat → Int32)) (v_a0_sights_years : (Nat → Int32)) (v_a1_sights_covers : (Nat → Int32)) (v_a0_sights_covers : (Nat → Int32)) (N : Nat) (o0 : Int32) (o1 : Int32) (o2 : Int32) (o3 : Int32) (o4 : Int32) (o5 : Int32) (o6 : Int32) (o7 : Int32) (o8 : (Nat → Int32)) (o9 : Int32) (o10 : (Nat → Int32)) (o11 : (Nat → Int32)) (o12 : (Nat → Int32)) (h : f_X9_takeFrom N v_a1_year v_a1_shadow_lands v_a1_shadow_wide v_a1_shadow_pace v_a1_shadow_age v_a1_shadow_slits v_a1_shadow_slitA v_a1_shadow_slitB v_a1_stock_cells v_a0_stock_cells v_a1_sights_count v_a1_sights_lands v_a0_sights_lands v_a1_sights_years v_a0_sights_years v_a1_sights_covers v_a0_sights_covers = some (o0, o1, o2, o3, o4, o5, o6, o7, o8, o9, o10, o11, o12)) : rs_Cv l yX9_takeFrom wsX9_takeFrom rmX9_takeFrom G [.ref A_a0, .ref A_a1] [(A_a0, .inr (9, [.ref A_a0_shadow, .ref A_a0_stock, .ref A_a0_sights, .int v_a0_year])), (A_a1, .inr (9, [.ref A_a1_shadow, .ref A_a1_stock, .ref A_a1_sights, .int v_a1_year])), (A_a0_shadow, .inr (4, [.int v_a0_shadow_lands, .int v_a0_shadow_wide, .int v_a0_shadow_pace, .int v_a0_shadow_age, .int v_a0_shadow_slits, .int v_a0_shadow_slitA, .int v_a0_shadow_slitB])), (A_a1_shadow, .inr (4, [.int v_a1_shadow_lands, .int v_a1_shadow_wide, .int v_a1_shadow_pace, .int v_a1_shadow_age, .int v_a1_shadow_slits, .int v_a1_shadow_slitA, .int v_a1_shadow_slitB])), (A_a0_stock, .inr (6, [.ref A_a0_stock_cells])), (A_a1_stock, .inr (6, [.ref A_a1_stock_cells])), (A_a1_stock_cells, .inl (G.2.1, 36, .inl v_a1_stock_cells)), (A_a0_stock_cells, .inl (G.2.1, 36, .inl v_a0_stock_cells)), (A_a0_sights, .inr (5, [.ref A_a0_sights_lands, .ref A_a0_sights_years, .ref A_a0_sights_covers, .int v_a0_sights_count])), (A_a1_sights, .inr (5, [.ref A_a1_sights_lands, .ref A_a1_sights_years, .ref A_a1_sights_covers, .int v_a1_sights_count])), (A_a1_sights_lands, .inl (G.2.1, 8, .inl v_a1_sights_lands)), (A_a0_sights_lands, .inl (G.2.1, 8, .inl v_a0_sights_lands)), (A_a1_sights_years, .inl (G.2.1, 8, .inl v_a1_sights_years)), (A_a0_sights_years, .inl (G.2.1, 8, .inl v_a0_sights_years)), (A_a1_sights_covers, .inl (G.2.1, 8, .inl v_a1_sights_covers)), (A_a0_sights_covers, .inl (G.2.1, 8, .inl v_a0_sights_covers))] (fun (_ : Unit) => [(A_a0, .inr (9, [.ref A_a0_shadow, .ref A_a0_stock, .ref A_a0_sights, .int o0])), (A_a1, .inr (9, [.ref A_a1_shadow, .ref A_a1_stock, .ref A_a1_sights, .int v_a1_year])), (A_a0_shadow, .inr (4, [.int o1, .int o2, .int o3, .int o4, .int o5, .int o6, .int o7])), (A_a1_shadow, .inr (4, [.int v_a1_shadow_lands, .int v_a1_shadow_wide, .int v_a1_shadow_pace, .int v_a1_shadow_age, .int v_a1_shadow_slits, .int v_a1_shadow_slitA, .int v_a1_shadow_slitB])), (A_a0_stock, .inr (6, [.ref A_a0_stock_cells])), (A_a1_stock, .inr (6, [.ref A_a1_stock_cells])), (A_a1_stock_cells, .inl (G.2.1, 36, .inl v_a1_stock_cells)), (A_a0_stock_cells, .inl (G.2.1, 36, .inl o8)), (A_a0_sights, .inr (5, [.ref A_a0_sights_lands, .ref A_a0_sights_years, .ref A_a0_sights_covers, .int o9])), (A_a1_sights, .inr (5, [.ref A_a1_sights_lands, .ref A_a1_sights_years, .ref A_a1_sights_covers, .int v_a1_sights_count])), (A_a1_sights_lands, .inl (G.2.1, 8, .inl v_a1_sights_lands)), (A_a0_sights_lands, .inl (G.2.1, 8, .inl o10)), (A_a1_sights_years, .inl (G.2.1, 8, .inl v_a1_sights_years)), (A_a0_sights_years, .inl (G.2.1, 8, .inl o11)), (A_a1_sights_covers, .inl (G.2.1, 8, .inl v_a1_sights_covers)), (A_a0_sights_covers, .inl (G.2.1, 8, .inl o12))]) := by
  refine rs_enter_v (cc := cX9_takeFrom) (maxL := 2) (by decide) rfl (Nat.le_of_ble_eq_true rfl) (fun p e s m args below meth c A Q ls E ret hP hD hS hA hl => ?_)
  obtain ⟨hx, hb, hml, hown, hts, hK⟩ := E
  have hown : s.vm.findClass RX9 = some m.cls := hown
  have hl : lv_has ls 2 [(0, .ref A_a0), (1, .ref A_a1)] := hl
  have ret : ∀ (w0 : Int32) (w1 : Int32) (w2 : Int32) (w3 : Int32) (w4 : Int32) (w5 : Int32) (w6 : Int32) (w7 : Int32) (w8 : (Nat → Int32)) (w9 : Int32) (w10 : (Nat → Int32)) (w11 : (Nat → Int32)) (w12 : (Nat → Int32)) (u : Unit) (H : Heap) (locs : List Loc) (pc : Nat) (ls : Array Slot), some (w0, w1, w2, w3, w4, w5, w6, w7, w8, w9, w10, w11, w12) = some (o0, o1, o2, o3, o4, o5, o6, o7, o8, o9, o10, o11, o12) → va_P G.1 vwCl [(A_a0, .inr (9, [.ref A_a0_shadow, .ref A_a0_stock, .ref A_a0_sights, .int w0])), (A_a1, .inr (9, [.ref A_a1_shadow, .ref A_a1_stock, .ref A_a1_sights, .int v_a1_year])), (A_a0_shadow, .inr (4, [.int w1, .int w2, .int w3, .int w4, .int w5, .int w6, .int w7])), (A_a1_shadow, .inr (4, [.int v_a1_shadow_lands, .int v_a1_shadow_wide, .int v_a1_shadow_pace, .int v_a1_shadow_age, .int v_a1_shadow_slits, .int v_a1_shadow_slitA, .int v_a1_shadow_slitB])), (A_a0_stock, .inr (6, [.ref A_a0_stock_cells])), (A_a1_stock, .inr (6, [.ref A_a1_stock_cells])), (A_a1_stock_cells, .inl (G.2.1, 36, .inl v_a1_stock_cells)), (A_a0_stock_cells, .inl (G.2.1, 36, .inl w8)), (A_a0_sights, .inr (5, [.ref A_a0_sights_lands, .ref A_a0_sights_years, .ref A_a0_sights_covers, .int w9])), (A_a1_sights, .inr (5, [.ref A_a1_sights_lands, .ref A_a1_sights_years, .ref A_a1_sights_covers, .int v_a1_sights_count])), (A_a1_sights_lands, .inl (G.2.1, 8, .inl v_a1_sights_lands)), (A_a0_sights_lands, .inl (G.2.1, 8, .inl w10)), (A_a1_sights_years, .inl (G.2.1, 8, .inl v_a1_sights_years)), (A_a0_sights_years, .inl (G.2.1, 8, .inl w11)), (A_a1_sights_covers, .inl (G.2.1, 8, .inl v_a1_sights_covers)), (A_a0_sights_covers, .inl (G.2.1, 8, .inl w12))] H → va_S A s.heap H locs → decode cX9_takeFrom pc = .ok (.return_, 1) → W p l e rmX9_takeFrom s m args below meth c H locs 0 0 Q (F0 m pc ls []) := by
    intro w0 w1 w2 w3 w4 w5 w6 w7 w8 w9 w10 w11 w12 u H locs pc ls hz
    cases hz
    exact ret u H locs pc ls
  unfold f_X9_takeFrom at h
  refine lv_aload_n hx hb dX9_takeFrom_0 rfl (lv_at hl 0 rfl) ?_
  refine va_get (D := G.1) (ci := 9) (v := .ref A_a0_shadow) (C := RX9) (T := TX9) (N := 4) hx hb hts uX9_takeFrom_9 hown hK.1 hP 0 rfl rfl 0 (by decide) (hts (.fieldLink RX9 12 "RingShadow$World" "shadow" "LRingShadow$Shadow;") (List.mem_of_getElem? (i := 1) rfl)) (fun _ h9 => h9) rfl dX9_takeFrom_1 ?_
  refine lv_aload_n hx hb dX9_takeFrom_4 rfl (lv_at hl 1 rfl) ?_
  refine va_get (D := G.1) (ci := 9) (v := .ref A_a1_shadow) (C := RX9) (T := TX9) (N := 4) hx hb hts uX9_takeFrom_9 hown hK.1 hP 1 rfl rfl 0 (by decide) (hts (.fieldLink RX9 12 "RingShadow$World" "shadow" "LRingShadow$Shadow;") (List.mem_of_getElem? (i := 1) rfl)) (fun _ h9 => h9) rfl dX9_takeFrom_5 ?_
  obtain ⟨⟨x1, x2, x3, x4, x5, x6, x7⟩, h8, h⟩ := rs_b7s h
  have h := h _ _ _ _ _ _ _ rfl
  refine rs_callVv (As := [.ref A_a1_shadow]) (rest := []) ⟨hx, hb, hml, hown, hts⟩ (c_X4_takeFrom l G A_a0_shadow A_a1_shadow v_a0_shadow_lands v_a0_shadow_wide v_a0_shadow_pace v_a0_shadow_age v_a0_shadow_slits v_a0_shadow_slitA v_a0_shadow_slitB v_a1_shadow_lands v_a1_shadow_wide v_a1_shadow_pace v_a1_shadow_age v_a1_shadow_slits v_a1_shadow_slitA v_a1_shadow_slitB x1 x2 x3 x4 x5 x6 x7 h8) (cwV 1 hts gX9_takeFrom_X4_takeFrom rfl rfl rfl (by decide +kernel) ⟨Nat.le_of_ble_eq_true rfl, Nat.le_of_ble_eq_true rfl⟩) dX9_takeFrom_8 hK hP hD hS hA [2, 3] rfl (by decide) rfl rfl (q0 := 0) (ci := 4) rfl rfl rfl hl.1 (lv_room (Nat.le_of_ble_eq_true rfl)) ⟨Nat.zero_le _, Nat.zero_le _⟩ (fun (_ : Unit) => [(A_a0, .inr (9, [.ref A_a0_shadow, .ref A_a0_stock, .ref A_a0_sights, .int v_a0_year])), (A_a1, .inr (9, [.ref A_a1_shadow, .ref A_a1_stock, .ref A_a1_sights, .int v_a1_year])), (A_a0_shadow, .inr (4, [.int x1, .int x2, .int x3, .int x4, .int x5, .int x6, .int x7])), (A_a1_shadow, .inr (4, [.int v_a1_shadow_lands, .int v_a1_shadow_wide, .int v_a1_shadow_pace, .int v_a1_shadow_age, .int v_a1_shadow_slits, .int v_a1_shadow_slitA, .int v_a1_shadow_slitB])), (A_a0_stock, .inr (6, [.ref A_a0_stock_cells])), (A_a1_stock, .inr (6, [.ref A_a1_stock_cells])), (A_a1_stock_cells, .inl (G.2.1, 36, .inl v_a1_stock_cells)), (A_a0_stock_cells, .inl (G.2.1, 36, .inl v_a0_stock_cells)), (A_a0_sights, .inr (5, [.ref A_a0_sights_lands, .ref A_a0_sights_years, .ref A_a0_sights_covers, .int v_a0_sights_count])), (A_a1_sights, .inr (5, [.ref A_a1_sights_lands, .ref A_a1_sights_years, .ref A_a1_sights_covers, .int v_a1_sights_count])), (A_a1_sights_lands, .inl (G.2.1, 8, .inl v_a1_sights_lands)), (A_a0_sights_lands, .inl (G.2.1, 8, .inl v_a0_sights_lands)), (A_a1_sights_years, .inl (G.2.1, 8, .inl v_a1_sights_years)), (A_a0_sights_years, .inl (G.2.1, 8, .inl v_a0_sights_years)), (A_a1_sights_covers, .inl (G.2.1, 8, .inl v_a1_sights_covers)), (A_a0_sights_covers, .inl (G.2.1, 8, .inl v_a0_sights_covers))]) (fun _ => rfl) (fun _ => rfl) (fun u8 H locs hP hD hS => ?_)
  refine lv_aload_n hx hb dX9_takeFrom_11 rfl (lv_at hl 0 rfl) ?_
  refine va_get (D := G.1) (ci := 9) (v := .ref A_a0_stock) (C := RX9) (T := TX9) (N := 4) hx hb hts uX9_takeFrom_9 hown hK.1 hP 0 rfl rfl 1 (by decide) (hts (.fieldLink RX9 21 "RingShadow$World" "stock" "LRingShadow$Stock;") (List.mem_of_getElem? (i := 2) rfl)) (fun _ h9 => h9) rfl dX9_takeFrom_12 ?_
  refine lv_aload_n hx hb dX9_takeFrom_15 rfl (lv_at hl 1 rfl) ?_
  refine va_get (D := G.1) (ci := 9) (v := .ref A_a1_stock) (C := RX9) (T := TX9) (N := 4) hx hb hts uX9_takeFrom_9 hown hK.1 hP 1 rfl rfl 1 (by decide) (hts (.fieldLink RX9 21 "RingShadow$World" "stock" "LRingShadow$Stock;") (List.mem_of_getElem? (i := 2) rfl)) (fun _ h9 => h9) rfl dX9_takeFrom_16 ?_
  obtain ⟨f9, h10, h⟩ := rs_b1s h
  have h := h _ rfl
  refine rs_callVv (As := [.ref A_a1_stock]) (rest := []) ⟨hx, hb, hml, hown, hts⟩ (c_X6_takeFrom l G A_a0_stock A_a1_stock A_a0_stock_cells A_a1_stock_cells v_a1_stock_cells v_a0_stock_cells N f9 h10) (cwV 1 hts gX9_takeFrom_X6_takeFrom rfl rfl rfl (by decide +kernel) ⟨Nat.le_of_ble_eq_true rfl, Nat.le_of_ble_eq_true rfl⟩) dX9_takeFrom_19 hK hP hD hS hA [4, 5, 6, 7] rfl (by decide) rfl rfl (q0 := 0) (ci := 6) rfl rfl rfl hl.1 (lv_room (Nat.le_of_ble_eq_true rfl)) ⟨Nat.zero_le _, Nat.zero_le _⟩ (fun (_ : Unit) => [(A_a0, .inr (9, [.ref A_a0_shadow, .ref A_a0_stock, .ref A_a0_sights, .int v_a0_year])), (A_a1, .inr (9, [.ref A_a1_shadow, .ref A_a1_stock, .ref A_a1_sights, .int v_a1_year])), (A_a0_shadow, .inr (4, [.int x1, .int x2, .int x3, .int x4, .int x5, .int x6, .int x7])), (A_a1_shadow, .inr (4, [.int v_a1_shadow_lands, .int v_a1_shadow_wide, .int v_a1_shadow_pace, .int v_a1_shadow_age, .int v_a1_shadow_slits, .int v_a1_shadow_slitA, .int v_a1_shadow_slitB])), (A_a0_stock, .inr (6, [.ref A_a0_stock_cells])), (A_a1_stock, .inr (6, [.ref A_a1_stock_cells])), (A_a1_stock_cells, .inl (G.2.1, 36, .inl v_a1_stock_cells)), (A_a0_stock_cells, .inl (G.2.1, 36, .inl f9)), (A_a0_sights, .inr (5, [.ref A_a0_sights_lands, .ref A_a0_sights_years, .ref A_a0_sights_covers, .int v_a0_sights_count])), (A_a1_sights, .inr (5, [.ref A_a1_sights_lands, .ref A_a1_sights_years, .ref A_a1_sights_covers, .int v_a1_sights_count])), (A_a1_sights_lands, .inl (G.2.1, 8, .inl v_a1_sights_lands)), (A_a0_sights_lands, .inl (G.2.1, 8, .inl v_a0_sights_lands)), (A_a1_sights_years, .inl (G.2.1, 8, .inl v_a1_sights_years)), (A_a0_sights_years, .inl (G.2.1, 8, .inl v_a0_sights_years)), (A_a1_sights_covers, .inl (G.2.1, 8, .inl v_a1_sights_covers)), (A_a0_sights_covers, .inl (G.2.1, 8, .inl v_a0_sights_covers))]) (fun _ => rfl) (fun _ => rfl) (fun u10 H locs hP hD hS => ?_)
  refine lv_aload_n hx hb dX9_takeFrom_22 rfl (lv_at hl 0 rfl) ?_
  refine va_get (D := G.1) (ci := 9) (v := .ref A_a0_sights) (C := RX9) (T := TX9) (N := 4) hx hb hts uX9_takeFrom_9 hown hK.1 hP 0 rfl rfl 2 (by decide) (hts (.fieldLink RX9 28 "RingShadow$World" "sights" "LRingShadow$Sights;") (List.mem_of_getElem? (i := 3) rfl)) (fun _ h9 => h9) rfl dX9_takeFrom_23 ?_
  refine lv_aload_n hx hb dX9_takeFrom_26 rfl (lv_at hl 1 rfl) ?_
  refine va_get (D := G.1) (ci := 9) (v := .ref A_a1_sights) (C := RX9) (T := TX9) (N := 4) hx hb hts uX9_takeFrom_9 hown hK.1 hP 1 rfl rfl 2 (by decide) (hts (.fieldLink RX9 28 "RingShadow$World" "sights" "LRingShadow$Sights;") (List.mem_of_getElem? (i := 3) rfl)) (fun _ h9 => h9) rfl dX9_takeFrom_27 ?_
  obtain ⟨⟨x11, f12, f13, f14⟩, h15, h⟩ := rs_b4s h
  have h := h _ _ _ _ rfl
  refine rs_callVv (As := [.ref A_a1_sights]) (rest := []) ⟨hx, hb, hml, hown, hts⟩ (c_X5_takeFrom l G A_a0_sights A_a1_sights A_a0_sights_lands A_a0_sights_years A_a0_sights_covers A_a1_sights_lands A_a1_sights_years A_a1_sights_covers v_a0_sights_count v_a1_sights_count v_a1_sights_lands v_a0_sights_lands v_a1_sights_years v_a0_sights_years v_a1_sights_covers v_a0_sights_covers N x11 f12 f13 f14 h15) (cwV 1 hts gX9_takeFrom_X5_takeFrom rfl rfl rfl (by decide +kernel) ⟨Nat.le_of_ble_eq_true rfl, Nat.le_of_ble_eq_true rfl⟩) dX9_takeFrom_30 hK hP hD hS hA [8, 9, 10, 11, 12, 13, 14, 15] rfl (by decide) rfl rfl (q0 := 0) (ci := 5) rfl rfl rfl hl.1 (lv_room (Nat.le_of_ble_eq_true rfl)) ⟨Nat.zero_le _, Nat.zero_le _⟩ (fun (_ : Unit) => [(A_a0, .inr (9, [.ref A_a0_shadow, .ref A_a0_stock, .ref A_a0_sights, .int v_a0_year])), (A_a1, .inr (9, [.ref A_a1_shadow, .ref A_a1_stock, .ref A_a1_sights, .int v_a1_year])), (A_a0_shadow, .inr (4, [.int x1, .int x2, .int x3, .int x4, .int x5, .int x6, .int x7])), (A_a1_shadow, .inr (4, [.int v_a1_shadow_lands, .int v_a1_shadow_wide, .int v_a1_shadow_pace, .int v_a1_shadow_age, .int v_a1_shadow_slits, .int v_a1_shadow_slitA, .int v_a1_shadow_slitB])), (A_a0_stock, .inr (6, [.ref A_a0_stock_cells])), (A_a1_stock, .inr (6, [.ref A_a1_stock_cells])), (A_a1_stock_cells, .inl (G.2.1, 36, .inl v_a1_stock_cells)), (A_a0_stock_cells, .inl (G.2.1, 36, .inl f9)), (A_a0_sights, .inr (5, [.ref A_a0_sights_lands, .ref A_a0_sights_years, .ref A_a0_sights_covers, .int x11])), (A_a1_sights, .inr (5, [.ref A_a1_sights_lands, .ref A_a1_sights_years, .ref A_a1_sights_covers, .int v_a1_sights_count])), (A_a1_sights_lands, .inl (G.2.1, 8, .inl v_a1_sights_lands)), (A_a0_sights_lands, .inl (G.2.1, 8, .inl f12)), (A_a1_sights_years, .inl (G.2.1, 8, .inl v_a1_sights_years)), (A_a0_sights_years, .inl (G.2.1, 8, .inl f13)), (A_a1_sights_covers, .inl (G.2.1, 8, .inl v_a1_sights_covers)), (A_a0_sights_covers, .inl (G.2.1, 8, .inl f14))]) (fun _ => rfl) (fun _ => rfl) (fun u15 H locs hP hD hS => ?_)
  refine lv_aload_n hx hb dX9_takeFrom_33 rfl (lv_at hl 0 rfl) ?_
  refine lv_aload_n hx hb dX9_takeFrom_34 rfl (lv_at hl 1 rfl) ?_
  refine va_get (D := G.1) (ci := 9) (v := .int v_a1_year) (C := RX9) (T := TX9) (N := 4) hx hb hts uX9_takeFrom_9 hown hK.1 hP 1 rfl rfl 3 (by decide) (hts (.fieldLink RX9 42 "RingShadow$World" "year" "I") (List.mem_of_getElem? (i := 4) rfl)) (fun _ h9 => h9) rfl dX9_takeFrom_35 ?_
  refine va_put (D := G.1) (ci := 9) (v := .int v_a1_year) (ty := .int) (C := RX9) (T := TX9) (N := 4) hx hb hts uX9_takeFrom_9 tyX9 tyX9_ok nmX9 hown hK.1 hP hD hS 0 rfl rfl 3 (by decide) (hts (.fieldLink RX9 42 "RingShadow$World" "year" "I") (List.mem_of_getElem? (i := 4) rfl)) (fun _ h9 => h9) rfl (by decide +kernel) rfl rfl (Nat.le_of_ble_eq_true rfl) dX9_takeFrom_38 (fun H locs hP hD hS => ?_)
  have hP : va_P G.1 vwCl [(A_a0, .inr (9, [.ref A_a0_shadow, .ref A_a0_stock, .ref A_a0_sights, .int v_a1_year])), (A_a1, .inr (9, [.ref A_a1_shadow, .ref A_a1_stock, .ref A_a1_sights, .int v_a1_year])), (A_a0_shadow, .inr (4, [.int x1, .int x2, .int x3, .int x4, .int x5, .int x6, .int x7])), (A_a1_shadow, .inr (4, [.int v_a1_shadow_lands, .int v_a1_shadow_wide, .int v_a1_shadow_pace, .int v_a1_shadow_age, .int v_a1_shadow_slits, .int v_a1_shadow_slitA, .int v_a1_shadow_slitB])), (A_a0_stock, .inr (6, [.ref A_a0_stock_cells])), (A_a1_stock, .inr (6, [.ref A_a1_stock_cells])), (A_a1_stock_cells, .inl (G.2.1, 36, .inl v_a1_stock_cells)), (A_a0_stock_cells, .inl (G.2.1, 36, .inl f9)), (A_a0_sights, .inr (5, [.ref A_a0_sights_lands, .ref A_a0_sights_years, .ref A_a0_sights_covers, .int x11])), (A_a1_sights, .inr (5, [.ref A_a1_sights_lands, .ref A_a1_sights_years, .ref A_a1_sights_covers, .int v_a1_sights_count])), (A_a1_sights_lands, .inl (G.2.1, 8, .inl v_a1_sights_lands)), (A_a0_sights_lands, .inl (G.2.1, 8, .inl f12)), (A_a1_sights_years, .inl (G.2.1, 8, .inl v_a1_sights_years)), (A_a0_sights_years, .inl (G.2.1, 8, .inl f13)), (A_a1_sights_covers, .inl (G.2.1, 8, .inl v_a1_sights_covers)), (A_a0_sights_covers, .inl (G.2.1, 8, .inl f14))] H := hP
  have hD : va_D A [(A_a0, .inr (9, [.ref A_a0_shadow, .ref A_a0_stock, .ref A_a0_sights, .int v_a1_year])), (A_a1, .inr (9, [.ref A_a1_shadow, .ref A_a1_stock, .ref A_a1_sights, .int v_a1_year])), (A_a0_shadow, .inr (4, [.int x1, .int x2, .int x3, .int x4, .int x5, .int x6, .int x7])), (A_a1_shadow, .inr (4, [.int v_a1_shadow_lands, .int v_a1_shadow_wide, .int v_a1_shadow_pace, .int v_a1_shadow_age, .int v_a1_shadow_slits, .int v_a1_shadow_slitA, .int v_a1_shadow_slitB])), (A_a0_stock, .inr (6, [.ref A_a0_stock_cells])), (A_a1_stock, .inr (6, [.ref A_a1_stock_cells])), (A_a1_stock_cells, .inl (G.2.1, 36, .inl v_a1_stock_cells)), (A_a0_stock_cells, .inl (G.2.1, 36, .inl f9)), (A_a0_sights, .inr (5, [.ref A_a0_sights_lands, .ref A_a0_sights_years, .ref A_a0_sights_covers, .int x11])), (A_a1_sights, .inr (5, [.ref A_a1_sights_lands, .ref A_a1_sights_years, .ref A_a1_sights_covers, .int v_a1_sights_count])), (A_a1_sights_lands, .inl (G.2.1, 8, .inl v_a1_sights_lands)), (A_a0_sights_lands, .inl (G.2.1, 8, .inl f12)), (A_a1_sights_years, .inl (G.2.1, 8, .inl v_a1_sights_years)), (A_a0_sights_years, .inl (G.2.1, 8, .inl f13)), (A_a1_sights_covers, .inl (G.2.1, 8, .inl v_a1_sights_covers)), (A_a0_sights_covers, .inl (G.2.1, 8, .inl f14))] := hD
  exact ret _ _ _ _ _ _ _ _ _ _ _ _ _ () _ _ _ _ h hP hS dX9_takeFrom_41
theorem uX10_lands_10 : ∀ w ∈ wsX100, w ∈ wsX10_lands := fun _ h => List.mem_cons_of_mem _ (List.mem_append_left _ (List.mem_append_left _ (List.mem_append_left _ (List.mem_append_left _ (List.mem_append_right _ h)))))
theorem uX10_lands_4 : ∀ w ∈ wsX40, w ∈ wsX10_lands := fun _ h => List.mem_cons_of_mem _ (List.mem_append_left _ (List.mem_append_left _ (List.mem_append_right _ h)))
theorem uX10_lands_5 : ∀ w ∈ wsX50, w ∈ wsX10_lands := fun _ h => List.mem_cons_of_mem _ (List.mem_append_left _ (List.mem_append_right _ h))
theorem uX10_lands_9 : ∀ w ∈ wsX90, w ∈ wsX10_lands := fun _ h => List.mem_cons_of_mem _ (List.mem_append_left _ (List.mem_append_left _ (List.mem_append_left _ (List.mem_append_right _ h))))
abbrev rmX10_lands : Room := { frames := 2, cells := 0, slots := 0, locals := 45 }
set_option maxRecDepth 100000 in
set_option maxHeartbeats 4000000 in
theorem c_X10_lands (l : Launch) (G : rs_G) (A_a0 : Nat) (A_a0_world : Nat) (A_a0_images : Nat) (A_a0_pad : Nat) (A_a0_story : Nat) (A_a0_walk : Nat) (A_a0_census : Nat) (A_a0_carrier : Nat) (A_a0_cloud : Nat) (A_a0_world_shadow : Nat) (A_a0_world_stock : Nat) (A_a0_world_sights : Nat) (A_a0_world_stock_cells : Nat) (A_a0_world_sights_lands : Nat) (A_a0_world_sights_years : Nat) (A_a0_world_sights_covers : Nat) (v_a0_world_year : Int32) (v_a0_world_shadow_lands : Int32) (v_a0_world_shadow_wide : Int32) (v_a0_world_shadow_pace : Int32) (v_a0_world_shadow_age : Int32) (v_a0_world_shadow_slits : Int32) (v_a0_world_shadow_slitA : Int32) (v_a0_world_shadow_slitB : Int32) (v_a0_world_stock_cells : (Nat → Int32)) (v_a0_world_sights_count : Int32) (p1 : Int32) (p2 : Int32) (N : Nat) (r0 : Int32) (o0 : Int32) (o1 : Int32) (o2 : Int32) (o3 : (Nat → Int32)) (o4 : Int32) (h : f_X10_lands N p1 p2 v_a0_world_year v_a0_world_shadow_lands v_a0_world_shadow_wide v_a0_world_stock_cells v_a0_world_sights_count = some (r0, o0, o1, o2, o3, o4)) : rs_Ci l yX10_lands wsX10_lands rmX10_lands G [.ref A_a0, .int p1, .int p2] [(A_a0, .inr (10, [.ref A_a0_world, .ref A_a0_images, .ref A_a0_pad, .ref A_a0_story, .ref A_a0_walk, .ref A_a0_census, .ref A_a0_carrier, .ref A_a0_cloud])), (A_a0_world, .inr (9, [.ref A_a0_world_shadow, .ref A_a0_world_stock, .ref A_a0_world_sights, .int v_a0_world_year])), (A_a0_world_shadow, .inr (4, [.int v_a0_world_shadow_lands, .int v_a0_world_shadow_wide, .int v_a0_world_shadow_pace, .int v_a0_world_shadow_age, .int v_a0_world_shadow_slits, .int v_a0_world_shadow_slitA, .int v_a0_world_shadow_slitB])), (A_a0_world_stock, .inr (6, [.ref A_a0_world_stock_cells])), (A_a0_world_stock_cells, .inl (G.2.1, 36, .inl v_a0_world_stock_cells)), (A_a0_world_sights, .inr (5, [.ref A_a0_world_sights_lands, .ref A_a0_world_sights_years, .ref A_a0_world_sights_covers, .int v_a0_world_sights_count]))] (fun (_ : Unit) => [(A_a0, .inr (10, [.ref A_a0_world, .ref A_a0_images, .ref A_a0_pad, .ref A_a0_story, .ref A_a0_walk, .ref A_a0_census, .ref A_a0_carrier, .ref A_a0_cloud])), (A_a0_world, .inr (9, [.ref A_a0_world_shadow, .ref A_a0_world_stock, .ref A_a0_world_sights, .int o0])), (A_a0_world_shadow, .inr (4, [.int o1, .int o2, .int v_a0_world_shadow_pace, .int v_a0_world_shadow_age, .int v_a0_world_shadow_slits, .int v_a0_world_shadow_slitA, .int v_a0_world_shadow_slitB])), (A_a0_world_stock, .inr (6, [.ref A_a0_world_stock_cells])), (A_a0_world_stock_cells, .inl (G.2.1, 36, .inl o3)), (A_a0_world_sights, .inr (5, [.ref A_a0_world_sights_lands, .ref A_a0_world_sights_years, .ref A_a0_world_sights_covers, .int o4]))]) r0 := by
  refine rs_enter_i (cc := cX10_lands) (maxL := 4) (ty := .int) (by decide) rfl (Nat.le_of_ble_eq_true rfl) (fun p e s m args below meth c A Q ls E ret hP hD hS hA hl => ?_)
  obtain ⟨hx, hb, hml, hown, hts, hK⟩ := E
  have hown : s.vm.findClass RX10 = some m.cls := hown
  have hl : lv_has ls 4 [(0, .ref A_a0), (1, .int p1), (2, .int p2)] := hl
  have ret : ∀ (v0 : Int32) (w0 : Int32) (w1 : Int32) (w2 : Int32) (w3 : (Nat → Int32)) (w4 : Int32) (u : Unit) (H : Heap) (locs : List Loc) (pc : Nat) (ls : Array Slot), some (v0, w0, w1, w2, w3, w4) = some (r0, o0, o1, o2, o3, o4) → va_P G.1 vwCl [(A_a0, .inr (10, [.ref A_a0_world, .ref A_a0_images, .ref A_a0_pad, .ref A_a0_story, .ref A_a0_walk, .ref A_a0_census, .ref A_a0_carrier, .ref A_a0_cloud])), (A_a0_world, .inr (9, [.ref A_a0_world_shadow, .ref A_a0_world_stock, .ref A_a0_world_sights, .int w0])), (A_a0_world_shadow, .inr (4, [.int w1, .int w2, .int v_a0_world_shadow_pace, .int v_a0_world_shadow_age, .int v_a0_world_shadow_slits, .int v_a0_world_shadow_slitA, .int v_a0_world_shadow_slitB])), (A_a0_world_stock, .inr (6, [.ref A_a0_world_stock_cells])), (A_a0_world_stock_cells, .inl (G.2.1, 36, .inl w3)), (A_a0_world_sights, .inr (5, [.ref A_a0_world_sights_lands, .ref A_a0_world_sights_years, .ref A_a0_world_sights_covers, .int w4]))] H → va_S A s.heap H locs → decode cX10_lands pc = .ok (.ireturn, 1) → narrow .int (.int v0) = .int v0 → W p l e rmX10_lands s m args below meth c H locs 0 0 Q (F0 m pc ls [.int v0]) := by
    intro v0 w0 w1 w2 w3 w4 u H locs pc ls hz
    cases hz
    exact ret u H locs pc ls
  unfold f_X10_lands at h
  refine lv_iload_n hx hb dX10_lands_0 rfl (lv_at hl 1 rfl) ?_
  refine lv_iconst (v := 2) hx hb dX10_lands_1 (by decide) ?_
  refine lv_bipush (v := 9) hx hb dX10_lands_2 (by decide) ?_
  obtain ⟨x1, h2, h⟩ := rs_b1s h
  have h := h _ rfl
  refine rs_callSi (As := [.int p1, .int 2, .int 9]) (rest := []) ⟨hx, hb, hml, hown, hts⟩ (c_X10_within l G p1 2 9 x1 h2) (va_cwS 3 hts gX10_lands_X10_within rfl rfl rfl (by decide +kernel) ⟨Nat.le_of_ble_eq_true rfl, Nat.le_of_ble_eq_true rfl⟩) dX10_lands_4 hK hP hD hS hA [] rfl (by decide) rfl rfl hl.1 (lv_room (Nat.le_of_ble_eq_true rfl)) ⟨Nat.zero_le _, Nat.zero_le _⟩ (fun (_ : Unit) => [(A_a0, .inr (10, [.ref A_a0_world, .ref A_a0_images, .ref A_a0_pad, .ref A_a0_story, .ref A_a0_walk, .ref A_a0_census, .ref A_a0_carrier, .ref A_a0_cloud])), (A_a0_world, .inr (9, [.ref A_a0_world_shadow, .ref A_a0_world_stock, .ref A_a0_world_sights, .int v_a0_world_year])), (A_a0_world_shadow, .inr (4, [.int v_a0_world_shadow_lands, .int v_a0_world_shadow_wide, .int v_a0_world_shadow_pace, .int v_a0_world_shadow_age, .int v_a0_world_shadow_slits, .int v_a0_world_shadow_slitA, .int v_a0_world_shadow_slitB])), (A_a0_world_stock, .inr (6, [.ref A_a0_world_stock_cells])), (A_a0_world_stock_cells, .inl (G.2.1, 36, .inl v_a0_world_stock_cells)), (A_a0_world_sights, .inr (5, [.ref A_a0_world_sights_lands, .ref A_a0_world_sights_years, .ref A_a0_world_sights_covers, .int v_a0_world_sights_count]))]) (fun _ => rfl) (fun _ => rfl) (fun u2 H locs hP hD hS => ?_)
  refine lv_if_eq (tgt := 25) hx hb dX10_lands_7 (by decide) (fun hc => ?_) (fun hc => ?_)
  · have h := rs_pos hc h
    refine lv_bipush (v := (-2)) hx hb dX10_lands_25 (by decide) ?_
    exact ret _ _ _ _ _ _ () _ _ _ _ h hP hS dX10_lands_27 rfl
  have h := rs_neg hc h
  refine lv_iload_n hx hb dX10_lands_10 rfl (lv_at hl 2 rfl) ?_
  refine lv_iconst (v := 1) hx hb dX10_lands_11 (by decide) ?_
  refine lv_bipush (v := 8) hx hb dX10_lands_12 (by decide) ?_
  obtain ⟨x3, h4, h⟩ := rs_b1s h
  have h := h _ rfl
  refine rs_callSi (As := [.int p2, .int 1, .int 8]) (rest := []) ⟨hx, hb, hml, hown, hts⟩ (c_X10_within l G p2 1 8 x3 h4) (va_cwS 3 hts gX10_lands_X10_within rfl rfl rfl (by decide +kernel) ⟨Nat.le_of_ble_eq_true rfl, Nat.le_of_ble_eq_true rfl⟩) dX10_lands_14 hK hP hD hS hA [] rfl (by decide) rfl rfl hl.1 (lv_room (Nat.le_of_ble_eq_true rfl)) ⟨Nat.zero_le _, Nat.zero_le _⟩ (fun (_ : Unit) => [(A_a0, .inr (10, [.ref A_a0_world, .ref A_a0_images, .ref A_a0_pad, .ref A_a0_story, .ref A_a0_walk, .ref A_a0_census, .ref A_a0_carrier, .ref A_a0_cloud])), (A_a0_world, .inr (9, [.ref A_a0_world_shadow, .ref A_a0_world_stock, .ref A_a0_world_sights, .int v_a0_world_year])), (A_a0_world_shadow, .inr (4, [.int v_a0_world_shadow_lands, .int v_a0_world_shadow_wide, .int v_a0_world_shadow_pace, .int v_a0_world_shadow_age, .int v_a0_world_shadow_slits, .int v_a0_world_shadow_slitA, .int v_a0_world_shadow_slitB])), (A_a0_world_stock, .inr (6, [.ref A_a0_world_stock_cells])), (A_a0_world_stock_cells, .inl (G.2.1, 36, .inl v_a0_world_stock_cells)), (A_a0_world_sights, .inr (5, [.ref A_a0_world_sights_lands, .ref A_a0_world_sights_years, .ref A_a0_world_sights_covers, .int v_a0_world_sights_count]))]) (fun _ => rfl) (fun _ => rfl) (fun u4 H locs hP hD hS => ?_)
  refine lv_if_eq (tgt := 25) hx hb dX10_lands_17 (by decide) (fun hc => ?_) (fun hc => ?_)
  · have h := rs_pos hc h
    refine lv_bipush (v := (-2)) hx hb dX10_lands_25 (by decide) ?_
    exact ret _ _ _ _ _ _ () _ _ _ _ h hP hS dX10_lands_27 rfl
  have h := rs_neg hc h
  refine lv_iload_n hx hb dX10_lands_20 rfl (lv_at hl 2 rfl) ?_
  refine lv_iload_n hx hb dX10_lands_21 rfl (lv_at hl 1 rfl) ?_
  refine lv_icmp_lt (tgt := 28) hx hb dX10_lands_22 (by decide) (fun hc => ?_) (fun hc => ?_)
  · have h := rs_pos hc h
    refine lv_aload_n hx hb dX10_lands_28 rfl (lv_at hl 0 rfl) ?_
    refine va_get (D := G.1) (ci := 10) (v := .ref A_a0_world) (C := RX10) (T := TX10) (N := 8) hx hb hts uX10_lands_10 hown hK.1 hP 0 rfl rfl 0 (by decide) (hts (.fieldLink RX10 10 "RingShadow" "world" "LRingShadow$World;") (List.mem_of_getElem? (i := 1) rfl)) (fun _ h9 => h9) rfl dX10_lands_29 ?_
    refine va_get (D := G.1) (ci := 9) (v := .ref A_a0_world_shadow) (C := RX9) (T := TX9) (N := 4) hx hb hts uX10_lands_9 hown hK.1 hP 1 rfl rfl 0 (by decide) (hts (.fieldLink RX10 66 "RingShadow$World" "shadow" "LRingShadow$Shadow;") (List.mem_of_getElem? (i := 2) rfl)) (fun _ h9 => h9) rfl dX10_lands_32 ?_
    refine va_get (D := G.1) (ci := 4) (v := .int v_a0_world_shadow_lands) (C := RX4) (T := TX4) (N := 7) hx hb hts uX10_lands_4 hown hK.1 hP 2 rfl rfl 0 (by decide) (hts (.fieldLink RX10 70 "RingShadow$Shadow" "lands" "I") (List.mem_of_getElem? (i := 3) rfl)) (fun _ h9 => h9) rfl dX10_lands_35 ?_
    refine lv_istore_n (lv' := [(3, .int v_a0_world_shadow_lands), (0, .ref A_a0), (1, .int p1), (2, .int p2)]) hx hb dX10_lands_38 rfl hl (by decide) rfl (fun ls hl => ?_)
    refine lv_aload_n hx hb dX10_lands_39 rfl (lv_at hl 1 rfl) ?_
    refine va_get (D := G.1) (ci := 10) (v := .ref A_a0_world) (C := RX10) (T := TX10) (N := 8) hx hb hts uX10_lands_10 hown hK.1 hP 0 rfl rfl 0 (by decide) (hts (.fieldLink RX10 10 "RingShadow" "world" "LRingShadow$World;") (List.mem_of_getElem? (i := 1) rfl)) (fun _ h9 => h9) rfl dX10_lands_40 ?_
    refine va_get (D := G.1) (ci := 9) (v := .ref A_a0_world_shadow) (C := RX9) (T := TX9) (N := 4) hx hb hts uX10_lands_9 hown hK.1 hP 1 rfl rfl 0 (by decide) (hts (.fieldLink RX10 66 "RingShadow$World" "shadow" "LRingShadow$Shadow;") (List.mem_of_getElem? (i := 2) rfl)) (fun _ h9 => h9) rfl dX10_lands_43 ?_
    refine lv_iload_n hx hb dX10_lands_46 rfl (lv_at hl 2 rfl) ?_
    refine va_put (D := G.1) (ci := 4) (v := .int p1) (ty := .int) (C := RX4) (T := TX4) (N := 7) hx hb hts uX10_lands_4 tyX4 tyX4_ok nmX4 hown hK.1 hP hD hS 2 rfl rfl 0 (by decide) (hts (.fieldLink RX10 70 "RingShadow$Shadow" "lands" "I") (List.mem_of_getElem? (i := 3) rfl)) (fun _ h9 => h9) rfl (by decide +kernel) rfl rfl (Nat.le_of_ble_eq_true rfl) dX10_lands_47 (fun H locs hP hD hS => ?_)
    have hP : va_P G.1 vwCl [(A_a0, .inr (10, [.ref A_a0_world, .ref A_a0_images, .ref A_a0_pad, .ref A_a0_story, .ref A_a0_walk, .ref A_a0_census, .ref A_a0_carrier, .ref A_a0_cloud])), (A_a0_world, .inr (9, [.ref A_a0_world_shadow, .ref A_a0_world_stock, .ref A_a0_world_sights, .int v_a0_world_year])), (A_a0_world_shadow, .inr (4, [.int p1, .int v_a0_world_shadow_wide, .int v_a0_world_shadow_pace, .int v_a0_world_shadow_age, .int v_a0_world_shadow_slits, .int v_a0_world_shadow_slitA, .int v_a0_world_shadow_slitB])), (A_a0_world_stock, .inr (6, [.ref A_a0_world_stock_cells])), (A_a0_world_stock_cells, .inl (G.2.1, 36, .inl v_a0_world_stock_cells)), (A_a0_world_sights, .inr (5, [.ref A_a0_world_sights_lands, .ref A_a0_world_sights_years, .ref A_a0_world_sights_covers, .int v_a0_world_sights_count]))] H := hP
    have hD : va_D A [(A_a0, .inr (10, [.ref A_a0_world, .ref A_a0_images, .ref A_a0_pad, .ref A_a0_story, .ref A_a0_walk, .ref A_a0_census, .ref A_a0_carrier, .ref A_a0_cloud])), (A_a0_world, .inr (9, [.ref A_a0_world_shadow, .ref A_a0_world_stock, .ref A_a0_world_sights, .int v_a0_world_year])), (A_a0_world_shadow, .inr (4, [.int p1, .int v_a0_world_shadow_wide, .int v_a0_world_shadow_pace, .int v_a0_world_shadow_age, .int v_a0_world_shadow_slits, .int v_a0_world_shadow_slitA, .int v_a0_world_shadow_slitB])), (A_a0_world_stock, .inr (6, [.ref A_a0_world_stock_cells])), (A_a0_world_stock_cells, .inl (G.2.1, 36, .inl v_a0_world_stock_cells)), (A_a0_world_sights, .inr (5, [.ref A_a0_world_sights_lands, .ref A_a0_world_sights_years, .ref A_a0_world_sights_covers, .int v_a0_world_sights_count]))] := hD
    refine lv_aload_n hx hb dX10_lands_50 rfl (lv_at hl 1 rfl) ?_
    refine va_get (D := G.1) (ci := 10) (v := .ref A_a0_world) (C := RX10) (T := TX10) (N := 8) hx hb hts uX10_lands_10 hown hK.1 hP 0 rfl rfl 0 (by decide) (hts (.fieldLink RX10 10 "RingShadow" "world" "LRingShadow$World;") (List.mem_of_getElem? (i := 1) rfl)) (fun _ h9 => h9) rfl dX10_lands_51 ?_
    refine va_get (D := G.1) (ci := 9) (v := .ref A_a0_world_shadow) (C := RX9) (T := TX9) (N := 4) hx hb hts uX10_lands_9 hown hK.1 hP 1 rfl rfl 0 (by decide) (hts (.fieldLink RX10 66 "RingShadow$World" "shadow" "LRingShadow$Shadow;") (List.mem_of_getElem? (i := 2) rfl)) (fun _ h9 => h9) rfl dX10_lands_54 ?_
    refine lv_iload_n hx hb dX10_lands_57 rfl (lv_at hl 3 rfl) ?_
    refine va_put (D := G.1) (ci := 4) (v := .int p2) (ty := .int) (C := RX4) (T := TX4) (N := 7) hx hb hts uX10_lands_4 tyX4 tyX4_ok nmX4 hown hK.1 hP hD hS 2 rfl rfl 1 (by decide) (hts (.fieldLink RX10 76 "RingShadow$Shadow" "wide" "I") (List.mem_of_getElem? (i := 4) rfl)) (fun _ h9 => h9) rfl (by decide +kernel) rfl rfl (Nat.le_of_ble_eq_true rfl) dX10_lands_58 (fun H locs hP hD hS => ?_)
    have hP : va_P G.1 vwCl [(A_a0, .inr (10, [.ref A_a0_world, .ref A_a0_images, .ref A_a0_pad, .ref A_a0_story, .ref A_a0_walk, .ref A_a0_census, .ref A_a0_carrier, .ref A_a0_cloud])), (A_a0_world, .inr (9, [.ref A_a0_world_shadow, .ref A_a0_world_stock, .ref A_a0_world_sights, .int v_a0_world_year])), (A_a0_world_shadow, .inr (4, [.int p1, .int p2, .int v_a0_world_shadow_pace, .int v_a0_world_shadow_age, .int v_a0_world_shadow_slits, .int v_a0_world_shadow_slitA, .int v_a0_world_shadow_slitB])), (A_a0_world_stock, .inr (6, [.ref A_a0_world_stock_cells])), (A_a0_world_stock_cells, .inl (G.2.1, 36, .inl v_a0_world_stock_cells)), (A_a0_world_sights, .inr (5, [.ref A_a0_world_sights_lands, .ref A_a0_world_sights_years, .ref A_a0_world_sights_covers, .int v_a0_world_sights_count]))] H := hP
    have hD : va_D A [(A_a0, .inr (10, [.ref A_a0_world, .ref A_a0_images, .ref A_a0_pad, .ref A_a0_story, .ref A_a0_walk, .ref A_a0_census, .ref A_a0_carrier, .ref A_a0_cloud])), (A_a0_world, .inr (9, [.ref A_a0_world_shadow, .ref A_a0_world_stock, .ref A_a0_world_sights, .int v_a0_world_year])), (A_a0_world_shadow, .inr (4, [.int p1, .int p2, .int v_a0_world_shadow_pace, .int v_a0_world_shadow_age, .int v_a0_world_shadow_slits, .int v_a0_world_shadow_slitA, .int v_a0_world_shadow_slitB])), (A_a0_world_stock, .inr (6, [.ref A_a0_world_stock_cells])), (A_a0_world_stock_cells, .inl (G.2.1, 36, .inl v_a0_world_stock_cells)), (A_a0_world_sights, .inr (5, [.ref A_a0_world_sights_lands, .ref A_a0_world_sights_years, .ref A_a0_world_sights_covers, .int v_a0_world_sights_count]))] := hD
    refine lv_aload_n hx hb dX10_lands_61 rfl (lv_at hl 1 rfl) ?_
    refine va_get (D := G.1) (ci := 10) (v := .ref A_a0_world) (C := RX10) (T := TX10) (N := 8) hx hb hts uX10_lands_10 hown hK.1 hP 0 rfl rfl 0 (by decide) (hts (.fieldLink RX10 10 "RingShadow" "world" "LRingShadow$World;") (List.mem_of_getElem? (i := 1) rfl)) (fun _ h9 => h9) rfl dX10_lands_62 ?_
    refine va_get (D := G.1) (ci := 9) (v := .ref A_a0_world_stock) (C := RX9) (T := TX9) (N := 4) hx hb hts uX10_lands_9 hown hK.1 hP 1 rfl rfl 1 (by decide) (hts (.fieldLink RX10 79 "RingShadow$World" "stock" "LRingShadow$Stock;") (List.mem_of_getElem? (i := 5) rfl)) (fun _ h9 => h9) rfl dX10_lands_65 ?_
    obtain ⟨f5, h6, h⟩ := rs_b1s h
    have h := h _ rfl
    refine rs_callVv (As := []) (rest := []) ⟨hx, hb, hml, hown, hts⟩ (c_X6_begin l G A_a0_world_stock A_a0_world_stock_cells v_a0_world_stock_cells N f5 h6) (cwV 0 hts gX10_lands_X6_begin rfl rfl rfl (by decide +kernel) ⟨Nat.le_of_ble_eq_true rfl, Nat.le_of_ble_eq_true rfl⟩) dX10_lands_68 hK hP hD hS hA [3, 4] rfl (by decide) rfl rfl (q0 := 0) (ci := 6) rfl rfl rfl hl.1 (lv_room (Nat.le_of_ble_eq_true rfl)) ⟨Nat.zero_le _, Nat.zero_le _⟩ (fun (_ : Unit) => [(A_a0, .inr (10, [.ref A_a0_world, .ref A_a0_images, .ref A_a0_pad, .ref A_a0_story, .ref A_a0_walk, .ref A_a0_census, .ref A_a0_carrier, .ref A_a0_cloud])), (A_a0_world, .inr (9, [.ref A_a0_world_shadow, .ref A_a0_world_stock, .ref A_a0_world_sights, .int v_a0_world_year])), (A_a0_world_shadow, .inr (4, [.int p1, .int p2, .int v_a0_world_shadow_pace, .int v_a0_world_shadow_age, .int v_a0_world_shadow_slits, .int v_a0_world_shadow_slitA, .int v_a0_world_shadow_slitB])), (A_a0_world_stock, .inr (6, [.ref A_a0_world_stock_cells])), (A_a0_world_stock_cells, .inl (G.2.1, 36, .inl f5)), (A_a0_world_sights, .inr (5, [.ref A_a0_world_sights_lands, .ref A_a0_world_sights_years, .ref A_a0_world_sights_covers, .int v_a0_world_sights_count]))]) (fun _ => rfl) (fun _ => rfl) (fun u6 H locs hP hD hS => ?_)
    refine lv_aload_n hx hb dX10_lands_71 rfl (lv_at hl 1 rfl) ?_
    refine va_get (D := G.1) (ci := 10) (v := .ref A_a0_world) (C := RX10) (T := TX10) (N := 8) hx hb hts uX10_lands_10 hown hK.1 hP 0 rfl rfl 0 (by decide) (hts (.fieldLink RX10 10 "RingShadow" "world" "LRingShadow$World;") (List.mem_of_getElem? (i := 1) rfl)) (fun _ h9 => h9) rfl dX10_lands_72 ?_
    refine va_get (D := G.1) (ci := 9) (v := .ref A_a0_world_sights) (C := RX9) (T := TX9) (N := 4) hx hb hts uX10_lands_9 hown hK.1 hP 1 rfl rfl 2 (by decide) (hts (.fieldLink RX10 88 "RingShadow$World" "sights" "LRingShadow$Sights;") (List.mem_of_getElem? (i := 6) rfl)) (fun _ h9 => h9) rfl dX10_lands_75 ?_
    refine lv_iconst (v := 0) hx hb dX10_lands_78 (by decide) ?_
    refine va_put (D := G.1) (ci := 5) (v := .int 0) (ty := .int) (C := RX5) (T := TX5) (N := 4) hx hb hts uX10_lands_5 tyX5 tyX5_ok nmX5 hown hK.1 hP hD hS 5 rfl rfl 3 (by decide) (hts (.fieldLink RX10 92 "RingShadow$Sights" "count" "I") (List.mem_of_getElem? (i := 7) rfl)) (fun _ h9 => h9) rfl (by decide +kernel) rfl rfl (Nat.le_of_ble_eq_true rfl) dX10_lands_79 (fun H locs hP hD hS => ?_)
    have hP : va_P G.1 vwCl [(A_a0, .inr (10, [.ref A_a0_world, .ref A_a0_images, .ref A_a0_pad, .ref A_a0_story, .ref A_a0_walk, .ref A_a0_census, .ref A_a0_carrier, .ref A_a0_cloud])), (A_a0_world, .inr (9, [.ref A_a0_world_shadow, .ref A_a0_world_stock, .ref A_a0_world_sights, .int v_a0_world_year])), (A_a0_world_shadow, .inr (4, [.int p1, .int p2, .int v_a0_world_shadow_pace, .int v_a0_world_shadow_age, .int v_a0_world_shadow_slits, .int v_a0_world_shadow_slitA, .int v_a0_world_shadow_slitB])), (A_a0_world_stock, .inr (6, [.ref A_a0_world_stock_cells])), (A_a0_world_stock_cells, .inl (G.2.1, 36, .inl f5)), (A_a0_world_sights, .inr (5, [.ref A_a0_world_sights_lands, .ref A_a0_world_sights_years, .ref A_a0_world_sights_covers, .int 0]))] H := hP
    have hD : va_D A [(A_a0, .inr (10, [.ref A_a0_world, .ref A_a0_images, .ref A_a0_pad, .ref A_a0_story, .ref A_a0_walk, .ref A_a0_census, .ref A_a0_carrier, .ref A_a0_cloud])), (A_a0_world, .inr (9, [.ref A_a0_world_shadow, .ref A_a0_world_stock, .ref A_a0_world_sights, .int v_a0_world_year])), (A_a0_world_shadow, .inr (4, [.int p1, .int p2, .int v_a0_world_shadow_pace, .int v_a0_world_shadow_age, .int v_a0_world_shadow_slits, .int v_a0_world_shadow_slitA, .int v_a0_world_shadow_slitB])), (A_a0_world_stock, .inr (6, [.ref A_a0_world_stock_cells])), (A_a0_world_stock_cells, .inl (G.2.1, 36, .inl f5)), (A_a0_world_sights, .inr (5, [.ref A_a0_world_sights_lands, .ref A_a0_world_sights_years, .ref A_a0_world_sights_covers, .int 0]))] := hD
    refine lv_aload_n hx hb dX10_lands_82 rfl (lv_at hl 1 rfl) ?_
    refine va_get (D := G.1) (ci := 10) (v := .ref A_a0_world) (C := RX10) (T := TX10) (N := 8) hx hb hts uX10_lands_10 hown hK.1 hP 0 rfl rfl 0 (by decide) (hts (.fieldLink RX10 10 "RingShadow" "world" "LRingShadow$World;") (List.mem_of_getElem? (i := 1) rfl)) (fun _ h9 => h9) rfl dX10_lands_83 ?_
    refine lv_iconst (v := 0) hx hb dX10_lands_86 (by decide) ?_
    refine va_put (D := G.1) (ci := 9) (v := .int 0) (ty := .int) (C := RX9) (T := TX9) (N := 4) hx hb hts uX10_lands_9 tyX9 tyX9_ok nmX9 hown hK.1 hP hD hS 1 rfl rfl 3 (by decide) (hts (.fieldLink RX10 97 "RingShadow$World" "year" "I") (List.mem_of_getElem? (i := 8) rfl)) (fun _ h9 => h9) rfl (by decide +kernel) rfl rfl (Nat.le_of_ble_eq_true rfl) dX10_lands_87 (fun H locs hP hD hS => ?_)
    have hP : va_P G.1 vwCl [(A_a0, .inr (10, [.ref A_a0_world, .ref A_a0_images, .ref A_a0_pad, .ref A_a0_story, .ref A_a0_walk, .ref A_a0_census, .ref A_a0_carrier, .ref A_a0_cloud])), (A_a0_world, .inr (9, [.ref A_a0_world_shadow, .ref A_a0_world_stock, .ref A_a0_world_sights, .int 0])), (A_a0_world_shadow, .inr (4, [.int p1, .int p2, .int v_a0_world_shadow_pace, .int v_a0_world_shadow_age, .int v_a0_world_shadow_slits, .int v_a0_world_shadow_slitA, .int v_a0_world_shadow_slitB])), (A_a0_world_stock, .inr (6, [.ref A_a0_world_stock_cells])), (A_a0_world_stock_cells, .inl (G.2.1, 36, .inl f5)), (A_a0_world_sights, .inr (5, [.ref A_a0_world_sights_lands, .ref A_a0_world_sights_years, .ref A_a0_world_sights_covers, .int 0]))] H := hP
    have hD : va_D A [(A_a0, .inr (10, [.ref A_a0_world, .ref A_a0_images, .ref A_a0_pad, .ref A_a0_story, .ref A_a0_walk, .ref A_a0_census, .ref A_a0_carrier, .ref A_a0_cloud])), (A_a0_world, .inr (9, [.ref A_a0_world_shadow, .ref A_a0_world_stock, .ref A_a0_world_sights, .int 0])), (A_a0_world_shadow, .inr (4, [.int p1, .int p2, .int v_a0_world_shadow_pace, .int v_a0_world_shadow_age, .int v_a0_world_shadow_slits, .int v_a0_world_shadow_slitA, .int v_a0_world_shadow_slitB])), (A_a0_world_stock, .inr (6, [.ref A_a0_world_stock_cells])), (A_a0_world_stock_cells, .inl (G.2.1, 36, .inl f5)), (A_a0_world_sights, .inr (5, [.ref A_a0_world_sights_lands, .ref A_a0_world_sights_years, .ref A_a0_world_sights_covers, .int 0]))] := hD
    refine lv_iload_n hx hb dX10_lands_90 rfl (lv_at hl 0 rfl) ?_
    exact ret _ _ _ _ _ _ () _ _ _ _ h hP hS dX10_lands_91 rfl
  have h := rs_neg hc h
  refine lv_bipush (v := (-2)) hx hb dX10_lands_25 (by decide) ?_
  exact ret _ _ _ _ _ _ () _ _ _ _ h hP hS dX10_lands_27 rfl
abbrev rmX10_mayRule : Room := { frames := 1, cells := 0, slots := 0, locals := 22 }
set_option maxRecDepth 100000 in
set_option maxHeartbeats 4000000 in
theorem c_X10_mayRule (l : Launch) (G : rs_G) (p0 : Int32) (p1 : Int32) (r0 : Int32) (h : f_X10_mayRule p0 p1 = some r0) : rs_Ci l yX10_mayRule wsX10_mayRule rmX10_mayRule G [.int p0, .int p1] [] (fun (_ : Unit) => []) r0 := by
  refine rs_enter_i (cc := cX10_mayRule) (maxL := 2) (ty := .boolean) (by decide) rfl (Nat.le_of_ble_eq_true rfl) (fun p e s m args below meth c A Q ls E ret hP hD hS hA hl => ?_)
  obtain ⟨hx, hb, hml, hown, hts, hK⟩ := E
  have hown : s.vm.findClass RX10 = some m.cls := hown
  have hl : lv_has ls 2 [(0, .int p0), (1, .int p1)] := hl
  have ret : ∀ (v0 : Int32) (u : Unit) (H : Heap) (locs : List Loc) (pc : Nat) (ls : Array Slot), some v0 = some r0 → va_P G.1 vwCl [] H → va_S A s.heap H locs → decode cX10_mayRule pc = .ok (.ireturn, 1) → narrow .boolean (.int v0) = .int v0 → W p l e rmX10_mayRule s m args below meth c H locs 0 0 Q (F0 m pc ls [.int v0]) := by
    intro v0 u H locs pc ls hz
    cases hz
    exact ret u H locs pc ls
  unfold f_X10_mayRule at h
  refine lv_iload_n hx hb dX10_mayRule_0 rfl (lv_at hl 0 rfl) ?_
  by_cases c0 : p0 = 0
  · have h := rs_pos c0 h
    refine lv_tableIn (off := 35) (tgt := 36) hx hb dX10_mayRule_1 (by rw [c0]; decide) (by rw [c0]; decide) (by rw [c0]; rfl) (by decide) ?_
    refine lv_iload_n hx hb dX10_mayRule_36 rfl (lv_at hl 1 rfl) ?_
    refine lv_iconst (v := 1) hx hb dX10_mayRule_37 (by decide) ?_
    refine lv_bipush (v := 9) hx hb dX10_mayRule_38 (by decide) ?_
    obtain ⟨x1, h2, h⟩ := rs_b1s h
    have h := h _ rfl
    refine rs_callSi (As := [.int p1, .int 1, .int 9]) (rest := []) ⟨hx, hb, hml, hown, hts⟩ (c_X10_within l G p1 1 9 x1 h2) (va_cwS 3 hts gX10_mayRule_X10_within rfl rfl rfl (by decide +kernel) ⟨Nat.le_of_ble_eq_true rfl, Nat.le_of_ble_eq_true rfl⟩) dX10_mayRule_40 hK hP hD hS hA [] rfl (by decide) rfl rfl hl.1 (lv_room (Nat.le_of_ble_eq_true rfl)) ⟨Nat.zero_le _, Nat.zero_le _⟩ (fun (_ : Unit) => []) (fun _ => rfl) (fun _ => rfl) (fun u2 H locs hP hD hS => ?_)
    obtain ⟨hg, h⟩ := rs_ga h
    exact ret _ () _ _ _ _ h hP hS dX10_mayRule_43 (rs_narz hg)
  have h := rs_neg c0 h
  by_cases c1 : p0 = 1
  · have h := rs_pos c1 h
    refine lv_tableIn (off := 43) (tgt := 44) hx hb dX10_mayRule_1 (by rw [c1]; decide) (by rw [c1]; decide) (by rw [c1]; rfl) (by decide) ?_
    refine lv_iload_n hx hb dX10_mayRule_44 rfl (lv_at hl 1 rfl) ?_
    refine lv_iconst (v := 0) hx hb dX10_mayRule_45 (by decide) ?_
    refine lv_bipush (v := 99) hx hb dX10_mayRule_46 (by decide) ?_
    obtain ⟨x3, h4, h⟩ := rs_b1s h
    have h := h _ rfl
    refine rs_callSi (As := [.int p1, .int 0, .int 99]) (rest := []) ⟨hx, hb, hml, hown, hts⟩ (c_X10_within l G p1 0 99 x3 h4) (va_cwS 3 hts gX10_mayRule_X10_within rfl rfl rfl (by decide +kernel) ⟨Nat.le_of_ble_eq_true rfl, Nat.le_of_ble_eq_true rfl⟩) dX10_mayRule_48 hK hP hD hS hA [] rfl (by decide) rfl rfl hl.1 (lv_room (Nat.le_of_ble_eq_true rfl)) ⟨Nat.zero_le _, Nat.zero_le _⟩ (fun (_ : Unit) => []) (fun _ => rfl) (fun _ => rfl) (fun u4 H locs hP hD hS => ?_)
    obtain ⟨hg, h⟩ := rs_ga h
    exact ret _ () _ _ _ _ h hP hS dX10_mayRule_51 (rs_narz hg)
  have h := rs_neg c1 h
  by_cases c2 : p0 = 2
  · have h := rs_pos c2 h
    refine lv_tableIn (off := 51) (tgt := 52) hx hb dX10_mayRule_1 (by rw [c2]; decide) (by rw [c2]; decide) (by rw [c2]; rfl) (by decide) ?_
    refine lv_iload_n hx hb dX10_mayRule_52 rfl (lv_at hl 1 rfl) ?_
    refine lv_if_eq (tgt := 66) hx hb dX10_mayRule_53 (by decide) (fun hc => ?_) (fun hc => ?_)
    · have h := rs_pos hc h
      refine lv_iconst (v := 1) hx hb dX10_mayRule_66 (by decide) ?_
      refine lv_goto (tgt := 71) hx hb dX10_mayRule_67 (by decide) ?_
      exact ret _ () _ _ _ _ h hP hS dX10_mayRule_71 rfl
    have h := rs_neg hc h
    refine lv_iload_n hx hb dX10_mayRule_56 rfl (lv_at hl 1 rfl) ?_
    refine lv_iconst (v := 2) hx hb dX10_mayRule_57 (by decide) ?_
    refine lv_bipush (v := 20) hx hb dX10_mayRule_58 (by decide) ?_
    obtain ⟨x5, h6, h⟩ := rs_b1s h
    have h := h _ rfl
    refine rs_callSi (As := [.int p1, .int 2, .int 20]) (rest := []) ⟨hx, hb, hml, hown, hts⟩ (c_X10_within l G p1 2 20 x5 h6) (va_cwS 3 hts gX10_mayRule_X10_within rfl rfl rfl (by decide +kernel) ⟨Nat.le_of_ble_eq_true rfl, Nat.le_of_ble_eq_true rfl⟩) dX10_mayRule_60 hK hP hD hS hA [] rfl (by decide) rfl rfl hl.1 (lv_room (Nat.le_of_ble_eq_true rfl)) ⟨Nat.zero_le _, Nat.zero_le _⟩ (fun (_ : Unit) => []) (fun _ => rfl) (fun _ => rfl) (fun u6 H locs hP hD hS => ?_)
    refine lv_if_eq (tgt := 70) hx hb dX10_mayRule_63 (by decide) (fun hc => ?_) (fun hc => ?_)
    · have h := rs_pos hc h
      refine lv_iconst (v := 0) hx hb dX10_mayRule_70 (by decide) ?_
      exact ret _ () _ _ _ _ h hP hS dX10_mayRule_71 rfl
    have h := rs_neg hc h
    refine lv_iconst (v := 1) hx hb dX10_mayRule_66 (by decide) ?_
    refine lv_goto (tgt := 71) hx hb dX10_mayRule_67 (by decide) ?_
    exact ret _ () _ _ _ _ h hP hS dX10_mayRule_71 rfl
  have h := rs_neg c2 h
  by_cases c3 : p0 = 3
  · have h := rs_pos c3 h
    refine lv_tableIn (off := 71) (tgt := 72) hx hb dX10_mayRule_1 (by rw [c3]; decide) (by rw [c3]; decide) (by rw [c3]; rfl) (by decide) ?_
    refine lv_iload_n hx hb dX10_mayRule_72 rfl (lv_at hl 1 rfl) ?_
    refine lv_iconst (v := 0) hx hb dX10_mayRule_73 (by decide) ?_
    refine lv_bipush (v := 19) hx hb dX10_mayRule_74 (by decide) ?_
    obtain ⟨x7, h8, h⟩ := rs_b1s h
    have h := h _ rfl
    refine rs_callSi (As := [.int p1, .int 0, .int 19]) (rest := []) ⟨hx, hb, hml, hown, hts⟩ (c_X10_within l G p1 0 19 x7 h8) (va_cwS 3 hts gX10_mayRule_X10_within rfl rfl rfl (by decide +kernel) ⟨Nat.le_of_ble_eq_true rfl, Nat.le_of_ble_eq_true rfl⟩) dX10_mayRule_76 hK hP hD hS hA [] rfl (by decide) rfl rfl hl.1 (lv_room (Nat.le_of_ble_eq_true rfl)) ⟨Nat.zero_le _, Nat.zero_le _⟩ (fun (_ : Unit) => []) (fun _ => rfl) (fun _ => rfl) (fun u8 H locs hP hD hS => ?_)
    obtain ⟨hg, h⟩ := rs_ga h
    exact ret _ () _ _ _ _ h hP hS dX10_mayRule_79 (rs_narz hg)
  have h := rs_neg c3 h
  by_cases c4 : p0 = 4
  · have h := rs_pos c4 h
    refine lv_tableIn (off := 71) (tgt := 72) hx hb dX10_mayRule_1 (by rw [c4]; decide) (by rw [c4]; decide) (by rw [c4]; rfl) (by decide) ?_
    refine lv_iload_n hx hb dX10_mayRule_72 rfl (lv_at hl 1 rfl) ?_
    refine lv_iconst (v := 0) hx hb dX10_mayRule_73 (by decide) ?_
    refine lv_bipush (v := 19) hx hb dX10_mayRule_74 (by decide) ?_
    obtain ⟨x9, h10, h⟩ := rs_b1s h
    have h := h _ rfl
    refine rs_callSi (As := [.int p1, .int 0, .int 19]) (rest := []) ⟨hx, hb, hml, hown, hts⟩ (c_X10_within l G p1 0 19 x9 h10) (va_cwS 3 hts gX10_mayRule_X10_within rfl rfl rfl (by decide +kernel) ⟨Nat.le_of_ble_eq_true rfl, Nat.le_of_ble_eq_true rfl⟩) dX10_mayRule_76 hK hP hD hS hA [] rfl (by decide) rfl rfl hl.1 (lv_room (Nat.le_of_ble_eq_true rfl)) ⟨Nat.zero_le _, Nat.zero_le _⟩ (fun (_ : Unit) => []) (fun _ => rfl) (fun _ => rfl) (fun u10 H locs hP hD hS => ?_)
    obtain ⟨hg, h⟩ := rs_ga h
    exact ret _ () _ _ _ _ h hP hS dX10_mayRule_79 (rs_narz hg)
  have h := rs_neg c4 h
  refine lv_tableOut (tgt := 80) hx hb dX10_mayRule_1 (by have e0 := lv_neT (k := 0) (a := 0) c0 rfl; have e1 := lv_neT (k := 1) (a := 1) c1 rfl; have e2 := lv_neT (k := 2) (a := 2) c2 rfl; have e3 := lv_neT (k := 3) (a := 3) c3 rfl; have e4 := lv_neT (k := 4) (a := 4) c4 rfl; omega) (by decide) ?_
  refine lv_iconst (v := 0) hx hb dX10_mayRule_80 (by decide) ?_
  exact ret _ () _ _ _ _ h hP hS dX10_mayRule_81 rfl
theorem uX10_set_10 : ∀ w ∈ wsX100, w ∈ wsX10_set := fun _ h => List.mem_cons_of_mem _ (List.mem_append_left _ (List.mem_append_left _ (List.mem_append_right _ h)))
theorem uX10_set_9 : ∀ w ∈ wsX90, w ∈ wsX10_set := fun _ h => List.mem_cons_of_mem _ (List.mem_append_left _ (List.mem_append_right _ h))
abbrev rmX10_set : Room := { frames := 2, cells := 0, slots := 0, locals := 43 }
set_option maxRecDepth 100000 in
set_option maxHeartbeats 4000000 in
theorem c_X10_set (l : Launch) (G : rs_G) (A_a0 : Nat) (A_a0_world : Nat) (A_a0_images : Nat) (A_a0_pad : Nat) (A_a0_story : Nat) (A_a0_walk : Nat) (A_a0_census : Nat) (A_a0_carrier : Nat) (A_a0_cloud : Nat) (A_a0_world_shadow : Nat) (A_a0_world_stock : Nat) (A_a0_world_sights : Nat) (v_a0_world_year : Int32) (v_a0_world_shadow_lands : Int32) (v_a0_world_shadow_wide : Int32) (v_a0_world_shadow_pace : Int32) (v_a0_world_shadow_age : Int32) (v_a0_world_shadow_slits : Int32) (v_a0_world_shadow_slitA : Int32) (v_a0_world_shadow_slitB : Int32) (p1 : Int32) (p2 : Int32) (r0 : Int32) (o0 : Int32) (o1 : Int32) (o2 : Int32) (o3 : Int32) (o4 : Int32) (h : f_X10_set p1 p2 v_a0_world_shadow_pace v_a0_world_shadow_age v_a0_world_shadow_slits v_a0_world_shadow_slitA v_a0_world_shadow_slitB = some (r0, o0, o1, o2, o3, o4)) : rs_Ci l yX10_set wsX10_set rmX10_set G [.ref A_a0, .int p1, .int p2] [(A_a0, .inr (10, [.ref A_a0_world, .ref A_a0_images, .ref A_a0_pad, .ref A_a0_story, .ref A_a0_walk, .ref A_a0_census, .ref A_a0_carrier, .ref A_a0_cloud])), (A_a0_world, .inr (9, [.ref A_a0_world_shadow, .ref A_a0_world_stock, .ref A_a0_world_sights, .int v_a0_world_year])), (A_a0_world_shadow, .inr (4, [.int v_a0_world_shadow_lands, .int v_a0_world_shadow_wide, .int v_a0_world_shadow_pace, .int v_a0_world_shadow_age, .int v_a0_world_shadow_slits, .int v_a0_world_shadow_slitA, .int v_a0_world_shadow_slitB]))] (fun (_ : Unit) => [(A_a0, .inr (10, [.ref A_a0_world, .ref A_a0_images, .ref A_a0_pad, .ref A_a0_story, .ref A_a0_walk, .ref A_a0_census, .ref A_a0_carrier, .ref A_a0_cloud])), (A_a0_world, .inr (9, [.ref A_a0_world_shadow, .ref A_a0_world_stock, .ref A_a0_world_sights, .int v_a0_world_year])), (A_a0_world_shadow, .inr (4, [.int v_a0_world_shadow_lands, .int v_a0_world_shadow_wide, .int o0, .int o1, .int o2, .int o3, .int o4]))]) r0 := by
  refine rs_enter_i (cc := cX10_set) (maxL := 4) (ty := .int) (by decide) rfl (Nat.le_of_ble_eq_true rfl) (fun p e s m args below meth c A Q ls E ret hP hD hS hA hl => ?_)
  obtain ⟨hx, hb, hml, hown, hts, hK⟩ := E
  have hown : s.vm.findClass RX10 = some m.cls := hown
  have hl : lv_has ls 4 [(0, .ref A_a0), (1, .int p1), (2, .int p2)] := hl
  have ret : ∀ (v0 : Int32) (w0 : Int32) (w1 : Int32) (w2 : Int32) (w3 : Int32) (w4 : Int32) (u : Unit) (H : Heap) (locs : List Loc) (pc : Nat) (ls : Array Slot), some (v0, w0, w1, w2, w3, w4) = some (r0, o0, o1, o2, o3, o4) → va_P G.1 vwCl [(A_a0, .inr (10, [.ref A_a0_world, .ref A_a0_images, .ref A_a0_pad, .ref A_a0_story, .ref A_a0_walk, .ref A_a0_census, .ref A_a0_carrier, .ref A_a0_cloud])), (A_a0_world, .inr (9, [.ref A_a0_world_shadow, .ref A_a0_world_stock, .ref A_a0_world_sights, .int v_a0_world_year])), (A_a0_world_shadow, .inr (4, [.int v_a0_world_shadow_lands, .int v_a0_world_shadow_wide, .int w0, .int w1, .int w2, .int w3, .int w4]))] H → va_S A s.heap H locs → decode cX10_set pc = .ok (.ireturn, 1) → narrow .int (.int v0) = .int v0 → W p l e rmX10_set s m args below meth c H locs 0 0 Q (F0 m pc ls [.int v0]) := by
    intro v0 w0 w1 w2 w3 w4 u H locs pc ls hz
    cases hz
    exact ret u H locs pc ls
  unfold f_X10_set at h
  refine lv_iload_n hx hb dX10_set_0 rfl (lv_at hl 1 rfl) ?_
  refine lv_iload_n hx hb dX10_set_1 rfl (lv_at hl 2 rfl) ?_
  obtain ⟨x1, h2, h⟩ := rs_b1s h
  have h := h _ rfl
  refine rs_callSi (As := [.int p1, .int p2]) (rest := []) ⟨hx, hb, hml, hown, hts⟩ (c_X10_mayRule l G p1 p2 x1 h2) (va_cwS 2 hts gX10_set_X10_mayRule rfl rfl rfl (by decide +kernel) ⟨Nat.le_of_ble_eq_true rfl, Nat.le_of_ble_eq_true rfl⟩) dX10_set_2 hK hP hD hS hA [] rfl (by decide) rfl rfl hl.1 (lv_room (Nat.le_of_ble_eq_true rfl)) ⟨Nat.zero_le _, Nat.zero_le _⟩ (fun (_ : Unit) => [(A_a0, .inr (10, [.ref A_a0_world, .ref A_a0_images, .ref A_a0_pad, .ref A_a0_story, .ref A_a0_walk, .ref A_a0_census, .ref A_a0_carrier, .ref A_a0_cloud])), (A_a0_world, .inr (9, [.ref A_a0_world_shadow, .ref A_a0_world_stock, .ref A_a0_world_sights, .int v_a0_world_year])), (A_a0_world_shadow, .inr (4, [.int v_a0_world_shadow_lands, .int v_a0_world_shadow_wide, .int v_a0_world_shadow_pace, .int v_a0_world_shadow_age, .int v_a0_world_shadow_slits, .int v_a0_world_shadow_slitA, .int v_a0_world_shadow_slitB]))]) (fun _ => rfl) (fun _ => rfl) (fun u2 H locs hP hD hS => ?_)
  refine lv_if_ne (tgt := 11) hx hb dX10_set_5 (by decide) (fun hc => ?_) (fun hc => ?_)
  · have h := rs_neg hc h
    refine lv_aload_n hx hb dX10_set_11 rfl (lv_at hl 0 rfl) ?_
    refine va_get (D := G.1) (ci := 10) (v := .ref A_a0_world) (C := RX10) (T := TX10) (N := 8) hx hb hts uX10_set_10 hown hK.1 hP 0 rfl rfl 0 (by decide) (hts (.fieldLink RX10 10 "RingShadow" "world" "LRingShadow$World;") (List.mem_of_getElem? (i := 1) rfl)) (fun _ h9 => h9) rfl dX10_set_12 ?_
    refine va_get (D := G.1) (ci := 9) (v := .ref A_a0_world_shadow) (C := RX9) (T := TX9) (N := 4) hx hb hts uX10_set_9 hown hK.1 hP 1 rfl rfl 0 (by decide) (hts (.fieldLink RX10 66 "RingShadow$World" "shadow" "LRingShadow$Shadow;") (List.mem_of_getElem? (i := 2) rfl)) (fun _ h9 => h9) rfl dX10_set_15 ?_
    refine lv_iload_n hx hb dX10_set_18 rfl (lv_at hl 1 rfl) ?_
    obtain ⟨x3, h4, h⟩ := rs_b1s h
    have h := h _ rfl
    refine rs_callVi (As := [.int p1]) (rest := []) ⟨hx, hb, hml, hown, hts⟩ (c_X4_rule l G A_a0_world_shadow v_a0_world_shadow_lands v_a0_world_shadow_wide v_a0_world_shadow_pace v_a0_world_shadow_age v_a0_world_shadow_slits v_a0_world_shadow_slitA v_a0_world_shadow_slitB p1 x3 h4) (cwV 1 hts gX10_set_X4_rule rfl rfl rfl (by decide +kernel) ⟨Nat.le_of_ble_eq_true rfl, Nat.le_of_ble_eq_true rfl⟩) dX10_set_19 hK hP hD hS hA [2] rfl (by decide) rfl rfl (q0 := 0) (ci := 4) rfl rfl rfl hl.1 (lv_room (Nat.le_of_ble_eq_true rfl)) ⟨Nat.zero_le _, Nat.zero_le _⟩ (fun (_ : Unit) => [(A_a0, .inr (10, [.ref A_a0_world, .ref A_a0_images, .ref A_a0_pad, .ref A_a0_story, .ref A_a0_walk, .ref A_a0_census, .ref A_a0_carrier, .ref A_a0_cloud])), (A_a0_world, .inr (9, [.ref A_a0_world_shadow, .ref A_a0_world_stock, .ref A_a0_world_sights, .int v_a0_world_year])), (A_a0_world_shadow, .inr (4, [.int v_a0_world_shadow_lands, .int v_a0_world_shadow_wide, .int v_a0_world_shadow_pace, .int v_a0_world_shadow_age, .int v_a0_world_shadow_slits, .int v_a0_world_shadow_slitA, .int v_a0_world_shadow_slitB]))]) (fun _ => rfl) (fun _ => rfl) (fun u4 H locs hP hD hS => ?_)
    refine lv_istore_n (lv' := [(3, .int x3), (0, .ref A_a0), (1, .int p1), (2, .int p2)]) hx hb dX10_set_22 rfl hl (by decide) rfl (fun ls hl => ?_)
    refine lv_aload_n hx hb dX10_set_23 rfl (lv_at hl 1 rfl) ?_
    refine va_get (D := G.1) (ci := 10) (v := .ref A_a0_world) (C := RX10) (T := TX10) (N := 8) hx hb hts uX10_set_10 hown hK.1 hP 0 rfl rfl 0 (by decide) (hts (.fieldLink RX10 10 "RingShadow" "world" "LRingShadow$World;") (List.mem_of_getElem? (i := 1) rfl)) (fun _ h9 => h9) rfl dX10_set_24 ?_
    refine va_get (D := G.1) (ci := 9) (v := .ref A_a0_world_shadow) (C := RX9) (T := TX9) (N := 4) hx hb hts uX10_set_9 hown hK.1 hP 1 rfl rfl 0 (by decide) (hts (.fieldLink RX10 66 "RingShadow$World" "shadow" "LRingShadow$Shadow;") (List.mem_of_getElem? (i := 2) rfl)) (fun _ h9 => h9) rfl dX10_set_27 ?_
    refine lv_iload_n hx hb dX10_set_30 rfl (lv_at hl 2 rfl) ?_
    refine lv_iload_n hx hb dX10_set_31 rfl (lv_at hl 3 rfl) ?_
    obtain ⟨⟨x5, x6, x7, x8, x9⟩, h10, h⟩ := rs_b5s h
    have h := h _ _ _ _ _ rfl
    refine rs_callVv (As := [.int p1, .int p2]) (rest := []) ⟨hx, hb, hml, hown, hts⟩ (c_X4_putRule l G A_a0_world_shadow v_a0_world_shadow_lands v_a0_world_shadow_wide v_a0_world_shadow_pace v_a0_world_shadow_age v_a0_world_shadow_slits v_a0_world_shadow_slitA v_a0_world_shadow_slitB p1 p2 x5 x6 x7 x8 x9 h10) (cwV 2 hts gX10_set_X4_putRule rfl rfl rfl (by decide +kernel) ⟨Nat.le_of_ble_eq_true rfl, Nat.le_of_ble_eq_true rfl⟩) dX10_set_32 hK hP hD hS hA [2] rfl (by decide) rfl rfl (q0 := 0) (ci := 4) rfl rfl rfl hl.1 (lv_room (Nat.le_of_ble_eq_true rfl)) ⟨Nat.zero_le _, Nat.zero_le _⟩ (fun (_ : Unit) => [(A_a0, .inr (10, [.ref A_a0_world, .ref A_a0_images, .ref A_a0_pad, .ref A_a0_story, .ref A_a0_walk, .ref A_a0_census, .ref A_a0_carrier, .ref A_a0_cloud])), (A_a0_world, .inr (9, [.ref A_a0_world_shadow, .ref A_a0_world_stock, .ref A_a0_world_sights, .int v_a0_world_year])), (A_a0_world_shadow, .inr (4, [.int v_a0_world_shadow_lands, .int v_a0_world_shadow_wide, .int x5, .int x6, .int x7, .int x8, .int x9]))]) (fun _ => rfl) (fun _ => rfl) (fun u10 H locs hP hD hS => ?_)
    refine lv_iload_n hx hb dX10_set_35 rfl (lv_at hl 0 rfl) ?_
    exact ret _ _ _ _ _ _ () _ _ _ _ h hP hS dX10_set_36 rfl
  have h := rs_pos hc h
  refine lv_bipush (v := (-2)) hx hb dX10_set_8 (by decide) ?_
  exact ret _ _ _ _ _ _ () _ _ _ _ h hP hS dX10_set_10 rfl
theorem uX10_hasLand_10 : ∀ w ∈ wsX100, w ∈ wsX10_hasLand := fun _ h => List.mem_cons_of_mem _ (List.mem_append_left _ (List.mem_append_left _ (List.mem_append_right _ h)))
theorem uX10_hasLand_4 : ∀ w ∈ wsX40, w ∈ wsX10_hasLand := fun _ h => List.mem_cons_of_mem _ (List.mem_append_right _ h)
theorem uX10_hasLand_9 : ∀ w ∈ wsX90, w ∈ wsX10_hasLand := fun _ h => List.mem_cons_of_mem _ (List.mem_append_left _ (List.mem_append_right _ h))
abbrev rmX10_hasLand : Room := { frames := 1, cells := 0, slots := 0, locals := 22 }
set_option maxRecDepth 100000 in
set_option maxHeartbeats 4000000 in
theorem c_X10_hasLand (l : Launch) (G : rs_G) (A_a0 : Nat) (A_a0_world : Nat) (A_a0_images : Nat) (A_a0_pad : Nat) (A_a0_story : Nat) (A_a0_walk : Nat) (A_a0_census : Nat) (A_a0_carrier : Nat) (A_a0_cloud : Nat) (A_a0_world_shadow : Nat) (A_a0_world_stock : Nat) (A_a0_world_sights : Nat) (v_a0_world_year : Int32) (v_a0_world_shadow_lands : Int32) (v_a0_world_shadow_wide : Int32) (v_a0_world_shadow_pace : Int32) (v_a0_world_shadow_age : Int32) (v_a0_world_shadow_slits : Int32) (v_a0_world_shadow_slitA : Int32) (v_a0_world_shadow_slitB : Int32) (p1 : Int32) (r0 : Int32) (h : f_X10_hasLand p1 v_a0_world_shadow_lands = some r0) : rs_Ci l yX10_hasLand wsX10_hasLand rmX10_hasLand G [.ref A_a0, .int p1] [(A_a0, .inr (10, [.ref A_a0_world, .ref A_a0_images, .ref A_a0_pad, .ref A_a0_story, .ref A_a0_walk, .ref A_a0_census, .ref A_a0_carrier, .ref A_a0_cloud])), (A_a0_world, .inr (9, [.ref A_a0_world_shadow, .ref A_a0_world_stock, .ref A_a0_world_sights, .int v_a0_world_year])), (A_a0_world_shadow, .inr (4, [.int v_a0_world_shadow_lands, .int v_a0_world_shadow_wide, .int v_a0_world_shadow_pace, .int v_a0_world_shadow_age, .int v_a0_world_shadow_slits, .int v_a0_world_shadow_slitA, .int v_a0_world_shadow_slitB]))] (fun (_ : Unit) => [(A_a0, .inr (10, [.ref A_a0_world, .ref A_a0_images, .ref A_a0_pad, .ref A_a0_story, .ref A_a0_walk, .ref A_a0_census, .ref A_a0_carrier, .ref A_a0_cloud])), (A_a0_world, .inr (9, [.ref A_a0_world_shadow, .ref A_a0_world_stock, .ref A_a0_world_sights, .int v_a0_world_year])), (A_a0_world_shadow, .inr (4, [.int v_a0_world_shadow_lands, .int v_a0_world_shadow_wide, .int v_a0_world_shadow_pace, .int v_a0_world_shadow_age, .int v_a0_world_shadow_slits, .int v_a0_world_shadow_slitA, .int v_a0_world_shadow_slitB]))]) r0 := by
  refine rs_enter_i (cc := cX10_hasLand) (maxL := 2) (ty := .boolean) (by decide) rfl (Nat.le_of_ble_eq_true rfl) (fun p e s m args below meth c A Q ls E ret hP hD hS hA hl => ?_)
  obtain ⟨hx, hb, hml, hown, hts, hK⟩ := E
  have hown : s.vm.findClass RX10 = some m.cls := hown
  have hl : lv_has ls 2 [(0, .ref A_a0), (1, .int p1)] := hl
  have ret : ∀ (v0 : Int32) (u : Unit) (H : Heap) (locs : List Loc) (pc : Nat) (ls : Array Slot), some v0 = some r0 → va_P G.1 vwCl [(A_a0, .inr (10, [.ref A_a0_world, .ref A_a0_images, .ref A_a0_pad, .ref A_a0_story, .ref A_a0_walk, .ref A_a0_census, .ref A_a0_carrier, .ref A_a0_cloud])), (A_a0_world, .inr (9, [.ref A_a0_world_shadow, .ref A_a0_world_stock, .ref A_a0_world_sights, .int v_a0_world_year])), (A_a0_world_shadow, .inr (4, [.int v_a0_world_shadow_lands, .int v_a0_world_shadow_wide, .int v_a0_world_shadow_pace, .int v_a0_world_shadow_age, .int v_a0_world_shadow_slits, .int v_a0_world_shadow_slitA, .int v_a0_world_shadow_slitB]))] H → va_S A s.heap H locs → decode cX10_hasLand pc = .ok (.ireturn, 1) → narrow .boolean (.int v0) = .int v0 → W p l e rmX10_hasLand s m args below meth c H locs 0 0 Q (F0 m pc ls [.int v0]) := by
    intro v0 u H locs pc ls hz
    cases hz
    exact ret u H locs pc ls
  unfold f_X10_hasLand at h
  refine lv_iload_n hx hb dX10_hasLand_0 rfl (lv_at hl 1 rfl) ?_
  refine lv_iconst (v := 0) hx hb dX10_hasLand_1 (by decide) ?_
  refine lv_aload_n hx hb dX10_hasLand_2 rfl (lv_at hl 0 rfl) ?_
  refine va_get (D := G.1) (ci := 10) (v := .ref A_a0_world) (C := RX10) (T := TX10) (N := 8) hx hb hts uX10_hasLand_10 hown hK.1 hP 0 rfl rfl 0 (by decide) (hts (.fieldLink RX10 10 "RingShadow" "world" "LRingShadow$World;") (List.mem_of_getElem? (i := 1) rfl)) (fun _ h9 => h9) rfl dX10_hasLand_3 ?_
  refine va_get (D := G.1) (ci := 9) (v := .ref A_a0_world_shadow) (C := RX9) (T := TX9) (N := 4) hx hb hts uX10_hasLand_9 hown hK.1 hP 1 rfl rfl 0 (by decide) (hts (.fieldLink RX10 66 "RingShadow$World" "shadow" "LRingShadow$Shadow;") (List.mem_of_getElem? (i := 2) rfl)) (fun _ h9 => h9) rfl dX10_hasLand_6 ?_
  refine va_get (D := G.1) (ci := 4) (v := .int v_a0_world_shadow_lands) (C := RX4) (T := TX4) (N := 7) hx hb hts uX10_hasLand_4 hown hK.1 hP 2 rfl rfl 0 (by decide) (hts (.fieldLink RX10 70 "RingShadow$Shadow" "lands" "I") (List.mem_of_getElem? (i := 3) rfl)) (fun _ h9 => h9) rfl dX10_hasLand_9 ?_
  refine lv_iconst (v := 1) hx hb dX10_hasLand_12 (by decide) ?_
  refine lv_isub hx hb dX10_hasLand_13 ?_
  obtain ⟨x1, h2, h⟩ := rs_b1s h
  have h := h _ rfl
  refine rs_callSi (As := [.int p1, .int 0, .int (v_a0_world_shadow_lands - 1)]) (rest := []) ⟨hx, hb, hml, hown, hts⟩ (c_X10_within l G p1 0 (v_a0_world_shadow_lands - 1) x1 h2) (va_cwS 3 hts gX10_hasLand_X10_within rfl rfl rfl (by decide +kernel) ⟨Nat.le_of_ble_eq_true rfl, Nat.le_of_ble_eq_true rfl⟩) dX10_hasLand_14 hK hP hD hS hA [] rfl (by decide) rfl rfl hl.1 (lv_room (Nat.le_of_ble_eq_true rfl)) ⟨Nat.zero_le _, Nat.zero_le _⟩ (fun (_ : Unit) => [(A_a0, .inr (10, [.ref A_a0_world, .ref A_a0_images, .ref A_a0_pad, .ref A_a0_story, .ref A_a0_walk, .ref A_a0_census, .ref A_a0_carrier, .ref A_a0_cloud])), (A_a0_world, .inr (9, [.ref A_a0_world_shadow, .ref A_a0_world_stock, .ref A_a0_world_sights, .int v_a0_world_year])), (A_a0_world_shadow, .inr (4, [.int v_a0_world_shadow_lands, .int v_a0_world_shadow_wide, .int v_a0_world_shadow_pace, .int v_a0_world_shadow_age, .int v_a0_world_shadow_slits, .int v_a0_world_shadow_slitA, .int v_a0_world_shadow_slitB]))]) (fun _ => rfl) (fun _ => rfl) (fun u2 H locs hP hD hS => ?_)
  obtain ⟨hg, h⟩ := rs_ga h
  exact ret _ () _ _ _ _ h hP hS dX10_hasLand_17 (rs_narz hg)
theorem uX10_land_10 : ∀ w ∈ wsX100, w ∈ wsX10_land := fun _ h => List.mem_cons_of_mem _ (List.mem_append_left _ (List.mem_append_left _ (List.mem_append_left _ (List.mem_append_right _ h))))
theorem uX10_land_9 : ∀ w ∈ wsX90, w ∈ wsX10_land := fun _ h => List.mem_cons_of_mem _ (List.mem_append_left _ (List.mem_append_left _ (List.mem_append_right _ h)))
abbrev rmX10_land : Room := { frames := 2, cells := 0, slots := 0, locals := 43 }
set_option maxRecDepth 100000 in
set_option maxHeartbeats 4000000 in
theorem c_X10_land (l : Launch) (G : rs_G) (A_a0 : Nat) (A_a0_world : Nat) (A_a0_images : Nat) (A_a0_pad : Nat) (A_a0_story : Nat) (A_a0_walk : Nat) (A_a0_census : Nat) (A_a0_carrier : Nat) (A_a0_cloud : Nat) (A_a0_world_shadow : Nat) (A_a0_world_stock : Nat) (A_a0_world_sights : Nat) (A_a0_world_stock_cells : Nat) (v_a0_world_year : Int32) (v_a0_world_shadow_lands : Int32) (v_a0_world_shadow_wide : Int32) (v_a0_world_shadow_pace : Int32) (v_a0_world_shadow_age : Int32) (v_a0_world_shadow_slits : Int32) (v_a0_world_shadow_slitA : Int32) (v_a0_world_shadow_slitB : Int32) (v_a0_world_stock_cells : (Nat → Int32)) (p1 : Int32) (p2 : Int32) (p3 : Int32) (r0 : Int32) (o0 : (Nat → Int32)) (h : f_X10_land p1 p2 p3 v_a0_world_shadow_lands v_a0_world_stock_cells = some (r0, o0)) : rs_Ci l yX10_land wsX10_land rmX10_land G [.ref A_a0, .int p1, .int p2, .int p3] [(A_a0, .inr (10, [.ref A_a0_world, .ref A_a0_images, .ref A_a0_pad, .ref A_a0_story, .ref A_a0_walk, .ref A_a0_census, .ref A_a0_carrier, .ref A_a0_cloud])), (A_a0_world, .inr (9, [.ref A_a0_world_shadow, .ref A_a0_world_stock, .ref A_a0_world_sights, .int v_a0_world_year])), (A_a0_world_shadow, .inr (4, [.int v_a0_world_shadow_lands, .int v_a0_world_shadow_wide, .int v_a0_world_shadow_pace, .int v_a0_world_shadow_age, .int v_a0_world_shadow_slits, .int v_a0_world_shadow_slitA, .int v_a0_world_shadow_slitB])), (A_a0_world_stock, .inr (6, [.ref A_a0_world_stock_cells])), (A_a0_world_stock_cells, .inl (G.2.1, 36, .inl v_a0_world_stock_cells))] (fun (_ : Unit) => [(A_a0, .inr (10, [.ref A_a0_world, .ref A_a0_images, .ref A_a0_pad, .ref A_a0_story, .ref A_a0_walk, .ref A_a0_census, .ref A_a0_carrier, .ref A_a0_cloud])), (A_a0_world, .inr (9, [.ref A_a0_world_shadow, .ref A_a0_world_stock, .ref A_a0_world_sights, .int v_a0_world_year])), (A_a0_world_shadow, .inr (4, [.int v_a0_world_shadow_lands, .int v_a0_world_shadow_wide, .int v_a0_world_shadow_pace, .int v_a0_world_shadow_age, .int v_a0_world_shadow_slits, .int v_a0_world_shadow_slitA, .int v_a0_world_shadow_slitB])), (A_a0_world_stock, .inr (6, [.ref A_a0_world_stock_cells])), (A_a0_world_stock_cells, .inl (G.2.1, 36, .inl o0))]) r0 := by
  refine rs_enter_i (cc := cX10_land) (maxL := 6) (ty := .int) (by decide) rfl (Nat.le_of_ble_eq_true rfl) (fun p e s m args below meth c A Q ls E ret hP hD hS hA hl => ?_)
  obtain ⟨hx, hb, hml, hown, hts, hK⟩ := E
  have hown : s.vm.findClass RX10 = some m.cls := hown
  have hl : lv_has ls 6 [(0, .ref A_a0), (1, .int p1), (2, .int p2), (3, .int p3)] := hl
  have ret : ∀ (v0 : Int32) (w0 : (Nat → Int32)) (u : Unit) (H : Heap) (locs : List Loc) (pc : Nat) (ls : Array Slot), some (v0, w0) = some (r0, o0) → va_P G.1 vwCl [(A_a0, .inr (10, [.ref A_a0_world, .ref A_a0_images, .ref A_a0_pad, .ref A_a0_story, .ref A_a0_walk, .ref A_a0_census, .ref A_a0_carrier, .ref A_a0_cloud])), (A_a0_world, .inr (9, [.ref A_a0_world_shadow, .ref A_a0_world_stock, .ref A_a0_world_sights, .int v_a0_world_year])), (A_a0_world_shadow, .inr (4, [.int v_a0_world_shadow_lands, .int v_a0_world_shadow_wide, .int v_a0_world_shadow_pace, .int v_a0_world_shadow_age, .int v_a0_world_shadow_slits, .int v_a0_world_shadow_slitA, .int v_a0_world_shadow_slitB])), (A_a0_world_stock, .inr (6, [.ref A_a0_world_stock_cells])), (A_a0_world_stock_cells, .inl (G.2.1, 36, .inl w0))] H → va_S A s.heap H locs → decode cX10_land pc = .ok (.ireturn, 1) → narrow .int (.int v0) = .int v0 → W p l e rmX10_land s m args below meth c H locs 0 0 Q (F0 m pc ls [.int v0]) := by
    intro v0 w0 u H locs pc ls hz
    cases hz
    exact ret u H locs pc ls
  unfold f_X10_land at h
  refine lv_aload_n hx hb dX10_land_0 rfl (lv_at hl 0 rfl) ?_
  refine lv_iload_n hx hb dX10_land_1 rfl (lv_at hl 1 rfl) ?_
  obtain ⟨x1, h2, h⟩ := rs_b1s h
  have h := h _ rfl
  refine rs_callVi (As := [.int p1]) (rest := []) ⟨hx, hb, hml, hown, hts⟩ (c_X10_hasLand l G A_a0 A_a0_world A_a0_images A_a0_pad A_a0_story A_a0_walk A_a0_census A_a0_carrier A_a0_cloud A_a0_world_shadow A_a0_world_stock A_a0_world_sights v_a0_world_year v_a0_world_shadow_lands v_a0_world_shadow_wide v_a0_world_shadow_pace v_a0_world_shadow_age v_a0_world_shadow_slits v_a0_world_shadow_slitA v_a0_world_shadow_slitB p1 x1 h2) (cwV 1 hts gX10_land_X10_hasLand rfl rfl rfl (by decide +kernel) ⟨Nat.le_of_ble_eq_true rfl, Nat.le_of_ble_eq_true rfl⟩) dX10_land_2 hK hP hD hS hA [0, 1, 2] rfl (by decide) rfl rfl (q0 := 0) (ci := 10) rfl rfl rfl hl.1 (lv_room (Nat.le_of_ble_eq_true rfl)) ⟨Nat.zero_le _, Nat.zero_le _⟩ (fun (_ : Unit) => [(A_a0, .inr (10, [.ref A_a0_world, .ref A_a0_images, .ref A_a0_pad, .ref A_a0_story, .ref A_a0_walk, .ref A_a0_census, .ref A_a0_carrier, .ref A_a0_cloud])), (A_a0_world, .inr (9, [.ref A_a0_world_shadow, .ref A_a0_world_stock, .ref A_a0_world_sights, .int v_a0_world_year])), (A_a0_world_shadow, .inr (4, [.int v_a0_world_shadow_lands, .int v_a0_world_shadow_wide, .int v_a0_world_shadow_pace, .int v_a0_world_shadow_age, .int v_a0_world_shadow_slits, .int v_a0_world_shadow_slitA, .int v_a0_world_shadow_slitB])), (A_a0_world_stock, .inr (6, [.ref A_a0_world_stock_cells])), (A_a0_world_stock_cells, .inl (G.2.1, 36, .inl v_a0_world_stock_cells))]) (fun _ => rfl) (fun _ => rfl) (fun u2 H locs hP hD hS => ?_)
  refine lv_if_ne (tgt := 10) hx hb dX10_land_5 (by decide) (fun hc => ?_) (fun hc => ?_)
  · have h := rs_neg hc h
    refine lv_iload_n hx hb dX10_land_10 rfl (lv_at hl 2 rfl) ?_
    refine lv_iconst (v := 0) hx hb dX10_land_11 (by decide) ?_
    refine lv_iconst (v := 3) hx hb dX10_land_12 (by decide) ?_
    obtain ⟨x3, h4, h⟩ := rs_b1s h
    have h := h _ rfl
    refine rs_callSi (As := [.int p2, .int 0, .int 3]) (rest := []) ⟨hx, hb, hml, hown, hts⟩ (c_X10_within l G p2 0 3 x3 h4) (va_cwS 3 hts gX10_land_X10_within rfl rfl rfl (by decide +kernel) ⟨Nat.le_of_ble_eq_true rfl, Nat.le_of_ble_eq_true rfl⟩) dX10_land_13 hK hP hD hS hA [] rfl (by decide) rfl rfl hl.1 (lv_room (Nat.le_of_ble_eq_true rfl)) ⟨Nat.zero_le _, Nat.zero_le _⟩ (fun (_ : Unit) => [(A_a0, .inr (10, [.ref A_a0_world, .ref A_a0_images, .ref A_a0_pad, .ref A_a0_story, .ref A_a0_walk, .ref A_a0_census, .ref A_a0_carrier, .ref A_a0_cloud])), (A_a0_world, .inr (9, [.ref A_a0_world_shadow, .ref A_a0_world_stock, .ref A_a0_world_sights, .int v_a0_world_year])), (A_a0_world_shadow, .inr (4, [.int v_a0_world_shadow_lands, .int v_a0_world_shadow_wide, .int v_a0_world_shadow_pace, .int v_a0_world_shadow_age, .int v_a0_world_shadow_slits, .int v_a0_world_shadow_slitA, .int v_a0_world_shadow_slitB])), (A_a0_world_stock, .inr (6, [.ref A_a0_world_stock_cells])), (A_a0_world_stock_cells, .inl (G.2.1, 36, .inl v_a0_world_stock_cells))]) (fun _ => rfl) (fun _ => rfl) (fun u4 H locs hP hD hS => ?_)
    refine lv_if_eq (tgt := 43) hx hb dX10_land_16 (by decide) (fun hc => ?_) (fun hc => ?_)
    · have h := rs_pos hc h
      refine lv_bipush (v := (-2)) hx hb dX10_land_43 (by decide) ?_
      exact ret _ _ () _ _ _ _ h hP hS dX10_land_45 rfl
    have h := rs_neg hc h
    refine lv_iload_n hx hb dX10_land_19 rfl (lv_at hl 3 rfl) ?_
    refine lv_iconst (v := 0) hx hb dX10_land_20 (by decide) ?_
    refine lv_iload_n hx hb dX10_land_21 rfl (lv_at hl 2 rfl) ?_
    obtain ⟨X6, hX6, h⟩ := rs_b1s h
    have J6 : ∀ (x5 : Int32), X6 = x5 → ∀ (H : Heap) (locs : List Loc) (ls : Array Slot), va_P G.1 vwCl [(A_a0, .inr (10, [.ref A_a0_world, .ref A_a0_images, .ref A_a0_pad, .ref A_a0_story, .ref A_a0_walk, .ref A_a0_census, .ref A_a0_carrier, .ref A_a0_cloud])), (A_a0_world, .inr (9, [.ref A_a0_world_shadow, .ref A_a0_world_stock, .ref A_a0_world_sights, .int v_a0_world_year])), (A_a0_world_shadow, .inr (4, [.int v_a0_world_shadow_lands, .int v_a0_world_shadow_wide, .int v_a0_world_shadow_pace, .int v_a0_world_shadow_age, .int v_a0_world_shadow_slits, .int v_a0_world_shadow_slitA, .int v_a0_world_shadow_slitB])), (A_a0_world_stock, .inr (6, [.ref A_a0_world_stock_cells])), (A_a0_world_stock_cells, .inl (G.2.1, 36, .inl v_a0_world_stock_cells))] H → va_D A [(A_a0, .inr (10, [.ref A_a0_world, .ref A_a0_images, .ref A_a0_pad, .ref A_a0_story, .ref A_a0_walk, .ref A_a0_census, .ref A_a0_carrier, .ref A_a0_cloud])), (A_a0_world, .inr (9, [.ref A_a0_world_shadow, .ref A_a0_world_stock, .ref A_a0_world_sights, .int v_a0_world_year])), (A_a0_world_shadow, .inr (4, [.int v_a0_world_shadow_lands, .int v_a0_world_shadow_wide, .int v_a0_world_shadow_pace, .int v_a0_world_shadow_age, .int v_a0_world_shadow_slits, .int v_a0_world_shadow_slitA, .int v_a0_world_shadow_slitB])), (A_a0_world_stock, .inr (6, [.ref A_a0_world_stock_cells])), (A_a0_world_stock_cells, .inl (G.2.1, 36, .inl v_a0_world_stock_cells))] → va_S A s.heap H locs → lv_has ls 6 [(0, .ref A_a0), (1, .int p1), (2, .int p2), (3, .int p3)] → W p l e rmX10_land s m args below meth c H locs 0 0 Q (F0 m 37 ls [.int x5, .int 0, .int p3]) := by
      intro x5 hz H locs ls hP hD hS hl
      have h := h _ hz
      obtain ⟨x7, h8, h⟩ := rs_b1s h
      have h := h _ rfl
      refine rs_callSi (As := [.int p3, .int 0, .int x5]) (rest := []) ⟨hx, hb, hml, hown, hts⟩ (c_X10_within l G p3 0 x5 x7 h8) (va_cwS 3 hts gX10_land_X10_within rfl rfl rfl (by decide +kernel) ⟨Nat.le_of_ble_eq_true rfl, Nat.le_of_ble_eq_true rfl⟩) dX10_land_37 hK hP hD hS hA [] rfl (by decide) rfl rfl hl.1 (lv_room (Nat.le_of_ble_eq_true rfl)) ⟨Nat.zero_le _, Nat.zero_le _⟩ (fun (_ : Unit) => [(A_a0, .inr (10, [.ref A_a0_world, .ref A_a0_images, .ref A_a0_pad, .ref A_a0_story, .ref A_a0_walk, .ref A_a0_census, .ref A_a0_carrier, .ref A_a0_cloud])), (A_a0_world, .inr (9, [.ref A_a0_world_shadow, .ref A_a0_world_stock, .ref A_a0_world_sights, .int v_a0_world_year])), (A_a0_world_shadow, .inr (4, [.int v_a0_world_shadow_lands, .int v_a0_world_shadow_wide, .int v_a0_world_shadow_pace, .int v_a0_world_shadow_age, .int v_a0_world_shadow_slits, .int v_a0_world_shadow_slitA, .int v_a0_world_shadow_slitB])), (A_a0_world_stock, .inr (6, [.ref A_a0_world_stock_cells])), (A_a0_world_stock_cells, .inl (G.2.1, 36, .inl v_a0_world_stock_cells))]) (fun _ => rfl) (fun _ => rfl) (fun u8 H locs hP hD hS => ?_)
      refine lv_if_ne (tgt := 46) hx hb dX10_land_40 (by decide) (fun hc => ?_) (fun hc => ?_)
      · have h := rs_neg hc h
        refine lv_aload_n hx hb dX10_land_46 rfl (lv_at hl 0 rfl) ?_
        refine va_get (D := G.1) (ci := 10) (v := .ref A_a0_world) (C := RX10) (T := TX10) (N := 8) hx hb hts uX10_land_10 hown hK.1 hP 0 rfl rfl 0 (by decide) (hts (.fieldLink RX10 10 "RingShadow" "world" "LRingShadow$World;") (List.mem_of_getElem? (i := 1) rfl)) (fun _ h9 => h9) rfl dX10_land_47 ?_
        refine va_get (D := G.1) (ci := 9) (v := .ref A_a0_world_stock) (C := RX9) (T := TX9) (N := 4) hx hb hts uX10_land_9 hown hK.1 hP 1 rfl rfl 1 (by decide) (hts (.fieldLink RX10 79 "RingShadow$World" "stock" "LRingShadow$Stock;") (List.mem_of_getElem? (i := 2) rfl)) (fun _ h9 => h9) rfl dX10_land_50 ?_
        refine lv_astore (lv' := [(4, .ref A_a0_world_stock), (0, .ref A_a0), (1, .int p1), (2, .int p2), (3, .int p3)]) hx hb dX10_land_53 hl (by decide) rfl (fun ls hl => ?_)
        refine lv_iload_n hx hb dX10_land_55 rfl (lv_at hl 3 rfl) ?_
        refine lv_iconst (v := 2) hx hb dX10_land_56 (by decide) ?_
        refine lv_icmp_ne (tgt := 74) hx hb dX10_land_57 (by decide) (fun hc => ?_) (fun hc => ?_)
        · have h := rs_neg hc h
          refine lv_aload hx hb dX10_land_74 (lv_at hl 0 rfl) ?_
          refine lv_iload_n hx hb dX10_land_76 rfl (lv_at hl 2 rfl) ?_
          refine lv_iload_n hx hb dX10_land_77 rfl (lv_at hl 3 rfl) ?_
          obtain ⟨x9, h10, h⟩ := rs_b1s h
          have h := h _ rfl
          refine rs_callVi (As := [.int p1, .int p2]) (rest := []) ⟨hx, hb, hml, hown, hts⟩ (c_X6_of l G A_a0_world_stock A_a0_world_stock_cells v_a0_world_stock_cells p1 p2 x9 h10) (cwV 2 hts gX10_land_X6_of rfl rfl rfl (by decide +kernel) ⟨Nat.le_of_ble_eq_true rfl, Nat.le_of_ble_eq_true rfl⟩) dX10_land_78 hK hP hD hS hA [3, 4] rfl (by decide) rfl rfl (q0 := 0) (ci := 6) rfl rfl rfl hl.1 (lv_room (Nat.le_of_ble_eq_true rfl)) ⟨Nat.zero_le _, Nat.zero_le _⟩ (fun (_ : Unit) => [(A_a0, .inr (10, [.ref A_a0_world, .ref A_a0_images, .ref A_a0_pad, .ref A_a0_story, .ref A_a0_walk, .ref A_a0_census, .ref A_a0_carrier, .ref A_a0_cloud])), (A_a0_world, .inr (9, [.ref A_a0_world_shadow, .ref A_a0_world_stock, .ref A_a0_world_sights, .int v_a0_world_year])), (A_a0_world_shadow, .inr (4, [.int v_a0_world_shadow_lands, .int v_a0_world_shadow_wide, .int v_a0_world_shadow_pace, .int v_a0_world_shadow_age, .int v_a0_world_shadow_slits, .int v_a0_world_shadow_slitA, .int v_a0_world_shadow_slitB])), (A_a0_world_stock, .inr (6, [.ref A_a0_world_stock_cells])), (A_a0_world_stock_cells, .inl (G.2.1, 36, .inl v_a0_world_stock_cells))]) (fun _ => rfl) (fun _ => rfl) (fun u10 H locs hP hD hS => ?_)
          refine lv_istore (lv' := [(5, .int x9), (4, .ref A_a0_world_stock), (0, .ref A_a0), (1, .int p1), (2, .int p2), (3, .int p3)]) hx hb dX10_land_81 hl (by decide) rfl (fun ls hl => ?_)
          refine lv_aload hx hb dX10_land_83 (lv_at hl 1 rfl) ?_
          refine lv_iload_n hx hb dX10_land_85 rfl (lv_at hl 3 rfl) ?_
          refine lv_iload_n hx hb dX10_land_86 rfl (lv_at hl 4 rfl) ?_
          refine lv_iload_n hx hb dX10_land_87 rfl (lv_at hl 5 rfl) ?_
          obtain ⟨f11, h12, h⟩ := rs_b1s h
          have h := h _ rfl
          refine rs_callVv (As := [.int p1, .int p2, .int p3]) (rest := []) ⟨hx, hb, hml, hown, hts⟩ (c_X6_put l G A_a0_world_stock A_a0_world_stock_cells v_a0_world_stock_cells p1 p2 p3 f11 h12) (cwV 3 hts gX10_land_X6_put rfl rfl rfl (by decide +kernel) ⟨Nat.le_of_ble_eq_true rfl, Nat.le_of_ble_eq_true rfl⟩) dX10_land_88 hK hP hD hS hA [3, 4] rfl (by decide) rfl rfl (q0 := 0) (ci := 6) rfl rfl rfl hl.1 (lv_room (Nat.le_of_ble_eq_true rfl)) ⟨Nat.zero_le _, Nat.zero_le _⟩ (fun (_ : Unit) => [(A_a0, .inr (10, [.ref A_a0_world, .ref A_a0_images, .ref A_a0_pad, .ref A_a0_story, .ref A_a0_walk, .ref A_a0_census, .ref A_a0_carrier, .ref A_a0_cloud])), (A_a0_world, .inr (9, [.ref A_a0_world_shadow, .ref A_a0_world_stock, .ref A_a0_world_sights, .int v_a0_world_year])), (A_a0_world_shadow, .inr (4, [.int v_a0_world_shadow_lands, .int v_a0_world_shadow_wide, .int v_a0_world_shadow_pace, .int v_a0_world_shadow_age, .int v_a0_world_shadow_slits, .int v_a0_world_shadow_slitA, .int v_a0_world_shadow_slitB])), (A_a0_world_stock, .inr (6, [.ref A_a0_world_stock_cells])), (A_a0_world_stock_cells, .inl (G.2.1, 36, .inl f11))]) (fun _ => rfl) (fun _ => rfl) (fun u12 H locs hP hD hS => ?_)
          refine lv_iload_n hx hb dX10_land_91 rfl (lv_at hl 4 rfl) ?_
          refine lv_iconst (v := 3) hx hb dX10_land_92 (by decide) ?_
          obtain ⟨X18, hX18, h⟩ := rs_b1s h
          have J18 : ∀ (f17 : (Nat → Int32)), X18 = f17 → ∀ (H : Heap) (locs : List Loc) (ls : Array Slot), va_P G.1 vwCl [(A_a0, .inr (10, [.ref A_a0_world, .ref A_a0_images, .ref A_a0_pad, .ref A_a0_story, .ref A_a0_walk, .ref A_a0_census, .ref A_a0_carrier, .ref A_a0_cloud])), (A_a0_world, .inr (9, [.ref A_a0_world_shadow, .ref A_a0_world_stock, .ref A_a0_world_sights, .int v_a0_world_year])), (A_a0_world_shadow, .inr (4, [.int v_a0_world_shadow_lands, .int v_a0_world_shadow_wide, .int v_a0_world_shadow_pace, .int v_a0_world_shadow_age, .int v_a0_world_shadow_slits, .int v_a0_world_shadow_slitA, .int v_a0_world_shadow_slitB])), (A_a0_world_stock, .inr (6, [.ref A_a0_world_stock_cells])), (A_a0_world_stock_cells, .inl (G.2.1, 36, .inl f17))] H → va_D A [(A_a0, .inr (10, [.ref A_a0_world, .ref A_a0_images, .ref A_a0_pad, .ref A_a0_story, .ref A_a0_walk, .ref A_a0_census, .ref A_a0_carrier, .ref A_a0_cloud])), (A_a0_world, .inr (9, [.ref A_a0_world_shadow, .ref A_a0_world_stock, .ref A_a0_world_sights, .int v_a0_world_year])), (A_a0_world_shadow, .inr (4, [.int v_a0_world_shadow_lands, .int v_a0_world_shadow_wide, .int v_a0_world_shadow_pace, .int v_a0_world_shadow_age, .int v_a0_world_shadow_slits, .int v_a0_world_shadow_slitA, .int v_a0_world_shadow_slitB])), (A_a0_world_stock, .inr (6, [.ref A_a0_world_stock_cells])), (A_a0_world_stock_cells, .inl (G.2.1, 36, .inl f17))] → va_S A s.heap H locs → lv_has ls 6 [(5, .int x9)] → W p l e rmX10_land s m args below meth c H locs 0 0 Q (F0 m 114 ls []) := by
            intro f17 hz H locs ls hP hD hS hl
            have h := h _ hz
            refine lv_iload hx hb dX10_land_114 (lv_at hl 0 rfl) ?_
            exact ret _ _ () _ _ _ _ h hP hS dX10_land_116 rfl
          have h := hX18
          refine lv_icmp_ne (tgt := 114) hx hb dX10_land_93 (by decide) (fun hc => ?_) (fun hc => ?_)
          · have h := rs_neg hc h
            exact J18 _ (Option.some.inj h).symm _ _ _ hP hD hS (lv_sub hl [0] rfl)
          have h := rs_pos hc h
          refine lv_aload hx hb dX10_land_96 (lv_at hl 1 rfl) ?_
          refine lv_iload_n hx hb dX10_land_98 rfl (lv_at hl 3 rfl) ?_
          refine lv_iconst (v := 2) hx hb dX10_land_99 (by decide) ?_
          refine lv_aload hx hb dX10_land_100 (lv_at hl 1 rfl) ?_
          refine lv_iload_n hx hb dX10_land_102 rfl (lv_at hl 3 rfl) ?_
          refine lv_iconst (v := 2) hx hb dX10_land_103 (by decide) ?_
          obtain ⟨x19, h20, h⟩ := rs_b1s h
          have h := h _ rfl
          refine rs_callVi (As := [.int p1, .int 2]) (rest := [.int 2, .int p1, .ref A_a0_world_stock]) ⟨hx, hb, hml, hown, hts⟩ (c_X6_of l G A_a0_world_stock A_a0_world_stock_cells f11 p1 2 x19 h20) (cwV 2 hts gX10_land_X6_of rfl rfl rfl (by decide +kernel) ⟨Nat.le_of_ble_eq_true rfl, Nat.le_of_ble_eq_true rfl⟩) dX10_land_104 hK hP hD hS hA [3, 4] rfl (by decide) rfl rfl (q0 := 0) (ci := 6) rfl rfl rfl hl.1 (lv_room (Nat.le_of_ble_eq_true rfl)) ⟨Nat.zero_le _, Nat.zero_le _⟩ (fun (_ : Unit) => [(A_a0, .inr (10, [.ref A_a0_world, .ref A_a0_images, .ref A_a0_pad, .ref A_a0_story, .ref A_a0_walk, .ref A_a0_census, .ref A_a0_carrier, .ref A_a0_cloud])), (A_a0_world, .inr (9, [.ref A_a0_world_shadow, .ref A_a0_world_stock, .ref A_a0_world_sights, .int v_a0_world_year])), (A_a0_world_shadow, .inr (4, [.int v_a0_world_shadow_lands, .int v_a0_world_shadow_wide, .int v_a0_world_shadow_pace, .int v_a0_world_shadow_age, .int v_a0_world_shadow_slits, .int v_a0_world_shadow_slitA, .int v_a0_world_shadow_slitB])), (A_a0_world_stock, .inr (6, [.ref A_a0_world_stock_cells])), (A_a0_world_stock_cells, .inl (G.2.1, 36, .inl f11))]) (fun _ => rfl) (fun _ => rfl) (fun u20 H locs hP hD hS => ?_)
          refine lv_iload_n hx hb dX10_land_107 rfl (lv_at hl 5 rfl) ?_
          refine va_mmin hx hb (hml.trans hl.1.symm) hown (hts (.methodLink RX10 124 Lib.Math.min.name) (List.mem_of_getElem? (i := 3) rfl)) (hts (.static Lib.Math.min.name) (List.mem_of_getElem? (i := 4) rfl)) (hts (.initialized "java/lang/Math") (List.mem_of_getElem? (i := 5) rfl)) (hts (.code Lib.Math.min.name Lib.Math.min.code 2 (some .int)) (List.mem_of_getElem? (i := 6) rfl)) (Nat.le_of_ble_eq_true rfl) (Nat.le_of_ble_eq_true rfl) (Nat.zero_le _) (Nat.zero_le _) dX10_land_108 ?_
          obtain ⟨f21, h22, h⟩ := rs_b1s h
          have h := h _ rfl
          refine rs_callVv (As := [.int p1, .int 2, .int (if p3 < x19 then p3 else x19)]) (rest := []) ⟨hx, hb, hml, hown, hts⟩ (c_X6_put l G A_a0_world_stock A_a0_world_stock_cells f11 p1 2 (if p3 < x19 then p3 else x19) f21 h22) (cwV 3 hts gX10_land_X6_put rfl rfl rfl (by decide +kernel) ⟨Nat.le_of_ble_eq_true rfl, Nat.le_of_ble_eq_true rfl⟩) dX10_land_111 hK hP hD hS hA [3, 4] rfl (by decide) rfl rfl (q0 := 0) (ci := 6) rfl rfl rfl hl.1 (lv_room (Nat.le_of_ble_eq_true rfl)) ⟨Nat.zero_le _, Nat.zero_le _⟩ (fun (_ : Unit) => [(A_a0, .inr (10, [.ref A_a0_world, .ref A_a0_images, .ref A_a0_pad, .ref A_a0_story, .ref A_a0_walk, .ref A_a0_census, .ref A_a0_carrier, .ref A_a0_cloud])), (A_a0_world, .inr (9, [.ref A_a0_world_shadow, .ref A_a0_world_stock, .ref A_a0_world_sights, .int v_a0_world_year])), (A_a0_world_shadow, .inr (4, [.int v_a0_world_shadow_lands, .int v_a0_world_shadow_wide, .int v_a0_world_shadow_pace, .int v_a0_world_shadow_age, .int v_a0_world_shadow_slits, .int v_a0_world_shadow_slitA, .int v_a0_world_shadow_slitB])), (A_a0_world_stock, .inr (6, [.ref A_a0_world_stock_cells])), (A_a0_world_stock_cells, .inl (G.2.1, 36, .inl f21))]) (fun _ => rfl) (fun _ => rfl) (fun u22 H locs hP hD hS => ?_)
          exact J18 _ (Option.some.inj h).symm _ _ _ hP hD hS (lv_sub hl [0] rfl)
        have h := rs_pos hc h
        refine lv_iload_n hx hb dX10_land_60 rfl (lv_at hl 4 rfl) ?_
        refine lv_aload hx hb dX10_land_61 (lv_at hl 0 rfl) ?_
        refine lv_iload_n hx hb dX10_land_63 rfl (lv_at hl 2 rfl) ?_
        refine lv_iconst (v := 3) hx hb dX10_land_64 (by decide) ?_
        obtain ⟨x23, h24, h⟩ := rs_b1s h
        have h := h _ rfl
        refine rs_callVi (As := [.int p1, .int 3]) (rest := [.int p3]) ⟨hx, hb, hml, hown, hts⟩ (c_X6_of l G A_a0_world_stock A_a0_world_stock_cells v_a0_world_stock_cells p1 3 x23 h24) (cwV 2 hts gX10_land_X6_of rfl rfl rfl (by decide +kernel) ⟨Nat.le_of_ble_eq_true rfl, Nat.le_of_ble_eq_true rfl⟩) dX10_land_65 hK hP hD hS hA [3, 4] rfl (by decide) rfl rfl (q0 := 0) (ci := 6) rfl rfl rfl hl.1 (lv_room (Nat.le_of_ble_eq_true rfl)) ⟨Nat.zero_le _, Nat.zero_le _⟩ (fun (_ : Unit) => [(A_a0, .inr (10, [.ref A_a0_world, .ref A_a0_images, .ref A_a0_pad, .ref A_a0_story, .ref A_a0_walk, .ref A_a0_census, .ref A_a0_carrier, .ref A_a0_cloud])), (A_a0_world, .inr (9, [.ref A_a0_world_shadow, .ref A_a0_world_stock, .ref A_a0_world_sights, .int v_a0_world_year])), (A_a0_world_shadow, .inr (4, [.int v_a0_world_shadow_lands, .int v_a0_world_shadow_wide, .int v_a0_world_shadow_pace, .int v_a0_world_shadow_age, .int v_a0_world_shadow_slits, .int v_a0_world_shadow_slitA, .int v_a0_world_shadow_slitB])), (A_a0_world_stock, .inr (6, [.ref A_a0_world_stock_cells])), (A_a0_world_stock_cells, .inl (G.2.1, 36, .inl v_a0_world_stock_cells))]) (fun _ => rfl) (fun _ => rfl) (fun u24 H locs hP hD hS => ?_)
        refine lv_icmp_le (tgt := 74) hx hb dX10_land_68 (by decide) (fun hc => ?_) (fun hc => ?_)
        · have h := rs_pos hc h
          refine lv_aload hx hb dX10_land_74 (lv_at hl 0 rfl) ?_
          refine lv_iload_n hx hb dX10_land_76 rfl (lv_at hl 2 rfl) ?_
          refine lv_iload_n hx hb dX10_land_77 rfl (lv_at hl 3 rfl) ?_
          obtain ⟨x25, h26, h⟩ := rs_b1s h
          have h := h _ rfl
          refine rs_callVi (As := [.int p1, .int p2]) (rest := []) ⟨hx, hb, hml, hown, hts⟩ (c_X6_of l G A_a0_world_stock A_a0_world_stock_cells v_a0_world_stock_cells p1 p2 x25 h26) (cwV 2 hts gX10_land_X6_of rfl rfl rfl (by decide +kernel) ⟨Nat.le_of_ble_eq_true rfl, Nat.le_of_ble_eq_true rfl⟩) dX10_land_78 hK hP hD hS hA [3, 4] rfl (by decide) rfl rfl (q0 := 0) (ci := 6) rfl rfl rfl hl.1 (lv_room (Nat.le_of_ble_eq_true rfl)) ⟨Nat.zero_le _, Nat.zero_le _⟩ (fun (_ : Unit) => [(A_a0, .inr (10, [.ref A_a0_world, .ref A_a0_images, .ref A_a0_pad, .ref A_a0_story, .ref A_a0_walk, .ref A_a0_census, .ref A_a0_carrier, .ref A_a0_cloud])), (A_a0_world, .inr (9, [.ref A_a0_world_shadow, .ref A_a0_world_stock, .ref A_a0_world_sights, .int v_a0_world_year])), (A_a0_world_shadow, .inr (4, [.int v_a0_world_shadow_lands, .int v_a0_world_shadow_wide, .int v_a0_world_shadow_pace, .int v_a0_world_shadow_age, .int v_a0_world_shadow_slits, .int v_a0_world_shadow_slitA, .int v_a0_world_shadow_slitB])), (A_a0_world_stock, .inr (6, [.ref A_a0_world_stock_cells])), (A_a0_world_stock_cells, .inl (G.2.1, 36, .inl v_a0_world_stock_cells))]) (fun _ => rfl) (fun _ => rfl) (fun u26 H locs hP hD hS => ?_)
          refine lv_istore (lv' := [(5, .int x25), (4, .ref A_a0_world_stock), (0, .ref A_a0), (1, .int p1), (2, .int p2), (3, .int p3)]) hx hb dX10_land_81 hl (by decide) rfl (fun ls hl => ?_)
          refine lv_aload hx hb dX10_land_83 (lv_at hl 1 rfl) ?_
          refine lv_iload_n hx hb dX10_land_85 rfl (lv_at hl 3 rfl) ?_
          refine lv_iload_n hx hb dX10_land_86 rfl (lv_at hl 4 rfl) ?_
          refine lv_iload_n hx hb dX10_land_87 rfl (lv_at hl 5 rfl) ?_
          obtain ⟨f27, h28, h⟩ := rs_b1s h
          have h := h _ rfl
          refine rs_callVv (As := [.int p1, .int p2, .int p3]) (rest := []) ⟨hx, hb, hml, hown, hts⟩ (c_X6_put l G A_a0_world_stock A_a0_world_stock_cells v_a0_world_stock_cells p1 p2 p3 f27 h28) (cwV 3 hts gX10_land_X6_put rfl rfl rfl (by decide +kernel) ⟨Nat.le_of_ble_eq_true rfl, Nat.le_of_ble_eq_true rfl⟩) dX10_land_88 hK hP hD hS hA [3, 4] rfl (by decide) rfl rfl (q0 := 0) (ci := 6) rfl rfl rfl hl.1 (lv_room (Nat.le_of_ble_eq_true rfl)) ⟨Nat.zero_le _, Nat.zero_le _⟩ (fun (_ : Unit) => [(A_a0, .inr (10, [.ref A_a0_world, .ref A_a0_images, .ref A_a0_pad, .ref A_a0_story, .ref A_a0_walk, .ref A_a0_census, .ref A_a0_carrier, .ref A_a0_cloud])), (A_a0_world, .inr (9, [.ref A_a0_world_shadow, .ref A_a0_world_stock, .ref A_a0_world_sights, .int v_a0_world_year])), (A_a0_world_shadow, .inr (4, [.int v_a0_world_shadow_lands, .int v_a0_world_shadow_wide, .int v_a0_world_shadow_pace, .int v_a0_world_shadow_age, .int v_a0_world_shadow_slits, .int v_a0_world_shadow_slitA, .int v_a0_world_shadow_slitB])), (A_a0_world_stock, .inr (6, [.ref A_a0_world_stock_cells])), (A_a0_world_stock_cells, .inl (G.2.1, 36, .inl f27))]) (fun _ => rfl) (fun _ => rfl) (fun u28 H locs hP hD hS => ?_)
          refine lv_iload_n hx hb dX10_land_91 rfl (lv_at hl 4 rfl) ?_
          refine lv_iconst (v := 3) hx hb dX10_land_92 (by decide) ?_
          obtain ⟨X34, hX34, h⟩ := rs_b1s h
          have J34 : ∀ (f33 : (Nat → Int32)), X34 = f33 → ∀ (H : Heap) (locs : List Loc) (ls : Array Slot), va_P G.1 vwCl [(A_a0, .inr (10, [.ref A_a0_world, .ref A_a0_images, .ref A_a0_pad, .ref A_a0_story, .ref A_a0_walk, .ref A_a0_census, .ref A_a0_carrier, .ref A_a0_cloud])), (A_a0_world, .inr (9, [.ref A_a0_world_shadow, .ref A_a0_world_stock, .ref A_a0_world_sights, .int v_a0_world_year])), (A_a0_world_shadow, .inr (4, [.int v_a0_world_shadow_lands, .int v_a0_world_shadow_wide, .int v_a0_world_shadow_pace, .int v_a0_world_shadow_age, .int v_a0_world_shadow_slits, .int v_a0_world_shadow_slitA, .int v_a0_world_shadow_slitB])), (A_a0_world_stock, .inr (6, [.ref A_a0_world_stock_cells])), (A_a0_world_stock_cells, .inl (G.2.1, 36, .inl f33))] H → va_D A [(A_a0, .inr (10, [.ref A_a0_world, .ref A_a0_images, .ref A_a0_pad, .ref A_a0_story, .ref A_a0_walk, .ref A_a0_census, .ref A_a0_carrier, .ref A_a0_cloud])), (A_a0_world, .inr (9, [.ref A_a0_world_shadow, .ref A_a0_world_stock, .ref A_a0_world_sights, .int v_a0_world_year])), (A_a0_world_shadow, .inr (4, [.int v_a0_world_shadow_lands, .int v_a0_world_shadow_wide, .int v_a0_world_shadow_pace, .int v_a0_world_shadow_age, .int v_a0_world_shadow_slits, .int v_a0_world_shadow_slitA, .int v_a0_world_shadow_slitB])), (A_a0_world_stock, .inr (6, [.ref A_a0_world_stock_cells])), (A_a0_world_stock_cells, .inl (G.2.1, 36, .inl f33))] → va_S A s.heap H locs → lv_has ls 6 [(5, .int x25)] → W p l e rmX10_land s m args below meth c H locs 0 0 Q (F0 m 114 ls []) := by
            intro f33 hz H locs ls hP hD hS hl
            have h := h _ hz
            refine lv_iload hx hb dX10_land_114 (lv_at hl 0 rfl) ?_
            exact ret _ _ () _ _ _ _ h hP hS dX10_land_116 rfl
          have h := hX34
          refine lv_icmp_ne (tgt := 114) hx hb dX10_land_93 (by decide) (fun hc => ?_) (fun hc => ?_)
          · have h := rs_neg hc h
            exact J34 _ (Option.some.inj h).symm _ _ _ hP hD hS (lv_sub hl [0] rfl)
          have h := rs_pos hc h
          refine lv_aload hx hb dX10_land_96 (lv_at hl 1 rfl) ?_
          refine lv_iload_n hx hb dX10_land_98 rfl (lv_at hl 3 rfl) ?_
          refine lv_iconst (v := 2) hx hb dX10_land_99 (by decide) ?_
          refine lv_aload hx hb dX10_land_100 (lv_at hl 1 rfl) ?_
          refine lv_iload_n hx hb dX10_land_102 rfl (lv_at hl 3 rfl) ?_
          refine lv_iconst (v := 2) hx hb dX10_land_103 (by decide) ?_
          obtain ⟨x35, h36, h⟩ := rs_b1s h
          have h := h _ rfl
          refine rs_callVi (As := [.int p1, .int 2]) (rest := [.int 2, .int p1, .ref A_a0_world_stock]) ⟨hx, hb, hml, hown, hts⟩ (c_X6_of l G A_a0_world_stock A_a0_world_stock_cells f27 p1 2 x35 h36) (cwV 2 hts gX10_land_X6_of rfl rfl rfl (by decide +kernel) ⟨Nat.le_of_ble_eq_true rfl, Nat.le_of_ble_eq_true rfl⟩) dX10_land_104 hK hP hD hS hA [3, 4] rfl (by decide) rfl rfl (q0 := 0) (ci := 6) rfl rfl rfl hl.1 (lv_room (Nat.le_of_ble_eq_true rfl)) ⟨Nat.zero_le _, Nat.zero_le _⟩ (fun (_ : Unit) => [(A_a0, .inr (10, [.ref A_a0_world, .ref A_a0_images, .ref A_a0_pad, .ref A_a0_story, .ref A_a0_walk, .ref A_a0_census, .ref A_a0_carrier, .ref A_a0_cloud])), (A_a0_world, .inr (9, [.ref A_a0_world_shadow, .ref A_a0_world_stock, .ref A_a0_world_sights, .int v_a0_world_year])), (A_a0_world_shadow, .inr (4, [.int v_a0_world_shadow_lands, .int v_a0_world_shadow_wide, .int v_a0_world_shadow_pace, .int v_a0_world_shadow_age, .int v_a0_world_shadow_slits, .int v_a0_world_shadow_slitA, .int v_a0_world_shadow_slitB])), (A_a0_world_stock, .inr (6, [.ref A_a0_world_stock_cells])), (A_a0_world_stock_cells, .inl (G.2.1, 36, .inl f27))]) (fun _ => rfl) (fun _ => rfl) (fun u36 H locs hP hD hS => ?_)
          refine lv_iload_n hx hb dX10_land_107 rfl (lv_at hl 5 rfl) ?_
          refine va_mmin hx hb (hml.trans hl.1.symm) hown (hts (.methodLink RX10 124 Lib.Math.min.name) (List.mem_of_getElem? (i := 3) rfl)) (hts (.static Lib.Math.min.name) (List.mem_of_getElem? (i := 4) rfl)) (hts (.initialized "java/lang/Math") (List.mem_of_getElem? (i := 5) rfl)) (hts (.code Lib.Math.min.name Lib.Math.min.code 2 (some .int)) (List.mem_of_getElem? (i := 6) rfl)) (Nat.le_of_ble_eq_true rfl) (Nat.le_of_ble_eq_true rfl) (Nat.zero_le _) (Nat.zero_le _) dX10_land_108 ?_
          obtain ⟨f37, h38, h⟩ := rs_b1s h
          have h := h _ rfl
          refine rs_callVv (As := [.int p1, .int 2, .int (if p3 < x35 then p3 else x35)]) (rest := []) ⟨hx, hb, hml, hown, hts⟩ (c_X6_put l G A_a0_world_stock A_a0_world_stock_cells f27 p1 2 (if p3 < x35 then p3 else x35) f37 h38) (cwV 3 hts gX10_land_X6_put rfl rfl rfl (by decide +kernel) ⟨Nat.le_of_ble_eq_true rfl, Nat.le_of_ble_eq_true rfl⟩) dX10_land_111 hK hP hD hS hA [3, 4] rfl (by decide) rfl rfl (q0 := 0) (ci := 6) rfl rfl rfl hl.1 (lv_room (Nat.le_of_ble_eq_true rfl)) ⟨Nat.zero_le _, Nat.zero_le _⟩ (fun (_ : Unit) => [(A_a0, .inr (10, [.ref A_a0_world, .ref A_a0_images, .ref A_a0_pad, .ref A_a0_story, .ref A_a0_walk, .ref A_a0_census, .ref A_a0_carrier, .ref A_a0_cloud])), (A_a0_world, .inr (9, [.ref A_a0_world_shadow, .ref A_a0_world_stock, .ref A_a0_world_sights, .int v_a0_world_year])), (A_a0_world_shadow, .inr (4, [.int v_a0_world_shadow_lands, .int v_a0_world_shadow_wide, .int v_a0_world_shadow_pace, .int v_a0_world_shadow_age, .int v_a0_world_shadow_slits, .int v_a0_world_shadow_slitA, .int v_a0_world_shadow_slitB])), (A_a0_world_stock, .inr (6, [.ref A_a0_world_stock_cells])), (A_a0_world_stock_cells, .inl (G.2.1, 36, .inl f37))]) (fun _ => rfl) (fun _ => rfl) (fun u38 H locs hP hD hS => ?_)
          exact J34 _ (Option.some.inj h).symm _ _ _ hP hD hS (lv_sub hl [0] rfl)
        have h := rs_neg hc h
        refine lv_bipush (v := (-3)) hx hb dX10_land_71 (by decide) ?_
        exact ret _ _ () _ _ _ _ h hP hS dX10_land_73 rfl
      have h := rs_pos hc h
      refine lv_bipush (v := (-2)) hx hb dX10_land_43 (by decide) ?_
      exact ret _ _ () _ _ _ _ h hP hS dX10_land_45 rfl
    have h := hX6
    refine lv_if_eq (tgt := 30) hx hb dX10_land_22 (by decide) (fun hc => ?_) (fun hc => ?_)
    · have h := rs_pos hc h
      refine lv_bipush (v := 20) hx hb dX10_land_30 (by decide) ?_
      refine lv_goto (tgt := 37) hx hb dX10_land_32 (by decide) ?_
      exact J6 _ (Option.some.inj h).symm _ _ _ hP hD hS (lv_sub hl [0, 1, 2, 3] rfl)
    have h := rs_neg hc h
    refine lv_iload_n hx hb dX10_land_25 rfl (lv_at hl 2 rfl) ?_
    refine lv_iconst (v := 1) hx hb dX10_land_26 (by decide) ?_
    refine lv_icmp_ne (tgt := 35) hx hb dX10_land_27 (by decide) (fun hc => ?_) (fun hc => ?_)
    · have h := rs_neg hc h
      refine lv_bipush (v := 99) hx hb dX10_land_35 (by decide) ?_
      exact J6 _ (Option.some.inj h).symm _ _ _ hP hD hS (lv_sub hl [0, 1, 2, 3] rfl)
    have h := rs_pos hc h
    refine lv_bipush (v := 20) hx hb dX10_land_30 (by decide) ?_
    refine lv_goto (tgt := 37) hx hb dX10_land_32 (by decide) ?_
    exact J6 _ (Option.some.inj h).symm _ _ _ hP hD hS (lv_sub hl [0, 1, 2, 3] rfl)
  have h := rs_pos hc h
  refine lv_iconst (v := (-1)) hx hb dX10_land_8 (by decide) ?_
  exact ret _ _ () _ _ _ _ h hP hS dX10_land_9 rfl
