abbrev rmX4_countLit : Room := { frames := 3, cells := 0, slots := 0, locals := 68 }
set_option maxRecDepth 100000 in
set_option maxHeartbeats 4000000 in
theorem c_X4_countLit (l : Launch) (G : rs_G) (A_a0 : Nat) (v_a0_lands : Int32) (v_a0_wide : Int32) (v_a0_pace : Int32) (v_a0_age : Int32) (v_a0_slits : Int32) (v_a0_slitA : Int32) (v_a0_slitB : Int32) (p1 : Int32) (p2 : Int32) (p3 : Int32) (N : Nat) (r0 : Int32) (h : f_X4_countLit N p1 p2 p3 v_a0_lands v_a0_wide v_a0_pace v_a0_age v_a0_slits v_a0_slitA v_a0_slitB = some r0) : rs_Ci l yX4_countLit wsX4_countLit rmX4_countLit G [.ref A_a0, .int p1, .int p2, .int p3] [(A_a0, .inr (4, [.int v_a0_lands, .int v_a0_wide, .int v_a0_pace, .int v_a0_age, .int v_a0_slits, .int v_a0_slitA, .int v_a0_slitB]))] (fun (_ : Unit) => [(A_a0, .inr (4, [.int v_a0_lands, .int v_a0_wide, .int v_a0_pace, .int v_a0_age, .int v_a0_slits, .int v_a0_slitA, .int v_a0_slitB]))]) r0 := by
  refine rs_enter_i (cc := cX4_countLit) (maxL := 6) (ty := .int) (by decide) rfl (Nat.le_of_ble_eq_true rfl) (fun p e s m args below meth c A Q ls E ret hP hD hS hA hl => ?_)
  obtain ⟨hx, hb, hml, hown, hts, hK⟩ := E
  have hown : s.vm.findClass RX4 = some m.cls := hown
  have hl : lv_has ls 6 [(0, .ref A_a0), (1, .int p1), (2, .int p2), (3, .int p3)] := hl
  have ret : ∀ (v0 : Int32) (u : Unit) (H : Heap) (locs : List Loc) (pc : Nat) (ls : Array Slot), some v0 = some r0 → va_P G.1 vwCl [(A_a0, .inr (4, [.int v_a0_lands, .int v_a0_wide, .int v_a0_pace, .int v_a0_age, .int v_a0_slits, .int v_a0_slitA, .int v_a0_slitB]))] H → va_S A s.heap H locs → decode cX4_countLit pc = .ok (.ireturn, 1) → narrow .int (.int v0) = .int v0 → W p l e rmX4_countLit s m args below meth c H locs 0 0 Q (F0 m pc ls [.int v0]) := by
    intro v0 u H locs pc ls hz
    cases hz
    exact ret u H locs pc ls
  unfold f_X4_countLit at h
  refine lv_iconst (v := 0) hx hb dX4_countLit_0 (by decide) ?_
  refine lv_istore (lv' := [(4, .int 0), (0, .ref A_a0), (1, .int p1), (2, .int p2), (3, .int p3)]) hx hb dX4_countLit_1 hl (by decide) rfl (fun ls hl => ?_)
  refine lv_iconst (v := 0) hx hb dX4_countLit_3 (by decide) ?_
  refine lv_istore (lv' := [(5, .int 0), (4, .int 0), (0, .ref A_a0), (1, .int p1), (2, .int p2), (3, .int p3)]) hx hb dX4_countLit_4 hl (by decide) rfl (fun ls hl => ?_)
  obtain ⟨X11, hX11, h⟩ := rs_b1s h
  have J11 : ∀ (x12 : Int32), X11 = x12 → ∀  (H : Heap) (locs : List Loc) (ls : Array Slot), va_P G.1 vwCl [(A_a0, .inr (4, [.int v_a0_lands, .int v_a0_wide, .int v_a0_pace, .int v_a0_age, .int v_a0_slits, .int v_a0_slitA, .int v_a0_slitB]))] H → va_D A [(A_a0, .inr (4, [.int v_a0_lands, .int v_a0_wide, .int v_a0_pace, .int v_a0_age, .int v_a0_slits, .int v_a0_slitA, .int v_a0_slitB]))] → va_S A s.heap H locs → lv_has ls 6 [(4, .int x12)] → W p l e rmX4_countLit s m args below meth c H locs 0 0 Q (F0 m 33 ls []) := by
    intro x12 hz  H locs ls hP hD hS hl
    have h := h _ hz
    refine lv_iload hx hb dX4_countLit_33 (lv_at hl 0 rfl) ?_
    exact ret _ () _ _ _ _ h hP hS dX4_countLit_35 rfl
  refine rs_l2W (Wd := fun (x5 : Int32) (x6 : Int32) => ∀  (H : Heap) (locs : List Loc) (ls : Array Slot), va_P G.1 vwCl [(A_a0, .inr (4, [.int v_a0_lands, .int v_a0_wide, .int v_a0_pace, .int v_a0_age, .int v_a0_slits, .int v_a0_slitA, .int v_a0_slitB]))] H → va_D A [(A_a0, .inr (4, [.int v_a0_lands, .int v_a0_wide, .int v_a0_pace, .int v_a0_age, .int v_a0_slits, .int v_a0_slitA, .int v_a0_slitB]))] → va_S A s.heap H locs → lv_has ls 6 [(0, .ref A_a0), (1, .int p1), (2, .int p2), (3, .int p3), (4, .int x5), (5, .int x6)] → W p l e rmX4_countLit s m args below meth c H locs 0 0 Q (F0 m 6 ls [])) ?_ N 0 0 hX11 _ _ _ hP hD hS (lv_sub hl [2, 3, 4, 5, 1, 0] rfl)
  intro x5 x6 o11 h K11 L11  H locs ls hP hD hS hl
  unfold f_X4_countLit_L6 at h
  refine lv_iload hx hb dX4_countLit_6 (lv_at hl 5 rfl) ?_
  refine lv_iload_n hx hb dX4_countLit_8 rfl (lv_at hl 3 rfl) ?_
  refine lv_icmp_ge (tgt := 33) hx hb dX4_countLit_9 (by decide) (fun hc => ?_) (fun hc => ?_)
  · have h := rs_pos hc h
    exact J11 _ (L11 _ (Option.some.inj h).symm) _ _ _ hP hD hS (lv_sub hl [4] rfl)
  have h := rs_neg hc h
  refine lv_aload_n hx hb dX4_countLit_12 rfl (lv_at hl 0 rfl) ?_
  refine lv_iload_n hx hb dX4_countLit_13 rfl (lv_at hl 1 rfl) ?_
  refine lv_iload_n hx hb dX4_countLit_14 rfl (lv_at hl 2 rfl) ?_
  refine lv_iload hx hb dX4_countLit_15 (lv_at hl 5 rfl) ?_
  refine lv_iadd hx hb dX4_countLit_17 ?_
  obtain ⟨x13, h14, h⟩ := rs_b1s h
  have h := h _ rfl
  refine rs_callVi (As := [.int p1, .int (p2 + x6)]) (rest := []) ⟨hx, hb, hml, hown, hts⟩ (c_X4_isDark l G A_a0 v_a0_lands v_a0_wide v_a0_pace v_a0_age v_a0_slits v_a0_slitA v_a0_slitB p1 (p2 + x6) x13 h14) (cwV 2 hts gX4_countLit_X4_isDark rfl rfl rfl (by decide +kernel) ⟨Nat.le_of_ble_eq_true rfl, Nat.le_of_ble_eq_true rfl⟩) dX4_countLit_18 hK hP hD hS hA [0] rfl (by decide) rfl rfl (q0 := 0) (ci := 4) rfl rfl rfl hl.1 (lv_room (Nat.le_of_ble_eq_true rfl)) ⟨Nat.zero_le _, Nat.zero_le _⟩ (fun (_ : Unit) => [(A_a0, .inr (4, [.int v_a0_lands, .int v_a0_wide, .int v_a0_pace, .int v_a0_age, .int v_a0_slits, .int v_a0_slitA, .int v_a0_slitB]))]) (fun _ => rfl) (fun _ => rfl) (fun u14 H locs hP hD hS => ?_)
  obtain ⟨X16, hX16, h⟩ := rs_b1s h
  have J16 : ∀ (x15 : Int32), X16 = x15 → ∀ (H : Heap) (locs : List Loc) (ls : Array Slot), va_P G.1 vwCl [(A_a0, .inr (4, [.int v_a0_lands, .int v_a0_wide, .int v_a0_pace, .int v_a0_age, .int v_a0_slits, .int v_a0_slitA, .int v_a0_slitB]))] H → va_D A [(A_a0, .inr (4, [.int v_a0_lands, .int v_a0_wide, .int v_a0_pace, .int v_a0_age, .int v_a0_slits, .int v_a0_slitA, .int v_a0_slitB]))] → va_S A s.heap H locs → lv_has ls 6 [(0, .ref A_a0), (1, .int p1), (2, .int p2), (3, .int p3), (4, .int x15), (5, .int x6)] → W p l e rmX4_countLit s m args below meth c H locs 0 0 Q (F0 m 27 ls []) := by
    intro x15 hz H locs ls hP hD hS hl
    have h := h _ hz
    refine lv_iinc (v := (x6 + 1)) (lv' := [(5, .int (x6 + 1)), (0, .ref A_a0), (1, .int p1), (2, .int p2), (3, .int p3), (4, .int x15)]) hx hb dX4_countLit_27 hl (k := 5) rfl (by first | rfl | decide) (by decide) rfl (fun ls hl => ?_)
    refine lv_goto (tgt := 6) hx hb dX4_countLit_30 (by decide) ?_
    exact K11 _ _ (Option.some.inj h).symm _ _ _ hP hD hS (lv_sub hl [1, 2, 3, 4, 5, 0] rfl)
  have h := hX16
  refine lv_if_ne (tgt := 27) hx hb dX4_countLit_21 (by decide) (fun hc => ?_) (fun hc => ?_)
  · have h := rs_neg hc h
    exact J16 _ (Option.some.inj h).symm _ _ _ hP hD hS (lv_sub hl [0, 1, 2, 3, 4, 5] rfl)
  have h := rs_pos hc h
  refine lv_iinc (v := (x5 + 1)) (lv' := [(4, .int (x5 + 1)), (0, .ref A_a0), (1, .int p1), (2, .int p2), (3, .int p3), (5, .int x6)]) hx hb dX4_countLit_24 hl (k := 4) rfl (by first | rfl | decide) (by decide) rfl (fun ls hl => ?_)
  exact J16 _ (Option.some.inj h).symm _ _ _ hP hD hS (lv_sub hl [1, 2, 3, 4, 0, 5] rfl)
abbrev rmX4_countStrikes : Room := { frames := 4, cells := 0, slots := 0, locals := 91 }
set_option maxRecDepth 100000 in
set_option maxHeartbeats 4000000 in
theorem c_X4_countStrikes (l : Launch) (G : rs_G) (A_a0 : Nat) (v_a0_lands : Int32) (v_a0_wide : Int32) (v_a0_pace : Int32) (v_a0_age : Int32) (v_a0_slits : Int32) (v_a0_slitA : Int32) (v_a0_slitB : Int32) (p1 : Int32) (p2 : Int32) (p3 : Int32) (p4 : Int32) (N : Nat) (r0 : Int32) (h : f_X4_countStrikes N p1 p2 p3 p4 v_a0_lands v_a0_wide v_a0_pace v_a0_age v_a0_slits v_a0_slitA v_a0_slitB = some r0) : rs_Ci l yX4_countStrikes wsX4_countStrikes rmX4_countStrikes G [.ref A_a0, .int p1, .int p2, .int p3, .int p4] [(A_a0, .inr (4, [.int v_a0_lands, .int v_a0_wide, .int v_a0_pace, .int v_a0_age, .int v_a0_slits, .int v_a0_slitA, .int v_a0_slitB]))] (fun (_ : Unit) => [(A_a0, .inr (4, [.int v_a0_lands, .int v_a0_wide, .int v_a0_pace, .int v_a0_age, .int v_a0_slits, .int v_a0_slitA, .int v_a0_slitB]))]) r0 := by
  refine rs_enter_i (cc := cX4_countStrikes) (maxL := 7) (ty := .int) (by decide) rfl (Nat.le_of_ble_eq_true rfl) (fun p e s m args below meth c A Q ls E ret hP hD hS hA hl => ?_)
  obtain ⟨hx, hb, hml, hown, hts, hK⟩ := E
  have hown : s.vm.findClass RX4 = some m.cls := hown
  have hl : lv_has ls 7 [(0, .ref A_a0), (1, .int p1), (2, .int p2), (3, .int p3), (4, .int p4)] := hl
  have ret : ∀ (v0 : Int32) (u : Unit) (H : Heap) (locs : List Loc) (pc : Nat) (ls : Array Slot), some v0 = some r0 → va_P G.1 vwCl [(A_a0, .inr (4, [.int v_a0_lands, .int v_a0_wide, .int v_a0_pace, .int v_a0_age, .int v_a0_slits, .int v_a0_slitA, .int v_a0_slitB]))] H → va_S A s.heap H locs → decode cX4_countStrikes pc = .ok (.ireturn, 1) → narrow .int (.int v0) = .int v0 → W p l e rmX4_countStrikes s m args below meth c H locs 0 0 Q (F0 m pc ls [.int v0]) := by
    intro v0 u H locs pc ls hz
    cases hz
    exact ret u H locs pc ls
  unfold f_X4_countStrikes at h
  refine lv_iconst (v := 0) hx hb dX4_countStrikes_0 (by decide) ?_
  refine lv_istore (lv' := [(5, .int 0), (0, .ref A_a0), (1, .int p1), (2, .int p2), (3, .int p3), (4, .int p4)]) hx hb dX4_countStrikes_1 hl (by decide) rfl (fun ls hl => ?_)
  refine lv_iconst (v := 0) hx hb dX4_countStrikes_3 (by decide) ?_
  refine lv_istore (lv' := [(6, .int 0), (5, .int 0), (0, .ref A_a0), (1, .int p1), (2, .int p2), (3, .int p3), (4, .int p4)]) hx hb dX4_countStrikes_4 hl (by decide) rfl (fun ls hl => ?_)
  obtain ⟨X11, hX11, h⟩ := rs_b1s h
  have J11 : ∀ (x12 : Int32), X11 = x12 → ∀  (H : Heap) (locs : List Loc) (ls : Array Slot), va_P G.1 vwCl [(A_a0, .inr (4, [.int v_a0_lands, .int v_a0_wide, .int v_a0_pace, .int v_a0_age, .int v_a0_slits, .int v_a0_slitA, .int v_a0_slitB]))] H → va_D A [(A_a0, .inr (4, [.int v_a0_lands, .int v_a0_wide, .int v_a0_pace, .int v_a0_age, .int v_a0_slits, .int v_a0_slitA, .int v_a0_slitB]))] → va_S A s.heap H locs → lv_has ls 7 [(5, .int x12)] → W p l e rmX4_countStrikes s m args below meth c H locs 0 0 Q (F0 m 35 ls []) := by
    intro x12 hz  H locs ls hP hD hS hl
    have h := h _ hz
    refine lv_iload hx hb dX4_countStrikes_35 (lv_at hl 0 rfl) ?_
    exact ret _ () _ _ _ _ h hP hS dX4_countStrikes_37 rfl
  refine rs_l2W (Wd := fun (x5 : Int32) (x6 : Int32) => ∀  (H : Heap) (locs : List Loc) (ls : Array Slot), va_P G.1 vwCl [(A_a0, .inr (4, [.int v_a0_lands, .int v_a0_wide, .int v_a0_pace, .int v_a0_age, .int v_a0_slits, .int v_a0_slitA, .int v_a0_slitB]))] H → va_D A [(A_a0, .inr (4, [.int v_a0_lands, .int v_a0_wide, .int v_a0_pace, .int v_a0_age, .int v_a0_slits, .int v_a0_slitA, .int v_a0_slitB]))] → va_S A s.heap H locs → lv_has ls 7 [(0, .ref A_a0), (1, .int p1), (2, .int p2), (3, .int p3), (4, .int p4), (5, .int x5), (6, .int x6)] → W p l e rmX4_countStrikes s m args below meth c H locs 0 0 Q (F0 m 6 ls [])) ?_ N 0 0 hX11 _ _ _ hP hD hS (lv_sub hl [2, 3, 4, 5, 6, 1, 0] rfl)
  intro x5 x6 o11 h K11 L11  H locs ls hP hD hS hl
  unfold f_X4_countStrikes_L6 at h
  refine lv_iload hx hb dX4_countStrikes_6 (lv_at hl 6 rfl) ?_
  refine lv_iload hx hb dX4_countStrikes_8 (lv_at hl 4 rfl) ?_
  refine lv_icmp_ge (tgt := 35) hx hb dX4_countStrikes_10 (by decide) (fun hc => ?_) (fun hc => ?_)
  · have h := rs_pos hc h
    exact J11 _ (L11 _ (Option.some.inj h).symm) _ _ _ hP hD hS (lv_sub hl [5] rfl)
  have h := rs_neg hc h
  refine lv_aload_n hx hb dX4_countStrikes_13 rfl (lv_at hl 0 rfl) ?_
  refine lv_iload_n hx hb dX4_countStrikes_14 rfl (lv_at hl 1 rfl) ?_
  refine lv_iload_n hx hb dX4_countStrikes_15 rfl (lv_at hl 2 rfl) ?_
  refine lv_iload_n hx hb dX4_countStrikes_16 rfl (lv_at hl 3 rfl) ?_
  refine lv_iload hx hb dX4_countStrikes_17 (lv_at hl 6 rfl) ?_
  refine lv_iadd hx hb dX4_countStrikes_19 ?_
  obtain ⟨x13, h14, h⟩ := rs_b1s h
  have h := h _ rfl
  refine rs_callVi (As := [.int p1, .int p2, .int (p3 + x6)]) (rest := []) ⟨hx, hb, hml, hown, hts⟩ (c_X4_isStrike l G A_a0 v_a0_lands v_a0_wide v_a0_pace v_a0_age v_a0_slits v_a0_slitA v_a0_slitB p1 p2 (p3 + x6) x13 h14) (cwV 3 hts gX4_countStrikes_X4_isStrike rfl rfl rfl (by decide +kernel) ⟨Nat.le_of_ble_eq_true rfl, Nat.le_of_ble_eq_true rfl⟩) dX4_countStrikes_20 hK hP hD hS hA [0] rfl (by decide) rfl rfl (q0 := 0) (ci := 4) rfl rfl rfl hl.1 (lv_room (Nat.le_of_ble_eq_true rfl)) ⟨Nat.zero_le _, Nat.zero_le _⟩ (fun (_ : Unit) => [(A_a0, .inr (4, [.int v_a0_lands, .int v_a0_wide, .int v_a0_pace, .int v_a0_age, .int v_a0_slits, .int v_a0_slitA, .int v_a0_slitB]))]) (fun _ => rfl) (fun _ => rfl) (fun u14 H locs hP hD hS => ?_)
  obtain ⟨X16, hX16, h⟩ := rs_b1s h
  have J16 : ∀ (x15 : Int32), X16 = x15 → ∀ (H : Heap) (locs : List Loc) (ls : Array Slot), va_P G.1 vwCl [(A_a0, .inr (4, [.int v_a0_lands, .int v_a0_wide, .int v_a0_pace, .int v_a0_age, .int v_a0_slits, .int v_a0_slitA, .int v_a0_slitB]))] H → va_D A [(A_a0, .inr (4, [.int v_a0_lands, .int v_a0_wide, .int v_a0_pace, .int v_a0_age, .int v_a0_slits, .int v_a0_slitA, .int v_a0_slitB]))] → va_S A s.heap H locs → lv_has ls 7 [(0, .ref A_a0), (1, .int p1), (2, .int p2), (3, .int p3), (4, .int p4), (5, .int x15), (6, .int x6)] → W p l e rmX4_countStrikes s m args below meth c H locs 0 0 Q (F0 m 29 ls []) := by
    intro x15 hz H locs ls hP hD hS hl
    have h := h _ hz
    refine lv_iinc (v := (x6 + 1)) (lv' := [(6, .int (x6 + 1)), (0, .ref A_a0), (1, .int p1), (2, .int p2), (3, .int p3), (4, .int p4), (5, .int x15)]) hx hb dX4_countStrikes_29 hl (k := 6) rfl (by first | rfl | decide) (by decide) rfl (fun ls hl => ?_)
    refine lv_goto (tgt := 6) hx hb dX4_countStrikes_32 (by decide) ?_
    exact K11 _ _ (Option.some.inj h).symm _ _ _ hP hD hS (lv_sub hl [1, 2, 3, 4, 5, 6, 0] rfl)
  have h := hX16
  refine lv_if_eq (tgt := 29) hx hb dX4_countStrikes_23 (by decide) (fun hc => ?_) (fun hc => ?_)
  · have h := rs_pos hc h
    exact J16 _ (Option.some.inj h).symm _ _ _ hP hD hS (lv_sub hl [0, 1, 2, 3, 4, 5, 6] rfl)
  have h := rs_neg hc h
  refine lv_iinc (v := (x5 + 1)) (lv' := [(5, .int (x5 + 1)), (0, .ref A_a0), (1, .int p1), (2, .int p2), (3, .int p3), (4, .int p4), (6, .int x6)]) hx hb dX4_countStrikes_26 hl (k := 5) rfl (by first | rfl | decide) (by decide) rfl (fun ls hl => ?_)
  exact J16 _ (Option.some.inj h).symm _ _ _ hP hD hS (lv_sub hl [1, 2, 3, 4, 5, 0, 6] rfl)
abbrev rmX4_firstYear : Room := { frames := 3, cells := 0, slots := 0, locals := 68 }
set_option maxRecDepth 100000 in
set_option maxHeartbeats 4000000 in
theorem c_X4_firstYear (l : Launch) (G : rs_G) (A_a0 : Nat) (v_a0_lands : Int32) (v_a0_wide : Int32) (v_a0_pace : Int32) (v_a0_age : Int32) (v_a0_slits : Int32) (v_a0_slitA : Int32) (v_a0_slitB : Int32) (p1 : Int32) (p2 : Int32) (p3 : Int32) (N : Nat) (r0 : Int32) (h : f_X4_firstYear N p1 p2 p3 v_a0_lands v_a0_wide v_a0_pace v_a0_age v_a0_slits v_a0_slitA v_a0_slitB = some r0) : rs_Ci l yX4_firstYear wsX4_firstYear rmX4_firstYear G [.ref A_a0, .int p1, .int p2, .int p3] [(A_a0, .inr (4, [.int v_a0_lands, .int v_a0_wide, .int v_a0_pace, .int v_a0_age, .int v_a0_slits, .int v_a0_slitA, .int v_a0_slitB]))] (fun (_ : Unit) => [(A_a0, .inr (4, [.int v_a0_lands, .int v_a0_wide, .int v_a0_pace, .int v_a0_age, .int v_a0_slits, .int v_a0_slitA, .int v_a0_slitB]))]) r0 := by
  refine rs_enter_i (cc := cX4_firstYear) (maxL := 6) (ty := .int) (by decide) rfl (Nat.le_of_ble_eq_true rfl) (fun p e s m args below meth c A Q ls E ret hP hD hS hA hl => ?_)
  obtain ⟨hx, hb, hml, hown, hts, hK⟩ := E
  have hown : s.vm.findClass RX4 = some m.cls := hown
  have hl : lv_has ls 6 [(0, .ref A_a0), (1, .int p1), (2, .int p2), (3, .int p3)] := hl
  have ret : ∀ (v0 : Int32) (u : Unit) (H : Heap) (locs : List Loc) (pc : Nat) (ls : Array Slot), some v0 = some r0 → va_P G.1 vwCl [(A_a0, .inr (4, [.int v_a0_lands, .int v_a0_wide, .int v_a0_pace, .int v_a0_age, .int v_a0_slits, .int v_a0_slitA, .int v_a0_slitB]))] H → va_S A s.heap H locs → decode cX4_firstYear pc = .ok (.ireturn, 1) → narrow .int (.int v0) = .int v0 → W p l e rmX4_firstYear s m args below meth c H locs 0 0 Q (F0 m pc ls [.int v0]) := by
    intro v0 u H locs pc ls hz
    cases hz
    exact ret u H locs pc ls
  unfold f_X4_firstYear at h
  refine lv_aload_n hx hb dX4_firstYear_0 rfl (lv_at hl 0 rfl) ?_
  obtain ⟨x1, h2, h⟩ := rs_b1s h
  have h := h _ rfl
  refine rs_callVi (As := []) (rest := []) ⟨hx, hb, hml, hown, hts⟩ (c_X4_period l G A_a0 v_a0_lands v_a0_wide v_a0_pace v_a0_age v_a0_slits v_a0_slitA v_a0_slitB N x1 h2) (cwV 0 hts gX4_firstYear_X4_period rfl rfl rfl (by decide +kernel) ⟨Nat.le_of_ble_eq_true rfl, Nat.le_of_ble_eq_true rfl⟩) dX4_firstYear_1 hK hP hD hS hA [0] rfl (by decide) rfl rfl (q0 := 0) (ci := 4) rfl rfl rfl hl.1 (lv_room (Nat.le_of_ble_eq_true rfl)) ⟨Nat.zero_le _, Nat.zero_le _⟩ (fun (_ : Unit) => [(A_a0, .inr (4, [.int v_a0_lands, .int v_a0_wide, .int v_a0_pace, .int v_a0_age, .int v_a0_slits, .int v_a0_slitA, .int v_a0_slitB]))]) (fun _ => rfl) (fun _ => rfl) (fun u2 H locs hP hD hS => ?_)
  refine lv_istore (lv' := [(4, .int x1), (0, .ref A_a0), (1, .int p1), (2, .int p2), (3, .int p3)]) hx hb dX4_firstYear_4 hl (by decide) rfl (fun ls hl => ?_)
  refine lv_iconst (v := 0) hx hb dX4_firstYear_6 (by decide) ?_
  refine lv_istore (lv' := [(5, .int 0), (4, .int x1), (0, .ref A_a0), (1, .int p1), (2, .int p2), (3, .int p3)]) hx hb dX4_firstYear_7 hl (by decide) rfl (fun ls hl => ?_)
  obtain ⟨X8, hX8, h, hR8⟩ := rs_m0s h
  have J8 : X8 = .inl () → ∀  (H : Heap) (locs : List Loc) (ls : Array Slot), va_P G.1 vwCl [(A_a0, .inr (4, [.int v_a0_lands, .int v_a0_wide, .int v_a0_pace, .int v_a0_age, .int v_a0_slits, .int v_a0_slitA, .int v_a0_slitB]))] H → va_D A [(A_a0, .inr (4, [.int v_a0_lands, .int v_a0_wide, .int v_a0_pace, .int v_a0_age, .int v_a0_slits, .int v_a0_slitA, .int v_a0_slitB]))] → va_S A s.heap H locs → lv_has ls 6 [] → W p l e rmX4_firstYear s m args below meth c H locs 0 0 Q (F0 m 40 ls []) := by
    intro  hz  H locs ls hP hD hS hl
    have h := h  hz
    refine lv_bipush (v := (-6)) hx hb dX4_firstYear_40 (by decide) ?_
    exact ret _ () _ _ _ _ h hP hS dX4_firstYear_42 rfl
  refine rs_l1W (Wd := fun (x5 : Int32) => ∀  (H : Heap) (locs : List Loc) (ls : Array Slot), va_P G.1 vwCl [(A_a0, .inr (4, [.int v_a0_lands, .int v_a0_wide, .int v_a0_pace, .int v_a0_age, .int v_a0_slits, .int v_a0_slitA, .int v_a0_slitB]))] H → va_D A [(A_a0, .inr (4, [.int v_a0_lands, .int v_a0_wide, .int v_a0_pace, .int v_a0_age, .int v_a0_slits, .int v_a0_slitA, .int v_a0_slitB]))] → va_S A s.heap H locs → lv_has ls 6 [(0, .ref A_a0), (1, .int p1), (2, .int p2), (3, .int p3), (4, .int x1), (5, .int x5)] → W p l e rmX4_firstYear s m args below meth c H locs 0 0 Q (F0 m 9 ls [])) ?_ N 0 hX8 _ _ _ hP hD hS (lv_sub hl [2, 3, 4, 5, 1, 0] rfl)
  intro x5 o8 h K8 L8  H locs ls hP hD hS hl
  unfold f_X4_firstYear_L9 at h
  refine lv_iload hx hb dX4_firstYear_9 (lv_at hl 5 rfl) ?_
  refine lv_iload hx hb dX4_firstYear_11 (lv_at hl 4 rfl) ?_
  refine lv_icmp_ge (tgt := 40) hx hb dX4_firstYear_13 (by decide) (fun hc => ?_) (fun hc => ?_)
  · have h := rs_pos hc h
    exact J8  (L8 _ (Option.some.inj h).symm) _ _ _ hP hD hS (lv_sub hl [] rfl)
  have h := rs_neg hc h
  refine lv_aload_n hx hb dX4_firstYear_16 rfl (lv_at hl 0 rfl) ?_
  refine lv_iload_n hx hb dX4_firstYear_17 rfl (lv_at hl 1 rfl) ?_
  refine lv_iload_n hx hb dX4_firstYear_18 rfl (lv_at hl 2 rfl) ?_
  refine lv_iload hx hb dX4_firstYear_19 (lv_at hl 5 rfl) ?_
  refine lv_iadd hx hb dX4_firstYear_21 ?_
  obtain ⟨x9, h10, h⟩ := rs_b1s h
  have h := h _ rfl
  refine rs_callVi (As := [.int p1, .int (p2 + x5)]) (rest := []) ⟨hx, hb, hml, hown, hts⟩ (c_X4_isDark l G A_a0 v_a0_lands v_a0_wide v_a0_pace v_a0_age v_a0_slits v_a0_slitA v_a0_slitB p1 (p2 + x5) x9 h10) (cwV 2 hts gX4_firstYear_X4_isDark rfl rfl rfl (by decide +kernel) ⟨Nat.le_of_ble_eq_true rfl, Nat.le_of_ble_eq_true rfl⟩) dX4_firstYear_22 hK hP hD hS hA [0] rfl (by decide) rfl rfl (q0 := 0) (ci := 4) rfl rfl rfl hl.1 (lv_room (Nat.le_of_ble_eq_true rfl)) ⟨Nat.zero_le _, Nat.zero_le _⟩ (fun (_ : Unit) => [(A_a0, .inr (4, [.int v_a0_lands, .int v_a0_wide, .int v_a0_pace, .int v_a0_age, .int v_a0_slits, .int v_a0_slitA, .int v_a0_slitB]))]) (fun _ => rfl) (fun _ => rfl) (fun u10 H locs hP hD hS => ?_)
  refine lv_iload_n hx hb dX4_firstYear_25 rfl (lv_at hl 3 rfl) ?_
  refine lv_icmp_eq (tgt := 34) hx hb dX4_firstYear_26 (by decide) (fun hc => ?_) (fun hc => ?_)
  · have h := rs_pos hc h
    refine lv_iinc (v := (x5 + 1)) (lv' := [(5, .int (x5 + 1)), (0, .ref A_a0), (1, .int p1), (2, .int p2), (3, .int p3), (4, .int x1)]) hx hb dX4_firstYear_34 hl (k := 5) rfl (by first | rfl | decide) (by decide) rfl (fun ls hl => ?_)
    refine lv_goto (tgt := 9) hx hb dX4_firstYear_37 (by decide) ?_
    exact K8 _ (Option.some.inj h).symm _ _ _ hP hD hS (lv_sub hl [1, 2, 3, 4, 5, 0] rfl)
  have h := rs_neg hc h
  refine lv_iload_n hx hb dX4_firstYear_29 rfl (lv_at hl 2 rfl) ?_
  refine lv_iload hx hb dX4_firstYear_30 (lv_at hl 5 rfl) ?_
  refine lv_iadd hx hb dX4_firstYear_32 ?_
  exact ret _ () _ _ _ _ (hR8 _ (L8 _ (Option.some.inj h).symm)) hP hS dX4_firstYear_33 rfl
abbrev rmX4_firstStrike : Room := { frames := 4, cells := 0, slots := 0, locals := 91 }
set_option maxRecDepth 100000 in
set_option maxHeartbeats 4000000 in
theorem c_X4_firstStrike (l : Launch) (G : rs_G) (A_a0 : Nat) (v_a0_lands : Int32) (v_a0_wide : Int32) (v_a0_pace : Int32) (v_a0_age : Int32) (v_a0_slits : Int32) (v_a0_slitA : Int32) (v_a0_slitB : Int32) (p1 : Int32) (p2 : Int32) (p3 : Int32) (N : Nat) (r0 : Int32) (h : f_X4_firstStrike N p1 p2 p3 v_a0_lands v_a0_wide v_a0_pace v_a0_age v_a0_slits v_a0_slitA v_a0_slitB = some r0) : rs_Ci l yX4_firstStrike wsX4_firstStrike rmX4_firstStrike G [.ref A_a0, .int p1, .int p2, .int p3] [(A_a0, .inr (4, [.int v_a0_lands, .int v_a0_wide, .int v_a0_pace, .int v_a0_age, .int v_a0_slits, .int v_a0_slitA, .int v_a0_slitB]))] (fun (_ : Unit) => [(A_a0, .inr (4, [.int v_a0_lands, .int v_a0_wide, .int v_a0_pace, .int v_a0_age, .int v_a0_slits, .int v_a0_slitA, .int v_a0_slitB]))]) r0 := by
  refine rs_enter_i (cc := cX4_firstStrike) (maxL := 6) (ty := .int) (by decide) rfl (Nat.le_of_ble_eq_true rfl) (fun p e s m args below meth c A Q ls E ret hP hD hS hA hl => ?_)
  obtain ⟨hx, hb, hml, hown, hts, hK⟩ := E
  have hown : s.vm.findClass RX4 = some m.cls := hown
  have hl : lv_has ls 6 [(0, .ref A_a0), (1, .int p1), (2, .int p2), (3, .int p3)] := hl
  have ret : ∀ (v0 : Int32) (u : Unit) (H : Heap) (locs : List Loc) (pc : Nat) (ls : Array Slot), some v0 = some r0 → va_P G.1 vwCl [(A_a0, .inr (4, [.int v_a0_lands, .int v_a0_wide, .int v_a0_pace, .int v_a0_age, .int v_a0_slits, .int v_a0_slitA, .int v_a0_slitB]))] H → va_S A s.heap H locs → decode cX4_firstStrike pc = .ok (.ireturn, 1) → narrow .int (.int v0) = .int v0 → W p l e rmX4_firstStrike s m args below meth c H locs 0 0 Q (F0 m pc ls [.int v0]) := by
    intro v0 u H locs pc ls hz
    cases hz
    exact ret u H locs pc ls
  unfold f_X4_firstStrike at h
  refine lv_aload_n hx hb dX4_firstStrike_0 rfl (lv_at hl 0 rfl) ?_
  obtain ⟨x1, h2, h⟩ := rs_b1s h
  have h := h _ rfl
  refine rs_callVi (As := []) (rest := []) ⟨hx, hb, hml, hown, hts⟩ (c_X4_period l G A_a0 v_a0_lands v_a0_wide v_a0_pace v_a0_age v_a0_slits v_a0_slitA v_a0_slitB N x1 h2) (cwV 0 hts gX4_firstStrike_X4_period rfl rfl rfl (by decide +kernel) ⟨Nat.le_of_ble_eq_true rfl, Nat.le_of_ble_eq_true rfl⟩) dX4_firstStrike_1 hK hP hD hS hA [0] rfl (by decide) rfl rfl (q0 := 0) (ci := 4) rfl rfl rfl hl.1 (lv_room (Nat.le_of_ble_eq_true rfl)) ⟨Nat.zero_le _, Nat.zero_le _⟩ (fun (_ : Unit) => [(A_a0, .inr (4, [.int v_a0_lands, .int v_a0_wide, .int v_a0_pace, .int v_a0_age, .int v_a0_slits, .int v_a0_slitA, .int v_a0_slitB]))]) (fun _ => rfl) (fun _ => rfl) (fun u2 H locs hP hD hS => ?_)
  refine lv_istore (lv' := [(4, .int x1), (0, .ref A_a0), (1, .int p1), (2, .int p2), (3, .int p3)]) hx hb dX4_firstStrike_4 hl (by decide) rfl (fun ls hl => ?_)
  refine lv_iconst (v := 0) hx hb dX4_firstStrike_6 (by decide) ?_
  refine lv_istore (lv' := [(5, .int 0), (4, .int x1), (0, .ref A_a0), (1, .int p1), (2, .int p2), (3, .int p3)]) hx hb dX4_firstStrike_7 hl (by decide) rfl (fun ls hl => ?_)
  obtain ⟨X8, hX8, h, hR8⟩ := rs_m0s h
  have J8 : X8 = .inl () → ∀  (H : Heap) (locs : List Loc) (ls : Array Slot), va_P G.1 vwCl [(A_a0, .inr (4, [.int v_a0_lands, .int v_a0_wide, .int v_a0_pace, .int v_a0_age, .int v_a0_slits, .int v_a0_slitA, .int v_a0_slitB]))] H → va_D A [(A_a0, .inr (4, [.int v_a0_lands, .int v_a0_wide, .int v_a0_pace, .int v_a0_age, .int v_a0_slits, .int v_a0_slitA, .int v_a0_slitB]))] → va_S A s.heap H locs → lv_has ls 6 [] → W p l e rmX4_firstStrike s m args below meth c H locs 0 0 Q (F0 m 40 ls []) := by
    intro  hz  H locs ls hP hD hS hl
    have h := h  hz
    refine lv_bipush (v := (-6)) hx hb dX4_firstStrike_40 (by decide) ?_
    exact ret _ () _ _ _ _ h hP hS dX4_firstStrike_42 rfl
  refine rs_l1W (Wd := fun (x5 : Int32) => ∀  (H : Heap) (locs : List Loc) (ls : Array Slot), va_P G.1 vwCl [(A_a0, .inr (4, [.int v_a0_lands, .int v_a0_wide, .int v_a0_pace, .int v_a0_age, .int v_a0_slits, .int v_a0_slitA, .int v_a0_slitB]))] H → va_D A [(A_a0, .inr (4, [.int v_a0_lands, .int v_a0_wide, .int v_a0_pace, .int v_a0_age, .int v_a0_slits, .int v_a0_slitA, .int v_a0_slitB]))] → va_S A s.heap H locs → lv_has ls 6 [(0, .ref A_a0), (1, .int p1), (2, .int p2), (3, .int p3), (4, .int x1), (5, .int x5)] → W p l e rmX4_firstStrike s m args below meth c H locs 0 0 Q (F0 m 9 ls [])) ?_ N 0 hX8 _ _ _ hP hD hS (lv_sub hl [2, 3, 4, 5, 1, 0] rfl)
  intro x5 o8 h K8 L8  H locs ls hP hD hS hl
  unfold f_X4_firstStrike_L9 at h
  refine lv_iload hx hb dX4_firstStrike_9 (lv_at hl 5 rfl) ?_
  refine lv_iload hx hb dX4_firstStrike_11 (lv_at hl 4 rfl) ?_
  refine lv_icmp_ge (tgt := 40) hx hb dX4_firstStrike_13 (by decide) (fun hc => ?_) (fun hc => ?_)
  · have h := rs_pos hc h
    exact J8  (L8 _ (Option.some.inj h).symm) _ _ _ hP hD hS (lv_sub hl [] rfl)
  have h := rs_neg hc h
  refine lv_aload_n hx hb dX4_firstStrike_16 rfl (lv_at hl 0 rfl) ?_
  refine lv_iload_n hx hb dX4_firstStrike_17 rfl (lv_at hl 1 rfl) ?_
  refine lv_iload_n hx hb dX4_firstStrike_18 rfl (lv_at hl 2 rfl) ?_
  refine lv_iload_n hx hb dX4_firstStrike_19 rfl (lv_at hl 3 rfl) ?_
  refine lv_iload hx hb dX4_firstStrike_20 (lv_at hl 5 rfl) ?_
  refine lv_iadd hx hb dX4_firstStrike_22 ?_
  obtain ⟨x9, h10, h⟩ := rs_b1s h
  have h := h _ rfl
  refine rs_callVi (As := [.int p1, .int p2, .int (p3 + x5)]) (rest := []) ⟨hx, hb, hml, hown, hts⟩ (c_X4_isStrike l G A_a0 v_a0_lands v_a0_wide v_a0_pace v_a0_age v_a0_slits v_a0_slitA v_a0_slitB p1 p2 (p3 + x5) x9 h10) (cwV 3 hts gX4_firstStrike_X4_isStrike rfl rfl rfl (by decide +kernel) ⟨Nat.le_of_ble_eq_true rfl, Nat.le_of_ble_eq_true rfl⟩) dX4_firstStrike_23 hK hP hD hS hA [0] rfl (by decide) rfl rfl (q0 := 0) (ci := 4) rfl rfl rfl hl.1 (lv_room (Nat.le_of_ble_eq_true rfl)) ⟨Nat.zero_le _, Nat.zero_le _⟩ (fun (_ : Unit) => [(A_a0, .inr (4, [.int v_a0_lands, .int v_a0_wide, .int v_a0_pace, .int v_a0_age, .int v_a0_slits, .int v_a0_slitA, .int v_a0_slitB]))]) (fun _ => rfl) (fun _ => rfl) (fun u10 H locs hP hD hS => ?_)
  refine lv_if_eq (tgt := 34) hx hb dX4_firstStrike_26 (by decide) (fun hc => ?_) (fun hc => ?_)
  · have h := rs_pos hc h
    refine lv_iinc (v := (x5 + 1)) (lv' := [(5, .int (x5 + 1)), (0, .ref A_a0), (1, .int p1), (2, .int p2), (3, .int p3), (4, .int x1)]) hx hb dX4_firstStrike_34 hl (k := 5) rfl (by first | rfl | decide) (by decide) rfl (fun ls hl => ?_)
    refine lv_goto (tgt := 9) hx hb dX4_firstStrike_37 (by decide) ?_
    exact K8 _ (Option.some.inj h).symm _ _ _ hP hD hS (lv_sub hl [1, 2, 3, 4, 5, 0] rfl)
  have h := rs_neg hc h
  refine lv_iload_n hx hb dX4_firstStrike_29 rfl (lv_at hl 3 rfl) ?_
  refine lv_iload hx hb dX4_firstStrike_30 (lv_at hl 5 rfl) ?_
  refine lv_iadd hx hb dX4_firstStrike_32 ?_
  exact ret _ () _ _ _ _ (hR8 _ (L8 _ (Option.some.inj h).symm)) hP hS dX4_firstStrike_33 rfl
abbrev rmX4_longestDark : Room := { frames := 3, cells := 0, slots := 0, locals := 68 }
set_option maxRecDepth 100000 in
set_option maxHeartbeats 4000000 in
theorem c_X4_longestDark (l : Launch) (G : rs_G) (A_a0 : Nat) (v_a0_lands : Int32) (v_a0_wide : Int32) (v_a0_pace : Int32) (v_a0_age : Int32) (v_a0_slits : Int32) (v_a0_slitA : Int32) (v_a0_slitB : Int32) (p1 : Int32) (p2 : Int32) (p3 : Int32) (N : Nat) (r0 : Int32) (h : f_X4_longestDark N p1 p2 p3 v_a0_lands v_a0_wide v_a0_pace v_a0_age v_a0_slits v_a0_slitA v_a0_slitB = some r0) : rs_Ci l yX4_longestDark wsX4_longestDark rmX4_longestDark G [.ref A_a0, .int p1, .int p2, .int p3] [(A_a0, .inr (4, [.int v_a0_lands, .int v_a0_wide, .int v_a0_pace, .int v_a0_age, .int v_a0_slits, .int v_a0_slitA, .int v_a0_slitB]))] (fun (_ : Unit) => [(A_a0, .inr (4, [.int v_a0_lands, .int v_a0_wide, .int v_a0_pace, .int v_a0_age, .int v_a0_slits, .int v_a0_slitA, .int v_a0_slitB]))]) r0 := by
  refine rs_enter_i (cc := cX4_longestDark) (maxL := 9) (ty := .int) (by decide) rfl (Nat.le_of_ble_eq_true rfl) (fun p e s m args below meth c A Q ls E ret hP hD hS hA hl => ?_)
  obtain ⟨hx, hb, hml, hown, hts, hK⟩ := E
  have hown : s.vm.findClass RX4 = some m.cls := hown
  have hl : lv_has ls 9 [(0, .ref A_a0), (1, .int p1), (2, .int p2), (3, .int p3)] := hl
  have ret : ∀ (v0 : Int32) (u : Unit) (H : Heap) (locs : List Loc) (pc : Nat) (ls : Array Slot), some v0 = some r0 → va_P G.1 vwCl [(A_a0, .inr (4, [.int v_a0_lands, .int v_a0_wide, .int v_a0_pace, .int v_a0_age, .int v_a0_slits, .int v_a0_slitA, .int v_a0_slitB]))] H → va_S A s.heap H locs → decode cX4_longestDark pc = .ok (.ireturn, 1) → narrow .int (.int v0) = .int v0 → W p l e rmX4_longestDark s m args below meth c H locs 0 0 Q (F0 m pc ls [.int v0]) := by
    intro v0 u H locs pc ls hz
    cases hz
    exact ret u H locs pc ls
  unfold f_X4_longestDark at h
  refine lv_aload_n hx hb dX4_longestDark_0 rfl (lv_at hl 0 rfl) ?_
  obtain ⟨x1, h2, h⟩ := rs_b1s h
  have h := h _ rfl
  refine rs_callVi (As := []) (rest := []) ⟨hx, hb, hml, hown, hts⟩ (c_X4_period l G A_a0 v_a0_lands v_a0_wide v_a0_pace v_a0_age v_a0_slits v_a0_slitA v_a0_slitB N x1 h2) (cwV 0 hts gX4_longestDark_X4_period rfl rfl rfl (by decide +kernel) ⟨Nat.le_of_ble_eq_true rfl, Nat.le_of_ble_eq_true rfl⟩) dX4_longestDark_1 hK hP hD hS hA [0] rfl (by decide) rfl rfl (q0 := 0) (ci := 4) rfl rfl rfl hl.1 (lv_room (Nat.le_of_ble_eq_true rfl)) ⟨Nat.zero_le _, Nat.zero_le _⟩ (fun (_ : Unit) => [(A_a0, .inr (4, [.int v_a0_lands, .int v_a0_wide, .int v_a0_pace, .int v_a0_age, .int v_a0_slits, .int v_a0_slitA, .int v_a0_slitB]))]) (fun _ => rfl) (fun _ => rfl) (fun u2 H locs hP hD hS => ?_)
  refine lv_istore (lv' := [(4, .int x1), (0, .ref A_a0), (1, .int p1), (2, .int p2), (3, .int p3)]) hx hb dX4_longestDark_4 hl (by decide) rfl (fun ls hl => ?_)
  refine lv_iload_n hx hb dX4_longestDark_6 rfl (lv_at hl 4 rfl) ?_
  refine lv_iconst (v := 2) hx hb dX4_longestDark_7 (by decide) ?_
  refine lv_iload hx hb dX4_longestDark_8 (lv_at hl 0 rfl) ?_
  refine lv_imul hx hb dX4_longestDark_10 ?_
  refine va_mmin hx hb (hml.trans hl.1.symm) hown (hts (.methodLink RX4 66 Lib.Math.min.name) (List.mem_of_getElem? (i := 1) rfl)) (hts (.static Lib.Math.min.name) (List.mem_of_getElem? (i := 2) rfl)) (hts (.initialized "java/lang/Math") (List.mem_of_getElem? (i := 3) rfl)) (hts (.code Lib.Math.min.name Lib.Math.min.code 2 (some .int)) (List.mem_of_getElem? (i := 4) rfl)) (Nat.le_of_ble_eq_true rfl) (Nat.le_of_ble_eq_true rfl) (Nat.zero_le _) (Nat.zero_le _) dX4_longestDark_11 ?_
  refine rs_topi h (fun x3 h => ?_)
  refine lv_istore (lv' := [(5, .int x3), (4, .int x1), (0, .ref A_a0), (1, .int p1), (2, .int p2), (3, .int p3)]) hx hb dX4_longestDark_14 hl (by decide) rfl (fun ls hl => ?_)
  refine lv_iconst (v := 0) hx hb dX4_longestDark_16 (by decide) ?_
  refine lv_istore (lv' := [(6, .int 0), (5, .int x3), (4, .int x1), (0, .ref A_a0), (1, .int p1), (2, .int p2), (3, .int p3)]) hx hb dX4_longestDark_17 hl (by decide) rfl (fun ls hl => ?_)
  refine lv_iconst (v := 0) hx hb dX4_longestDark_19 (by decide) ?_
  refine lv_istore (lv' := [(7, .int 0), (6, .int 0), (5, .int x3), (4, .int x1), (0, .ref A_a0), (1, .int p1), (2, .int p2), (3, .int p3)]) hx hb dX4_longestDark_20 hl (by decide) rfl (fun ls hl => ?_)
  refine lv_iconst (v := 0) hx hb dX4_longestDark_22 (by decide) ?_
  refine lv_istore (lv' := [(8, .int 0), (7, .int 0), (6, .int 0), (5, .int x3), (4, .int x1), (0, .ref A_a0), (1, .int p1), (2, .int p2), (3, .int p3)]) hx hb dX4_longestDark_23 hl (by decide) rfl (fun ls hl => ?_)
  obtain ⟨X17, hX17, h⟩ := rs_b1s h
  have J17 : ∀ (x18 : Int32), X17 = x18 → ∀  (H : Heap) (locs : List Loc) (ls : Array Slot), va_P G.1 vwCl [(A_a0, .inr (4, [.int v_a0_lands, .int v_a0_wide, .int v_a0_pace, .int v_a0_age, .int v_a0_slits, .int v_a0_slitA, .int v_a0_slitB]))] H → va_D A [(A_a0, .inr (4, [.int v_a0_lands, .int v_a0_wide, .int v_a0_pace, .int v_a0_age, .int v_a0_slits, .int v_a0_slitA, .int v_a0_slitB]))] → va_S A s.heap H locs → lv_has ls 9 [(3, .int p3), (4, .int x1), (6, .int x18)] → W p l e rmX4_longestDark s m args below meth c H locs 0 0 Q (F0 m 69 ls []) := by
    intro x18 hz  H locs ls hP hD hS hl
    have h := h _ hz
    refine lv_iload hx hb dX4_longestDark_69 (lv_at hl 2 rfl) ?_
    refine lv_iload hx hb dX4_longestDark_71 (lv_at hl 1 rfl) ?_
    refine lv_icmp_lt (tgt := 80) hx hb dX4_longestDark_73 (by decide) (fun hc => ?_) (fun hc => ?_)
    · have h := rs_pos hc h
      refine lv_iload hx hb dX4_longestDark_80 (lv_at hl 2 rfl) ?_
      exact ret _ () _ _ _ _ h hP hS dX4_longestDark_82 rfl
    have h := rs_neg hc h
    refine lv_iload_n hx hb dX4_longestDark_76 rfl (lv_at hl 0 rfl) ?_
    refine lv_goto (tgt := 82) hx hb dX4_longestDark_77 (by decide) ?_
    exact ret _ () _ _ _ _ h hP hS dX4_longestDark_82 rfl
  refine rs_l3W (Wd := fun (x9 : Int32) (x10 : Int32) (x11 : Int32) => ∀  (H : Heap) (locs : List Loc) (ls : Array Slot), va_P G.1 vwCl [(A_a0, .inr (4, [.int v_a0_lands, .int v_a0_wide, .int v_a0_pace, .int v_a0_age, .int v_a0_slits, .int v_a0_slitA, .int v_a0_slitB]))] H → va_D A [(A_a0, .inr (4, [.int v_a0_lands, .int v_a0_wide, .int v_a0_pace, .int v_a0_age, .int v_a0_slits, .int v_a0_slitA, .int v_a0_slitB]))] → va_S A s.heap H locs → lv_has ls 9 [(0, .ref A_a0), (1, .int p1), (2, .int p2), (3, .int p3), (4, .int x1), (5, .int x3), (6, .int x9), (7, .int x10), (8, .int x11)] → W p l e rmX4_longestDark s m args below meth c H locs 0 0 Q (F0 m 25 ls [])) ?_ N 0 0 0 hX17 _ _ _ hP hD hS (lv_sub hl [5, 6, 7, 8, 4, 3, 2, 1, 0] rfl)
  intro x9 x10 x11 o17 h K17 L17  H locs ls hP hD hS hl
  unfold f_X4_longestDark_L25 at h
  refine lv_iload hx hb dX4_longestDark_25 (lv_at hl 8 rfl) ?_
  refine lv_iload hx hb dX4_longestDark_27 (lv_at hl 5 rfl) ?_
  refine lv_icmp_ge (tgt := 69) hx hb dX4_longestDark_29 (by decide) (fun hc => ?_) (fun hc => ?_)
  · have h := rs_pos hc h
    exact J17 _ (L17 _ (Option.some.inj h).symm) _ _ _ hP hD hS (lv_sub hl [3, 4, 6] rfl)
  have h := rs_neg hc h
  refine lv_aload_n hx hb dX4_longestDark_32 rfl (lv_at hl 0 rfl) ?_
  refine lv_iload_n hx hb dX4_longestDark_33 rfl (lv_at hl 1 rfl) ?_
  refine lv_iload_n hx hb dX4_longestDark_34 rfl (lv_at hl 2 rfl) ?_
  refine lv_iload hx hb dX4_longestDark_35 (lv_at hl 8 rfl) ?_
  refine lv_iadd hx hb dX4_longestDark_37 ?_
  obtain ⟨x19, h20, h⟩ := rs_b1s h
  have h := h _ rfl
  refine rs_callVi (As := [.int p1, .int (p2 + x11)]) (rest := []) ⟨hx, hb, hml, hown, hts⟩ (c_X4_isDark l G A_a0 v_a0_lands v_a0_wide v_a0_pace v_a0_age v_a0_slits v_a0_slitA v_a0_slitB p1 (p2 + x11) x19 h20) (cwV 2 hts gX4_longestDark_X4_isDark rfl rfl rfl (by decide +kernel) ⟨Nat.le_of_ble_eq_true rfl, Nat.le_of_ble_eq_true rfl⟩) dX4_longestDark_38 hK hP hD hS hA [0] rfl (by decide) rfl rfl (q0 := 0) (ci := 4) rfl rfl rfl hl.1 (lv_room (Nat.le_of_ble_eq_true rfl)) ⟨Nat.zero_le _, Nat.zero_le _⟩ (fun (_ : Unit) => [(A_a0, .inr (4, [.int v_a0_lands, .int v_a0_wide, .int v_a0_pace, .int v_a0_age, .int v_a0_slits, .int v_a0_slitA, .int v_a0_slitB]))]) (fun _ => rfl) (fun _ => rfl) (fun u20 H locs hP hD hS => ?_)
  obtain ⟨X22, hX22, h⟩ := rs_b1s h
  have J22 : ∀ (x21 : Int32), X22 = x21 → ∀ (H : Heap) (locs : List Loc) (ls : Array Slot), va_P G.1 vwCl [(A_a0, .inr (4, [.int v_a0_lands, .int v_a0_wide, .int v_a0_pace, .int v_a0_age, .int v_a0_slits, .int v_a0_slitA, .int v_a0_slitB]))] H → va_D A [(A_a0, .inr (4, [.int v_a0_lands, .int v_a0_wide, .int v_a0_pace, .int v_a0_age, .int v_a0_slits, .int v_a0_slitA, .int v_a0_slitB]))] → va_S A s.heap H locs → lv_has ls 9 [(0, .ref A_a0), (1, .int p1), (2, .int p2), (3, .int p3), (4, .int x1), (5, .int x3), (6, .int x9), (8, .int x11)] → W p l e rmX4_longestDark s m args below meth c H locs 0 0 Q (F0 m 52 ls [.int x21]) := by
    intro x21 hz H locs ls hP hD hS hl
    have h := h _ hz
    refine lv_istore (lv' := [(7, .int x21), (0, .ref A_a0), (1, .int p1), (2, .int p2), (3, .int p3), (4, .int x1), (5, .int x3), (6, .int x9), (8, .int x11)]) hx hb dX4_longestDark_52 hl (by decide) rfl (fun ls hl => ?_)
    refine lv_iload hx hb dX4_longestDark_54 (lv_at hl 7 rfl) ?_
    refine lv_iload hx hb dX4_longestDark_56 (lv_at hl 0 rfl) ?_
    refine va_mmax hx hb (hml.trans hl.1.symm) hown (hts (.methodLink RX4 71 Lib.Math.max.name) (List.mem_of_getElem? (i := 5) rfl)) (hts (.static Lib.Math.max.name) (List.mem_of_getElem? (i := 6) rfl)) (hts (.initialized "java/lang/Math") (List.mem_of_getElem? (i := 3) rfl)) (hts (.code Lib.Math.max.name Lib.Math.max.code 2 (some .int)) (List.mem_of_getElem? (i := 7) rfl)) (Nat.le_of_ble_eq_true rfl) (Nat.le_of_ble_eq_true rfl) (Nat.zero_le _) (Nat.zero_le _) dX4_longestDark_58 ?_
    refine rs_topi h (fun x23 h => ?_)
    refine lv_istore (lv' := [(6, .int x23), (7, .int x21), (0, .ref A_a0), (1, .int p1), (2, .int p2), (3, .int p3), (4, .int x1), (5, .int x3), (8, .int x11)]) hx hb dX4_longestDark_61 hl (by decide) rfl (fun ls hl => ?_)
    refine lv_iinc (v := (x11 + 1)) (lv' := [(8, .int (x11 + 1)), (6, .int x23), (7, .int x21), (0, .ref A_a0), (1, .int p1), (2, .int p2), (3, .int p3), (4, .int x1), (5, .int x3)]) hx hb dX4_longestDark_63 hl (k := 8) rfl (by first | rfl | decide) (by decide) rfl (fun ls hl => ?_)
    refine lv_goto (tgt := 25) hx hb dX4_longestDark_66 (by decide) ?_
    exact K17 _ _ _ (Option.some.inj h).symm _ _ _ hP hD hS (lv_sub hl [3, 4, 5, 6, 7, 8, 1, 2, 0] rfl)
  have h := hX22
  refine lv_if_eq (tgt := 51) hx hb dX4_longestDark_41 (by decide) (fun hc => ?_) (fun hc => ?_)
  · have h := rs_pos hc h
    refine lv_iconst (v := 0) hx hb dX4_longestDark_51 (by decide) ?_
    exact J22 _ (Option.some.inj h).symm _ _ _ hP hD hS (lv_sub hl [0, 1, 2, 3, 4, 5, 6, 8] rfl)
  have h := rs_neg hc h
  refine lv_iload hx hb dX4_longestDark_44 (lv_at hl 7 rfl) ?_
  refine lv_iconst (v := 1) hx hb dX4_longestDark_46 (by decide) ?_
  refine lv_iadd hx hb dX4_longestDark_47 ?_
  refine lv_goto (tgt := 52) hx hb dX4_longestDark_48 (by decide) ?_
  exact J22 _ (Option.some.inj h).symm _ _ _ hP hD hS (lv_sub hl [0, 1, 2, 3, 4, 5, 6, 8] rfl)
abbrev rmX4_nightAhead : Room := { frames := 3, cells := 0, slots := 0, locals := 68 }
set_option maxRecDepth 100000 in
set_option maxHeartbeats 4000000 in
theorem c_X4_nightAhead (l : Launch) (G : rs_G) (A_a0 : Nat) (v_a0_lands : Int32) (v_a0_wide : Int32) (v_a0_pace : Int32) (v_a0_age : Int32) (v_a0_slits : Int32) (v_a0_slitA : Int32) (v_a0_slitB : Int32) (p1 : Int32) (p2 : Int32) (N : Nat) (r0 : Int32) (h : f_X4_nightAhead N p1 p2 v_a0_lands v_a0_wide v_a0_pace v_a0_age v_a0_slits v_a0_slitA v_a0_slitB = some r0) : rs_Ci l yX4_nightAhead wsX4_nightAhead rmX4_nightAhead G [.ref A_a0, .int p1, .int p2] [(A_a0, .inr (4, [.int v_a0_lands, .int v_a0_wide, .int v_a0_pace, .int v_a0_age, .int v_a0_slits, .int v_a0_slitA, .int v_a0_slitB]))] (fun (_ : Unit) => [(A_a0, .inr (4, [.int v_a0_lands, .int v_a0_wide, .int v_a0_pace, .int v_a0_age, .int v_a0_slits, .int v_a0_slitA, .int v_a0_slitB]))]) r0 := by
  refine rs_enter_i (cc := cX4_nightAhead) (maxL := 4) (ty := .int) (by decide) rfl (Nat.le_of_ble_eq_true rfl) (fun p e s m args below meth c A Q ls E ret hP hD hS hA hl => ?_)
  obtain ⟨hx, hb, hml, hown, hts, hK⟩ := E
  have hown : s.vm.findClass RX4 = some m.cls := hown
  have hl : lv_has ls 4 [(0, .ref A_a0), (1, .int p1), (2, .int p2)] := hl
  have ret : ∀ (v0 : Int32) (u : Unit) (H : Heap) (locs : List Loc) (pc : Nat) (ls : Array Slot), some v0 = some r0 → va_P G.1 vwCl [(A_a0, .inr (4, [.int v_a0_lands, .int v_a0_wide, .int v_a0_pace, .int v_a0_age, .int v_a0_slits, .int v_a0_slitA, .int v_a0_slitB]))] H → va_S A s.heap H locs → decode cX4_nightAhead pc = .ok (.ireturn, 1) → narrow .int (.int v0) = .int v0 → W p l e rmX4_nightAhead s m args below meth c H locs 0 0 Q (F0 m pc ls [.int v0]) := by
    intro v0 u H locs pc ls hz
    cases hz
    exact ret u H locs pc ls
  unfold f_X4_nightAhead at h
  refine lv_iconst (v := 0) hx hb dX4_nightAhead_0 (by decide) ?_
  refine lv_istore_n (lv' := [(3, .int 0), (0, .ref A_a0), (1, .int p1), (2, .int p2)]) hx hb dX4_nightAhead_1 rfl hl (by decide) rfl (fun ls hl => ?_)
  obtain ⟨X6, hX6, h⟩ := rs_b1s h
  have J6 : ∀ (x7 : Int32), X6 = x7 → ∀  (H : Heap) (locs : List Loc) (ls : Array Slot), va_P G.1 vwCl [(A_a0, .inr (4, [.int v_a0_lands, .int v_a0_wide, .int v_a0_pace, .int v_a0_age, .int v_a0_slits, .int v_a0_slitA, .int v_a0_slitB]))] H → va_D A [(A_a0, .inr (4, [.int v_a0_lands, .int v_a0_wide, .int v_a0_pace, .int v_a0_age, .int v_a0_slits, .int v_a0_slitA, .int v_a0_slitB]))] → va_S A s.heap H locs → lv_has ls 4 [(3, .int x7)] → W p l e rmX4_nightAhead s m args below meth c H locs 0 0 Q (F0 m 34 ls []) := by
    intro x7 hz  H locs ls hP hD hS hl
    have h := h _ hz
    refine lv_iload_n hx hb dX4_nightAhead_34 rfl (lv_at hl 0 rfl) ?_
    exact ret _ () _ _ _ _ h hP hS dX4_nightAhead_35 rfl
  refine rs_l1W (Wd := fun (x3 : Int32) => ∀  (H : Heap) (locs : List Loc) (ls : Array Slot), va_P G.1 vwCl [(A_a0, .inr (4, [.int v_a0_lands, .int v_a0_wide, .int v_a0_pace, .int v_a0_age, .int v_a0_slits, .int v_a0_slitA, .int v_a0_slitB]))] H → va_D A [(A_a0, .inr (4, [.int v_a0_lands, .int v_a0_wide, .int v_a0_pace, .int v_a0_age, .int v_a0_slits, .int v_a0_slitA, .int v_a0_slitB]))] → va_S A s.heap H locs → lv_has ls 4 [(0, .ref A_a0), (1, .int p1), (2, .int p2), (3, .int x3)] → W p l e rmX4_nightAhead s m args below meth c H locs 0 0 Q (F0 m 2 ls [])) ?_ N 0 hX6 _ _ _ hP hD hS (lv_sub hl [1, 2, 3, 0] rfl)
  intro x3 o6 h K6 L6  H locs ls hP hD hS hl
  unfold f_X4_nightAhead_L2 at h
  refine lv_iload_n hx hb dX4_nightAhead_2 rfl (lv_at hl 3 rfl) ?_
  refine lv_bipush (v := 9) hx hb dX4_nightAhead_3 (by decide) ?_
  refine lv_icmp_ge (tgt := 34) hx hb dX4_nightAhead_5 (by decide) (fun hc => ?_) (fun hc => ?_)
  · have h := rs_pos hc h
    exact J6 _ (L6 _ (Option.some.inj h).symm) _ _ _ hP hD hS (lv_sub hl [3] rfl)
  have h := rs_neg hc h
  refine lv_iload_n hx hb dX4_nightAhead_8 rfl (lv_at hl 2 rfl) ?_
  refine lv_iload_n hx hb dX4_nightAhead_9 rfl (lv_at hl 3 rfl) ?_
  refine lv_isub hx hb dX4_nightAhead_10 ?_
  refine lv_iconst (v := 1) hx hb dX4_nightAhead_11 (by decide) ?_
  refine lv_icmp_lt (tgt := 34) hx hb dX4_nightAhead_12 (by decide) (fun hc => ?_) (fun hc => ?_)
  · have h := rs_pos hc h
    exact J6 _ (L6 _ (Option.some.inj h).symm) _ _ _ hP hD hS (lv_sub hl [3] rfl)
  have h := rs_neg hc h
  refine lv_aload_n hx hb dX4_nightAhead_15 rfl (lv_at hl 0 rfl) ?_
  refine lv_iload_n hx hb dX4_nightAhead_16 rfl (lv_at hl 1 rfl) ?_
  refine lv_iload_n hx hb dX4_nightAhead_17 rfl (lv_at hl 2 rfl) ?_
  refine lv_iload_n hx hb dX4_nightAhead_18 rfl (lv_at hl 3 rfl) ?_
  refine lv_isub hx hb dX4_nightAhead_19 ?_
  refine lv_iconst (v := 1) hx hb dX4_nightAhead_20 (by decide) ?_
  refine lv_isub hx hb dX4_nightAhead_21 ?_
  obtain ⟨x8, h9, h⟩ := rs_b1s h
  have h := h _ rfl
  refine rs_callVi (As := [.int p1, .int ((p2 - x3) - 1)]) (rest := []) ⟨hx, hb, hml, hown, hts⟩ (c_X4_isDark l G A_a0 v_a0_lands v_a0_wide v_a0_pace v_a0_age v_a0_slits v_a0_slitA v_a0_slitB p1 ((p2 - x3) - 1) x8 h9) (cwV 2 hts gX4_nightAhead_X4_isDark rfl rfl rfl (by decide +kernel) ⟨Nat.le_of_ble_eq_true rfl, Nat.le_of_ble_eq_true rfl⟩) dX4_nightAhead_22 hK hP hD hS hA [0] rfl (by decide) rfl rfl (q0 := 0) (ci := 4) rfl rfl rfl hl.1 (lv_room (Nat.le_of_ble_eq_true rfl)) ⟨Nat.zero_le _, Nat.zero_le _⟩ (fun (_ : Unit) => [(A_a0, .inr (4, [.int v_a0_lands, .int v_a0_wide, .int v_a0_pace, .int v_a0_age, .int v_a0_slits, .int v_a0_slitA, .int v_a0_slitB]))]) (fun _ => rfl) (fun _ => rfl) (fun u9 H locs hP hD hS => ?_)
  refine lv_if_eq (tgt := 34) hx hb dX4_nightAhead_25 (by decide) (fun hc => ?_) (fun hc => ?_)
  · have h := rs_pos hc h
    exact J6 _ (L6 _ (Option.some.inj h).symm) _ _ _ hP hD hS (lv_sub hl [3] rfl)
  have h := rs_neg hc h
  refine lv_iinc (v := (x3 + 1)) (lv' := [(3, .int (x3 + 1)), (0, .ref A_a0), (1, .int p1), (2, .int p2)]) hx hb dX4_nightAhead_28 hl (k := 3) rfl (by first | rfl | decide) (by decide) rfl (fun ls hl => ?_)
  refine lv_goto (tgt := 2) hx hb dX4_nightAhead_31 (by decide) ?_
  exact K6 _ (Option.some.inj h).symm _ _ _ hP hD hS (lv_sub hl [1, 2, 3, 0] rfl)
abbrev rmX4_nightsPaid : Room := { frames := 4, cells := 0, slots := 0, locals := 91 }
set_option maxRecDepth 100000 in
set_option maxHeartbeats 4000000 in
theorem c_X4_nightsPaid (l : Launch) (G : rs_G) (A_a0 : Nat) (v_a0_lands : Int32) (v_a0_wide : Int32) (v_a0_pace : Int32) (v_a0_age : Int32) (v_a0_slits : Int32) (v_a0_slitA : Int32) (v_a0_slitB : Int32) (p1 : Int32) (p2 : Int32) (p3 : Int32) (N : Nat) (r0 : Int32) (h : f_X4_nightsPaid N p1 p2 p3 v_a0_lands v_a0_wide v_a0_pace v_a0_age v_a0_slits v_a0_slitA v_a0_slitB = some r0) : rs_Ci l yX4_nightsPaid wsX4_nightsPaid rmX4_nightsPaid G [.ref A_a0, .int p1, .int p2, .int p3] [(A_a0, .inr (4, [.int v_a0_lands, .int v_a0_wide, .int v_a0_pace, .int v_a0_age, .int v_a0_slits, .int v_a0_slitA, .int v_a0_slitB]))] (fun (_ : Unit) => [(A_a0, .inr (4, [.int v_a0_lands, .int v_a0_wide, .int v_a0_pace, .int v_a0_age, .int v_a0_slits, .int v_a0_slitA, .int v_a0_slitB]))]) r0 := by
  refine rs_enter_i (cc := cX4_nightsPaid) (maxL := 6) (ty := .int) (by decide) rfl (Nat.le_of_ble_eq_true rfl) (fun p e s m args below meth c A Q ls E ret hP hD hS hA hl => ?_)
  obtain ⟨hx, hb, hml, hown, hts, hK⟩ := E
  have hown : s.vm.findClass RX4 = some m.cls := hown
  have hl : lv_has ls 6 [(0, .ref A_a0), (1, .int p1), (2, .int p2), (3, .int p3)] := hl
  have ret : ∀ (v0 : Int32) (u : Unit) (H : Heap) (locs : List Loc) (pc : Nat) (ls : Array Slot), some v0 = some r0 → va_P G.1 vwCl [(A_a0, .inr (4, [.int v_a0_lands, .int v_a0_wide, .int v_a0_pace, .int v_a0_age, .int v_a0_slits, .int v_a0_slitA, .int v_a0_slitB]))] H → va_S A s.heap H locs → decode cX4_nightsPaid pc = .ok (.ireturn, 1) → narrow .int (.int v0) = .int v0 → W p l e rmX4_nightsPaid s m args below meth c H locs 0 0 Q (F0 m pc ls [.int v0]) := by
    intro v0 u H locs pc ls hz
    cases hz
    exact ret u H locs pc ls
  unfold f_X4_nightsPaid at h
  refine lv_iconst (v := 0) hx hb dX4_nightsPaid_0 (by decide) ?_
  refine lv_istore (lv' := [(4, .int 0), (0, .ref A_a0), (1, .int p1), (2, .int p2), (3, .int p3)]) hx hb dX4_nightsPaid_1 hl (by decide) rfl (fun ls hl => ?_)
  refine lv_iload_n hx hb dX4_nightsPaid_3 rfl (lv_at hl 3 rfl) ?_
  refine lv_istore (lv' := [(5, .int p2), (4, .int 0), (0, .ref A_a0), (1, .int p1), (2, .int p2), (3, .int p3)]) hx hb dX4_nightsPaid_4 hl (by decide) rfl (fun ls hl => ?_)
  obtain ⟨X31, hX31, h⟩ := rs_b1s h
  have J31 : ∀ (x32 : Int32), X31 = x32 → ∀  (H : Heap) (locs : List Loc) (ls : Array Slot), va_P G.1 vwCl [(A_a0, .inr (4, [.int v_a0_lands, .int v_a0_wide, .int v_a0_pace, .int v_a0_age, .int v_a0_slits, .int v_a0_slitA, .int v_a0_slitB]))] H → va_D A [(A_a0, .inr (4, [.int v_a0_lands, .int v_a0_wide, .int v_a0_pace, .int v_a0_age, .int v_a0_slits, .int v_a0_slitA, .int v_a0_slitB]))] → va_S A s.heap H locs → lv_has ls 6 [(4, .int x32)] → W p l e rmX4_nightsPaid s m args below meth c H locs 0 0 Q (F0 m 52 ls []) := by
    intro x32 hz  H locs ls hP hD hS hl
    have h := h _ hz
    refine lv_iload hx hb dX4_nightsPaid_52 (lv_at hl 0 rfl) ?_
    exact ret _ () _ _ _ _ h hP hS dX4_nightsPaid_54 rfl
  refine rs_l2W (Wd := fun (x15 : Int32) (x16 : Int32) => ∀  (H : Heap) (locs : List Loc) (ls : Array Slot), va_P G.1 vwCl [(A_a0, .inr (4, [.int v_a0_lands, .int v_a0_wide, .int v_a0_pace, .int v_a0_age, .int v_a0_slits, .int v_a0_slitA, .int v_a0_slitB]))] H → va_D A [(A_a0, .inr (4, [.int v_a0_lands, .int v_a0_wide, .int v_a0_pace, .int v_a0_age, .int v_a0_slits, .int v_a0_slitA, .int v_a0_slitB]))] → va_S A s.heap H locs → lv_has ls 6 [(0, .ref A_a0), (1, .int p1), (2, .int p2), (3, .int p3), (4, .int x15), (5, .int x16)] → W p l e rmX4_nightsPaid s m args below meth c H locs 0 0 Q (F0 m 6 ls [])) ?_ N 0 p2 hX31 _ _ _ hP hD hS (lv_sub hl [2, 3, 4, 5, 1, 0] rfl)
  intro x15 x16 o31 h K31 L31  H locs ls hP hD hS hl
  unfold f_X4_nightsPaid_L6 at h
  refine lv_iload hx hb dX4_nightsPaid_6 (lv_at hl 5 rfl) ?_
  refine lv_iload_n hx hb dX4_nightsPaid_8 rfl (lv_at hl 2 rfl) ?_
  refine lv_iload_n hx hb dX4_nightsPaid_9 rfl (lv_at hl 3 rfl) ?_
  refine lv_iadd hx hb dX4_nightsPaid_10 ?_
  refine lv_icmp_ge (tgt := 52) hx hb dX4_nightsPaid_11 (by decide) (fun hc => ?_) (fun hc => ?_)
  · have h := rs_pos hc h
    exact J31 _ (L31 _ (Option.some.inj h).symm) _ _ _ hP hD hS (lv_sub hl [4] rfl)
  have h := rs_neg hc h
  refine lv_aload_n hx hb dX4_nightsPaid_14 rfl (lv_at hl 0 rfl) ?_
  refine lv_iload_n hx hb dX4_nightsPaid_15 rfl (lv_at hl 1 rfl) ?_
  refine lv_iload hx hb dX4_nightsPaid_16 (lv_at hl 5 rfl) ?_
  obtain ⟨x33, h34, h⟩ := rs_b1s h
  have h := h _ rfl
  refine rs_callVi (As := [.int p1, .int x16]) (rest := []) ⟨hx, hb, hml, hown, hts⟩ (c_X4_hasSlit l G A_a0 v_a0_lands v_a0_wide v_a0_pace v_a0_age v_a0_slits v_a0_slitA v_a0_slitB p1 x16 x33 h34) (cwV 2 hts gX4_nightsPaid_X4_hasSlit rfl rfl rfl (by decide +kernel) ⟨Nat.le_of_ble_eq_true rfl, Nat.le_of_ble_eq_true rfl⟩) dX4_nightsPaid_18 hK hP hD hS hA [0] rfl (by decide) rfl rfl (q0 := 0) (ci := 4) rfl rfl rfl hl.1 (lv_room (Nat.le_of_ble_eq_true rfl)) ⟨Nat.zero_le _, Nat.zero_le _⟩ (fun (_ : Unit) => [(A_a0, .inr (4, [.int v_a0_lands, .int v_a0_wide, .int v_a0_pace, .int v_a0_age, .int v_a0_slits, .int v_a0_slitA, .int v_a0_slitB]))]) (fun _ => rfl) (fun _ => rfl) (fun u34 H locs hP hD hS => ?_)
  obtain ⟨X41, hX41, h⟩ := rs_b1s h
  have J41 : ∀ (x40 : Int32), X41 = x40 → ∀ (H : Heap) (locs : List Loc) (ls : Array Slot), va_P G.1 vwCl [(A_a0, .inr (4, [.int v_a0_lands, .int v_a0_wide, .int v_a0_pace, .int v_a0_age, .int v_a0_slits, .int v_a0_slitA, .int v_a0_slitB]))] H → va_D A [(A_a0, .inr (4, [.int v_a0_lands, .int v_a0_wide, .int v_a0_pace, .int v_a0_age, .int v_a0_slits, .int v_a0_slitA, .int v_a0_slitB]))] → va_S A s.heap H locs → lv_has ls 6 [(0, .ref A_a0), (1, .int p1), (2, .int p2), (3, .int p3), (4, .int x40), (5, .int x16)] → W p l e rmX4_nightsPaid s m args below meth c H locs 0 0 Q (F0 m 46 ls []) := by
    intro x40 hz H locs ls hP hD hS hl
    have h := h _ hz
    refine lv_iinc (v := (x16 + 1)) (lv' := [(5, .int (x16 + 1)), (0, .ref A_a0), (1, .int p1), (2, .int p2), (3, .int p3), (4, .int x40)]) hx hb dX4_nightsPaid_46 hl (k := 5) rfl (by first | rfl | decide) (by decide) rfl (fun ls hl => ?_)
    refine lv_goto (tgt := 6) hx hb dX4_nightsPaid_49 (by decide) ?_
    exact K31 _ _ (Option.some.inj h).symm _ _ _ hP hD hS (lv_sub hl [1, 2, 3, 4, 5, 0] rfl)
  have h := hX41
  refine lv_if_eq (tgt := 46) hx hb dX4_nightsPaid_21 (by decide) (fun hc => ?_) (fun hc => ?_)
  · have h := rs_pos hc h
    exact J41 _ (Option.some.inj h).symm _ _ _ hP hD hS (lv_sub hl [0, 1, 2, 3, 4, 5] rfl)
  have h := rs_neg hc h
  refine lv_aload_n hx hb dX4_nightsPaid_24 rfl (lv_at hl 0 rfl) ?_
  refine lv_iload_n hx hb dX4_nightsPaid_25 rfl (lv_at hl 1 rfl) ?_
  refine lv_iload hx hb dX4_nightsPaid_26 (lv_at hl 5 rfl) ?_
  obtain ⟨x42, h43, h⟩ := rs_b1s h
  have h := h _ rfl
  refine rs_callVi (As := [.int p1, .int x16]) (rest := []) ⟨hx, hb, hml, hown, hts⟩ (c_X4_covers l G A_a0 v_a0_lands v_a0_wide v_a0_pace v_a0_age v_a0_slits v_a0_slitA v_a0_slitB p1 x16 x42 h43) (cwV 2 hts gX4_nightsPaid_X4_covers rfl rfl rfl (by decide +kernel) ⟨Nat.le_of_ble_eq_true rfl, Nat.le_of_ble_eq_true rfl⟩) dX4_nightsPaid_28 hK hP hD hS hA [0] rfl (by decide) rfl rfl (q0 := 0) (ci := 4) rfl rfl rfl hl.1 (lv_room (Nat.le_of_ble_eq_true rfl)) ⟨Nat.zero_le _, Nat.zero_le _⟩ (fun (_ : Unit) => [(A_a0, .inr (4, [.int v_a0_lands, .int v_a0_wide, .int v_a0_pace, .int v_a0_age, .int v_a0_slits, .int v_a0_slitA, .int v_a0_slitB]))]) (fun _ => rfl) (fun _ => rfl) (fun u43 H locs hP hD hS => ?_)
  refine lv_if_eq (tgt := 46) hx hb dX4_nightsPaid_31 (by decide) (fun hc => ?_) (fun hc => ?_)
  · have h := rs_pos hc h
    exact J41 _ (Option.some.inj h).symm _ _ _ hP hD hS (lv_sub hl [0, 1, 2, 3, 4, 5] rfl)
  have h := rs_neg hc h
  refine lv_iload hx hb dX4_nightsPaid_34 (lv_at hl 4 rfl) ?_
  refine lv_aload_n hx hb dX4_nightsPaid_36 rfl (lv_at hl 0 rfl) ?_
  refine lv_iload_n hx hb dX4_nightsPaid_37 rfl (lv_at hl 1 rfl) ?_
  refine lv_iload hx hb dX4_nightsPaid_38 (lv_at hl 5 rfl) ?_
  obtain ⟨x44, h45, h⟩ := rs_b1s h
  have h := h _ rfl
  refine rs_callVi (As := [.int p1, .int x16]) (rest := [.int x15]) ⟨hx, hb, hml, hown, hts⟩ (c_X4_nightAhead l G A_a0 v_a0_lands v_a0_wide v_a0_pace v_a0_age v_a0_slits v_a0_slitA v_a0_slitB p1 x16 N x44 h45) (cwV 2 hts gX4_nightsPaid_X4_nightAhead rfl rfl rfl (by decide +kernel) ⟨Nat.le_of_ble_eq_true rfl, Nat.le_of_ble_eq_true rfl⟩) dX4_nightsPaid_40 hK hP hD hS hA [0] rfl (by decide) rfl rfl (q0 := 0) (ci := 4) rfl rfl rfl hl.1 (lv_room (Nat.le_of_ble_eq_true rfl)) ⟨Nat.zero_le _, Nat.zero_le _⟩ (fun (_ : Unit) => [(A_a0, .inr (4, [.int v_a0_lands, .int v_a0_wide, .int v_a0_pace, .int v_a0_age, .int v_a0_slits, .int v_a0_slitA, .int v_a0_slitB]))]) (fun _ => rfl) (fun _ => rfl) (fun u45 H locs hP hD hS => ?_)
  refine lv_iadd hx hb dX4_nightsPaid_43 ?_
  refine rs_topi h (fun x46 h => ?_)
  refine lv_istore (lv' := [(4, .int x46), (0, .ref A_a0), (1, .int p1), (2, .int p2), (3, .int p3), (5, .int x16)]) hx hb dX4_nightsPaid_44 hl (by decide) rfl (fun ls hl => ?_)
  exact J41 _ (Option.some.inj h).symm _ _ _ hP hD hS (lv_sub hl [1, 2, 3, 4, 0, 5] rfl)
abbrev rmX10_leftOver : Room := { frames := 0, cells := 0, slots := 0, locals := 0 }
set_option maxRecDepth 100000 in
set_option maxHeartbeats 4000000 in
theorem c_X10_leftOver (l : Launch) (G : rs_G) (p0 : Int32) (p1 : Int32) (r0 : Int32) (h : f_X10_leftOver p0 p1 = some r0) : rs_Ci l yX10_leftOver wsX10_leftOver rmX10_leftOver G [.int p0, .int p1] [] (fun (_ : Unit) => []) r0 := by
  refine rs_enter_i (cc := cX10_leftOver) (maxL := 2) (ty := .int) (by decide) rfl (Nat.le_of_ble_eq_true rfl) (fun p e s m args below meth c A Q ls E ret hP hD hS hA hl => ?_)
  obtain ⟨hx, hb, hml, hown, hts, hK⟩ := E
  have hown : s.vm.findClass RX10 = some m.cls := hown
  have hl : lv_has ls 2 [(0, .int p0), (1, .int p1)] := hl
  have ret : ∀ (v0 : Int32) (u : Unit) (H : Heap) (locs : List Loc) (pc : Nat) (ls : Array Slot), some v0 = some r0 → va_P G.1 vwCl [] H → va_S A s.heap H locs → decode cX10_leftOver pc = .ok (.ireturn, 1) → narrow .int (.int v0) = .int v0 → W p l e rmX10_leftOver s m args below meth c H locs 0 0 Q (F0 m pc ls [.int v0]) := by
    intro v0 u H locs pc ls hz
    cases hz
    exact ret u H locs pc ls
  unfold f_X10_leftOver at h
  refine lv_iload_n hx hb dX10_leftOver_0 rfl (lv_at hl 1 rfl) ?_
  refine lv_if_ne (tgt := 8) hx hb dX10_leftOver_1 (by decide) (fun hc => ?_) (fun hc => ?_)
  · have h := rs_neg hc h
    refine lv_iload_n hx hb dX10_leftOver_8 rfl (lv_at hl 0 rfl) ?_
    refine lv_iload_n hx hb dX10_leftOver_9 rfl (lv_at hl 1 rfl) ?_
    obtain ⟨hg, h⟩ := rs_gd h
    refine lv_irem hx hb dX10_leftOver_10 hg ?_
    exact ret _ () _ _ _ _ h hP hS dX10_leftOver_11 rfl
  have h := rs_pos hc h
  refine lv_iconst (v := 0) hx hb dX10_leftOver_4 (by decide) ?_
  refine lv_goto (tgt := 11) hx hb dX10_leftOver_5 (by decide) ?_
  exact ret _ () _ _ _ _ h hP hS dX10_leftOver_11 rfl
theorem uX4_rentYears_4 : ∀ w ∈ wsX40, w ∈ wsX4_rentYears := fun _ h => List.mem_cons_of_mem _ (List.mem_append_right _ h)
abbrev rmX4_rentYears : Room := { frames := 5, cells := 0, slots := 0, locals := 116 }
set_option maxRecDepth 100000 in
set_option maxHeartbeats 4000000 in
theorem c_X4_rentYears (l : Launch) (G : rs_G) (A_a0 : Nat) (v_a0_lands : Int32) (v_a0_wide : Int32) (v_a0_pace : Int32) (v_a0_age : Int32) (v_a0_slits : Int32) (v_a0_slitA : Int32) (v_a0_slitB : Int32) (p1 : Int32) (p2 : Int32) (p3 : Int32) (N : Nat) (r0 : Int32) (h : f_X4_rentYears N p1 p2 p3 v_a0_lands v_a0_wide v_a0_pace v_a0_age v_a0_slits v_a0_slitA v_a0_slitB = some r0) : rs_Ci l yX4_rentYears wsX4_rentYears rmX4_rentYears G [.ref A_a0, .int p1, .int p2, .int p3] [(A_a0, .inr (4, [.int v_a0_lands, .int v_a0_wide, .int v_a0_pace, .int v_a0_age, .int v_a0_slits, .int v_a0_slitA, .int v_a0_slitB]))] (fun (_ : Unit) => [(A_a0, .inr (4, [.int v_a0_lands, .int v_a0_wide, .int v_a0_pace, .int v_a0_age, .int v_a0_slits, .int v_a0_slitA, .int v_a0_slitB]))]) r0 := by
  refine rs_enter_i (cc := cX4_rentYears) (maxL := 9) (ty := .int) (by decide) rfl (Nat.le_of_ble_eq_true rfl) (fun p e s m args below meth c A Q ls E ret hP hD hS hA hl => ?_)
  obtain ⟨hx, hb, hml, hown, hts, hK⟩ := E
  have hown : s.vm.findClass RX4 = some m.cls := hown
  have hl : lv_has ls 9 [(0, .ref A_a0), (1, .int p1), (2, .int p2), (3, .int p3)] := hl
  have ret : ∀ (v0 : Int32) (u : Unit) (H : Heap) (locs : List Loc) (pc : Nat) (ls : Array Slot), some v0 = some r0 → va_P G.1 vwCl [(A_a0, .inr (4, [.int v_a0_lands, .int v_a0_wide, .int v_a0_pace, .int v_a0_age, .int v_a0_slits, .int v_a0_slitA, .int v_a0_slitB]))] H → va_S A s.heap H locs → decode cX4_rentYears pc = .ok (.ireturn, 1) → narrow .int (.int v0) = .int v0 → W p l e rmX4_rentYears s m args below meth c H locs 0 0 Q (F0 m pc ls [.int v0]) := by
    intro v0 u H locs pc ls hz
    cases hz
    exact ret u H locs pc ls
  unfold f_X4_rentYears at h
  refine lv_aload_n hx hb dX4_rentYears_0 rfl (lv_at hl 0 rfl) ?_
  refine va_get (D := G.1) (ci := 4) (v := .int v_a0_slits) (C := RX4) (T := TX4) (N := 7) hx hb hts uX4_rentYears_4 hown hK.1 hP 0 rfl rfl 4 (by decide) (hts (.fieldLink RX4 24 "RingShadow$Shadow" "slits" "I") (List.mem_of_getElem? (i := 1) rfl)) (fun _ h9 => h9) rfl dX4_rentYears_1 ?_
  refine lv_if_ne (tgt := 9) hx hb dX4_rentYears_4 (by decide) (fun hc => ?_) (fun hc => ?_)
  · have h := rs_neg hc h
    refine lv_iconst (v := 0) hx hb dX4_rentYears_9 (by decide) ?_
    refine lv_iload_n hx hb dX4_rentYears_10 rfl (lv_at hl 3 rfl) ?_
    refine lv_bipush (v := 9) hx hb dX4_rentYears_11 (by decide) ?_
    refine lv_iload_n hx hb dX4_rentYears_13 rfl (lv_at hl 2 rfl) ?_
    refine lv_isub hx hb dX4_rentYears_14 ?_
    refine va_mmin hx hb (hml.trans hl.1.symm) hown (hts (.methodLink RX4 66 Lib.Math.min.name) (List.mem_of_getElem? (i := 2) rfl)) (hts (.static Lib.Math.min.name) (List.mem_of_getElem? (i := 3) rfl)) (hts (.initialized "java/lang/Math") (List.mem_of_getElem? (i := 4) rfl)) (hts (.code Lib.Math.min.name Lib.Math.min.code 2 (some .int)) (List.mem_of_getElem? (i := 5) rfl)) (Nat.le_of_ble_eq_true rfl) (Nat.le_of_ble_eq_true rfl) (Nat.zero_le _) (Nat.zero_le _) dX4_rentYears_15 ?_
    refine va_mmax hx hb (hml.trans hl.1.symm) hown (hts (.methodLink RX4 71 Lib.Math.max.name) (List.mem_of_getElem? (i := 6) rfl)) (hts (.static Lib.Math.max.name) (List.mem_of_getElem? (i := 7) rfl)) (hts (.initialized "java/lang/Math") (List.mem_of_getElem? (i := 4) rfl)) (hts (.code Lib.Math.max.name Lib.Math.max.code 2 (some .int)) (List.mem_of_getElem? (i := 8) rfl)) (Nat.le_of_ble_eq_true rfl) (Nat.le_of_ble_eq_true rfl) (Nat.zero_le _) (Nat.zero_le _) dX4_rentYears_18 ?_
    refine rs_topi h (fun x1 h => ?_)
    refine lv_istore (lv' := [(4, .int x1), (0, .ref A_a0), (1, .int p1), (2, .int p2), (3, .int p3)]) hx hb dX4_rentYears_21 hl (by decide) rfl (fun ls hl => ?_)
    refine lv_iload_n hx hb dX4_rentYears_23 rfl (lv_at hl 4 rfl) ?_
    refine lv_iload hx hb dX4_rentYears_24 (lv_at hl 0 rfl) ?_
    refine lv_isub hx hb dX4_rentYears_26 ?_
    refine rs_topi h (fun x2 h => ?_)
    refine lv_istore (lv' := [(5, .int x2), (4, .int x1), (0, .ref A_a0), (1, .int p1), (2, .int p2), (3, .int p3)]) hx hb dX4_rentYears_27 hl (by decide) rfl (fun ls hl => ?_)
    refine lv_iload_n hx hb dX4_rentYears_29 rfl (lv_at hl 4 rfl) ?_
    refine lv_iload hx hb dX4_rentYears_30 (lv_at hl 1 rfl) ?_
    refine lv_iadd hx hb dX4_rentYears_32 ?_
    refine rs_topi h (fun x3 h => ?_)
    refine lv_istore (lv' := [(6, .int x3), (5, .int x2), (4, .int x1), (0, .ref A_a0), (1, .int p1), (2, .int p2), (3, .int p3)]) hx hb dX4_rentYears_33 hl (by decide) rfl (fun ls hl => ?_)
    refine lv_aload_n hx hb dX4_rentYears_35 rfl (lv_at hl 3 rfl) ?_
    obtain ⟨x4, h5, h⟩ := rs_b1s h
    have h := h _ rfl
    refine rs_callVi (As := []) (rest := []) ⟨hx, hb, hml, hown, hts⟩ (c_X4_period l G A_a0 v_a0_lands v_a0_wide v_a0_pace v_a0_age v_a0_slits v_a0_slitA v_a0_slitB N x4 h5) (cwV 0 hts gX4_rentYears_X4_period rfl rfl rfl (by decide +kernel) ⟨Nat.le_of_ble_eq_true rfl, Nat.le_of_ble_eq_true rfl⟩) dX4_rentYears_36 hK hP hD hS hA [0] rfl (by decide) rfl rfl (q0 := 0) (ci := 4) rfl rfl rfl hl.1 (lv_room (Nat.le_of_ble_eq_true rfl)) ⟨Nat.zero_le _, Nat.zero_le _⟩ (fun (_ : Unit) => [(A_a0, .inr (4, [.int v_a0_lands, .int v_a0_wide, .int v_a0_pace, .int v_a0_age, .int v_a0_slits, .int v_a0_slitA, .int v_a0_slitB]))]) (fun _ => rfl) (fun _ => rfl) (fun u5 H locs hP hD hS => ?_)
    refine lv_istore (lv' := [(7, .int x4), (6, .int x3), (5, .int x2), (4, .int x1), (0, .ref A_a0), (1, .int p1), (2, .int p2), (3, .int p3)]) hx hb dX4_rentYears_39 hl (by decide) rfl (fun ls hl => ?_)
    refine lv_aload_n hx hb dX4_rentYears_41 rfl (lv_at hl 4 rfl) ?_
    refine lv_iload_n hx hb dX4_rentYears_42 rfl (lv_at hl 5 rfl) ?_
    refine lv_iload_n hx hb dX4_rentYears_43 rfl (lv_at hl 6 rfl) ?_
    refine lv_iload hx hb dX4_rentYears_44 (lv_at hl 3 rfl) ?_
    obtain ⟨x6, h7, h⟩ := rs_b1s h
    have h := h _ rfl
    refine rs_callVi (As := [.int p1, .int p2, .int x1]) (rest := []) ⟨hx, hb, hml, hown, hts⟩ (c_X4_nightsPaid l G A_a0 v_a0_lands v_a0_wide v_a0_pace v_a0_age v_a0_slits v_a0_slitA v_a0_slitB p1 p2 x1 N x6 h7) (cwV 3 hts gX4_rentYears_X4_nightsPaid rfl rfl rfl (by decide +kernel) ⟨Nat.le_of_ble_eq_true rfl, Nat.le_of_ble_eq_true rfl⟩) dX4_rentYears_46 hK hP hD hS hA [0] rfl (by decide) rfl rfl (q0 := 0) (ci := 4) rfl rfl rfl hl.1 (lv_room (Nat.le_of_ble_eq_true rfl)) ⟨Nat.zero_le _, Nat.zero_le _⟩ (fun (_ : Unit) => [(A_a0, .inr (4, [.int v_a0_lands, .int v_a0_wide, .int v_a0_pace, .int v_a0_age, .int v_a0_slits, .int v_a0_slitA, .int v_a0_slitB]))]) (fun _ => rfl) (fun _ => rfl) (fun u7 H locs hP hD hS => ?_)
    refine lv_aload_n hx hb dX4_rentYears_49 rfl (lv_at hl 4 rfl) ?_
    refine lv_iload_n hx hb dX4_rentYears_50 rfl (lv_at hl 5 rfl) ?_
    refine lv_iload hx hb dX4_rentYears_51 (lv_at hl 1 rfl) ?_
    refine lv_iload hx hb dX4_rentYears_53 (lv_at hl 2 rfl) ?_
    refine lv_iload hx hb dX4_rentYears_55 (lv_at hl 0 rfl) ?_
    obtain ⟨x8, h9, h⟩ := rs_b1s h
    have h := h _ rfl
    refine rs_callNi (As := [.int x2, .int x4]) (rest := [.int x3, .int p1, .ref A_a0, .int x6]) ⟨hx, hb, hml, hown, hts⟩ (c_X10_leftOver l G x2 x4 x8 h9) ⟨va_cnB 2 hts gX4_rentYears_X10_leftOver_n78 rfl rfl rfl (rs_nw22 hK.2.1) (hts (.initialized RX10) (List.mem_of_getElem? (i := 22) rfl)) (by decide +kernel) ⟨Nat.le_of_ble_eq_true rfl, Nat.le_of_ble_eq_true rfl⟩, (hts (.static yX10_leftOver) (List.mem_of_getElem? (i := 53) rfl)), trivial⟩ dX4_rentYears_57 hK hP hD hS hA [] rfl (by decide) rfl rfl hl.1 (lv_room (Nat.le_of_ble_eq_true rfl)) ⟨Nat.zero_le _, Nat.zero_le _⟩ (fun (_ : Unit) => [(A_a0, .inr (4, [.int v_a0_lands, .int v_a0_wide, .int v_a0_pace, .int v_a0_age, .int v_a0_slits, .int v_a0_slitA, .int v_a0_slitB]))]) (fun _ => rfl) (fun _ => rfl) (fun u9 H locs hP hD hS => ?_)
    obtain ⟨x10, h11, h⟩ := rs_b1s h
    have h := h _ rfl
    refine rs_callVi (As := [.int p1, .int x3, .int x8]) (rest := [.int x6]) ⟨hx, hb, hml, hown, hts⟩ (c_X4_nightsPaid l G A_a0 v_a0_lands v_a0_wide v_a0_pace v_a0_age v_a0_slits v_a0_slitA v_a0_slitB p1 x3 x8 N x10 h11) (cwV 3 hts gX4_rentYears_X4_nightsPaid rfl rfl rfl (by decide +kernel) ⟨Nat.le_of_ble_eq_true rfl, Nat.le_of_ble_eq_true rfl⟩) dX4_rentYears_60 hK hP hD hS hA [0] rfl (by decide) rfl rfl (q0 := 0) (ci := 4) rfl rfl rfl hl.1 (lv_room (Nat.le_of_ble_eq_true rfl)) ⟨Nat.zero_le _, Nat.zero_le _⟩ (fun (_ : Unit) => [(A_a0, .inr (4, [.int v_a0_lands, .int v_a0_wide, .int v_a0_pace, .int v_a0_age, .int v_a0_slits, .int v_a0_slitA, .int v_a0_slitB]))]) (fun _ => rfl) (fun _ => rfl) (fun u11 H locs hP hD hS => ?_)
    refine lv_iadd hx hb dX4_rentYears_63 ?_
    refine rs_topi h (fun x12 h => ?_)
    refine lv_istore (lv' := [(8, .int x12), (7, .int x4), (6, .int x3), (5, .int x2), (4, .int x1), (0, .ref A_a0), (1, .int p1), (2, .int p2), (3, .int p3)]) hx hb dX4_rentYears_64 hl (by decide) rfl (fun ls hl => ?_)
    refine lv_iload hx hb dX4_rentYears_66 (lv_at hl 3 rfl) ?_
    refine lv_iload hx hb dX4_rentYears_68 (lv_at hl 1 rfl) ?_
    refine lv_icmp_ge (tgt := 78) hx hb dX4_rentYears_70 (by decide) (fun hc => ?_) (fun hc => ?_)
    · have h := rs_pos hc h
      refine lv_iload hx hb dX4_rentYears_78 (lv_at hl 0 rfl) ?_
      refine lv_iload hx hb dX4_rentYears_80 (lv_at hl 3 rfl) ?_
      refine lv_iload hx hb dX4_rentYears_82 (lv_at hl 1 rfl) ?_
      obtain ⟨x13, h14, h⟩ := rs_b1s h
      have h := h _ rfl
      refine rs_callNi (As := [.int x2, .int x4]) (rest := [.int x12]) ⟨hx, hb, hml, hown, hts⟩ (c_X10_cut l G x2 x4 x13 h14) ⟨va_cnB 2 hts gX4_rentYears_X10_cut_n55 rfl rfl rfl (rs_nw9 hK.2.1) (hts (.initialized RX10) (List.mem_of_getElem? (i := 22) rfl)) (by decide +kernel) ⟨Nat.le_of_ble_eq_true rfl, Nat.le_of_ble_eq_true rfl⟩, (hts (.static yX10_cut) (List.mem_of_getElem? (i := 24) rfl)), trivial⟩ dX4_rentYears_84 hK hP hD hS hA [] rfl (by decide) rfl rfl hl.1 (lv_room (Nat.le_of_ble_eq_true rfl)) ⟨Nat.zero_le _, Nat.zero_le _⟩ (fun (_ : Unit) => [(A_a0, .inr (4, [.int v_a0_lands, .int v_a0_wide, .int v_a0_pace, .int v_a0_age, .int v_a0_slits, .int v_a0_slitA, .int v_a0_slitB]))]) (fun _ => rfl) (fun _ => rfl) (fun u14 H locs hP hD hS => ?_)
      refine lv_aload_n hx hb dX4_rentYears_87 rfl (lv_at hl 5 rfl) ?_
      refine lv_iload_n hx hb dX4_rentYears_88 rfl (lv_at hl 6 rfl) ?_
      refine lv_iload hx hb dX4_rentYears_89 (lv_at hl 2 rfl) ?_
      refine lv_iload hx hb dX4_rentYears_91 (lv_at hl 1 rfl) ?_
      obtain ⟨x15, h16, h⟩ := rs_b1s h
      have h := h _ rfl
      refine rs_callVi (As := [.int p1, .int x3, .int x4]) (rest := [.int x13, .int x12]) ⟨hx, hb, hml, hown, hts⟩ (c_X4_nightsPaid l G A_a0 v_a0_lands v_a0_wide v_a0_pace v_a0_age v_a0_slits v_a0_slitA v_a0_slitB p1 x3 x4 N x15 h16) (cwV 3 hts gX4_rentYears_X4_nightsPaid rfl rfl rfl (by decide +kernel) ⟨Nat.le_of_ble_eq_true rfl, Nat.le_of_ble_eq_true rfl⟩) dX4_rentYears_93 hK hP hD hS hA [0] rfl (by decide) rfl rfl (q0 := 0) (ci := 4) rfl rfl rfl hl.1 (lv_room (Nat.le_of_ble_eq_true rfl)) ⟨Nat.zero_le _, Nat.zero_le _⟩ (fun (_ : Unit) => [(A_a0, .inr (4, [.int v_a0_lands, .int v_a0_wide, .int v_a0_pace, .int v_a0_age, .int v_a0_slits, .int v_a0_slitA, .int v_a0_slitB]))]) (fun _ => rfl) (fun _ => rfl) (fun u16 H locs hP hD hS => ?_)
      refine lv_imul hx hb dX4_rentYears_96 ?_
      refine lv_iadd hx hb dX4_rentYears_97 ?_
      exact ret _ () _ _ _ _ h hP hS dX4_rentYears_98 rfl
    have h := rs_neg hc h
    refine lv_iload hx hb dX4_rentYears_73 (lv_at hl 0 rfl) ?_
    refine lv_goto (tgt := 98) hx hb dX4_rentYears_75 (by decide) ?_
    exact ret _ () _ _ _ _ h hP hS dX4_rentYears_98 rfl
  have h := rs_pos hc h
  refine lv_iconst (v := 0) hx hb dX4_rentYears_7 (by decide) ?_
  exact ret _ () _ _ _ _ h hP hS dX4_rentYears_8 rfl
abbrev rmX10_copy : Room := { frames := 0, cells := 0, slots := 0, locals := 0 }
set_option maxRecDepth 100000 in
set_option maxHeartbeats 4000000 in
theorem c_X10_copy (l : Launch) (G : rs_G) (A_a0 : Nat) (A_a1 : Nat) (v_a0 : (Nat → Int32)) (v_a1 : (Nat → Int32)) (n_a0 : Nat) (n_a1 : Nat) (N : Nat) (o0 : (Nat → Int32)) (h : f_X10_copy N n_a0 n_a1 v_a0 v_a1 = some o0) : rs_Cv l yX10_copy wsX10_copy rmX10_copy G [.ref A_a0, .ref A_a1] [(A_a0, .inl (G.2.1, n_a0, .inl v_a0)), (A_a1, .inl (G.2.1, n_a1, .inl v_a1))] (fun (_ : Unit) => [(A_a0, .inl (G.2.1, n_a0, .inl v_a0)), (A_a1, .inl (G.2.1, n_a1, .inl o0))]) := by
  refine rs_enter_v (cc := cX10_copy) (maxL := 3) (by decide) rfl (Nat.le_of_ble_eq_true rfl) (fun p e s m args below meth c A Q ls E ret hP hD hS hA hl => ?_)
  obtain ⟨hx, hb, hml, hown, hts, hK⟩ := E
  have hown : s.vm.findClass RX10 = some m.cls := hown
  have hl : lv_has ls 3 [(0, .ref A_a0), (1, .ref A_a1)] := hl
  have ret : ∀ (w0 : (Nat → Int32)) (u : Unit) (H : Heap) (locs : List Loc) (pc : Nat) (ls : Array Slot), some w0 = some o0 → va_P G.1 vwCl [(A_a0, .inl (G.2.1, n_a0, .inl v_a0)), (A_a1, .inl (G.2.1, n_a1, .inl w0))] H → va_S A s.heap H locs → decode cX10_copy pc = .ok (.return_, 1) → W p l e rmX10_copy s m args below meth c H locs 0 0 Q (F0 m pc ls []) := by
    intro w0 u H locs pc ls hz
    cases hz
    exact ret u H locs pc ls
  unfold f_X10_copy at h
  refine lv_iconst (v := 0) hx hb dX10_copy_0 (by decide) ?_
  refine lv_istore_n (lv' := [(2, .int 0), (0, .ref A_a0), (1, .ref A_a1)]) hx hb dX10_copy_1 rfl hl (by decide) rfl (fun ls hl => ?_)
  obtain ⟨X4, hX4, h⟩ := rs_b1s h
  have J4 : ∀ (f5 : (Nat → Int32)), X4 = f5 → ∀  (H : Heap) (locs : List Loc) (ls : Array Slot), va_P G.1 vwCl [(A_a0, .inl (G.2.1, n_a0, .inl v_a0)), (A_a1, .inl (G.2.1, n_a1, .inl f5))] H → va_D A [(A_a0, .inl (G.2.1, n_a0, .inl v_a0)), (A_a1, .inl (G.2.1, n_a1, .inl f5))] → va_S A s.heap H locs → lv_has ls 3 [] → W p l e rmX10_copy s m args below meth c H locs 0 0 Q (F0 m 26 ls []) := by
    intro f5 hz  H locs ls hP hD hS hl
    have h := h _ hz
    exact ret _ () _ _ _ _ h hP hS dX10_copy_26
  refine rs_l2W (Wd := fun (f2 : (Nat → Int32)) (x3 : Int32) => ∀  (H : Heap) (locs : List Loc) (ls : Array Slot), va_P G.1 vwCl [(A_a0, .inl (G.2.1, n_a0, .inl v_a0)), (A_a1, .inl (G.2.1, n_a1, .inl f2))] H → va_D A [(A_a0, .inl (G.2.1, n_a0, .inl v_a0)), (A_a1, .inl (G.2.1, n_a1, .inl f2))] → va_S A s.heap H locs → lv_has ls 3 [(0, .ref A_a0), (1, .ref A_a1), (2, .int x3)] → W p l e rmX10_copy s m args below meth c H locs 0 0 Q (F0 m 2 ls [])) ?_ N v_a1 0 hX4 _ _ _ hP hD hS (lv_sub hl [1, 2, 0] rfl)
  intro f2 x3 o4 h K4 L4  H locs ls hP hD hS hl
  unfold f_X10_copy_L2 at h
  refine lv_iload_n hx hb dX10_copy_2 rfl (lv_at hl 2 rfl) ?_
  refine lv_aload_n hx hb dX10_copy_3 rfl (lv_at hl 0 rfl) ?_
  refine va_alen (v := (Int32.ofNat n_a0)) hx hb hK.1 hP 0 0 rfl rfl rfl dX10_copy_4 ?_
  refine lv_icmp_ge (tgt := 26) hx hb dX10_copy_5 (by decide) (fun hc => ?_) (fun hc => ?_)
  · have h := rs_pos hc h
    exact J4 _ (L4 _ (Option.some.inj h).symm) _ _ _ hP hD hS (lv_sub hl [] rfl)
  have h := rs_neg hc h
  refine lv_iload_n hx hb dX10_copy_8 rfl (lv_at hl 2 rfl) ?_
  refine lv_aload_n hx hb dX10_copy_9 rfl (lv_at hl 1 rfl) ?_
  refine va_alen (v := (Int32.ofNat n_a1)) hx hb hK.1 hP 1 0 rfl rfl rfl dX10_copy_10 ?_
  refine lv_icmp_ge (tgt := 26) hx hb dX10_copy_11 (by decide) (fun hc => ?_) (fun hc => ?_)
  · have h := rs_pos hc h
    exact J4 _ (L4 _ (Option.some.inj h).symm) _ _ _ hP hD hS (lv_sub hl [] rfl)
  have h := rs_neg hc h
  refine lv_aload_n hx hb dX10_copy_14 rfl (lv_at hl 1 rfl) ?_
  refine lv_iload_n hx hb dX10_copy_15 rfl (lv_at hl 2 rfl) ?_
  refine lv_aload_n hx hb dX10_copy_16 rfl (lv_at hl 0 rfl) ?_
  refine lv_iload_n hx hb dX10_copy_17 rfl (lv_at hl 2 rfl) ?_
  obtain ⟨hg, h⟩ := rs_gd h
  refine va_iald hx hb hK.1 hP 0 0 rfl rfl hg dX10_copy_18 ?_
  obtain ⟨hg, h⟩ := rs_gd h
  refine va_iast hx hb hK.1 hP hD hS 1 0 rfl rfl hg dX10_copy_19 (fun H locs hP hD hS => ?_)
  have hP : va_P G.1 vwCl [(A_a0, .inl (G.2.1, n_a0, .inl v_a0)), (A_a1, .inl (G.2.1, n_a1, .inl (upd f2 x3.toNatClampNeg (v_a0 x3.toNatClampNeg))))] H := hP
  have hD : va_D A [(A_a0, .inl (G.2.1, n_a0, .inl v_a0)), (A_a1, .inl (G.2.1, n_a1, .inl (upd f2 x3.toNatClampNeg (v_a0 x3.toNatClampNeg))))] := hD
  refine lv_iinc (v := (x3 + 1)) (lv' := [(2, .int (x3 + 1)), (0, .ref A_a0), (1, .ref A_a1)]) hx hb dX10_copy_20 hl (k := 2) rfl (by first | rfl | decide) (by decide) rfl (fun ls hl => ?_)
  refine lv_goto (tgt := 2) hx hb dX10_copy_23 (by decide) ?_
  exact K4 _ _ (Option.some.inj h).symm _ _ _ hP hD hS (lv_sub hl [1, 2, 0] rfl)
theorem uX5_takeFrom_5 : ∀ w ∈ wsX50, w ∈ wsX5_takeFrom := fun _ h => List.mem_cons_of_mem _ (List.mem_append_right _ h)
abbrev rmX5_takeFrom : Room := { frames := 1, cells := 0, slots := 0, locals := 22 }
set_option maxRecDepth 100000 in
set_option maxHeartbeats 4000000 in
theorem c_X5_takeFrom (l : Launch) (G : rs_G) (A_a0 : Nat) (A_a1 : Nat) (A_a0_lands : Nat) (A_a0_years : Nat) (A_a0_covers : Nat) (A_a1_lands : Nat) (A_a1_years : Nat) (A_a1_covers : Nat) (v_a0_count : Int32) (v_a1_count : Int32) (v_a1_lands : (Nat → Int32)) (v_a0_lands : (Nat → Int32)) (v_a1_years : (Nat → Int32)) (v_a0_years : (Nat → Int32)) (v_a1_covers : (Nat → Int32)) (v_a0_covers : (Nat → Int32)) (N : Nat) (o0 : Int32) (o1 : (Nat → Int32)) (o2 : (Nat → Int32)) (o3 : (Nat → Int32)) (h : f_X5_takeFrom N v_a1_count v_a1_lands v_a0_lands v_a1_years v_a0_years v_a1_covers v_a0_covers = some (o0, o1, o2, o3)) : rs_Cv l yX5_takeFrom wsX5_takeFrom rmX5_takeFrom G [.ref A_a0, .ref A_a1] [(A_a0, .inr (5, [.ref A_a0_lands, .ref A_a0_years, .ref A_a0_covers, .int v_a0_count])), (A_a1, .inr (5, [.ref A_a1_lands, .ref A_a1_years, .ref A_a1_covers, .int v_a1_count])), (A_a1_lands, .inl (G.2.1, 8, .inl v_a1_lands)), (A_a0_lands, .inl (G.2.1, 8, .inl v_a0_lands)), (A_a1_years, .inl (G.2.1, 8, .inl v_a1_years)), (A_a0_years, .inl (G.2.1, 8, .inl v_a0_years)), (A_a1_covers, .inl (G.2.1, 8, .inl v_a1_covers)), (A_a0_covers, .inl (G.2.1, 8, .inl v_a0_covers))] (fun (_ : Unit) => [(A_a0, .inr (5, [.ref A_a0_lands, .ref A_a0_years, .ref A_a0_covers, .int o0])), (A_a1, .inr (5, [.ref A_a1_lands, .ref A_a1_years, .ref A_a1_covers, .int v_a1_count])), (A_a1_lands, .inl (G.2.1, 8, .inl v_a1_lands)), (A_a0_lands, .inl (G.2.1, 8, .inl o1)), (A_a1_years, .inl (G.2.1, 8, .inl v_a1_years)), (A_a0_years, .inl (G.2.1, 8, .inl o2)), (A_a1_covers, .inl (G.2.1, 8, .inl v_a1_covers)), (A_a0_covers, .inl (G.2.1, 8, .inl o3))]) := by
  refine rs_enter_v (cc := cX5_takeFrom) (maxL := 2) (by decide) rfl (Nat.le_of_ble_eq_true rfl) (fun p e s m args below meth c A Q ls E ret hP hD hS hA hl => ?_)
  obtain ⟨hx, hb, hml, hown, hts, hK⟩ := E
  have hown : s.vm.findClass RX5 = some m.cls := hown
  have hl : lv_has ls 2 [(0, .ref A_a0), (1, .ref A_a1)] := hl
  have ret : ∀ (w0 : Int32) (w1 : (Nat → Int32)) (w2 : (Nat → Int32)) (w3 : (Nat → Int32)) (u : Unit) (H : Heap) (locs : List Loc) (pc : Nat) (ls : Array Slot), some (w0, w1, w2, w3) = some (o0, o1, o2, o3) → va_P G.1 vwCl [(A_a0, .inr (5, [.ref A_a0_lands, .ref A_a0_years, .ref A_a0_covers, .int w0])), (A_a1, .inr (5, [.ref A_a1_lands, .ref A_a1_years, .ref A_a1_covers, .int v_a1_count])), (A_a1_lands, .inl (G.2.1, 8, .inl v_a1_lands)), (A_a0_lands, .inl (G.2.1, 8, .inl w1)), (A_a1_years, .inl (G.2.1, 8, .inl v_a1_years)), (A_a0_years, .inl (G.2.1, 8, .inl w2)), (A_a1_covers, .inl (G.2.1, 8, .inl v_a1_covers)), (A_a0_covers, .inl (G.2.1, 8, .inl w3))] H → va_S A s.heap H locs → decode cX5_takeFrom pc = .ok (.return_, 1) → W p l e rmX5_takeFrom s m args below meth c H locs 0 0 Q (F0 m pc ls []) := by
    intro w0 w1 w2 w3 u H locs pc ls hz
    cases hz
    exact ret u H locs pc ls
  unfold f_X5_takeFrom at h
  refine lv_aload_n hx hb dX5_takeFrom_0 rfl (lv_at hl 1 rfl) ?_
  refine va_get (D := G.1) (ci := 5) (v := .ref A_a1_lands) (C := RX5) (T := TX5) (N := 4) hx hb hts uX5_takeFrom_5 hown hK.1 hP 1 rfl rfl 0 (by decide) (hts (.fieldLink RX5 9 "RingShadow$Sights" "lands" "[I") (List.mem_of_getElem? (i := 1) rfl)) (fun _ h9 => h9) rfl dX5_takeFrom_1 ?_
  refine lv_aload_n hx hb dX5_takeFrom_4 rfl (lv_at hl 0 rfl) ?_
  refine va_get (D := G.1) (ci := 5) (v := .ref A_a0_lands) (C := RX5) (T := TX5) (N := 4) hx hb hts uX5_takeFrom_5 hown hK.1 hP 0 rfl rfl 0 (by decide) (hts (.fieldLink RX5 9 "RingShadow$Sights" "lands" "[I") (List.mem_of_getElem? (i := 1) rfl)) (fun _ h9 => h9) rfl dX5_takeFrom_5 ?_
  obtain ⟨f1, h2, h⟩ := rs_b1s h
  have h := h _ rfl
  refine rs_callNv (As := [.ref A_a1_lands, .ref A_a0_lands]) (rest := []) ⟨hx, hb, hml, hown, hts⟩ (c_X10_copy l G A_a1_lands A_a0_lands v_a1_lands v_a0_lands 8 8 N f1 h2) ⟨va_cnB 2 hts gX5_takeFrom_X10_copy_n21 rfl rfl rfl (rs_nw24 hK.2.1) (hts (.initialized RX10) (List.mem_of_getElem? (i := 6) rfl)) (by decide +kernel) ⟨Nat.le_of_ble_eq_true rfl, Nat.le_of_ble_eq_true rfl⟩, (hts (.static yX10_copy) (List.mem_of_getElem? (i := 5) rfl)), trivial⟩ dX5_takeFrom_8 hK hP hD hS hA [2, 3] rfl (by decide) rfl rfl hl.1 (lv_room (Nat.le_of_ble_eq_true rfl)) ⟨Nat.zero_le _, Nat.zero_le _⟩ (fun (_ : Unit) => [(A_a0, .inr (5, [.ref A_a0_lands, .ref A_a0_years, .ref A_a0_covers, .int v_a0_count])), (A_a1, .inr (5, [.ref A_a1_lands, .ref A_a1_years, .ref A_a1_covers, .int v_a1_count])), (A_a1_lands, .inl (G.2.1, 8, .inl v_a1_lands)), (A_a0_lands, .inl (G.2.1, 8, .inl f1)), (A_a1_years, .inl (G.2.1, 8, .inl v_a1_years)), (A_a0_years, .inl (G.2.1, 8, .inl v_a0_years)), (A_a1_covers, .inl (G.2.1, 8, .inl v_a1_covers)), (A_a0_covers, .inl (G.2.1, 8, .inl v_a0_covers))]) (fun _ => rfl) (fun _ => rfl) (fun u2 H locs hP hD hS => ?_)
  refine lv_aload_n hx hb dX5_takeFrom_11 rfl (lv_at hl 1 rfl) ?_
  refine va_get (D := G.1) (ci := 5) (v := .ref A_a1_years) (C := RX5) (T := TX5) (N := 4) hx hb hts uX5_takeFrom_5 hown hK.1 hP 1 rfl rfl 1 (by decide) (hts (.fieldLink RX5 15 "RingShadow$Sights" "years" "[I") (List.mem_of_getElem? (i := 2) rfl)) (fun _ h9 => h9) rfl dX5_takeFrom_12 ?_
  refine lv_aload_n hx hb dX5_takeFrom_15 rfl (lv_at hl 0 rfl) ?_
  refine va_get (D := G.1) (ci := 5) (v := .ref A_a0_years) (C := RX5) (T := TX5) (N := 4) hx hb hts uX5_takeFrom_5 hown hK.1 hP 0 rfl rfl 1 (by decide) (hts (.fieldLink RX5 15 "RingShadow$Sights" "years" "[I") (List.mem_of_getElem? (i := 2) rfl)) (fun _ h9 => h9) rfl dX5_takeFrom_16 ?_
  obtain ⟨f3, h4, h⟩ := rs_b1s h
  have h := h _ rfl
  refine rs_callNv (As := [.ref A_a1_years, .ref A_a0_years]) (rest := []) ⟨hx, hb, hml, hown, hts⟩ (c_X10_copy l G A_a1_years A_a0_years v_a1_years v_a0_years 8 8 N f3 h4) ⟨va_cnB 2 hts gX5_takeFrom_X10_copy_n21 rfl rfl rfl (rs_nw24 hK.2.1) (hts (.initialized RX10) (List.mem_of_getElem? (i := 6) rfl)) (by decide +kernel) ⟨Nat.le_of_ble_eq_true rfl, Nat.le_of_ble_eq_true rfl⟩, (hts (.static yX10_copy) (List.mem_of_getElem? (i := 5) rfl)), trivial⟩ dX5_takeFrom_19 hK hP hD hS hA [4, 5] rfl (by decide) rfl rfl hl.1 (lv_room (Nat.le_of_ble_eq_true rfl)) ⟨Nat.zero_le _, Nat.zero_le _⟩ (fun (_ : Unit) => [(A_a0, .inr (5, [.ref A_a0_lands, .ref A_a0_years, .ref A_a0_covers, .int v_a0_count])), (A_a1, .inr (5, [.ref A_a1_lands, .ref A_a1_years, .ref A_a1_covers, .int v_a1_count])), (A_a1_lands, .inl (G.2.1, 8, .inl v_a1_lands)), (A_a0_lands, .inl (G.2.1, 8, .inl f1)), (A_a1_years, .inl (G.2.1, 8, .inl v_a1_years)), (A_a0_years, .inl (G.2.1, 8, .inl f3)), (A_a1_covers, .inl (G.2.1, 8, .inl v_a1_covers)), (A_a0_covers, .inl (G.2.1, 8, .inl v_a0_covers))]) (fun _ => rfl) (fun _ => rfl) (fun u4 H locs hP hD hS => ?_)
  refine lv_aload_n hx hb dX5_takeFrom_22 rfl (lv_at hl 1 rfl) ?_
  refine va_get (D := G.1) (ci := 5) (v := .ref A_a1_covers) (C := RX5) (T := TX5) (N := 4) hx hb hts uX5_takeFrom_5 hown hK.1 hP 1 rfl rfl 2 (by decide) (hts (.fieldLink RX5 18 "RingShadow$Sights" "covers" "[I") (List.mem_of_getElem? (i := 3) rfl)) (fun _ h9 => h9) rfl dX5_takeFrom_23 ?_
  refine lv_aload_n hx hb dX5_takeFrom_26 rfl (lv_at hl 0 rfl) ?_
  refine va_get (D := G.1) (ci := 5) (v := .ref A_a0_covers) (C := RX5) (T := TX5) (N := 4) hx hb hts uX5_takeFrom_5 hown hK.1 hP 0 rfl rfl 2 (by decide) (hts (.fieldLink RX5 18 "RingShadow$Sights" "covers" "[I") (List.mem_of_getElem? (i := 3) rfl)) (fun _ h9 => h9) rfl dX5_takeFrom_27 ?_
  obtain ⟨f5, h6, h⟩ := rs_b1s h
  have h := h _ rfl
  refine rs_callNv (As := [.ref A_a1_covers, .ref A_a0_covers]) (rest := []) ⟨hx, hb, hml, hown, hts⟩ (c_X10_copy l G A_a1_covers A_a0_covers v_a1_covers v_a0_covers 8 8 N f5 h6) ⟨va_cnB 2 hts gX5_takeFrom_X10_copy_n21 rfl rfl rfl (rs_nw24 hK.2.1) (hts (.initialized RX10) (List.mem_of_getElem? (i := 6) rfl)) (by decide +kernel) ⟨Nat.le_of_ble_eq_true rfl, Nat.le_of_ble_eq_true rfl⟩, (hts (.static yX10_copy) (List.mem_of_getElem? (i := 5) rfl)), trivial⟩ dX5_takeFrom_30 hK hP hD hS hA [6, 7] rfl (by decide) rfl rfl hl.1 (lv_room (Nat.le_of_ble_eq_true rfl)) ⟨Nat.zero_le _, Nat.zero_le _⟩ (fun (_ : Unit) => [(A_a0, .inr (5, [.ref A_a0_lands, .ref A_a0_years, .ref A_a0_covers, .int v_a0_count])), (A_a1, .inr (5, [.ref A_a1_lands, .ref A_a1_years, .ref A_a1_covers, .int v_a1_count])), (A_a1_lands, .inl (G.2.1, 8, .inl v_a1_lands)), (A_a0_lands, .inl (G.2.1, 8, .inl f1)), (A_a1_years, .inl (G.2.1, 8, .inl v_a1_years)), (A_a0_years, .inl (G.2.1, 8, .inl f3)), (A_a1_covers, .inl (G.2.1, 8, .inl v_a1_covers)), (A_a0_covers, .inl (G.2.1, 8, .inl f5))]) (fun _ => rfl) (fun _ => rfl) (fun u6 H locs hP hD hS => ?_)
  refine lv_aload_n hx hb dX5_takeFrom_33 rfl (lv_at hl 0 rfl) ?_
  refine lv_aload_n hx hb dX5_takeFrom_34 rfl (lv_at hl 1 rfl) ?_
  refine va_get (D := G.1) (ci := 5) (v := .int v_a1_count) (C := RX5) (T := TX5) (N := 4) hx hb hts uX5_takeFrom_5 hown hK.1 hP 1 rfl rfl 3 (by decide) (hts (.fieldLink RX5 25 "RingShadow$Sights" "count" "I") (List.mem_of_getElem? (i := 4) rfl)) (fun _ h9 => h9) rfl dX5_takeFrom_35 ?_
  refine va_put (D := G.1) (ci := 5) (v := .int v_a1_count) (ty := .int) (C := RX5) (T := TX5) (N := 4) hx hb hts uX5_takeFrom_5 tyX5 tyX5_ok nmX5 hown hK.1 hP hD hS 0 rfl rfl 3 (by decide) (hts (.fieldLink RX5 25 "RingShadow$Sights" "count" "I") (List.mem_of_getElem? (i := 4) rfl)) (fun _ h9 => h9) rfl (by decide +kernel) rfl rfl (Nat.le_of_ble_eq_true rfl) dX5_takeFrom_38 (fun H locs hP hD hS => ?_)
  have hP : va_P G.1 vwCl [(A_a0, .inr (5, [.ref A_a0_lands, .ref A_a0_years, .ref A_a0_covers, .int v_a1_count])), (A_a1, .inr (5, [.ref A_a1_lands, .ref A_a1_years, .ref A_a1_covers, .int v_a1_count])), (A_a1_lands, .inl (G.2.1, 8, .inl v_a1_lands)), (A_a0_lands, .inl (G.2.1, 8, .inl f1)), (A_a1_years, .inl (G.2.1, 8, .inl v_a1_years)), (A_a0_years, .inl (G.2.1, 8, .inl f3)), (A_a1_covers, .inl (G.2.1, 8, .inl v_a1_covers)), (A_a0_covers, .inl (G.2.1, 8, .inl f5))] H := hP
  have hD : va_D A [(A_a0, .inr (5, [.ref A_a0_lands, .ref A_a0_years, .ref A_a0_covers, .int v_a1_count])), (A_a1, .inr (5, [.ref A_a1_lands, .ref A_a1_years, .ref A_a1_covers, .int v_a1_count])), (A_a1_lands, .inl (G.2.1, 8, .inl v_a1_lands)), (A_a0_lands, .inl (G.2.1, 8, .inl f1)), (A_a1_years, .inl (G.2.1, 8, .inl v_a1_years)), (A_a0_years, .inl (G.2.1, 8, .inl f3)), (A_a1_covers, .inl (G.2.1, 8, .inl v_a1_covers)), (A_a0_covers, .inl (G.2.1, 8, .inl f5))] := hD
  exact ret _ _ _ _ () _ _ _ _ h hP hS dX5_takeFrom_41
theorem uX5_add_5 : ∀ w ∈ wsX50, w ∈ wsX5_add := fun _ h => List.mem_cons_of_mem _ (List.mem_append_right _ h)
abbrev rmX5_add : Room := { frames := 1, cells := 0, slots := 0, locals := 22 }
set_option maxRecDepth 100000 in
set_option maxHeartbeats 4000000 in
theorem c_X5_add (l : Launch) (G : rs_G) (A_a0 : Nat) (A_a0_lands : Nat) (A_a0_years : Nat) (A_a0_covers : Nat) (v_a0_count : Int32) (v_a0_lands : (Nat → Int32)) (v_a0_years : (Nat → Int32)) (v_a0_covers : (Nat → Int32)) (p1 : Int32) (p2 : Int32) (p3 : Int32) (r0 : Int32) (o0 : Int32) (o1 : (Nat → Int32)) (o2 : (Nat → Int32)) (o3 : (Nat → Int32)) (h : f_X5_add p1 p2 p3 v_a0_count v_a0_lands v_a0_years v_a0_covers = some (r0, o0, o1, o2, o3)) : rs_Ci l yX5_add wsX5_add rmX5_add G [.ref A_a0, .int p1, .int p2, .int p3] [(A_a0, .inr (5, [.ref A_a0_lands, .ref A_a0_years, .ref A_a0_covers, .int v_a0_count])), (A_a0_lands, .inl (G.2.1, 8, .inl v_a0_lands)), (A_a0_years, .inl (G.2.1, 8, .inl v_a0_years)), (A_a0_covers, .inl (G.2.1, 8, .inl v_a0_covers))] (fun (_ : Unit) => [(A_a0, .inr (5, [.ref A_a0_lands, .ref A_a0_years, .ref A_a0_covers, .int o0])), (A_a0_lands, .inl (G.2.1, 8, .inl o1)), (A_a0_years, .inl (G.2.1, 8, .inl o2)), (A_a0_covers, .inl (G.2.1, 8, .inl o3))]) r0 := by
  refine rs_enter_i (cc := cX5_add) (maxL := 4) (ty := .boolean) (by decide) rfl (Nat.le_of_ble_eq_true rfl) (fun p e s m args below meth c A Q ls E ret hP hD hS hA hl => ?_)
  obtain ⟨hx, hb, hml, hown, hts, hK⟩ := E
  have hown : s.vm.findClass RX5 = some m.cls := hown
  have hl : lv_has ls 4 [(0, .ref A_a0), (1, .int p1), (2, .int p2), (3, .int p3)] := hl
  have ret : ∀ (v0 : Int32) (w0 : Int32) (w1 : (Nat → Int32)) (w2 : (Nat → Int32)) (w3 : (Nat → Int32)) (u : Unit) (H : Heap) (locs : List Loc) (pc : Nat) (ls : Array Slot), some (v0, w0, w1, w2, w3) = some (r0, o0, o1, o2, o3) → va_P G.1 vwCl [(A_a0, .inr (5, [.ref A_a0_lands, .ref A_a0_years, .ref A_a0_covers, .int w0])), (A_a0_lands, .inl (G.2.1, 8, .inl w1)), (A_a0_years, .inl (G.2.1, 8, .inl w2)), (A_a0_covers, .inl (G.2.1, 8, .inl w3))] H → va_S A s.heap H locs → decode cX5_add pc = .ok (.ireturn, 1) → narrow .boolean (.int v0) = .int v0 → W p l e rmX5_add s m args below meth c H locs 0 0 Q (F0 m pc ls [.int v0]) := by
    intro v0 w0 w1 w2 w3 u H locs pc ls hz
    cases hz
    exact ret u H locs pc ls
  unfold f_X5_add at h
  refine lv_aload_n hx hb dX5_add_0 rfl (lv_at hl 0 rfl) ?_
  refine va_get (D := G.1) (ci := 5) (v := .int v_a0_count) (C := RX5) (T := TX5) (N := 4) hx hb hts uX5_add_5 hown hK.1 hP 0 rfl rfl 3 (by decide) (hts (.fieldLink RX5 25 "RingShadow$Sights" "count" "I") (List.mem_of_getElem? (i := 1) rfl)) (fun _ h9 => h9) rfl dX5_add_1 ?_
  refine lv_bipush (v := 8) hx hb dX5_add_4 (by decide) ?_
  refine lv_icmp_lt (tgt := 11) hx hb dX5_add_6 (by decide) (fun hc => ?_) (fun hc => ?_)
  · have h := rs_pos hc h
    refine lv_aload_n hx hb dX5_add_11 rfl (lv_at hl 0 rfl) ?_
    refine va_get (D := G.1) (ci := 5) (v := .ref A_a0_lands) (C := RX5) (T := TX5) (N := 4) hx hb hts uX5_add_5 hown hK.1 hP 0 rfl rfl 0 (by decide) (hts (.fieldLink RX5 9 "RingShadow$Sights" "lands" "[I") (List.mem_of_getElem? (i := 2) rfl)) (fun _ h9 => h9) rfl dX5_add_12 ?_
    refine lv_aload_n hx hb dX5_add_15 rfl (lv_at hl 0 rfl) ?_
    refine va_get (D := G.1) (ci := 5) (v := .int v_a0_count) (C := RX5) (T := TX5) (N := 4) hx hb hts uX5_add_5 hown hK.1 hP 0 rfl rfl 3 (by decide) (hts (.fieldLink RX5 25 "RingShadow$Sights" "count" "I") (List.mem_of_getElem? (i := 1) rfl)) (fun _ h9 => h9) rfl dX5_add_16 ?_
    refine lv_iload_n hx hb dX5_add_19 rfl (lv_at hl 1 rfl) ?_
    obtain ⟨f1, h2, h⟩ := rs_b1s h
    have h := h _ rfl
    refine rs_callNv (As := [.ref A_a0_lands, .int v_a0_count, .int p1]) (rest := []) ⟨hx, hb, hml, hown, hts⟩ (c_X10_put l G A_a0_lands v_a0_lands 8 v_a0_count p1 f1 h2) ⟨va_cnB 3 hts gX5_add_X10_put_n29 rfl rfl rfl (rs_nw15 hK.2.1) (hts (.initialized RX10) (List.mem_of_getElem? (i := 6) rfl)) (by decide +kernel) ⟨Nat.le_of_ble_eq_true rfl, Nat.le_of_ble_eq_true rfl⟩, (hts (.static yX10_put) (List.mem_of_getElem? (i := 5) rfl)), trivial⟩ dX5_add_20 hK hP hD hS hA [1] rfl (by decide) rfl rfl hl.1 (lv_room (Nat.le_of_ble_eq_true rfl)) ⟨Nat.zero_le _, Nat.zero_le _⟩ (fun (_ : Unit) => [(A_a0, .inr (5, [.ref A_a0_lands, .ref A_a0_years, .ref A_a0_covers, .int v_a0_count])), (A_a0_lands, .inl (G.2.1, 8, .inl f1)), (A_a0_years, .inl (G.2.1, 8, .inl v_a0_years)), (A_a0_covers, .inl (G.2.1, 8, .inl v_a0_covers))]) (fun _ => rfl) (fun _ => rfl) (fun u2 H locs hP hD hS => ?_)
    refine lv_aload_n hx hb dX5_add_23 rfl (lv_at hl 0 rfl) ?_
    refine va_get (D := G.1) (ci := 5) (v := .ref A_a0_years) (C := RX5) (T := TX5) (N := 4) hx hb hts uX5_add_5 hown hK.1 hP 0 rfl rfl 1 (by decide) (hts (.fieldLink RX5 15 "RingShadow$Sights" "years" "[I") (List.mem_of_getElem? (i := 3) rfl)) (fun _ h9 => h9) rfl dX5_add_24 ?_
    refine lv_aload_n hx hb dX5_add_27 rfl (lv_at hl 0 rfl) ?_
    refine va_get (D := G.1) (ci := 5) (v := .int v_a0_count) (C := RX5) (T := TX5) (N := 4) hx hb hts uX5_add_5 hown hK.1 hP 0 rfl rfl 3 (by decide) (hts (.fieldLink RX5 25 "RingShadow$Sights" "count" "I") (List.mem_of_getElem? (i := 1) rfl)) (fun _ h9 => h9) rfl dX5_add_28 ?_
    refine lv_iload_n hx hb dX5_add_31 rfl (lv_at hl 2 rfl) ?_
    obtain ⟨f3, h4, h⟩ := rs_b1s h
    have h := h _ rfl
    refine rs_callNv (As := [.ref A_a0_years, .int v_a0_count, .int p2]) (rest := []) ⟨hx, hb, hml, hown, hts⟩ (c_X10_put l G A_a0_years v_a0_years 8 v_a0_count p2 f3 h4) ⟨va_cnB 3 hts gX5_add_X10_put_n29 rfl rfl rfl (rs_nw15 hK.2.1) (hts (.initialized RX10) (List.mem_of_getElem? (i := 6) rfl)) (by decide +kernel) ⟨Nat.le_of_ble_eq_true rfl, Nat.le_of_ble_eq_true rfl⟩, (hts (.static yX10_put) (List.mem_of_getElem? (i := 5) rfl)), trivial⟩ dX5_add_32 hK hP hD hS hA [2] rfl (by decide) rfl rfl hl.1 (lv_room (Nat.le_of_ble_eq_true rfl)) ⟨Nat.zero_le _, Nat.zero_le _⟩ (fun (_ : Unit) => [(A_a0, .inr (5, [.ref A_a0_lands, .ref A_a0_years, .ref A_a0_covers, .int v_a0_count])), (A_a0_lands, .inl (G.2.1, 8, .inl f1)), (A_a0_years, .inl (G.2.1, 8, .inl f3)), (A_a0_covers, .inl (G.2.1, 8, .inl v_a0_covers))]) (fun _ => rfl) (fun _ => rfl) (fun u4 H locs hP hD hS => ?_)
    refine lv_aload_n hx hb dX5_add_35 rfl (lv_at hl 0 rfl) ?_
    refine va_get (D := G.1) (ci := 5) (v := .ref A_a0_covers) (C := RX5) (T := TX5) (N := 4) hx hb hts uX5_add_5 hown hK.1 hP 0 rfl rfl 2 (by decide) (hts (.fieldLink RX5 18 "RingShadow$Sights" "covers" "[I") (List.mem_of_getElem? (i := 4) rfl)) (fun _ h9 => h9) rfl dX5_add_36 ?_
    refine lv_aload_n hx hb dX5_add_39 rfl (lv_at hl 0 rfl) ?_
    refine va_get (D := G.1) (ci := 5) (v := .int v_a0_count) (C := RX5) (T := TX5) (N := 4) hx hb hts uX5_add_5 hown hK.1 hP 0 rfl rfl 3 (by decide) (hts (.fieldLink RX5 25 "RingShadow$Sights" "count" "I") (List.mem_of_getElem? (i := 1) rfl)) (fun _ h9 => h9) rfl dX5_add_40 ?_
    refine lv_iload_n hx hb dX5_add_43 rfl (lv_at hl 3 rfl) ?_
    obtain ⟨X6, hX6, h⟩ := rs_b1s h
    have J6 : ∀ (x5 : Int32), X6 = x5 → ∀ (H : Heap) (locs : List Loc) (ls : Array Slot), va_P G.1 vwCl [(A_a0, .inr (5, [.ref A_a0_lands, .ref A_a0_years, .ref A_a0_covers, .int v_a0_count])), (A_a0_lands, .inl (G.2.1, 8, .inl f1)), (A_a0_years, .inl (G.2.1, 8, .inl f3)), (A_a0_covers, .inl (G.2.1, 8, .inl v_a0_covers))] H → va_D A [(A_a0, .inr (5, [.ref A_a0_lands, .ref A_a0_years, .ref A_a0_covers, .int v_a0_count])), (A_a0_lands, .inl (G.2.1, 8, .inl f1)), (A_a0_years, .inl (G.2.1, 8, .inl f3)), (A_a0_covers, .inl (G.2.1, 8, .inl v_a0_covers))] → va_S A s.heap H locs → lv_has ls 4 [(0, .ref A_a0)] → W p l e rmX5_add s m args below meth c H locs 0 0 Q (F0 m 52 ls [.int x5, .int v_a0_count, .ref A_a0_covers]) := by
      intro x5 hz H locs ls hP hD hS hl
      have h := h _ hz
      obtain ⟨f7, h8, h⟩ := rs_b1s h
      have h := h _ rfl
      refine rs_callNv (As := [.ref A_a0_covers, .int v_a0_count, .int x5]) (rest := []) ⟨hx, hb, hml, hown, hts⟩ (c_X10_put l G A_a0_covers v_a0_covers 8 v_a0_count x5 f7 h8) ⟨va_cnB 3 hts gX5_add_X10_put_n29 rfl rfl rfl (rs_nw15 hK.2.1) (hts (.initialized RX10) (List.mem_of_getElem? (i := 6) rfl)) (by decide +kernel) ⟨Nat.le_of_ble_eq_true rfl, Nat.le_of_ble_eq_true rfl⟩, (hts (.static yX10_put) (List.mem_of_getElem? (i := 5) rfl)), trivial⟩ dX5_add_52 hK hP hD hS hA [3] rfl (by decide) rfl rfl hl.1 (lv_room (Nat.le_of_ble_eq_true rfl)) ⟨Nat.zero_le _, Nat.zero_le _⟩ (fun (_ : Unit) => [(A_a0, .inr (5, [.ref A_a0_lands, .ref A_a0_years, .ref A_a0_covers, .int v_a0_count])), (A_a0_lands, .inl (G.2.1, 8, .inl f1)), (A_a0_years, .inl (G.2.1, 8, .inl f3)), (A_a0_covers, .inl (G.2.1, 8, .inl f7))]) (fun _ => rfl) (fun _ => rfl) (fun u8 H locs hP hD hS => ?_)
      refine lv_aload_n hx hb dX5_add_55 rfl (lv_at hl 0 rfl) ?_
      refine lv_dup hx hb dX5_add_56 rfl ?_
      refine va_get (D := G.1) (ci := 5) (v := .int v_a0_count) (C := RX5) (T := TX5) (N := 4) hx hb hts uX5_add_5 hown hK.1 hP 0 rfl rfl 3 (by decide) (hts (.fieldLink RX5 25 "RingShadow$Sights" "count" "I") (List.mem_of_getElem? (i := 1) rfl)) (fun _ h9 => h9) rfl dX5_add_57 ?_
      refine lv_iconst (v := 1) hx hb dX5_add_60 (by decide) ?_
      refine lv_iadd hx hb dX5_add_61 ?_
      refine rs_topi h (fun x9 h => ?_)
      refine va_put (D := G.1) (ci := 5) (v := .int x9) (ty := .int) (C := RX5) (T := TX5) (N := 4) hx hb hts uX5_add_5 tyX5 tyX5_ok nmX5 hown hK.1 hP hD hS 0 rfl rfl 3 (by decide) (hts (.fieldLink RX5 25 "RingShadow$Sights" "count" "I") (List.mem_of_getElem? (i := 1) rfl)) (fun _ h9 => h9) rfl (by decide +kernel) rfl rfl (Nat.le_of_ble_eq_true rfl) dX5_add_62 (fun H locs hP hD hS => ?_)
      have hP : va_P G.1 vwCl [(A_a0, .inr (5, [.ref A_a0_lands, .ref A_a0_years, .ref A_a0_covers, .int x9])), (A_a0_lands, .inl (G.2.1, 8, .inl f1)), (A_a0_years, .inl (G.2.1, 8, .inl f3)), (A_a0_covers, .inl (G.2.1, 8, .inl f7))] H := hP
      have hD : va_D A [(A_a0, .inr (5, [.ref A_a0_lands, .ref A_a0_years, .ref A_a0_covers, .int x9])), (A_a0_lands, .inl (G.2.1, 8, .inl f1)), (A_a0_years, .inl (G.2.1, 8, .inl f3)), (A_a0_covers, .inl (G.2.1, 8, .inl f7))] := hD
      refine lv_iconst (v := 1) hx hb dX5_add_65 (by decide) ?_
      exact ret _ _ _ _ _ () _ _ _ _ h hP hS dX5_add_66 rfl
    have h := hX6
    refine lv_if_eq (tgt := 51) hx hb dX5_add_44 (by decide) (fun hc => ?_) (fun hc => ?_)
    · have h := rs_pos hc h
      refine lv_iconst (v := 0) hx hb dX5_add_51 (by decide) ?_
      exact J6 _ (Option.some.inj h).symm _ _ _ hP hD hS (lv_sub hl [0] rfl)
    have h := rs_neg hc h
    refine lv_iconst (v := 1) hx hb dX5_add_47 (by decide) ?_
    refine lv_goto (tgt := 52) hx hb dX5_add_48 (by decide) ?_
    exact J6 _ (Option.some.inj h).symm _ _ _ hP hD hS (lv_sub hl [0] rfl)
  have h := rs_neg hc h
  refine lv_iconst (v := 0) hx hb dX5_add_9 (by decide) ?_
  exact ret _ _ _ _ _ () _ _ _ _ h hP hS dX5_add_10 rfl
theorem uX6_put_6 : ∀ w ∈ wsX60, w ∈ wsX6_put := fun _ h => List.mem_cons_of_mem _ (List.mem_append_right _ h)
abbrev rmX6_put : Room := { frames := 0, cells := 0, slots := 0, locals := 0 }
set_option maxRecDepth 100000 in
set_option maxHeartbeats 4000000 in
theorem c_X6_put (l : Launch) (G : rs_G) (A_a0 : Nat) (A_a0_cells : Nat) (v_a0_cells : (Nat → Int32)) (p1 : Int32) (p2 : Int32) (p3 : Int32) (o0 : (Nat → Int32)) (h : f_X6_put p1 p2 p3 v_a0_cells = some o0) : rs_Cv l yX6_put wsX6_put rmX6_put G [.ref A_a0, .int p1, .int p2, .int p3] [(A_a0, .inr (6, [.ref A_a0_cells])), (A_a0_cells, .inl (G.2.1, 36, .inl v_a0_cells))] (fun (_ : Unit) => [(A_a0, .inr (6, [.ref A_a0_cells])), (A_a0_cells, .inl (G.2.1, 36, .inl o0))]) := by
  refine rs_enter_v (cc := cX6_put) (maxL := 5) (by decide) rfl (Nat.le_of_ble_eq_true rfl) (fun p e s m args below meth c A Q ls E ret hP hD hS hA hl => ?_)
  obtain ⟨hx, hb, hml, hown, hts, hK⟩ := E
  have hown : s.vm.findClass RX6 = some m.cls := hown
  have hl : lv_has ls 5 [(0, .ref A_a0), (1, .int p1), (2, .int p2), (3, .int p3)] := hl
  have ret : ∀ (w0 : (Nat → Int32)) (u : Unit) (H : Heap) (locs : List Loc) (pc : Nat) (ls : Array Slot), some w0 = some o0 → va_P G.1 vwCl [(A_a0, .inr (6, [.ref A_a0_cells])), (A_a0_cells, .inl (G.2.1, 36, .inl w0))] H → va_S A s.heap H locs → decode cX6_put pc = .ok (.return_, 1) → W p l e rmX6_put s m args below meth c H locs 0 0 Q (F0 m pc ls []) := by
    intro w0 u H locs pc ls hz
    cases hz
    exact ret u H locs pc ls
  unfold f_X6_put at h
  refine lv_iconst (v := 4) hx hb dX6_put_0 (by decide) ?_
  refine lv_iload_n hx hb dX6_put_1 rfl (lv_at hl 1 rfl) ?_
  refine lv_imul hx hb dX6_put_2 ?_
  refine lv_iload_n hx hb dX6_put_3 rfl (lv_at hl 2 rfl) ?_
  refine lv_iadd hx hb dX6_put_4 ?_
  refine rs_topi h (fun x1 h => ?_)
  refine lv_istore (lv' := [(4, .int x1), (0, .ref A_a0), (1, .int p1), (2, .int p2), (3, .int p3)]) hx hb dX6_put_5 hl (by decide) rfl (fun ls hl => ?_)
  refine lv_iload hx hb dX6_put_7 (lv_at hl 0 rfl) ?_
  refine lv_if_lt (tgt := 30) hx hb dX6_put_9 (by decide) (fun hc => ?_) (fun hc => ?_)
  · have h := rs_pos hc h
    exact ret _ () _ _ _ _ h hP hS dX6_put_30
  have h := rs_neg hc h
  refine lv_iload hx hb dX6_put_12 (lv_at hl 0 rfl) ?_
  refine lv_aload_n hx hb dX6_put_14 rfl (lv_at hl 1 rfl) ?_
  refine va_get (D := G.1) (ci := 6) (v := .ref A_a0_cells) (C := RX6) (T := TX6) (N := 1) hx hb hts uX6_put_6 hown hK.1 hP 0 rfl rfl 0 (by decide) (hts (.fieldLink RX6 9 "RingShadow$Stock" "cells" "[I") (List.mem_of_getElem? (i := 1) rfl)) (fun _ h9 => h9) rfl dX6_put_15 ?_
  refine va_alen (v := 36) hx hb hK.1 hP 1 0 rfl rfl rfl dX6_put_18 ?_
  refine lv_icmp_ge (tgt := 30) hx hb dX6_put_19 (by decide) (fun hc => ?_) (fun hc => ?_)
  · have h := rs_pos hc h
    exact ret _ () _ _ _ _ h hP hS dX6_put_30
  have h := rs_neg hc h
  refine lv_aload_n hx hb dX6_put_22 rfl (lv_at hl 1 rfl) ?_
  refine va_get (D := G.1) (ci := 6) (v := .ref A_a0_cells) (C := RX6) (T := TX6) (N := 1) hx hb hts uX6_put_6 hown hK.1 hP 0 rfl rfl 0 (by decide) (hts (.fieldLink RX6 9 "RingShadow$Stock" "cells" "[I") (List.mem_of_getElem? (i := 1) rfl)) (fun _ h9 => h9) rfl dX6_put_23 ?_
  refine lv_iload hx hb dX6_put_26 (lv_at hl 0 rfl) ?_
  refine lv_iload_n hx hb dX6_put_28 rfl (lv_at hl 4 rfl) ?_
  obtain ⟨hg, h⟩ := rs_gd h
  refine va_iast hx hb hK.1 hP hD hS 1 0 rfl rfl hg dX6_put_29 (fun H locs hP hD hS => ?_)
  have hP : va_P G.1 vwCl [(A_a0, .inr (6, [.ref A_a0_cells])), (A_a0_cells, .inl (G.2.1, 36, .inl (upd v_a0_cells x1.toNatClampNeg p3)))] H := hP
  have hD : va_D A [(A_a0, .inr (6, [.ref A_a0_cells])), (A_a0_cells, .inl (G.2.1, 36, .inl (upd v_a0_cells x1.toNatClampNeg p3)))] := hD
  exact ret _ () _ _ _ _ h hP hS dX6_put_30
abbrev rmX6_begin : Room := { frames := 1, cells := 0, slots := 0, locals := 24 }
set_option maxRecDepth 100000 in
set_option maxHeartbeats 4000000 in
theorem c_X6_begin (l : Launch) (G : rs_G) (A_a0 : Nat) (A_a0_cells : Nat) (v_a0_cells : (Nat → Int32)) (N : Nat) (o0 : (Nat → Int32)) (h : f_X6_begin N v_a0_cells = some o0) : rs_Cv l yX6_begin wsX6_begin rmX6_begin G [.ref A_a0] [(A_a0, .inr (6, [.ref A_a0_cells])), (A_a0_cells, .inl (G.2.1, 36, .inl v_a0_cells))] (fun (_ : Unit) => [(A_a0, .inr (6, [.ref A_a0_cells])), (A_a0_cells, .inl (G.2.1, 36, .inl o0))]) := by
  refine rs_enter_v (cc := cX6_begin) (maxL := 2) (by decide) rfl (Nat.le_of_ble_eq_true rfl) (fun p e s m args below meth c A Q ls E ret hP hD hS hA hl => ?_)
  obtain ⟨hx, hb, hml, hown, hts, hK⟩ := E
  have hown : s.vm.findClass RX6 = some m.cls := hown
  have hl : lv_has ls 2 [(0, .ref A_a0)] := hl
  have ret : ∀ (w0 : (Nat → Int32)) (u : Unit) (H : Heap) (locs : List Loc) (pc : Nat) (ls : Array Slot), some w0 = some o0 → va_P G.1 vwCl [(A_a0, .inr (6, [.ref A_a0_cells])), (A_a0_cells, .inl (G.2.1, 36, .inl w0))] H → va_S A s.heap H locs → decode cX6_begin pc = .ok (.return_, 1) → W p l e rmX6_begin s m args below meth c H locs 0 0 Q (F0 m pc ls []) := by
    intro w0 u H locs pc ls hz
    cases hz
    exact ret u H locs pc ls
  unfold f_X6_begin at h
  refine lv_iconst (v := 0) hx hb dX6_begin_0 (by decide) ?_
  refine lv_istore_n (lv' := [(1, .int 0), (0, .ref A_a0)]) hx hb dX6_begin_1 rfl hl (by decide) rfl (fun ls hl => ?_)
  obtain ⟨X19, hX19, h⟩ := rs_b1s h
  have J19 : ∀ (f20 : (Nat → Int32)), X19 = f20 → ∀  (H : Heap) (locs : List Loc) (ls : Array Slot), va_P G.1 vwCl [(A_a0, .inr (6, [.ref A_a0_cells])), (A_a0_cells, .inl (G.2.1, 36, .inl f20))] H → va_D A [(A_a0, .inr (6, [.ref A_a0_cells])), (A_a0_cells, .inl (G.2.1, 36, .inl f20))] → va_S A s.heap H locs → lv_has ls 2 [] → W p l e rmX6_begin s m args below meth c H locs 0 0 Q (F0 m 43 ls []) := by
    intro f20 hz  H locs ls hP hD hS hl
    have h := h _ hz
    exact ret _ () _ _ _ _ h hP hS dX6_begin_43
  refine rs_l2W (Wd := fun (f9 : (Nat → Int32)) (x10 : Int32) => ∀  (H : Heap) (locs : List Loc) (ls : Array Slot), va_P G.1 vwCl [(A_a0, .inr (6, [.ref A_a0_cells])), (A_a0_cells, .inl (G.2.1, 36, .inl f9))] H → va_D A [(A_a0, .inr (6, [.ref A_a0_cells])), (A_a0_cells, .inl (G.2.1, 36, .inl f9))] → va_S A s.heap H locs → lv_has ls 2 [(0, .ref A_a0), (1, .int x10)] → W p l e rmX6_begin s m args below meth c H locs 0 0 Q (F0 m 2 ls [])) ?_ N v_a0_cells 0 hX19 _ _ _ hP hD hS (lv_sub hl [1, 0] rfl)
  intro f9 x10 o19 h K19 L19  H locs ls hP hD hS hl
  unfold f_X6_begin_L2 at h
  refine lv_iload_n hx hb dX6_begin_2 rfl (lv_at hl 1 rfl) ?_
  refine lv_bipush (v := 9) hx hb dX6_begin_3 (by decide) ?_
  refine lv_icmp_ge (tgt := 43) hx hb dX6_begin_5 (by decide) (fun hc => ?_) (fun hc => ?_)
  · have h := rs_pos hc h
    exact J19 _ (L19 _ (Option.some.inj h).symm) _ _ _ hP hD hS (lv_sub hl [] rfl)
  have h := rs_neg hc h
  refine lv_aload_n hx hb dX6_begin_8 rfl (lv_at hl 0 rfl) ?_
  refine lv_iload_n hx hb dX6_begin_9 rfl (lv_at hl 1 rfl) ?_
  refine lv_iconst (v := 0) hx hb dX6_begin_10 (by decide) ?_
  refine lv_iconst (v := 3) hx hb dX6_begin_11 (by decide) ?_
  obtain ⟨f21, h22, h⟩ := rs_b1s h
  have h := h _ rfl
  refine rs_callVv (As := [.int x10, .int 0, .int 3]) (rest := []) ⟨hx, hb, hml, hown, hts⟩ (c_X6_put l G A_a0 A_a0_cells f9 x10 0 3 f21 h22) (cwV 3 hts gX6_begin_X6_put rfl rfl rfl (by decide +kernel) ⟨Nat.le_of_ble_eq_true rfl, Nat.le_of_ble_eq_true rfl⟩) dX6_begin_12 hK hP hD hS hA [0, 1] rfl (by decide) rfl rfl (q0 := 0) (ci := 6) rfl rfl rfl hl.1 (lv_room (Nat.le_of_ble_eq_true rfl)) ⟨Nat.zero_le _, Nat.zero_le _⟩ (fun (_ : Unit) => [(A_a0, .inr (6, [.ref A_a0_cells])), (A_a0_cells, .inl (G.2.1, 36, .inl f21))]) (fun _ => rfl) (fun _ => rfl) (fun u22 H locs hP hD hS => ?_)
  refine lv_aload_n hx hb dX6_begin_15 rfl (lv_at hl 0 rfl) ?_
  refine lv_iload_n hx hb dX6_begin_16 rfl (lv_at hl 1 rfl) ?_
  refine lv_iconst (v := 1) hx hb dX6_begin_17 (by decide) ?_
  refine lv_iconst (v := 2) hx hb dX6_begin_18 (by decide) ?_
  obtain ⟨f23, h24, h⟩ := rs_b1s h
  have h := h _ rfl
  refine rs_callVv (As := [.int x10, .int 1, .int 2]) (rest := []) ⟨hx, hb, hml, hown, hts⟩ (c_X6_put l G A_a0 A_a0_cells f21 x10 1 2 f23 h24) (cwV 3 hts gX6_begin_X6_put rfl rfl rfl (by decide +kernel) ⟨Nat.le_of_ble_eq_true rfl, Nat.le_of_ble_eq_true rfl⟩) dX6_begin_19 hK hP hD hS hA [0, 1] rfl (by decide) rfl rfl (q0 := 0) (ci := 6) rfl rfl rfl hl.1 (lv_room (Nat.le_of_ble_eq_true rfl)) ⟨Nat.zero_le _, Nat.zero_le _⟩ (fun (_ : Unit) => [(A_a0, .inr (6, [.ref A_a0_cells])), (A_a0_cells, .inl (G.2.1, 36, .inl f23))]) (fun _ => rfl) (fun _ => rfl) (fun u24 H locs hP hD hS => ?_)
  refine lv_aload_n hx hb dX6_begin_22 rfl (lv_at hl 0 rfl) ?_
  refine lv_iload_n hx hb dX6_begin_23 rfl (lv_at hl 1 rfl) ?_
  refine lv_iconst (v := 2) hx hb dX6_begin_24 (by decide) ?_
  refine lv_iconst (v := 0) hx hb dX6_begin_25 (by decide) ?_
  obtain ⟨f25, h26, h⟩ := rs_b1s h
  have h := h _ rfl
  refine rs_callVv (As := [.int x10, .int 2, .int 0]) (rest := []) ⟨hx, hb, hml, hown, hts⟩ (c_X6_put l G A_a0 A_a0_cells f23 x10 2 0 f25 h26) (cwV 3 hts gX6_begin_X6_put rfl rfl rfl (by decide +kernel) ⟨Nat.le_of_ble_eq_true rfl, Nat.le_of_ble_eq_true rfl⟩) dX6_begin_26 hK hP hD hS hA [0, 1] rfl (by decide) rfl rfl (q0 := 0) (ci := 6) rfl rfl rfl hl.1 (lv_room (Nat.le_of_ble_eq_true rfl)) ⟨Nat.zero_le _, Nat.zero_le _⟩ (fun (_ : Unit) => [(A_a0, .inr (6, [.ref A_a0_cells])), (A_a0_cells, .inl (G.2.1, 36, .inl f25))]) (fun _ => rfl) (fun _ => rfl) (fun u26 H locs hP hD hS => ?_)
  refine lv_aload_n hx hb dX6_begin_29 rfl (lv_at hl 0 rfl) ?_
  refine lv_iload_n hx hb dX6_begin_30 rfl (lv_at hl 1 rfl) ?_
  refine lv_iconst (v := 3) hx hb dX6_begin_31 (by decide) ?_
  refine lv_bipush (v := 50) hx hb dX6_begin_32 (by decide) ?_
  obtain ⟨f27, h28, h⟩ := rs_b1s h
  have h := h _ rfl
  refine rs_callVv (As := [.int x10, .int 3, .int 50]) (rest := []) ⟨hx, hb, hml, hown, hts⟩ (c_X6_put l G A_a0 A_a0_cells f25 x10 3 50 f27 h28) (cwV 3 hts gX6_begin_X6_put rfl rfl rfl (by decide +kernel) ⟨Nat.le_of_ble_eq_true rfl, Nat.le_of_ble_eq_true rfl⟩) dX6_begin_34 hK hP hD hS hA [0, 1] rfl (by decide) rfl rfl (q0 := 0) (ci := 6) rfl rfl rfl hl.1 (lv_room (Nat.le_of_ble_eq_true rfl)) ⟨Nat.zero_le _, Nat.zero_le _⟩ (fun (_ : Unit) => [(A_a0, .inr (6, [.ref A_a0_cells])), (A_a0_cells, .inl (G.2.1, 36, .inl f27))]) (fun _ => rfl) (fun _ => rfl) (fun u28 H locs hP hD hS => ?_)
  refine lv_iinc (v := (x10 + 1)) (lv' := [(1, .int (x10 + 1)), (0, .ref A_a0)]) hx hb dX6_begin_37 hl (k := 1) rfl (by first | rfl | decide) (by decide) rfl (fun ls hl => ?_)
  refine lv_goto (tgt := 2) hx hb dX6_begin_40 (by decide) ?_
  exact K19 _ _ (Option.some.inj h).symm _ _ _ hP hD hS (lv_sub hl [1, 0] rfl)
theorem uX6_takeFrom_6 : ∀ w ∈ wsX60, w ∈ wsX6_takeFrom := fun _ h => List.mem_cons_of_mem _ (List.mem_append_right _ h)
abbrev rmX6_takeFrom : Room := { frames := 1, cells := 0, slots := 0, locals := 22 }
set_option maxRecDepth 100000 in
set_option maxHeartbeats 4000000 in
theorem c_X6_takeFrom (l : Launch) (G : rs_G) (A_a0 : Nat) (A_a1 : Nat) (A_a0_cells : Nat) (A_a1_cells : Nat) (v_a1_cells : (Nat → Int32)) (v_a0_cells : (Nat → Int32)) (N : Nat) (o0 : (Nat → Int32)) (h : f_X6_takeFrom N v_a1_cells v_a0_cells = some o0) : rs_Cv l yX6_takeFrom wsX6_takeFrom rmX6_takeFrom G [.ref A_a0, .ref A_a1] [(A_a0, .inr (6, [.ref A_a0_cells])), (A_a1, .inr (6, [.ref A_a1_cells])), (A_a1_cells, .inl (G.2.1, 36, .inl v_a1_cells)), (A_a0_cells, .inl (G.2.1, 36, .inl v_a0_cells))] (fun (_ : Unit) => [(A_a0, .inr (6, [.ref A_a0_cells])), (A_a1, .inr (6, [.ref A_a1_cells])), (A_a1_cells, .inl (G.2.1, 36, .inl v_a1_cells)), (A_a0_cells, .inl (G.2.1, 36, .inl o0))]) := by
  refine rs_enter_v (cc := cX6_takeFrom) (maxL := 2) (by decide) rfl (Nat.le_of_ble_eq_true rfl) (fun p e s m args below meth c A Q ls E ret hP hD hS hA hl => ?_)
  obtain ⟨hx, hb, hml, hown, hts, hK⟩ := E
  have hown : s.vm.findClass RX6 = some m.cls := hown
  have hl : lv_has ls 2 [(0, .ref A_a0), (1, .ref A_a1)] := hl
  have ret : ∀ (w0 : (Nat → Int32)) (u : Unit) (H : Heap) (locs : List Loc) (pc : Nat) (ls : Array Slot), some w0 = some o0 → va_P G.1 vwCl [(A_a0, .inr (6, [.ref A_a0_cells])), (A_a1, .inr (6, [.ref A_a1_cells])), (A_a1_cells, .inl (G.2.1, 36, .inl v_a1_cells)), (A_a0_cells, .inl (G.2.1, 36, .inl w0))] H → va_S A s.heap H locs → decode cX6_takeFrom pc = .ok (.return_, 1) → W p l e rmX6_takeFrom s m args below meth c H locs 0 0 Q (F0 m pc ls []) := by
    intro w0 u H locs pc ls hz
    cases hz
    exact ret u H locs pc ls
  unfold f_X6_takeFrom at h
  refine lv_aload_n hx hb dX6_takeFrom_0 rfl (lv_at hl 1 rfl) ?_
  refine va_get (D := G.1) (ci := 6) (v := .ref A_a1_cells) (C := RX6) (T := TX6) (N := 1) hx hb hts uX6_takeFrom_6 hown hK.1 hP 1 rfl rfl 0 (by decide) (hts (.fieldLink RX6 9 "RingShadow$Stock" "cells" "[I") (List.mem_of_getElem? (i := 1) rfl)) (fun _ h9 => h9) rfl dX6_takeFrom_1 ?_
  refine lv_aload_n hx hb dX6_takeFrom_4 rfl (lv_at hl 0 rfl) ?_
  refine va_get (D := G.1) (ci := 6) (v := .ref A_a0_cells) (C := RX6) (T := TX6) (N := 1) hx hb hts uX6_takeFrom_6 hown hK.1 hP 0 rfl rfl 0 (by decide) (hts (.fieldLink RX6 9 "RingShadow$Stock" "cells" "[I") (List.mem_of_getElem? (i := 1) rfl)) (fun _ h9 => h9) rfl dX6_takeFrom_5 ?_
  obtain ⟨f1, h2, h⟩ := rs_b1s h
  have h := h _ rfl
  refine rs_callNv (As := [.ref A_a1_cells, .ref A_a0_cells]) (rest := []) ⟨hx, hb, hml, hown, hts⟩ (c_X10_copy l G A_a1_cells A_a0_cells v_a1_cells v_a0_cells 36 36 N f1 h2) ⟨va_cnB 2 hts gX6_takeFrom_X10_copy_n22 rfl rfl rfl (rs_nw4 hK.2.1) (hts (.initialized RX10) (List.mem_of_getElem? (i := 3) rfl)) (by decide +kernel) ⟨Nat.le_of_ble_eq_true rfl, Nat.le_of_ble_eq_true rfl⟩, (hts (.static yX10_copy) (List.mem_of_getElem? (i := 2) rfl)), trivial⟩ dX6_takeFrom_8 hK hP hD hS hA [2, 3] rfl (by decide) rfl rfl hl.1 (lv_room (Nat.le_of_ble_eq_true rfl)) ⟨Nat.zero_le _, Nat.zero_le _⟩ (fun (_ : Unit) => [(A_a0, .inr (6, [.ref A_a0_cells])), (A_a1, .inr (6, [.ref A_a1_cells])), (A_a1_cells, .inl (G.2.1, 36, .inl v_a1_cells)), (A_a0_cells, .inl (G.2.1, 36, .inl f1))]) (fun _ => rfl) (fun _ => rfl) (fun u2 H locs hP hD hS => ?_)
  exact ret _ () _ _ _ _ h hP hS dX6_takeFrom_11
abbrev rmX6_feed : Room := { frames := 1, cells := 0, slots := 0, locals := 24 }
set_option maxRecDepth 100000 in
set_option maxHeartbeats 4000000 in
theorem c_X6_feed (l : Launch) (G : rs_G) (A_a0 : Nat) (A_a0_cells : Nat) (v_a0_cells : (Nat → Int32)) (p1 : Int32) (p2 : Int32) (r0 : Int32) (o0 : (Nat → Int32)) (h : f_X6_feed p1 p2 v_a0_cells = some (r0, o0)) : rs_Ci l yX6_feed wsX6_feed rmX6_feed G [.ref A_a0, .int p1, .int p2] [(A_a0, .inr (6, [.ref A_a0_cells])), (A_a0_cells, .inl (G.2.1, 36, .inl v_a0_cells))] (fun (_ : Unit) => [(A_a0, .inr (6, [.ref A_a0_cells])), (A_a0_cells, .inl (G.2.1, 36, .inl o0))]) r0 := by
  refine rs_enter_i (cc := cX6_feed) (maxL := 4) (ty := .boolean) (by decide) rfl (Nat.le_of_ble_eq_true rfl) (fun p e s m args below meth c A Q ls E ret hP hD hS hA hl => ?_)
  obtain ⟨hx, hb, hml, hown, hts, hK⟩ := E
  have hown : s.vm.findClass RX6 = some m.cls := hown
  have hl : lv_has ls 4 [(0, .ref A_a0), (1, .int p1), (2, .int p2)] := hl
  have ret : ∀ (v0 : Int32) (w0 : (Nat → Int32)) (u : Unit) (H : Heap) (locs : List Loc) (pc : Nat) (ls : Array Slot), some (v0, w0) = some (r0, o0) → va_P G.1 vwCl [(A_a0, .inr (6, [.ref A_a0_cells])), (A_a0_cells, .inl (G.2.1, 36, .inl w0))] H → va_S A s.heap H locs → decode cX6_feed pc = .ok (.ireturn, 1) → narrow .boolean (.int v0) = .int v0 → W p l e rmX6_feed s m args below meth c H locs 0 0 Q (F0 m pc ls [.int v0]) := by
    intro v0 w0 u H locs pc ls hz
    cases hz
    exact ret u H locs pc ls
  unfold f_X6_feed at h
  refine lv_aload_n hx hb dX6_feed_0 rfl (lv_at hl 0 rfl) ?_
  refine lv_iload_n hx hb dX6_feed_1 rfl (lv_at hl 1 rfl) ?_
  refine lv_iconst (v := 2) hx hb dX6_feed_2 (by decide) ?_
  obtain ⟨x1, h2, h⟩ := rs_b1s h
  have h := h _ rfl
  refine rs_callVi (As := [.int p1, .int 2]) (rest := []) ⟨hx, hb, hml, hown, hts⟩ (c_X6_of l G A_a0 A_a0_cells v_a0_cells p1 2 x1 h2) (cwV 2 hts gX6_feed_X6_of rfl rfl rfl (by decide +kernel) ⟨Nat.le_of_ble_eq_true rfl, Nat.le_of_ble_eq_true rfl⟩) dX6_feed_3 hK hP hD hS hA [0, 1] rfl (by decide) rfl rfl (q0 := 0) (ci := 6) rfl rfl rfl hl.1 (lv_room (Nat.le_of_ble_eq_true rfl)) ⟨Nat.zero_le _, Nat.zero_le _⟩ (fun (_ : Unit) => [(A_a0, .inr (6, [.ref A_a0_cells])), (A_a0_cells, .inl (G.2.1, 36, .inl v_a0_cells))]) (fun _ => rfl) (fun _ => rfl) (fun u2 H locs hP hD hS => ?_)
  refine lv_aload_n hx hb dX6_feed_6 rfl (lv_at hl 0 rfl) ?_
  refine lv_iload_n hx hb dX6_feed_7 rfl (lv_at hl 1 rfl) ?_
  refine lv_iconst (v := 1) hx hb dX6_feed_8 (by decide) ?_
  obtain ⟨x3, h4, h⟩ := rs_b1s h
  have h := h _ rfl
  refine rs_callVi (As := [.int p1, .int 1]) (rest := [.int x1]) ⟨hx, hb, hml, hown, hts⟩ (c_X6_of l G A_a0 A_a0_cells v_a0_cells p1 1 x3 h4) (cwV 2 hts gX6_feed_X6_of rfl rfl rfl (by decide +kernel) ⟨Nat.le_of_ble_eq_true rfl, Nat.le_of_ble_eq_true rfl⟩) dX6_feed_9 hK hP hD hS hA [0, 1] rfl (by decide) rfl rfl (q0 := 0) (ci := 6) rfl rfl rfl hl.1 (lv_room (Nat.le_of_ble_eq_true rfl)) ⟨Nat.zero_le _, Nat.zero_le _⟩ (fun (_ : Unit) => [(A_a0, .inr (6, [.ref A_a0_cells])), (A_a0_cells, .inl (G.2.1, 36, .inl v_a0_cells))]) (fun _ => rfl) (fun _ => rfl) (fun u4 H locs hP hD hS => ?_)
  refine lv_isub hx hb dX6_feed_12 ?_
  refine lv_iload_n hx hb dX6_feed_13 rfl (lv_at hl 2 rfl) ?_
  obtain ⟨X8, hX8, h⟩ := rs_b1s h
  have J8 : ∀ (x7 : Int32), X8 = x7 → ∀ (H : Heap) (locs : List Loc) (ls : Array Slot), va_P G.1 vwCl [(A_a0, .inr (6, [.ref A_a0_cells])), (A_a0_cells, .inl (G.2.1, 36, .inl v_a0_cells))] H → va_D A [(A_a0, .inr (6, [.ref A_a0_cells])), (A_a0_cells, .inl (G.2.1, 36, .inl v_a0_cells))] → va_S A s.heap H locs → lv_has ls 4 [(0, .ref A_a0), (1, .int p1)] → W p l e rmX6_feed s m args below meth c H locs 0 0 Q (F0 m 27 ls [.int x7, .int (x1 - x3)]) := by
    intro x7 hz H locs ls hP hD hS hl
    have h := h _ hz
    refine lv_iadd hx hb dX6_feed_27 ?_
    refine rs_topi h (fun x9 h => ?_)
    refine lv_istore_n (lv' := [(3, .int x9), (0, .ref A_a0), (1, .int p1)]) hx hb dX6_feed_28 rfl hl (by decide) rfl (fun ls hl => ?_)
    refine lv_aload_n hx hb dX6_feed_29 rfl (lv_at hl 1 rfl) ?_
    refine lv_iload_n hx hb dX6_feed_30 rfl (lv_at hl 2 rfl) ?_
    refine lv_iconst (v := 2) hx hb dX6_feed_31 (by decide) ?_
    refine lv_iconst (v := 0) hx hb dX6_feed_32 (by decide) ?_
    refine lv_iload_n hx hb dX6_feed_33 rfl (lv_at hl 0 rfl) ?_
    refine lv_aload_n hx hb dX6_feed_34 rfl (lv_at hl 1 rfl) ?_
    refine lv_iload_n hx hb dX6_feed_35 rfl (lv_at hl 2 rfl) ?_
    refine lv_iconst (v := 3) hx hb dX6_feed_36 (by decide) ?_
    obtain ⟨x10, h11, h⟩ := rs_b1s h
    have h := h _ rfl
    refine rs_callVi (As := [.int p1, .int 3]) (rest := [.int x9, .int 0, .int 2, .int p1, .ref A_a0]) ⟨hx, hb, hml, hown, hts⟩ (c_X6_of l G A_a0 A_a0_cells v_a0_cells p1 3 x10 h11) (cwV 2 hts gX6_feed_X6_of rfl rfl rfl (by decide +kernel) ⟨Nat.le_of_ble_eq_true rfl, Nat.le_of_ble_eq_true rfl⟩) dX6_feed_37 hK hP hD hS hA [0, 1] rfl (by decide) rfl rfl (q0 := 0) (ci := 6) rfl rfl rfl hl.1 (lv_room (Nat.le_of_ble_eq_true rfl)) ⟨Nat.zero_le _, Nat.zero_le _⟩ (fun (_ : Unit) => [(A_a0, .inr (6, [.ref A_a0_cells])), (A_a0_cells, .inl (G.2.1, 36, .inl v_a0_cells))]) (fun _ => rfl) (fun _ => rfl) (fun u11 H locs hP hD hS => ?_)
    refine va_mmin hx hb (hml.trans hl.1.symm) hown (hts (.methodLink RX6 30 Lib.Math.min.name) (List.mem_of_getElem? (i := 1) rfl)) (hts (.static Lib.Math.min.name) (List.mem_of_getElem? (i := 2) rfl)) (hts (.initialized "java/lang/Math") (List.mem_of_getElem? (i := 3) rfl)) (hts (.code Lib.Math.min.name Lib.Math.min.code 2 (some .int)) (List.mem_of_getElem? (i := 4) rfl)) (Nat.le_of_ble_eq_true rfl) (Nat.le_of_ble_eq_true rfl) (Nat.zero_le _) (Nat.zero_le _) dX6_feed_40 ?_
    refine va_mmax hx hb (hml.trans hl.1.symm) hown (hts (.methodLink RX6 35 Lib.Math.max.name) (List.mem_of_getElem? (i := 5) rfl)) (hts (.static Lib.Math.max.name) (List.mem_of_getElem? (i := 6) rfl)) (hts (.initialized "java/lang/Math") (List.mem_of_getElem? (i := 3) rfl)) (hts (.code Lib.Math.max.name Lib.Math.max.code 2 (some .int)) (List.mem_of_getElem? (i := 7) rfl)) (Nat.le_of_ble_eq_true rfl) (Nat.le_of_ble_eq_true rfl) (Nat.zero_le _) (Nat.zero_le _) dX6_feed_43 ?_
    obtain ⟨f12, h13, h⟩ := rs_b1s h
    have h := h _ rfl
    refine rs_callVv (As := [.int p1, .int 2, .int (if 0 < (if x10 < x9 then x10 else x9) then (if x10 < x9 then x10 else x9) else 0)]) (rest := []) ⟨hx, hb, hml, hown, hts⟩ (c_X6_put l G A_a0 A_a0_cells v_a0_cells p1 2 (if 0 < (if x10 < x9 then x10 else x9) then (if x10 < x9 then x10 else x9) else 0) f12 h13) (cwV 3 hts gX6_feed_X6_put rfl rfl rfl (by decide +kernel) ⟨Nat.le_of_ble_eq_true rfl, Nat.le_of_ble_eq_true rfl⟩) dX6_feed_46 hK hP hD hS hA [0, 1] rfl (by decide) rfl rfl (q0 := 0) (ci := 6) rfl rfl rfl hl.1 (lv_room (Nat.le_of_ble_eq_true rfl)) ⟨Nat.zero_le _, Nat.zero_le _⟩ (fun (_ : Unit) => [(A_a0, .inr (6, [.ref A_a0_cells])), (A_a0_cells, .inl (G.2.1, 36, .inl f12))]) (fun _ => rfl) (fun _ => rfl) (fun u13 H locs hP hD hS => ?_)
    refine lv_iload_n hx hb dX6_feed_49 rfl (lv_at hl 0 rfl) ?_
    refine lv_if_ge (tgt := 57) hx hb dX6_feed_50 (by decide) (fun hc => ?_) (fun hc => ?_)
    · have h := rs_pos hc h
      refine lv_iconst (v := 0) hx hb dX6_feed_57 (by decide) ?_
      exact ret _ _ () _ _ _ _ h hP hS dX6_feed_58 rfl
    have h := rs_neg hc h
    refine lv_iconst (v := 1) hx hb dX6_feed_53 (by decide) ?_
    refine lv_goto (tgt := 58) hx hb dX6_feed_54 (by decide) ?_
    exact ret _ _ () _ _ _ _ h hP hS dX6_feed_58 rfl
  have h := hX8
  refine lv_if_eq (tgt := 26) hx hb dX6_feed_14 (by decide) (fun hc => ?_) (fun hc => ?_)
  · have h := rs_pos hc h
    refine lv_iconst (v := 0) hx hb dX6_feed_26 (by decide) ?_
    exact J8 _ (Option.some.inj h).symm _ _ _ hP hD hS (lv_sub hl [0, 1] rfl)
  have h := rs_neg hc h
  refine lv_aload_n hx hb dX6_feed_17 rfl (lv_at hl 0 rfl) ?_
  refine lv_iload_n hx hb dX6_feed_18 rfl (lv_at hl 1 rfl) ?_
  refine lv_iconst (v := 0) hx hb dX6_feed_19 (by decide) ?_
  obtain ⟨x14, h15, h⟩ := rs_b1s h
  have h := h _ rfl
  refine rs_callVi (As := [.int p1, .int 0]) (rest := [.int (x1 - x3)]) ⟨hx, hb, hml, hown, hts⟩ (c_X6_of l G A_a0 A_a0_cells v_a0_cells p1 0 x14 h15) (cwV 2 hts gX6_feed_X6_of rfl rfl rfl (by decide +kernel) ⟨Nat.le_of_ble_eq_true rfl, Nat.le_of_ble_eq_true rfl⟩) dX6_feed_20 hK hP hD hS hA [0, 1] rfl (by decide) rfl rfl (q0 := 0) (ci := 6) rfl rfl rfl hl.1 (lv_room (Nat.le_of_ble_eq_true rfl)) ⟨Nat.zero_le _, Nat.zero_le _⟩ (fun (_ : Unit) => [(A_a0, .inr (6, [.ref A_a0_cells])), (A_a0_cells, .inl (G.2.1, 36, .inl v_a0_cells))]) (fun _ => rfl) (fun _ => rfl) (fun u15 H locs hP hD hS => ?_)
  refine lv_goto (tgt := 27) hx hb dX6_feed_23 (by decide) ?_
  exact J8 _ (Option.some.inj h).symm _ _ _ hP hD hS (lv_sub hl [0, 1] rfl)
abbrev rmX6_lend : Room := { frames := 1, cells := 0, slots := 0, locals := 24 }
set_option maxRecDepth 100000 in
set_option maxHeartbeats 4000000 in
theorem c_X6_lend (l : Launch) (G : rs_G) (A_a0 : Nat) (A_a0_cells : Nat) (v_a0_cells : (Nat → Int32)) (p1 : Int32) (p2 : Int32) (p3 : Int32) (r0 : Int32) (o0 : (Nat → Int32)) (h : f_X6_lend p1 p2 p3 v_a0_cells = some (r0, o0)) : rs_Ci l yX6_lend wsX6_lend rmX6_lend G [.ref A_a0, .int p1, .int p2, .int p3] [(A_a0, .inr (6, [.ref A_a0_cells])), (A_a0_cells, .inl (G.2.1, 36, .inl v_a0_cells))] (fun (_ : Unit) => [(A_a0, .inr (6, [.ref A_a0_cells])), (A_a0_cells, .inl (G.2.1, 36, .inl o0))]) r0 := by
  refine rs_enter_i (cc := cX6_lend) (maxL := 6) (ty := .int) (by decide) rfl (Nat.le_of_ble_eq_true rfl) (fun p e s m args below meth c A Q ls E ret hP hD hS hA hl => ?_)
  obtain ⟨hx, hb, hml, hown, hts, hK⟩ := E
  have hown : s.vm.findClass RX6 = some m.cls := hown
  have hl : lv_has ls 6 [(0, .ref A_a0), (1, .int p1), (2, .int p2), (3, .int p3)] := hl
  have ret : ∀ (v0 : Int32) (w0 : (Nat → Int32)) (u : Unit) (H : Heap) (locs : List Loc) (pc : Nat) (ls : Array Slot), some (v0, w0) = some (r0, o0) → va_P G.1 vwCl [(A_a0, .inr (6, [.ref A_a0_cells])), (A_a0_cells, .inl (G.2.1, 36, .inl w0))] H → va_S A s.heap H locs → decode cX6_lend pc = .ok (.ireturn, 1) → narrow .int (.int v0) = .int v0 → W p l e rmX6_lend s m args below meth c H locs 0 0 Q (F0 m pc ls [.int v0]) := by
    intro v0 w0 u H locs pc ls hz
    cases hz
    exact ret u H locs pc ls
  unfold f_X6_lend at h
  refine lv_iload_n hx hb dX6_lend_0 rfl (lv_at hl 1 rfl) ?_
  refine lv_iload_n hx hb dX6_lend_1 rfl (lv_at hl 2 rfl) ?_
  refine lv_icmp_ne (tgt := 7) hx hb dX6_lend_2 (by decide) (fun hc => ?_) (fun hc => ?_)
  · have h := rs_neg hc h
    refine lv_aload_n hx hb dX6_lend_7 rfl (lv_at hl 0 rfl) ?_
    refine lv_iload_n hx hb dX6_lend_8 rfl (lv_at hl 1 rfl) ?_
    refine lv_iconst (v := 2) hx hb dX6_lend_9 (by decide) ?_
    obtain ⟨x1, h2, h⟩ := rs_b1s h
    have h := h _ rfl
    refine rs_callVi (As := [.int p1, .int 2]) (rest := []) ⟨hx, hb, hml, hown, hts⟩ (c_X6_of l G A_a0 A_a0_cells v_a0_cells p1 2 x1 h2) (cwV 2 hts gX6_lend_X6_of rfl rfl rfl (by decide +kernel) ⟨Nat.le_of_ble_eq_true rfl, Nat.le_of_ble_eq_true rfl⟩) dX6_lend_10 hK hP hD hS hA [0, 1] rfl (by decide) rfl rfl (q0 := 0) (ci := 6) rfl rfl rfl hl.1 (lv_room (Nat.le_of_ble_eq_true rfl)) ⟨Nat.zero_le _, Nat.zero_le _⟩ (fun (_ : Unit) => [(A_a0, .inr (6, [.ref A_a0_cells])), (A_a0_cells, .inl (G.2.1, 36, .inl v_a0_cells))]) (fun _ => rfl) (fun _ => rfl) (fun u2 H locs hP hD hS => ?_)
    refine lv_iload_n hx hb dX6_lend_13 rfl (lv_at hl 3 rfl) ?_
    refine lv_isub hx hb dX6_lend_14 ?_
    refine rs_topi h (fun x3 h => ?_)
    refine lv_istore (lv' := [(4, .int x3), (0, .ref A_a0), (1, .int p1), (2, .int p2), (3, .int p3)]) hx hb dX6_lend_15 hl (by decide) rfl (fun ls hl => ?_)
    refine lv_aload_n hx hb dX6_lend_17 rfl (lv_at hl 1 rfl) ?_
    refine lv_iload_n hx hb dX6_lend_18 rfl (lv_at hl 3 rfl) ?_
    refine lv_iconst (v := 2) hx hb dX6_lend_19 (by decide) ?_
    obtain ⟨x4, h5, h⟩ := rs_b1s h
    have h := h _ rfl
    refine rs_callVi (As := [.int p2, .int 2]) (rest := []) ⟨hx, hb, hml, hown, hts⟩ (c_X6_of l G A_a0 A_a0_cells v_a0_cells p2 2 x4 h5) (cwV 2 hts gX6_lend_X6_of rfl rfl rfl (by decide +kernel) ⟨Nat.le_of_ble_eq_true rfl, Nat.le_of_ble_eq_true rfl⟩) dX6_lend_20 hK hP hD hS hA [0, 1] rfl (by decide) rfl rfl (q0 := 0) (ci := 6) rfl rfl rfl hl.1 (lv_room (Nat.le_of_ble_eq_true rfl)) ⟨Nat.zero_le _, Nat.zero_le _⟩ (fun (_ : Unit) => [(A_a0, .inr (6, [.ref A_a0_cells])), (A_a0_cells, .inl (G.2.1, 36, .inl v_a0_cells))]) (fun _ => rfl) (fun _ => rfl) (fun u5 H locs hP hD hS => ?_)
    refine lv_iload_n hx hb dX6_lend_23 rfl (lv_at hl 4 rfl) ?_
    refine lv_iadd hx hb dX6_lend_24 ?_
    refine rs_topi h (fun x6 h => ?_)
    refine lv_istore (lv' := [(5, .int x6), (4, .int x3), (0, .ref A_a0), (1, .int p1), (2, .int p2), (3, .int p3)]) hx hb dX6_lend_25 hl (by decide) rfl (fun ls hl => ?_)
    refine lv_iload hx hb dX6_lend_27 (lv_at hl 1 rfl) ?_
    refine lv_if_ge (tgt := 34) hx hb dX6_lend_29 (by decide) (fun hc => ?_) (fun hc => ?_)
    · have h := rs_pos hc h
      refine lv_iload hx hb dX6_lend_34 (lv_at hl 0 rfl) ?_
      refine lv_aload_n hx hb dX6_lend_36 rfl (lv_at hl 2 rfl) ?_
      refine lv_iload_n hx hb dX6_lend_37 rfl (lv_at hl 4 rfl) ?_
      refine lv_iconst (v := 3) hx hb dX6_lend_38 (by decide) ?_
      obtain ⟨x7, h8, h⟩ := rs_b1s h
      have h := h _ rfl
      refine rs_callVi (As := [.int p2, .int 3]) (rest := [.int x6]) ⟨hx, hb, hml, hown, hts⟩ (c_X6_of l G A_a0 A_a0_cells v_a0_cells p2 3 x7 h8) (cwV 2 hts gX6_lend_X6_of rfl rfl rfl (by decide +kernel) ⟨Nat.le_of_ble_eq_true rfl, Nat.le_of_ble_eq_true rfl⟩) dX6_lend_39 hK hP hD hS hA [0, 1] rfl (by decide) rfl rfl (q0 := 0) (ci := 6) rfl rfl rfl hl.1 (lv_room (Nat.le_of_ble_eq_true rfl)) ⟨Nat.zero_le _, Nat.zero_le _⟩ (fun (_ : Unit) => [(A_a0, .inr (6, [.ref A_a0_cells])), (A_a0_cells, .inl (G.2.1, 36, .inl v_a0_cells))]) (fun _ => rfl) (fun _ => rfl) (fun u8 H locs hP hD hS => ?_)
      refine lv_icmp_le (tgt := 47) hx hb dX6_lend_42 (by decide) (fun hc => ?_) (fun hc => ?_)
      · have h := rs_pos hc h
        refine lv_aload_n hx hb dX6_lend_47 rfl (lv_at hl 2 rfl) ?_
        refine lv_iload_n hx hb dX6_lend_48 rfl (lv_at hl 3 rfl) ?_
        refine lv_iconst (v := 2) hx hb dX6_lend_49 (by decide) ?_
        refine lv_iload hx hb dX6_lend_50 (lv_at hl 1 rfl) ?_
        obtain ⟨f9, h10, h⟩ := rs_b1s h
        have h := h _ rfl
        refine rs_callVv (As := [.int p1, .int 2, .int x3]) (rest := []) ⟨hx, hb, hml, hown, hts⟩ (c_X6_put l G A_a0 A_a0_cells v_a0_cells p1 2 x3 f9 h10) (cwV 3 hts gX6_lend_X6_put rfl rfl rfl (by decide +kernel) ⟨Nat.le_of_ble_eq_true rfl, Nat.le_of_ble_eq_true rfl⟩) dX6_lend_52 hK hP hD hS hA [0, 1] rfl (by decide) rfl rfl (q0 := 0) (ci := 6) rfl rfl rfl hl.1 (lv_room (Nat.le_of_ble_eq_true rfl)) ⟨Nat.zero_le _, Nat.zero_le _⟩ (fun (_ : Unit) => [(A_a0, .inr (6, [.ref A_a0_cells])), (A_a0_cells, .inl (G.2.1, 36, .inl f9))]) (fun _ => rfl) (fun _ => rfl) (fun u10 H locs hP hD hS => ?_)
        refine lv_aload_n hx hb dX6_lend_55 rfl (lv_at hl 2 rfl) ?_
        refine lv_iload_n hx hb dX6_lend_56 rfl (lv_at hl 4 rfl) ?_
        refine lv_iconst (v := 2) hx hb dX6_lend_57 (by decide) ?_
        refine lv_iload hx hb dX6_lend_58 (lv_at hl 0 rfl) ?_
        obtain ⟨f11, h12, h⟩ := rs_b1s h
        have h := h _ rfl
        refine rs_callVv (As := [.int p2, .int 2, .int x6]) (rest := []) ⟨hx, hb, hml, hown, hts⟩ (c_X6_put l G A_a0 A_a0_cells f9 p2 2 x6 f11 h12) (cwV 3 hts gX6_lend_X6_put rfl rfl rfl (by decide +kernel) ⟨Nat.le_of_ble_eq_true rfl, Nat.le_of_ble_eq_true rfl⟩) dX6_lend_60 hK hP hD hS hA [0, 1] rfl (by decide) rfl rfl (q0 := 0) (ci := 6) rfl rfl rfl hl.1 (lv_room (Nat.le_of_ble_eq_true rfl)) ⟨Nat.zero_le _, Nat.zero_le _⟩ (fun (_ : Unit) => [(A_a0, .inr (6, [.ref A_a0_cells])), (A_a0_cells, .inl (G.2.1, 36, .inl f11))]) (fun _ => rfl) (fun _ => rfl) (fun u12 H locs hP hD hS => ?_)
        refine lv_iconst (v := 0) hx hb dX6_lend_63 (by decide) ?_
        exact ret _ _ () _ _ _ _ h hP hS dX6_lend_64 rfl
      have h := rs_neg hc h
      refine lv_iconst (v := 3) hx hb dX6_lend_45 (by decide) ?_
      exact ret _ _ () _ _ _ _ h hP hS dX6_lend_46 rfl
    have h := rs_neg hc h
    refine lv_iconst (v := 2) hx hb dX6_lend_32 (by decide) ?_
    exact ret _ _ () _ _ _ _ h hP hS dX6_lend_33 rfl
  have h := rs_pos hc h
  refine lv_iconst (v := 1) hx hb dX6_lend_5 (by decide) ?_
  exact ret _ _ () _ _ _ _ h hP hS dX6_lend_6 rfl
