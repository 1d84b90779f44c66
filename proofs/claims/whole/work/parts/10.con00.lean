theorem uX6_of_6 : ∀ w ∈ wsX60, w ∈ wsX6_of := fun _ h => List.mem_cons_of_mem _ (List.mem_append_right _ h)
abbrev rmX6_of : Room := { frames := 0, cells := 0, slots := 0, locals := 0 }
set_option maxRecDepth 100000 in
set_option maxHeartbeats 4000000 in
theorem c_X6_of (l : Launch) (G : rs_G) (A_a0 : Nat) (A_a0_cells : Nat) (v_a0_cells : (Nat → Int32)) (p1 : Int32) (p2 : Int32) (r0 : Int32) (h : f_X6_of p1 p2 v_a0_cells = some r0) : rs_Ci l yX6_of wsX6_of rmX6_of G [.ref A_a0, .int p1, .int p2] [(A_a0, .inr (6, [.ref A_a0_cells])), (A_a0_cells, .inl (G.2.1, 36, .inl v_a0_cells))] (fun (_ : Unit) => [(A_a0, .inr (6, [.ref A_a0_cells])), (A_a0_cells, .inl (G.2.1, 36, .inl v_a0_cells))]) r0 := by
  refine rs_enter_i (cc := cX6_of) (maxL := 4) (ty := .int) (by decide) rfl (Nat.le_of_ble_eq_true rfl) (fun p e s m args below meth c A Q ls E ret hP hD hS hA hl => ?_)
  obtain ⟨hx, hb, hml, hown, hts, hK⟩ := E
  have hown : s.vm.findClass RX6 = some m.cls := hown
  have hl : lv_has ls 4 [(0, .ref A_a0), (1, .int p1), (2, .int p2)] := hl
  have ret : ∀ (v0 : Int32) (u : Unit) (H : Heap) (locs : List Loc) (pc : Nat) (ls : Array Slot), some v0 = some r0 → va_P G.1 vwCl [(A_a0, .inr (6, [.ref A_a0_cells])), (A_a0_cells, .inl (G.2.1, 36, .inl v_a0_cells))] H → va_S A s.heap H locs → decode cX6_of pc = .ok (.ireturn, 1) → narrow .int (.int v0) = .int v0 → W p l e rmX6_of s m args below meth c H locs 0 0 Q (F0 m pc ls [.int v0]) := by
    intro v0 u H locs pc ls hz
    cases hz
    exact ret u H locs pc ls
  unfold f_X6_of at h
  refine lv_iconst (v := 4) hx hb dX6_of_0 (by decide) ?_
  refine lv_iload_n hx hb dX6_of_1 rfl (lv_at hl 1 rfl) ?_
  refine lv_imul hx hb dX6_of_2 ?_
  refine lv_iload_n hx hb dX6_of_3 rfl (lv_at hl 2 rfl) ?_
  refine lv_iadd hx hb dX6_of_4 ?_
  refine rs_topi h (fun x1 h => ?_)
  refine lv_istore_n (lv' := [(3, .int x1), (0, .ref A_a0), (1, .int p1), (2, .int p2)]) hx hb dX6_of_5 rfl hl (by decide) rfl (fun ls hl => ?_)
  refine lv_iload_n hx hb dX6_of_6 rfl (lv_at hl 0 rfl) ?_
  refine lv_if_lt (tgt := 28) hx hb dX6_of_7 (by decide) (fun hc => ?_) (fun hc => ?_)
  · have h := rs_pos hc h
    refine lv_iconst (v := 0) hx hb dX6_of_28 (by decide) ?_
    exact ret _ () _ _ _ _ h hP hS dX6_of_29 rfl
  have h := rs_neg hc h
  refine lv_iload_n hx hb dX6_of_10 rfl (lv_at hl 0 rfl) ?_
  refine lv_aload_n hx hb dX6_of_11 rfl (lv_at hl 1 rfl) ?_
  refine va_get (D := G.1) (ci := 6) (v := .ref A_a0_cells) (C := RX6) (T := TX6) (N := 1) hx hb hts uX6_of_6 hown hK.1 hP 0 rfl rfl 0 (by decide) (hts (.fieldLink RX6 9 "RingShadow$Stock" "cells" "[I") (List.mem_of_getElem? (i := 1) rfl)) (fun _ h9 => h9) rfl dX6_of_12 ?_
  refine va_alen (v := 36) hx hb hK.1 hP 1 0 rfl rfl rfl dX6_of_15 ?_
  refine lv_icmp_ge (tgt := 28) hx hb dX6_of_16 (by decide) (fun hc => ?_) (fun hc => ?_)
  · have h := rs_pos hc h
    refine lv_iconst (v := 0) hx hb dX6_of_28 (by decide) ?_
    exact ret _ () _ _ _ _ h hP hS dX6_of_29 rfl
  have h := rs_neg hc h
  refine lv_aload_n hx hb dX6_of_19 rfl (lv_at hl 1 rfl) ?_
  refine va_get (D := G.1) (ci := 6) (v := .ref A_a0_cells) (C := RX6) (T := TX6) (N := 1) hx hb hts uX6_of_6 hown hK.1 hP 0 rfl rfl 0 (by decide) (hts (.fieldLink RX6 9 "RingShadow$Stock" "cells" "[I") (List.mem_of_getElem? (i := 1) rfl)) (fun _ h9 => h9) rfl dX6_of_20 ?_
  refine lv_iload_n hx hb dX6_of_23 rfl (lv_at hl 0 rfl) ?_
  obtain ⟨hg, h⟩ := rs_gd h
  refine va_iald hx hb hK.1 hP 1 0 rfl rfl hg dX6_of_24 ?_
  refine lv_goto (tgt := 29) hx hb dX6_of_25 (by decide) ?_
  exact ret _ () _ _ _ _ h hP hS dX6_of_29 rfl
abbrev rmX6_together : Room := { frames := 1, cells := 0, slots := 0, locals := 23 }
set_option maxRecDepth 100000 in
set_option maxHeartbeats 4000000 in
theorem c_X6_together (l : Launch) (G : rs_G) (A_a0 : Nat) (A_a0_cells : Nat) (v_a0_cells : (Nat → Int32)) (p1 : Int32) (N : Nat) (r0 : Int32) (h : f_X6_together N p1 v_a0_cells = some r0) : rs_Ci l yX6_together wsX6_together rmX6_together G [.ref A_a0, .int p1] [(A_a0, .inr (6, [.ref A_a0_cells])), (A_a0_cells, .inl (G.2.1, 36, .inl v_a0_cells))] (fun (_ : Unit) => [(A_a0, .inr (6, [.ref A_a0_cells])), (A_a0_cells, .inl (G.2.1, 36, .inl v_a0_cells))]) r0 := by
  refine rs_enter_i (cc := cX6_together) (maxL := 4) (ty := .int) (by decide) rfl (Nat.le_of_ble_eq_true rfl) (fun p e s m args below meth c A Q ls E ret hP hD hS hA hl => ?_)
  obtain ⟨hx, hb, hml, hown, hts, hK⟩ := E
  have hown : s.vm.findClass RX6 = some m.cls := hown
  have hl : lv_has ls 4 [(0, .ref A_a0), (1, .int p1)] := hl
  have ret : ∀ (v0 : Int32) (u : Unit) (H : Heap) (locs : List Loc) (pc : Nat) (ls : Array Slot), some v0 = some r0 → va_P G.1 vwCl [(A_a0, .inr (6, [.ref A_a0_cells])), (A_a0_cells, .inl (G.2.1, 36, .inl v_a0_cells))] H → va_S A s.heap H locs → decode cX6_together pc = .ok (.ireturn, 1) → narrow .int (.int v0) = .int v0 → W p l e rmX6_together s m args below meth c H locs 0 0 Q (F0 m pc ls [.int v0]) := by
    intro v0 u H locs pc ls hz
    cases hz
    exact ret u H locs pc ls
  unfold f_X6_together at h
  refine lv_iconst (v := 0) hx hb dX6_together_0 (by decide) ?_
  refine lv_istore_n (lv' := [(2, .int 0), (0, .ref A_a0), (1, .int p1)]) hx hb dX6_together_1 rfl hl (by decide) rfl (fun ls hl => ?_)
  refine lv_iconst (v := 0) hx hb dX6_together_2 (by decide) ?_
  refine lv_istore_n (lv' := [(3, .int 0), (2, .int 0), (0, .ref A_a0), (1, .int p1)]) hx hb dX6_together_3 rfl hl (by decide) rfl (fun ls hl => ?_)
  obtain ⟨X9, hX9, h⟩ := rs_b1s h
  have J9 : ∀ (x10 : Int32), X9 = x10 → ∀  (H : Heap) (locs : List Loc) (ls : Array Slot), va_P G.1 vwCl [(A_a0, .inr (6, [.ref A_a0_cells])), (A_a0_cells, .inl (G.2.1, 36, .inl v_a0_cells))] H → va_D A [(A_a0, .inr (6, [.ref A_a0_cells])), (A_a0_cells, .inl (G.2.1, 36, .inl v_a0_cells))] → va_S A s.heap H locs → lv_has ls 4 [(2, .int x10)] → W p l e rmX6_together s m args below meth c H locs 0 0 Q (F0 m 24 ls []) := by
    intro x10 hz  H locs ls hP hD hS hl
    have h := h _ hz
    refine lv_iload_n hx hb dX6_together_24 rfl (lv_at hl 0 rfl) ?_
    exact ret _ () _ _ _ _ h hP hS dX6_together_25 rfl
  refine rs_l2W (Wd := fun (x4 : Int32) (x5 : Int32) => ∀  (H : Heap) (locs : List Loc) (ls : Array Slot), va_P G.1 vwCl [(A_a0, .inr (6, [.ref A_a0_cells])), (A_a0_cells, .inl (G.2.1, 36, .inl v_a0_cells))] H → va_D A [(A_a0, .inr (6, [.ref A_a0_cells])), (A_a0_cells, .inl (G.2.1, 36, .inl v_a0_cells))] → va_S A s.heap H locs → lv_has ls 4 [(0, .ref A_a0), (1, .int p1), (2, .int x4), (3, .int x5)] → W p l e rmX6_together s m args below meth c H locs 0 0 Q (F0 m 4 ls [])) ?_ N 0 0 hX9 _ _ _ hP hD hS (lv_sub hl [2, 3, 1, 0] rfl)
  intro x4 x5 o9 h K9 L9  H locs ls hP hD hS hl
  unfold f_X6_together_L4 at h
  refine lv_iload_n hx hb dX6_together_4 rfl (lv_at hl 3 rfl) ?_
  refine lv_iload_n hx hb dX6_together_5 rfl (lv_at hl 1 rfl) ?_
  refine lv_icmp_ge (tgt := 24) hx hb dX6_together_6 (by decide) (fun hc => ?_) (fun hc => ?_)
  · have h := rs_pos hc h
    exact J9 _ (L9 _ (Option.some.inj h).symm) _ _ _ hP hD hS (lv_sub hl [2] rfl)
  have h := rs_neg hc h
  refine lv_iload_n hx hb dX6_together_9 rfl (lv_at hl 2 rfl) ?_
  refine lv_aload_n hx hb dX6_together_10 rfl (lv_at hl 0 rfl) ?_
  refine lv_iload_n hx hb dX6_together_11 rfl (lv_at hl 3 rfl) ?_
  refine lv_iconst (v := 2) hx hb dX6_together_12 (by decide) ?_
  obtain ⟨x11, h12, h⟩ := rs_b1s h
  have h := h _ rfl
  refine rs_callVi (As := [.int x5, .int 2]) (rest := [.int x4]) ⟨hx, hb, hml, hown, hts⟩ (c_X6_of l G A_a0 A_a0_cells v_a0_cells x5 2 x11 h12) (cwV 2 hts gX6_together_X6_of rfl rfl rfl (by decide +kernel) ⟨Nat.le_of_ble_eq_true rfl, Nat.le_of_ble_eq_true rfl⟩) dX6_together_13 hK hP hD hS hA [0, 1] rfl (by decide) rfl rfl (q0 := 0) (ci := 6) rfl rfl rfl hl.1 (lv_room (Nat.le_of_ble_eq_true rfl)) ⟨Nat.zero_le _, Nat.zero_le _⟩ (fun (_ : Unit) => [(A_a0, .inr (6, [.ref A_a0_cells])), (A_a0_cells, .inl (G.2.1, 36, .inl v_a0_cells))]) (fun _ => rfl) (fun _ => rfl) (fun u12 H locs hP hD hS => ?_)
  refine lv_iadd hx hb dX6_together_16 ?_
  refine rs_topi h (fun x13 h => ?_)
  refine lv_istore_n (lv' := [(2, .int x13), (0, .ref A_a0), (1, .int p1), (3, .int x5)]) hx hb dX6_together_17 rfl hl (by decide) rfl (fun ls hl => ?_)
  refine lv_iinc (v := (x5 + 1)) (lv' := [(3, .int (x5 + 1)), (2, .int x13), (0, .ref A_a0), (1, .int p1)]) hx hb dX6_together_18 hl (k := 3) rfl (by first | rfl | decide) (by decide) rfl (fun ls hl => ?_)
  refine lv_goto (tgt := 4) hx hb dX6_together_21 (by decide) ?_
  exact K9 _ _ (Option.some.inj h).symm _ _ _ hP hD hS (lv_sub hl [2, 3, 1, 0] rfl)
abbrev rmX10_put : Room := { frames := 0, cells := 0, slots := 0, locals := 0 }
set_option maxRecDepth 100000 in
set_option maxHeartbeats 4000000 in
theorem c_X10_put (l : Launch) (G : rs_G) (A_a0 : Nat) (v_a0 : (Nat → Int32)) (n_a0 : Nat) (p1 : Int32) (p2 : Int32) (o0 : (Nat → Int32)) (h : f_X10_put n_a0 p1 p2 v_a0 = some o0) : rs_Cv l yX10_put wsX10_put rmX10_put G [.ref A_a0, .int p1, .int p2] [(A_a0, .inl (G.2.1, n_a0, .inl v_a0))] (fun (_ : Unit) => [(A_a0, .inl (G.2.1, n_a0, .inl o0))]) := by
  refine rs_enter_v (cc := cX10_put) (maxL := 3) (by decide) rfl (Nat.le_of_ble_eq_true rfl) (fun p e s m args below meth c A Q ls E ret hP hD hS hA hl => ?_)
  obtain ⟨hx, hb, hml, hown, hts, hK⟩ := E
  have hown : s.vm.findClass RX10 = some m.cls := hown
  have hl : lv_has ls 3 [(0, .ref A_a0), (1, .int p1), (2, .int p2)] := hl
  have ret : ∀ (w0 : (Nat → Int32)) (u : Unit) (H : Heap) (locs : List Loc) (pc : Nat) (ls : Array Slot), some w0 = some o0 → va_P G.1 vwCl [(A_a0, .inl (G.2.1, n_a0, .inl w0))] H → va_S A s.heap H locs → decode cX10_put pc = .ok (.return_, 1) → W p l e rmX10_put s m args below meth c H locs 0 0 Q (F0 m pc ls []) := by
    intro w0 u H locs pc ls hz
    cases hz
    exact ret u H locs pc ls
  unfold f_X10_put at h
  refine lv_iload_n hx hb dX10_put_0 rfl (lv_at hl 1 rfl) ?_
  refine lv_if_lt (tgt := 14) hx hb dX10_put_1 (by decide) (fun hc => ?_) (fun hc => ?_)
  · have h := rs_pos hc h
    exact ret _ () _ _ _ _ h hP hS dX10_put_14
  have h := rs_neg hc h
  refine lv_iload_n hx hb dX10_put_4 rfl (lv_at hl 1 rfl) ?_
  refine lv_aload_n hx hb dX10_put_5 rfl (lv_at hl 0 rfl) ?_
  refine va_alen (v := (Int32.ofNat n_a0)) hx hb hK.1 hP 0 0 rfl rfl rfl dX10_put_6 ?_
  refine lv_icmp_ge (tgt := 14) hx hb dX10_put_7 (by decide) (fun hc => ?_) (fun hc => ?_)
  · have h := rs_pos hc h
    exact ret _ () _ _ _ _ h hP hS dX10_put_14
  have h := rs_neg hc h
  refine lv_aload_n hx hb dX10_put_10 rfl (lv_at hl 0 rfl) ?_
  refine lv_iload_n hx hb dX10_put_11 rfl (lv_at hl 1 rfl) ?_
  refine lv_iload_n hx hb dX10_put_12 rfl (lv_at hl 2 rfl) ?_
  obtain ⟨hg, h⟩ := rs_gd h
  refine va_iast hx hb hK.1 hP hD hS 0 0 rfl rfl hg dX10_put_13 (fun H locs hP hD hS => ?_)
  have hP : va_P G.1 vwCl [(A_a0, .inl (G.2.1, n_a0, .inl (upd v_a0 p1.toNatClampNeg p2)))] H := hP
  have hD : va_D A [(A_a0, .inl (G.2.1, n_a0, .inl (upd v_a0 p1.toNatClampNeg p2)))] := hD
  exact ret _ () _ _ _ _ h hP hS dX10_put_14
theorem uX4_firstAt_4 : ∀ w ∈ wsX40, w ∈ wsX4_firstAt := fun _ h => List.mem_cons_of_mem _ (List.mem_append_right _ h)
abbrev rmX4_firstAt : Room := { frames := 0, cells := 0, slots := 0, locals := 0 }
set_option maxRecDepth 100000 in
set_option maxHeartbeats 4000000 in
theorem c_X4_firstAt (l : Launch) (G : rs_G) (A_a0 : Nat) (v_a0_lands : Int32) (v_a0_wide : Int32) (v_a0_pace : Int32) (v_a0_age : Int32) (v_a0_slits : Int32) (v_a0_slitA : Int32) (v_a0_slitB : Int32) (p1 : Int32) (r0 : Int32) (h : f_X4_firstAt p1 v_a0_lands v_a0_wide v_a0_pace v_a0_age = some r0) : rs_Ci l yX4_firstAt wsX4_firstAt rmX4_firstAt G [.ref A_a0, .int p1] [(A_a0, .inr (4, [.int v_a0_lands, .int v_a0_wide, .int v_a0_pace, .int v_a0_age, .int v_a0_slits, .int v_a0_slitA, .int v_a0_slitB]))] (fun (_ : Unit) => [(A_a0, .inr (4, [.int v_a0_lands, .int v_a0_wide, .int v_a0_pace, .int v_a0_age, .int v_a0_slits, .int v_a0_slitA, .int v_a0_slitB]))]) r0 := by
  refine rs_enter_i (cc := cX4_firstAt) (maxL := 4) (ty := .int) (by decide) rfl (Nat.le_of_ble_eq_true rfl) (fun p e s m args below meth c A Q ls E ret hP hD hS hA hl => ?_)
  obtain ⟨hx, hb, hml, hown, hts, hK⟩ := E
  have hown : s.vm.findClass RX4 = some m.cls := hown
  have hl : lv_has ls 4 [(0, .ref A_a0), (1, .int p1)] := hl
  have ret : ∀ (v0 : Int32) (u : Unit) (H : Heap) (locs : List Loc) (pc : Nat) (ls : Array Slot), some v0 = some r0 → va_P G.1 vwCl [(A_a0, .inr (4, [.int v_a0_lands, .int v_a0_wide, .int v_a0_pace, .int v_a0_age, .int v_a0_slits, .int v_a0_slitA, .int v_a0_slitB]))] H → va_S A s.heap H locs → decode cX4_firstAt pc = .ok (.ireturn, 1) → narrow .int (.int v0) = .int v0 → W p l e rmX4_firstAt s m args below meth c H locs 0 0 Q (F0 m pc ls [.int v0]) := by
    intro v0 u H locs pc ls hz
    cases hz
    exact ret u H locs pc ls
  unfold f_X4_firstAt at h
  refine lv_aload_n hx hb dX4_firstAt_0 rfl (lv_at hl 0 rfl) ?_
  refine va_get (D := G.1) (ci := 4) (v := .int v_a0_lands) (C := RX4) (T := TX4) (N := 7) hx hb hts uX4_firstAt_4 hown hK.1 hP 0 rfl rfl 0 (by decide) (hts (.fieldLink RX4 9 "RingShadow$Shadow" "lands" "I") (List.mem_of_getElem? (i := 1) rfl)) (fun _ h9 => h9) rfl dX4_firstAt_1 ?_
  refine lv_aload_n hx hb dX4_firstAt_4 rfl (lv_at hl 0 rfl) ?_
  refine va_get (D := G.1) (ci := 4) (v := .int v_a0_wide) (C := RX4) (T := TX4) (N := 7) hx hb hts uX4_firstAt_4 hown hK.1 hP 0 rfl rfl 1 (by decide) (hts (.fieldLink RX4 15 "RingShadow$Shadow" "wide" "I") (List.mem_of_getElem? (i := 2) rfl)) (fun _ h9 => h9) rfl dX4_firstAt_5 ?_
  refine lv_isub hx hb dX4_firstAt_8 ?_
  refine rs_topi h (fun x1 h => ?_)
  refine lv_istore_n (lv' := [(2, .int x1), (0, .ref A_a0), (1, .int p1)]) hx hb dX4_firstAt_9 rfl hl (by decide) rfl (fun ls hl => ?_)
  refine lv_aload_n hx hb dX4_firstAt_10 rfl (lv_at hl 1 rfl) ?_
  refine va_get (D := G.1) (ci := 4) (v := .int v_a0_pace) (C := RX4) (T := TX4) (N := 7) hx hb hts uX4_firstAt_4 hown hK.1 hP 0 rfl rfl 2 (by decide) (hts (.fieldLink RX4 18 "RingShadow$Shadow" "pace" "I") (List.mem_of_getElem? (i := 3) rfl)) (fun _ h9 => h9) rfl dX4_firstAt_11 ?_
  refine lv_iconst (v := 1) hx hb dX4_firstAt_14 (by decide) ?_
  refine lv_icmp_lt (tgt := 23) hx hb dX4_firstAt_15 (by decide) (fun hc => ?_) (fun hc => ?_)
  · have h := rs_pos hc h
    refine lv_iconst (v := 0) hx hb dX4_firstAt_23 (by decide) ?_
    exact ret _ () _ _ _ _ h hP hS dX4_firstAt_24 rfl
  have h := rs_neg hc h
  refine lv_iload_n hx hb dX4_firstAt_18 rfl (lv_at hl 0 rfl) ?_
  refine lv_iconst (v := 1) hx hb dX4_firstAt_19 (by decide) ?_
  refine lv_icmp_ge (tgt := 25) hx hb dX4_firstAt_20 (by decide) (fun hc => ?_) (fun hc => ?_)
  · have h := rs_pos hc h
    refine lv_iload_n hx hb dX4_firstAt_25 rfl (lv_at hl 2 rfl) ?_
    refine lv_aload_n hx hb dX4_firstAt_26 rfl (lv_at hl 1 rfl) ?_
    refine va_get (D := G.1) (ci := 4) (v := .int v_a0_age) (C := RX4) (T := TX4) (N := 7) hx hb hts uX4_firstAt_4 hown hK.1 hP 0 rfl rfl 3 (by decide) (hts (.fieldLink RX4 21 "RingShadow$Shadow" "age" "I") (List.mem_of_getElem? (i := 4) rfl)) (fun _ h9 => h9) rfl dX4_firstAt_27 ?_
    refine lv_iadd hx hb dX4_firstAt_30 ?_
    refine lv_aload_n hx hb dX4_firstAt_31 rfl (lv_at hl 1 rfl) ?_
    refine va_get (D := G.1) (ci := 4) (v := .int v_a0_pace) (C := RX4) (T := TX4) (N := 7) hx hb hts uX4_firstAt_4 hown hK.1 hP 0 rfl rfl 2 (by decide) (hts (.fieldLink RX4 18 "RingShadow$Shadow" "pace" "I") (List.mem_of_getElem? (i := 3) rfl)) (fun _ h9 => h9) rfl dX4_firstAt_32 ?_
    obtain ⟨hg, h⟩ := rs_gd h
    refine lv_idiv hx hb dX4_firstAt_35 hg ?_
    refine lv_iconst (v := 2) hx hb dX4_firstAt_36 (by decide) ?_
    refine lv_iload_n hx hb dX4_firstAt_37 rfl (lv_at hl 0 rfl) ?_
    refine lv_imul hx hb dX4_firstAt_38 ?_
    obtain ⟨hg, h⟩ := rs_gd h
    refine lv_irem hx hb dX4_firstAt_39 hg ?_
    refine rs_topi h (fun x2 h => ?_)
    refine lv_istore_n (lv' := [(3, .int x2), (2, .int x1), (0, .ref A_a0), (1, .int p1)]) hx hb dX4_firstAt_40 rfl hl (by decide) rfl (fun ls hl => ?_)
    refine lv_iload_n hx hb dX4_firstAt_41 rfl (lv_at hl 0 rfl) ?_
    refine lv_iload_n hx hb dX4_firstAt_42 rfl (lv_at hl 1 rfl) ?_
    refine lv_icmp_le (tgt := 54) hx hb dX4_firstAt_43 (by decide) (fun hc => ?_) (fun hc => ?_)
    · have h := rs_pos hc h
      refine lv_iload_n hx hb dX4_firstAt_54 rfl (lv_at hl 0 rfl) ?_
      exact ret _ () _ _ _ _ h hP hS dX4_firstAt_55 rfl
    have h := rs_neg hc h
    refine lv_iconst (v := 2) hx hb dX4_firstAt_46 (by decide) ?_
    refine lv_iload_n hx hb dX4_firstAt_47 rfl (lv_at hl 1 rfl) ?_
    refine lv_imul hx hb dX4_firstAt_48 ?_
    refine lv_iload_n hx hb dX4_firstAt_49 rfl (lv_at hl 0 rfl) ?_
    refine lv_isub hx hb dX4_firstAt_50 ?_
    refine lv_goto (tgt := 55) hx hb dX4_firstAt_51 (by decide) ?_
    exact ret _ () _ _ _ _ h hP hS dX4_firstAt_55 rfl
  have h := rs_neg hc h
  refine lv_iconst (v := 0) hx hb dX4_firstAt_23 (by decide) ?_
  exact ret _ () _ _ _ _ h hP hS dX4_firstAt_24 rfl
theorem uX4_covers_4 : ∀ w ∈ wsX40, w ∈ wsX4_covers := fun _ h => List.mem_cons_of_mem _ (List.mem_append_right _ h)
abbrev rmX4_covers : Room := { frames := 1, cells := 0, slots := 0, locals := 23 }
set_option maxRecDepth 100000 in
set_option maxHeartbeats 4000000 in
theorem c_X4_covers (l : Launch) (G : rs_G) (A_a0 : Nat) (v_a0_lands : Int32) (v_a0_wide : Int32) (v_a0_pace : Int32) (v_a0_age : Int32) (v_a0_slits : Int32) (v_a0_slitA : Int32) (v_a0_slitB : Int32) (p1 : Int32) (p2 : Int32) (r0 : Int32) (h : f_X4_covers p1 p2 v_a0_lands v_a0_wide v_a0_pace v_a0_age = some r0) : rs_Ci l yX4_covers wsX4_covers rmX4_covers G [.ref A_a0, .int p1, .int p2] [(A_a0, .inr (4, [.int v_a0_lands, .int v_a0_wide, .int v_a0_pace, .int v_a0_age, .int v_a0_slits, .int v_a0_slitA, .int v_a0_slitB]))] (fun (_ : Unit) => [(A_a0, .inr (4, [.int v_a0_lands, .int v_a0_wide, .int v_a0_pace, .int v_a0_age, .int v_a0_slits, .int v_a0_slitA, .int v_a0_slitB]))]) r0 := by
  refine rs_enter_i (cc := cX4_covers) (maxL := 4) (ty := .boolean) (by decide) rfl (Nat.le_of_ble_eq_true rfl) (fun p e s m args below meth c A Q ls E ret hP hD hS hA hl => ?_)
  obtain ⟨hx, hb, hml, hown, hts, hK⟩ := E
  have hown : s.vm.findClass RX4 = some m.cls := hown
  have hl : lv_has ls 4 [(0, .ref A_a0), (1, .int p1), (2, .int p2)] := hl
  have ret : ∀ (v0 : Int32) (u : Unit) (H : Heap) (locs : List Loc) (pc : Nat) (ls : Array Slot), some v0 = some r0 → va_P G.1 vwCl [(A_a0, .inr (4, [.int v_a0_lands, .int v_a0_wide, .int v_a0_pace, .int v_a0_age, .int v_a0_slits, .int v_a0_slitA, .int v_a0_slitB]))] H → va_S A s.heap H locs → decode cX4_covers pc = .ok (.ireturn, 1) → narrow .boolean (.int v0) = .int v0 → W p l e rmX4_covers s m args below meth c H locs 0 0 Q (F0 m pc ls [.int v0]) := by
    intro v0 u H locs pc ls hz
    cases hz
    exact ret u H locs pc ls
  unfold f_X4_covers at h
  refine lv_aload_n hx hb dX4_covers_0 rfl (lv_at hl 0 rfl) ?_
  refine lv_iload_n hx hb dX4_covers_1 rfl (lv_at hl 2 rfl) ?_
  obtain ⟨x1, h2, h⟩ := rs_b1s h
  have h := h _ rfl
  refine rs_callVi (As := [.int p2]) (rest := []) ⟨hx, hb, hml, hown, hts⟩ (c_X4_firstAt l G A_a0 v_a0_lands v_a0_wide v_a0_pace v_a0_age v_a0_slits v_a0_slitA v_a0_slitB p2 x1 h2) (cwV 1 hts gX4_covers_X4_firstAt rfl rfl rfl (by decide +kernel) ⟨Nat.le_of_ble_eq_true rfl, Nat.le_of_ble_eq_true rfl⟩) dX4_covers_2 hK hP hD hS hA [0] rfl (by decide) rfl rfl (q0 := 0) (ci := 4) rfl rfl rfl hl.1 (lv_room (Nat.le_of_ble_eq_true rfl)) ⟨Nat.zero_le _, Nat.zero_le _⟩ (fun (_ : Unit) => [(A_a0, .inr (4, [.int v_a0_lands, .int v_a0_wide, .int v_a0_pace, .int v_a0_age, .int v_a0_slits, .int v_a0_slitA, .int v_a0_slitB]))]) (fun _ => rfl) (fun _ => rfl) (fun u2 H locs hP hD hS => ?_)
  refine lv_istore_n (lv' := [(3, .int x1), (0, .ref A_a0), (1, .int p1), (2, .int p2)]) hx hb dX4_covers_5 rfl hl (by decide) rfl (fun ls hl => ?_)
  refine lv_iload_n hx hb dX4_covers_6 rfl (lv_at hl 2 rfl) ?_
  refine lv_iload_n hx hb dX4_covers_7 rfl (lv_at hl 0 rfl) ?_
  refine lv_icmp_lt (tgt := 25) hx hb dX4_covers_8 (by decide) (fun hc => ?_) (fun hc => ?_)
  · have h := rs_pos hc h
    refine lv_iconst (v := 0) hx hb dX4_covers_25 (by decide) ?_
    exact ret _ () _ _ _ _ h hP hS dX4_covers_26 rfl
  have h := rs_neg hc h
  refine lv_iload_n hx hb dX4_covers_11 rfl (lv_at hl 2 rfl) ?_
  refine lv_iload_n hx hb dX4_covers_12 rfl (lv_at hl 0 rfl) ?_
  refine lv_aload_n hx hb dX4_covers_13 rfl (lv_at hl 1 rfl) ?_
  refine va_get (D := G.1) (ci := 4) (v := .int v_a0_wide) (C := RX4) (T := TX4) (N := 7) hx hb hts uX4_covers_4 hown hK.1 hP 0 rfl rfl 1 (by decide) (hts (.fieldLink RX4 15 "RingShadow$Shadow" "wide" "I") (List.mem_of_getElem? (i := 1) rfl)) (fun _ h9 => h9) rfl dX4_covers_14 ?_
  refine lv_iadd hx hb dX4_covers_17 ?_
  refine lv_icmp_ge (tgt := 25) hx hb dX4_covers_18 (by decide) (fun hc => ?_) (fun hc => ?_)
  · have h := rs_pos hc h
    refine lv_iconst (v := 0) hx hb dX4_covers_25 (by decide) ?_
    exact ret _ () _ _ _ _ h hP hS dX4_covers_26 rfl
  have h := rs_neg hc h
  refine lv_iconst (v := 1) hx hb dX4_covers_21 (by decide) ?_
  refine lv_goto (tgt := 26) hx hb dX4_covers_22 (by decide) ?_
  exact ret _ () _ _ _ _ h hP hS dX4_covers_26 rfl
theorem uX4_hasSlit_4 : ∀ w ∈ wsX40, w ∈ wsX4_hasSlit := fun _ h => List.mem_cons_of_mem _ (List.mem_append_right _ h)
abbrev rmX4_hasSlit : Room := { frames := 0, cells := 0, slots := 0, locals := 0 }
set_option maxRecDepth 100000 in
set_option maxHeartbeats 4000000 in
theorem c_X4_hasSlit (l : Launch) (G : rs_G) (A_a0 : Nat) (v_a0_lands : Int32) (v_a0_wide : Int32) (v_a0_pace : Int32) (v_a0_age : Int32) (v_a0_slits : Int32) (v_a0_slitA : Int32) (v_a0_slitB : Int32) (p1 : Int32) (p2 : Int32) (r0 : Int32) (h : f_X4_hasSlit p1 p2 v_a0_slits v_a0_slitA v_a0_slitB = some r0) : rs_Ci l yX4_hasSlit wsX4_hasSlit rmX4_hasSlit G [.ref A_a0, .int p1, .int p2] [(A_a0, .inr (4, [.int v_a0_lands, .int v_a0_wide, .int v_a0_pace, .int v_a0_age, .int v_a0_slits, .int v_a0_slitA, .int v_a0_slitB]))] (fun (_ : Unit) => [(A_a0, .inr (4, [.int v_a0_lands, .int v_a0_wide, .int v_a0_pace, .int v_a0_age, .int v_a0_slits, .int v_a0_slitA, .int v_a0_slitB]))]) r0 := by
  refine rs_enter_i (cc := cX4_hasSlit) (maxL := 3) (ty := .boolean) (by decide) rfl (Nat.le_of_ble_eq_true rfl) (fun p e s m args below meth c A Q ls E ret hP hD hS hA hl => ?_)
  obtain ⟨hx, hb, hml, hown, hts, hK⟩ := E
  have hown : s.vm.findClass RX4 = some m.cls := hown
  have hl : lv_has ls 3 [(0, .ref A_a0), (1, .int p1), (2, .int p2)] := hl
  have ret : ∀ (v0 : Int32) (u : Unit) (H : Heap) (locs : List Loc) (pc : Nat) (ls : Array Slot), some v0 = some r0 → va_P G.1 vwCl [(A_a0, .inr (4, [.int v_a0_lands, .int v_a0_wide, .int v_a0_pace, .int v_a0_age, .int v_a0_slits, .int v_a0_slitA, .int v_a0_slitB]))] H → va_S A s.heap H locs → decode cX4_hasSlit pc = .ok (.ireturn, 1) → narrow .boolean (.int v0) = .int v0 → W p l e rmX4_hasSlit s m args below meth c H locs 0 0 Q (F0 m pc ls [.int v0]) := by
    intro v0 u H locs pc ls hz
    cases hz
    exact ret u H locs pc ls
  unfold f_X4_hasSlit at h
  refine lv_aload_n hx hb dX4_hasSlit_0 rfl (lv_at hl 0 rfl) ?_
  refine va_get (D := G.1) (ci := 4) (v := .int v_a0_slits) (C := RX4) (T := TX4) (N := 7) hx hb hts uX4_hasSlit_4 hown hK.1 hP 0 rfl rfl 4 (by decide) (hts (.fieldLink RX4 24 "RingShadow$Shadow" "slits" "I") (List.mem_of_getElem? (i := 1) rfl)) (fun _ h9 => h9) rfl dX4_hasSlit_1 ?_
  refine lv_if_eq (tgt := 32) hx hb dX4_hasSlit_4 (by decide) (fun hc => ?_) (fun hc => ?_)
  · have h := rs_pos hc h
    refine lv_iconst (v := 0) hx hb dX4_hasSlit_32 (by decide) ?_
    exact ret _ () _ _ _ _ h hP hS dX4_hasSlit_33 rfl
  have h := rs_neg hc h
  refine lv_iload_n hx hb dX4_hasSlit_7 rfl (lv_at hl 2 rfl) ?_
  refine lv_aload_n hx hb dX4_hasSlit_8 rfl (lv_at hl 0 rfl) ?_
  refine va_get (D := G.1) (ci := 4) (v := .int v_a0_slitA) (C := RX4) (T := TX4) (N := 7) hx hb hts uX4_hasSlit_4 hown hK.1 hP 0 rfl rfl 5 (by decide) (hts (.fieldLink RX4 27 "RingShadow$Shadow" "slitA" "I") (List.mem_of_getElem? (i := 2) rfl)) (fun _ h9 => h9) rfl dX4_hasSlit_9 ?_
  refine lv_imul hx hb dX4_hasSlit_12 ?_
  refine lv_iload_n hx hb dX4_hasSlit_13 rfl (lv_at hl 1 rfl) ?_
  refine lv_aload_n hx hb dX4_hasSlit_14 rfl (lv_at hl 0 rfl) ?_
  refine va_get (D := G.1) (ci := 4) (v := .int v_a0_slitB) (C := RX4) (T := TX4) (N := 7) hx hb hts uX4_hasSlit_4 hown hK.1 hP 0 rfl rfl 6 (by decide) (hts (.fieldLink RX4 30 "RingShadow$Shadow" "slitB" "I") (List.mem_of_getElem? (i := 3) rfl)) (fun _ h9 => h9) rfl dX4_hasSlit_15 ?_
  refine lv_imul hx hb dX4_hasSlit_18 ?_
  refine lv_iadd hx hb dX4_hasSlit_19 ?_
  refine lv_aload_n hx hb dX4_hasSlit_20 rfl (lv_at hl 0 rfl) ?_
  refine va_get (D := G.1) (ci := 4) (v := .int v_a0_slits) (C := RX4) (T := TX4) (N := 7) hx hb hts uX4_hasSlit_4 hown hK.1 hP 0 rfl rfl 4 (by decide) (hts (.fieldLink RX4 24 "RingShadow$Shadow" "slits" "I") (List.mem_of_getElem? (i := 1) rfl)) (fun _ h9 => h9) rfl dX4_hasSlit_21 ?_
  obtain ⟨hg, h⟩ := rs_gd h
  refine lv_irem hx hb dX4_hasSlit_24 hg ?_
  refine lv_if_ne (tgt := 32) hx hb dX4_hasSlit_25 (by decide) (fun hc => ?_) (fun hc => ?_)
  · have h := rs_neg hc h
    refine lv_iconst (v := 0) hx hb dX4_hasSlit_32 (by decide) ?_
    exact ret _ () _ _ _ _ h hP hS dX4_hasSlit_33 rfl
  have h := rs_pos hc h
  refine lv_iconst (v := 1) hx hb dX4_hasSlit_28 (by decide) ?_
  refine lv_goto (tgt := 33) hx hb dX4_hasSlit_29 (by decide) ?_
  exact ret _ () _ _ _ _ h hP hS dX4_hasSlit_33 rfl
abbrev rmX4_isDark : Room := { frames := 2, cells := 0, slots := 0, locals := 46 }
set_option maxRecDepth 100000 in
set_option maxHeartbeats 4000000 in
theorem c_X4_isDark (l : Launch) (G : rs_G) (A_a0 : Nat) (v_a0_lands : Int32) (v_a0_wide : Int32) (v_a0_pace : Int32) (v_a0_age : Int32) (v_a0_slits : Int32) (v_a0_slitA : Int32) (v_a0_slitB : Int32) (p1 : Int32) (p2 : Int32) (r0 : Int32) (h : f_X4_isDark p1 p2 v_a0_lands v_a0_wide v_a0_pace v_a0_age v_a0_slits v_a0_slitA v_a0_slitB = some r0) : rs_Ci l yX4_isDark wsX4_isDark rmX4_isDark G [.ref A_a0, .int p1, .int p2] [(A_a0, .inr (4, [.int v_a0_lands, .int v_a0_wide, .int v_a0_pace, .int v_a0_age, .int v_a0_slits, .int v_a0_slitA, .int v_a0_slitB]))] (fun (_ : Unit) => [(A_a0, .inr (4, [.int v_a0_lands, .int v_a0_wide, .int v_a0_pace, .int v_a0_age, .int v_a0_slits, .int v_a0_slitA, .int v_a0_slitB]))]) r0 := by
  refine rs_enter_i (cc := cX4_isDark) (maxL := 3) (ty := .boolean) (by decide) rfl (Nat.le_of_ble_eq_true rfl) (fun p e s m args below meth c A Q ls E ret hP hD hS hA hl => ?_)
  obtain ⟨hx, hb, hml, hown, hts, hK⟩ := E
  have hown : s.vm.findClass RX4 = some m.cls := hown
  have hl : lv_has ls 3 [(0, .ref A_a0), (1, .int p1), (2, .int p2)] := hl
  have ret : ∀ (v0 : Int32) (u : Unit) (H : Heap) (locs : List Loc) (pc : Nat) (ls : Array Slot), some v0 = some r0 → va_P G.1 vwCl [(A_a0, .inr (4, [.int v_a0_lands, .int v_a0_wide, .int v_a0_pace, .int v_a0_age, .int v_a0_slits, .int v_a0_slitA, .int v_a0_slitB]))] H → va_S A s.heap H locs → decode cX4_isDark pc = .ok (.ireturn, 1) → narrow .boolean (.int v0) = .int v0 → W p l e rmX4_isDark s m args below meth c H locs 0 0 Q (F0 m pc ls [.int v0]) := by
    intro v0 u H locs pc ls hz
    cases hz
    exact ret u H locs pc ls
  unfold f_X4_isDark at h
  refine lv_aload_n hx hb dX4_isDark_0 rfl (lv_at hl 0 rfl) ?_
  refine lv_iload_n hx hb dX4_isDark_1 rfl (lv_at hl 1 rfl) ?_
  refine lv_iload_n hx hb dX4_isDark_2 rfl (lv_at hl 2 rfl) ?_
  obtain ⟨x1, h2, h⟩ := rs_b1s h
  have h := h _ rfl
  refine rs_callVi (As := [.int p1, .int p2]) (rest := []) ⟨hx, hb, hml, hown, hts⟩ (c_X4_covers l G A_a0 v_a0_lands v_a0_wide v_a0_pace v_a0_age v_a0_slits v_a0_slitA v_a0_slitB p1 p2 x1 h2) (cwV 2 hts gX4_isDark_X4_covers rfl rfl rfl (by decide +kernel) ⟨Nat.le_of_ble_eq_true rfl, Nat.le_of_ble_eq_true rfl⟩) dX4_isDark_3 hK hP hD hS hA [0] rfl (by decide) rfl rfl (q0 := 0) (ci := 4) rfl rfl rfl hl.1 (lv_room (Nat.le_of_ble_eq_true rfl)) ⟨Nat.zero_le _, Nat.zero_le _⟩ (fun (_ : Unit) => [(A_a0, .inr (4, [.int v_a0_lands, .int v_a0_wide, .int v_a0_pace, .int v_a0_age, .int v_a0_slits, .int v_a0_slitA, .int v_a0_slitB]))]) (fun _ => rfl) (fun _ => rfl) (fun u2 H locs hP hD hS => ?_)
  refine lv_if_eq (tgt := 22) hx hb dX4_isDark_6 (by decide) (fun hc => ?_) (fun hc => ?_)
  · have h := rs_pos hc h
    refine lv_iconst (v := 0) hx hb dX4_isDark_22 (by decide) ?_
    exact ret _ () _ _ _ _ h hP hS dX4_isDark_23 rfl
  have h := rs_neg hc h
  refine lv_aload_n hx hb dX4_isDark_9 rfl (lv_at hl 0 rfl) ?_
  refine lv_iload_n hx hb dX4_isDark_10 rfl (lv_at hl 1 rfl) ?_
  refine lv_iload_n hx hb dX4_isDark_11 rfl (lv_at hl 2 rfl) ?_
  obtain ⟨x3, h4, h⟩ := rs_b1s h
  have h := h _ rfl
  refine rs_callVi (As := [.int p1, .int p2]) (rest := []) ⟨hx, hb, hml, hown, hts⟩ (c_X4_hasSlit l G A_a0 v_a0_lands v_a0_wide v_a0_pace v_a0_age v_a0_slits v_a0_slitA v_a0_slitB p1 p2 x3 h4) (cwV 2 hts gX4_isDark_X4_hasSlit rfl rfl rfl (by decide +kernel) ⟨Nat.le_of_ble_eq_true rfl, Nat.le_of_ble_eq_true rfl⟩) dX4_isDark_12 hK hP hD hS hA [0] rfl (by decide) rfl rfl (q0 := 0) (ci := 4) rfl rfl rfl hl.1 (lv_room (Nat.le_of_ble_eq_true rfl)) ⟨Nat.zero_le _, Nat.zero_le _⟩ (fun (_ : Unit) => [(A_a0, .inr (4, [.int v_a0_lands, .int v_a0_wide, .int v_a0_pace, .int v_a0_age, .int v_a0_slits, .int v_a0_slitA, .int v_a0_slitB]))]) (fun _ => rfl) (fun _ => rfl) (fun u4 H locs hP hD hS => ?_)
  refine lv_if_ne (tgt := 22) hx hb dX4_isDark_15 (by decide) (fun hc => ?_) (fun hc => ?_)
  · have h := rs_neg hc h
    refine lv_iconst (v := 0) hx hb dX4_isDark_22 (by decide) ?_
    exact ret _ () _ _ _ _ h hP hS dX4_isDark_23 rfl
  have h := rs_pos hc h
  refine lv_iconst (v := 1) hx hb dX4_isDark_18 (by decide) ?_
  refine lv_goto (tgt := 23) hx hb dX4_isDark_19 (by decide) ?_
  exact ret _ () _ _ _ _ h hP hS dX4_isDark_23 rfl
theorem uX9_needOf_9 : ∀ w ∈ wsX90, w ∈ wsX9_needOf := fun _ h => List.mem_cons_of_mem _ (List.mem_append_left _ (List.mem_append_left _ (List.mem_append_right _ h)))
abbrev rmX9_needOf : Room := { frames := 3, cells := 0, slots := 0, locals := 68 }
set_option maxRecDepth 100000 in
set_option maxHeartbeats 4000000 in
theorem c_X9_needOf (l : Launch) (G : rs_G) (A_a0 : Nat) (A_a0_shadow : Nat) (A_a0_stock : Nat) (A_a0_sights : Nat) (A_a0_stock_cells : Nat) (v_a0_year : Int32) (v_a0_stock_cells : (Nat → Int32)) (v_a0_shadow_lands : Int32) (v_a0_shadow_wide : Int32) (v_a0_shadow_pace : Int32) (v_a0_shadow_age : Int32) (v_a0_shadow_slits : Int32) (v_a0_shadow_slitA : Int32) (v_a0_shadow_slitB : Int32) (p1 : Int32) (p2 : Int32) (N : Nat) (r0 : Int32) (h : f_X9_needOf N p1 p2 v_a0_year v_a0_stock_cells v_a0_shadow_lands v_a0_shadow_wide v_a0_shadow_pace v_a0_shadow_age v_a0_shadow_slits v_a0_shadow_slitA v_a0_shadow_slitB = some r0) : rs_Ci l yX9_needOf wsX9_needOf rmX9_needOf G [.ref A_a0, .int p1, .int p2] [(A_a0, .inr (9, [.ref A_a0_shadow, .ref A_a0_stock, .ref A_a0_sights, .int v_a0_year])), (A_a0_stock, .inr (6, [.ref A_a0_stock_cells])), (A_a0_stock_cells, .inl (G.2.1, 36, .inl v_a0_stock_cells)), (A_a0_shadow, .inr (4, [.int v_a0_shadow_lands, .int v_a0_shadow_wide, .int v_a0_shadow_pace, .int v_a0_shadow_age, .int v_a0_shadow_slits, .int v_a0_shadow_slitA, .int v_a0_shadow_slitB]))] (fun (_ : Unit) => [(A_a0, .inr (9, [.ref A_a0_shadow, .ref A_a0_stock, .ref A_a0_sights, .int v_a0_year])), (A_a0_stock, .inr (6, [.ref A_a0_stock_cells])), (A_a0_stock_cells, .inl (G.2.1, 36, .inl v_a0_stock_cells)), (A_a0_shadow, .inr (4, [.int v_a0_shadow_lands, .int v_a0_shadow_wide, .int v_a0_shadow_pace, .int v_a0_shadow_age, .int v_a0_shadow_slits, .int v_a0_shadow_slitA, .int v_a0_shadow_slitB]))]) r0 := by
  refine rs_enter_i (cc := cX9_needOf) (maxL := 7) (ty := .int) (by decide) rfl (Nat.le_of_ble_eq_true rfl) (fun p e s m args below meth c A Q ls E ret hP hD hS hA hl => ?_)
  obtain ⟨hx, hb, hml, hown, hts, hK⟩ := E
  have hown : s.vm.findClass RX9 = some m.cls := hown
  have hl : lv_has ls 7 [(0, .ref A_a0), (1, .int p1), (2, .int p2)] := hl
  have ret : ∀ (v0 : Int32) (u : Unit) (H : Heap) (locs : List Loc) (pc : Nat) (ls : Array Slot), some v0 = some r0 → va_P G.1 vwCl [(A_a0, .inr (9, [.ref A_a0_shadow, .ref A_a0_stock, .ref A_a0_sights, .int v_a0_year])), (A_a0_stock, .inr (6, [.ref A_a0_stock_cells])), (A_a0_stock_cells, .inl (G.2.1, 36, .inl v_a0_stock_cells)), (A_a0_shadow, .inr (4, [.int v_a0_shadow_lands, .int v_a0_shadow_wide, .int v_a0_shadow_pace, .int v_a0_shadow_age, .int v_a0_shadow_slits, .int v_a0_shadow_slitA, .int v_a0_shadow_slitB]))] H → va_S A s.heap H locs → decode cX9_needOf pc = .ok (.ireturn, 1) → narrow .int (.int v0) = .int v0 → W p l e rmX9_needOf s m args below meth c H locs 0 0 Q (F0 m pc ls [.int v0]) := by
    intro v0 u H locs pc ls hz
    cases hz
    exact ret u H locs pc ls
  unfold f_X9_needOf at h
  refine lv_aload_n hx hb dX9_needOf_0 rfl (lv_at hl 0 rfl) ?_
  refine va_get (D := G.1) (ci := 9) (v := .ref A_a0_stock) (C := RX9) (T := TX9) (N := 4) hx hb hts uX9_needOf_9 hown hK.1 hP 0 rfl rfl 1 (by decide) (hts (.fieldLink RX9 21 "RingShadow$World" "stock" "LRingShadow$Stock;") (List.mem_of_getElem? (i := 1) rfl)) (fun _ h9 => h9) rfl dX9_needOf_1 ?_
  refine lv_iload_n hx hb dX9_needOf_4 rfl (lv_at hl 1 rfl) ?_
  refine lv_iconst (v := 3) hx hb dX9_needOf_5 (by decide) ?_
  obtain ⟨x1, h2, h⟩ := rs_b1s h
  have h := h _ rfl
  refine rs_callVi (As := [.int p1, .int 3]) (rest := []) ⟨hx, hb, hml, hown, hts⟩ (c_X6_of l G A_a0_stock A_a0_stock_cells v_a0_stock_cells p1 3 x1 h2) (cwV 2 hts gX9_needOf_X6_of rfl rfl rfl (by decide +kernel) ⟨Nat.le_of_ble_eq_true rfl, Nat.le_of_ble_eq_true rfl⟩) dX9_needOf_6 hK hP hD hS hA [1, 2] rfl (by decide) rfl rfl (q0 := 0) (ci := 6) rfl rfl rfl hl.1 (lv_room (Nat.le_of_ble_eq_true rfl)) ⟨Nat.zero_le _, Nat.zero_le _⟩ (fun (_ : Unit) => [(A_a0, .inr (9, [.ref A_a0_shadow, .ref A_a0_stock, .ref A_a0_sights, .int v_a0_year])), (A_a0_stock, .inr (6, [.ref A_a0_stock_cells])), (A_a0_stock_cells, .inl (G.2.1, 36, .inl v_a0_stock_cells)), (A_a0_shadow, .inr (4, [.int v_a0_shadow_lands, .int v_a0_shadow_wide, .int v_a0_shadow_pace, .int v_a0_shadow_age, .int v_a0_shadow_slits, .int v_a0_shadow_slitA, .int v_a0_shadow_slitB]))]) (fun _ => rfl) (fun _ => rfl) (fun u2 H locs hP hD hS => ?_)
  refine lv_istore_n (lv' := [(3, .int x1), (0, .ref A_a0), (1, .int p1), (2, .int p2)]) hx hb dX9_needOf_9 rfl hl (by decide) rfl (fun ls hl => ?_)
  refine lv_iconst (v := 0) hx hb dX9_needOf_10 (by decide) ?_
  refine lv_istore (lv' := [(4, .int 0), (3, .int x1), (0, .ref A_a0), (1, .int p1), (2, .int p2)]) hx hb dX9_needOf_11 hl (by decide) rfl (fun ls hl => ?_)
  refine lv_iload_n hx hb dX9_needOf_13 rfl (lv_at hl 4 rfl) ?_
  refine lv_iconst (v := 1) hx hb dX9_needOf_14 (by decide) ?_
  refine lv_isub hx hb dX9_needOf_15 ?_
  refine rs_topi h (fun x3 h => ?_)
  refine lv_istore (lv' := [(5, .int x3), (4, .int 0), (3, .int x1), (0, .ref A_a0), (1, .int p1), (2, .int p2)]) hx hb dX9_needOf_16 hl (by decide) rfl (fun ls hl => ?_)
  obtain ⟨X28, hX28, h, hR28⟩ := rs_m1s h
  have J28 : ∀ (x29 : Int32), X28 = .inl x29 → ∀  (H : Heap) (locs : List Loc) (ls : Array Slot), va_P G.1 vwCl [(A_a0, .inr (9, [.ref A_a0_shadow, .ref A_a0_stock, .ref A_a0_sights, .int v_a0_year])), (A_a0_stock, .inr (6, [.ref A_a0_stock_cells])), (A_a0_stock_cells, .inl (G.2.1, 36, .inl v_a0_stock_cells)), (A_a0_shadow, .inr (4, [.int v_a0_shadow_lands, .int v_a0_shadow_wide, .int v_a0_shadow_pace, .int v_a0_shadow_age, .int v_a0_shadow_slits, .int v_a0_shadow_slitA, .int v_a0_shadow_slitB]))] H → va_D A [(A_a0, .inr (9, [.ref A_a0_shadow, .ref A_a0_stock, .ref A_a0_sights, .int v_a0_year])), (A_a0_stock, .inr (6, [.ref A_a0_stock_cells])), (A_a0_stock_cells, .inl (G.2.1, 36, .inl v_a0_stock_cells)), (A_a0_shadow, .inr (4, [.int v_a0_shadow_lands, .int v_a0_shadow_wide, .int v_a0_shadow_pace, .int v_a0_shadow_age, .int v_a0_shadow_slits, .int v_a0_shadow_slitA, .int v_a0_shadow_slitB]))] → va_S A s.heap H locs → lv_has ls 7 [(4, .int x29)] → W p l e rmX9_needOf s m args below meth c H locs 0 0 Q (F0 m 92 ls []) := by
    intro x29 hz  H locs ls hP hD hS hl
    have h := h _ hz
    refine lv_iload hx hb dX9_needOf_92 (lv_at hl 0 rfl) ?_
    exact ret _ () _ _ _ _ h hP hS dX9_needOf_94 rfl
  refine rs_l2W (Wd := fun (x15 : Int32) (x16 : Int32) => ∀  (H : Heap) (locs : List Loc) (ls : Array Slot), va_P G.1 vwCl [(A_a0, .inr (9, [.ref A_a0_shadow, .ref A_a0_stock, .ref A_a0_sights, .int v_a0_year])), (A_a0_stock, .inr (6, [.ref A_a0_stock_cells])), (A_a0_stock_cells, .inl (G.2.1, 36, .inl v_a0_stock_cells)), (A_a0_shadow, .inr (4, [.int v_a0_shadow_lands, .int v_a0_shadow_wide, .int v_a0_shadow_pace, .int v_a0_shadow_age, .int v_a0_shadow_slits, .int v_a0_shadow_slitA, .int v_a0_shadow_slitB]))] H → va_D A [(A_a0, .inr (9, [.ref A_a0_shadow, .ref A_a0_stock, .ref A_a0_sights, .int v_a0_year])), (A_a0_stock, .inr (6, [.ref A_a0_stock_cells])), (A_a0_stock_cells, .inl (G.2.1, 36, .inl v_a0_stock_cells)), (A_a0_shadow, .inr (4, [.int v_a0_shadow_lands, .int v_a0_shadow_wide, .int v_a0_shadow_pace, .int v_a0_shadow_age, .int v_a0_shadow_slits, .int v_a0_shadow_slitA, .int v_a0_shadow_slitB]))] → va_S A s.heap H locs → lv_has ls 7 [(0, .ref A_a0), (1, .int p1), (3, .int x1), (4, .int x15), (5, .int x16)] → W p l e rmX9_needOf s m args below meth c H locs 0 0 Q (F0 m 18 ls [])) ?_ N 0 x3 hX28 _ _ _ hP hD hS (lv_sub hl [3, 4, 2, 1, 0] rfl)
  intro x15 x16 o28 h K28 L28  H locs ls hP hD hS hl
  unfold f_X9_needOf_L18 at h
  refine lv_iload hx hb dX9_needOf_18 (lv_at hl 4 rfl) ?_
  refine lv_if_lt (tgt := 92) hx hb dX9_needOf_20 (by decide) (fun hc => ?_) (fun hc => ?_)
  · have h := rs_pos hc h
    exact J28 _ (L28 _ (Option.some.inj h).symm) _ _ _ hP hD hS (lv_sub hl [3] rfl)
  have h := rs_neg hc h
  refine lv_aload_n hx hb dX9_needOf_23 rfl (lv_at hl 0 rfl) ?_
  refine va_get (D := G.1) (ci := 9) (v := .ref A_a0_shadow) (C := RX9) (T := TX9) (N := 4) hx hb hts uX9_needOf_9 hown hK.1 hP 0 rfl rfl 0 (by decide) (hts (.fieldLink RX9 12 "RingShadow$World" "shadow" "LRingShadow$Shadow;") (List.mem_of_getElem? (i := 2) rfl)) (fun _ h9 => h9) rfl dX9_needOf_24 ?_
  refine lv_iload_n hx hb dX9_needOf_27 rfl (lv_at hl 1 rfl) ?_
  refine lv_aload_n hx hb dX9_needOf_28 rfl (lv_at hl 0 rfl) ?_
  refine va_get (D := G.1) (ci := 9) (v := .int v_a0_year) (C := RX9) (T := TX9) (N := 4) hx hb hts uX9_needOf_9 hown hK.1 hP 0 rfl rfl 3 (by decide) (hts (.fieldLink RX9 42 "RingShadow$World" "year" "I") (List.mem_of_getElem? (i := 3) rfl)) (fun _ h9 => h9) rfl dX9_needOf_29 ?_
  refine lv_iload hx hb dX9_needOf_32 (lv_at hl 4 rfl) ?_
  refine lv_iadd hx hb dX9_needOf_34 ?_
  obtain ⟨x30, h31, h⟩ := rs_b1s h
  have h := h _ rfl
  refine rs_callVi (As := [.int p1, .int (v_a0_year + x16)]) (rest := []) ⟨hx, hb, hml, hown, hts⟩ (c_X4_isDark l G A_a0_shadow v_a0_shadow_lands v_a0_shadow_wide v_a0_shadow_pace v_a0_shadow_age v_a0_shadow_slits v_a0_shadow_slitA v_a0_shadow_slitB p1 (v_a0_year + x16) x30 h31) (cwV 2 hts gX9_needOf_X4_isDark rfl rfl rfl (by decide +kernel) ⟨Nat.le_of_ble_eq_true rfl, Nat.le_of_ble_eq_true rfl⟩) dX9_needOf_35 hK hP hD hS hA [3] rfl (by decide) rfl rfl (q0 := 0) (ci := 4) rfl rfl rfl hl.1 (lv_room (Nat.le_of_ble_eq_true rfl)) ⟨Nat.zero_le _, Nat.zero_le _⟩ (fun (_ : Unit) => [(A_a0, .inr (9, [.ref A_a0_shadow, .ref A_a0_stock, .ref A_a0_sights, .int v_a0_year])), (A_a0_stock, .inr (6, [.ref A_a0_stock_cells])), (A_a0_stock_cells, .inl (G.2.1, 36, .inl v_a0_stock_cells)), (A_a0_shadow, .inr (4, [.int v_a0_shadow_lands, .int v_a0_shadow_wide, .int v_a0_shadow_pace, .int v_a0_shadow_age, .int v_a0_shadow_slits, .int v_a0_shadow_slitA, .int v_a0_shadow_slitB]))]) (fun _ => rfl) (fun _ => rfl) (fun u31 H locs hP hD hS => ?_)
  obtain ⟨X35, hX35, h⟩ := rs_b1s h
  have J35 : ∀ (x34 : Int32), X35 = x34 → ∀ (H : Heap) (locs : List Loc) (ls : Array Slot), va_P G.1 vwCl [(A_a0, .inr (9, [.ref A_a0_shadow, .ref A_a0_stock, .ref A_a0_sights, .int v_a0_year])), (A_a0_stock, .inr (6, [.ref A_a0_stock_cells])), (A_a0_stock_cells, .inl (G.2.1, 36, .inl v_a0_stock_cells)), (A_a0_shadow, .inr (4, [.int v_a0_shadow_lands, .int v_a0_shadow_wide, .int v_a0_shadow_pace, .int v_a0_shadow_age, .int v_a0_shadow_slits, .int v_a0_shadow_slitA, .int v_a0_shadow_slitB]))] H → va_D A [(A_a0, .inr (9, [.ref A_a0_shadow, .ref A_a0_stock, .ref A_a0_sights, .int v_a0_year])), (A_a0_stock, .inr (6, [.ref A_a0_stock_cells])), (A_a0_stock_cells, .inl (G.2.1, 36, .inl v_a0_stock_cells)), (A_a0_shadow, .inr (4, [.int v_a0_shadow_lands, .int v_a0_shadow_wide, .int v_a0_shadow_pace, .int v_a0_shadow_age, .int v_a0_shadow_slits, .int v_a0_shadow_slitA, .int v_a0_shadow_slitB]))] → va_S A s.heap H locs → lv_has ls 7 [(0, .ref A_a0), (1, .int p1), (3, .int x1), (4, .int x15), (5, .int x16)] → W p l e rmX9_needOf s m args below meth c H locs 0 0 Q (F0 m 54 ls [.int x34]) := by
    intro x34 hz H locs ls hP hD hS hl
    have h := h _ hz
    refine lv_istore (lv' := [(6, .int x34), (0, .ref A_a0), (1, .int p1), (3, .int x1), (4, .int x15), (5, .int x16)]) hx hb dX9_needOf_54 hl (by decide) rfl (fun ls hl => ?_)
    refine lv_iconst (v := 0) hx hb dX9_needOf_56 (by decide) ?_
    refine lv_iload hx hb dX9_needOf_57 (lv_at hl 4 rfl) ?_
    refine lv_aload_n hx hb dX9_needOf_59 rfl (lv_at hl 1 rfl) ?_
    refine va_get (D := G.1) (ci := 9) (v := .ref A_a0_stock) (C := RX9) (T := TX9) (N := 4) hx hb hts uX9_needOf_9 hown hK.1 hP 0 rfl rfl 1 (by decide) (hts (.fieldLink RX9 21 "RingShadow$World" "stock" "LRingShadow$Stock;") (List.mem_of_getElem? (i := 1) rfl)) (fun _ h9 => h9) rfl dX9_needOf_60 ?_
    refine lv_iload_n hx hb dX9_needOf_63 rfl (lv_at hl 2 rfl) ?_
    refine lv_iconst (v := 1) hx hb dX9_needOf_64 (by decide) ?_
    obtain ⟨x36, h37, h⟩ := rs_b1s h
    have h := h _ rfl
    refine rs_callVi (As := [.int p1, .int 1]) (rest := [.int x15, .int 0]) ⟨hx, hb, hml, hown, hts⟩ (c_X6_of l G A_a0_stock A_a0_stock_cells v_a0_stock_cells p1 1 x36 h37) (cwV 2 hts gX9_needOf_X6_of rfl rfl rfl (by decide +kernel) ⟨Nat.le_of_ble_eq_true rfl, Nat.le_of_ble_eq_true rfl⟩) dX9_needOf_65 hK hP hD hS hA [1, 2] rfl (by decide) rfl rfl (q0 := 0) (ci := 6) rfl rfl rfl hl.1 (lv_room (Nat.le_of_ble_eq_true rfl)) ⟨Nat.zero_le _, Nat.zero_le _⟩ (fun (_ : Unit) => [(A_a0, .inr (9, [.ref A_a0_shadow, .ref A_a0_stock, .ref A_a0_sights, .int v_a0_year])), (A_a0_stock, .inr (6, [.ref A_a0_stock_cells])), (A_a0_stock_cells, .inl (G.2.1, 36, .inl v_a0_stock_cells)), (A_a0_shadow, .inr (4, [.int v_a0_shadow_lands, .int v_a0_shadow_wide, .int v_a0_shadow_pace, .int v_a0_shadow_age, .int v_a0_shadow_slits, .int v_a0_shadow_slitA, .int v_a0_shadow_slitB]))]) (fun _ => rfl) (fun _ => rfl) (fun u37 H locs hP hD hS => ?_)
    refine lv_iadd hx hb dX9_needOf_68 ?_
    refine lv_iload hx hb dX9_needOf_69 (lv_at hl 0 rfl) ?_
    refine lv_isub hx hb dX9_needOf_71 ?_
    refine va_mmax hx hb (hml.trans hl.1.symm) hown (hts (.methodLink RX9 54 Lib.Math.max.name) (List.mem_of_getElem? (i := 4) rfl)) (hts (.static Lib.Math.max.name) (List.mem_of_getElem? (i := 5) rfl)) (hts (.initialized "java/lang/Math") (List.mem_of_getElem? (i := 6) rfl)) (hts (.code Lib.Math.max.name Lib.Math.max.code 2 (some .int)) (List.mem_of_getElem? (i := 7) rfl)) (Nat.le_of_ble_eq_true rfl) (Nat.le_of_ble_eq_true rfl) (Nat.zero_le _) (Nat.zero_le _) dX9_needOf_72 ?_
    refine rs_topi h (fun x38 h => ?_)
    refine lv_istore (lv' := [(4, .int x38), (6, .int x34), (0, .ref A_a0), (1, .int p1), (3, .int x1), (5, .int x16)]) hx hb dX9_needOf_75 hl (by decide) rfl (fun ls hl => ?_)
    refine lv_iload hx hb dX9_needOf_77 (lv_at hl 0 rfl) ?_
    refine lv_iload_n hx hb dX9_needOf_79 rfl (lv_at hl 4 rfl) ?_
    refine lv_icmp_le (tgt := 86) hx hb dX9_needOf_80 (by decide) (fun hc => ?_) (fun hc => ?_)
    · have h := rs_pos hc h
      refine lv_iinc (v := (x16 + (-1))) (lv' := [(5, .int (x16 + (-1))), (4, .int x38), (6, .int x34), (0, .ref A_a0), (1, .int p1), (3, .int x1)]) hx hb dX9_needOf_86 hl (k := 5) rfl (by first | rfl | decide) (by decide) rfl (fun ls hl => ?_)
      refine lv_goto (tgt := 18) hx hb dX9_needOf_89 (by decide) ?_
      exact K28 _ _ (Option.some.inj h).symm _ _ _ hP hD hS (lv_sub hl [3, 4, 5, 1, 0] rfl)
    have h := rs_neg hc h
    refine lv_bipush (v := (-6)) hx hb dX9_needOf_83 (by decide) ?_
    exact ret _ () _ _ _ _ (hR28 _ (L28 _ (Option.some.inj h).symm)) hP hS dX9_needOf_85 rfl
  have h := hX35
  refine lv_if_eq (tgt := 45) hx hb dX9_needOf_38 (by decide) (fun hc => ?_) (fun hc => ?_)
  · have h := rs_pos hc h
    refine lv_aload_n hx hb dX9_needOf_45 rfl (lv_at hl 0 rfl) ?_
    refine va_get (D := G.1) (ci := 9) (v := .ref A_a0_stock) (C := RX9) (T := TX9) (N := 4) hx hb hts uX9_needOf_9 hown hK.1 hP 0 rfl rfl 1 (by decide) (hts (.fieldLink RX9 21 "RingShadow$World" "stock" "LRingShadow$Stock;") (List.mem_of_getElem? (i := 1) rfl)) (fun _ h9 => h9) rfl dX9_needOf_46 ?_
    refine lv_iload_n hx hb dX9_needOf_49 rfl (lv_at hl 1 rfl) ?_
    refine lv_iconst (v := 0) hx hb dX9_needOf_50 (by decide) ?_
    obtain ⟨x39, h40, h⟩ := rs_b1s h
    have h := h _ rfl
    refine rs_callVi (As := [.int p1, .int 0]) (rest := []) ⟨hx, hb, hml, hown, hts⟩ (c_X6_of l G A_a0_stock A_a0_stock_cells v_a0_stock_cells p1 0 x39 h40) (cwV 2 hts gX9_needOf_X6_of rfl rfl rfl (by decide +kernel) ⟨Nat.le_of_ble_eq_true rfl, Nat.le_of_ble_eq_true rfl⟩) dX9_needOf_51 hK hP hD hS hA [1, 2] rfl (by decide) rfl rfl (q0 := 0) (ci := 6) rfl rfl rfl hl.1 (lv_room (Nat.le_of_ble_eq_true rfl)) ⟨Nat.zero_le _, Nat.zero_le _⟩ (fun (_ : Unit) => [(A_a0, .inr (9, [.ref A_a0_shadow, .ref A_a0_stock, .ref A_a0_sights, .int v_a0_year])), (A_a0_stock, .inr (6, [.ref A_a0_stock_cells])), (A_a0_stock_cells, .inl (G.2.1, 36, .inl v_a0_stock_cells)), (A_a0_shadow, .inr (4, [.int v_a0_shadow_lands, .int v_a0_shadow_wide, .int v_a0_shadow_pace, .int v_a0_shadow_age, .int v_a0_shadow_slits, .int v_a0_shadow_slitA, .int v_a0_shadow_slitB]))]) (fun _ => rfl) (fun _ => rfl) (fun u40 H locs hP hD hS => ?_)
    exact J35 _ (Option.some.inj h).symm _ _ _ hP hD hS (lv_sub hl [0, 1, 2, 3, 4] rfl)
  have h := rs_neg hc h
  refine lv_iconst (v := 0) hx hb dX9_needOf_41 (by decide) ?_
  refine lv_goto (tgt := 54) hx hb dX9_needOf_42 (by decide) ?_
  exact J35 _ (Option.some.inj h).symm _ _ _ hP hD hS (lv_sub hl [0, 1, 2, 3, 4] rfl)
abbrev rmX10_at : Room := { frames := 0, cells := 0, slots := 0, locals := 0 }
set_option maxRecDepth 100000 in
set_option maxHeartbeats 4000000 in
theorem c_X10_at (l : Launch) (G : rs_G) (A_a0 : Nat) (v_a0 : (Nat → Int32)) (n_a0 : Nat) (p1 : Int32) (r0 : Int32) (h : f_X10_at n_a0 p1 v_a0 = some r0) : rs_Ci l yX10_at wsX10_at rmX10_at G [.ref A_a0, .int p1] [(A_a0, .inl (G.2.1, n_a0, .inl v_a0))] (fun (_ : Unit) => [(A_a0, .inl (G.2.1, n_a0, .inl v_a0))]) r0 := by
  refine rs_enter_i (cc := cX10_at) (maxL := 2) (ty := .int) (by decide) rfl (Nat.le_of_ble_eq_true rfl) (fun p e s m args below meth c A Q ls E ret hP hD hS hA hl => ?_)
  obtain ⟨hx, hb, hml, hown, hts, hK⟩ := E
  have hown : s.vm.findClass RX10 = some m.cls := hown
  have hl : lv_has ls 2 [(0, .ref A_a0), (1, .int p1)] := hl
  have ret : ∀ (v0 : Int32) (u : Unit) (H : Heap) (locs : List Loc) (pc : Nat) (ls : Array Slot), some v0 = some r0 → va_P G.1 vwCl [(A_a0, .inl (G.2.1, n_a0, .inl v_a0))] H → va_S A s.heap H locs → decode cX10_at pc = .ok (.ireturn, 1) → narrow .int (.int v0) = .int v0 → W p l e rmX10_at s m args below meth c H locs 0 0 Q (F0 m pc ls [.int v0]) := by
    intro v0 u H locs pc ls hz
    cases hz
    exact ret u H locs pc ls
  unfold f_X10_at at h
  refine lv_iload_n hx hb dX10_at_0 rfl (lv_at hl 1 rfl) ?_
  refine lv_if_lt (tgt := 16) hx hb dX10_at_1 (by decide) (fun hc => ?_) (fun hc => ?_)
  · have h := rs_pos hc h
    refine lv_iconst (v := 0) hx hb dX10_at_16 (by decide) ?_
    exact ret _ () _ _ _ _ h hP hS dX10_at_17 rfl
  have h := rs_neg hc h
  refine lv_iload_n hx hb dX10_at_4 rfl (lv_at hl 1 rfl) ?_
  refine lv_aload_n hx hb dX10_at_5 rfl (lv_at hl 0 rfl) ?_
  refine va_alen (v := (Int32.ofNat n_a0)) hx hb hK.1 hP 0 0 rfl rfl rfl dX10_at_6 ?_
  refine lv_icmp_ge (tgt := 16) hx hb dX10_at_7 (by decide) (fun hc => ?_) (fun hc => ?_)
  · have h := rs_pos hc h
    refine lv_iconst (v := 0) hx hb dX10_at_16 (by decide) ?_
    exact ret _ () _ _ _ _ h hP hS dX10_at_17 rfl
  have h := rs_neg hc h
  refine lv_aload_n hx hb dX10_at_10 rfl (lv_at hl 0 rfl) ?_
  refine lv_iload_n hx hb dX10_at_11 rfl (lv_at hl 1 rfl) ?_
  obtain ⟨hg, h⟩ := rs_gd h
  refine va_iald hx hb hK.1 hP 0 0 rfl rfl hg dX10_at_12 ?_
  refine lv_goto (tgt := 17) hx hb dX10_at_13 (by decide) ?_
  exact ret _ () _ _ _ _ h hP hS dX10_at_17 rfl
abbrev rmX0_cheapest : Room := { frames := 1, cells := 0, slots := 0, locals := 21 }
set_option maxRecDepth 100000 in
set_option maxHeartbeats 4000000 in
theorem c_X0_cheapest (l : Launch) (G : rs_G) (A_a0 : Nat) (v_a0 : (Nat → Int32)) (n_a0 : Nat) (p1 : Int32) (p2 : Int32) (N : Nat) (r0 : Int32) (h : f_X0_cheapest N n_a0 p1 p2 v_a0 = some r0) : rs_Ci l yX0_cheapest wsX0_cheapest rmX0_cheapest G [.ref A_a0, .int p1, .int p2] [(A_a0, .inl (G.2.1, n_a0, .inl v_a0))] (fun (_ : Unit) => [(A_a0, .inl (G.2.1, n_a0, .inl v_a0))]) r0 := by
  refine rs_enter_i (cc := cX0_cheapest) (maxL := 5) (ty := .int) (by decide) rfl (Nat.le_of_ble_eq_true rfl) (fun p e s m args below meth c A Q ls E ret hP hD hS hA hl => ?_)
  obtain ⟨hx, hb, hml, hown, hts, hK⟩ := E
  have hown : s.vm.findClass RX0 = some m.cls := hown
  have hl : lv_has ls 5 [(0, .ref A_a0), (1, .int p1), (2, .int p2)] := hl
  have ret : ∀ (v0 : Int32) (u : Unit) (H : Heap) (locs : List Loc) (pc : Nat) (ls : Array Slot), some v0 = some r0 → va_P G.1 vwCl [(A_a0, .inl (G.2.1, n_a0, .inl v_a0))] H → va_S A s.heap H locs → decode cX0_cheapest pc = .ok (.ireturn, 1) → narrow .int (.int v0) = .int v0 → W p l e rmX0_cheapest s m args below meth c H locs 0 0 Q (F0 m pc ls [.int v0]) := by
    intro v0 u H locs pc ls hz
    cases hz
    exact ret u H locs pc ls
  unfold f_X0_cheapest at h
  refine lv_iload_n hx hb dX0_cheapest_0 rfl (lv_at hl 1 rfl) ?_
  refine lv_istore_n (lv' := [(3, .int p1), (0, .ref A_a0), (1, .int p1), (2, .int p2)]) hx hb dX0_cheapest_1 rfl hl (by decide) rfl (fun ls hl => ?_)
  refine lv_iload_n hx hb dX0_cheapest_2 rfl (lv_at hl 2 rfl) ?_
  refine lv_iconst (v := 1) hx hb dX0_cheapest_3 (by decide) ?_
  refine lv_iadd hx hb dX0_cheapest_4 ?_
  refine rs_topi h (fun x1 h => ?_)
  refine lv_istore (lv' := [(4, .int x1), (3, .int p1), (0, .ref A_a0), (1, .int p1), (2, .int p2)]) hx hb dX0_cheapest_5 hl (by decide) rfl (fun ls hl => ?_)
  obtain ⟨X16, hX16, h⟩ := rs_b1s h
  have J16 : ∀ (x17 : Int32), X16 = x17 → ∀  (H : Heap) (locs : List Loc) (ls : Array Slot), va_P G.1 vwCl [(A_a0, .inl (G.2.1, n_a0, .inl v_a0))] H → va_D A [(A_a0, .inl (G.2.1, n_a0, .inl v_a0))] → va_S A s.heap H locs → lv_has ls 5 [(3, .int x17)] → W p l e rmX0_cheapest s m args below meth c H locs 0 0 Q (F0 m 36 ls []) := by
    intro x17 hz  H locs ls hP hD hS hl
    have h := h _ hz
    refine lv_iload_n hx hb dX0_cheapest_36 rfl (lv_at hl 0 rfl) ?_
    exact ret _ () _ _ _ _ h hP hS dX0_cheapest_37 rfl
  refine rs_l2W (Wd := fun (x8 : Int32) (x9 : Int32) => ∀  (H : Heap) (locs : List Loc) (ls : Array Slot), va_P G.1 vwCl [(A_a0, .inl (G.2.1, n_a0, .inl v_a0))] H → va_D A [(A_a0, .inl (G.2.1, n_a0, .inl v_a0))] → va_S A s.heap H locs → lv_has ls 5 [(0, .ref A_a0), (2, .int p2), (3, .int x8), (4, .int x9)] → W p l e rmX0_cheapest s m args below meth c H locs 0 0 Q (F0 m 7 ls [])) ?_ N p1 x1 hX16 _ _ _ hP hD hS (lv_sub hl [2, 4, 1, 0] rfl)
  intro x8 x9 o16 h K16 L16  H locs ls hP hD hS hl
  unfold f_X0_cheapest_L7 at h
  refine lv_iload hx hb dX0_cheapest_7 (lv_at hl 3 rfl) ?_
  refine lv_iload_n hx hb dX0_cheapest_9 rfl (lv_at hl 1 rfl) ?_
  refine lv_icmp_gt (tgt := 36) hx hb dX0_cheapest_10 (by decide) (fun hc => ?_) (fun hc => ?_)
  · have h := rs_pos hc h
    exact J16 _ (L16 _ (Option.some.inj h).symm) _ _ _ hP hD hS (lv_sub hl [2] rfl)
  have h := rs_neg hc h
  refine lv_aload_n hx hb dX0_cheapest_13 rfl (lv_at hl 0 rfl) ?_
  refine lv_iload hx hb dX0_cheapest_14 (lv_at hl 3 rfl) ?_
  obtain ⟨x18, h19, h⟩ := rs_b1s h
  have h := h _ rfl
  refine rs_callNi (As := [.ref A_a0, .int x9]) (rest := []) ⟨hx, hb, hml, hown, hts⟩ (c_X10_at l G A_a0 v_a0 n_a0 x9 x18 h19) ⟨va_cnB 2 hts gX0_cheapest_X10_at_n64 rfl rfl rfl (rs_nw11 hK.2.1) (hts (.initialized RX10) (List.mem_of_getElem? (i := 2) rfl)) (by decide +kernel) ⟨Nat.le_of_ble_eq_true rfl, Nat.le_of_ble_eq_true rfl⟩, (hts (.static yX10_at) (List.mem_of_getElem? (i := 1) rfl)), trivial⟩ dX0_cheapest_16 hK hP hD hS hA [0] rfl (by decide) rfl rfl hl.1 (lv_room (Nat.le_of_ble_eq_true rfl)) ⟨Nat.zero_le _, Nat.zero_le _⟩ (fun (_ : Unit) => [(A_a0, .inl (G.2.1, n_a0, .inl v_a0))]) (fun _ => rfl) (fun _ => rfl) (fun u19 H locs hP hD hS => ?_)
  refine lv_aload_n hx hb dX0_cheapest_19 rfl (lv_at hl 0 rfl) ?_
  refine lv_iload_n hx hb dX0_cheapest_20 rfl (lv_at hl 2 rfl) ?_
  obtain ⟨x20, h21, h⟩ := rs_b1s h
  have h := h _ rfl
  refine rs_callNi (As := [.ref A_a0, .int x8]) (rest := [.int x18]) ⟨hx, hb, hml, hown, hts⟩ (c_X10_at l G A_a0 v_a0 n_a0 x8 x20 h21) ⟨va_cnB 2 hts gX0_cheapest_X10_at_n64 rfl rfl rfl (rs_nw11 hK.2.1) (hts (.initialized RX10) (List.mem_of_getElem? (i := 2) rfl)) (by decide +kernel) ⟨Nat.le_of_ble_eq_true rfl, Nat.le_of_ble_eq_true rfl⟩, (hts (.static yX10_at) (List.mem_of_getElem? (i := 1) rfl)), trivial⟩ dX0_cheapest_21 hK hP hD hS hA [0] rfl (by decide) rfl rfl hl.1 (lv_room (Nat.le_of_ble_eq_true rfl)) ⟨Nat.zero_le _, Nat.zero_le _⟩ (fun (_ : Unit) => [(A_a0, .inl (G.2.1, n_a0, .inl v_a0))]) (fun _ => rfl) (fun _ => rfl) (fun u21 H locs hP hD hS => ?_)
  obtain ⟨X23, hX23, h⟩ := rs_b1s h
  have J23 : ∀ (x22 : Int32), X23 = x22 → ∀ (H : Heap) (locs : List Loc) (ls : Array Slot), va_P G.1 vwCl [(A_a0, .inl (G.2.1, n_a0, .inl v_a0))] H → va_D A [(A_a0, .inl (G.2.1, n_a0, .inl v_a0))] → va_S A s.heap H locs → lv_has ls 5 [(0, .ref A_a0), (2, .int p2), (3, .int x22), (4, .int x9)] → W p l e rmX0_cheapest s m args below meth c H locs 0 0 Q (F0 m 30 ls []) := by
    intro x22 hz H locs ls hP hD hS hl
    have h := h _ hz
    refine lv_iinc (v := (x9 + 1)) (lv' := [(4, .int (x9 + 1)), (0, .ref A_a0), (2, .int p2), (3, .int x22)]) hx hb dX0_cheapest_30 hl (k := 3) rfl (by first | rfl | decide) (by decide) rfl (fun ls hl => ?_)
    refine lv_goto (tgt := 7) hx hb dX0_cheapest_33 (by decide) ?_
    exact K16 _ _ (Option.some.inj h).symm _ _ _ hP hD hS (lv_sub hl [1, 2, 3, 0] rfl)
  have h := hX23
  refine lv_icmp_ge (tgt := 30) hx hb dX0_cheapest_24 (by decide) (fun hc => ?_) (fun hc => ?_)
  · have h := rs_pos hc h
    exact J23 _ (Option.some.inj h).symm _ _ _ hP hD hS (lv_sub hl [0, 1, 2, 3] rfl)
  have h := rs_neg hc h
  refine lv_iload hx hb dX0_cheapest_27 (lv_at hl 3 rfl) ?_
  refine lv_istore_n (lv' := [(3, .int x9), (0, .ref A_a0), (2, .int p2), (4, .int x9)]) hx hb dX0_cheapest_29 rfl hl (by decide) rfl (fun ls hl => ?_)
  exact J23 _ (Option.some.inj h).symm _ _ _ hP hD hS (lv_sub hl [1, 2, 0, 3] rfl)
abbrev rmX0_nearest : Room := { frames := 1, cells := 0, slots := 0, locals := 14 }
set_option maxRecDepth 100000 in
set_option maxHeartbeats 4000000 in
theorem c_X0_nearest (l : Launch) (G : rs_G) (p0 : Int32) (p1 : Int32) (p2 : Int32) (r0 : Int32) (h : f_X0_nearest p0 p1 p2 = some r0) : rs_Ci l yX0_nearest wsX0_nearest rmX0_nearest G [.int p0, .int p1, .int p2] [] (fun (_ : Unit) => []) r0 := by
  refine rs_enter_i (cc := cX0_nearest) (maxL := 3) (ty := .int) (by decide) rfl (Nat.le_of_ble_eq_true rfl) (fun p e s m args below meth c A Q ls E ret hP hD hS hA hl => ?_)
  obtain ⟨hx, hb, hml, hown, hts, hK⟩ := E
  have hown : s.vm.findClass RX0 = some m.cls := hown
  have hl : lv_has ls 3 [(0, .int p0), (1, .int p1), (2, .int p2)] := hl
  have ret : ∀ (v0 : Int32) (u : Unit) (H : Heap) (locs : List Loc) (pc : Nat) (ls : Array Slot), some v0 = some r0 → va_P G.1 vwCl [] H → va_S A s.heap H locs → decode cX0_nearest pc = .ok (.ireturn, 1) → narrow .int (.int v0) = .int v0 → W p l e rmX0_nearest s m args below meth c H locs 0 0 Q (F0 m pc ls [.int v0]) := by
    intro v0 u H locs pc ls hz
    cases hz
    exact ret u H locs pc ls
  unfold f_X0_nearest at h
  refine lv_iload_n hx hb dX0_nearest_0 rfl (lv_at hl 1 rfl) ?_
  refine lv_iload_n hx hb dX0_nearest_1 rfl (lv_at hl 0 rfl) ?_
  refine lv_iload_n hx hb dX0_nearest_2 rfl (lv_at hl 2 rfl) ?_
  refine va_mmin hx hb (hml.trans hl.1.symm) hown (hts (.methodLink RX0 55 Lib.Math.min.name) (List.mem_of_getElem? (i := 1) rfl)) (hts (.static Lib.Math.min.name) (List.mem_of_getElem? (i := 2) rfl)) (hts (.initialized "java/lang/Math") (List.mem_of_getElem? (i := 3) rfl)) (hts (.code Lib.Math.min.name Lib.Math.min.code 2 (some .int)) (List.mem_of_getElem? (i := 4) rfl)) (Nat.le_of_ble_eq_true rfl) (Nat.le_of_ble_eq_true rfl) (Nat.zero_le _) (Nat.zero_le _) dX0_nearest_3 ?_
  refine va_mmax hx hb (hml.trans hl.1.symm) hown (hts (.methodLink RX0 71 Lib.Math.max.name) (List.mem_of_getElem? (i := 5) rfl)) (hts (.static Lib.Math.max.name) (List.mem_of_getElem? (i := 6) rfl)) (hts (.initialized "java/lang/Math") (List.mem_of_getElem? (i := 3) rfl)) (hts (.code Lib.Math.max.name Lib.Math.max.code 2 (some .int)) (List.mem_of_getElem? (i := 7) rfl)) (Nat.le_of_ble_eq_true rfl) (Nat.le_of_ble_eq_true rfl) (Nat.zero_le _) (Nat.zero_le _) dX0_nearest_6 ?_
  exact ret _ () _ _ _ _ h hP hS dX0_nearest_9 rfl
theorem uX0_fewestSteps_0 : ∀ w ∈ wsX00, w ∈ wsX0_fewestSteps := fun _ h => List.mem_cons_of_mem _ (List.mem_append_left _ (List.mem_append_right _ h))
theorem uX0_fewestSteps_4 : ∀ w ∈ wsX40, w ∈ wsX0_fewestSteps := fun _ h => List.mem_cons_of_mem _ (List.mem_append_left _ (List.mem_append_left _ (List.mem_append_right _ h)))
theorem uX0_fewestSteps_9 : ∀ w ∈ wsX90, w ∈ wsX0_fewestSteps := fun _ h => List.mem_cons_of_mem _ (List.mem_append_left _ (List.mem_append_left _ (List.mem_append_left _ (List.mem_append_right _ h))))
abbrev rmX0_fewestSteps : Room := { frames := 4, cells := 0, slots := 0, locals := 94 }
set_option maxRecDepth 100000 in
set_option maxHeartbeats 4000000 in
theorem c_X0_fewestSteps (l : Launch) (G : rs_G) (A_a0 : Nat) (A_a1 : Nat) (A_a0_first : Nat) (A_a0_second : Nat) (A_a1_shadow : Nat) (A_a1_stock : Nat) (A_a1_sights : Nat) (A_a1_stock_cells : Nat) (v_a1_year : Int32) (v_a1_shadow_lands : Int32) (v_a1_shadow_wide : Int32) (v_a1_shadow_pace : Int32) (v_a1_shadow_age : Int32) (v_a1_shadow_slits : Int32) (v_a1_shadow_slitA : Int32) (v_a1_shadow_slitB : Int32) (v_a1_stock_cells : (Nat → Int32)) (v_a0_first : (Nat → Int32)) (v_a0_second : (Nat → Int32)) (p2 : Int32) (N : Nat) (r0 : Int32) (h : f_X0_fewestSteps N p2 v_a1_year v_a1_shadow_lands v_a1_shadow_wide v_a1_shadow_pace v_a1_shadow_age v_a1_shadow_slits v_a1_shadow_slitA v_a1_shadow_slitB v_a1_stock_cells v_a0_first v_a0_second = some r0) : rs_Ci l yX0_fewestSteps wsX0_fewestSteps rmX0_fewestSteps G [.ref A_a0, .ref A_a1, .int p2] [(A_a0, .inr (0, [.ref A_a0_first, .ref A_a0_second])), (A_a1, .inr (9, [.ref A_a1_shadow, .ref A_a1_stock, .ref A_a1_sights, .int v_a1_year])), (A_a1_shadow, .inr (4, [.int v_a1_shadow_lands, .int v_a1_shadow_wide, .int v_a1_shadow_pace, .int v_a1_shadow_age, .int v_a1_shadow_slits, .int v_a1_shadow_slitA, .int v_a1_shadow_slitB])), (A_a1_stock, .inr (6, [.ref A_a1_stock_cells])), (A_a1_stock_cells, .inl (G.2.1, 36, .inl v_a1_stock_cells)), (A_a0_first, .inl (G.2.1, 892, .inl v_a0_first)), (A_a0_second, .inl (G.2.1, 892, .inl v_a0_second))] (fun (u : ((Nat → Int32) × (Nat → Int32))) => [(A_a0, .inr (0, [.ref A_a0_first, .ref A_a0_second])), (A_a1, .inr (9, [.ref A_a1_shadow, .ref A_a1_stock, .ref A_a1_sights, .int v_a1_year])), (A_a1_shadow, .inr (4, [.int v_a1_shadow_lands, .int v_a1_shadow_wide, .int v_a1_shadow_pace, .int v_a1_shadow_age, .int v_a1_shadow_slits, .int v_a1_shadow_slitA, .int v_a1_shadow_slitB])), (A_a1_stock, .inr (6, [.ref A_a1_stock_cells])), (A_a1_stock_cells, .inl (G.2.1, 36, .inl v_a1_stock_cells)), (A_a0_first, .inl (G.2.1, 892, .inl u.1)), (A_a0_second, .inl (G.2.1, 892, .inl u.2))]) r0 := by
  refine rs_enter_i (cc := cX0_fewestSteps) (maxL := 16) (ty := .int) (by decide) rfl (Nat.le_of_ble_eq_true rfl) (fun p e s m args below meth c A Q ls E ret hP hD hS hA hl => ?_)
  obtain ⟨hx, hb, hml, hown, hts, hK⟩ := E
  have hown : s.vm.findClass RX0 = some m.cls := hown
  have hl : lv_has ls 16 [(0, .ref A_a0), (1, .ref A_a1), (2, .int p2)] := hl
  have ret : ∀ (v0 : Int32) (u : ((Nat → Int32) × (Nat → Int32))) (H : Heap) (locs : List Loc) (pc : Nat) (ls : Array Slot), some v0 = some r0 → va_P G.1 vwCl [(A_a0, .inr (0, [.ref A_a0_first, .ref A_a0_second])), (A_a1, .inr (9, [.ref A_a1_shadow, .ref A_a1_stock, .ref A_a1_sights, .int v_a1_year])), (A_a1_shadow, .inr (4, [.int v_a1_shadow_lands, .int v_a1_shadow_wide, .int v_a1_shadow_pace, .int v_a1_shadow_age, .int v_a1_shadow_slits, .int v_a1_shadow_slitA, .int v_a1_shadow_slitB])), (A_a1_stock, .inr (6, [.ref A_a1_stock_cells])), (A_a1_stock_cells, .inl (G.2.1, 36, .inl v_a1_stock_cells)), (A_a0_first, .inl (G.2.1, 892, .inl u.1)), (A_a0_second, .inl (G.2.1, 892, .inl u.2))] H → va_S A s.heap H locs → decode cX0_fewestSteps pc = .ok (.ireturn, 1) → narrow .int (.int v0) = .int v0 → W p l e rmX0_fewestSteps s m args below meth c H locs 0 0 Q (F0 m pc ls [.int v0]) := by
    intro v0 u H locs pc ls hz
    cases hz
    exact ret u H locs pc ls
  unfold f_X0_fewestSteps at h
  refine lv_aload_n hx hb dX0_fewestSteps_0 rfl (lv_at hl 1 rfl) ?_
  refine va_get (D := G.1) (ci := 9) (v := .ref A_a1_stock) (C := RX9) (T := TX9) (N := 4) hx hb hts uX0_fewestSteps_9 hown hK.1 hP 1 rfl rfl 1 (by decide) (hts (.fieldLink RX0 18 "RingShadow$World" "stock" "LRingShadow$Stock;") (List.mem_of_getElem? (i := 1) rfl)) (fun _ h9 => h9) rfl dX0_fewestSteps_1 ?_
  refine lv_astore_n (lv' := [(3, .ref A_a1_stock), (0, .ref A_a0), (1, .ref A_a1), (2, .int p2)]) hx hb dX0_fewestSteps_4 rfl hl (by decide) rfl (fun ls hl => ?_)
  refine lv_aload_n hx hb dX0_fewestSteps_5 rfl (lv_at hl 0 rfl) ?_
  refine lv_aload_n hx hb dX0_fewestSteps_6 rfl (lv_at hl 2 rfl) ?_
  refine va_get (D := G.1) (ci := 9) (v := .ref A_a1_shadow) (C := RX9) (T := TX9) (N := 4) hx hb hts uX0_fewestSteps_9 hown hK.1 hP 1 rfl rfl 0 (by decide) (hts (.fieldLink RX0 24 "RingShadow$World" "shadow" "LRingShadow$Shadow;") (List.mem_of_getElem? (i := 2) rfl)) (fun _ h9 => h9) rfl dX0_fewestSteps_7 ?_
  refine va_get (D := G.1) (ci := 4) (v := .int v_a1_shadow_lands) (C := RX4) (T := TX4) (N := 7) hx hb hts uX0_fewestSteps_4 hown hK.1 hP 2 rfl rfl 0 (by decide) (hts (.fieldLink RX0 28 "RingShadow$Shadow" "lands" "I") (List.mem_of_getElem? (i := 3) rfl)) (fun _ h9 => h9) rfl dX0_fewestSteps_10 ?_
  obtain ⟨x1, h2, h⟩ := rs_b1s h
  have h := h _ rfl
  refine rs_callVi (As := [.int v_a1_shadow_lands]) (rest := []) ⟨hx, hb, hml, hown, hts⟩ (c_X6_together l G A_a1_stock A_a1_stock_cells v_a1_stock_cells v_a1_shadow_lands N x1 h2) (cwV 1 hts gX0_fewestSteps_X6_together rfl rfl rfl (by decide +kernel) ⟨Nat.le_of_ble_eq_true rfl, Nat.le_of_ble_eq_true rfl⟩) dX0_fewestSteps_13 hK hP hD hS hA [3, 4] rfl (by decide) rfl rfl (q0 := 0) (ci := 6) rfl rfl rfl hl.1 (lv_room (Nat.le_of_ble_eq_true rfl)) ⟨Nat.zero_le _, Nat.zero_le _⟩ (fun (_ : Unit) => [(A_a0, .inr (0, [.ref A_a0_first, .ref A_a0_second])), (A_a1, .inr (9, [.ref A_a1_shadow, .ref A_a1_stock, .ref A_a1_sights, .int v_a1_year])), (A_a1_shadow, .inr (4, [.int v_a1_shadow_lands, .int v_a1_shadow_wide, .int v_a1_shadow_pace, .int v_a1_shadow_age, .int v_a1_shadow_slits, .int v_a1_shadow_slitA, .int v_a1_shadow_slitB])), (A_a1_stock, .inr (6, [.ref A_a1_stock_cells])), (A_a1_stock_cells, .inl (G.2.1, 36, .inl v_a1_stock_cells)), (A_a0_first, .inl (G.2.1, 892, .inl v_a0_first)), (A_a0_second, .inl (G.2.1, 892, .inl v_a0_second))]) (fun _ => rfl) (fun _ => rfl) (fun u2 H locs hP hD hS => ?_)
  refine lv_istore (lv' := [(4, .int x1), (3, .ref A_a1_stock), (0, .ref A_a0), (1, .ref A_a1), (2, .int p2)]) hx hb dX0_fewestSteps_16 hl (by decide) rfl (fun ls hl => ?_)
  refine lv_aload_n hx hb dX0_fewestSteps_18 rfl (lv_at hl 2 rfl) ?_
  refine va_get (D := G.1) (ci := 0) (v := .ref A_a0_first) (C := RX0) (T := TX0) (N := 2) hx hb hts uX0_fewestSteps_0 hown hK.1 hP 0 rfl rfl 0 (by decide) (hts (.fieldLink RX0 9 "RingShadow$Carrier" "first" "[I") (List.mem_of_getElem? (i := 4) rfl)) (fun _ h9 => h9) rfl dX0_fewestSteps_19 ?_
  refine lv_astore (lv' := [(5, .ref A_a0_first), (4, .int x1), (3, .ref A_a1_stock), (0, .ref A_a0), (1, .ref A_a1), (2, .int p2)]) hx hb dX0_fewestSteps_22 hl (by decide) rfl (fun ls hl => ?_)
  refine lv_aload_n hx hb dX0_fewestSteps_24 rfl (lv_at hl 3 rfl) ?_
  refine va_get (D := G.1) (ci := 0) (v := .ref A_a0_second) (C := RX0) (T := TX0) (N := 2) hx hb hts uX0_fewestSteps_0 hown hK.1 hP 0 rfl rfl 1 (by decide) (hts (.fieldLink RX0 15 "RingShadow$Carrier" "second" "[I") (List.mem_of_getElem? (i := 5) rfl)) (fun _ h9 => h9) rfl dX0_fewestSteps_25 ?_
  refine lv_astore (lv' := [(6, .ref A_a0_second), (5, .ref A_a0_first), (4, .int x1), (3, .ref A_a1_stock), (0, .ref A_a0), (1, .ref A_a1), (2, .int p2)]) hx hb dX0_fewestSteps_28 hl (by decide) rfl (fun ls hl => ?_)
  refine lv_iconst (v := 0) hx hb dX0_fewestSteps_30 (by decide) ?_
  refine lv_istore (lv' := [(7, .int 0), (6, .ref A_a0_second), (5, .ref A_a0_first), (4, .int x1), (3, .ref A_a1_stock), (0, .ref A_a0), (1, .ref A_a1), (2, .int p2)]) hx hb dX0_fewestSteps_31 hl (by decide) rfl (fun ls hl => ?_)
  refine lv_iconst (v := 0) hx hb dX0_fewestSteps_33 (by decide) ?_
  refine lv_istore (lv' := [(8, .int 0), (7, .int 0), (6, .ref A_a0_second), (5, .ref A_a0_first), (4, .int x1), (3, .ref A_a1_stock), (0, .ref A_a0), (1, .ref A_a1), (2, .int p2)]) hx hb dX0_fewestSteps_34 hl (by decide) rfl (fun ls hl => ?_)
  refine lv_aload hx hb dX0_fewestSteps_36 (lv_at hl 3 rfl) ?_
  refine lv_iconst (v := 0) hx hb dX0_fewestSteps_38 (by decide) ?_
  refine lv_iconst (v := 0) hx hb dX0_fewestSteps_39 (by decide) ?_
  obtain ⟨f3, h4, h⟩ := rs_b1s h
  have h := h _ rfl
  refine rs_callNv (As := [.ref A_a0_first, .int 0, .int 0]) (rest := []) ⟨hx, hb, hml, hown, hts⟩ (c_X10_put l G A_a0_first v_a0_first 892 0 0 f3 h4) ⟨va_cnB 3 hts gX0_fewestSteps_X10_put_n40 rfl rfl rfl (rs_nw10 hK.2.1) (hts (.initialized RX10) (List.mem_of_getElem? (i := 24) rfl)) (by decide +kernel) ⟨Nat.le_of_ble_eq_true rfl, Nat.le_of_ble_eq_true rfl⟩, (hts (.static yX10_put) (List.mem_of_getElem? (i := 23) rfl)), trivial⟩ dX0_fewestSteps_40 hK hP hD hS hA [5] rfl (by decide) rfl rfl hl.1 (lv_room (Nat.le_of_ble_eq_true rfl)) ⟨Nat.zero_le _, Nat.zero_le _⟩ (fun (_ : Unit) => [(A_a0, .inr (0, [.ref A_a0_first, .ref A_a0_second])), (A_a1, .inr (9, [.ref A_a1_shadow, .ref A_a1_stock, .ref A_a1_sights, .int v_a1_year])), (A_a1_shadow, .inr (4, [.int v_a1_shadow_lands, .int v_a1_shadow_wide, .int v_a1_shadow_pace, .int v_a1_shadow_age, .int v_a1_shadow_slits, .int v_a1_shadow_slitA, .int v_a1_shadow_slitB])), (A_a1_stock, .inr (6, [.ref A_a1_stock_cells])), (A_a1_stock_cells, .inl (G.2.1, 36, .inl v_a1_stock_cells)), (A_a0_first, .inl (G.2.1, 892, .inl f3)), (A_a0_second, .inl (G.2.1, 892, .inl v_a0_second))]) (fun _ => rfl) (fun _ => rfl) (fun u4 H locs hP hD hS => ?_)
  refine lv_iconst (v := 0) hx hb dX0_fewestSteps_43 (by decide) ?_
  refine lv_istore (lv' := [(9, .int 0), (8, .int 0), (7, .int 0), (6, .ref A_a0_second), (5, .ref A_a0_first), (4, .int x1), (3, .ref A_a1_stock), (0, .ref A_a0), (1, .ref A_a1), (2, .int p2)]) hx hb dX0_fewestSteps_44 hl (by decide) rfl (fun ls hl => ?_)
  obtain ⟨X108, hX108, h, hR108⟩ := rs_m3s h
  have J108 : ∀ (f109 : (Nat → Int32)) (f110 : (Nat → Int32)) (x111 : Int32), X108 = .inl (f109, f110, x111) → ∀ (q112 : Nat) (q113 : Nat) (H : Heap) (locs : List Loc) (ls : Array Slot), rs_pm q112 q113 A_a0_first A_a0_second → va_P G.1 vwCl [(A_a0, .inr (0, [.ref A_a0_first, .ref A_a0_second])), (A_a1, .inr (9, [.ref A_a1_shadow, .ref A_a1_stock, .ref A_a1_sights, .int v_a1_year])), (A_a1_shadow, .inr (4, [.int v_a1_shadow_lands, .int v_a1_shadow_wide, .int v_a1_shadow_pace, .int v_a1_shadow_age, .int v_a1_shadow_slits, .int v_a1_shadow_slitA, .int v_a1_shadow_slitB])), (A_a1_stock, .inr (6, [.ref A_a1_stock_cells])), (A_a1_stock_cells, .inl (G.2.1, 36, .inl v_a1_stock_cells)), (q112, .inl (G.2.1, 892, .inl f109)), (q113, .inl (G.2.1, 892, .inl f110))] H → va_D A [(A_a0, .inr (0, [.ref A_a0_first, .ref A_a0_second])), (A_a1, .inr (9, [.ref A_a1_shadow, .ref A_a1_stock, .ref A_a1_sights, .int v_a1_year])), (A_a1_shadow, .inr (4, [.int v_a1_shadow_lands, .int v_a1_shadow_wide, .int v_a1_shadow_pace, .int v_a1_shadow_age, .int v_a1_shadow_slits, .int v_a1_shadow_slitA, .int v_a1_shadow_slitB])), (A_a1_stock, .inr (6, [.ref A_a1_stock_cells])), (A_a1_stock_cells, .inl (G.2.1, 36, .inl v_a1_stock_cells)), (q112, .inl (G.2.1, 892, .inl f109)), (q113, .inl (G.2.1, 892, .inl f110))] → va_S A s.heap H locs → lv_has ls 16 [(4, .int x1), (5, .ref q112), (8, .int x111)] → W p l e rmX0_fewestSteps s m args below meth c H locs 0 0 Q (F0 m 211 ls []) := by
    intro f109 f110 x111 hz q112 q113 H locs ls hpm108 hP hD hS hl
    have h := h _ _ _ hz
    refine lv_iload hx hb dX0_fewestSteps_211 (lv_at hl 2 rfl) ?_
    refine lv_iload hx hb dX0_fewestSteps_213 (lv_at hl 0 rfl) ?_
    refine lv_icmp_ne (tgt := 228) hx hb dX0_fewestSteps_215 (by decide) (fun hc => ?_) (fun hc => ?_)
    · have h := rs_neg hc h
      refine lv_bipush (v := (-6)) hx hb dX0_fewestSteps_228 (by decide) ?_
      rcases hpm108 with ⟨hq1, hq2⟩ | ⟨hq1, hq2⟩
      · subst hq1 hq2
        exact ret _ (f109, f110) _ _ _ _ h (hP.sub [0, 1, 2, 3, 4, 5, 6] rfl) hS dX0_fewestSteps_230 rfl
      subst hq1 hq2
      exact ret _ (f110, f109) _ _ _ _ h (hP.sub [0, 1, 2, 3, 4, 6, 5] rfl) hS dX0_fewestSteps_230 rfl
    have h := rs_pos hc h
    refine lv_aload hx hb dX0_fewestSteps_218 (lv_at hl 1 rfl) ?_
    refine lv_iload hx hb dX0_fewestSteps_220 (lv_at hl 0 rfl) ?_
    obtain ⟨x114, h115, h⟩ := rs_b1s h
    have h := h _ rfl
    refine rs_callNi (As := [.ref q112, .int x1]) (rest := []) ⟨hx, hb, hml, hown, hts⟩ (c_X10_at l G q112 f109 892 x1 x114 h115) ⟨va_cnB 2 hts gX0_fewestSteps_X10_at_n64 rfl rfl rfl (rs_nw11 hK.2.1) (hts (.initialized RX10) (List.mem_of_getElem? (i := 24) rfl)) (by decide +kernel) ⟨Nat.le_of_ble_eq_true rfl, Nat.le_of_ble_eq_true rfl⟩, (hts (.static yX10_at) (List.mem_of_getElem? (i := 67) rfl)), trivial⟩ dX0_fewestSteps_222 hK hP hD hS hA [5] rfl (by decide) rfl rfl hl.1 (lv_room (Nat.le_of_ble_eq_true rfl)) ⟨Nat.zero_le _, Nat.zero_le _⟩ (fun (_ : Unit) => [(A_a0, .inr (0, [.ref A_a0_first, .ref A_a0_second])), (A_a1, .inr (9, [.ref A_a1_shadow, .ref A_a1_stock, .ref A_a1_sights, .int v_a1_year])), (A_a1_shadow, .inr (4, [.int v_a1_shadow_lands, .int v_a1_shadow_wide, .int v_a1_shadow_pace, .int v_a1_shadow_age, .int v_a1_shadow_slits, .int v_a1_shadow_slitA, .int v_a1_shadow_slitB])), (A_a1_stock, .inr (6, [.ref A_a1_stock_cells])), (A_a1_stock_cells, .inl (G.2.1, 36, .inl v_a1_stock_cells)), (q112, .inl (G.2.1, 892, .inl f109)), (q113, .inl (G.2.1, 892, .inl f110))]) (fun _ => rfl) (fun _ => rfl) (fun u115 H locs hP hD hS => ?_)
    refine lv_goto (tgt := 230) hx hb dX0_fewestSteps_225 (by decide) ?_
    rcases hpm108 with ⟨hq1, hq2⟩ | ⟨hq1, hq2⟩
    · subst hq1 hq2
      exact ret _ (f109, f110) _ _ _ _ h (hP.sub [0, 1, 2, 3, 4, 5, 6] rfl) hS dX0_fewestSteps_230 rfl
    subst hq1 hq2
    exact ret _ (f110, f109) _ _ _ _ h (hP.sub [0, 1, 2, 3, 4, 6, 5] rfl) hS dX0_fewestSteps_230 rfl
  refine rs_l5W (Wd := fun (f75 : (Nat → Int32)) (f37 : (Nat → Int32)) (x40 : Int32) (x41 : Int32) (x42 : Int32) => ∀ (q38 : Nat) (q39 : Nat) (H : Heap) (locs : List Loc) (ls : Array Slot), rs_pm q38 q39 A_a0_first A_a0_second → va_P G.1 vwCl [(A_a0, .inr (0, [.ref A_a0_first, .ref A_a0_second])), (A_a1, .inr (9, [.ref A_a1_shadow, .ref A_a1_stock, .ref A_a1_sights, .int v_a1_year])), (A_a1_shadow, .inr (4, [.int v_a1_shadow_lands, .int v_a1_shadow_wide, .int v_a1_shadow_pace, .int v_a1_shadow_age, .int v_a1_shadow_slits, .int v_a1_shadow_slitA, .int v_a1_shadow_slitB])), (A_a1_stock, .inr (6, [.ref A_a1_stock_cells])), (A_a1_stock_cells, .inl (G.2.1, 36, .inl v_a1_stock_cells)), (q38, .inl (G.2.1, 892, .inl f75)), (q39, .inl (G.2.1, 892, .inl f37))] H → va_D A [(A_a0, .inr (0, [.ref A_a0_first, .ref A_a0_second])), (A_a1, .inr (9, [.ref A_a1_shadow, .ref A_a1_stock, .ref A_a1_sights, .int v_a1_year])), (A_a1_shadow, .inr (4, [.int v_a1_shadow_lands, .int v_a1_shadow_wide, .int v_a1_shadow_pace, .int v_a1_shadow_age, .int v_a1_shadow_slits, .int v_a1_shadow_slitA, .int v_a1_shadow_slitB])), (A_a1_stock, .inr (6, [.ref A_a1_stock_cells])), (A_a1_stock_cells, .inl (G.2.1, 36, .inl v_a1_stock_cells)), (q38, .inl (G.2.1, 892, .inl f75)), (q39, .inl (G.2.1, 892, .inl f37))] → va_S A s.heap H locs → lv_has ls 16 [(1, .ref A_a1), (2, .int p2), (3, .ref A_a1_stock), (4, .int x1), (5, .ref q38), (6, .ref q39), (7, .int x40), (8, .int x41), (9, .int x42)] → W p l e rmX0_fewestSteps s m args below meth c H locs 0 0 Q (F0 m 46 ls [])) ?_ N f3 v_a0_second 0 0 0 hX108 _ _ _ _ _ rs_pm_rf hP hD hS (lv_sub hl [8, 9, 6, 5, 4, 3, 2, 1, 0] rfl)
  intro f75 f37 x40 x41 x42 o108 h K108 L108 q38 q39 H locs ls hpm108 hP hD hS hl
  unfold f_X0_fewestSteps_L46 at h
  refine lv_iload hx hb dX0_fewestSteps_46 (lv_at hl 8 rfl) ?_
  refine lv_aload_n hx hb dX0_fewestSteps_48 rfl (lv_at hl 0 rfl) ?_
  refine va_get (D := G.1) (ci := 9) (v := .ref A_a1_shadow) (C := RX9) (T := TX9) (N := 4) hx hb hts uX0_fewestSteps_9 hown hK.1 hP 1 rfl rfl 0 (by decide) (hts (.fieldLink RX0 24 "RingShadow$World" "shadow" "LRingShadow$Shadow;") (List.mem_of_getElem? (i := 2) rfl)) (fun _ h9 => h9) rfl dX0_fewestSteps_49 ?_
  refine va_get (D := G.1) (ci := 4) (v := .int v_a1_shadow_lands) (C := RX4) (T := TX4) (N := 7) hx hb hts uX0_fewestSteps_4 hown hK.1 hP 2 rfl rfl 0 (by decide) (hts (.fieldLink RX0 28 "RingShadow$Shadow" "lands" "I") (List.mem_of_getElem? (i := 3) rfl)) (fun _ h9 => h9) rfl dX0_fewestSteps_52 ?_
  refine lv_icmp_ge (tgt := 211) hx hb dX0_fewestSteps_55 (by decide) (fun hc => ?_) (fun hc => ?_)
  · have h := rs_pos hc h
    exact J108 _ _ _ (L108 _ (Option.some.inj h).symm) _ _ _ _ _ hpm108 hP hD hS (lv_sub hl [3, 4, 7] rfl)
  have h := rs_neg hc h
  refine lv_aload_n hx hb dX0_fewestSteps_58 rfl (lv_at hl 0 rfl) ?_
  refine lv_iload hx hb dX0_fewestSteps_59 (lv_at hl 8 rfl) ?_
  refine lv_iload_n hx hb dX0_fewestSteps_61 rfl (lv_at hl 1 rfl) ?_
  obtain ⟨x116, h117, h⟩ := rs_b1s h
  have h := h _ rfl
  refine rs_callVi (As := [.int x42, .int p2]) (rest := []) ⟨hx, hb, hml, hown, hts⟩ (c_X9_needOf l G A_a1 A_a1_shadow A_a1_stock A_a1_sights A_a1_stock_cells v_a1_year v_a1_stock_cells v_a1_shadow_lands v_a1_shadow_wide v_a1_shadow_pace v_a1_shadow_age v_a1_shadow_slits v_a1_shadow_slitA v_a1_shadow_slitB x42 p2 N x116 h117) (cwV 2 hts gX0_fewestSteps_X9_needOf rfl rfl rfl (by decide +kernel) ⟨Nat.le_of_ble_eq_true rfl, Nat.le_of_ble_eq_true rfl⟩) dX0_fewestSteps_62 hK hP hD hS hA [1, 3, 4, 2] rfl (by decide) rfl rfl (q0 := 0) (ci := 9) rfl rfl rfl hl.1 (lv_room (Nat.le_of_ble_eq_true rfl)) ⟨Nat.zero_le _, Nat.zero_le _⟩ (fun (_ : Unit) => [(A_a0, .inr (0, [.ref A_a0_first, .ref A_a0_second])), (A_a1, .inr (9, [.ref A_a1_shadow, .ref A_a1_stock, .ref A_a1_sights, .int v_a1_year])), (A_a1_shadow, .inr (4, [.int v_a1_shadow_lands, .int v_a1_shadow_wide, .int v_a1_shadow_pace, .int v_a1_shadow_age, .int v_a1_shadow_slits, .int v_a1_shadow_slitA, .int v_a1_shadow_slitB])), (A_a1_stock, .inr (6, [.ref A_a1_stock_cells])), (A_a1_stock_cells, .inl (G.2.1, 36, .inl v_a1_stock_cells)), (q38, .inl (G.2.1, 892, .inl f75)), (q39, .inl (G.2.1, 892, .inl f37))]) (fun _ => rfl) (fun _ => rfl) (fun u117 H locs hP hD hS => ?_)
  refine lv_istore (lv' := [(10, .int x116), (1, .ref A_a1), (2, .int p2), (3, .ref A_a1_stock), (4, .int x1), (5, .ref q38), (6, .ref q39), (7, .int x40), (8, .int x41), (9, .int x42)]) hx hb dX0_fewestSteps_65 hl (by decide) rfl (fun ls hl => ?_)
  refine lv_iload hx hb dX0_fewestSteps_67 (lv_at hl 0 rfl) ?_
  refine lv_bipush (v := (-6)) hx hb dX0_fewestSteps_69 (by decide) ?_
  refine lv_icmp_eq (tgt := 84) hx hb dX0_fewestSteps_71 (by decide) (fun hc => ?_) (fun hc => ?_)
  · have h := rs_pos hc h
    refine lv_bipush (v := (-6)) hx hb dX0_fewestSteps_84 (by decide) ?_
    rcases hpm108 with ⟨hq1, hq2⟩ | ⟨hq1, hq2⟩
    · subst hq1 hq2
      exact ret _ (f75, f37) _ _ _ _ (hR108 _ (L108 _ (Option.some.inj h).symm)) (hP.sub [0, 1, 2, 3, 4, 5, 6] rfl) hS dX0_fewestSteps_86 rfl
    subst hq1 hq2
    exact ret _ (f37, f75) _ _ _ _ (hR108 _ (L108 _ (Option.some.inj h).symm)) (hP.sub [0, 1, 2, 3, 4, 6, 5] rfl) hS dX0_fewestSteps_86 rfl
  have h := rs_neg hc h
  refine lv_iload hx hb dX0_fewestSteps_74 (lv_at hl 7 rfl) ?_
  refine lv_iload hx hb dX0_fewestSteps_76 (lv_at hl 0 rfl) ?_
  refine lv_iadd hx hb dX0_fewestSteps_78 ?_
  refine lv_iload hx hb dX0_fewestSteps_79 (lv_at hl 4 rfl) ?_
  refine lv_icmp_le (tgt := 87) hx hb dX0_fewestSteps_81 (by decide) (fun hc => ?_) (fun hc => ?_)
  · have h := rs_pos hc h
    refine lv_aload_n hx hb dX0_fewestSteps_87 rfl (lv_at hl 3 rfl) ?_
    refine lv_iload hx hb dX0_fewestSteps_88 (lv_at hl 9 rfl) ?_
    refine lv_iconst (v := 3) hx hb dX0_fewestSteps_90 (by decide) ?_
    obtain ⟨x118, h119, h⟩ := rs_b1s h
    have h := h _ rfl
    refine rs_callVi (As := [.int x42, .int 3]) (rest := []) ⟨hx, hb, hml, hown, hts⟩ (c_X6_of l G A_a1_stock A_a1_stock_cells v_a1_stock_cells x42 3 x118 h119) (cwV 2 hts gX0_fewestSteps_X6_of rfl rfl rfl (by decide +kernel) ⟨Nat.le_of_ble_eq_true rfl, Nat.le_of_ble_eq_true rfl⟩) dX0_fewestSteps_91 hK hP hD hS hA [3, 4] rfl (by decide) rfl rfl (q0 := 0) (ci := 6) rfl rfl rfl hl.1 (lv_room (Nat.le_of_ble_eq_true rfl)) ⟨Nat.zero_le _, Nat.zero_le _⟩ (fun (_ : Unit) => [(A_a0, .inr (0, [.ref A_a0_first, .ref A_a0_second])), (A_a1, .inr (9, [.ref A_a1_shadow, .ref A_a1_stock, .ref A_a1_sights, .int v_a1_year])), (A_a1_shadow, .inr (4, [.int v_a1_shadow_lands, .int v_a1_shadow_wide, .int v_a1_shadow_pace, .int v_a1_shadow_age, .int v_a1_shadow_slits, .int v_a1_shadow_slitA, .int v_a1_shadow_slitB])), (A_a1_stock, .inr (6, [.ref A_a1_stock_cells])), (A_a1_stock_cells, .inl (G.2.1, 36, .inl v_a1_stock_cells)), (q38, .inl (G.2.1, 892, .inl f75)), (q39, .inl (G.2.1, 892, .inl f37))]) (fun _ => rfl) (fun _ => rfl) (fun u119 H locs hP hD hS => ?_)
    refine lv_istore (lv' := [(11, .int x118), (10, .int x116), (1, .ref A_a1), (2, .int p2), (3, .ref A_a1_stock), (4, .int x1), (5, .ref q38), (6, .ref q39), (7, .int x40), (8, .int x41), (9, .int x42)]) hx hb dX0_fewestSteps_94 hl (by decide) rfl (fun ls hl => ?_)
    refine lv_aload hx hb dX0_fewestSteps_96 (lv_at hl 6 rfl) ?_
    refine lv_iload hx hb dX0_fewestSteps_98 (lv_at hl 8 rfl) ?_
    refine lv_iload hx hb dX0_fewestSteps_100 (lv_at hl 9 rfl) ?_
    obtain ⟨x120, h121, h⟩ := rs_b1s h
    have h := h _ rfl
    refine rs_callSi (As := [.ref q38, .int x40, .int x41]) (rest := []) ⟨hx, hb, hml, hown, hts⟩ (c_X0_cheapest l G q38 f75 892 x40 x41 N x120 h121) (va_cwS 3 hts gX0_fewestSteps_X0_cheapest rfl rfl rfl (by decide +kernel) ⟨Nat.le_of_ble_eq_true rfl, Nat.le_of_ble_eq_true rfl⟩) dX0_fewestSteps_102 hK hP hD hS hA [5] rfl (by decide) rfl rfl hl.1 (lv_room (Nat.le_of_ble_eq_true rfl)) ⟨Nat.zero_le _, Nat.zero_le _⟩ (fun (_ : Unit) => [(A_a0, .inr (0, [.ref A_a0_first, .ref A_a0_second])), (A_a1, .inr (9, [.ref A_a1_shadow, .ref A_a1_stock, .ref A_a1_sights, .int v_a1_year])), (A_a1_shadow, .inr (4, [.int v_a1_shadow_lands, .int v_a1_shadow_wide, .int v_a1_shadow_pace, .int v_a1_shadow_age, .int v_a1_shadow_slits, .int v_a1_shadow_slitA, .int v_a1_shadow_slitB])), (A_a1_stock, .inr (6, [.ref A_a1_stock_cells])), (A_a1_stock_cells, .inl (G.2.1, 36, .inl v_a1_stock_cells)), (q38, .inl (G.2.1, 892, .inl f75)), (q39, .inl (G.2.1, 892, .inl f37))]) (fun _ => rfl) (fun _ => rfl) (fun u121 H locs hP hD hS => ?_)
    refine lv_istore (lv' := [(12, .int x120), (11, .int x118), (10, .int x116), (1, .ref A_a1), (2, .int p2), (3, .ref A_a1_stock), (4, .int x1), (5, .ref q38), (6, .ref q39), (7, .int x40), (8, .int x41), (9, .int x42)]) hx hb dX0_fewestSteps_105 hl (by decide) rfl (fun ls hl => ?_)
    refine lv_iload hx hb dX0_fewestSteps_107 (lv_at hl 9 rfl) ?_
    refine lv_iload hx hb dX0_fewestSteps_109 (lv_at hl 2 rfl) ?_
    refine lv_iadd hx hb dX0_fewestSteps_111 ?_
    refine rs_topi h (fun x122 h => ?_)
    refine lv_istore (lv' := [(7, .int x122), (12, .int x120), (11, .int x118), (10, .int x116), (1, .ref A_a1), (2, .int p2), (3, .ref A_a1_stock), (4, .int x1), (5, .ref q38), (6, .ref q39), (8, .int x41), (9, .int x42)]) hx hb dX0_fewestSteps_112 hl (by decide) rfl (fun ls hl => ?_)
    refine lv_iload hx hb dX0_fewestSteps_114 (lv_at hl 10 rfl) ?_
    refine lv_iload hx hb dX0_fewestSteps_116 (lv_at hl 2 rfl) ?_
    refine lv_iadd hx hb dX0_fewestSteps_118 ?_
    refine lv_iload hx hb dX0_fewestSteps_119 (lv_at hl 7 rfl) ?_
    refine va_mmin hx hb (hml.trans hl.1.symm) hown (hts (.methodLink RX0 55 Lib.Math.min.name) (List.mem_of_getElem? (i := 6) rfl)) (hts (.static Lib.Math.min.name) (List.mem_of_getElem? (i := 7) rfl)) (hts (.initialized "java/lang/Math") (List.mem_of_getElem? (i := 8) rfl)) (hts (.code Lib.Math.min.name Lib.Math.min.code 2 (some .int)) (List.mem_of_getElem? (i := 9) rfl)) (Nat.le_of_ble_eq_true rfl) (Nat.le_of_ble_eq_true rfl) (Nat.zero_le _) (Nat.zero_le _) dX0_fewestSteps_121 ?_
    refine rs_topi h (fun x123 h => ?_)
    refine lv_istore (lv' := [(8, .int x123), (7, .int x122), (12, .int x120), (11, .int x118), (10, .int x116), (1, .ref A_a1), (2, .int p2), (3, .ref A_a1_stock), (4, .int x1), (5, .ref q38), (6, .ref q39), (9, .int x42)]) hx hb dX0_fewestSteps_124 hl (by decide) rfl (fun ls hl => ?_)
    refine lv_aload_n hx hb dX0_fewestSteps_126 rfl (lv_at hl 7 rfl) ?_
    refine lv_iload hx hb dX0_fewestSteps_127 (lv_at hl 11 rfl) ?_
    refine lv_iconst (v := 1) hx hb dX0_fewestSteps_129 (by decide) ?_
    refine lv_iadd hx hb dX0_fewestSteps_130 ?_
    obtain ⟨x124, h125, h⟩ := rs_b1s h
    have h := h _ rfl
    refine rs_callVi (As := [.int (x42 + 1)]) (rest := []) ⟨hx, hb, hml, hown, hts⟩ (c_X6_together l G A_a1_stock A_a1_stock_cells v_a1_stock_cells (x42 + 1) N x124 h125) (cwV 1 hts gX0_fewestSteps_X6_together rfl rfl rfl (by decide +kernel) ⟨Nat.le_of_ble_eq_true rfl, Nat.le_of_ble_eq_true rfl⟩) dX0_fewestSteps_131 hK hP hD hS hA [3, 4] rfl (by decide) rfl rfl (q0 := 0) (ci := 6) rfl rfl rfl hl.1 (lv_room (Nat.le_of_ble_eq_true rfl)) ⟨Nat.zero_le _, Nat.zero_le _⟩ (fun (_ : Unit) => [(A_a0, .inr (0, [.ref A_a0_first, .ref A_a0_second])), (A_a1, .inr (9, [.ref A_a1_shadow, .ref A_a1_stock, .ref A_a1_sights, .int v_a1_year])), (A_a1_shadow, .inr (4, [.int v_a1_shadow_lands, .int v_a1_shadow_wide, .int v_a1_shadow_pace, .int v_a1_shadow_age, .int v_a1_shadow_slits, .int v_a1_shadow_slitA, .int v_a1_shadow_slitB])), (A_a1_stock, .inr (6, [.ref A_a1_stock_cells])), (A_a1_stock_cells, .inl (G.2.1, 36, .inl v_a1_stock_cells)), (q38, .inl (G.2.1, 892, .inl f75)), (q39, .inl (G.2.1, 892, .inl f37))]) (fun _ => rfl) (fun _ => rfl) (fun u125 H locs hP hD hS => ?_)
    refine lv_istore (lv' := [(13, .int x124), (8, .int x123), (7, .int x122), (12, .int x120), (11, .int x118), (10, .int x116), (1, .ref A_a1), (2, .int p2), (3, .ref A_a1_stock), (4, .int x1), (5, .ref q38), (6, .ref q39), (9, .int x42)]) hx hb dX0_fewestSteps_134 hl (by decide) rfl (fun ls hl => ?_)
    refine lv_iload hx hb dX0_fewestSteps_136 (lv_at hl 2 rfl) ?_
    refine lv_istore (lv' := [(14, .int x122), (13, .int x124), (8, .int x123), (7, .int x122), (12, .int x120), (11, .int x118), (10, .int x116), (1, .ref A_a1), (2, .int p2), (3, .ref A_a1_stock), (4, .int x1), (5, .ref q38), (6, .ref q39), (9, .int x42)]) hx hb dX0_fewestSteps_138 hl (by decide) rfl (fun ls hl => ?_)
    obtain ⟨X140, hX140, h⟩ := rs_b1s h
    have J140 : ∀ (f141 : (Nat → Int32)), X140 = f141 → ∀  (H : Heap) (locs : List Loc) (ls : Array Slot), va_P G.1 vwCl [(A_a0, .inr (0, [.ref A_a0_first, .ref A_a0_second])), (A_a1, .inr (9, [.ref A_a1_shadow, .ref A_a1_stock, .ref A_a1_sights, .int v_a1_year])), (A_a1_shadow, .inr (4, [.int v_a1_shadow_lands, .int v_a1_shadow_wide, .int v_a1_shadow_pace, .int v_a1_shadow_age, .int v_a1_shadow_slits, .int v_a1_shadow_slitA, .int v_a1_shadow_slitB])), (A_a1_stock, .inr (6, [.ref A_a1_stock_cells])), (A_a1_stock_cells, .inl (G.2.1, 36, .inl v_a1_stock_cells)), (q38, .inl (G.2.1, 892, .inl f75)), (q39, .inl (G.2.1, 892, .inl f141))] H → va_D A [(A_a0, .inr (0, [.ref A_a0_first, .ref A_a0_second])), (A_a1, .inr (9, [.ref A_a1_shadow, .ref A_a1_stock, .ref A_a1_sights, .int v_a1_year])), (A_a1_shadow, .inr (4, [.int v_a1_shadow_lands, .int v_a1_shadow_wide, .int v_a1_shadow_pace, .int v_a1_shadow_age, .int v_a1_shadow_slits, .int v_a1_shadow_slitA, .int v_a1_shadow_slitB])), (A_a1_stock, .inr (6, [.ref A_a1_stock_cells])), (A_a1_stock_cells, .inl (G.2.1, 36, .inl v_a1_stock_cells)), (q38, .inl (G.2.1, 892, .inl f75)), (q39, .inl (G.2.1, 892, .inl f141))] → va_S A s.heap H locs → lv_has ls 16 [(1, .ref A_a1), (2, .int p2), (3, .ref A_a1_stock), (4, .int x1), (5, .ref q38), (6, .ref q39), (7, .int x122), (8, .int x123), (9, .int x42)] → W p l e rmX0_fewestSteps s m args below meth c H locs 0 0 Q (F0 m 193 ls []) := by
      intro f141 hz  H locs ls hP hD hS hl
      have h := h _ hz
      refine lv_aload hx hb dX0_fewestSteps_193 (lv_at hl 4 rfl) ?_
      refine lv_astore (lv' := [(14, .ref q38), (1, .ref A_a1), (2, .int p2), (3, .ref A_a1_stock), (4, .int x1), (5, .ref q38), (6, .ref q39), (7, .int x122), (8, .int x123), (9, .int x42)]) hx hb dX0_fewestSteps_195 hl (by decide) rfl (fun ls hl => ?_)
      refine lv_aload hx hb dX0_fewestSteps_197 (lv_at hl 6 rfl) ?_
      refine lv_astore (lv' := [(5, .ref q39), (14, .ref q38), (1, .ref A_a1), (2, .int p2), (3, .ref A_a1_stock), (4, .int x1), (6, .ref q39), (7, .int x122), (8, .int x123), (9, .int x42)]) hx hb dX0_fewestSteps_199 hl (by decide) rfl (fun ls hl => ?_)
      refine lv_aload hx hb dX0_fewestSteps_201 (lv_at hl 1 rfl) ?_
      refine lv_astore (lv' := [(6, .ref q38), (5, .ref q39), (14, .ref q38), (1, .ref A_a1), (2, .int p2), (3, .ref A_a1_stock), (4, .int x1), (7, .int x122), (8, .int x123), (9, .int x42)]) hx hb dX0_fewestSteps_203 hl (by decide) rfl (fun ls hl => ?_)
      refine lv_iinc (v := (x42 + 1)) (lv' := [(9, .int (x42 + 1)), (6, .ref q38), (5, .ref q39), (14, .ref q38), (1, .ref A_a1), (2, .int p2), (3, .ref A_a1_stock), (4, .int x1), (7, .int x122), (8, .int x123)]) hx hb dX0_fewestSteps_205 hl (k := 9) rfl (by first | rfl | decide) (by decide) rfl (fun ls hl => ?_)
      refine lv_goto (tgt := 46) hx hb dX0_fewestSteps_208 (by decide) ?_
      exact K108 _ _ _ _ _ (Option.some.inj h).symm _ _ _ _ _ (rs_pm_swap hpm108) (hP.sub [0, 1, 2, 3, 4, 6, 5] rfl) (hD.sub [0, 1, 2, 3, 4, 6, 5] (by decide) rfl) hS (lv_sub hl [4, 5, 6, 7, 2, 1, 8, 9, 0] rfl)
    refine rs_l2W (Wd := fun (f132 : (Nat → Int32)) (x133 : Int32) => ∀  (H : Heap) (locs : List Loc) (ls : Array Slot), va_P G.1 vwCl [(A_a0, .inr (0, [.ref A_a0_first, .ref A_a0_second])), (A_a1, .inr (9, [.ref A_a1_shadow, .ref A_a1_stock, .ref A_a1_sights, .int v_a1_year])), (A_a1_shadow, .inr (4, [.int v_a1_shadow_lands, .int v_a1_shadow_wide, .int v_a1_shadow_pace, .int v_a1_shadow_age, .int v_a1_shadow_slits, .int v_a1_shadow_slitA, .int v_a1_shadow_slitB])), (A_a1_stock, .inr (6, [.ref A_a1_stock_cells])), (A_a1_stock_cells, .inl (G.2.1, 36, .inl v_a1_stock_cells)), (q38, .inl (G.2.1, 892, .inl f75)), (q39, .inl (G.2.1, 892, .inl f132))] H → va_D A [(A_a0, .inr (0, [.ref A_a0_first, .ref A_a0_second])), (A_a1, .inr (9, [.ref A_a1_shadow, .ref A_a1_stock, .ref A_a1_sights, .int v_a1_year])), (A_a1_shadow, .inr (4, [.int v_a1_shadow_lands, .int v_a1_shadow_wide, .int v_a1_shadow_pace, .int v_a1_shadow_age, .int v_a1_shadow_slits, .int v_a1_shadow_slitA, .int v_a1_shadow_slitB])), (A_a1_stock, .inr (6, [.ref A_a1_stock_cells])), (A_a1_stock_cells, .inl (G.2.1, 36, .inl v_a1_stock_cells)), (q38, .inl (G.2.1, 892, .inl f75)), (q39, .inl (G.2.1, 892, .inl f132))] → va_S A s.heap H locs → lv_has ls 16 [(1, .ref A_a1), (2, .int p2), (3, .ref A_a1_stock), (4, .int x1), (5, .ref q38), (6, .ref q39), (7, .int x122), (8, .int x123), (9, .int x42), (10, .int x116), (11, .int x118), (12, .int x120), (13, .int x124), (14, .int x133)] → W p l e rmX0_fewestSteps s m args below meth c H locs 0 0 Q (F0 m 140 ls [])) ?_ N f37 x122 hX140 _ _ _ hP hD hS (lv_sub hl [7, 8, 9, 10, 11, 12, 3, 2, 13, 6, 5, 4, 1, 0] rfl)
    intro f132 x133 o140 h K140 L140  H locs ls hP hD hS hl
    unfold f_X0_fewestSteps_L140 at h
    refine lv_iload hx hb dX0_fewestSteps_140 (lv_at hl 13 rfl) ?_
    refine lv_iload hx hb dX0_fewestSteps_142 (lv_at hl 7 rfl) ?_
    refine lv_icmp_gt (tgt := 193) hx hb dX0_fewestSteps_144 (by decide) (fun hc => ?_) (fun hc => ?_)
    · have h := rs_pos hc h
      exact J140 _ (L140 _ (Option.some.inj h).symm) _ _ _ hP hD hS (lv_sub hl [0, 1, 2, 3, 4, 5, 6, 7, 8] rfl)
    have h := rs_neg hc h
    refine lv_iload hx hb dX0_fewestSteps_147 (lv_at hl 11 rfl) ?_
    refine lv_iload hx hb dX0_fewestSteps_149 (lv_at hl 13 rfl) ?_
    refine lv_iload hx hb dX0_fewestSteps_151 (lv_at hl 10 rfl) ?_
    refine lv_isub hx hb dX0_fewestSteps_153 ?_
    refine lv_iload hx hb dX0_fewestSteps_154 (lv_at hl 13 rfl) ?_
    refine lv_iload hx hb dX0_fewestSteps_156 (lv_at hl 9 rfl) ?_
    refine lv_isub hx hb dX0_fewestSteps_158 ?_
    obtain ⟨x142, h143, h⟩ := rs_b1s h
    have h := h _ rfl
    refine rs_callSi (As := [.int x120, .int (x133 - x118), .int (x133 - x116)]) (rest := []) ⟨hx, hb, hml, hown, hts⟩ (c_X0_nearest l G x120 (x133 - x118) (x133 - x116) x142 h143) (va_cwS 3 hts gX0_fewestSteps_X0_nearest rfl rfl rfl (by decide +kernel) ⟨Nat.le_of_ble_eq_true rfl, Nat.le_of_ble_eq_true rfl⟩) dX0_fewestSteps_159 hK hP hD hS hA [] rfl (by decide) rfl rfl hl.1 (lv_room (Nat.le_of_ble_eq_true rfl)) ⟨Nat.zero_le _, Nat.zero_le _⟩ (fun (_ : Unit) => [(A_a0, .inr (0, [.ref A_a0_first, .ref A_a0_second])), (A_a1, .inr (9, [.ref A_a1_shadow, .ref A_a1_stock, .ref A_a1_sights, .int v_a1_year])), (A_a1_shadow, .inr (4, [.int v_a1_shadow_lands, .int v_a1_shadow_wide, .int v_a1_shadow_pace, .int v_a1_shadow_age, .int v_a1_shadow_slits, .int v_a1_shadow_slitA, .int v_a1_shadow_slitB])), (A_a1_stock, .inr (6, [.ref A_a1_stock_cells])), (A_a1_stock_cells, .inl (G.2.1, 36, .inl v_a1_stock_cells)), (q38, .inl (G.2.1, 892, .inl f75)), (q39, .inl (G.2.1, 892, .inl f132))]) (fun _ => rfl) (fun _ => rfl) (fun u143 H locs hP hD hS => ?_)
    refine lv_istore (lv' := [(15, .int x142), (1, .ref A_a1), (2, .int p2), (3, .ref A_a1_stock), (4, .int x1), (5, .ref q38), (6, .ref q39), (7, .int x122), (8, .int x123), (9, .int x42), (10, .int x116), (11, .int x118), (12, .int x120), (13, .int x124), (14, .int x133)]) hx hb dX0_fewestSteps_162 hl (by decide) rfl (fun ls hl => ?_)
    refine lv_aload hx hb dX0_fewestSteps_164 (lv_at hl 6 rfl) ?_
    refine lv_iload hx hb dX0_fewestSteps_166 (lv_at hl 14 rfl) ?_
    refine lv_aload hx hb dX0_fewestSteps_168 (lv_at hl 5 rfl) ?_
    refine lv_iload hx hb dX0_fewestSteps_170 (lv_at hl 0 rfl) ?_
    obtain ⟨x144, h145, h⟩ := rs_b1s h
    have h := h _ rfl
    refine rs_callNi (As := [.ref q38, .int x142]) (rest := [.int x133, .ref q39]) ⟨hx, hb, hml, hown, hts⟩ (c_X10_at l G q38 f75 892 x142 x144 h145) ⟨va_cnB 2 hts gX0_fewestSteps_X10_at_n64 rfl rfl rfl (rs_nw11 hK.2.1) (hts (.initialized RX10) (List.mem_of_getElem? (i := 24) rfl)) (by decide +kernel) ⟨Nat.le_of_ble_eq_true rfl, Nat.le_of_ble_eq_true rfl⟩, (hts (.static yX10_at) (List.mem_of_getElem? (i := 67) rfl)), trivial⟩ dX0_fewestSteps_172 hK hP hD hS hA [5] rfl (by decide) rfl rfl hl.1 (lv_room (Nat.le_of_ble_eq_true rfl)) ⟨Nat.zero_le _, Nat.zero_le _⟩ (fun (_ : Unit) => [(A_a0, .inr (0, [.ref A_a0_first, .ref A_a0_second])), (A_a1, .inr (9, [.ref A_a1_shadow, .ref A_a1_stock, .ref A_a1_sights, .int v_a1_year])), (A_a1_shadow, .inr (4, [.int v_a1_shadow_lands, .int v_a1_shadow_wide, .int v_a1_shadow_pace, .int v_a1_shadow_age, .int v_a1_shadow_slits, .int v_a1_shadow_slitA, .int v_a1_shadow_slitB])), (A_a1_stock, .inr (6, [.ref A_a1_stock_cells])), (A_a1_stock_cells, .inl (G.2.1, 36, .inl v_a1_stock_cells)), (q38, .inl (G.2.1, 892, .inl f75)), (q39, .inl (G.2.1, 892, .inl f132))]) (fun _ => rfl) (fun _ => rfl) (fun u145 H locs hP hD hS => ?_)
    refine lv_iload hx hb dX0_fewestSteps_175 (lv_at hl 14 rfl) ?_
    refine lv_iload hx hb dX0_fewestSteps_177 (lv_at hl 13 rfl) ?_
    refine lv_isub hx hb dX0_fewestSteps_179 ?_
    refine va_mabs hx hb (hml.trans hl.1.symm) hown (hts (.methodLink RX0 68 Lib.Math.abs.name) (List.mem_of_getElem? (i := 10) rfl)) (hts (.static Lib.Math.abs.name) (List.mem_of_getElem? (i := 11) rfl)) (hts (.initialized "java/lang/Math") (List.mem_of_getElem? (i := 8) rfl)) (hts (.code Lib.Math.abs.name Lib.Math.abs.code 1 (some .int)) (List.mem_of_getElem? (i := 12) rfl)) (Nat.le_of_ble_eq_true rfl) (Nat.le_of_ble_eq_true rfl) (Nat.zero_le _) (Nat.zero_le _) dX0_fewestSteps_180 ?_
    refine lv_iadd hx hb dX0_fewestSteps_183 ?_
    obtain ⟨f146, h147, h⟩ := rs_b1s h
    have h := h _ rfl
    refine rs_callNv (As := [.ref q39, .int x133, .int (x144 + (if 0 ≤ (x133 - x124) then (x133 - x124) else 0 - (x133 - x124)))]) (rest := []) ⟨hx, hb, hml, hown, hts⟩ (c_X10_put l G q39 f132 892 x133 (x144 + (if 0 ≤ (x133 - x124) then (x133 - x124) else 0 - (x133 - x124))) f146 h147) ⟨va_cnB 3 hts gX0_fewestSteps_X10_put_n40 rfl rfl rfl (rs_nw10 hK.2.1) (hts (.initialized RX10) (List.mem_of_getElem? (i := 24) rfl)) (by decide +kernel) ⟨Nat.le_of_ble_eq_true rfl, Nat.le_of_ble_eq_true rfl⟩, (hts (.static yX10_put) (List.mem_of_getElem? (i := 23) rfl)), trivial⟩ dX0_fewestSteps_184 hK hP hD hS hA [6] rfl (by decide) rfl rfl hl.1 (lv_room (Nat.le_of_ble_eq_true rfl)) ⟨Nat.zero_le _, Nat.zero_le _⟩ (fun (_ : Unit) => [(A_a0, .inr (0, [.ref A_a0_first, .ref A_a0_second])), (A_a1, .inr (9, [.ref A_a1_shadow, .ref A_a1_stock, .ref A_a1_sights, .int v_a1_year])), (A_a1_shadow, .inr (4, [.int v_a1_shadow_lands, .int v_a1_shadow_wide, .int v_a1_shadow_pace, .int v_a1_shadow_age, .int v_a1_shadow_slits, .int v_a1_shadow_slitA, .int v_a1_shadow_slitB])), (A_a1_stock, .inr (6, [.ref A_a1_stock_cells])), (A_a1_stock_cells, .inl (G.2.1, 36, .inl v_a1_stock_cells)), (q38, .inl (G.2.1, 892, .inl f75)), (q39, .inl (G.2.1, 892, .inl f146))]) (fun _ => rfl) (fun _ => rfl) (fun u147 H locs hP hD hS => ?_)
    refine lv_iinc (v := (x133 + 1)) (lv' := [(14, .int (x133 + 1)), (15, .int x142), (1, .ref A_a1), (2, .int p2), (3, .ref A_a1_stock), (4, .int x1), (5, .ref q38), (6, .ref q39), (7, .int x122), (8, .int x123), (9, .int x42), (10, .int x116), (11, .int x118), (12, .int x120), (13, .int x124)]) hx hb dX0_fewestSteps_187 hl (k := 14) rfl (by first | rfl | decide) (by decide) rfl (fun ls hl => ?_)
    refine lv_goto (tgt := 140) hx hb dX0_fewestSteps_190 (by decide) ?_
    exact K140 _ _ (Option.some.inj h).symm _ _ _ hP hD hS (lv_sub hl [2, 3, 4, 5, 6, 7, 8, 9, 10, 11, 12, 13, 14, 0] rfl)
  have h := rs_neg hc h
  refine lv_bipush (v := (-6)) hx hb dX0_fewestSteps_84 (by decide) ?_
  rcases hpm108 with ⟨hq1, hq2⟩ | ⟨hq1, hq2⟩
  · subst hq1 hq2
    exact ret _ (f75, f37) _ _ _ _ (hR108 _ (L108 _ (Option.some.inj h).symm)) (hP.sub [0, 1, 2, 3, 4, 5, 6] rfl) hS dX0_fewestSteps_86 rfl
  subst hq1 hq2
  exact ret _ (f37, f75) _ _ _ _ (hR108 _ (L108 _ (Option.some.inj h).symm)) (hP.sub [0, 1, 2, 3, 4, 6, 5] rfl) hS dX0_fewestSteps_86 rfl
abbrev rmX10_clear : Room := { frames := 0, cells := 0, slots := 0, locals := 0 }
set_option maxRecDepth 100000 in
set_option maxHeartbeats 4000000 in
theorem c_X10_clear (l : Launch) (G : rs_G) (A_a0 : Nat) (v_a0 : (Nat → Int32)) (n_a0 : Nat) (N : Nat) (o0 : (Nat → Int32)) (h : f_X10_clear N n_a0 v_a0 = some o0) : rs_Cv l yX10_clear wsX10_clear rmX10_clear G [.ref A_a0] [(A_a0, .inl (G.2.1, n_a0, .inl v_a0))] (fun (_ : Unit) => [(A_a0, .inl (G.2.1, n_a0, .inl o0))]) := by
  refine rs_enter_v (cc := cX10_clear) (maxL := 2) (by decide) rfl (Nat.le_of_ble_eq_true rfl) (fun p e s m args below meth c A Q ls E ret hP hD hS hA hl => ?_)
  obtain ⟨hx, hb, hml, hown, hts, hK⟩ := E
  have hown : s.vm.findClass RX10 = some m.cls := hown
  have hl : lv_has ls 2 [(0, .ref A_a0)] := hl
  have ret : ∀ (w0 : (Nat → Int32)) (u : Unit) (H : Heap) (locs : List Loc) (pc : Nat) (ls : Array Slot), some w0 = some o0 → va_P G.1 vwCl [(A_a0, .inl (G.2.1, n_a0, .inl w0))] H → va_S A s.heap H locs → decode cX10_clear pc = .ok (.return_, 1) → W p l e rmX10_clear s m args below meth c H locs 0 0 Q (F0 m pc ls []) := by
    intro w0 u H locs pc ls hz
    cases hz
    exact ret u H locs pc ls
  unfold f_X10_clear at h
  refine lv_iconst (v := 0) hx hb dX10_clear_0 (by decide) ?_
  refine lv_istore_n (lv' := [(1, .int 0), (0, .ref A_a0)]) hx hb dX10_clear_1 rfl hl (by decide) rfl (fun ls hl => ?_)
  obtain ⟨X3, hX3, h⟩ := rs_b1s h
  have J3 : ∀ (f4 : (Nat → Int32)), X3 = f4 → ∀  (H : Heap) (locs : List Loc) (ls : Array Slot), va_P G.1 vwCl [(A_a0, .inl (G.2.1, n_a0, .inl f4))] H → va_D A [(A_a0, .inl (G.2.1, n_a0, .inl f4))] → va_S A s.heap H locs → lv_has ls 2 [] → W p l e rmX10_clear s m args below meth c H locs 0 0 Q (F0 m 18 ls []) := by
    intro f4 hz  H locs ls hP hD hS hl
    have h := h _ hz
    exact ret _ () _ _ _ _ h hP hS dX10_clear_18
  refine rs_l2W (Wd := fun (f1 : (Nat → Int32)) (x2 : Int32) => ∀  (H : Heap) (locs : List Loc) (ls : Array Slot), va_P G.1 vwCl [(A_a0, .inl (G.2.1, n_a0, .inl f1))] H → va_D A [(A_a0, .inl (G.2.1, n_a0, .inl f1))] → va_S A s.heap H locs → lv_has ls 2 [(0, .ref A_a0), (1, .int x2)] → W p l e rmX10_clear s m args below meth c H locs 0 0 Q (F0 m 2 ls [])) ?_ N v_a0 0 hX3 _ _ _ hP hD hS (lv_sub hl [1, 0] rfl)
  intro f1 x2 o3 h K3 L3  H locs ls hP hD hS hl
  unfold f_X10_clear_L2 at h
  refine lv_iload_n hx hb dX10_clear_2 rfl (lv_at hl 1 rfl) ?_
  refine lv_aload_n hx hb dX10_clear_3 rfl (lv_at hl 0 rfl) ?_
  refine va_alen (v := (Int32.ofNat n_a0)) hx hb hK.1 hP 0 0 rfl rfl rfl dX10_clear_4 ?_
  refine lv_icmp_ge (tgt := 18) hx hb dX10_clear_5 (by decide) (fun hc => ?_) (fun hc => ?_)
  · have h := rs_pos hc h
    exact J3 _ (L3 _ (Option.some.inj h).symm) _ _ _ hP hD hS (lv_sub hl [] rfl)
  have h := rs_neg hc h
  refine lv_aload_n hx hb dX10_clear_8 rfl (lv_at hl 0 rfl) ?_
  refine lv_iload_n hx hb dX10_clear_9 rfl (lv_at hl 1 rfl) ?_
  refine lv_iconst (v := 0) hx hb dX10_clear_10 (by decide) ?_
  obtain ⟨hg, h⟩ := rs_gd h
  refine va_iast hx hb hK.1 hP hD hS 0 0 rfl rfl hg dX10_clear_11 (fun H locs hP hD hS => ?_)
  have hP : va_P G.1 vwCl [(A_a0, .inl (G.2.1, n_a0, .inl (upd f1 x2.toNatClampNeg 0)))] H := hP
  have hD : va_D A [(A_a0, .inl (G.2.1, n_a0, .inl (upd f1 x2.toNatClampNeg 0)))] := hD
  refine lv_iinc (v := (x2 + 1)) (lv' := [(1, .int (x2 + 1)), (0, .ref A_a0)]) hx hb dX10_clear_12 hl (k := 1) rfl (by first | rfl | decide) (by decide) rfl (fun ls hl => ?_)
  refine lv_goto (tgt := 2) hx hb dX10_clear_15 (by decide) ?_
  exact K3 _ _ (Option.some.inj h).symm _ _ _ hP hD hS (lv_sub hl [1, 0] rfl)
theorem uX4_turn_4 : ∀ w ∈ wsX40, w ∈ wsX4_turn := fun _ h => List.mem_cons_of_mem _ (List.mem_append_right _ h)
abbrev rmX4_turn : Room := { frames := 0, cells := 0, slots := 0, locals := 0 }
set_option maxRecDepth 100000 in
set_option maxHeartbeats 4000000 in
theorem c_X4_turn (l : Launch) (G : rs_G) (A_a0 : Nat) (v_a0_lands : Int32) (v_a0_wide : Int32) (v_a0_pace : Int32) (v_a0_age : Int32) (v_a0_slits : Int32) (v_a0_slitA : Int32) (v_a0_slitB : Int32) (r0 : Int32) (h : f_X4_turn v_a0_lands v_a0_wide = some r0) : rs_Ci l yX4_turn wsX4_turn rmX4_turn G [.ref A_a0] [(A_a0, .inr (4, [.int v_a0_lands, .int v_a0_wide, .int v_a0_pace, .int v_a0_age, .int v_a0_slits, .int v_a0_slitA, .int v_a0_slitB]))] (fun (_ : Unit) => [(A_a0, .inr (4, [.int v_a0_lands, .int v_a0_wide, .int v_a0_pace, .int v_a0_age, .int v_a0_slits, .int v_a0_slitA, .int v_a0_slitB]))]) r0 := by
  refine rs_enter_i (cc := cX4_turn) (maxL := 1) (ty := .int) (by decide) rfl (Nat.le_of_ble_eq_true rfl) (fun p e s m args below meth c A Q ls E ret hP hD hS hA hl => ?_)
  obtain ⟨hx, hb, hml, hown, hts, hK⟩ := E
  have hown : s.vm.findClass RX4 = some m.cls := hown
  have hl : lv_has ls 1 [(0, .ref A_a0)] := hl
  have ret : ∀ (v0 : Int32) (u : Unit) (H : Heap) (locs : List Loc) (pc : Nat) (ls : Array Slot), some v0 = some r0 → va_P G.1 vwCl [(A_a0, .inr (4, [.int v_a0_lands, .int v_a0_wide, .int v_a0_pace, .int v_a0_age, .int v_a0_slits, .int v_a0_slitA, .int v_a0_slitB]))] H → va_S A s.heap H locs → decode cX4_turn pc = .ok (.ireturn, 1) → narrow .int (.int v0) = .int v0 → W p l e rmX4_turn s m args below meth c H locs 0 0 Q (F0 m pc ls [.int v0]) := by
    intro v0 u H locs pc ls hz
    cases hz
    exact ret u H locs pc ls
  unfold f_X4_turn at h
  refine lv_iconst (v := 2) hx hb dX4_turn_0 (by decide) ?_
  refine lv_aload_n hx hb dX4_turn_1 rfl (lv_at hl 0 rfl) ?_
  refine va_get (D := G.1) (ci := 4) (v := .int v_a0_lands) (C := RX4) (T := TX4) (N := 7) hx hb hts uX4_turn_4 hown hK.1 hP 0 rfl rfl 0 (by decide) (hts (.fieldLink RX4 9 "RingShadow$Shadow" "lands" "I") (List.mem_of_getElem? (i := 1) rfl)) (fun _ h9 => h9) rfl dX4_turn_2 ?_
  refine lv_aload_n hx hb dX4_turn_5 rfl (lv_at hl 0 rfl) ?_
  refine va_get (D := G.1) (ci := 4) (v := .int v_a0_wide) (C := RX4) (T := TX4) (N := 7) hx hb hts uX4_turn_4 hown hK.1 hP 0 rfl rfl 1 (by decide) (hts (.fieldLink RX4 15 "RingShadow$Shadow" "wide" "I") (List.mem_of_getElem? (i := 2) rfl)) (fun _ h9 => h9) rfl dX4_turn_6 ?_
  refine lv_isub hx hb dX4_turn_9 ?_
  refine lv_imul hx hb dX4_turn_10 ?_
  exact ret _ () _ _ _ _ h hP hS dX4_turn_11 rfl
theorem uX5_fit_5 : ∀ w ∈ wsX50, w ∈ wsX5_fit := fun _ h => List.mem_cons_of_mem _ (List.mem_append_left _ (List.mem_append_right _ h))
abbrev rmX5_fit : Room := { frames := 2, cells := 0, slots := 0, locals := 46 }
set_option maxRecDepth 100000 in
set_option maxHeartbeats 4000000 in
theorem c_X5_fit (l : Launch) (G : rs_G) (A_a0 : Nat) (A_a1 : Nat) (A_a0_lands : Nat) (A_a0_years : Nat) (A_a0_covers : Nat) (v_a0_count : Int32) (v_a0_lands : (Nat → Int32)) (v_a0_years : (Nat → Int32)) (v_a1_lands : Int32) (v_a1_wide : Int32) (v_a1_pace : Int32) (v_a1_age : Int32) (v_a1_slits : Int32) (v_a1_slitA : Int32) (v_a1_slitB : Int32) (v_a0_covers : (Nat → Int32)) (N : Nat) (r0 : Int32) (h : f_X5_fit N v_a0_count v_a0_lands v_a0_years v_a1_lands v_a1_wide v_a1_pace v_a1_age v_a0_covers = some r0) : rs_Ci l yX5_fit wsX5_fit rmX5_fit G [.ref A_a0, .ref A_a1] [(A_a0, .inr (5, [.ref A_a0_lands, .ref A_a0_years, .ref A_a0_covers, .int v_a0_count])), (A_a0_lands, .inl (G.2.1, 8, .inl v_a0_lands)), (A_a0_years, .inl (G.2.1, 8, .inl v_a0_years)), (A_a1, .inr (4, [.int v_a1_lands, .int v_a1_wide, .int v_a1_pace, .int v_a1_age, .int v_a1_slits, .int v_a1_slitA, .int v_a1_slitB])), (A_a0_covers, .inl (G.2.1, 8, .inl v_a0_covers))] (fun (_ : Unit) => [(A_a0, .inr (5, [.ref A_a0_lands, .ref A_a0_years, .ref A_a0_covers, .int v_a0_count])), (A_a0_lands, .inl (G.2.1, 8, .inl v_a0_lands)), (A_a0_years, .inl (G.2.1, 8, .inl v_a0_years)), (A_a1, .inr (4, [.int v_a1_lands, .int v_a1_wide, .int v_a1_pace, .int v_a1_age, .int v_a1_slits, .int v_a1_slitA, .int v_a1_slitB])), (A_a0_covers, .inl (G.2.1, 8, .inl v_a0_covers))]) r0 := by
  refine rs_enter_i (cc := cX5_fit) (maxL := 3) (ty := .boolean) (by decide) rfl (Nat.le_of_ble_eq_true rfl) (fun p e s m args below meth c A Q ls E ret hP hD hS hA hl => ?_)
  obtain ⟨hx, hb, hml, hown, hts, hK⟩ := E
  have hown : s.vm.findClass RX5 = some m.cls := hown
  have hl : lv_has ls 3 [(0, .ref A_a0), (1, .ref A_a1)] := hl
  have ret : ∀ (v0 : Int32) (u : Unit) (H : Heap) (locs : List Loc) (pc : Nat) (ls : Array Slot), some v0 = some r0 → va_P G.1 vwCl [(A_a0, .inr (5, [.ref A_a0_lands, .ref A_a0_years, .ref A_a0_covers, .int v_a0_count])), (A_a0_lands, .inl (G.2.1, 8, .inl v_a0_lands)), (A_a0_years, .inl (G.2.1, 8, .inl v_a0_years)), (A_a1, .inr (4, [.int v_a1_lands, .int v_a1_wide, .int v_a1_pace, .int v_a1_age, .int v_a1_slits, .int v_a1_slitA, .int v_a1_slitB])), (A_a0_covers, .inl (G.2.1, 8, .inl v_a0_covers))] H → va_S A s.heap H locs → decode cX5_fit pc = .ok (.ireturn, 1) → narrow .boolean (.int v0) = .int v0 → W p l e rmX5_fit s m args below meth c H locs 0 0 Q (F0 m pc ls [.int v0]) := by
    intro v0 u H locs pc ls hz
    cases hz
    exact ret u H locs pc ls
  unfold f_X5_fit at h
  refine lv_iconst (v := 0) hx hb dX5_fit_0 (by decide) ?_
  refine lv_istore_n (lv' := [(2, .int 0), (0, .ref A_a0), (1, .ref A_a1)]) hx hb dX5_fit_1 rfl hl (by decide) rfl (fun ls hl => ?_)
  obtain ⟨X22, hX22, h, hR22⟩ := rs_m0s h
  have J22 : X22 = .inl () → ∀  (H : Heap) (locs : List Loc) (ls : Array Slot), va_P G.1 vwCl [(A_a0, .inr (5, [.ref A_a0_lands, .ref A_a0_years, .ref A_a0_covers, .int v_a0_count])), (A_a0_lands, .inl (G.2.1, 8, .inl v_a0_lands)), (A_a0_years, .inl (G.2.1, 8, .inl v_a0_years)), (A_a1, .inr (4, [.int v_a1_lands, .int v_a1_wide, .int v_a1_pace, .int v_a1_age, .int v_a1_slits, .int v_a1_slitA, .int v_a1_slitB])), (A_a0_covers, .inl (G.2.1, 8, .inl v_a0_covers))] H → va_D A [(A_a0, .inr (5, [.ref A_a0_lands, .ref A_a0_years, .ref A_a0_covers, .int v_a0_count])), (A_a0_lands, .inl (G.2.1, 8, .inl v_a0_lands)), (A_a0_years, .inl (G.2.1, 8, .inl v_a0_years)), (A_a1, .inr (4, [.int v_a1_lands, .int v_a1_wide, .int v_a1_pace, .int v_a1_age, .int v_a1_slits, .int v_a1_slitA, .int v_a1_slitB])), (A_a0_covers, .inl (G.2.1, 8, .inl v_a0_covers))] → va_S A s.heap H locs → lv_has ls 3 [] → W p l e rmX5_fit s m args below meth c H locs 0 0 Q (F0 m 58 ls []) := by
    intro  hz  H locs ls hP hD hS hl
    have h := h  hz
    refine lv_iconst (v := 1) hx hb dX5_fit_58 (by decide) ?_
    exact ret _ () _ _ _ _ h hP hS dX5_fit_59 rfl
  refine rs_l1W (Wd := fun (x11 : Int32) => ∀  (H : Heap) (locs : List Loc) (ls : Array Slot), va_P G.1 vwCl [(A_a0, .inr (5, [.ref A_a0_lands, .ref A_a0_years, .ref A_a0_covers, .int v_a0_count])), (A_a0_lands, .inl (G.2.1, 8, .inl v_a0_lands)), (A_a0_years, .inl (G.2.1, 8, .inl v_a0_years)), (A_a1, .inr (4, [.int v_a1_lands, .int v_a1_wide, .int v_a1_pace, .int v_a1_age, .int v_a1_slits, .int v_a1_slitA, .int v_a1_slitB])), (A_a0_covers, .inl (G.2.1, 8, .inl v_a0_covers))] H → va_D A [(A_a0, .inr (5, [.ref A_a0_lands, .ref A_a0_years, .ref A_a0_covers, .int v_a0_count])), (A_a0_lands, .inl (G.2.1, 8, .inl v_a0_lands)), (A_a0_years, .inl (G.2.1, 8, .inl v_a0_years)), (A_a1, .inr (4, [.int v_a1_lands, .int v_a1_wide, .int v_a1_pace, .int v_a1_age, .int v_a1_slits, .int v_a1_slitA, .int v_a1_slitB])), (A_a0_covers, .inl (G.2.1, 8, .inl v_a0_covers))] → va_S A s.heap H locs → lv_has ls 3 [(0, .ref A_a0), (1, .ref A_a1), (2, .int x11)] → W p l e rmX5_fit s m args below meth c H locs 0 0 Q (F0 m 2 ls [])) ?_ N 0 hX22 _ _ _ hP hD hS (lv_sub hl [1, 2, 0] rfl)
  intro x11 o22 h K22 L22  H locs ls hP hD hS hl
  unfold f_X5_fit_L2 at h
  refine lv_iload_n hx hb dX5_fit_2 rfl (lv_at hl 2 rfl) ?_
  refine lv_aload_n hx hb dX5_fit_3 rfl (lv_at hl 0 rfl) ?_
  refine va_get (D := G.1) (ci := 5) (v := .int v_a0_count) (C := RX5) (T := TX5) (N := 4) hx hb hts uX5_fit_5 hown hK.1 hP 0 rfl rfl 3 (by decide) (hts (.fieldLink RX5 25 "RingShadow$Sights" "count" "I") (List.mem_of_getElem? (i := 1) rfl)) (fun _ h9 => h9) rfl dX5_fit_4 ?_
  refine lv_icmp_ge (tgt := 58) hx hb dX5_fit_7 (by decide) (fun hc => ?_) (fun hc => ?_)
  · have h := rs_pos hc h
    exact J22  (L22 _ (Option.some.inj h).symm) _ _ _ hP hD hS (lv_sub hl [] rfl)
  have h := rs_neg hc h
  refine lv_aload_n hx hb dX5_fit_10 rfl (lv_at hl 1 rfl) ?_
  refine lv_aload_n hx hb dX5_fit_11 rfl (lv_at hl 0 rfl) ?_
  refine va_get (D := G.1) (ci := 5) (v := .ref A_a0_lands) (C := RX5) (T := TX5) (N := 4) hx hb hts uX5_fit_5 hown hK.1 hP 0 rfl rfl 0 (by decide) (hts (.fieldLink RX5 9 "RingShadow$Sights" "lands" "[I") (List.mem_of_getElem? (i := 2) rfl)) (fun _ h9 => h9) rfl dX5_fit_12 ?_
  refine lv_iload_n hx hb dX5_fit_15 rfl (lv_at hl 2 rfl) ?_
  obtain ⟨x23, h24, h⟩ := rs_b1s h
  have h := h _ rfl
  refine rs_callNi (As := [.ref A_a0_lands, .int x11]) (rest := [.ref A_a1]) ⟨hx, hb, hml, hown, hts⟩ (c_X10_at l G A_a0_lands v_a0_lands 8 x11 x23 h24) ⟨va_cnB 2 hts gX5_fit_X10_at_n33 rfl rfl rfl (rs_nw17 hK.2.1) (hts (.initialized RX10) (List.mem_of_getElem? (i := 6) rfl)) (by decide +kernel) ⟨Nat.le_of_ble_eq_true rfl, Nat.le_of_ble_eq_true rfl⟩, (hts (.static yX10_at) (List.mem_of_getElem? (i := 5) rfl)), trivial⟩ dX5_fit_16 hK hP hD hS hA [1] rfl (by decide) rfl rfl hl.1 (lv_room (Nat.le_of_ble_eq_true rfl)) ⟨Nat.zero_le _, Nat.zero_le _⟩ (fun (_ : Unit) => [(A_a0, .inr (5, [.ref A_a0_lands, .ref A_a0_years, .ref A_a0_covers, .int v_a0_count])), (A_a0_lands, .inl (G.2.1, 8, .inl v_a0_lands)), (A_a0_years, .inl (G.2.1, 8, .inl v_a0_years)), (A_a1, .inr (4, [.int v_a1_lands, .int v_a1_wide, .int v_a1_pace, .int v_a1_age, .int v_a1_slits, .int v_a1_slitA, .int v_a1_slitB])), (A_a0_covers, .inl (G.2.1, 8, .inl v_a0_covers))]) (fun _ => rfl) (fun _ => rfl) (fun u24 H locs hP hD hS => ?_)
  refine lv_aload_n hx hb dX5_fit_19 rfl (lv_at hl 0 rfl) ?_
  refine va_get (D := G.1) (ci := 5) (v := .ref A_a0_years) (C := RX5) (T := TX5) (N := 4) hx hb hts uX5_fit_5 hown hK.1 hP 0 rfl rfl 1 (by decide) (hts (.fieldLink RX5 15 "RingShadow$Sights" "years" "[I") (List.mem_of_getElem? (i := 3) rfl)) (fun _ h9 => h9) rfl dX5_fit_20 ?_
  refine lv_iload_n hx hb dX5_fit_23 rfl (lv_at hl 2 rfl) ?_
  obtain ⟨x25, h26, h⟩ := rs_b1s h
  have h := h _ rfl
  refine rs_callNi (As := [.ref A_a0_years, .int x11]) (rest := [.int x23, .ref A_a1]) ⟨hx, hb, hml, hown, hts⟩ (c_X10_at l G A_a0_years v_a0_years 8 x11 x25 h26) ⟨va_cnB 2 hts gX5_fit_X10_at_n33 rfl rfl rfl (rs_nw17 hK.2.1) (hts (.initialized RX10) (List.mem_of_getElem? (i := 6) rfl)) (by decide +kernel) ⟨Nat.le_of_ble_eq_true rfl, Nat.le_of_ble_eq_true rfl⟩, (hts (.static yX10_at) (List.mem_of_getElem? (i := 5) rfl)), trivial⟩ dX5_fit_24 hK hP hD hS hA [2] rfl (by decide) rfl rfl hl.1 (lv_room (Nat.le_of_ble_eq_true rfl)) ⟨Nat.zero_le _, Nat.zero_le _⟩ (fun (_ : Unit) => [(A_a0, .inr (5, [.ref A_a0_lands, .ref A_a0_years, .ref A_a0_covers, .int v_a0_count])), (A_a0_lands, .inl (G.2.1, 8, .inl v_a0_lands)), (A_a0_years, .inl (G.2.1, 8, .inl v_a0_years)), (A_a1, .inr (4, [.int v_a1_lands, .int v_a1_wide, .int v_a1_pace, .int v_a1_age, .int v_a1_slits, .int v_a1_slitA, .int v_a1_slitB])), (A_a0_covers, .inl (G.2.1, 8, .inl v_a0_covers))]) (fun _ => rfl) (fun _ => rfl) (fun u26 H locs hP hD hS => ?_)
  obtain ⟨x27, h28, h⟩ := rs_b1s h
  have h := h _ rfl
  refine rs_callVi (As := [.int x23, .int x25]) (rest := []) ⟨hx, hb, hml, hown, hts⟩ (c_X4_covers l G A_a1 v_a1_lands v_a1_wide v_a1_pace v_a1_age v_a1_slits v_a1_slitA v_a1_slitB x23 x25 x27 h28) (cwV 2 hts gX5_fit_X4_covers rfl rfl rfl (by decide +kernel) ⟨Nat.le_of_ble_eq_true rfl, Nat.le_of_ble_eq_true rfl⟩) dX5_fit_27 hK hP hD hS hA [3] rfl (by decide) rfl rfl (q0 := 0) (ci := 4) rfl rfl rfl hl.1 (lv_room (Nat.le_of_ble_eq_true rfl)) ⟨Nat.zero_le _, Nat.zero_le _⟩ (fun (_ : Unit) => [(A_a0, .inr (5, [.ref A_a0_lands, .ref A_a0_years, .ref A_a0_covers, .int v_a0_count])), (A_a0_lands, .inl (G.2.1, 8, .inl v_a0_lands)), (A_a0_years, .inl (G.2.1, 8, .inl v_a0_years)), (A_a1, .inr (4, [.int v_a1_lands, .int v_a1_wide, .int v_a1_pace, .int v_a1_age, .int v_a1_slits, .int v_a1_slitA, .int v_a1_slitB])), (A_a0_covers, .inl (G.2.1, 8, .inl v_a0_covers))]) (fun _ => rfl) (fun _ => rfl) (fun u28 H locs hP hD hS => ?_)
  refine lv_aload_n hx hb dX5_fit_30 rfl (lv_at hl 0 rfl) ?_
  refine va_get (D := G.1) (ci := 5) (v := .ref A_a0_covers) (C := RX5) (T := TX5) (N := 4) hx hb hts uX5_fit_5 hown hK.1 hP 0 rfl rfl 2 (by decide) (hts (.fieldLink RX5 18 "RingShadow$Sights" "covers" "[I") (List.mem_of_getElem? (i := 4) rfl)) (fun _ h9 => h9) rfl dX5_fit_31 ?_
  refine lv_iload_n hx hb dX5_fit_34 rfl (lv_at hl 2 rfl) ?_
  obtain ⟨x29, h30, h⟩ := rs_b1s h
  have h := h _ rfl
  refine rs_callNi (As := [.ref A_a0_covers, .int x11]) (rest := [.int x27]) ⟨hx, hb, hml, hown, hts⟩ (c_X10_at l G A_a0_covers v_a0_covers 8 x11 x29 h30) ⟨va_cnB 2 hts gX5_fit_X10_at_n33 rfl rfl rfl (rs_nw17 hK.2.1) (hts (.initialized RX10) (List.mem_of_getElem? (i := 6) rfl)) (by decide +kernel) ⟨Nat.le_of_ble_eq_true rfl, Nat.le_of_ble_eq_true rfl⟩, (hts (.static yX10_at) (List.mem_of_getElem? (i := 5) rfl)), trivial⟩ dX5_fit_35 hK hP hD hS hA [4] rfl (by decide) rfl rfl hl.1 (lv_room (Nat.le_of_ble_eq_true rfl)) ⟨Nat.zero_le _, Nat.zero_le _⟩ (fun (_ : Unit) => [(A_a0, .inr (5, [.ref A_a0_lands, .ref A_a0_years, .ref A_a0_covers, .int v_a0_count])), (A_a0_lands, .inl (G.2.1, 8, .inl v_a0_lands)), (A_a0_years, .inl (G.2.1, 8, .inl v_a0_years)), (A_a1, .inr (4, [.int v_a1_lands, .int v_a1_wide, .int v_a1_pace, .int v_a1_age, .int v_a1_slits, .int v_a1_slitA, .int v_a1_slitB])), (A_a0_covers, .inl (G.2.1, 8, .inl v_a0_covers))]) (fun _ => rfl) (fun _ => rfl) (fun u30 H locs hP hD hS => ?_)
  refine lv_iconst (v := 1) hx hb dX5_fit_38 (by decide) ?_
  obtain ⟨X32, hX32, h⟩ := rs_b1s h
  have J32 : ∀ (x31 : Int32), X32 = x31 → ∀ (H : Heap) (locs : List Loc) (ls : Array Slot), va_P G.1 vwCl [(A_a0, .inr (5, [.ref A_a0_lands, .ref A_a0_years, .ref A_a0_covers, .int v_a0_count])), (A_a0_lands, .inl (G.2.1, 8, .inl v_a0_lands)), (A_a0_years, .inl (G.2.1, 8, .inl v_a0_years)), (A_a1, .inr (4, [.int v_a1_lands, .int v_a1_wide, .int v_a1_pace, .int v_a1_age, .int v_a1_slits, .int v_a1_slitA, .int v_a1_slitB])), (A_a0_covers, .inl (G.2.1, 8, .inl v_a0_covers))] H → va_D A [(A_a0, .inr (5, [.ref A_a0_lands, .ref A_a0_years, .ref A_a0_covers, .int v_a0_count])), (A_a0_lands, .inl (G.2.1, 8, .inl v_a0_lands)), (A_a0_years, .inl (G.2.1, 8, .inl v_a0_years)), (A_a1, .inr (4, [.int v_a1_lands, .int v_a1_wide, .int v_a1_pace, .int v_a1_age, .int v_a1_slits, .int v_a1_slitA, .int v_a1_slitB])), (A_a0_covers, .inl (G.2.1, 8, .inl v_a0_covers))] → va_S A s.heap H locs → lv_has ls 3 [(0, .ref A_a0), (1, .ref A_a1), (2, .int x11)] → W p l e rmX5_fit s m args below meth c H locs 0 0 Q (F0 m 47 ls [.int x31, .int x27]) := by
    intro x31 hz H locs ls hP hD hS hl
    have h := h _ hz
    refine lv_icmp_eq (tgt := 52) hx hb dX5_fit_47 (by decide) (fun hc => ?_) (fun hc => ?_)
    · have h := rs_pos hc h
      refine lv_iinc (v := (x11 + 1)) (lv' := [(2, .int (x11 + 1)), (0, .ref A_a0), (1, .ref A_a1)]) hx hb dX5_fit_52 hl (k := 2) rfl (by first | rfl | decide) (by decide) rfl (fun ls hl => ?_)
      refine lv_goto (tgt := 2) hx hb dX5_fit_55 (by decide) ?_
      exact K22 _ (Option.some.inj h).symm _ _ _ hP hD hS (lv_sub hl [1, 2, 0] rfl)
    have h := rs_neg hc h
    refine lv_iconst (v := 0) hx hb dX5_fit_50 (by decide) ?_
    exact ret _ () _ _ _ _ (hR22 _ (L22 _ (Option.some.inj h).symm)) hP hS dX5_fit_51 rfl
  have h := hX32
  refine lv_icmp_ne (tgt := 46) hx hb dX5_fit_39 (by decide) (fun hc => ?_) (fun hc => ?_)
  · have h := rs_neg hc h
    refine lv_iconst (v := 0) hx hb dX5_fit_46 (by decide) ?_
    exact J32 _ (Option.some.inj h).symm _ _ _ hP hD hS (lv_sub hl [0, 1, 2] rfl)
  have h := rs_pos hc h
  refine lv_iconst (v := 1) hx hb dX5_fit_42 (by decide) ?_
  refine lv_goto (tgt := 47) hx hb dX5_fit_43 (by decide) ?_
  exact J32 _ (Option.some.inj h).symm _ _ _ hP hD hS (lv_sub hl [0, 1, 2] rfl)
theorem uX1_countCovered_1 : ∀ w ∈ wsX10, w ∈ wsX1_countCovered := fun _ h => List.mem_cons_of_mem _ (List.mem_append_left _ (List.mem_append_right _ h))
theorem uX1_countCovered_4 : ∀ w ∈ wsX40, w ∈ wsX1_countCovered := fun _ h => List.mem_cons_of_mem _ (List.mem_append_right _ h)
abbrev rmX1_countCovered : Room := { frames := 1, cells := 0, slots := 0, locals := 22 }
set_option maxRecDepth 100000 in
set_option maxHeartbeats 4000000 in
theorem c_X1_countCovered (l : Launch) (G : rs_G) (A_a0 : Nat) (A_a0_trial : Nat) (A_a0_covering : Nat) (v_a0_count : Int32) (v_a0_law : Int32) (v_a0_trial_lands : Int32) (v_a0_trial_wide : Int32) (v_a0_trial_pace : Int32) (v_a0_trial_age : Int32) (v_a0_trial_slits : Int32) (v_a0_trial_slitA : Int32) (v_a0_trial_slitB : Int32) (v_a0_covering : (Nat → Int32)) (p1 : Int32) (N : Nat) (o0 : (Nat → Int32)) (h : f_X1_countCovered N p1 v_a0_trial_wide v_a0_covering = some o0) : rs_Cv l yX1_countCovered wsX1_countCovered rmX1_countCovered G [.ref A_a0, .int p1] [(A_a0, .inr (1, [.ref A_a0_trial, .ref A_a0_covering, .int v_a0_count, .int v_a0_law])), (A_a0_trial, .inr (4, [.int v_a0_trial_lands, .int v_a0_trial_wide, .int v_a0_trial_pace, .int v_a0_trial_age, .int v_a0_trial_slits, .int v_a0_trial_slitA, .int v_a0_trial_slitB])), (A_a0_covering, .inl (G.2.1, 9, .inl v_a0_covering))] (fun (_ : Unit) => [(A_a0, .inr (1, [.ref A_a0_trial, .ref A_a0_covering, .int v_a0_count, .int v_a0_law])), (A_a0_trial, .inr (4, [.int v_a0_trial_lands, .int v_a0_trial_wide, .int v_a0_trial_pace, .int v_a0_trial_age, .int v_a0_trial_slits, .int v_a0_trial_slitA, .int v_a0_trial_slitB])), (A_a0_covering, .inl (G.2.1, 9, .inl o0))]) := by
  refine rs_enter_v (cc := cX1_countCovered) (maxL := 3) (by decide) rfl (Nat.le_of_ble_eq_true rfl) (fun p e s m args below meth c A Q ls E ret hP hD hS hA hl => ?_)
  obtain ⟨hx, hb, hml, hown, hts, hK⟩ := E
  have hown : s.vm.findClass RX1 = some m.cls := hown
  have hl : lv_has ls 3 [(0, .ref A_a0), (1, .int p1)] := hl
  have ret : ∀ (w0 : (Nat → Int32)) (u : Unit) (H : Heap) (locs : List Loc) (pc : Nat) (ls : Array Slot), some w0 = some o0 → va_P G.1 vwCl [(A_a0, .inr (1, [.ref A_a0_trial, .ref A_a0_covering, .int v_a0_count, .int v_a0_law])), (A_a0_trial, .inr (4, [.int v_a0_trial_lands, .int v_a0_trial_wide, .int v_a0_trial_pace, .int v_a0_trial_age, .int v_a0_trial_slits, .int v_a0_trial_slitA, .int v_a0_trial_slitB])), (A_a0_covering, .inl (G.2.1, 9, .inl w0))] H → va_S A s.heap H locs → decode cX1_countCovered pc = .ok (.return_, 1) → W p l e rmX1_countCovered s m args below meth c H locs 0 0 Q (F0 m pc ls []) := by
    intro w0 u H locs pc ls hz
    cases hz
    exact ret u H locs pc ls
  unfold f_X1_countCovered at h
  refine lv_iload_n hx hb dX1_countCovered_0 rfl (lv_at hl 1 rfl) ?_
  refine lv_istore_n (lv' := [(2, .int p1), (0, .ref A_a0), (1, .int p1)]) hx hb dX1_countCovered_1 rfl hl (by decide) rfl (fun ls hl => ?_)
  obtain ⟨X11, hX11, h⟩ := rs_b1s h
  have J11 : ∀ (f12 : (Nat → Int32)), X11 = f12 → ∀  (H : Heap) (locs : List Loc) (ls : Array Slot), va_P G.1 vwCl [(A_a0, .inr (1, [.ref A_a0_trial, .ref A_a0_covering, .int v_a0_count, .int v_a0_law])), (A_a0_trial, .inr (4, [.int v_a0_trial_lands, .int v_a0_trial_wide, .int v_a0_trial_pace, .int v_a0_trial_age, .int v_a0_trial_slits, .int v_a0_trial_slitA, .int v_a0_trial_slitB])), (A_a0_covering, .inl (G.2.1, 9, .inl f12))] H → va_D A [(A_a0, .inr (1, [.ref A_a0_trial, .ref A_a0_covering, .int v_a0_count, .int v_a0_law])), (A_a0_trial, .inr (4, [.int v_a0_trial_lands, .int v_a0_trial_wide, .int v_a0_trial_pace, .int v_a0_trial_age, .int v_a0_trial_slits, .int v_a0_trial_slitA, .int v_a0_trial_slitB])), (A_a0_covering, .inl (G.2.1, 9, .inl f12))] → va_S A s.heap H locs → lv_has ls 3 [] → W p l e rmX1_countCovered s m args below meth c H locs 0 0 Q (F0 m 39 ls []) := by
    intro f12 hz  H locs ls hP hD hS hl
    have h := h _ hz
    exact ret _ () _ _ _ _ h hP hS dX1_countCovered_39
  refine rs_l2W (Wd := fun (f5 : (Nat → Int32)) (x6 : Int32) => ∀  (H : Heap) (locs : List Loc) (ls : Array Slot), va_P G.1 vwCl [(A_a0, .inr (1, [.ref A_a0_trial, .ref A_a0_covering, .int v_a0_count, .int v_a0_law])), (A_a0_trial, .inr (4, [.int v_a0_trial_lands, .int v_a0_trial_wide, .int v_a0_trial_pace, .int v_a0_trial_age, .int v_a0_trial_slits, .int v_a0_trial_slitA, .int v_a0_trial_slitB])), (A_a0_covering, .inl (G.2.1, 9, .inl f5))] H → va_D A [(A_a0, .inr (1, [.ref A_a0_trial, .ref A_a0_covering, .int v_a0_count, .int v_a0_law])), (A_a0_trial, .inr (4, [.int v_a0_trial_lands, .int v_a0_trial_wide, .int v_a0_trial_pace, .int v_a0_trial_age, .int v_a0_trial_slits, .int v_a0_trial_slitA, .int v_a0_trial_slitB])), (A_a0_covering, .inl (G.2.1, 9, .inl f5))] → va_S A s.heap H locs → lv_has ls 3 [(0, .ref A_a0), (1, .int p1), (2, .int x6)] → W p l e rmX1_countCovered s m args below meth c H locs 0 0 Q (F0 m 2 ls [])) ?_ N v_a0_covering p1 hX11 _ _ _ hP hD hS (lv_sub hl [1, 2, 0] rfl)
  intro f5 x6 o11 h K11 L11  H locs ls hP hD hS hl
  unfold f_X1_countCovered_L2 at h
  refine lv_iload_n hx hb dX1_countCovered_2 rfl (lv_at hl 2 rfl) ?_
  refine lv_iload_n hx hb dX1_countCovered_3 rfl (lv_at hl 1 rfl) ?_
  refine lv_aload_n hx hb dX1_countCovered_4 rfl (lv_at hl 0 rfl) ?_
  refine va_get (D := G.1) (ci := 1) (v := .ref A_a0_trial) (C := RX1) (T := TX1) (N := 4) hx hb hts uX1_countCovered_1 hown hK.1 hP 0 rfl rfl 0 (by decide) (hts (.fieldLink RX1 12 "RingShadow$Census" "trial" "LRingShadow$Shadow;") (List.mem_of_getElem? (i := 1) rfl)) (fun _ h9 => h9) rfl dX1_countCovered_5 ?_
  refine va_get (D := G.1) (ci := 4) (v := .int v_a0_trial_wide) (C := RX4) (T := TX4) (N := 7) hx hb hts uX1_countCovered_4 hown hK.1 hP 1 rfl rfl 1 (by decide) (hts (.fieldLink RX1 41 "RingShadow$Shadow" "wide" "I") (List.mem_of_getElem? (i := 2) rfl)) (fun _ h9 => h9) rfl dX1_countCovered_8 ?_
  refine lv_iadd hx hb dX1_countCovered_11 ?_
  refine lv_icmp_ge (tgt := 39) hx hb dX1_countCovered_12 (by decide) (fun hc => ?_) (fun hc => ?_)
  · have h := rs_pos hc h
    exact J11 _ (L11 _ (Option.some.inj h).symm) _ _ _ hP hD hS (lv_sub hl [] rfl)
  have h := rs_neg hc h
  refine lv_aload_n hx hb dX1_countCovered_15 rfl (lv_at hl 0 rfl) ?_
  refine va_get (D := G.1) (ci := 1) (v := .ref A_a0_covering) (C := RX1) (T := TX1) (N := 4) hx hb hts uX1_countCovered_1 hown hK.1 hP 0 rfl rfl 1 (by decide) (hts (.fieldLink RX1 18 "RingShadow$Census" "covering" "[I") (List.mem_of_getElem? (i := 3) rfl)) (fun _ h9 => h9) rfl dX1_countCovered_16 ?_
  refine lv_iload_n hx hb dX1_countCovered_19 rfl (lv_at hl 2 rfl) ?_
  refine lv_aload_n hx hb dX1_countCovered_20 rfl (lv_at hl 0 rfl) ?_
  refine va_get (D := G.1) (ci := 1) (v := .ref A_a0_covering) (C := RX1) (T := TX1) (N := 4) hx hb hts uX1_countCovered_1 hown hK.1 hP 0 rfl rfl 1 (by decide) (hts (.fieldLink RX1 18 "RingShadow$Census" "covering" "[I") (List.mem_of_getElem? (i := 3) rfl)) (fun _ h9 => h9) rfl dX1_countCovered_21 ?_
  refine lv_iload_n hx hb dX1_countCovered_24 rfl (lv_at hl 2 rfl) ?_
  obtain ⟨x13, h14, h⟩ := rs_b1s h
  have h := h _ rfl
  refine rs_callNi (As := [.ref A_a0_covering, .int x6]) (rest := [.int x6, .ref A_a0_covering]) ⟨hx, hb, hml, hown, hts⟩ (c_X10_at l G A_a0_covering f5 9 x6 x13 h14) ⟨va_cnB 2 hts gX1_countCovered_X10_at_n82 rfl rfl rfl (rs_nw18 hK.2.1) (hts (.initialized RX10) (List.mem_of_getElem? (i := 5) rfl)) (by decide +kernel) ⟨Nat.le_of_ble_eq_true rfl, Nat.le_of_ble_eq_true rfl⟩, (hts (.static yX10_at) (List.mem_of_getElem? (i := 4) rfl)), trivial⟩ dX1_countCovered_25 hK hP hD hS hA [2] rfl (by decide) rfl rfl hl.1 (lv_room (Nat.le_of_ble_eq_true rfl)) ⟨Nat.zero_le _, Nat.zero_le _⟩ (fun (_ : Unit) => [(A_a0, .inr (1, [.ref A_a0_trial, .ref A_a0_covering, .int v_a0_count, .int v_a0_law])), (A_a0_trial, .inr (4, [.int v_a0_trial_lands, .int v_a0_trial_wide, .int v_a0_trial_pace, .int v_a0_trial_age, .int v_a0_trial_slits, .int v_a0_trial_slitA, .int v_a0_trial_slitB])), (A_a0_covering, .inl (G.2.1, 9, .inl f5))]) (fun _ => rfl) (fun _ => rfl) (fun u14 H locs hP hD hS => ?_)
  refine lv_iconst (v := 1) hx hb dX1_countCovered_28 (by decide) ?_
  refine lv_iadd hx hb dX1_countCovered_29 ?_
  obtain ⟨f15, h16, h⟩ := rs_b1s h
  have h := h _ rfl
  refine rs_callNv (As := [.ref A_a0_covering, .int x6, .int (x13 + 1)]) (rest := []) ⟨hx, hb, hml, hown, hts⟩ (c_X10_put l G A_a0_covering f5 9 x6 (x13 + 1) f15 h16) ⟨va_cnB 3 hts gX1_countCovered_X10_put_n86 rfl rfl rfl (rs_nw19 hK.2.1) (hts (.initialized RX10) (List.mem_of_getElem? (i := 5) rfl)) (by decide +kernel) ⟨Nat.le_of_ble_eq_true rfl, Nat.le_of_ble_eq_true rfl⟩, (hts (.static yX10_put) (List.mem_of_getElem? (i := 7) rfl)), trivial⟩ dX1_countCovered_30 hK hP hD hS hA [2] rfl (by decide) rfl rfl hl.1 (lv_room (Nat.le_of_ble_eq_true rfl)) ⟨Nat.zero_le _, Nat.zero_le _⟩ (fun (_ : Unit) => [(A_a0, .inr (1, [.ref A_a0_trial, .ref A_a0_covering, .int v_a0_count, .int v_a0_law])), (A_a0_trial, .inr (4, [.int v_a0_trial_lands, .int v_a0_trial_wide, .int v_a0_trial_pace, .int v_a0_trial_age, .int v_a0_trial_slits, .int v_a0_trial_slitA, .int v_a0_trial_slitB])), (A_a0_covering, .inl (G.2.1, 9, .inl f15))]) (fun _ => rfl) (fun _ => rfl) (fun u16 H locs hP hD hS => ?_)
  refine lv_iinc (v := (x6 + 1)) (lv' := [(2, .int (x6 + 1)), (0, .ref A_a0), (1, .int p1)]) hx hb dX1_countCovered_33 hl (k := 2) rfl (by first | rfl | decide) (by decide) rfl (fun ls hl => ?_)
  refine lv_goto (tgt := 2) hx hb dX1_countCovered_36 (by decide) ?_
  exact K11 _ _ (Option.some.inj h).symm _ _ _ hP hD hS (lv_sub hl [1, 2, 0] rfl)
