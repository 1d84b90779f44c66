theorem uX2_pass_2 : ∀ w ∈ wsX20, w ∈ wsX2_pass := fun _ h => List.mem_cons_of_mem _ (List.mem_append_left _ (List.mem_append_left _ (List.mem_append_left _ (List.mem_append_right _ h))))
theorem uX2_pass_9 : ∀ w ∈ wsX90, w ∈ wsX2_pass := fun _ h => List.mem_cons_of_mem _ (List.mem_append_left _ (List.mem_append_left _ (List.mem_append_right _ h)))
abbrev rmX2_pass : Room := { frames := 3, cells := 0, slots := 0, locals := 68 }
set_option maxRecDepth 100000 in
set_option maxHeartbeats 4000000 in
theorem c_X2_pass (l : Launch) (G : rs_G) (A_a0 : Nat) (A_a1 : Nat) (A_a0_first : Nat) (A_a0_second : Nat) (A_a1_shadow : Nat) (A_a1_stock : Nat) (A_a1_sights : Nat) (A_a1_stock_cells : Nat) (v_a0_fed : Int64) (v_a0_whole : Int64) (v_a0_first : (Nat → Int64)) (v_a1_year : Int32) (v_a1_stock_cells : (Nat → Int32)) (v_a0_second : (Nat → Int64)) (v_a1_shadow_lands : Int32) (v_a1_shadow_wide : Int32) (v_a1_shadow_pace : Int32) (v_a1_shadow_age : Int32) (v_a1_shadow_slits : Int32) (v_a1_shadow_slitA : Int32) (v_a1_shadow_slitB : Int32) (p2 : Int32) (p3 : Int32) (p4 : Int32) (N : Nat) (o0 : Int64) (o1 : Int64) (h : f_X2_pass N p2 p3 p4 v_a0_first v_a1_year v_a1_stock_cells v_a0_second v_a1_shadow_lands v_a1_shadow_wide v_a1_shadow_pace v_a1_shadow_age v_a1_shadow_slits v_a1_shadow_slitA v_a1_shadow_slitB = some (o0, o1)) : rs_Cv l yX2_pass wsX2_pass rmX2_pass G [.ref A_a0, .ref A_a1, .int p2, .int p3, .int p4] [(A_a0, .inr (2, [.ref A_a0_first, .ref A_a0_second, .long v_a0_fed, .long v_a0_whole])), (A_a0_first, .inl (G.2.2.1, 100, .inr (.inl v_a0_first))), (A_a1, .inr (9, [.ref A_a1_shadow, .ref A_a1_stock, .ref A_a1_sights, .int v_a1_year])), (A_a1_stock, .inr (6, [.ref A_a1_stock_cells])), (A_a1_stock_cells, .inl (G.2.1, 36, .inl v_a1_stock_cells)), (A_a0_second, .inl (G.2.2.1, 100, .inr (.inl v_a0_second))), (A_a1_shadow, .inr (4, [.int v_a1_shadow_lands, .int v_a1_shadow_wide, .int v_a1_shadow_pace, .int v_a1_shadow_age, .int v_a1_shadow_slits, .int v_a1_shadow_slitA, .int v_a1_shadow_slitB]))] (fun (u : ((Nat → Int64) × (Nat → Int64))) => [(A_a0, .inr (2, [.ref A_a0_first, .ref A_a0_second, .long o0, .long o1])), (A_a0_first, .inl (G.2.2.1, 100, .inr (.inl u.1))), (A_a1, .inr (9, [.ref A_a1_shadow, .ref A_a1_stock, .ref A_a1_sights, .int v_a1_year])), (A_a1_stock, .inr (6, [.ref A_a1_stock_cells])), (A_a1_stock_cells, .inl (G.2.1, 36, .inl v_a1_stock_cells)), (A_a0_second, .inl (G.2.2.1, 100, .inr (.inl u.2))), (A_a1_shadow, .inr (4, [.int v_a1_shadow_lands, .int v_a1_shadow_wide, .int v_a1_shadow_pace, .int v_a1_shadow_age, .int v_a1_shadow_slits, .int v_a1_shadow_slitA, .int v_a1_shadow_slitB]))]) := by
  refine rs_enter_v (cc := cX2_pass) (maxL := 9) (by decide) rfl (Nat.le_of_ble_eq_true rfl) (fun p e s m args below meth c A Q ls E ret hP hD hS hA hl => ?_)
  obtain ⟨hx, hb, hml, hown, hts, hK⟩ := E
  have hown : s.vm.findClass RX2 = some m.cls := hown
  have hl : lv_has ls 9 [(0, .ref A_a0), (1, .ref A_a1), (2, .int p2), (3, .int p3), (4, .int p4)] := hl
  have ret : ∀ (w0 : Int64) (w1 : Int64) (u : ((Nat → Int64) × (Nat → Int64))) (H : Heap) (locs : List Loc) (pc : Nat) (ls : Array Slot), some (w0, w1) = some (o0, o1) → va_P G.1 vwCl [(A_a0, .inr (2, [.ref A_a0_first, .ref A_a0_second, .long w0, .long w1])), (A_a0_first, .inl (G.2.2.1, 100, .inr (.inl u.1))), (A_a1, .inr (9, [.ref A_a1_shadow, .ref A_a1_stock, .ref A_a1_sights, .int v_a1_year])), (A_a1_stock, .inr (6, [.ref A_a1_stock_cells])), (A_a1_stock_cells, .inl (G.2.1, 36, .inl v_a1_stock_cells)), (A_a0_second, .inl (G.2.2.1, 100, .inr (.inl u.2))), (A_a1_shadow, .inr (4, [.int v_a1_shadow_lands, .int v_a1_shadow_wide, .int v_a1_shadow_pace, .int v_a1_shadow_age, .int v_a1_shadow_slits, .int v_a1_shadow_slitA, .int v_a1_shadow_slitB]))] H → va_S A s.heap H locs → decode cX2_pass pc = .ok (.return_, 1) → W p l e rmX2_pass s m args below meth c H locs 0 0 Q (F0 m pc ls []) := by
    intro w0 w1 u H locs pc ls hz
    cases hz
    exact ret u H locs pc ls
  unfold f_X2_pass at h
  refine lv_aload_n hx hb dX2_pass_0 rfl (lv_at hl 0 rfl) ?_
  refine va_get (D := G.1) (ci := 2) (v := .ref A_a0_first) (C := RX2) (T := TX2) (N := 4) hx hb hts uX2_pass_2 hown hK.1 hP 0 rfl rfl 0 (by decide) (hts (.fieldLink RX2 9 "RingShadow$Cloud" "first" "[J") (List.mem_of_getElem? (i := 1) rfl)) (fun _ h9 => h9) rfl dX2_pass_1 ?_
  refine lv_astore (lv' := [(5, .ref A_a0_first), (0, .ref A_a0), (1, .ref A_a1), (2, .int p2), (3, .int p3), (4, .int p4)]) hx hb dX2_pass_4 hl (by decide) rfl (fun ls hl => ?_)
  refine lv_aload_n hx hb dX2_pass_6 rfl (lv_at hl 1 rfl) ?_
  refine va_get (D := G.1) (ci := 2) (v := .ref A_a0_second) (C := RX2) (T := TX2) (N := 4) hx hb hts uX2_pass_2 hown hK.1 hP 0 rfl rfl 1 (by decide) (hts (.fieldLink RX2 15 "RingShadow$Cloud" "second" "[J") (List.mem_of_getElem? (i := 2) rfl)) (fun _ h9 => h9) rfl dX2_pass_7 ?_
  refine lv_astore (lv' := [(6, .ref A_a0_second), (5, .ref A_a0_first), (0, .ref A_a0), (1, .ref A_a1), (2, .int p2), (3, .int p3), (4, .int p4)]) hx hb dX2_pass_10 hl (by decide) rfl (fun ls hl => ?_)
  refine lv_aload hx hb dX2_pass_12 (lv_at hl 1 rfl) ?_
  obtain ⟨f1, h2, h⟩ := rs_b1s h
  have h := h _ rfl
  refine rs_callNv (As := [.ref A_a0_first]) (rest := []) ⟨hx, hb, hml, hown, hts⟩ (c_X10_clear_ l G A_a0_first v_a0_first 100 N f1 h2) ⟨va_cnB 1 hts gX2_pass_X10_clear__n18 rfl rfl rfl (rs_nw20 hK.2.1) (hts (.initialized RX10) (List.mem_of_getElem? (i := 10) rfl)) (by decide +kernel) ⟨Nat.le_of_ble_eq_true rfl, Nat.le_of_ble_eq_true rfl⟩, (hts (.static yX10_clear_) (List.mem_of_getElem? (i := 9) rfl)), trivial⟩ dX2_pass_14 hK hP hD hS hA [1] rfl (by decide) rfl rfl hl.1 (lv_room (Nat.le_of_ble_eq_true rfl)) ⟨Nat.zero_le _, Nat.zero_le _⟩ (fun (_ : Unit) => [(A_a0, .inr (2, [.ref A_a0_first, .ref A_a0_second, .long v_a0_fed, .long v_a0_whole])), (A_a0_first, .inl (G.2.2.1, 100, .inr (.inl f1))), (A_a1, .inr (9, [.ref A_a1_shadow, .ref A_a1_stock, .ref A_a1_sights, .int v_a1_year])), (A_a1_stock, .inr (6, [.ref A_a1_stock_cells])), (A_a1_stock_cells, .inl (G.2.1, 36, .inl v_a1_stock_cells)), (A_a0_second, .inl (G.2.2.1, 100, .inr (.inl v_a0_second))), (A_a1_shadow, .inr (4, [.int v_a1_shadow_lands, .int v_a1_shadow_wide, .int v_a1_shadow_pace, .int v_a1_shadow_age, .int v_a1_shadow_slits, .int v_a1_shadow_slitA, .int v_a1_shadow_slitB]))]) (fun _ => rfl) (fun _ => rfl) (fun u2 H locs hP hD hS => ?_)
  refine lv_aload hx hb dX2_pass_17 (lv_at hl 1 rfl) ?_
  refine lv_aload_n hx hb dX2_pass_19 rfl (lv_at hl 3 rfl) ?_
  refine va_get (D := G.1) (ci := 9) (v := .ref A_a1_stock) (C := RX9) (T := TX9) (N := 4) hx hb hts uX2_pass_9 hown hK.1 hP 2 rfl rfl 1 (by decide) (hts (.fieldLink RX2 22 "RingShadow$World" "stock" "LRingShadow$Stock;") (List.mem_of_getElem? (i := 3) rfl)) (fun _ h9 => h9) rfl dX2_pass_20 ?_
  refine lv_iload_n hx hb dX2_pass_23 rfl (lv_at hl 4 rfl) ?_
  refine lv_iconst (v := 2) hx hb dX2_pass_24 (by decide) ?_
  obtain ⟨x3, h4, h⟩ := rs_b1s h
  have h := h _ rfl
  refine rs_callVi (As := [.int p2, .int 2]) (rest := [.ref A_a0_first]) ⟨hx, hb, hml, hown, hts⟩ (c_X6_of l G A_a1_stock A_a1_stock_cells v_a1_stock_cells p2 2 x3 h4) (cwV 2 hts gX2_pass_X6_of rfl rfl rfl (by decide +kernel) ⟨Nat.le_of_ble_eq_true rfl, Nat.le_of_ble_eq_true rfl⟩) dX2_pass_25 hK hP hD hS hA [3, 4] rfl (by decide) rfl rfl (q0 := 0) (ci := 6) rfl rfl rfl hl.1 (lv_room (Nat.le_of_ble_eq_true rfl)) ⟨Nat.zero_le _, Nat.zero_le _⟩ (fun (_ : Unit) => [(A_a0, .inr (2, [.ref A_a0_first, .ref A_a0_second, .long v_a0_fed, .long v_a0_whole])), (A_a0_first, .inl (G.2.2.1, 100, .inr (.inl f1))), (A_a1, .inr (9, [.ref A_a1_shadow, .ref A_a1_stock, .ref A_a1_sights, .int v_a1_year])), (A_a1_stock, .inr (6, [.ref A_a1_stock_cells])), (A_a1_stock_cells, .inl (G.2.1, 36, .inl v_a1_stock_cells)), (A_a0_second, .inl (G.2.2.1, 100, .inr (.inl v_a0_second))), (A_a1_shadow, .inr (4, [.int v_a1_shadow_lands, .int v_a1_shadow_wide, .int v_a1_shadow_pace, .int v_a1_shadow_age, .int v_a1_shadow_slits, .int v_a1_shadow_slitA, .int v_a1_shadow_slitB]))]) (fun _ => rfl) (fun _ => rfl) (fun u4 H locs hP hD hS => ?_)
  refine lv_lconst (v := 1) hx hb dX2_pass_28 (by decide) ?_
  obtain ⟨f5, h6, h⟩ := rs_b1s h
  have h := h _ rfl
  refine rs_callNv (As := [.ref A_a0_first, .int x3, .long 1]) (rest := []) ⟨hx, hb, hml, hown, hts⟩ (c_X10_add l G A_a0_first f1 100 x3 1 f5 h6) ⟨va_cnB 3 hts gX2_pass_X10_add_n34 rfl rfl rfl (rs_nw21 hK.2.1) (hts (.initialized RX10) (List.mem_of_getElem? (i := 10) rfl)) (by decide +kernel) ⟨Nat.le_of_ble_eq_true rfl, Nat.le_of_ble_eq_true rfl⟩, (hts (.static yX10_add) (List.mem_of_getElem? (i := 18) rfl)), trivial⟩ dX2_pass_29 hK hP hD hS hA [1] rfl (by decide) rfl rfl hl.1 (lv_room (Nat.le_of_ble_eq_true rfl)) ⟨Nat.zero_le _, Nat.zero_le _⟩ (fun (_ : Unit) => [(A_a0, .inr (2, [.ref A_a0_first, .ref A_a0_second, .long v_a0_fed, .long v_a0_whole])), (A_a0_first, .inl (G.2.2.1, 100, .inr (.inl f5))), (A_a1, .inr (9, [.ref A_a1_shadow, .ref A_a1_stock, .ref A_a1_sights, .int v_a1_year])), (A_a1_stock, .inr (6, [.ref A_a1_stock_cells])), (A_a1_stock_cells, .inl (G.2.1, 36, .inl v_a1_stock_cells)), (A_a0_second, .inl (G.2.2.1, 100, .inr (.inl v_a0_second))), (A_a1_shadow, .inr (4, [.int v_a1_shadow_lands, .int v_a1_shadow_wide, .int v_a1_shadow_pace, .int v_a1_shadow_age, .int v_a1_shadow_slits, .int v_a1_shadow_slitA, .int v_a1_shadow_slitB]))]) (fun _ => rfl) (fun _ => rfl) (fun u6 H locs hP hD hS => ?_)
  refine lv_aload_n hx hb dX2_pass_32 rfl (lv_at hl 2 rfl) ?_
  refine lv_lconst (v := 1) hx hb dX2_pass_33 (by decide) ?_
  refine va_put (D := G.1) (ci := 2) (v := .long 1) (ty := .long) (C := RX2) (T := TX2) (N := 4) hx hb hts uX2_pass_2 tyX2 tyX2_ok nmX2 hown hK.1 hP hD hS 0 rfl rfl 3 (by decide) (hts (.fieldLink RX2 38 "RingShadow$Cloud" "whole" "J") (List.mem_of_getElem? (i := 4) rfl)) (fun _ h9 => h9) rfl (by decide +kernel) rfl rfl (Nat.le_of_ble_eq_true rfl) dX2_pass_34 (fun H locs hP hD hS => ?_)
  have hP : va_P G.1 vwCl [(A_a0, .inr (2, [.ref A_a0_first, .ref A_a0_second, .long v_a0_fed, .long 1])), (A_a0_first, .inl (G.2.2.1, 100, .inr (.inl f5))), (A_a1, .inr (9, [.ref A_a1_shadow, .ref A_a1_stock, .ref A_a1_sights, .int v_a1_year])), (A_a1_stock, .inr (6, [.ref A_a1_stock_cells])), (A_a1_stock_cells, .inl (G.2.1, 36, .inl v_a1_stock_cells)), (A_a0_second, .inl (G.2.2.1, 100, .inr (.inl v_a0_second))), (A_a1_shadow, .inr (4, [.int v_a1_shadow_lands, .int v_a1_shadow_wide, .int v_a1_shadow_pace, .int v_a1_shadow_age, .int v_a1_shadow_slits, .int v_a1_shadow_slitA, .int v_a1_shadow_slitB]))] H := hP
  have hD : va_D A [(A_a0, .inr (2, [.ref A_a0_first, .ref A_a0_second, .long v_a0_fed, .long 1])), (A_a0_first, .inl (G.2.2.1, 100, .inr (.inl f5))), (A_a1, .inr (9, [.ref A_a1_shadow, .ref A_a1_stock, .ref A_a1_sights, .int v_a1_year])), (A_a1_stock, .inr (6, [.ref A_a1_stock_cells])), (A_a1_stock_cells, .inl (G.2.1, 36, .inl v_a1_stock_cells)), (A_a0_second, .inl (G.2.2.1, 100, .inr (.inl v_a0_second))), (A_a1_shadow, .inr (4, [.int v_a1_shadow_lands, .int v_a1_shadow_wide, .int v_a1_shadow_pace, .int v_a1_shadow_age, .int v_a1_shadow_slits, .int v_a1_shadow_slitA, .int v_a1_shadow_slitB]))] := hD
  refine lv_iconst (v := 0) hx hb dX2_pass_37 (by decide) ?_
  refine lv_istore (lv' := [(7, .int 0), (6, .ref A_a0_second), (5, .ref A_a0_first), (0, .ref A_a0), (1, .ref A_a1), (2, .int p2), (3, .int p3), (4, .int p4)]) hx hb dX2_pass_38 hl (by decide) rfl (fun ls hl => ?_)
  obtain ⟨X76, hX76, h⟩ := rs_b3s h
  have J76 : ∀ (f77 : (Nat → Int64)) (f78 : (Nat → Int64)) (x79 : Int64), X76 = (f77, f78, x79) → ∀ (q80 : Nat) (q81 : Nat) (H : Heap) (locs : List Loc) (ls : Array Slot), rs_pm q80 q81 A_a0_first A_a0_second → va_P G.1 vwCl [(A_a0, .inr (2, [.ref A_a0_first, .ref A_a0_second, .long v_a0_fed, .long x79])), (q80, .inl (G.2.2.1, 100, .inr (.inl f77))), (A_a1, .inr (9, [.ref A_a1_shadow, .ref A_a1_stock, .ref A_a1_sights, .int v_a1_year])), (A_a1_stock, .inr (6, [.ref A_a1_stock_cells])), (A_a1_stock_cells, .inl (G.2.1, 36, .inl v_a1_stock_cells)), (q81, .inl (G.2.2.1, 100, .inr (.inl f78))), (A_a1_shadow, .inr (4, [.int v_a1_shadow_lands, .int v_a1_shadow_wide, .int v_a1_shadow_pace, .int v_a1_shadow_age, .int v_a1_shadow_slits, .int v_a1_shadow_slitA, .int v_a1_shadow_slitB]))] H → va_D A [(A_a0, .inr (2, [.ref A_a0_first, .ref A_a0_second, .long v_a0_fed, .long x79])), (q80, .inl (G.2.2.1, 100, .inr (.inl f77))), (A_a1, .inr (9, [.ref A_a1_shadow, .ref A_a1_stock, .ref A_a1_sights, .int v_a1_year])), (A_a1_stock, .inr (6, [.ref A_a1_stock_cells])), (A_a1_stock_cells, .inl (G.2.1, 36, .inl v_a1_stock_cells)), (q81, .inl (G.2.2.1, 100, .inr (.inl f78))), (A_a1_shadow, .inr (4, [.int v_a1_shadow_lands, .int v_a1_shadow_wide, .int v_a1_shadow_pace, .int v_a1_shadow_age, .int v_a1_shadow_slits, .int v_a1_shadow_slitA, .int v_a1_shadow_slitB]))] → va_S A s.heap H locs → lv_has ls 9 [(0, .ref A_a0), (5, .ref q80)] → W p l e rmX2_pass s m args below meth c H locs 0 0 Q (F0 m 148 ls []) := by
    intro f77 f78 x79 hz q80 q81 H locs ls hpm76 hP hD hS hl
    have h := h _ _ _ hz
    refine lv_aload_n hx hb dX2_pass_148 rfl (lv_at hl 0 rfl) ?_
    refine lv_lconst (v := 0) hx hb dX2_pass_149 (by decide) ?_
    refine va_put (D := G.1) (ci := 2) (v := .long 0) (ty := .long) (C := RX2) (T := TX2) (N := 4) hx hb hts uX2_pass_2 tyX2 tyX2_ok nmX2 hown hK.1 hP hD hS 0 rfl rfl 2 (by decide) (hts (.fieldLink RX2 62 "RingShadow$Cloud" "fed" "J") (List.mem_of_getElem? (i := 8) rfl)) (fun _ h9 => h9) rfl (by decide +kernel) rfl rfl (Nat.le_of_ble_eq_true rfl) dX2_pass_150 (fun H locs hP hD hS => ?_)
    have hP : va_P G.1 vwCl [(A_a0, .inr (2, [.ref A_a0_first, .ref A_a0_second, .long 0, .long x79])), (q80, .inl (G.2.2.1, 100, .inr (.inl f77))), (A_a1, .inr (9, [.ref A_a1_shadow, .ref A_a1_stock, .ref A_a1_sights, .int v_a1_year])), (A_a1_stock, .inr (6, [.ref A_a1_stock_cells])), (A_a1_stock_cells, .inl (G.2.1, 36, .inl v_a1_stock_cells)), (q81, .inl (G.2.2.1, 100, .inr (.inl f78))), (A_a1_shadow, .inr (4, [.int v_a1_shadow_lands, .int v_a1_shadow_wide, .int v_a1_shadow_pace, .int v_a1_shadow_age, .int v_a1_shadow_slits, .int v_a1_shadow_slitA, .int v_a1_shadow_slitB]))] H := hP
    have hD : va_D A [(A_a0, .inr (2, [.ref A_a0_first, .ref A_a0_second, .long 0, .long x79])), (q80, .inl (G.2.2.1, 100, .inr (.inl f77))), (A_a1, .inr (9, [.ref A_a1_shadow, .ref A_a1_stock, .ref A_a1_sights, .int v_a1_year])), (A_a1_stock, .inr (6, [.ref A_a1_stock_cells])), (A_a1_stock_cells, .inl (G.2.1, 36, .inl v_a1_stock_cells)), (q81, .inl (G.2.2.1, 100, .inr (.inl f78))), (A_a1_shadow, .inr (4, [.int v_a1_shadow_lands, .int v_a1_shadow_wide, .int v_a1_shadow_pace, .int v_a1_shadow_age, .int v_a1_shadow_slits, .int v_a1_shadow_slitA, .int v_a1_shadow_slitB]))] := hD
    refine lv_iconst (v := 0) hx hb dX2_pass_153 (by decide) ?_
    refine lv_istore (lv' := [(7, .int 0), (0, .ref A_a0), (5, .ref q80)]) hx hb dX2_pass_154 hl (by decide) rfl (fun ls hl => ?_)
    obtain ⟨X86, hX86, h⟩ := rs_b1s h
    have J86 : ∀ (x87 : Int64), X86 = x87 → ∀  (H : Heap) (locs : List Loc) (ls : Array Slot), va_P G.1 vwCl [(A_a0, .inr (2, [.ref A_a0_first, .ref A_a0_second, .long x87, .long x79])), (q80, .inl (G.2.2.1, 100, .inr (.inl f77))), (A_a1, .inr (9, [.ref A_a1_shadow, .ref A_a1_stock, .ref A_a1_sights, .int v_a1_year])), (A_a1_stock, .inr (6, [.ref A_a1_stock_cells])), (A_a1_stock_cells, .inl (G.2.1, 36, .inl v_a1_stock_cells)), (q81, .inl (G.2.2.1, 100, .inr (.inl f78))), (A_a1_shadow, .inr (4, [.int v_a1_shadow_lands, .int v_a1_shadow_wide, .int v_a1_shadow_pace, .int v_a1_shadow_age, .int v_a1_shadow_slits, .int v_a1_shadow_slitA, .int v_a1_shadow_slitB]))] H → va_D A [(A_a0, .inr (2, [.ref A_a0_first, .ref A_a0_second, .long x87, .long x79])), (q80, .inl (G.2.2.1, 100, .inr (.inl f77))), (A_a1, .inr (9, [.ref A_a1_shadow, .ref A_a1_stock, .ref A_a1_sights, .int v_a1_year])), (A_a1_stock, .inr (6, [.ref A_a1_stock_cells])), (A_a1_stock_cells, .inl (G.2.1, 36, .inl v_a1_stock_cells)), (q81, .inl (G.2.2.1, 100, .inr (.inl f78))), (A_a1_shadow, .inr (4, [.int v_a1_shadow_lands, .int v_a1_shadow_wide, .int v_a1_shadow_pace, .int v_a1_shadow_age, .int v_a1_shadow_slits, .int v_a1_shadow_slitA, .int v_a1_shadow_slitB]))] → va_S A s.heap H locs → lv_has ls 9 [] → W p l e rmX2_pass s m args below meth c H locs 0 0 Q (F0 m 184 ls []) := by
      intro x87 hz  H locs ls hP hD hS hl
      have h := h _ hz
      rcases hpm76 with ⟨hq1, hq2⟩ | ⟨hq1, hq2⟩
      · subst hq1 hq2
        exact ret _ _ (f77, f78) _ _ _ _ h (hP.sub [0, 1, 2, 3, 4, 5, 6] rfl) hS dX2_pass_184
      subst hq1 hq2
      exact ret _ _ (f78, f77) _ _ _ _ h (hP.sub [0, 5, 2, 3, 4, 1, 6] rfl) hS dX2_pass_184
    refine rs_l2W (Wd := fun (x83 : Int64) (x84 : Int32) => ∀  (H : Heap) (locs : List Loc) (ls : Array Slot), va_P G.1 vwCl [(A_a0, .inr (2, [.ref A_a0_first, .ref A_a0_second, .long x83, .long x79])), (q80, .inl (G.2.2.1, 100, .inr (.inl f77))), (A_a1, .inr (9, [.ref A_a1_shadow, .ref A_a1_stock, .ref A_a1_sights, .int v_a1_year])), (A_a1_stock, .inr (6, [.ref A_a1_stock_cells])), (A_a1_stock_cells, .inl (G.2.1, 36, .inl v_a1_stock_cells)), (q81, .inl (G.2.2.1, 100, .inr (.inl f78))), (A_a1_shadow, .inr (4, [.int v_a1_shadow_lands, .int v_a1_shadow_wide, .int v_a1_shadow_pace, .int v_a1_shadow_age, .int v_a1_shadow_slits, .int v_a1_shadow_slitA, .int v_a1_shadow_slitB]))] H → va_D A [(A_a0, .inr (2, [.ref A_a0_first, .ref A_a0_second, .long x83, .long x79])), (q80, .inl (G.2.2.1, 100, .inr (.inl f77))), (A_a1, .inr (9, [.ref A_a1_shadow, .ref A_a1_stock, .ref A_a1_sights, .int v_a1_year])), (A_a1_stock, .inr (6, [.ref A_a1_stock_cells])), (A_a1_stock_cells, .inl (G.2.1, 36, .inl v_a1_stock_cells)), (q81, .inl (G.2.2.1, 100, .inr (.inl f78))), (A_a1_shadow, .inr (4, [.int v_a1_shadow_lands, .int v_a1_shadow_wide, .int v_a1_shadow_pace, .int v_a1_shadow_age, .int v_a1_shadow_slits, .int v_a1_shadow_slitA, .int v_a1_shadow_slitB]))] → va_S A s.heap H locs → lv_has ls 9 [(0, .ref A_a0), (5, .ref q80), (7, .int x84)] → W p l e rmX2_pass s m args below meth c H locs 0 0 Q (F0 m 156 ls [])) ?_ N 0 0 hX86 _ _ _ hP hD hS (lv_sub hl [1, 2, 0] rfl)
    intro x83 x84 o86 h K86 L86  H locs ls hP hD hS hl
    unfold f_X2_pass_L156 at h
    refine lv_iload hx hb dX2_pass_156 (lv_at hl 2 rfl) ?_
    refine lv_aload hx hb dX2_pass_158 (lv_at hl 1 rfl) ?_
    refine va_alen (v := 100) hx hb hK.1 hP 1 1 rfl rfl rfl dX2_pass_160 ?_
    refine lv_icmp_ge (tgt := 184) hx hb dX2_pass_161 (by decide) (fun hc => ?_) (fun hc => ?_)
    · have h := rs_pos hc h
      exact J86 _ (L86 _ (Option.some.inj h).symm) _ _ _ hP hD hS (lv_sub hl [] rfl)
    have h := rs_neg hc h
    refine lv_aload_n hx hb dX2_pass_164 rfl (lv_at hl 0 rfl) ?_
    refine lv_dup hx hb dX2_pass_165 rfl ?_
    refine va_get (D := G.1) (ci := 2) (v := .long x83) (C := RX2) (T := TX2) (N := 4) hx hb hts uX2_pass_2 hown hK.1 hP 0 rfl rfl 2 (by decide) (hts (.fieldLink RX2 62 "RingShadow$Cloud" "fed" "J") (List.mem_of_getElem? (i := 8) rfl)) (fun _ h9 => h9) rfl dX2_pass_166 ?_
    refine lv_aload hx hb dX2_pass_169 (lv_at hl 1 rfl) ?_
    refine lv_iload hx hb dX2_pass_171 (lv_at hl 2 rfl) ?_
    obtain ⟨hg, h⟩ := rs_gd h
    refine va_lald hx hb hK.1 hP 1 1 rfl rfl hg dX2_pass_173 ?_
    refine lv_ladd hx hb dX2_pass_174 ?_
    refine rs_topl h (fun x88 h => ?_)
    refine va_put (D := G.1) (ci := 2) (v := .long x88) (ty := .long) (C := RX2) (T := TX2) (N := 4) hx hb hts uX2_pass_2 tyX2 tyX2_ok nmX2 hown hK.1 hP hD hS 0 rfl rfl 2 (by decide) (hts (.fieldLink RX2 62 "RingShadow$Cloud" "fed" "J") (List.mem_of_getElem? (i := 8) rfl)) (fun _ h9 => h9) rfl (by decide +kernel) rfl rfl (Nat.le_of_ble_eq_true rfl) dX2_pass_175 (fun H locs hP hD hS => ?_)
    have hP : va_P G.1 vwCl [(A_a0, .inr (2, [.ref A_a0_first, .ref A_a0_second, .long x88, .long x79])), (q80, .inl (G.2.2.1, 100, .inr (.inl f77))), (A_a1, .inr (9, [.ref A_a1_shadow, .ref A_a1_stock, .ref A_a1_sights, .int v_a1_year])), (A_a1_stock, .inr (6, [.ref A_a1_stock_cells])), (A_a1_stock_cells, .inl (G.2.1, 36, .inl v_a1_stock_cells)), (q81, .inl (G.2.2.1, 100, .inr (.inl f78))), (A_a1_shadow, .inr (4, [.int v_a1_shadow_lands, .int v_a1_shadow_wide, .int v_a1_shadow_pace, .int v_a1_shadow_age, .int v_a1_shadow_slits, .int v_a1_shadow_slitA, .int v_a1_shadow_slitB]))] H := hP
    have hD : va_D A [(A_a0, .inr (2, [.ref A_a0_first, .ref A_a0_second, .long x88, .long x79])), (q80, .inl (G.2.2.1, 100, .inr (.inl f77))), (A_a1, .inr (9, [.ref A_a1_shadow, .ref A_a1_stock, .ref A_a1_sights, .int v_a1_year])), (A_a1_stock, .inr (6, [.ref A_a1_stock_cells])), (A_a1_stock_cells, .inl (G.2.1, 36, .inl v_a1_stock_cells)), (q81, .inl (G.2.2.1, 100, .inr (.inl f78))), (A_a1_shadow, .inr (4, [.int v_a1_shadow_lands, .int v_a1_shadow_wide, .int v_a1_shadow_pace, .int v_a1_shadow_age, .int v_a1_shadow_slits, .int v_a1_shadow_slitA, .int v_a1_shadow_slitB]))] := hD
    refine lv_iinc (v := (x84 + 1)) (lv' := [(7, .int (x84 + 1)), (0, .ref A_a0), (5, .ref q80)]) hx hb dX2_pass_178 hl (k := 2) rfl (by first | rfl | decide) (by decide) rfl (fun ls hl => ?_)
    refine lv_goto (tgt := 156) hx hb dX2_pass_181 (by decide) ?_
    exact K86 _ _ (Option.some.inj h).symm _ _ _ hP hD hS (lv_sub hl [1, 2, 0] rfl)
  refine rs_l4W (Wd := fun (f54 : (Nat → Int64)) (f28 : (Nat → Int64)) (x29 : Int64) (x32 : Int32) => ∀ (q30 : Nat) (q31 : Nat) (H : Heap) (locs : List Loc) (ls : Array Slot), rs_pm q30 q31 A_a0_first A_a0_second → va_P G.1 vwCl [(A_a0, .inr (2, [.ref A_a0_first, .ref A_a0_second, .long v_a0_fed, .long x29])), (q30, .inl (G.2.2.1, 100, .inr (.inl f54))), (A_a1, .inr (9, [.ref A_a1_shadow, .ref A_a1_stock, .ref A_a1_sights, .int v_a1_year])), (A_a1_stock, .inr (6, [.ref A_a1_stock_cells])), (A_a1_stock_cells, .inl (G.2.1, 36, .inl v_a1_stock_cells)), (q31, .inl (G.2.2.1, 100, .inr (.inl f28))), (A_a1_shadow, .inr (4, [.int v_a1_shadow_lands, .int v_a1_shadow_wide, .int v_a1_shadow_pace, .int v_a1_shadow_age, .int v_a1_shadow_slits, .int v_a1_shadow_slitA, .int v_a1_shadow_slitB]))] H → va_D A [(A_a0, .inr (2, [.ref A_a0_first, .ref A_a0_second, .long v_a0_fed, .long x29])), (q30, .inl (G.2.2.1, 100, .inr (.inl f54))), (A_a1, .inr (9, [.ref A_a1_shadow, .ref A_a1_stock, .ref A_a1_sights, .int v_a1_year])), (A_a1_stock, .inr (6, [.ref A_a1_stock_cells])), (A_a1_stock_cells, .inl (G.2.1, 36, .inl v_a1_stock_cells)), (q31, .inl (G.2.2.1, 100, .inr (.inl f28))), (A_a1_shadow, .inr (4, [.int v_a1_shadow_lands, .int v_a1_shadow_wide, .int v_a1_shadow_pace, .int v_a1_shadow_age, .int v_a1_shadow_slits, .int v_a1_shadow_slitA, .int v_a1_shadow_slitB]))] → va_S A s.heap H locs → lv_has ls 9 [(0, .ref A_a0), (1, .ref A_a1), (2, .int p2), (3, .int p3), (4, .int p4), (5, .ref q30), (6, .ref q31), (7, .int x32)] → W p l e rmX2_pass s m args below meth c H locs 0 0 Q (F0 m 40 ls [])) ?_ N f5 v_a0_second 1 0 hX76 _ _ _ _ _ rs_pm_rf hP hD hS (lv_sub hl [3, 4, 5, 6, 7, 2, 1, 0] rfl)
  intro f54 f28 x29 x32 o76 h K76 L76 q30 q31 H locs ls hpm76 hP hD hS hl
  unfold f_X2_pass_L40 at h
  refine lv_iload hx hb dX2_pass_40 (lv_at hl 7 rfl) ?_
  refine lv_iload hx hb dX2_pass_42 (lv_at hl 4 rfl) ?_
  refine lv_icmp_ge (tgt := 148) hx hb dX2_pass_44 (by decide) (fun hc => ?_) (fun hc => ?_)
  · have h := rs_pos hc h
    exact J76 _ _ _ (L76 _ (Option.some.inj h).symm) _ _ _ _ _ hpm76 hP hD hS (lv_sub hl [0, 5] rfl)
  have h := rs_neg hc h
  refine lv_aload hx hb dX2_pass_47 (lv_at hl 6 rfl) ?_
  obtain ⟨f89, h90, h⟩ := rs_b1s h
  have h := h _ rfl
  refine rs_callNv (As := [.ref q31]) (rest := []) ⟨hx, hb, hml, hown, hts⟩ (c_X10_clear_ l G q31 f28 100 N f89 h90) ⟨va_cnB 1 hts gX2_pass_X10_clear__n18 rfl rfl rfl (rs_nw20 hK.2.1) (hts (.initialized RX10) (List.mem_of_getElem? (i := 10) rfl)) (by decide +kernel) ⟨Nat.le_of_ble_eq_true rfl, Nat.le_of_ble_eq_true rfl⟩, (hts (.static yX10_clear_) (List.mem_of_getElem? (i := 9) rfl)), trivial⟩ dX2_pass_49 hK hP hD hS hA [5] rfl (by decide) rfl rfl hl.1 (lv_room (Nat.le_of_ble_eq_true rfl)) ⟨Nat.zero_le _, Nat.zero_le _⟩ (fun (_ : Unit) => [(A_a0, .inr (2, [.ref A_a0_first, .ref A_a0_second, .long v_a0_fed, .long x29])), (q30, .inl (G.2.2.1, 100, .inr (.inl f54))), (A_a1, .inr (9, [.ref A_a1_shadow, .ref A_a1_stock, .ref A_a1_sights, .int v_a1_year])), (A_a1_stock, .inr (6, [.ref A_a1_stock_cells])), (A_a1_stock_cells, .inl (G.2.1, 36, .inl v_a1_stock_cells)), (q31, .inl (G.2.2.1, 100, .inr (.inl f89))), (A_a1_shadow, .inr (4, [.int v_a1_shadow_lands, .int v_a1_shadow_wide, .int v_a1_shadow_pace, .int v_a1_shadow_age, .int v_a1_shadow_slits, .int v_a1_shadow_slitA, .int v_a1_shadow_slitB]))]) (fun _ => rfl) (fun _ => rfl) (fun u90 H locs hP hD hS => ?_)
  refine lv_aload_n hx hb dX2_pass_52 rfl (lv_at hl 1 rfl) ?_
  refine va_get (D := G.1) (ci := 9) (v := .ref A_a1_shadow) (C := RX9) (T := TX9) (N := 4) hx hb hts uX2_pass_9 hown hK.1 hP 2 rfl rfl 0 (by decide) (hts (.fieldLink RX2 42 "RingShadow$World" "shadow" "LRingShadow$Shadow;") (List.mem_of_getElem? (i := 5) rfl)) (fun _ h9 => h9) rfl dX2_pass_53 ?_
  refine lv_iload_n hx hb dX2_pass_56 rfl (lv_at hl 2 rfl) ?_
  refine lv_aload_n hx hb dX2_pass_57 rfl (lv_at hl 1 rfl) ?_
  refine va_get (D := G.1) (ci := 9) (v := .int v_a1_year) (C := RX9) (T := TX9) (N := 4) hx hb hts uX2_pass_9 hown hK.1 hP 2 rfl rfl 3 (by decide) (hts (.fieldLink RX2 46 "RingShadow$World" "year" "I") (List.mem_of_getElem? (i := 6) rfl)) (fun _ h9 => h9) rfl dX2_pass_58 ?_
  refine lv_iload hx hb dX2_pass_61 (lv_at hl 7 rfl) ?_
  refine lv_iadd hx hb dX2_pass_63 ?_
  obtain ⟨x91, h92, h⟩ := rs_b1s h
  have h := h _ rfl
  refine rs_callVi (As := [.int p2, .int (v_a1_year + x32)]) (rest := []) ⟨hx, hb, hml, hown, hts⟩ (c_X4_isDark l G A_a1_shadow v_a1_shadow_lands v_a1_shadow_wide v_a1_shadow_pace v_a1_shadow_age v_a1_shadow_slits v_a1_shadow_slitA v_a1_shadow_slitB p2 (v_a1_year + x32) x91 h92) (cwV 2 hts gX2_pass_X4_isDark rfl rfl rfl (by decide +kernel) ⟨Nat.le_of_ble_eq_true rfl, Nat.le_of_ble_eq_true rfl⟩) dX2_pass_64 hK hP hD hS hA [6] rfl (by decide) rfl rfl (q0 := 0) (ci := 4) rfl rfl rfl hl.1 (lv_room (Nat.le_of_ble_eq_true rfl)) ⟨Nat.zero_le _, Nat.zero_le _⟩ (fun (_ : Unit) => [(A_a0, .inr (2, [.ref A_a0_first, .ref A_a0_second, .long v_a0_fed, .long x29])), (q30, .inl (G.2.2.1, 100, .inr (.inl f54))), (A_a1, .inr (9, [.ref A_a1_shadow, .ref A_a1_stock, .ref A_a1_sights, .int v_a1_year])), (A_a1_stock, .inr (6, [.ref A_a1_stock_cells])), (A_a1_stock_cells, .inl (G.2.1, 36, .inl v_a1_stock_cells)), (q31, .inl (G.2.2.1, 100, .inr (.inl f89))), (A_a1_shadow, .inr (4, [.int v_a1_shadow_lands, .int v_a1_shadow_wide, .int v_a1_shadow_pace, .int v_a1_shadow_age, .int v_a1_shadow_slits, .int v_a1_shadow_slitA, .int v_a1_shadow_slitB]))]) (fun _ => rfl) (fun _ => rfl) (fun u92 H locs hP hD hS => ?_)
  obtain ⟨X102, hX102, h⟩ := rs_b2s h
  have J102 : ∀ (x100 : Int64) (f101 : (Nat → Int64)), X102 = (x100, f101) → ∀ (H : Heap) (locs : List Loc) (ls : Array Slot), va_P G.1 vwCl [(A_a0, .inr (2, [.ref A_a0_first, .ref A_a0_second, .long v_a0_fed, .long x100])), (q30, .inl (G.2.2.1, 100, .inr (.inl f54))), (A_a1, .inr (9, [.ref A_a1_shadow, .ref A_a1_stock, .ref A_a1_sights, .int v_a1_year])), (A_a1_stock, .inr (6, [.ref A_a1_stock_cells])), (A_a1_stock_cells, .inl (G.2.1, 36, .inl v_a1_stock_cells)), (q31, .inl (G.2.2.1, 100, .inr (.inl f101))), (A_a1_shadow, .inr (4, [.int v_a1_shadow_lands, .int v_a1_shadow_wide, .int v_a1_shadow_pace, .int v_a1_shadow_age, .int v_a1_shadow_slits, .int v_a1_shadow_slitA, .int v_a1_shadow_slitB]))] H → va_D A [(A_a0, .inr (2, [.ref A_a0_first, .ref A_a0_second, .long v_a0_fed, .long x100])), (q30, .inl (G.2.2.1, 100, .inr (.inl f54))), (A_a1, .inr (9, [.ref A_a1_shadow, .ref A_a1_stock, .ref A_a1_sights, .int v_a1_year])), (A_a1_stock, .inr (6, [.ref A_a1_stock_cells])), (A_a1_stock_cells, .inl (G.2.1, 36, .inl v_a1_stock_cells)), (q31, .inl (G.2.2.1, 100, .inr (.inl f101))), (A_a1_shadow, .inr (4, [.int v_a1_shadow_lands, .int v_a1_shadow_wide, .int v_a1_shadow_pace, .int v_a1_shadow_age, .int v_a1_shadow_slits, .int v_a1_shadow_slitA, .int v_a1_shadow_slitB]))] → va_S A s.heap H locs → lv_has ls 9 [(0, .ref A_a0), (1, .ref A_a1), (2, .int p2), (3, .int p3), (4, .int p4), (5, .ref q30), (6, .ref q31), (7, .int x32)] → W p l e rmX2_pass s m args below meth c H locs 0 0 Q (F0 m 130 ls []) := by
    intro x100 f101 hz H locs ls hP hD hS hl
    have h := h _ _ hz
    refine lv_aload hx hb dX2_pass_130 (lv_at hl 5 rfl) ?_
    refine lv_astore (lv' := [(8, .ref q30), (0, .ref A_a0), (1, .ref A_a1), (2, .int p2), (3, .int p3), (4, .int p4), (5, .ref q30), (6, .ref q31), (7, .int x32)]) hx hb dX2_pass_132 hl (by decide) rfl (fun ls hl => ?_)
    refine lv_aload hx hb dX2_pass_134 (lv_at hl 7 rfl) ?_
    refine lv_astore (lv' := [(5, .ref q31), (8, .ref q30), (0, .ref A_a0), (1, .ref A_a1), (2, .int p2), (3, .int p3), (4, .int p4), (6, .ref q31), (7, .int x32)]) hx hb dX2_pass_136 hl (by decide) rfl (fun ls hl => ?_)
    refine lv_aload hx hb dX2_pass_138 (lv_at hl 1 rfl) ?_
    refine lv_astore (lv' := [(6, .ref q30), (5, .ref q31), (8, .ref q30), (0, .ref A_a0), (1, .ref A_a1), (2, .int p2), (3, .int p3), (4, .int p4), (7, .int x32)]) hx hb dX2_pass_140 hl (by decide) rfl (fun ls hl => ?_)
    refine lv_iinc (v := (x32 + 1)) (lv' := [(7, .int (x32 + 1)), (6, .ref q30), (5, .ref q31), (8, .ref q30), (0, .ref A_a0), (1, .ref A_a1), (2, .int p2), (3, .int p3), (4, .int p4)]) hx hb dX2_pass_142 hl (k := 8) rfl (by first | rfl | decide) (by decide) rfl (fun ls hl => ?_)
    refine lv_goto (tgt := 40) hx hb dX2_pass_145 (by decide) ?_
    exact K76 _ _ _ _ (Option.some.inj h).symm _ _ _ _ _ (rs_pm_swap hpm76) (hP.sub [0, 5, 2, 3, 4, 1, 6] rfl) (hD.sub [0, 5, 2, 3, 4, 1, 6] (by decide) rfl) hS (lv_sub hl [4, 5, 6, 7, 8, 2, 1, 0] rfl)
  have h := hX102
  refine lv_if_eq (tgt := 87) hx hb dX2_pass_67 (by decide) (fun hc => ?_) (fun hc => ?_)
  · have h := rs_pos hc h
    refine lv_aload hx hb dX2_pass_87 (lv_at hl 5 rfl) ?_
    refine lv_aload hx hb dX2_pass_89 (lv_at hl 6 rfl) ?_
    refine lv_aload_n hx hb dX2_pass_91 rfl (lv_at hl 1 rfl) ?_
    refine va_get (D := G.1) (ci := 9) (v := .ref A_a1_stock) (C := RX9) (T := TX9) (N := 4) hx hb hts uX2_pass_9 hown hK.1 hP 2 rfl rfl 1 (by decide) (hts (.fieldLink RX2 22 "RingShadow$World" "stock" "LRingShadow$Stock;") (List.mem_of_getElem? (i := 3) rfl)) (fun _ h9 => h9) rfl dX2_pass_92 ?_
    refine lv_iload_n hx hb dX2_pass_95 rfl (lv_at hl 2 rfl) ?_
    refine lv_iconst (v := 1) hx hb dX2_pass_96 (by decide) ?_
    refine lv_bipush (v := 10) hx hb dX2_pass_97 (by decide) ?_
    refine lv_iload_n hx hb dX2_pass_99 rfl (lv_at hl 3 rfl) ?_
    refine lv_isub hx hb dX2_pass_100 ?_
    obtain ⟨f103, h104, h⟩ := rs_b1s h
    have h := h _ rfl
    refine rs_callSv (As := [.ref q30, .ref q31, .ref A_a1_stock, .int p2, .int 1, .int ((10 : Int32) - p3)]) (rest := []) ⟨hx, hb, hml, hown, hts⟩ (c_X2_spread l G q30 q31 A_a1_stock A_a1_stock_cells v_a1_stock_cells f54 f89 100 100 p2 1 ((10 : Int32) - p3) N f103 h104) (va_cwS 6 hts gX2_pass_X2_spread rfl rfl rfl (by decide +kernel) ⟨Nat.le_of_ble_eq_true rfl, Nat.le_of_ble_eq_true rfl⟩) dX2_pass_101 hK hP hD hS hA [3, 4, 1, 5] rfl (by decide) rfl rfl hl.1 (lv_room (Nat.le_of_ble_eq_true rfl)) ⟨Nat.zero_le _, Nat.zero_le _⟩ (fun (_ : Unit) => [(A_a0, .inr (2, [.ref A_a0_first, .ref A_a0_second, .long v_a0_fed, .long x29])), (q30, .inl (G.2.2.1, 100, .inr (.inl f54))), (A_a1, .inr (9, [.ref A_a1_shadow, .ref A_a1_stock, .ref A_a1_sights, .int v_a1_year])), (A_a1_stock, .inr (6, [.ref A_a1_stock_cells])), (A_a1_stock_cells, .inl (G.2.1, 36, .inl v_a1_stock_cells)), (q31, .inl (G.2.2.1, 100, .inr (.inl f103))), (A_a1_shadow, .inr (4, [.int v_a1_shadow_lands, .int v_a1_shadow_wide, .int v_a1_shadow_pace, .int v_a1_shadow_age, .int v_a1_shadow_slits, .int v_a1_shadow_slitA, .int v_a1_shadow_slitB]))]) (fun _ => rfl) (fun _ => rfl) (fun u104 H locs hP hD hS => ?_)
    refine lv_aload hx hb dX2_pass_104 (lv_at hl 5 rfl) ?_
    refine lv_aload hx hb dX2_pass_106 (lv_at hl 6 rfl) ?_
    refine lv_aload_n hx hb dX2_pass_108 rfl (lv_at hl 1 rfl) ?_
    refine va_get (D := G.1) (ci := 9) (v := .ref A_a1_stock) (C := RX9) (T := TX9) (N := 4) hx hb hts uX2_pass_9 hown hK.1 hP 2 rfl rfl 1 (by decide) (hts (.fieldLink RX2 22 "RingShadow$World" "stock" "LRingShadow$Stock;") (List.mem_of_getElem? (i := 3) rfl)) (fun _ h9 => h9) rfl dX2_pass_109 ?_
    refine lv_iload_n hx hb dX2_pass_112 rfl (lv_at hl 2 rfl) ?_
    refine lv_iconst (v := 0) hx hb dX2_pass_113 (by decide) ?_
    refine lv_iload_n hx hb dX2_pass_114 rfl (lv_at hl 3 rfl) ?_
    obtain ⟨f105, h106, h⟩ := rs_b1s h
    have h := h _ rfl
    refine rs_callSv (As := [.ref q30, .ref q31, .ref A_a1_stock, .int p2, .int 0, .int p3]) (rest := []) ⟨hx, hb, hml, hown, hts⟩ (c_X2_spread l G q30 q31 A_a1_stock A_a1_stock_cells v_a1_stock_cells f54 f103 100 100 p2 0 p3 N f105 h106) (va_cwS 6 hts gX2_pass_X2_spread rfl rfl rfl (by decide +kernel) ⟨Nat.le_of_ble_eq_true rfl, Nat.le_of_ble_eq_true rfl⟩) dX2_pass_115 hK hP hD hS hA [3, 4, 1, 5] rfl (by decide) rfl rfl hl.1 (lv_room (Nat.le_of_ble_eq_true rfl)) ⟨Nat.zero_le _, Nat.zero_le _⟩ (fun (_ : Unit) => [(A_a0, .inr (2, [.ref A_a0_first, .ref A_a0_second, .long v_a0_fed, .long x29])), (q30, .inl (G.2.2.1, 100, .inr (.inl f54))), (A_a1, .inr (9, [.ref A_a1_shadow, .ref A_a1_stock, .ref A_a1_sights, .int v_a1_year])), (A_a1_stock, .inr (6, [.ref A_a1_stock_cells])), (A_a1_stock_cells, .inl (G.2.1, 36, .inl v_a1_stock_cells)), (q31, .inl (G.2.2.1, 100, .inr (.inl f105))), (A_a1_shadow, .inr (4, [.int v_a1_shadow_lands, .int v_a1_shadow_wide, .int v_a1_shadow_pace, .int v_a1_shadow_age, .int v_a1_shadow_slits, .int v_a1_shadow_slitA, .int v_a1_shadow_slitB]))]) (fun _ => rfl) (fun _ => rfl) (fun u106 H locs hP hD hS => ?_)
    refine lv_aload_n hx hb dX2_pass_118 rfl (lv_at hl 0 rfl) ?_
    refine lv_dup hx hb dX2_pass_119 rfl ?_
    refine va_get (D := G.1) (ci := 2) (v := .long x29) (C := RX2) (T := TX2) (N := 4) hx hb hts uX2_pass_2 hown hK.1 hP 0 rfl rfl 3 (by decide) (hts (.fieldLink RX2 38 "RingShadow$Cloud" "whole" "J") (List.mem_of_getElem? (i := 4) rfl)) (fun _ h9 => h9) rfl dX2_pass_120 ?_
    refine lv_ldc2 hx hb hown (hts (.constantLong RX2 60 (10)) (List.mem_of_getElem? (i := 7) rfl)) dX2_pass_123 ?_
    refine lv_lmul hx hb dX2_pass_126 ?_
    refine rs_topl h (fun x107 h => ?_)
    refine va_put (D := G.1) (ci := 2) (v := .long x107) (ty := .long) (C := RX2) (T := TX2) (N := 4) hx hb hts uX2_pass_2 tyX2 tyX2_ok nmX2 hown hK.1 hP hD hS 0 rfl rfl 3 (by decide) (hts (.fieldLink RX2 38 "RingShadow$Cloud" "whole" "J") (List.mem_of_getElem? (i := 4) rfl)) (fun _ h9 => h9) rfl (by decide +kernel) rfl rfl (Nat.le_of_ble_eq_true rfl) dX2_pass_127 (fun H locs hP hD hS => ?_)
    have hP : va_P G.1 vwCl [(A_a0, .inr (2, [.ref A_a0_first, .ref A_a0_second, .long v_a0_fed, .long x107])), (q30, .inl (G.2.2.1, 100, .inr (.inl f54))), (A_a1, .inr (9, [.ref A_a1_shadow, .ref A_a1_stock, .ref A_a1_sights, .int v_a1_year])), (A_a1_stock, .inr (6, [.ref A_a1_stock_cells])), (A_a1_stock_cells, .inl (G.2.1, 36, .inl v_a1_stock_cells)), (q31, .inl (G.2.2.1, 100, .inr (.inl f105))), (A_a1_shadow, .inr (4, [.int v_a1_shadow_lands, .int v_a1_shadow_wide, .int v_a1_shadow_pace, .int v_a1_shadow_age, .int v_a1_shadow_slits, .int v_a1_shadow_slitA, .int v_a1_shadow_slitB]))] H := hP
    have hD : va_D A [(A_a0, .inr (2, [.ref A_a0_first, .ref A_a0_second, .long v_a0_fed, .long x107])), (q30, .inl (G.2.2.1, 100, .inr (.inl f54))), (A_a1, .inr (9, [.ref A_a1_shadow, .ref A_a1_stock, .ref A_a1_sights, .int v_a1_year])), (A_a1_stock, .inr (6, [.ref A_a1_stock_cells])), (A_a1_stock_cells, .inl (G.2.1, 36, .inl v_a1_stock_cells)), (q31, .inl (G.2.2.1, 100, .inr (.inl f105))), (A_a1_shadow, .inr (4, [.int v_a1_shadow_lands, .int v_a1_shadow_wide, .int v_a1_shadow_pace, .int v_a1_shadow_age, .int v_a1_shadow_slits, .int v_a1_shadow_slitA, .int v_a1_shadow_slitB]))] := hD
    exact J102 _ _ (Option.some.inj h).symm _ _ _ hP hD hS (lv_sub hl [0, 1, 2, 3, 4, 5, 6, 7] rfl)
  have h := rs_neg hc h
  refine lv_aload hx hb dX2_pass_70 (lv_at hl 5 rfl) ?_
  refine lv_aload hx hb dX2_pass_72 (lv_at hl 6 rfl) ?_
  refine lv_aload_n hx hb dX2_pass_74 rfl (lv_at hl 1 rfl) ?_
  refine va_get (D := G.1) (ci := 9) (v := .ref A_a1_stock) (C := RX9) (T := TX9) (N := 4) hx hb hts uX2_pass_9 hown hK.1 hP 2 rfl rfl 1 (by decide) (hts (.fieldLink RX2 22 "RingShadow$World" "stock" "LRingShadow$Stock;") (List.mem_of_getElem? (i := 3) rfl)) (fun _ h9 => h9) rfl dX2_pass_75 ?_
  refine lv_iload_n hx hb dX2_pass_78 rfl (lv_at hl 2 rfl) ?_
  refine lv_iconst (v := 0) hx hb dX2_pass_79 (by decide) ?_
  refine lv_iconst (v := 1) hx hb dX2_pass_80 (by decide) ?_
  obtain ⟨f108, h109, h⟩ := rs_b1s h
  have h := h _ rfl
  refine rs_callSv (As := [.ref q30, .ref q31, .ref A_a1_stock, .int p2, .int 0, .int 1]) (rest := []) ⟨hx, hb, hml, hown, hts⟩ (c_X2_spread l G q30 q31 A_a1_stock A_a1_stock_cells v_a1_stock_cells f54 f89 100 100 p2 0 1 N f108 h109) (va_cwS 6 hts gX2_pass_X2_spread rfl rfl rfl (by decide +kernel) ⟨Nat.le_of_ble_eq_true rfl, Nat.le_of_ble_eq_true rfl⟩) dX2_pass_81 hK hP hD hS hA [3, 4, 1, 5] rfl (by decide) rfl rfl hl.1 (lv_room (Nat.le_of_ble_eq_true rfl)) ⟨Nat.zero_le _, Nat.zero_le _⟩ (fun (_ : Unit) => [(A_a0, .inr (2, [.ref A_a0_first, .ref A_a0_second, .long v_a0_fed, .long x29])), (q30, .inl (G.2.2.1, 100, .inr (.inl f54))), (A_a1, .inr (9, [.ref A_a1_shadow, .ref A_a1_stock, .ref A_a1_sights, .int v_a1_year])), (A_a1_stock, .inr (6, [.ref A_a1_stock_cells])), (A_a1_stock_cells, .inl (G.2.1, 36, .inl v_a1_stock_cells)), (q31, .inl (G.2.2.1, 100, .inr (.inl f108))), (A_a1_shadow, .inr (4, [.int v_a1_shadow_lands, .int v_a1_shadow_wide, .int v_a1_shadow_pace, .int v_a1_shadow_age, .int v_a1_shadow_slits, .int v_a1_shadow_slitA, .int v_a1_shadow_slitB]))]) (fun _ => rfl) (fun _ => rfl) (fun u109 H locs hP hD hS => ?_)
  refine lv_goto (tgt := 130) hx hb dX2_pass_84 (by decide) ?_
  exact J102 _ _ (Option.some.inj h).symm _ _ _ hP hD hS (lv_sub hl [0, 1, 2, 3, 4, 5, 6, 7] rfl)
theorem uX3_add_3 : ∀ w ∈ wsX30, w ∈ wsX3_add := fun _ h => List.mem_cons_of_mem _ (List.mem_append_right _ h)
abbrev rmX3_add : Room := { frames := 0, cells := 0, slots := 0, locals := 0 }
set_option maxRecDepth 100000 in
set_option maxHeartbeats 4000000 in
theorem c_X3_add (l : Launch) (G : rs_G) (A_a0 : Nat) (A_a0_signs : Nat) (v_a0_count : Int32) (v_a0_signs : (Nat → Int32)) (p1 : Int32) (r0 : Int32) (o0 : Int32) (o1 : (Nat → Int32)) (h : f_X3_add p1 v_a0_count v_a0_signs = some (r0, o0, o1)) : rs_Ci l yX3_add wsX3_add rmX3_add G [.ref A_a0, .int p1] [(A_a0, .inr (3, [.ref A_a0_signs, .int v_a0_count])), (A_a0_signs, .inl (G.2.2.2.1, 60, .inl v_a0_signs))] (fun (_ : Unit) => [(A_a0, .inr (3, [.ref A_a0_signs, .int o0])), (A_a0_signs, .inl (G.2.2.2.1, 60, .inl o1))]) r0 := by
  refine rs_enter_i (cc := cX3_add) (maxL := 2) (ty := .boolean) (by decide) rfl (Nat.le_of_ble_eq_true rfl) (fun p e s m args below meth c A Q ls E ret hP hD hS hA hl => ?_)
  obtain ⟨hx, hb, hml, hown, hts, hK⟩ := E
  have hown : s.vm.findClass RX3 = some m.cls := hown
  have hl : lv_has ls 2 [(0, .ref A_a0), (1, .int p1)] := hl
  have ret : ∀ (v0 : Int32) (w0 : Int32) (w1 : (Nat → Int32)) (u : Unit) (H : Heap) (locs : List Loc) (pc : Nat) (ls : Array Slot), some (v0, w0, w1) = some (r0, o0, o1) → va_P G.1 vwCl [(A_a0, .inr (3, [.ref A_a0_signs, .int w0])), (A_a0_signs, .inl (G.2.2.2.1, 60, .inl w1))] H → va_S A s.heap H locs → decode cX3_add pc = .ok (.ireturn, 1) → narrow .boolean (.int v0) = .int v0 → W p l e rmX3_add s m args below meth c H locs 0 0 Q (F0 m pc ls [.int v0]) := by
    intro v0 w0 w1 u H locs pc ls hz
    cases hz
    exact ret u H locs pc ls
  unfold f_X3_add at h
  refine lv_aload_n hx hb dX3_add_0 rfl (lv_at hl 0 rfl) ?_
  refine va_get (D := G.1) (ci := 3) (v := .int v_a0_count) (C := RX3) (T := TX3) (N := 2) hx hb hts uX3_add_3 hown hK.1 hP 0 rfl rfl 1 (by decide) (hts (.fieldLink RX3 15 "RingShadow$Pad" "count" "I") (List.mem_of_getElem? (i := 1) rfl)) (fun _ h9 => h9) rfl dX3_add_1 ?_
  refine lv_if_lt (tgt := 19) hx hb dX3_add_4 (by decide) (fun hc => ?_) (fun hc => ?_)
  · have h := rs_pos hc h
    refine lv_iconst (v := 0) hx hb dX3_add_19 (by decide) ?_
    exact ret _ _ _ () _ _ _ _ h hP hS dX3_add_20 rfl
  have h := rs_neg hc h
  refine lv_aload_n hx hb dX3_add_7 rfl (lv_at hl 0 rfl) ?_
  refine va_get (D := G.1) (ci := 3) (v := .int v_a0_count) (C := RX3) (T := TX3) (N := 2) hx hb hts uX3_add_3 hown hK.1 hP 0 rfl rfl 1 (by decide) (hts (.fieldLink RX3 15 "RingShadow$Pad" "count" "I") (List.mem_of_getElem? (i := 1) rfl)) (fun _ h9 => h9) rfl dX3_add_8 ?_
  refine lv_aload_n hx hb dX3_add_11 rfl (lv_at hl 0 rfl) ?_
  refine va_get (D := G.1) (ci := 3) (v := .ref A_a0_signs) (C := RX3) (T := TX3) (N := 2) hx hb hts uX3_add_3 hown hK.1 hP 0 rfl rfl 0 (by decide) (hts (.fieldLink RX3 9 "RingShadow$Pad" "signs" "[C") (List.mem_of_getElem? (i := 2) rfl)) (fun _ h9 => h9) rfl dX3_add_12 ?_
  refine va_alen (v := 60) hx hb hK.1 hP 1 2 rfl rfl rfl dX3_add_15 ?_
  refine lv_icmp_lt (tgt := 21) hx hb dX3_add_16 (by decide) (fun hc => ?_) (fun hc => ?_)
  · have h := rs_pos hc h
    refine lv_aload_n hx hb dX3_add_21 rfl (lv_at hl 0 rfl) ?_
    refine va_get (D := G.1) (ci := 3) (v := .ref A_a0_signs) (C := RX3) (T := TX3) (N := 2) hx hb hts uX3_add_3 hown hK.1 hP 0 rfl rfl 0 (by decide) (hts (.fieldLink RX3 9 "RingShadow$Pad" "signs" "[C") (List.mem_of_getElem? (i := 2) rfl)) (fun _ h9 => h9) rfl dX3_add_22 ?_
    refine lv_aload_n hx hb dX3_add_25 rfl (lv_at hl 0 rfl) ?_
    refine va_get (D := G.1) (ci := 3) (v := .int v_a0_count) (C := RX3) (T := TX3) (N := 2) hx hb hts uX3_add_3 hown hK.1 hP 0 rfl rfl 1 (by decide) (hts (.fieldLink RX3 15 "RingShadow$Pad" "count" "I") (List.mem_of_getElem? (i := 1) rfl)) (fun _ h9 => h9) rfl dX3_add_26 ?_
    refine lv_iload_n hx hb dX3_add_29 rfl (lv_at hl 1 rfl) ?_
    obtain ⟨hg, h⟩ := rs_gd h
    refine va_cast hx hb hK.1 hP hD hS 1 2 rfl rfl hg dX3_add_30 (fun H locs hP hD hS => ?_)
    have hP : va_P G.1 vwCl [(A_a0, .inr (3, [.ref A_a0_signs, .int v_a0_count])), (A_a0_signs, .inl (G.2.2.2.1, 60, .inl (upd v_a0_signs v_a0_count.toNatClampNeg (vp_nar .char p1))))] H := hP
    have hD : va_D A [(A_a0, .inr (3, [.ref A_a0_signs, .int v_a0_count])), (A_a0_signs, .inl (G.2.2.2.1, 60, .inl (upd v_a0_signs v_a0_count.toNatClampNeg (vp_nar .char p1))))] := hD
    refine lv_aload_n hx hb dX3_add_31 rfl (lv_at hl 0 rfl) ?_
    refine lv_dup hx hb dX3_add_32 rfl ?_
    refine va_get (D := G.1) (ci := 3) (v := .int v_a0_count) (C := RX3) (T := TX3) (N := 2) hx hb hts uX3_add_3 hown hK.1 hP 0 rfl rfl 1 (by decide) (hts (.fieldLink RX3 15 "RingShadow$Pad" "count" "I") (List.mem_of_getElem? (i := 1) rfl)) (fun _ h9 => h9) rfl dX3_add_33 ?_
    refine lv_iconst (v := 1) hx hb dX3_add_36 (by decide) ?_
    refine lv_iadd hx hb dX3_add_37 ?_
    refine rs_topi h (fun x1 h => ?_)
    refine va_put (D := G.1) (ci := 3) (v := .int x1) (ty := .int) (C := RX3) (T := TX3) (N := 2) hx hb hts uX3_add_3 tyX3 tyX3_ok nmX3 hown hK.1 hP hD hS 0 rfl rfl 1 (by decide) (hts (.fieldLink RX3 15 "RingShadow$Pad" "count" "I") (List.mem_of_getElem? (i := 1) rfl)) (fun _ h9 => h9) rfl (by decide +kernel) rfl rfl (Nat.le_of_ble_eq_true rfl) dX3_add_38 (fun H locs hP hD hS => ?_)
    have hP : va_P G.1 vwCl [(A_a0, .inr (3, [.ref A_a0_signs, .int x1])), (A_a0_signs, .inl (G.2.2.2.1, 60, .inl (upd v_a0_signs v_a0_count.toNatClampNeg (vp_nar .char p1))))] H := hP
    have hD : va_D A [(A_a0, .inr (3, [.ref A_a0_signs, .int x1])), (A_a0_signs, .inl (G.2.2.2.1, 60, .inl (upd v_a0_signs v_a0_count.toNatClampNeg (vp_nar .char p1))))] := hD
    refine lv_iconst (v := 1) hx hb dX3_add_41 (by decide) ?_
    exact ret _ _ _ () _ _ _ _ h hP hS dX3_add_42 rfl
  have h := rs_neg hc h
  refine lv_iconst (v := 0) hx hb dX3_add_19 (by decide) ?_
  exact ret _ _ _ () _ _ _ _ h hP hS dX3_add_20 rfl
theorem uX3_signAt_3 : ∀ w ∈ wsX30, w ∈ wsX3_signAt := fun _ h => List.mem_cons_of_mem _ (List.mem_append_right _ h)
abbrev rmX3_signAt : Room := { frames := 0, cells := 0, slots := 0, locals := 0 }
set_option maxRecDepth 100000 in
set_option maxHeartbeats 4000000 in
theorem c_X3_signAt (l : Launch) (G : rs_G) (A_a0 : Nat) (A_a0_signs : Nat) (v_a0_count : Int32) (v_a0_signs : (Nat → Int32)) (p1 : Int32) (r0 : Int32) (h : f_X3_signAt p1 v_a0_signs = some r0) : rs_Ci l yX3_signAt wsX3_signAt rmX3_signAt G [.ref A_a0, .int p1] [(A_a0, .inr (3, [.ref A_a0_signs, .int v_a0_count])), (A_a0_signs, .inl (G.2.2.2.1, 60, .inl v_a0_signs))] (fun (_ : Unit) => [(A_a0, .inr (3, [.ref A_a0_signs, .int v_a0_count])), (A_a0_signs, .inl (G.2.2.2.1, 60, .inl v_a0_signs))]) r0 := by
  refine rs_enter_i (cc := cX3_signAt) (maxL := 2) (ty := .char) (by decide) rfl (Nat.le_of_ble_eq_true rfl) (fun p e s m args below meth c A Q ls E ret hP hD hS hA hl => ?_)
  obtain ⟨hx, hb, hml, hown, hts, hK⟩ := E
  have hown : s.vm.findClass RX3 = some m.cls := hown
  have hl : lv_has ls 2 [(0, .ref A_a0), (1, .int p1)] := hl
  have ret : ∀ (v0 : Int32) (u : Unit) (H : Heap) (locs : List Loc) (pc : Nat) (ls : Array Slot), some v0 = some r0 → va_P G.1 vwCl [(A_a0, .inr (3, [.ref A_a0_signs, .int v_a0_count])), (A_a0_signs, .inl (G.2.2.2.1, 60, .inl v_a0_signs))] H → va_S A s.heap H locs → decode cX3_signAt pc = .ok (.ireturn, 1) → narrow .char (.int v0) = .int v0 → W p l e rmX3_signAt s m args below meth c H locs 0 0 Q (F0 m pc ls [.int v0]) := by
    intro v0 u H locs pc ls hz
    cases hz
    exact ret u H locs pc ls
  unfold f_X3_signAt at h
  refine lv_iload_n hx hb dX3_signAt_0 rfl (lv_at hl 1 rfl) ?_
  refine lv_if_lt (tgt := 22) hx hb dX3_signAt_1 (by decide) (fun hc => ?_) (fun hc => ?_)
  · have h := rs_pos hc h
    refine lv_bipush (v := 32) hx hb dX3_signAt_22 (by decide) ?_
    exact ret _ () _ _ _ _ h hP hS dX3_signAt_24 rfl
  have h := rs_neg hc h
  refine lv_iload_n hx hb dX3_signAt_4 rfl (lv_at hl 1 rfl) ?_
  refine lv_aload_n hx hb dX3_signAt_5 rfl (lv_at hl 0 rfl) ?_
  refine va_get (D := G.1) (ci := 3) (v := .ref A_a0_signs) (C := RX3) (T := TX3) (N := 2) hx hb hts uX3_signAt_3 hown hK.1 hP 0 rfl rfl 0 (by decide) (hts (.fieldLink RX3 9 "RingShadow$Pad" "signs" "[C") (List.mem_of_getElem? (i := 1) rfl)) (fun _ h9 => h9) rfl dX3_signAt_6 ?_
  refine va_alen (v := 60) hx hb hK.1 hP 1 2 rfl rfl rfl dX3_signAt_9 ?_
  refine lv_icmp_ge (tgt := 22) hx hb dX3_signAt_10 (by decide) (fun hc => ?_) (fun hc => ?_)
  · have h := rs_pos hc h
    refine lv_bipush (v := 32) hx hb dX3_signAt_22 (by decide) ?_
    exact ret _ () _ _ _ _ h hP hS dX3_signAt_24 rfl
  have h := rs_neg hc h
  refine lv_aload_n hx hb dX3_signAt_13 rfl (lv_at hl 0 rfl) ?_
  refine va_get (D := G.1) (ci := 3) (v := .ref A_a0_signs) (C := RX3) (T := TX3) (N := 2) hx hb hts uX3_signAt_3 hown hK.1 hP 0 rfl rfl 0 (by decide) (hts (.fieldLink RX3 9 "RingShadow$Pad" "signs" "[C") (List.mem_of_getElem? (i := 1) rfl)) (fun _ h9 => h9) rfl dX3_signAt_14 ?_
  refine lv_iload_n hx hb dX3_signAt_17 rfl (lv_at hl 1 rfl) ?_
  obtain ⟨hg, h⟩ := rs_gd h
  refine va_cald hx hb hK.1 hP 1 2 rfl rfl hg dX3_signAt_18 ?_
  refine lv_goto (tgt := 24) hx hb dX3_signAt_19 (by decide) ?_
  obtain ⟨hg, h⟩ := rs_ga h
  exact ret _ () _ _ _ _ h hP hS dX3_signAt_24 (rs_narc hg)
abbrev rmX3_landAt : Room := { frames := 1, cells := 0, slots := 0, locals := 21 }
set_option maxRecDepth 100000 in
set_option maxHeartbeats 4000000 in
theorem c_X3_landAt (l : Launch) (G : rs_G) (A_a0 : Nat) (A_a0_signs : Nat) (v_a0_count : Int32) (v_a0_signs : (Nat → Int32)) (p1 : Int32) (r0 : Int32) (h : f_X3_landAt p1 v_a0_signs = some r0) : rs_Ci l yX3_landAt wsX3_landAt rmX3_landAt G [.ref A_a0, .int p1] [(A_a0, .inr (3, [.ref A_a0_signs, .int v_a0_count])), (A_a0_signs, .inl (G.2.2.2.1, 60, .inl v_a0_signs))] (fun (_ : Unit) => [(A_a0, .inr (3, [.ref A_a0_signs, .int v_a0_count])), (A_a0_signs, .inl (G.2.2.2.1, 60, .inl v_a0_signs))]) r0 := by
  refine rs_enter_i (cc := cX3_landAt) (maxL := 2) (ty := .int) (by decide) rfl (Nat.le_of_ble_eq_true rfl) (fun p e s m args below meth c A Q ls E ret hP hD hS hA hl => ?_)
  obtain ⟨hx, hb, hml, hown, hts, hK⟩ := E
  have hown : s.vm.findClass RX3 = some m.cls := hown
  have hl : lv_has ls 2 [(0, .ref A_a0), (1, .int p1)] := hl
  have ret : ∀ (v0 : Int32) (u : Unit) (H : Heap) (locs : List Loc) (pc : Nat) (ls : Array Slot), some v0 = some r0 → va_P G.1 vwCl [(A_a0, .inr (3, [.ref A_a0_signs, .int v_a0_count])), (A_a0_signs, .inl (G.2.2.2.1, 60, .inl v_a0_signs))] H → va_S A s.heap H locs → decode cX3_landAt pc = .ok (.ireturn, 1) → narrow .int (.int v0) = .int v0 → W p l e rmX3_landAt s m args below meth c H locs 0 0 Q (F0 m pc ls [.int v0]) := by
    intro v0 u H locs pc ls hz
    cases hz
    exact ret u H locs pc ls
  unfold f_X3_landAt at h
  refine lv_aload_n hx hb dX3_landAt_0 rfl (lv_at hl 0 rfl) ?_
  refine lv_iload_n hx hb dX3_landAt_1 rfl (lv_at hl 1 rfl) ?_
  obtain ⟨x1, h2, h⟩ := rs_b1s h
  have h := h _ rfl
  refine rs_callVi (As := [.int p1]) (rest := []) ⟨hx, hb, hml, hown, hts⟩ (c_X3_signAt l G A_a0 A_a0_signs v_a0_count v_a0_signs p1 x1 h2) (cwV 1 hts gX3_landAt_X3_signAt rfl rfl rfl (by decide +kernel) ⟨Nat.le_of_ble_eq_true rfl, Nat.le_of_ble_eq_true rfl⟩) dX3_landAt_2 hK hP hD hS hA [0, 1] rfl (by decide) rfl rfl (q0 := 0) (ci := 3) rfl rfl rfl hl.1 (lv_room (Nat.le_of_ble_eq_true rfl)) ⟨Nat.zero_le _, Nat.zero_le _⟩ (fun (_ : Unit) => [(A_a0, .inr (3, [.ref A_a0_signs, .int v_a0_count])), (A_a0_signs, .inl (G.2.2.2.1, 60, .inl v_a0_signs))]) (fun _ => rfl) (fun _ => rfl) (fun u2 H locs hP hD hS => ?_)
  refine lv_bipush (v := 97) hx hb dX3_landAt_5 (by decide) ?_
  refine lv_isub hx hb dX3_landAt_7 ?_
  exact ret _ () _ _ _ _ h hP hS dX3_landAt_8 rfl
abbrev rmX3_digitAt : Room := { frames := 1, cells := 0, slots := 0, locals := 21 }
set_option maxRecDepth 100000 in
set_option maxHeartbeats 4000000 in
theorem c_X3_digitAt (l : Launch) (G : rs_G) (A_a0 : Nat) (A_a0_signs : Nat) (v_a0_count : Int32) (v_a0_signs : (Nat → Int32)) (p1 : Int32) (r0 : Int32) (h : f_X3_digitAt p1 v_a0_signs = some r0) : rs_Ci l yX3_digitAt wsX3_digitAt rmX3_digitAt G [.ref A_a0, .int p1] [(A_a0, .inr (3, [.ref A_a0_signs, .int v_a0_count])), (A_a0_signs, .inl (G.2.2.2.1, 60, .inl v_a0_signs))] (fun (_ : Unit) => [(A_a0, .inr (3, [.ref A_a0_signs, .int v_a0_count])), (A_a0_signs, .inl (G.2.2.2.1, 60, .inl v_a0_signs))]) r0 := by
  refine rs_enter_i (cc := cX3_digitAt) (maxL := 2) (ty := .int) (by decide) rfl (Nat.le_of_ble_eq_true rfl) (fun p e s m args below meth c A Q ls E ret hP hD hS hA hl => ?_)
  obtain ⟨hx, hb, hml, hown, hts, hK⟩ := E
  have hown : s.vm.findClass RX3 = some m.cls := hown
  have hl : lv_has ls 2 [(0, .ref A_a0), (1, .int p1)] := hl
  have ret : ∀ (v0 : Int32) (u : Unit) (H : Heap) (locs : List Loc) (pc : Nat) (ls : Array Slot), some v0 = some r0 → va_P G.1 vwCl [(A_a0, .inr (3, [.ref A_a0_signs, .int v_a0_count])), (A_a0_signs, .inl (G.2.2.2.1, 60, .inl v_a0_signs))] H → va_S A s.heap H locs → decode cX3_digitAt pc = .ok (.ireturn, 1) → narrow .int (.int v0) = .int v0 → W p l e rmX3_digitAt s m args below meth c H locs 0 0 Q (F0 m pc ls [.int v0]) := by
    intro v0 u H locs pc ls hz
    cases hz
    exact ret u H locs pc ls
  unfold f_X3_digitAt at h
  refine lv_aload_n hx hb dX3_digitAt_0 rfl (lv_at hl 0 rfl) ?_
  refine lv_iload_n hx hb dX3_digitAt_1 rfl (lv_at hl 1 rfl) ?_
  obtain ⟨x1, h2, h⟩ := rs_b1s h
  have h := h _ rfl
  refine rs_callVi (As := [.int p1]) (rest := []) ⟨hx, hb, hml, hown, hts⟩ (c_X3_signAt l G A_a0 A_a0_signs v_a0_count v_a0_signs p1 x1 h2) (cwV 1 hts gX3_digitAt_X3_signAt rfl rfl rfl (by decide +kernel) ⟨Nat.le_of_ble_eq_true rfl, Nat.le_of_ble_eq_true rfl⟩) dX3_digitAt_2 hK hP hD hS hA [0, 1] rfl (by decide) rfl rfl (q0 := 0) (ci := 3) rfl rfl rfl hl.1 (lv_room (Nat.le_of_ble_eq_true rfl)) ⟨Nat.zero_le _, Nat.zero_le _⟩ (fun (_ : Unit) => [(A_a0, .inr (3, [.ref A_a0_signs, .int v_a0_count])), (A_a0_signs, .inl (G.2.2.2.1, 60, .inl v_a0_signs))]) (fun _ => rfl) (fun _ => rfl) (fun u2 H locs hP hD hS => ?_)
  refine lv_bipush (v := 48) hx hb dX3_digitAt_5 (by decide) ?_
  refine lv_isub hx hb dX3_digitAt_7 ?_
  exact ret _ () _ _ _ _ h hP hS dX3_digitAt_8 rfl
abbrev rmX3_isYears : Room := { frames := 1, cells := 0, slots := 0, locals := 21 }
set_option maxRecDepth 100000 in
set_option maxHeartbeats 4000000 in
theorem c_X3_isYears (l : Launch) (G : rs_G) (A_a0 : Nat) (A_a0_signs : Nat) (v_a0_count : Int32) (v_a0_signs : (Nat → Int32)) (p1 : Int32) (r0 : Int32) (h : f_X3_isYears p1 v_a0_signs = some r0) : rs_Ci l yX3_isYears wsX3_isYears rmX3_isYears G [.ref A_a0, .int p1] [(A_a0, .inr (3, [.ref A_a0_signs, .int v_a0_count])), (A_a0_signs, .inl (G.2.2.2.1, 60, .inl v_a0_signs))] (fun (_ : Unit) => [(A_a0, .inr (3, [.ref A_a0_signs, .int v_a0_count])), (A_a0_signs, .inl (G.2.2.2.1, 60, .inl v_a0_signs))]) r0 := by
  refine rs_enter_i (cc := cX3_isYears) (maxL := 2) (ty := .boolean) (by decide) rfl (Nat.le_of_ble_eq_true rfl) (fun p e s m args below meth c A Q ls E ret hP hD hS hA hl => ?_)
  obtain ⟨hx, hb, hml, hown, hts, hK⟩ := E
  have hown : s.vm.findClass RX3 = some m.cls := hown
  have hl : lv_has ls 2 [(0, .ref A_a0), (1, .int p1)] := hl
  have ret : ∀ (v0 : Int32) (u : Unit) (H : Heap) (locs : List Loc) (pc : Nat) (ls : Array Slot), some v0 = some r0 → va_P G.1 vwCl [(A_a0, .inr (3, [.ref A_a0_signs, .int v_a0_count])), (A_a0_signs, .inl (G.2.2.2.1, 60, .inl v_a0_signs))] H → va_S A s.heap H locs → decode cX3_isYears pc = .ok (.ireturn, 1) → narrow .boolean (.int v0) = .int v0 → W p l e rmX3_isYears s m args below meth c H locs 0 0 Q (F0 m pc ls [.int v0]) := by
    intro v0 u H locs pc ls hz
    cases hz
    exact ret u H locs pc ls
  unfold f_X3_isYears at h
  refine lv_aload_n hx hb dX3_isYears_0 rfl (lv_at hl 0 rfl) ?_
  refine lv_iload_n hx hb dX3_isYears_1 rfl (lv_at hl 1 rfl) ?_
  obtain ⟨x1, h2, h⟩ := rs_b1s h
  have h := h _ rfl
  refine rs_callVi (As := [.int p1]) (rest := []) ⟨hx, hb, hml, hown, hts⟩ (c_X3_signAt l G A_a0 A_a0_signs v_a0_count v_a0_signs p1 x1 h2) (cwV 1 hts gX3_isYears_X3_signAt rfl rfl rfl (by decide +kernel) ⟨Nat.le_of_ble_eq_true rfl, Nat.le_of_ble_eq_true rfl⟩) dX3_isYears_2 hK hP hD hS hA [0, 1] rfl (by decide) rfl rfl (q0 := 0) (ci := 3) rfl rfl rfl hl.1 (lv_room (Nat.le_of_ble_eq_true rfl)) ⟨Nat.zero_le _, Nat.zero_le _⟩ (fun (_ : Unit) => [(A_a0, .inr (3, [.ref A_a0_signs, .int v_a0_count])), (A_a0_signs, .inl (G.2.2.2.1, 60, .inl v_a0_signs))]) (fun _ => rfl) (fun _ => rfl) (fun u2 H locs hP hD hS => ?_)
  refine lv_bipush (v := 46) hx hb dX3_isYears_5 (by decide) ?_
  refine lv_icmp_eq (tgt := 20) hx hb dX3_isYears_7 (by decide) (fun hc => ?_) (fun hc => ?_)
  · have h := rs_pos hc h
    refine lv_iconst (v := 1) hx hb dX3_isYears_20 (by decide) ?_
    refine lv_goto (tgt := 25) hx hb dX3_isYears_21 (by decide) ?_
    exact ret _ () _ _ _ _ h hP hS dX3_isYears_25 rfl
  have h := rs_neg hc h
  refine lv_aload_n hx hb dX3_isYears_10 rfl (lv_at hl 0 rfl) ?_
  refine lv_iload_n hx hb dX3_isYears_11 rfl (lv_at hl 1 rfl) ?_
  obtain ⟨x3, h4, h⟩ := rs_b1s h
  have h := h _ rfl
  refine rs_callVi (As := [.int p1]) (rest := []) ⟨hx, hb, hml, hown, hts⟩ (c_X3_signAt l G A_a0 A_a0_signs v_a0_count v_a0_signs p1 x3 h4) (cwV 1 hts gX3_isYears_X3_signAt rfl rfl rfl (by decide +kernel) ⟨Nat.le_of_ble_eq_true rfl, Nat.le_of_ble_eq_true rfl⟩) dX3_isYears_12 hK hP hD hS hA [0, 1] rfl (by decide) rfl rfl (q0 := 0) (ci := 3) rfl rfl rfl hl.1 (lv_room (Nat.le_of_ble_eq_true rfl)) ⟨Nat.zero_le _, Nat.zero_le _⟩ (fun (_ : Unit) => [(A_a0, .inr (3, [.ref A_a0_signs, .int v_a0_count])), (A_a0_signs, .inl (G.2.2.2.1, 60, .inl v_a0_signs))]) (fun _ => rfl) (fun _ => rfl) (fun u4 H locs hP hD hS => ?_)
  refine lv_bipush (v := 58) hx hb dX3_isYears_15 (by decide) ?_
  refine lv_icmp_ne (tgt := 24) hx hb dX3_isYears_17 (by decide) (fun hc => ?_) (fun hc => ?_)
  · have h := rs_neg hc h
    refine lv_iconst (v := 0) hx hb dX3_isYears_24 (by decide) ?_
    exact ret _ () _ _ _ _ h hP hS dX3_isYears_25 rfl
  have h := rs_pos hc h
  refine lv_iconst (v := 1) hx hb dX3_isYears_20 (by decide) ?_
  refine lv_goto (tgt := 25) hx hb dX3_isYears_21 (by decide) ?_
  exact ret _ () _ _ _ _ h hP hS dX3_isYears_25 rfl
abbrev rmX10_within : Room := { frames := 0, cells := 0, slots := 0, locals := 0 }
set_option maxRecDepth 100000 in
set_option maxHeartbeats 4000000 in
theorem c_X10_within (l : Launch) (G : rs_G) (p0 : Int32) (p1 : Int32) (p2 : Int32) (r0 : Int32) (h : f_X10_within p0 p1 p2 = some r0) : rs_Ci l yX10_within wsX10_within rmX10_within G [.int p0, .int p1, .int p2] [] (fun (_ : Unit) => []) r0 := by
  refine rs_enter_i (cc := cX10_within) (maxL := 3) (ty := .boolean) (by decide) rfl (Nat.le_of_ble_eq_true rfl) (fun p e s m args below meth c A Q ls E ret hP hD hS hA hl => ?_)
  obtain ⟨hx, hb, hml, hown, hts, hK⟩ := E
  have hown : s.vm.findClass RX10 = some m.cls := hown
  have hl : lv_has ls 3 [(0, .int p0), (1, .int p1), (2, .int p2)] := hl
  have ret : ∀ (v0 : Int32) (u : Unit) (H : Heap) (locs : List Loc) (pc : Nat) (ls : Array Slot), some v0 = some r0 → va_P G.1 vwCl [] H → va_S A s.heap H locs → decode cX10_within pc = .ok (.ireturn, 1) → narrow .boolean (.int v0) = .int v0 → W p l e rmX10_within s m args below meth c H locs 0 0 Q (F0 m pc ls [.int v0]) := by
    intro v0 u H locs pc ls hz
    cases hz
    exact ret u H locs pc ls
  unfold f_X10_within at h
  refine lv_iload_n hx hb dX10_within_0 rfl (lv_at hl 0 rfl) ?_
  refine lv_iload_n hx hb dX10_within_1 rfl (lv_at hl 1 rfl) ?_
  refine lv_icmp_lt (tgt := 14) hx hb dX10_within_2 (by decide) (fun hc => ?_) (fun hc => ?_)
  · have h := rs_pos hc h
    refine lv_iconst (v := 0) hx hb dX10_within_14 (by decide) ?_
    exact ret _ () _ _ _ _ h hP hS dX10_within_15 rfl
  have h := rs_neg hc h
  refine lv_iload_n hx hb dX10_within_5 rfl (lv_at hl 0 rfl) ?_
  refine lv_iload_n hx hb dX10_within_6 rfl (lv_at hl 2 rfl) ?_
  refine lv_icmp_gt (tgt := 14) hx hb dX10_within_7 (by decide) (fun hc => ?_) (fun hc => ?_)
  · have h := rs_pos hc h
    refine lv_iconst (v := 0) hx hb dX10_within_14 (by decide) ?_
    exact ret _ () _ _ _ _ h hP hS dX10_within_15 rfl
  have h := rs_neg hc h
  refine lv_iconst (v := 1) hx hb dX10_within_10 (by decide) ?_
  refine lv_goto (tgt := 15) hx hb dX10_within_11 (by decide) ?_
  exact ret _ () _ _ _ _ h hP hS dX10_within_15 rfl
theorem uX3_faultAmong_3 : ∀ w ∈ wsX30, w ∈ wsX3_faultAmong := fun _ h => List.mem_cons_of_mem _ (List.mem_append_right _ h)
abbrev rmX3_faultAmong : Room := { frames := 2, cells := 0, slots := 0, locals := 42 }
set_option maxRecDepth 100000 in
set_option maxHeartbeats 4000000 in
theorem c_X3_faultAmong (l : Launch) (G : rs_G) (A_a0 : Nat) (A_a0_signs : Nat) (v_a0_count : Int32) (v_a0_signs : (Nat → Int32)) (p1 : Int32) (N : Nat) (r0 : Int32) (h : f_X3_faultAmong N p1 v_a0_count v_a0_signs = some r0) : rs_Ci l yX3_faultAmong wsX3_faultAmong rmX3_faultAmong G [.ref A_a0, .int p1] [(A_a0, .inr (3, [.ref A_a0_signs, .int v_a0_count])), (A_a0_signs, .inl (G.2.2.2.1, 60, .inl v_a0_signs))] (fun (_ : Unit) => [(A_a0, .inr (3, [.ref A_a0_signs, .int v_a0_count])), (A_a0_signs, .inl (G.2.2.2.1, 60, .inl v_a0_signs))]) r0 := by
  refine rs_enter_i (cc := cX3_faultAmong) (maxL := 4) (ty := .int) (by decide) rfl (Nat.le_of_ble_eq_true rfl) (fun p e s m args below meth c A Q ls E ret hP hD hS hA hl => ?_)
  obtain ⟨hx, hb, hml, hown, hts, hK⟩ := E
  have hown : s.vm.findClass RX3 = some m.cls := hown
  have hl : lv_has ls 4 [(0, .ref A_a0), (1, .int p1)] := hl
  have ret : ∀ (v0 : Int32) (u : Unit) (H : Heap) (locs : List Loc) (pc : Nat) (ls : Array Slot), some v0 = some r0 → va_P G.1 vwCl [(A_a0, .inr (3, [.ref A_a0_signs, .int v_a0_count])), (A_a0_signs, .inl (G.2.2.2.1, 60, .inl v_a0_signs))] H → va_S A s.heap H locs → decode cX3_faultAmong pc = .ok (.ireturn, 1) → narrow .int (.int v0) = .int v0 → W p l e rmX3_faultAmong s m args below meth c H locs 0 0 Q (F0 m pc ls [.int v0]) := by
    intro v0 u H locs pc ls hz
    cases hz
    exact ret u H locs pc ls
  unfold f_X3_faultAmong at h
  refine lv_iconst (v := 0) hx hb dX3_faultAmong_0 (by decide) ?_
  refine lv_istore_n (lv' := [(2, .int 0), (0, .ref A_a0), (1, .int p1)]) hx hb dX3_faultAmong_1 rfl hl (by decide) rfl (fun ls hl => ?_)
  refine lv_iconst (v := 0) hx hb dX3_faultAmong_2 (by decide) ?_
  refine lv_istore_n (lv' := [(3, .int 0), (2, .int 0), (0, .ref A_a0), (1, .int p1)]) hx hb dX3_faultAmong_3 rfl hl (by decide) rfl (fun ls hl => ?_)
  obtain ⟨X23, hX23, h, hR23⟩ := rs_m1s h
  have J23 : ∀ (x24 : Int32), X23 = .inl x24 → ∀  (H : Heap) (locs : List Loc) (ls : Array Slot), va_P G.1 vwCl [(A_a0, .inr (3, [.ref A_a0_signs, .int v_a0_count])), (A_a0_signs, .inl (G.2.2.2.1, 60, .inl v_a0_signs))] H → va_D A [(A_a0, .inr (3, [.ref A_a0_signs, .int v_a0_count])), (A_a0_signs, .inl (G.2.2.2.1, 60, .inl v_a0_signs))] → va_S A s.heap H locs → lv_has ls 4 [(0, .ref A_a0), (2, .int x24)] → W p l e rmX3_faultAmong s m args below meth c H locs 0 0 Q (F0 m 77 ls []) := by
    intro x24 hz  H locs ls hP hD hS hl
    have h := h _ hz
    refine lv_iload_n hx hb dX3_faultAmong_77 rfl (lv_at hl 1 rfl) ?_
    refine lv_if_ne (tgt := 86) hx hb dX3_faultAmong_78 (by decide) (fun hc => ?_) (fun hc => ?_)
    · have h := rs_neg hc h
      refine lv_aload_n hx hb dX3_faultAmong_86 rfl (lv_at hl 0 rfl) ?_
      refine va_get (D := G.1) (ci := 3) (v := .int v_a0_count) (C := RX3) (T := TX3) (N := 2) hx hb hts uX3_faultAmong_3 hown hK.1 hP 0 rfl rfl 1 (by decide) (hts (.fieldLink RX3 15 "RingShadow$Pad" "count" "I") (List.mem_of_getElem? (i := 1) rfl)) (fun _ h9 => h9) rfl dX3_faultAmong_87 ?_
      exact ret _ () _ _ _ _ h hP hS dX3_faultAmong_90 rfl
    have h := rs_pos hc h
    refine lv_bipush (v := (-6)) hx hb dX3_faultAmong_81 (by decide) ?_
    refine lv_goto (tgt := 90) hx hb dX3_faultAmong_83 (by decide) ?_
    exact ret _ () _ _ _ _ h hP hS dX3_faultAmong_90 rfl
  refine rs_l2W (Wd := fun (x7 : Int32) (x8 : Int32) => ∀  (H : Heap) (locs : List Loc) (ls : Array Slot), va_P G.1 vwCl [(A_a0, .inr (3, [.ref A_a0_signs, .int v_a0_count])), (A_a0_signs, .inl (G.2.2.2.1, 60, .inl v_a0_signs))] H → va_D A [(A_a0, .inr (3, [.ref A_a0_signs, .int v_a0_count])), (A_a0_signs, .inl (G.2.2.2.1, 60, .inl v_a0_signs))] → va_S A s.heap H locs → lv_has ls 4 [(0, .ref A_a0), (1, .int p1), (2, .int x7), (3, .int x8)] → W p l e rmX3_faultAmong s m args below meth c H locs 0 0 Q (F0 m 4 ls [])) ?_ N 0 0 hX23 _ _ _ hP hD hS (lv_sub hl [2, 3, 1, 0] rfl)
  intro x7 x8 o23 h K23 L23  H locs ls hP hD hS hl
  unfold f_X3_faultAmong_L4 at h
  refine lv_iload_n hx hb dX3_faultAmong_4 rfl (lv_at hl 3 rfl) ?_
  refine lv_aload_n hx hb dX3_faultAmong_5 rfl (lv_at hl 0 rfl) ?_
  refine va_get (D := G.1) (ci := 3) (v := .int v_a0_count) (C := RX3) (T := TX3) (N := 2) hx hb hts uX3_faultAmong_3 hown hK.1 hP 0 rfl rfl 1 (by decide) (hts (.fieldLink RX3 15 "RingShadow$Pad" "count" "I") (List.mem_of_getElem? (i := 1) rfl)) (fun _ h9 => h9) rfl dX3_faultAmong_6 ?_
  refine lv_icmp_ge (tgt := 77) hx hb dX3_faultAmong_9 (by decide) (fun hc => ?_) (fun hc => ?_)
  · have h := rs_pos hc h
    exact J23 _ (L23 _ (Option.some.inj h).symm) _ _ _ hP hD hS (lv_sub hl [0, 2] rfl)
  have h := rs_neg hc h
  refine lv_iload_n hx hb dX3_faultAmong_12 rfl (lv_at hl 2 rfl) ?_
  refine lv_iconst (v := 2) hx hb dX3_faultAmong_13 (by decide) ?_
  refine lv_icmp_ne (tgt := 38) hx hb dX3_faultAmong_14 (by decide) (fun hc => ?_) (fun hc => ?_)
  · have h := rs_neg hc h
    refine lv_iload_n hx hb dX3_faultAmong_38 rfl (lv_at hl 2 rfl) ?_
    refine lv_iconst (v := 1) hx hb dX3_faultAmong_39 (by decide) ?_
    refine lv_icmp_eq (tgt := 51) hx hb dX3_faultAmong_40 (by decide) (fun hc => ?_) (fun hc => ?_)
    · have h := rs_pos hc h
      refine lv_aload_n hx hb dX3_faultAmong_51 rfl (lv_at hl 0 rfl) ?_
      refine lv_iload_n hx hb dX3_faultAmong_52 rfl (lv_at hl 3 rfl) ?_
      obtain ⟨x25, h26, h⟩ := rs_b1s h
      have h := h _ rfl
      refine rs_callVi (As := [.int x8]) (rest := []) ⟨hx, hb, hml, hown, hts⟩ (c_X3_landAt l G A_a0 A_a0_signs v_a0_count v_a0_signs x8 x25 h26) (cwV 1 hts gX3_faultAmong_X3_landAt rfl rfl rfl (by decide +kernel) ⟨Nat.le_of_ble_eq_true rfl, Nat.le_of_ble_eq_true rfl⟩) dX3_faultAmong_53 hK hP hD hS hA [0, 1] rfl (by decide) rfl rfl (q0 := 0) (ci := 3) rfl rfl rfl hl.1 (lv_room (Nat.le_of_ble_eq_true rfl)) ⟨Nat.zero_le _, Nat.zero_le _⟩ (fun (_ : Unit) => [(A_a0, .inr (3, [.ref A_a0_signs, .int v_a0_count])), (A_a0_signs, .inl (G.2.2.2.1, 60, .inl v_a0_signs))]) (fun _ => rfl) (fun _ => rfl) (fun u26 H locs hP hD hS => ?_)
      refine lv_iconst (v := 0) hx hb dX3_faultAmong_56 (by decide) ?_
      refine lv_iload_n hx hb dX3_faultAmong_57 rfl (lv_at hl 1 rfl) ?_
      refine lv_iconst (v := 1) hx hb dX3_faultAmong_58 (by decide) ?_
      refine lv_isub hx hb dX3_faultAmong_59 ?_
      obtain ⟨x27, h28, h⟩ := rs_b1s h
      have h := h _ rfl
      refine rs_callNi (As := [.int x25, .int 0, .int (p1 - 1)]) (rest := []) ⟨hx, hb, hml, hown, hts⟩ (c_X10_within l G x25 0 (p1 - 1) x27 h28) ⟨va_cnB 3 hts gX3_faultAmong_X10_within_n27 rfl rfl rfl (rs_nw3 hK.2.1) (hts (.initialized RX10) (List.mem_of_getElem? (i := 13) rfl)) (by decide +kernel) ⟨Nat.le_of_ble_eq_true rfl, Nat.le_of_ble_eq_true rfl⟩, (hts (.static yX10_within) (List.mem_of_getElem? (i := 12) rfl)), trivial⟩ dX3_faultAmong_60 hK hP hD hS hA [] rfl (by decide) rfl rfl hl.1 (lv_room (Nat.le_of_ble_eq_true rfl)) ⟨Nat.zero_le _, Nat.zero_le _⟩ (fun (_ : Unit) => [(A_a0, .inr (3, [.ref A_a0_signs, .int v_a0_count])), (A_a0_signs, .inl (G.2.2.2.1, 60, .inl v_a0_signs))]) (fun _ => rfl) (fun _ => rfl) (fun u28 H locs hP hD hS => ?_)
      refine lv_if_ne (tgt := 68) hx hb dX3_faultAmong_63 (by decide) (fun hc => ?_) (fun hc => ?_)
      · have h := rs_neg hc h
        refine lv_iinc (v := (x7 + 1)) (lv' := [(2, .int (x7 + 1)), (0, .ref A_a0), (1, .int p1), (3, .int x8)]) hx hb dX3_faultAmong_68 hl (k := 2) rfl (by first | rfl | decide) (by decide) rfl (fun ls hl => ?_)
        refine lv_iinc (v := (x8 + 1)) (lv' := [(3, .int (x8 + 1)), (2, .int (x7 + 1)), (0, .ref A_a0), (1, .int p1)]) hx hb dX3_faultAmong_71 hl (k := 3) rfl (by first | rfl | decide) (by decide) rfl (fun ls hl => ?_)
        refine lv_goto (tgt := 4) hx hb dX3_faultAmong_74 (by decide) ?_
        exact K23 _ _ (Option.some.inj h).symm _ _ _ hP hD hS (lv_sub hl [2, 3, 1, 0] rfl)
      have h := rs_pos hc h
      refine lv_iload_n hx hb dX3_faultAmong_66 rfl (lv_at hl 3 rfl) ?_
      exact ret _ () _ _ _ _ (hR23 _ (L23 _ (Option.some.inj h).symm)) hP hS dX3_faultAmong_67 rfl
    have h := rs_neg hc h
    refine lv_aload_n hx hb dX3_faultAmong_43 rfl (lv_at hl 0 rfl) ?_
    refine lv_iload_n hx hb dX3_faultAmong_44 rfl (lv_at hl 3 rfl) ?_
    obtain ⟨x29, h30, h⟩ := rs_b1s h
    have h := h _ rfl
    refine rs_callVi (As := [.int x8]) (rest := []) ⟨hx, hb, hml, hown, hts⟩ (c_X3_isYears l G A_a0 A_a0_signs v_a0_count v_a0_signs x8 x29 h30) (cwV 1 hts gX3_faultAmong_X3_isYears rfl rfl rfl (by decide +kernel) ⟨Nat.le_of_ble_eq_true rfl, Nat.le_of_ble_eq_true rfl⟩) dX3_faultAmong_45 hK hP hD hS hA [0, 1] rfl (by decide) rfl rfl (q0 := 0) (ci := 3) rfl rfl rfl hl.1 (lv_room (Nat.le_of_ble_eq_true rfl)) ⟨Nat.zero_le _, Nat.zero_le _⟩ (fun (_ : Unit) => [(A_a0, .inr (3, [.ref A_a0_signs, .int v_a0_count])), (A_a0_signs, .inl (G.2.2.2.1, 60, .inl v_a0_signs))]) (fun _ => rfl) (fun _ => rfl) (fun u30 H locs hP hD hS => ?_)
    refine lv_if_ne (tgt := 71) hx hb dX3_faultAmong_48 (by decide) (fun hc => ?_) (fun hc => ?_)
    · have h := rs_neg hc h
      refine lv_iinc (v := (x8 + 1)) (lv' := [(3, .int (x8 + 1)), (0, .ref A_a0), (1, .int p1), (2, .int x7)]) hx hb dX3_faultAmong_71 hl (k := 3) rfl (by first | rfl | decide) (by decide) rfl (fun ls hl => ?_)
      refine lv_goto (tgt := 4) hx hb dX3_faultAmong_74 (by decide) ?_
      exact K23 _ _ (Option.some.inj h).symm _ _ _ hP hD hS (lv_sub hl [1, 2, 3, 0] rfl)
    have h := rs_pos hc h
    refine lv_aload_n hx hb dX3_faultAmong_51 rfl (lv_at hl 0 rfl) ?_
    refine lv_iload_n hx hb dX3_faultAmong_52 rfl (lv_at hl 3 rfl) ?_
    obtain ⟨x31, h32, h⟩ := rs_b1s h
    have h := h _ rfl
    refine rs_callVi (As := [.int x8]) (rest := []) ⟨hx, hb, hml, hown, hts⟩ (c_X3_landAt l G A_a0 A_a0_signs v_a0_count v_a0_signs x8 x31 h32) (cwV 1 hts gX3_faultAmong_X3_landAt rfl rfl rfl (by decide +kernel) ⟨Nat.le_of_ble_eq_true rfl, Nat.le_of_ble_eq_true rfl⟩) dX3_faultAmong_53 hK hP hD hS hA [0, 1] rfl (by decide) rfl rfl (q0 := 0) (ci := 3) rfl rfl rfl hl.1 (lv_room (Nat.le_of_ble_eq_true rfl)) ⟨Nat.zero_le _, Nat.zero_le _⟩ (fun (_ : Unit) => [(A_a0, .inr (3, [.ref A_a0_signs, .int v_a0_count])), (A_a0_signs, .inl (G.2.2.2.1, 60, .inl v_a0_signs))]) (fun _ => rfl) (fun _ => rfl) (fun u32 H locs hP hD hS => ?_)
    refine lv_iconst (v := 0) hx hb dX3_faultAmong_56 (by decide) ?_
    refine lv_iload_n hx hb dX3_faultAmong_57 rfl (lv_at hl 1 rfl) ?_
    refine lv_iconst (v := 1) hx hb dX3_faultAmong_58 (by decide) ?_
    refine lv_isub hx hb dX3_faultAmong_59 ?_
    obtain ⟨x33, h34, h⟩ := rs_b1s h
    have h := h _ rfl
    refine rs_callNi (As := [.int x31, .int 0, .int (p1 - 1)]) (rest := []) ⟨hx, hb, hml, hown, hts⟩ (c_X10_within l G x31 0 (p1 - 1) x33 h34) ⟨va_cnB 3 hts gX3_faultAmong_X10_within_n27 rfl rfl rfl (rs_nw3 hK.2.1) (hts (.initialized RX10) (List.mem_of_getElem? (i := 13) rfl)) (by decide +kernel) ⟨Nat.le_of_ble_eq_true rfl, Nat.le_of_ble_eq_true rfl⟩, (hts (.static yX10_within) (List.mem_of_getElem? (i := 12) rfl)), trivial⟩ dX3_faultAmong_60 hK hP hD hS hA [] rfl (by decide) rfl rfl hl.1 (lv_room (Nat.le_of_ble_eq_true rfl)) ⟨Nat.zero_le _, Nat.zero_le _⟩ (fun (_ : Unit) => [(A_a0, .inr (3, [.ref A_a0_signs, .int v_a0_count])), (A_a0_signs, .inl (G.2.2.2.1, 60, .inl v_a0_signs))]) (fun _ => rfl) (fun _ => rfl) (fun u34 H locs hP hD hS => ?_)
    refine lv_if_ne (tgt := 68) hx hb dX3_faultAmong_63 (by decide) (fun hc => ?_) (fun hc => ?_)
    · have h := rs_neg hc h
      refine lv_iinc (v := (x7 + 1)) (lv' := [(2, .int (x7 + 1)), (0, .ref A_a0), (1, .int p1), (3, .int x8)]) hx hb dX3_faultAmong_68 hl (k := 2) rfl (by first | rfl | decide) (by decide) rfl (fun ls hl => ?_)
      refine lv_iinc (v := (x8 + 1)) (lv' := [(3, .int (x8 + 1)), (2, .int (x7 + 1)), (0, .ref A_a0), (1, .int p1)]) hx hb dX3_faultAmong_71 hl (k := 3) rfl (by first | rfl | decide) (by decide) rfl (fun ls hl => ?_)
      refine lv_goto (tgt := 4) hx hb dX3_faultAmong_74 (by decide) ?_
      exact K23 _ _ (Option.some.inj h).symm _ _ _ hP hD hS (lv_sub hl [2, 3, 1, 0] rfl)
    have h := rs_pos hc h
    refine lv_iload_n hx hb dX3_faultAmong_66 rfl (lv_at hl 3 rfl) ?_
    exact ret _ () _ _ _ _ (hR23 _ (L23 _ (Option.some.inj h).symm)) hP hS dX3_faultAmong_67 rfl
  have h := rs_pos hc h
  refine lv_aload_n hx hb dX3_faultAmong_17 rfl (lv_at hl 0 rfl) ?_
  refine lv_iload_n hx hb dX3_faultAmong_18 rfl (lv_at hl 3 rfl) ?_
  obtain ⟨x35, h36, h⟩ := rs_b1s h
  have h := h _ rfl
  refine rs_callVi (As := [.int x8]) (rest := []) ⟨hx, hb, hml, hown, hts⟩ (c_X3_digitAt l G A_a0 A_a0_signs v_a0_count v_a0_signs x8 x35 h36) (cwV 1 hts gX3_faultAmong_X3_digitAt rfl rfl rfl (by decide +kernel) ⟨Nat.le_of_ble_eq_true rfl, Nat.le_of_ble_eq_true rfl⟩) dX3_faultAmong_19 hK hP hD hS hA [0, 1] rfl (by decide) rfl rfl (q0 := 0) (ci := 3) rfl rfl rfl hl.1 (lv_room (Nat.le_of_ble_eq_true rfl)) ⟨Nat.zero_le _, Nat.zero_le _⟩ (fun (_ : Unit) => [(A_a0, .inr (3, [.ref A_a0_signs, .int v_a0_count])), (A_a0_signs, .inl (G.2.2.2.1, 60, .inl v_a0_signs))]) (fun _ => rfl) (fun _ => rfl) (fun u36 H locs hP hD hS => ?_)
  refine lv_iconst (v := 1) hx hb dX3_faultAmong_22 (by decide) ?_
  refine lv_bipush (v := 9) hx hb dX3_faultAmong_23 (by decide) ?_
  obtain ⟨x37, h38, h⟩ := rs_b1s h
  have h := h _ rfl
  refine rs_callNi (As := [.int x35, .int 1, .int 9]) (rest := []) ⟨hx, hb, hml, hown, hts⟩ (c_X10_within l G x35 1 9 x37 h38) ⟨va_cnB 3 hts gX3_faultAmong_X10_within_n27 rfl rfl rfl (rs_nw3 hK.2.1) (hts (.initialized RX10) (List.mem_of_getElem? (i := 13) rfl)) (by decide +kernel) ⟨Nat.le_of_ble_eq_true rfl, Nat.le_of_ble_eq_true rfl⟩, (hts (.static yX10_within) (List.mem_of_getElem? (i := 12) rfl)), trivial⟩ dX3_faultAmong_25 hK hP hD hS hA [] rfl (by decide) rfl rfl hl.1 (lv_room (Nat.le_of_ble_eq_true rfl)) ⟨Nat.zero_le _, Nat.zero_le _⟩ (fun (_ : Unit) => [(A_a0, .inr (3, [.ref A_a0_signs, .int v_a0_count])), (A_a0_signs, .inl (G.2.2.2.1, 60, .inl v_a0_signs))]) (fun _ => rfl) (fun _ => rfl) (fun u38 H locs hP hD hS => ?_)
  refine lv_if_ne (tgt := 33) hx hb dX3_faultAmong_28 (by decide) (fun hc => ?_) (fun hc => ?_)
  · have h := rs_neg hc h
    refine lv_iconst (v := 0) hx hb dX3_faultAmong_33 (by decide) ?_
    refine lv_istore_n (lv' := [(2, .int 0), (0, .ref A_a0), (1, .int p1), (3, .int x8)]) hx hb dX3_faultAmong_34 rfl hl (by decide) rfl (fun ls hl => ?_)
    refine lv_goto (tgt := 71) hx hb dX3_faultAmong_35 (by decide) ?_
    refine lv_iinc (v := (x8 + 1)) (lv' := [(3, .int (x8 + 1)), (2, .int 0), (0, .ref A_a0), (1, .int p1)]) hx hb dX3_faultAmong_71 hl (k := 3) rfl (by first | rfl | decide) (by decide) rfl (fun ls hl => ?_)
    refine lv_goto (tgt := 4) hx hb dX3_faultAmong_74 (by decide) ?_
    exact K23 _ _ (Option.some.inj h).symm _ _ _ hP hD hS (lv_sub hl [2, 3, 1, 0] rfl)
  have h := rs_pos hc h
  refine lv_iload_n hx hb dX3_faultAmong_31 rfl (lv_at hl 3 rfl) ?_
  exact ret _ () _ _ _ _ (hR23 _ (L23 _ (Option.some.inj h).symm)) hP hS dX3_faultAmong_32 rfl
theorem uX4_takeFrom_4 : ∀ w ∈ wsX40, w ∈ wsX4_takeFrom := fun _ h => List.mem_cons_of_mem _ (List.mem_append_right _ h)
abbrev rmX4_takeFrom : Room := { frames := 0, cells := 0, slots := 0, locals := 0 }
set_option maxRecDepth 100000 in
set_option maxHeartbeats 4000000 in
theorem c_X4_takeFrom (l : Launch) (G : rs_G) (A_a0 : Nat) (A_a1 : Nat) (v_a0_lands : Int32) (v_a0_wide : Int32) (v_a0_pace : Int32) (v_a0_age : Int32) (v_a0_slits : Int32) (v_a0_slitA : Int32) (v_a0_slitB : Int32) (v_a1_lands : Int32) (v_a1_wide : Int32) (v_a1_pace : Int32) (v_a1_age : Int32) (v_a1_slits : Int32) (v_a1_slitA : Int32) (v_a1_slitB : Int32) (o0 : Int32) (o1 : Int32) (o2 : Int32) (o3 : Int32) (o4 : Int32) (o5 : Int32) (o6 : Int32) (h : f_X4_takeFrom v_a1_lands v_a1_wide v_a1_pace v_a1_age v_a1_slits v_a1_slitA v_a1_slitB = some (o0, o1, o2, o3, o4, o5, o6)) : rs_Cv l yX4_takeFrom wsX4_takeFrom rmX4_takeFrom G [.ref A_a0, .ref A_a1] [(A_a0, .inr (4, [.int v_a0_lands, .int v_a0_wide, .int v_a0_pace, .int v_a0_age, .int v_a0_slits, .int v_a0_slitA, .int v_a0_slitB])), (A_a1, .inr (4, [.int v_a1_lands, .int v_a1_wide, .int v_a1_pace, .int v_a1_age, .int v_a1_slits, .int v_a1_slitA, .int v_a1_slitB]))] (fun (_ : Unit) => [(A_a0, .inr (4, [.int o0, .int o1, .int o2, .int o3, .int o4, .int o5, .int o6])), (A_a1, .inr (4, [.int v_a1_lands, .int v_a1_wide, .int v_a1_pace, .int v_a1_age, .int v_a1_slits, .int v_a1_slitA, .int v_a1_slitB]))]) := by
  refine rs_enter_v (cc := cX4_takeFrom) (maxL := 2) (by decide) rfl (Nat.le_of_ble_eq_true rfl) (fun p e s m args below meth c A Q ls E ret hP hD hS hA hl => ?_)
  obtain ⟨hx, hb, hml, hown, hts, hK⟩ := E
  have hown : s.vm.findClass RX4 = some m.cls := hown
  have hl : lv_has ls 2 [(0, .ref A_a0), (1, .ref A_a1)] := hl
  have ret : ∀ (w0 : Int32) (w1 : Int32) (w2 : Int32) (w3 : Int32) (w4 : Int32) (w5 : Int32) (w6 : Int32) (u : Unit) (H : Heap) (locs : List Loc) (pc : Nat) (ls : Array Slot), some (w0, w1, w2, w3, w4, w5, w6) = some (o0, o1, o2, o3, o4, o5, o6) → va_P G.1 vwCl [(A_a0, .inr (4, [.int w0, .int w1, .int w2, .int w3, .int w4, .int w5, .int w6])), (A_a1, .inr (4, [.int v_a1_lands, .int v_a1_wide, .int v_a1_pace, .int v_a1_age, .int v_a1_slits, .int v_a1_slitA, .int v_a1_slitB]))] H → va_S A s.heap H locs → decode cX4_takeFrom pc = .ok (.return_, 1) → W p l e rmX4_takeFrom s m args below meth c H locs 0 0 Q (F0 m pc ls []) := by
    intro w0 w1 w2 w3 w4 w5 w6 u H locs pc ls hz
    cases hz
    exact ret u H locs pc ls
  unfold f_X4_takeFrom at h
  refine lv_aload_n hx hb dX4_takeFrom_0 rfl (lv_at hl 0 rfl) ?_
  refine lv_aload_n hx hb dX4_takeFrom_1 rfl (lv_at hl 1 rfl) ?_
  refine va_get (D := G.1) (ci := 4) (v := .int v_a1_lands) (C := RX4) (T := TX4) (N := 7) hx hb hts uX4_takeFrom_4 hown hK.1 hP 1 rfl rfl 0 (by decide) (hts (.fieldLink RX4 9 "RingShadow$Shadow" "lands" "I") (List.mem_of_getElem? (i := 1) rfl)) (fun _ h9 => h9) rfl dX4_takeFrom_2 ?_
  refine va_put (D := G.1) (ci := 4) (v := .int v_a1_lands) (ty := .int) (C := RX4) (T := TX4) (N := 7) hx hb hts uX4_takeFrom_4 tyX4 tyX4_ok nmX4 hown hK.1 hP hD hS 0 rfl rfl 0 (by decide) (hts (.fieldLink RX4 9 "RingShadow$Shadow" "lands" "I") (List.mem_of_getElem? (i := 1) rfl)) (fun _ h9 => h9) rfl (by decide +kernel) rfl rfl (Nat.le_of_ble_eq_true rfl) dX4_takeFrom_5 (fun H locs hP hD hS => ?_)
  have hP : va_P G.1 vwCl [(A_a0, .inr (4, [.int v_a1_lands, .int v_a0_wide, .int v_a0_pace, .int v_a0_age, .int v_a0_slits, .int v_a0_slitA, .int v_a0_slitB])), (A_a1, .inr (4, [.int v_a1_lands, .int v_a1_wide, .int v_a1_pace, .int v_a1_age, .int v_a1_slits, .int v_a1_slitA, .int v_a1_slitB]))] H := hP
  have hD : va_D A [(A_a0, .inr (4, [.int v_a1_lands, .int v_a0_wide, .int v_a0_pace, .int v_a0_age, .int v_a0_slits, .int v_a0_slitA, .int v_a0_slitB])), (A_a1, .inr (4, [.int v_a1_lands, .int v_a1_wide, .int v_a1_pace, .int v_a1_age, .int v_a1_slits, .int v_a1_slitA, .int v_a1_slitB]))] := hD
  refine lv_aload_n hx hb dX4_takeFrom_8 rfl (lv_at hl 0 rfl) ?_
  refine lv_aload_n hx hb dX4_takeFrom_9 rfl (lv_at hl 1 rfl) ?_
  refine va_get (D := G.1) (ci := 4) (v := .int v_a1_wide) (C := RX4) (T := TX4) (N := 7) hx hb hts uX4_takeFrom_4 hown hK.1 hP 1 rfl rfl 1 (by decide) (hts (.fieldLink RX4 15 "RingShadow$Shadow" "wide" "I") (List.mem_of_getElem? (i := 2) rfl)) (fun _ h9 => h9) rfl dX4_takeFrom_10 ?_
  refine va_put (D := G.1) (ci := 4) (v := .int v_a1_wide) (ty := .int) (C := RX4) (T := TX4) (N := 7) hx hb hts uX4_takeFrom_4 tyX4 tyX4_ok nmX4 hown hK.1 hP hD hS 0 rfl rfl 1 (by decide) (hts (.fieldLink RX4 15 "RingShadow$Shadow" "wide" "I") (List.mem_of_getElem? (i := 2) rfl)) (fun _ h9 => h9) rfl (by decide +kernel) rfl rfl (Nat.le_of_ble_eq_true rfl) dX4_takeFrom_13 (fun H locs hP hD hS => ?_)
  have hP : va_P G.1 vwCl [(A_a0, .inr (4, [.int v_a1_lands, .int v_a1_wide, .int v_a0_pace, .int v_a0_age, .int v_a0_slits, .int v_a0_slitA, .int v_a0_slitB])), (A_a1, .inr (4, [.int v_a1_lands, .int v_a1_wide, .int v_a1_pace, .int v_a1_age, .int v_a1_slits, .int v_a1_slitA, .int v_a1_slitB]))] H := hP
  have hD : va_D A [(A_a0, .inr (4, [.int v_a1_lands, .int v_a1_wide, .int v_a0_pace, .int v_a0_age, .int v_a0_slits, .int v_a0_slitA, .int v_a0_slitB])), (A_a1, .inr (4, [.int v_a1_lands, .int v_a1_wide, .int v_a1_pace, .int v_a1_age, .int v_a1_slits, .int v_a1_slitA, .int v_a1_slitB]))] := hD
  refine lv_aload_n hx hb dX4_takeFrom_16 rfl (lv_at hl 0 rfl) ?_
  refine lv_aload_n hx hb dX4_takeFrom_17 rfl (lv_at hl 1 rfl) ?_
  refine va_get (D := G.1) (ci := 4) (v := .int v_a1_pace) (C := RX4) (T := TX4) (N := 7) hx hb hts uX4_takeFrom_4 hown hK.1 hP 1 rfl rfl 2 (by decide) (hts (.fieldLink RX4 18 "RingShadow$Shadow" "pace" "I") (List.mem_of_getElem? (i := 3) rfl)) (fun _ h9 => h9) rfl dX4_takeFrom_18 ?_
  refine va_put (D := G.1) (ci := 4) (v := .int v_a1_pace) (ty := .int) (C := RX4) (T := TX4) (N := 7) hx hb hts uX4_takeFrom_4 tyX4 tyX4_ok nmX4 hown hK.1 hP hD hS 0 rfl rfl 2 (by decide) (hts (.fieldLink RX4 18 "RingShadow$Shadow" "pace" "I") (List.mem_of_getElem? (i := 3) rfl)) (fun _ h9 => h9) rfl (by decide +kernel) rfl rfl (Nat.le_of_ble_eq_true rfl) dX4_takeFrom_21 (fun H locs hP hD hS => ?_)
  have hP : va_P G.1 vwCl [(A_a0, .inr (4, [.int v_a1_lands, .int v_a1_wide, .int v_a1_pace, .int v_a0_age, .int v_a0_slits, .int v_a0_slitA, .int v_a0_slitB])), (A_a1, .inr (4, [.int v_a1_lands, .int v_a1_wide, .int v_a1_pace, .int v_a1_age, .int v_a1_slits, .int v_a1_slitA, .int v_a1_slitB]))] H := hP
  have hD : va_D A [(A_a0, .inr (4, [.int v_a1_lands, .int v_a1_wide, .int v_a1_pace, .int v_a0_age, .int v_a0_slits, .int v_a0_slitA, .int v_a0_slitB])), (A_a1, .inr (4, [.int v_a1_lands, .int v_a1_wide, .int v_a1_pace, .int v_a1_age, .int v_a1_slits, .int v_a1_slitA, .int v_a1_slitB]))] := hD
  refine lv_aload_n hx hb dX4_takeFrom_24 rfl (lv_at hl 0 rfl) ?_
  refine lv_aload_n hx hb dX4_takeFrom_25 rfl (lv_at hl 1 rfl) ?_
  refine va_get (D := G.1) (ci := 4) (v := .int v_a1_age) (C := RX4) (T := TX4) (N := 7) hx hb hts uX4_takeFrom_4 hown hK.1 hP 1 rfl rfl 3 (by decide) (hts (.fieldLink RX4 21 "RingShadow$Shadow" "age" "I") (List.mem_of_getElem? (i := 4) rfl)) (fun _ h9 => h9) rfl dX4_takeFrom_26 ?_
  refine va_put (D := G.1) (ci := 4) (v := .int v_a1_age) (ty := .int) (C := RX4) (T := TX4) (N := 7) hx hb hts uX4_takeFrom_4 tyX4 tyX4_ok nmX4 hown hK.1 hP hD hS 0 rfl rfl 3 (by decide) (hts (.fieldLink RX4 21 "RingShadow$Shadow" "age" "I") (List.mem_of_getElem? (i := 4) rfl)) (fun _ h9 => h9) rfl (by decide +kernel) rfl rfl (Nat.le_of_ble_eq_true rfl) dX4_takeFrom_29 (fun H locs hP hD hS => ?_)
  have hP : va_P G.1 vwCl [(A_a0, .inr (4, [.int v_a1_lands, .int v_a1_wide, .int v_a1_pace, .int v_a1_age, .int v_a0_slits, .int v_a0_slitA, .int v_a0_slitB])), (A_a1, .inr (4, [.int v_a1_lands, .int v_a1_wide, .int v_a1_pace, .int v_a1_age, .int v_a1_slits, .int v_a1_slitA, .int v_a1_slitB]))] H := hP
  have hD : va_D A [(A_a0, .inr (4, [.int v_a1_lands, .int v_a1_wide, .int v_a1_pace, .int v_a1_age, .int v_a0_slits, .int v_a0_slitA, .int v_a0_slitB])), (A_a1, .inr (4, [.int v_a1_lands, .int v_a1_wide, .int v_a1_pace, .int v_a1_age, .int v_a1_slits, .int v_a1_slitA, .int v_a1_slitB]))] := hD
  refine lv_aload_n hx hb dX4_takeFrom_32 rfl (lv_at hl 0 rfl) ?_
  refine lv_aload_n hx hb dX4_takeFrom_33 rfl (lv_at hl 1 rfl) ?_
  refine va_get (D := G.1) (ci := 4) (v := .int v_a1_slits) (C := RX4) (T := TX4) (N := 7) hx hb hts uX4_takeFrom_4 hown hK.1 hP 1 rfl rfl 4 (by decide) (hts (.fieldLink RX4 24 "RingShadow$Shadow" "slits" "I") (List.mem_of_getElem? (i := 5) rfl)) (fun _ h9 => h9) rfl dX4_takeFrom_34 ?_
  refine va_put (D := G.1) (ci := 4) (v := .int v_a1_slits) (ty := .int) (C := RX4) (T := TX4) (N := 7) hx hb hts uX4_takeFrom_4 tyX4 tyX4_ok nmX4 hown hK.1 hP hD hS 0 rfl rfl 4 (by decide) (hts (.fieldLink RX4 24 "RingShadow$Shadow" "slits" "I") (List.mem_of_getElem? (i := 5) rfl)) (fun _ h9 => h9) rfl (by decide +kernel) rfl rfl (Nat.le_of_ble_eq_true rfl) dX4_takeFrom_37 (fun H locs hP hD hS => ?_)
  have hP : va_P G.1 vwCl [(A_a0, .inr (4, [.int v_a1_lands, .int v_a1_wide, .int v_a1_pace, .int v_a1_age, .int v_a1_slits, .int v_a0_slitA, .int v_a0_slitB])), (A_a1, .inr (4, [.int v_a1_lands, .int v_a1_wide, .int v_a1_pace, .int v_a1_age, .int v_a1_slits, .int v_a1_slitA, .int v_a1_slitB]))] H := hP
  have hD : va_D A [(A_a0, .inr (4, [.int v_a1_lands, .int v_a1_wide, .int v_a1_pace, .int v_a1_age, .int v_a1_slits, .int v_a0_slitA, .int v_a0_slitB])), (A_a1, .inr (4, [.int v_a1_lands, .int v_a1_wide, .int v_a1_pace, .int v_a1_age, .int v_a1_slits, .int v_a1_slitA, .int v_a1_slitB]))] := hD
  refine lv_aload_n hx hb dX4_takeFrom_40 rfl (lv_at hl 0 rfl) ?_
  refine lv_aload_n hx hb dX4_takeFrom_41 rfl (lv_at hl 1 rfl) ?_
  refine va_get (D := G.1) (ci := 4) (v := .int v_a1_slitA) (C := RX4) (T := TX4) (N := 7) hx hb hts uX4_takeFrom_4 hown hK.1 hP 1 rfl rfl 5 (by decide) (hts (.fieldLink RX4 27 "RingShadow$Shadow" "slitA" "I") (List.mem_of_getElem? (i := 6) rfl)) (fun _ h9 => h9) rfl dX4_takeFrom_42 ?_
  refine va_put (D := G.1) (ci := 4) (v := .int v_a1_slitA) (ty := .int) (C := RX4) (T := TX4) (N := 7) hx hb hts uX4_takeFrom_4 tyX4 tyX4_ok nmX4 hown hK.1 hP hD hS 0 rfl rfl 5 (by decide) (hts (.fieldLink RX4 27 "RingShadow$Shadow" "slitA" "I") (List.mem_of_getElem? (i := 6) rfl)) (fun _ h9 => h9) rfl (by decide +kernel) rfl rfl (Nat.le_of_ble_eq_true rfl) dX4_takeFrom_45 (fun H locs hP hD hS => ?_)
  have hP : va_P G.1 vwCl [(A_a0, .inr (4, [.int v_a1_lands, .int v_a1_wide, .int v_a1_pace, .int v_a1_age, .int v_a1_slits, .int v_a1_slitA, .int v_a0_slitB])), (A_a1, .inr (4, [.int v_a1_lands, .int v_a1_wide, .int v_a1_pace, .int v_a1_age, .int v_a1_slits, .int v_a1_slitA, .int v_a1_slitB]))] H := hP
  have hD : va_D A [(A_a0, .inr (4, [.int v_a1_lands, .int v_a1_wide, .int v_a1_pace, .int v_a1_age, .int v_a1_slits, .int v_a1_slitA, .int v_a0_slitB])), (A_a1, .inr (4, [.int v_a1_lands, .int v_a1_wide, .int v_a1_pace, .int v_a1_age, .int v_a1_slits, .int v_a1_slitA, .int v_a1_slitB]))] := hD
  refine lv_aload_n hx hb dX4_takeFrom_48 rfl (lv_at hl 0 rfl) ?_
  refine lv_aload_n hx hb dX4_takeFrom_49 rfl (lv_at hl 1 rfl) ?_
  refine va_get (D := G.1) (ci := 4) (v := .int v_a1_slitB) (C := RX4) (T := TX4) (N := 7) hx hb hts uX4_takeFrom_4 hown hK.1 hP 1 rfl rfl 6 (by decide) (hts (.fieldLink RX4 30 "RingShadow$Shadow" "slitB" "I") (List.mem_of_getElem? (i := 7) rfl)) (fun _ h9 => h9) rfl dX4_takeFrom_50 ?_
  refine va_put (D := G.1) (ci := 4) (v := .int v_a1_slitB) (ty := .int) (C := RX4) (T := TX4) (N := 7) hx hb hts uX4_takeFrom_4 tyX4 tyX4_ok nmX4 hown hK.1 hP hD hS 0 rfl rfl 6 (by decide) (hts (.fieldLink RX4 30 "RingShadow$Shadow" "slitB" "I") (List.mem_of_getElem? (i := 7) rfl)) (fun _ h9 => h9) rfl (by decide +kernel) rfl rfl (Nat.le_of_ble_eq_true rfl) dX4_takeFrom_53 (fun H locs hP hD hS => ?_)
  have hP : va_P G.1 vwCl [(A_a0, .inr (4, [.int v_a1_lands, .int v_a1_wide, .int v_a1_pace, .int v_a1_age, .int v_a1_slits, .int v_a1_slitA, .int v_a1_slitB])), (A_a1, .inr (4, [.int v_a1_lands, .int v_a1_wide, .int v_a1_pace, .int v_a1_age, .int v_a1_slits, .int v_a1_slitA, .int v_a1_slitB]))] H := hP
  have hD : va_D A [(A_a0, .inr (4, [.int v_a1_lands, .int v_a1_wide, .int v_a1_pace, .int v_a1_age, .int v_a1_slits, .int v_a1_slitA, .int v_a1_slitB])), (A_a1, .inr (4, [.int v_a1_lands, .int v_a1_wide, .int v_a1_pace, .int v_a1_age, .int v_a1_slits, .int v_a1_slitA, .int v_a1_slitB]))] := hD
  exact ret _ _ _ _ _ _ _ () _ _ _ _ h hP hS dX4_takeFrom_56
theorem uX4_rule_4 : ∀ w ∈ wsX40, w ∈ wsX4_rule := fun _ h => List.mem_cons_of_mem _ (List.mem_append_right _ h)
abbrev rmX4_rule : Room := { frames := 0, cells := 0, slots := 0, locals := 0 }
set_option maxRecDepth 100000 in
set_option maxHeartbeats 4000000 in
theorem c_X4_rule (l : Launch) (G : rs_G) (A_a0 : Nat) (v_a0_lands : Int32) (v_a0_wide : Int32) (v_a0_pace : Int32) (v_a0_age : Int32) (v_a0_slits : Int32) (v_a0_slitA : Int32) (v_a0_slitB : Int32) (p1 : Int32) (r0 : Int32) (h : f_X4_rule p1 v_a0_pace v_a0_age v_a0_slits v_a0_slitA v_a0_slitB = some r0) : rs_Ci l yX4_rule wsX4_rule rmX4_rule G [.ref A_a0, .int p1] [(A_a0, .inr (4, [.int v_a0_lands, .int v_a0_wide, .int v_a0_pace, .int v_a0_age, .int v_a0_slits, .int v_a0_slitA, .int v_a0_slitB]))] (fun (_ : Unit) => [(A_a0, .inr (4, [.int v_a0_lands, .int v_a0_wide, .int v_a0_pace, .int v_a0_age, .int v_a0_slits, .int v_a0_slitA, .int v_a0_slitB]))]) r0 := by
  refine rs_enter_i (cc := cX4_rule) (maxL := 2) (ty := .int) (by decide) rfl (Nat.le_of_ble_eq_true rfl) (fun p e s m args below meth c A Q ls E ret hP hD hS hA hl => ?_)
  obtain ⟨hx, hb, hml, hown, hts, hK⟩ := E
  have hown : s.vm.findClass RX4 = some m.cls := hown
  have hl : lv_has ls 2 [(0, .ref A_a0), (1, .int p1)] := hl
  have ret : ∀ (v0 : Int32) (u : Unit) (H : Heap) (locs : List Loc) (pc : Nat) (ls : Array Slot), some v0 = some r0 → va_P G.1 vwCl [(A_a0, .inr (4, [.int v_a0_lands, .int v_a0_wide, .int v_a0_pace, .int v_a0_age, .int v_a0_slits, .int v_a0_slitA, .int v_a0_slitB]))] H → va_S A s.heap H locs → decode cX4_rule pc = .ok (.ireturn, 1) → narrow .int (.int v0) = .int v0 → W p l e rmX4_rule s m args below meth c H locs 0 0 Q (F0 m pc ls [.int v0]) := by
    intro v0 u H locs pc ls hz
    cases hz
    exact ret u H locs pc ls
  unfold f_X4_rule at h
  refine lv_iload_n hx hb dX4_rule_0 rfl (lv_at hl 1 rfl) ?_
  by_cases c0 : p1 = 0
  · have h := rs_pos c0 h
    refine lv_tableIn (off := 31) (tgt := 32) hx hb dX4_rule_1 (by rw [c0]; decide) (by rw [c0]; decide) (by rw [c0]; rfl) (by decide) ?_
    refine lv_aload_n hx hb dX4_rule_32 rfl (lv_at hl 0 rfl) ?_
    refine va_get (D := G.1) (ci := 4) (v := .int v_a0_pace) (C := RX4) (T := TX4) (N := 7) hx hb hts uX4_rule_4 hown hK.1 hP 0 rfl rfl 2 (by decide) (hts (.fieldLink RX4 18 "RingShadow$Shadow" "pace" "I") (List.mem_of_getElem? (i := 1) rfl)) (fun _ h9 => h9) rfl dX4_rule_33 ?_
    exact ret _ () _ _ _ _ h hP hS dX4_rule_36 rfl
  have h := rs_neg c0 h
  by_cases c1 : p1 = 1
  · have h := rs_pos c1 h
    refine lv_tableIn (off := 36) (tgt := 37) hx hb dX4_rule_1 (by rw [c1]; decide) (by rw [c1]; decide) (by rw [c1]; rfl) (by decide) ?_
    refine lv_aload_n hx hb dX4_rule_37 rfl (lv_at hl 0 rfl) ?_
    refine va_get (D := G.1) (ci := 4) (v := .int v_a0_age) (C := RX4) (T := TX4) (N := 7) hx hb hts uX4_rule_4 hown hK.1 hP 0 rfl rfl 3 (by decide) (hts (.fieldLink RX4 21 "RingShadow$Shadow" "age" "I") (List.mem_of_getElem? (i := 2) rfl)) (fun _ h9 => h9) rfl dX4_rule_38 ?_
    exact ret _ () _ _ _ _ h hP hS dX4_rule_41 rfl
  have h := rs_neg c1 h
  by_cases c2 : p1 = 2
  · have h := rs_pos c2 h
    refine lv_tableIn (off := 41) (tgt := 42) hx hb dX4_rule_1 (by rw [c2]; decide) (by rw [c2]; decide) (by rw [c2]; rfl) (by decide) ?_
    refine lv_aload_n hx hb dX4_rule_42 rfl (lv_at hl 0 rfl) ?_
    refine va_get (D := G.1) (ci := 4) (v := .int v_a0_slits) (C := RX4) (T := TX4) (N := 7) hx hb hts uX4_rule_4 hown hK.1 hP 0 rfl rfl 4 (by decide) (hts (.fieldLink RX4 24 "RingShadow$Shadow" "slits" "I") (List.mem_of_getElem? (i := 3) rfl)) (fun _ h9 => h9) rfl dX4_rule_43 ?_
    exact ret _ () _ _ _ _ h hP hS dX4_rule_46 rfl
  have h := rs_neg c2 h
  by_cases c3 : p1 = 3
  · have h := rs_pos c3 h
    refine lv_tableIn (off := 46) (tgt := 47) hx hb dX4_rule_1 (by rw [c3]; decide) (by rw [c3]; decide) (by rw [c3]; rfl) (by decide) ?_
    refine lv_aload_n hx hb dX4_rule_47 rfl (lv_at hl 0 rfl) ?_
    refine va_get (D := G.1) (ci := 4) (v := .int v_a0_slitA) (C := RX4) (T := TX4) (N := 7) hx hb hts uX4_rule_4 hown hK.1 hP 0 rfl rfl 5 (by decide) (hts (.fieldLink RX4 27 "RingShadow$Shadow" "slitA" "I") (List.mem_of_getElem? (i := 4) rfl)) (fun _ h9 => h9) rfl dX4_rule_48 ?_
    exact ret _ () _ _ _ _ h hP hS dX4_rule_51 rfl
  have h := rs_neg c3 h
  refine lv_tableOut (tgt := 52) hx hb dX4_rule_1 (by have e0 := lv_neT (k := 0) (a := 0) c0 rfl; have e1 := lv_neT (k := 1) (a := 1) c1 rfl; have e2 := lv_neT (k := 2) (a := 2) c2 rfl; have e3 := lv_neT (k := 3) (a := 3) c3 rfl; omega) (by decide) ?_
  refine lv_aload_n hx hb dX4_rule_52 rfl (lv_at hl 0 rfl) ?_
  refine va_get (D := G.1) (ci := 4) (v := .int v_a0_slitB) (C := RX4) (T := TX4) (N := 7) hx hb hts uX4_rule_4 hown hK.1 hP 0 rfl rfl 6 (by decide) (hts (.fieldLink RX4 30 "RingShadow$Shadow" "slitB" "I") (List.mem_of_getElem? (i := 5) rfl)) (fun _ h9 => h9) rfl dX4_rule_53 ?_
  exact ret _ () _ _ _ _ h hP hS dX4_rule_56 rfl
theorem uX4_putRule_4 : ∀ w ∈ wsX40, w ∈ wsX4_putRule := fun _ h => List.mem_cons_of_mem _ (List.mem_append_right _ h)
abbrev rmX4_putRule : Room := { frames := 0, cells := 0, slots := 0, locals := 0 }
set_option maxRecDepth 100000 in
set_option maxHeartbeats 4000000 in
theorem c_X4_putRule (l : Launch) (G : rs_G) (A_a0 : Nat) (v_a0_lands : Int32) (v_a0_wide : Int32) (v_a0_pace : Int32) (v_a0_age : Int32) (v_a0_slits : Int32) (v_a0_slitA : Int32) (v_a0_slitB : Int32) (p1 : Int32) (p2 : Int32) (o0 : Int32) (o1 : Int32) (o2 : Int32) (o3 : Int32) (o4 : Int32) (h : f_X4_putRule p1 p2 v_a0_pace v_a0_age v_a0_slits v_a0_slitA v_a0_slitB = some (o0, o1, o2, o3, o4)) : rs_Cv l yX4_putRule wsX4_putRule rmX4_putRule G [.ref A_a0, .int p1, .int p2] [(A_a0, .inr (4, [.int v_a0_lands, .int v_a0_wide, .int v_a0_pace, .int v_a0_age, .int v_a0_slits, .int v_a0_slitA, .int v_a0_slitB]))] (fun (_ : Unit) => [(A_a0, .inr (4, [.int v_a0_lands, .int v_a0_wide, .int o0, .int o1, .int o2, .int o3, .int o4]))]) := by
  refine rs_enter_v (cc := cX4_putRule) (maxL := 3) (by decide) rfl (Nat.le_of_ble_eq_true rfl) (fun p e s m args below meth c A Q ls E ret hP hD hS hA hl => ?_)
  obtain ⟨hx, hb, hml, hown, hts, hK⟩ := E
  have hown : s.vm.findClass RX4 = some m.cls := hown
  have hl : lv_has ls 3 [(0, .ref A_a0), (1, .int p1), (2, .int p2)] := hl
  have ret : ∀ (w0 : Int32) (w1 : Int32) (w2 : Int32) (w3 : Int32) (w4 : Int32) (u : Unit) (H : Heap) (locs : List Loc) (pc : Nat) (ls : Array Slot), some (w0, w1, w2, w3, w4) = some (o0, o1, o2, o3, o4) → va_P G.1 vwCl [(A_a0, .inr (4, [.int v_a0_lands, .int v_a0_wide, .int w0, .int w1, .int w2, .int w3, .int w4]))] H → va_S A s.heap H locs → decode cX4_putRule pc = .ok (.return_, 1) → W p l e rmX4_putRule s m args below meth c H locs 0 0 Q (F0 m pc ls []) := by
    intro w0 w1 w2 w3 w4 u H locs pc ls hz
    cases hz
    exact ret u H locs pc ls
  unfold f_X4_putRule at h
  refine lv_iload_n hx hb dX4_putRule_0 rfl (lv_at hl 1 rfl) ?_
  by_cases c0 : p1 = 0
  · have h := rs_pos c0 h
    refine lv_tableIn (off := 31) (tgt := 32) hx hb dX4_putRule_1 (by rw [c0]; decide) (by rw [c0]; decide) (by rw [c0]; rfl) (by decide) ?_
    refine lv_aload_n hx hb dX4_putRule_32 rfl (lv_at hl 0 rfl) ?_
    refine lv_iload_n hx hb dX4_putRule_33 rfl (lv_at hl 2 rfl) ?_
    refine va_put (D := G.1) (ci := 4) (v := .int p2) (ty := .int) (C := RX4) (T := TX4) (N := 7) hx hb hts uX4_putRule_4 tyX4 tyX4_ok nmX4 hown hK.1 hP hD hS 0 rfl rfl 2 (by decide) (hts (.fieldLink RX4 18 "RingShadow$Shadow" "pace" "I") (List.mem_of_getElem? (i := 1) rfl)) (fun _ h9 => h9) rfl (by decide +kernel) rfl rfl (Nat.le_of_ble_eq_true rfl) dX4_putRule_34 (fun H locs hP hD hS => ?_)
    have hP : va_P G.1 vwCl [(A_a0, .inr (4, [.int v_a0_lands, .int v_a0_wide, .int p2, .int v_a0_age, .int v_a0_slits, .int v_a0_slitA, .int v_a0_slitB]))] H := hP
    have hD : va_D A [(A_a0, .inr (4, [.int v_a0_lands, .int v_a0_wide, .int p2, .int v_a0_age, .int v_a0_slits, .int v_a0_slitA, .int v_a0_slitB]))] := hD
    refine lv_goto (tgt := 69) hx hb dX4_putRule_37 (by decide) ?_
    exact ret _ _ _ _ _ () _ _ _ _ h hP hS dX4_putRule_69
  have h := rs_neg c0 h
  by_cases c1 : p1 = 1
  · have h := rs_pos c1 h
    refine lv_tableIn (off := 39) (tgt := 40) hx hb dX4_putRule_1 (by rw [c1]; decide) (by rw [c1]; decide) (by rw [c1]; rfl) (by decide) ?_
    refine lv_aload_n hx hb dX4_putRule_40 rfl (lv_at hl 0 rfl) ?_
    refine lv_iload_n hx hb dX4_putRule_41 rfl (lv_at hl 2 rfl) ?_
    refine va_put (D := G.1) (ci := 4) (v := .int p2) (ty := .int) (C := RX4) (T := TX4) (N := 7) hx hb hts uX4_putRule_4 tyX4 tyX4_ok nmX4 hown hK.1 hP hD hS 0 rfl rfl 3 (by decide) (hts (.fieldLink RX4 21 "RingShadow$Shadow" "age" "I") (List.mem_of_getElem? (i := 2) rfl)) (fun _ h9 => h9) rfl (by decide +kernel) rfl rfl (Nat.le_of_ble_eq_true rfl) dX4_putRule_42 (fun H locs hP hD hS => ?_)
    have hP : va_P G.1 vwCl [(A_a0, .inr (4, [.int v_a0_lands, .int v_a0_wide, .int v_a0_pace, .int p2, .int v_a0_slits, .int v_a0_slitA, .int v_a0_slitB]))] H := hP
    have hD : va_D A [(A_a0, .inr (4, [.int v_a0_lands, .int v_a0_wide, .int v_a0_pace, .int p2, .int v_a0_slits, .int v_a0_slitA, .int v_a0_slitB]))] := hD
    refine lv_goto (tgt := 69) hx hb dX4_putRule_45 (by decide) ?_
    exact ret _ _ _ _ _ () _ _ _ _ h hP hS dX4_putRule_69
  have h := rs_neg c1 h
  by_cases c2 : p1 = 2
  · have h := rs_pos c2 h
    refine lv_tableIn (off := 47) (tgt := 48) hx hb dX4_putRule_1 (by rw [c2]; decide) (by rw [c2]; decide) (by rw [c2]; rfl) (by decide) ?_
    refine lv_aload_n hx hb dX4_putRule_48 rfl (lv_at hl 0 rfl) ?_
    refine lv_iload_n hx hb dX4_putRule_49 rfl (lv_at hl 2 rfl) ?_
    refine va_put (D := G.1) (ci := 4) (v := .int p2) (ty := .int) (C := RX4) (T := TX4) (N := 7) hx hb hts uX4_putRule_4 tyX4 tyX4_ok nmX4 hown hK.1 hP hD hS 0 rfl rfl 4 (by decide) (hts (.fieldLink RX4 24 "RingShadow$Shadow" "slits" "I") (List.mem_of_getElem? (i := 3) rfl)) (fun _ h9 => h9) rfl (by decide +kernel) rfl rfl (Nat.le_of_ble_eq_true rfl) dX4_putRule_50 (fun H locs hP hD hS => ?_)
    have hP : va_P G.1 vwCl [(A_a0, .inr (4, [.int v_a0_lands, .int v_a0_wide, .int v_a0_pace, .int v_a0_age, .int p2, .int v_a0_slitA, .int v_a0_slitB]))] H := hP
    have hD : va_D A [(A_a0, .inr (4, [.int v_a0_lands, .int v_a0_wide, .int v_a0_pace, .int v_a0_age, .int p2, .int v_a0_slitA, .int v_a0_slitB]))] := hD
    refine lv_goto (tgt := 69) hx hb dX4_putRule_53 (by decide) ?_
    exact ret _ _ _ _ _ () _ _ _ _ h hP hS dX4_putRule_69
  have h := rs_neg c2 h
  by_cases c3 : p1 = 3
  · have h := rs_pos c3 h
    refine lv_tableIn (off := 55) (tgt := 56) hx hb dX4_putRule_1 (by rw [c3]; decide) (by rw [c3]; decide) (by rw [c3]; rfl) (by decide) ?_
    refine lv_aload_n hx hb dX4_putRule_56 rfl (lv_at hl 0 rfl) ?_
    refine lv_iload_n hx hb dX4_putRule_57 rfl (lv_at hl 2 rfl) ?_
    refine va_put (D := G.1) (ci := 4) (v := .int p2) (ty := .int) (C := RX4) (T := TX4) (N := 7) hx hb hts uX4_putRule_4 tyX4 tyX4_ok nmX4 hown hK.1 hP hD hS 0 rfl rfl 5 (by decide) (hts (.fieldLink RX4 27 "RingShadow$Shadow" "slitA" "I") (List.mem_of_getElem? (i := 4) rfl)) (fun _ h9 => h9) rfl (by decide +kernel) rfl rfl (Nat.le_of_ble_eq_true rfl) dX4_putRule_58 (fun H locs hP hD hS => ?_)
    have hP : va_P G.1 vwCl [(A_a0, .inr (4, [.int v_a0_lands, .int v_a0_wide, .int v_a0_pace, .int v_a0_age, .int v_a0_slits, .int p2, .int v_a0_slitB]))] H := hP
    have hD : va_D A [(A_a0, .inr (4, [.int v_a0_lands, .int v_a0_wide, .int v_a0_pace, .int v_a0_age, .int v_a0_slits, .int p2, .int v_a0_slitB]))] := hD
    refine lv_goto (tgt := 69) hx hb dX4_putRule_61 (by decide) ?_
    exact ret _ _ _ _ _ () _ _ _ _ h hP hS dX4_putRule_69
  have h := rs_neg c3 h
  refine lv_tableOut (tgt := 64) hx hb dX4_putRule_1 (by have e0 := lv_neT (k := 0) (a := 0) c0 rfl; have e1 := lv_neT (k := 1) (a := 1) c1 rfl; have e2 := lv_neT (k := 2) (a := 2) c2 rfl; have e3 := lv_neT (k := 3) (a := 3) c3 rfl; omega) (by decide) ?_
  refine lv_aload_n hx hb dX4_putRule_64 rfl (lv_at hl 0 rfl) ?_
  refine lv_iload_n hx hb dX4_putRule_65 rfl (lv_at hl 2 rfl) ?_
  refine va_put (D := G.1) (ci := 4) (v := .int p2) (ty := .int) (C := RX4) (T := TX4) (N := 7) hx hb hts uX4_putRule_4 tyX4 tyX4_ok nmX4 hown hK.1 hP hD hS 0 rfl rfl 6 (by decide) (hts (.fieldLink RX4 30 "RingShadow$Shadow" "slitB" "I") (List.mem_of_getElem? (i := 5) rfl)) (fun _ h9 => h9) rfl (by decide +kernel) rfl rfl (Nat.le_of_ble_eq_true rfl) dX4_putRule_66 (fun H locs hP hD hS => ?_)
  have hP : va_P G.1 vwCl [(A_a0, .inr (4, [.int v_a0_lands, .int v_a0_wide, .int v_a0_pace, .int v_a0_age, .int v_a0_slits, .int v_a0_slitA, .int p2]))] H := hP
  have hD : va_D A [(A_a0, .inr (4, [.int v_a0_lands, .int v_a0_wide, .int v_a0_pace, .int v_a0_age, .int v_a0_slits, .int v_a0_slitA, .int p2]))] := hD
  exact ret _ _ _ _ _ () _ _ _ _ h hP hS dX4_putRule_69
abbrev rmX4_isStrike : Room := { frames := 3, cells := 0, slots := 0, locals := 68 }
set_option maxRecDepth 100000 in
set_option maxHeartbeats 4000000 in
theorem c_X4_isStrike (l : Launch) (G : rs_G) (A_a0 : Nat) (v_a0_lands : Int32) (v_a0_wide : Int32) (v_a0_pace : Int32) (v_a0_age : Int32) (v_a0_slits : Int32) (v_a0_slitA : Int32) (v_a0_slitB : Int32) (p1 : Int32) (p2 : Int32) (p3 : Int32) (r0 : Int32) (h : f_X4_isStrike p1 p2 p3 v_a0_lands v_a0_wide v_a0_pace v_a0_age v_a0_slits v_a0_slitA v_a0_slitB = some r0) : rs_Ci l yX4_isStrike wsX4_isStrike rmX4_isStrike G [.ref A_a0, .int p1, .int p2, .int p3] [(A_a0, .inr (4, [.int v_a0_lands, .int v_a0_wide, .int v_a0_pace, .int v_a0_age, .int v_a0_slits, .int v_a0_slitA, .int v_a0_slitB]))] (fun (_ : Unit) => [(A_a0, .inr (4, [.int v_a0_lands, .int v_a0_wide, .int v_a0_pace, .int v_a0_age, .int v_a0_slits, .int v_a0_slitA, .int v_a0_slitB]))]) r0 := by
  refine rs_enter_i (cc := cX4_isStrike) (maxL := 4) (ty := .boolean) (by decide) rfl (Nat.le_of_ble_eq_true rfl) (fun p e s m args below meth c A Q ls E ret hP hD hS hA hl => ?_)
  obtain ⟨hx, hb, hml, hown, hts, hK⟩ := E
  have hown : s.vm.findClass RX4 = some m.cls := hown
  have hl : lv_has ls 4 [(0, .ref A_a0), (1, .int p1), (2, .int p2), (3, .int p3)] := hl
  have ret : ∀ (v0 : Int32) (u : Unit) (H : Heap) (locs : List Loc) (pc : Nat) (ls : Array Slot), some v0 = some r0 → va_P G.1 vwCl [(A_a0, .inr (4, [.int v_a0_lands, .int v_a0_wide, .int v_a0_pace, .int v_a0_age, .int v_a0_slits, .int v_a0_slitA, .int v_a0_slitB]))] H → va_S A s.heap H locs → decode cX4_isStrike pc = .ok (.ireturn, 1) → narrow .boolean (.int v0) = .int v0 → W p l e rmX4_isStrike s m args below meth c H locs 0 0 Q (F0 m pc ls [.int v0]) := by
    intro v0 u H locs pc ls hz
    cases hz
    exact ret u H locs pc ls
  unfold f_X4_isStrike at h
  refine lv_aload_n hx hb dX4_isStrike_0 rfl (lv_at hl 0 rfl) ?_
  refine lv_iload_n hx hb dX4_isStrike_1 rfl (lv_at hl 1 rfl) ?_
  refine lv_iload_n hx hb dX4_isStrike_2 rfl (lv_at hl 3 rfl) ?_
  obtain ⟨x1, h2, h⟩ := rs_b1s h
  have h := h _ rfl
  refine rs_callVi (As := [.int p1, .int p3]) (rest := []) ⟨hx, hb, hml, hown, hts⟩ (c_X4_isDark l G A_a0 v_a0_lands v_a0_wide v_a0_pace v_a0_age v_a0_slits v_a0_slitA v_a0_slitB p1 p3 x1 h2) (cwV 2 hts gX4_isStrike_X4_isDark rfl rfl rfl (by decide +kernel) ⟨Nat.le_of_ble_eq_true rfl, Nat.le_of_ble_eq_true rfl⟩) dX4_isStrike_3 hK hP hD hS hA [0] rfl (by decide) rfl rfl (q0 := 0) (ci := 4) rfl rfl rfl hl.1 (lv_room (Nat.le_of_ble_eq_true rfl)) ⟨Nat.zero_le _, Nat.zero_le _⟩ (fun (_ : Unit) => [(A_a0, .inr (4, [.int v_a0_lands, .int v_a0_wide, .int v_a0_pace, .int v_a0_age, .int v_a0_slits, .int v_a0_slitA, .int v_a0_slitB]))]) (fun _ => rfl) (fun _ => rfl) (fun u2 H locs hP hD hS => ?_)
  refine lv_if_ne (tgt := 22) hx hb dX4_isStrike_6 (by decide) (fun hc => ?_) (fun hc => ?_)
  · have h := rs_neg hc h
    refine lv_iconst (v := 0) hx hb dX4_isStrike_22 (by decide) ?_
    exact ret _ () _ _ _ _ h hP hS dX4_isStrike_23 rfl
  have h := rs_pos hc h
  refine lv_aload_n hx hb dX4_isStrike_9 rfl (lv_at hl 0 rfl) ?_
  refine lv_iload_n hx hb dX4_isStrike_10 rfl (lv_at hl 2 rfl) ?_
  refine lv_iload_n hx hb dX4_isStrike_11 rfl (lv_at hl 3 rfl) ?_
  obtain ⟨x3, h4, h⟩ := rs_b1s h
  have h := h _ rfl
  refine rs_callVi (As := [.int p2, .int p3]) (rest := []) ⟨hx, hb, hml, hown, hts⟩ (c_X4_isDark l G A_a0 v_a0_lands v_a0_wide v_a0_pace v_a0_age v_a0_slits v_a0_slitA v_a0_slitB p2 p3 x3 h4) (cwV 2 hts gX4_isStrike_X4_isDark rfl rfl rfl (by decide +kernel) ⟨Nat.le_of_ble_eq_true rfl, Nat.le_of_ble_eq_true rfl⟩) dX4_isStrike_12 hK hP hD hS hA [0] rfl (by decide) rfl rfl (q0 := 0) (ci := 4) rfl rfl rfl hl.1 (lv_room (Nat.le_of_ble_eq_true rfl)) ⟨Nat.zero_le _, Nat.zero_le _⟩ (fun (_ : Unit) => [(A_a0, .inr (4, [.int v_a0_lands, .int v_a0_wide, .int v_a0_pace, .int v_a0_age, .int v_a0_slits, .int v_a0_slitA, .int v_a0_slitB]))]) (fun _ => rfl) (fun _ => rfl) (fun u4 H locs hP hD hS => ?_)
  refine lv_if_eq (tgt := 22) hx hb dX4_isStrike_15 (by decide) (fun hc => ?_) (fun hc => ?_)
  · have h := rs_pos hc h
    refine lv_iconst (v := 0) hx hb dX4_isStrike_22 (by decide) ?_
    exact ret _ () _ _ _ _ h hP hS dX4_isStrike_23 rfl
  have h := rs_neg hc h
  refine lv_iconst (v := 1) hx hb dX4_isStrike_18 (by decide) ?_
  refine lv_goto (tgt := 23) hx hb dX4_isStrike_19 (by decide) ?_
  exact ret _ () _ _ _ _ h hP hS dX4_isStrike_23 rfl
theorem uX4_darkAt_4 : ∀ w ∈ wsX40, w ∈ wsX4_darkAt := fun _ h => List.mem_cons_of_mem _ (List.mem_append_right _ h)
abbrev rmX4_darkAt : Room := { frames := 1, cells := 0, slots := 0, locals := 23 }
set_option maxRecDepth 100000 in
set_option maxHeartbeats 4000000 in
theorem c_X4_darkAt (l : Launch) (G : rs_G) (A_a0 : Nat) (v_a0_lands : Int32) (v_a0_wide : Int32) (v_a0_pace : Int32) (v_a0_age : Int32) (v_a0_slits : Int32) (v_a0_slitA : Int32) (v_a0_slitB : Int32) (p1 : Int32) (N : Nat) (r0 : Int32) (h : f_X4_darkAt N p1 v_a0_lands v_a0_wide v_a0_pace v_a0_age v_a0_slits v_a0_slitA v_a0_slitB = some r0) : rs_Ci l yX4_darkAt wsX4_darkAt rmX4_darkAt G [.ref A_a0, .int p1] [(A_a0, .inr (4, [.int v_a0_lands, .int v_a0_wide, .int v_a0_pace, .int v_a0_age, .int v_a0_slits, .int v_a0_slitA, .int v_a0_slitB]))] (fun (_ : Unit) => [(A_a0, .inr (4, [.int v_a0_lands, .int v_a0_wide, .int v_a0_pace, .int v_a0_age, .int v_a0_slits, .int v_a0_slitA, .int v_a0_slitB]))]) r0 := by
  refine rs_enter_i (cc := cX4_darkAt) (maxL := 5) (ty := .int) (by decide) rfl (Nat.le_of_ble_eq_true rfl) (fun p e s m args below meth c A Q ls E ret hP hD hS hA hl => ?_)
  obtain ⟨hx, hb, hml, hown, hts, hK⟩ := E
  have hown : s.vm.findClass RX4 = some m.cls := hown
  have hl : lv_has ls 5 [(0, .ref A_a0), (1, .int p1)] := hl
  have ret : ∀ (v0 : Int32) (u : Unit) (H : Heap) (locs : List Loc) (pc : Nat) (ls : Array Slot), some v0 = some r0 → va_P G.1 vwCl [(A_a0, .inr (4, [.int v_a0_lands, .int v_a0_wide, .int v_a0_pace, .int v_a0_age, .int v_a0_slits, .int v_a0_slitA, .int v_a0_slitB]))] H → va_S A s.heap H locs → decode cX4_darkAt pc = .ok (.ireturn, 1) → narrow .int (.int v0) = .int v0 → W p l e rmX4_darkAt s m args below meth c H locs 0 0 Q (F0 m pc ls [.int v0]) := by
    intro v0 u H locs pc ls hz
    cases hz
    exact ret u H locs pc ls
  unfold f_X4_darkAt at h
  refine lv_aload_n hx hb dX4_darkAt_0 rfl (lv_at hl 0 rfl) ?_
  refine lv_iload_n hx hb dX4_darkAt_1 rfl (lv_at hl 1 rfl) ?_
  obtain ⟨x1, h2, h⟩ := rs_b1s h
  have h := h _ rfl
  refine rs_callVi (As := [.int p1]) (rest := []) ⟨hx, hb, hml, hown, hts⟩ (c_X4_firstAt l G A_a0 v_a0_lands v_a0_wide v_a0_pace v_a0_age v_a0_slits v_a0_slitA v_a0_slitB p1 x1 h2) (cwV 1 hts gX4_darkAt_X4_firstAt rfl rfl rfl (by decide +kernel) ⟨Nat.le_of_ble_eq_true rfl, Nat.le_of_ble_eq_true rfl⟩) dX4_darkAt_2 hK hP hD hS hA [0] rfl (by decide) rfl rfl (q0 := 0) (ci := 4) rfl rfl rfl hl.1 (lv_room (Nat.le_of_ble_eq_true rfl)) ⟨Nat.zero_le _, Nat.zero_le _⟩ (fun (_ : Unit) => [(A_a0, .inr (4, [.int v_a0_lands, .int v_a0_wide, .int v_a0_pace, .int v_a0_age, .int v_a0_slits, .int v_a0_slitA, .int v_a0_slitB]))]) (fun _ => rfl) (fun _ => rfl) (fun u2 H locs hP hD hS => ?_)
  refine lv_istore_n (lv' := [(2, .int x1), (0, .ref A_a0), (1, .int p1)]) hx hb dX4_darkAt_5 rfl hl (by decide) rfl (fun ls hl => ?_)
  refine lv_iconst (v := 0) hx hb dX4_darkAt_6 (by decide) ?_
  refine lv_istore_n (lv' := [(3, .int 0), (2, .int x1), (0, .ref A_a0), (1, .int p1)]) hx hb dX4_darkAt_7 rfl hl (by decide) rfl (fun ls hl => ?_)
  refine lv_iload_n hx hb dX4_darkAt_8 rfl (lv_at hl 1 rfl) ?_
  refine lv_istore (lv' := [(4, .int x1), (3, .int 0), (2, .int x1), (0, .ref A_a0), (1, .int p1)]) hx hb dX4_darkAt_9 hl (by decide) rfl (fun ls hl => ?_)
  obtain ⟨X17, hX17, h⟩ := rs_b1s h
  have J17 : ∀ (x18 : Int32), X17 = x18 → ∀  (H : Heap) (locs : List Loc) (ls : Array Slot), va_P G.1 vwCl [(A_a0, .inr (4, [.int v_a0_lands, .int v_a0_wide, .int v_a0_pace, .int v_a0_age, .int v_a0_slits, .int v_a0_slitA, .int v_a0_slitB]))] H → va_D A [(A_a0, .inr (4, [.int v_a0_lands, .int v_a0_wide, .int v_a0_pace, .int v_a0_age, .int v_a0_slits, .int v_a0_slitA, .int v_a0_slitB]))] → va_S A s.heap H locs → lv_has ls 5 [(3, .int x18)] → W p l e rmX4_darkAt s m args below meth c H locs 0 0 Q (F0 m 45 ls []) := by
    intro x18 hz  H locs ls hP hD hS hl
    have h := h _ hz
    refine lv_iload_n hx hb dX4_darkAt_45 rfl (lv_at hl 0 rfl) ?_
    exact ret _ () _ _ _ _ h hP hS dX4_darkAt_46 rfl
  refine rs_l2W (Wd := fun (x9 : Int32) (x10 : Int32) => ∀  (H : Heap) (locs : List Loc) (ls : Array Slot), va_P G.1 vwCl [(A_a0, .inr (4, [.int v_a0_lands, .int v_a0_wide, .int v_a0_pace, .int v_a0_age, .int v_a0_slits, .int v_a0_slitA, .int v_a0_slitB]))] H → va_D A [(A_a0, .inr (4, [.int v_a0_lands, .int v_a0_wide, .int v_a0_pace, .int v_a0_age, .int v_a0_slits, .int v_a0_slitA, .int v_a0_slitB]))] → va_S A s.heap H locs → lv_has ls 5 [(0, .ref A_a0), (1, .int p1), (2, .int x1), (3, .int x9), (4, .int x10)] → W p l e rmX4_darkAt s m args below meth c H locs 0 0 Q (F0 m 11 ls [])) ?_ N 0 x1 hX17 _ _ _ hP hD hS (lv_sub hl [3, 4, 2, 1, 0] rfl)
  intro x9 x10 o17 h K17 L17  H locs ls hP hD hS hl
  unfold f_X4_darkAt_L11 at h
  refine lv_iload hx hb dX4_darkAt_11 (lv_at hl 4 rfl) ?_
  refine lv_iload_n hx hb dX4_darkAt_13 rfl (lv_at hl 2 rfl) ?_
  refine lv_aload_n hx hb dX4_darkAt_14 rfl (lv_at hl 0 rfl) ?_
  refine va_get (D := G.1) (ci := 4) (v := .int v_a0_wide) (C := RX4) (T := TX4) (N := 7) hx hb hts uX4_darkAt_4 hown hK.1 hP 0 rfl rfl 1 (by decide) (hts (.fieldLink RX4 15 "RingShadow$Shadow" "wide" "I") (List.mem_of_getElem? (i := 1) rfl)) (fun _ h9 => h9) rfl dX4_darkAt_15 ?_
  refine lv_iadd hx hb dX4_darkAt_18 ?_
  refine lv_icmp_ge (tgt := 45) hx hb dX4_darkAt_19 (by decide) (fun hc => ?_) (fun hc => ?_)
  · have h := rs_pos hc h
    exact J17 _ (L17 _ (Option.some.inj h).symm) _ _ _ hP hD hS (lv_sub hl [3] rfl)
  have h := rs_neg hc h
  refine lv_aload_n hx hb dX4_darkAt_22 rfl (lv_at hl 0 rfl) ?_
  refine lv_iload hx hb dX4_darkAt_23 (lv_at hl 4 rfl) ?_
  refine lv_iload_n hx hb dX4_darkAt_25 rfl (lv_at hl 1 rfl) ?_
  obtain ⟨x19, h20, h⟩ := rs_b1s h
  have h := h _ rfl
  refine rs_callVi (As := [.int x10, .int p1]) (rest := []) ⟨hx, hb, hml, hown, hts⟩ (c_X4_hasSlit l G A_a0 v_a0_lands v_a0_wide v_a0_pace v_a0_age v_a0_slits v_a0_slitA v_a0_slitB x10 p1 x19 h20) (cwV 2 hts gX4_darkAt_X4_hasSlit rfl rfl rfl (by decide +kernel) ⟨Nat.le_of_ble_eq_true rfl, Nat.le_of_ble_eq_true rfl⟩) dX4_darkAt_26 hK hP hD hS hA [0] rfl (by decide) rfl rfl (q0 := 0) (ci := 4) rfl rfl rfl hl.1 (lv_room (Nat.le_of_ble_eq_true rfl)) ⟨Nat.zero_le _, Nat.zero_le _⟩ (fun (_ : Unit) => [(A_a0, .inr (4, [.int v_a0_lands, .int v_a0_wide, .int v_a0_pace, .int v_a0_age, .int v_a0_slits, .int v_a0_slitA, .int v_a0_slitB]))]) (fun _ => rfl) (fun _ => rfl) (fun u20 H locs hP hD hS => ?_)
  obtain ⟨X23, hX23, h⟩ := rs_b1s h
  have J23 : ∀ (x22 : Int32), X23 = x22 → ∀ (H : Heap) (locs : List Loc) (ls : Array Slot), va_P G.1 vwCl [(A_a0, .inr (4, [.int v_a0_lands, .int v_a0_wide, .int v_a0_pace, .int v_a0_age, .int v_a0_slits, .int v_a0_slitA, .int v_a0_slitB]))] H → va_D A [(A_a0, .inr (4, [.int v_a0_lands, .int v_a0_wide, .int v_a0_pace, .int v_a0_age, .int v_a0_slits, .int v_a0_slitA, .int v_a0_slitB]))] → va_S A s.heap H locs → lv_has ls 5 [(0, .ref A_a0), (1, .int p1), (2, .int x1), (3, .int x22), (4, .int x10)] → W p l e rmX4_darkAt s m args below meth c H locs 0 0 Q (F0 m 39 ls []) := by
    intro x22 hz H locs ls hP hD hS hl
    have h := h _ hz
    refine lv_iinc (v := (x10 + 1)) (lv' := [(4, .int (x10 + 1)), (0, .ref A_a0), (1, .int p1), (2, .int x1), (3, .int x22)]) hx hb dX4_darkAt_39 hl (k := 4) rfl (by first | rfl | decide) (by decide) rfl (fun ls hl => ?_)
    refine lv_goto (tgt := 11) hx hb dX4_darkAt_42 (by decide) ?_
    exact K17 _ _ (Option.some.inj h).symm _ _ _ hP hD hS (lv_sub hl [1, 2, 3, 4, 0] rfl)
  have h := hX23
  refine lv_if_ne (tgt := 39) hx hb dX4_darkAt_29 (by decide) (fun hc => ?_) (fun hc => ?_)
  · have h := rs_neg hc h
    exact J23 _ (Option.some.inj h).symm _ _ _ hP hD hS (lv_sub hl [0, 1, 2, 3, 4] rfl)
  have h := rs_pos hc h
  refine lv_iload_n hx hb dX4_darkAt_32 rfl (lv_at hl 3 rfl) ?_
  refine lv_iconst (v := 1) hx hb dX4_darkAt_33 (by decide) ?_
  refine lv_iload hx hb dX4_darkAt_34 (lv_at hl 4 rfl) ?_
  refine lv_ishl hx hb dX4_darkAt_36 ?_
  refine lv_ior hx hb dX4_darkAt_37 ?_
  refine rs_topi h (fun x24 h => ?_)
  refine lv_istore_n (lv' := [(3, .int x24), (0, .ref A_a0), (1, .int p1), (2, .int x1), (4, .int x10)]) hx hb dX4_darkAt_38 rfl hl (by decide) rfl (fun ls hl => ?_)
  exact J23 _ (Option.some.inj h).symm _ _ _ hP hD hS (lv_sub hl [1, 2, 3, 0, 4] rfl)
abbrev rmX10_greatestDivisor : Room := { frames := 0, cells := 0, slots := 0, locals := 0 }
set_option maxRecDepth 100000 in
set_option maxHeartbeats 4000000 in
theorem c_X10_greatestDivisor (l : Launch) (G : rs_G) (p0 : Int64) (p1 : Int64) (N : Nat) (r0 : Int64) (h : f_X10_greatestDivisor N p0 p1 = some r0) : rs_Cl l yX10_greatestDivisor wsX10_greatestDivisor rmX10_greatestDivisor G [.long p0, .long p1] [] (fun (_ : Unit) => []) r0 := by
  refine rs_enter_l (cc := cX10_greatestDivisor) (maxL := 7) (by decide) rfl (Nat.le_of_ble_eq_true rfl) (fun p e s m args below meth c A Q ls E ret hP hD hS hA hl => ?_)
  obtain ⟨hx, hb, hml, hown, hts, hK⟩ := E
  have hown : s.vm.findClass RX10 = some m.cls := hown
  have hl : lv_has ls 7 [(0, .long p0), (2, .long p1)] := hl
  have ret : ∀ (v0 : Int64) (u : Unit) (H : Heap) (locs : List Loc) (pc : Nat) (ls : Array Slot), some v0 = some r0 → va_P G.1 vwCl [] H → va_S A s.heap H locs → decode cX10_greatestDivisor pc = .ok (.lreturn, 1) → W p l e rmX10_greatestDivisor s m args below meth c H locs 0 0 Q (F0 m pc ls [.long v0]) := by
    intro v0 u H locs pc ls hz
    cases hz
    exact ret u H locs pc ls
  unfold f_X10_greatestDivisor at h
  refine lv_iconst (v := 0) hx hb dX10_greatestDivisor_0 (by decide) ?_
  refine lv_istore (lv' := [(4, .int 0), (0, .long p0), (2, .long p1)]) hx hb dX10_greatestDivisor_1 hl (by decide) rfl (fun ls hl => ?_)
  obtain ⟨X6, hX6, h⟩ := rs_b1s h
  have J6 : ∀ (x7 : Int64), X6 = x7 → ∀  (H : Heap) (locs : List Loc) (ls : Array Slot), va_P G.1 vwCl [] H → va_D A [] → va_S A s.heap H locs → lv_has ls 7 [(0, .long x7)] → W p l e rmX10_greatestDivisor s m args below meth c H locs 0 0 Q (F0 m 32 ls []) := by
    intro x7 hz  H locs ls hP hD hS hl
    have h := h _ hz
    refine lv_lload_n hx hb dX10_greatestDivisor_32 rfl (lv_at hl 0 rfl) ?_
    exact ret _ () _ _ _ _ h hP hS dX10_greatestDivisor_33
  refine rs_l3W (Wd := fun (x2 : Int64) (x3 : Int64) (x4 : Int32) => ∀  (H : Heap) (locs : List Loc) (ls : Array Slot), va_P G.1 vwCl [] H → va_D A [] → va_S A s.heap H locs → lv_has ls 7 [(0, .long x2), (2, .long x3), (4, .int x4)] → W p l e rmX10_greatestDivisor s m args below meth c H locs 0 0 Q (F0 m 3 ls [])) ?_ N p0 p1 0 hX6 _ _ _ hP hD hS (lv_sub hl [1, 2, 0] rfl)
  intro x2 x3 x4 o6 h K6 L6  H locs ls hP hD hS hl
  unfold f_X10_greatestDivisor_L3 at h
  refine lv_iload hx hb dX10_greatestDivisor_3 (lv_at hl 2 rfl) ?_
  refine lv_bipush (v := 100) hx hb dX10_greatestDivisor_5 (by decide) ?_
  refine lv_icmp_ge (tgt := 32) hx hb dX10_greatestDivisor_7 (by decide) (fun hc => ?_) (fun hc => ?_)
  · have h := rs_pos hc h
    exact J6 _ (L6 _ (Option.some.inj h).symm) _ _ _ hP hD hS (lv_sub hl [0] rfl)
  have h := rs_neg hc h
  refine lv_lload_n hx hb dX10_greatestDivisor_10 rfl (lv_at hl 1 rfl) ?_
  refine lv_lconst (v := 0) hx hb dX10_greatestDivisor_11 (by decide) ?_
  refine W.lcmp hx hb dX10_greatestDivisor_12 ?_
  refine lv_if_eq (tgt := 32) hx hb dX10_greatestDivisor_13 (by decide) (fun hc => ?_) (fun hc => ?_)
  · have h := rs_pos hc h
    exact J6 _ (L6 _ (Option.some.inj h).symm) _ _ _ hP hD hS (lv_sub hl [0] rfl)
  have h := rs_neg hc h
  refine lv_lload_n hx hb dX10_greatestDivisor_16 rfl (lv_at hl 0 rfl) ?_
  refine lv_lload_n hx hb dX10_greatestDivisor_17 rfl (lv_at hl 1 rfl) ?_
  obtain ⟨hg, h⟩ := rs_gd h
  refine lv_lrem hx hb dX10_greatestDivisor_18 hg ?_
  refine rs_topl h (fun x8 h => ?_)
  refine lv_lstore (lv' := [(5, .long x8), (0, .long x2), (2, .long x3), (4, .int x4)]) hx hb dX10_greatestDivisor_19 hl (by decide) rfl (fun ls hl => ?_)
  refine lv_lload_n hx hb dX10_greatestDivisor_21 rfl (lv_at hl 2 rfl) ?_
  refine lv_lstore_n (lv' := [(0, .long x3), (5, .long x8), (2, .long x3), (4, .int x4)]) hx hb dX10_greatestDivisor_22 rfl hl (by decide) rfl (fun ls hl => ?_)
  refine lv_lload hx hb dX10_greatestDivisor_23 (lv_at hl 1 rfl) ?_
  refine lv_lstore_n (lv' := [(2, .long x8), (0, .long x3), (5, .long x8), (4, .int x4)]) hx hb dX10_greatestDivisor_25 rfl hl (by decide) rfl (fun ls hl => ?_)
  refine lv_iinc (v := (x4 + 1)) (lv' := [(4, .int (x4 + 1)), (2, .long x8), (0, .long x3), (5, .long x8)]) hx hb dX10_greatestDivisor_26 hl (k := 3) rfl (by first | rfl | decide) (by decide) rfl (fun ls hl => ?_)
  refine lv_goto (tgt := 3) hx hb dX10_greatestDivisor_29 (by decide) ?_
  exact K6 _ _ _ (Option.some.inj h).symm _ _ _ hP hD hS (lv_sub hl [2, 1, 0] rfl)
abbrev rmX10_cut : Room := { frames := 0, cells := 0, slots := 0, locals := 0 }
set_option maxRecDepth 100000 in
set_option maxHeartbeats 4000000 in
theorem c_X10_cut (l : Launch) (G : rs_G) (p0 : Int32) (p1 : Int32) (r0 : Int32) (h : f_X10_cut p0 p1 = some r0) : rs_Ci l yX10_cut wsX10_cut rmX10_cut G [.int p0, .int p1] [] (fun (_ : Unit) => []) r0 := by
  refine rs_enter_i (cc := cX10_cut) (maxL := 2) (ty := .int) (by decide) rfl (Nat.le_of_ble_eq_true rfl) (fun p e s m args below meth c A Q ls E ret hP hD hS hA hl => ?_)
  obtain ⟨hx, hb, hml, hown, hts, hK⟩ := E
  have hown : s.vm.findClass RX10 = some m.cls := hown
  have hl : lv_has ls 2 [(0, .int p0), (1, .int p1)] := hl
  have ret : ∀ (v0 : Int32) (u : Unit) (H : Heap) (locs : List Loc) (pc : Nat) (ls : Array Slot), some v0 = some r0 → va_P G.1 vwCl [] H → va_S A s.heap H locs → decode cX10_cut pc = .ok (.ireturn, 1) → narrow .int (.int v0) = .int v0 → W p l e rmX10_cut s m args below meth c H locs 0 0 Q (F0 m pc ls [.int v0]) := by
    intro v0 u H locs pc ls hz
    cases hz
    exact ret u H locs pc ls
  unfold f_X10_cut at h
  refine lv_iload_n hx hb dX10_cut_0 rfl (lv_at hl 1 rfl) ?_
  refine lv_if_ne (tgt := 8) hx hb dX10_cut_1 (by decide) (fun hc => ?_) (fun hc => ?_)
  · have h := rs_neg hc h
    refine lv_iload_n hx hb dX10_cut_8 rfl (lv_at hl 0 rfl) ?_
    refine lv_iload_n hx hb dX10_cut_9 rfl (lv_at hl 1 rfl) ?_
    obtain ⟨hg, h⟩ := rs_gd h
    refine lv_idiv hx hb dX10_cut_10 hg ?_
    exact ret _ () _ _ _ _ h hP hS dX10_cut_11 rfl
  have h := rs_pos hc h
  refine lv_iconst (v := 0) hx hb dX10_cut_4 (by decide) ?_
  refine lv_goto (tgt := 11) hx hb dX10_cut_5 (by decide) ?_
  exact ret _ () _ _ _ _ h hP hS dX10_cut_11 rfl
theorem uX4_period_4 : ∀ w ∈ wsX40, w ∈ wsX4_period := fun _ h => List.mem_cons_of_mem _ (List.mem_append_right _ h)
abbrev rmX4_period : Room := { frames := 1, cells := 0, slots := 0, locals := 26 }
set_option maxRecDepth 100000 in
set_option maxHeartbeats 4000000 in
theorem c_X4_period (l : Launch) (G : rs_G) (A_a0 : Nat) (v_a0_lands : Int32) (v_a0_wide : Int32) (v_a0_pace : Int32) (v_a0_age : Int32) (v_a0_slits : Int32) (v_a0_slitA : Int32) (v_a0_slitB : Int32) (N : Nat) (r0 : Int32) (h : f_X4_period N v_a0_lands v_a0_wide v_a0_pace v_a0_slits = some r0) : rs_Ci l yX4_period wsX4_period rmX4_period G [.ref A_a0] [(A_a0, .inr (4, [.int v_a0_lands, .int v_a0_wide, .int v_a0_pace, .int v_a0_age, .int v_a0_slits, .int v_a0_slitA, .int v_a0_slitB]))] (fun (_ : Unit) => [(A_a0, .inr (4, [.int v_a0_lands, .int v_a0_wide, .int v_a0_pace, .int v_a0_age, .int v_a0_slits, .int v_a0_slitA, .int v_a0_slitB]))]) r0 := by
  refine rs_enter_i (cc := cX4_period) (maxL := 2) (ty := .int) (by decide) rfl (Nat.le_of_ble_eq_true rfl) (fun p e s m args below meth c A Q ls E ret hP hD hS hA hl => ?_)
  obtain ⟨hx, hb, hml, hown, hts, hK⟩ := E
  have hown : s.vm.findClass RX4 = some m.cls := hown
  have hl : lv_has ls 2 [(0, .ref A_a0)] := hl
  have ret : ∀ (v0 : Int32) (u : Unit) (H : Heap) (locs : List Loc) (pc : Nat) (ls : Array Slot), some v0 = some r0 → va_P G.1 vwCl [(A_a0, .inr (4, [.int v_a0_lands, .int v_a0_wide, .int v_a0_pace, .int v_a0_age, .int v_a0_slits, .int v_a0_slitA, .int v_a0_slitB]))] H → va_S A s.heap H locs → decode cX4_period pc = .ok (.ireturn, 1) → narrow .int (.int v0) = .int v0 → W p l e rmX4_period s m args below meth c H locs 0 0 Q (F0 m pc ls [.int v0]) := by
    intro v0 u H locs pc ls hz
    cases hz
    exact ret u H locs pc ls
  unfold f_X4_period at h
  refine lv_aload_n hx hb dX4_period_0 rfl (lv_at hl 0 rfl) ?_
  obtain ⟨x1, h2, h⟩ := rs_b1s h
  have h := h _ rfl
  refine rs_callVi (As := []) (rest := []) ⟨hx, hb, hml, hown, hts⟩ (c_X4_turn l G A_a0 v_a0_lands v_a0_wide v_a0_pace v_a0_age v_a0_slits v_a0_slitA v_a0_slitB x1 h2) (cwV 0 hts gX4_period_X4_turn rfl rfl rfl (by decide +kernel) ⟨Nat.le_of_ble_eq_true rfl, Nat.le_of_ble_eq_true rfl⟩) dX4_period_1 hK hP hD hS hA [0] rfl (by decide) rfl rfl (q0 := 0) (ci := 4) rfl rfl rfl hl.1 (lv_room (Nat.le_of_ble_eq_true rfl)) ⟨Nat.zero_le _, Nat.zero_le _⟩ (fun (_ : Unit) => [(A_a0, .inr (4, [.int v_a0_lands, .int v_a0_wide, .int v_a0_pace, .int v_a0_age, .int v_a0_slits, .int v_a0_slitA, .int v_a0_slitB]))]) (fun _ => rfl) (fun _ => rfl) (fun u2 H locs hP hD hS => ?_)
  refine lv_aload_n hx hb dX4_period_4 rfl (lv_at hl 0 rfl) ?_
  refine va_get (D := G.1) (ci := 4) (v := .int v_a0_pace) (C := RX4) (T := TX4) (N := 7) hx hb hts uX4_period_4 hown hK.1 hP 0 rfl rfl 2 (by decide) (hts (.fieldLink RX4 18 "RingShadow$Shadow" "pace" "I") (List.mem_of_getElem? (i := 1) rfl)) (fun _ h9 => h9) rfl dX4_period_5 ?_
  refine lv_imul hx hb dX4_period_8 ?_
  refine rs_topi h (fun x3 h => ?_)
  refine lv_istore_n (lv' := [(1, .int x3), (0, .ref A_a0)]) hx hb dX4_period_9 rfl hl (by decide) rfl (fun ls hl => ?_)
  refine lv_aload_n hx hb dX4_period_10 rfl (lv_at hl 1 rfl) ?_
  refine va_get (D := G.1) (ci := 4) (v := .int v_a0_slits) (C := RX4) (T := TX4) (N := 7) hx hb hts uX4_period_4 hown hK.1 hP 0 rfl rfl 4 (by decide) (hts (.fieldLink RX4 24 "RingShadow$Shadow" "slits" "I") (List.mem_of_getElem? (i := 2) rfl)) (fun _ h9 => h9) rfl dX4_period_11 ?_
  refine lv_if_ne (tgt := 21) hx hb dX4_period_14 (by decide) (fun hc => ?_) (fun hc => ?_)
  · have h := rs_neg hc h
    refine lv_iload_n hx hb dX4_period_21 rfl (lv_at hl 0 rfl) ?_
    refine lv_aload_n hx hb dX4_period_22 rfl (lv_at hl 1 rfl) ?_
    refine va_get (D := G.1) (ci := 4) (v := .int v_a0_slits) (C := RX4) (T := TX4) (N := 7) hx hb hts uX4_period_4 hown hK.1 hP 0 rfl rfl 4 (by decide) (hts (.fieldLink RX4 24 "RingShadow$Shadow" "slits" "I") (List.mem_of_getElem? (i := 2) rfl)) (fun _ h9 => h9) rfl dX4_period_23 ?_
    refine lv_iload_n hx hb dX4_period_26 rfl (lv_at hl 0 rfl) ?_
    refine lv_i2l (v := (x3.toInt64)) hx hb dX4_period_27 rfl ?_
    refine lv_aload_n hx hb dX4_period_28 rfl (lv_at hl 1 rfl) ?_
    refine va_get (D := G.1) (ci := 4) (v := .int v_a0_slits) (C := RX4) (T := TX4) (N := 7) hx hb hts uX4_period_4 hown hK.1 hP 0 rfl rfl 4 (by decide) (hts (.fieldLink RX4 24 "RingShadow$Shadow" "slits" "I") (List.mem_of_getElem? (i := 2) rfl)) (fun _ h9 => h9) rfl dX4_period_29 ?_
    refine lv_i2l (v := (v_a0_slits.toInt64)) hx hb dX4_period_32 rfl ?_
    obtain ⟨x4, h5, h⟩ := rs_b1s h
    have h := h _ rfl
    refine rs_callNl (As := [.long (x3.toInt64), .long (v_a0_slits.toInt64)]) (rest := [.int v_a0_slits, .int x3]) ⟨hx, hb, hml, hown, hts⟩ (c_X10_greatestDivisor l G (x3.toInt64) (v_a0_slits.toInt64) N x4 h5) ⟨va_cnB 2 hts gX4_period_X10_greatestDivisor_n51 rfl rfl rfl (rs_nw8 hK.2.1) (hts (.initialized RX10) (List.mem_of_getElem? (i := 11) rfl)) (by decide +kernel) ⟨Nat.le_of_ble_eq_true rfl, Nat.le_of_ble_eq_true rfl⟩, (hts (.static yX10_greatestDivisor) (List.mem_of_getElem? (i := 10) rfl)), trivial⟩ dX4_period_33 hK hP hD hS hA [] rfl (by decide) rfl rfl hl.1 (lv_room (Nat.le_of_ble_eq_true rfl)) ⟨Nat.zero_le _, Nat.zero_le _⟩ (fun (_ : Unit) => [(A_a0, .inr (4, [.int v_a0_lands, .int v_a0_wide, .int v_a0_pace, .int v_a0_age, .int v_a0_slits, .int v_a0_slitA, .int v_a0_slitB]))]) (fun _ => rfl) (fun _ => rfl) (fun u5 H locs hP hD hS => ?_)
    refine lv_l2i (v := (x4.toInt32)) hx hb dX4_period_36 rfl ?_
    obtain ⟨x6, h7, h⟩ := rs_b1s h
    have h := h _ rfl
    refine rs_callNi (As := [.int v_a0_slits, .int (x4.toInt32)]) (rest := [.int x3]) ⟨hx, hb, hml, hown, hts⟩ (c_X10_cut l G v_a0_slits (x4.toInt32) x6 h7) ⟨va_cnB 2 hts gX4_period_X10_cut_n55 rfl rfl rfl (rs_nw9 hK.2.1) (hts (.initialized RX10) (List.mem_of_getElem? (i := 11) rfl)) (by decide +kernel) ⟨Nat.le_of_ble_eq_true rfl, Nat.le_of_ble_eq_true rfl⟩, (hts (.static yX10_cut) (List.mem_of_getElem? (i := 13) rfl)), trivial⟩ dX4_period_37 hK hP hD hS hA [] rfl (by decide) rfl rfl hl.1 (lv_room (Nat.le_of_ble_eq_true rfl)) ⟨Nat.zero_le _, Nat.zero_le _⟩ (fun (_ : Unit) => [(A_a0, .inr (4, [.int v_a0_lands, .int v_a0_wide, .int v_a0_pace, .int v_a0_age, .int v_a0_slits, .int v_a0_slitA, .int v_a0_slitB]))]) (fun _ => rfl) (fun _ => rfl) (fun u7 H locs hP hD hS => ?_)
    refine lv_imul hx hb dX4_period_40 ?_
    exact ret _ () _ _ _ _ h hP hS dX4_period_41 rfl
  have h := rs_pos hc h
  refine lv_iload_n hx hb dX4_period_17 rfl (lv_at hl 0 rfl) ?_
  refine lv_goto (tgt := 41) hx hb dX4_period_18 (by decide) ?_
  exact ret _ () _ _ _ _ h hP hS dX4_period_41 rfl
