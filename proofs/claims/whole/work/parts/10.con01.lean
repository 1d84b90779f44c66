theorem uX1_takeAges_1 : ∀ w ∈ wsX10, w ∈ wsX1_takeAges := fun _ h => List.mem_cons_of_mem _ (List.mem_append_left _ (List.mem_append_left _ (List.mem_append_right _ h)))
theorem uX1_takeAges_4 : ∀ w ∈ wsX40, w ∈ wsX1_takeAges := fun _ h => List.mem_cons_of_mem _ (List.mem_append_left _ (List.mem_append_right _ h))
abbrev rmX1_takeAges : Room := { frames := 3, cells := 0, slots := 0, locals := 68 }
set_option maxRecDepth 100000 in
set_option maxHeartbeats 4000000 in
theorem c_X1_takeAges (l : Launch) (G : rs_G) (A_a0 : Nat) (A_a1 : Nat) (A_a0_trial : Nat) (A_a0_covering : Nat) (A_a1_lands : Nat) (A_a1_years : Nat) (A_a1_covers : Nat) (v_a0_count : Int32) (v_a0_law : Int32) (v_a0_trial_lands : Int32) (v_a0_trial_wide : Int32) (v_a0_trial_pace : Int32) (v_a0_trial_age : Int32) (v_a0_trial_slits : Int32) (v_a0_trial_slitA : Int32) (v_a0_trial_slitB : Int32) (v_a1_count : Int32) (v_a1_lands : (Nat → Int32)) (v_a1_years : (Nat → Int32)) (v_a1_covers : (Nat → Int32)) (v_a0_covering : (Nat → Int32)) (p2 : Int32) (p3 : Int32) (N : Nat) (o0 : Int32) (o1 : Int32) (o2 : Int32) (o3 : (Nat → Int32)) (h : f_X1_takeAges N p2 p3 v_a0_count v_a0_law v_a0_trial_lands v_a0_trial_wide v_a0_trial_pace v_a0_trial_age v_a1_count v_a1_lands v_a1_years v_a1_covers v_a0_covering = some (o0, o1, o2, o3)) : rs_Cv l yX1_takeAges wsX1_takeAges rmX1_takeAges G [.ref A_a0, .ref A_a1, .int p2, .int p3] [(A_a0, .inr (1, [.ref A_a0_trial, .ref A_a0_covering, .int v_a0_count, .int v_a0_law])), (A_a0_trial, .inr (4, [.int v_a0_trial_lands, .int v_a0_trial_wide, .int v_a0_trial_pace, .int v_a0_trial_age, .int v_a0_trial_slits, .int v_a0_trial_slitA, .int v_a0_trial_slitB])), (A_a1, .inr (5, [.ref A_a1_lands, .ref A_a1_years, .ref A_a1_covers, .int v_a1_count])), (A_a1_lands, .inl (G.2.1, 8, .inl v_a1_lands)), (A_a1_years, .inl (G.2.1, 8, .inl v_a1_years)), (A_a1_covers, .inl (G.2.1, 8, .inl v_a1_covers)), (A_a0_covering, .inl (G.2.1, 9, .inl v_a0_covering))] (fun (_ : Unit) => [(A_a0, .inr (1, [.ref A_a0_trial, .ref A_a0_covering, .int o0, .int o1])), (A_a0_trial, .inr (4, [.int v_a0_trial_lands, .int v_a0_trial_wide, .int v_a0_trial_pace, .int o2, .int v_a0_trial_slits, .int v_a0_trial_slitA, .int v_a0_trial_slitB])), (A_a1, .inr (5, [.ref A_a1_lands, .ref A_a1_years, .ref A_a1_covers, .int v_a1_count])), (A_a1_lands, .inl (G.2.1, 8, .inl v_a1_lands)), (A_a1_years, .inl (G.2.1, 8, .inl v_a1_years)), (A_a1_covers, .inl (G.2.1, 8, .inl v_a1_covers)), (A_a0_covering, .inl (G.2.1, 9, .inl o3))]) := by
  refine rs_enter_v (cc := cX1_takeAges) (maxL := 6) (by decide) rfl (Nat.le_of_ble_eq_true rfl) (fun p e s m args below meth c A Q ls E ret hP hD hS hA hl => ?_)
  obtain ⟨hx, hb, hml, hown, hts, hK⟩ := E
  have hown : s.vm.findClass RX1 = some m.cls := hown
  have hl : lv_has ls 6 [(0, .ref A_a0), (1, .ref A_a1), (2, .int p2), (3, .int p3)] := hl
  have ret : ∀ (w0 : Int32) (w1 : Int32) (w2 : Int32) (w3 : (Nat → Int32)) (u : Unit) (H : Heap) (locs : List Loc) (pc : Nat) (ls : Array Slot), some (w0, w1, w2, w3) = some (o0, o1, o2, o3) → va_P G.1 vwCl [(A_a0, .inr (1, [.ref A_a0_trial, .ref A_a0_covering, .int w0, .int w1])), (A_a0_trial, .inr (4, [.int v_a0_trial_lands, .int v_a0_trial_wide, .int v_a0_trial_pace, .int w2, .int v_a0_trial_slits, .int v_a0_trial_slitA, .int v_a0_trial_slitB])), (A_a1, .inr (5, [.ref A_a1_lands, .ref A_a1_years, .ref A_a1_covers, .int v_a1_count])), (A_a1_lands, .inl (G.2.1, 8, .inl v_a1_lands)), (A_a1_years, .inl (G.2.1, 8, .inl v_a1_years)), (A_a1_covers, .inl (G.2.1, 8, .inl v_a1_covers)), (A_a0_covering, .inl (G.2.1, 9, .inl w3))] H → va_S A s.heap H locs → decode cX1_takeAges pc = .ok (.return_, 1) → W p l e rmX1_takeAges s m args below meth c H locs 0 0 Q (F0 m pc ls []) := by
    intro w0 w1 w2 w3 u H locs pc ls hz
    cases hz
    exact ret u H locs pc ls
  unfold f_X1_takeAges at h
  refine lv_aload_n hx hb dX1_takeAges_0 rfl (lv_at hl 0 rfl) ?_
  refine va_get (D := G.1) (ci := 1) (v := .ref A_a0_trial) (C := RX1) (T := TX1) (N := 4) hx hb hts uX1_takeAges_1 hown hK.1 hP 0 rfl rfl 0 (by decide) (hts (.fieldLink RX1 12 "RingShadow$Census" "trial" "LRingShadow$Shadow;") (List.mem_of_getElem? (i := 1) rfl)) (fun _ h9 => h9) rfl dX1_takeAges_1 ?_
  obtain ⟨x1, h2, h⟩ := rs_b1s h
  have h := h _ rfl
  refine rs_callVi (As := []) (rest := []) ⟨hx, hb, hml, hown, hts⟩ (c_X4_turn l G A_a0_trial v_a0_trial_lands v_a0_trial_wide v_a0_trial_pace v_a0_trial_age v_a0_trial_slits v_a0_trial_slitA v_a0_trial_slitB x1 h2) (cwV 0 hts gX1_takeAges_X4_turn rfl rfl rfl (by decide +kernel) ⟨Nat.le_of_ble_eq_true rfl, Nat.le_of_ble_eq_true rfl⟩) dX1_takeAges_4 hK hP hD hS hA [1] rfl (by decide) rfl rfl (q0 := 0) (ci := 4) rfl rfl rfl hl.1 (lv_room (Nat.le_of_ble_eq_true rfl)) ⟨Nat.zero_le _, Nat.zero_le _⟩ (fun (_ : Unit) => [(A_a0, .inr (1, [.ref A_a0_trial, .ref A_a0_covering, .int v_a0_count, .int v_a0_law])), (A_a0_trial, .inr (4, [.int v_a0_trial_lands, .int v_a0_trial_wide, .int v_a0_trial_pace, .int v_a0_trial_age, .int v_a0_trial_slits, .int v_a0_trial_slitA, .int v_a0_trial_slitB])), (A_a1, .inr (5, [.ref A_a1_lands, .ref A_a1_years, .ref A_a1_covers, .int v_a1_count])), (A_a1_lands, .inl (G.2.1, 8, .inl v_a1_lands)), (A_a1_years, .inl (G.2.1, 8, .inl v_a1_years)), (A_a1_covers, .inl (G.2.1, 8, .inl v_a1_covers)), (A_a0_covering, .inl (G.2.1, 9, .inl v_a0_covering))]) (fun _ => rfl) (fun _ => rfl) (fun u2 H locs hP hD hS => ?_)
  refine lv_aload_n hx hb dX1_takeAges_7 rfl (lv_at hl 0 rfl) ?_
  refine va_get (D := G.1) (ci := 1) (v := .ref A_a0_trial) (C := RX1) (T := TX1) (N := 4) hx hb hts uX1_takeAges_1 hown hK.1 hP 0 rfl rfl 0 (by decide) (hts (.fieldLink RX1 12 "RingShadow$Census" "trial" "LRingShadow$Shadow;") (List.mem_of_getElem? (i := 1) rfl)) (fun _ h9 => h9) rfl dX1_takeAges_8 ?_
  refine va_get (D := G.1) (ci := 4) (v := .int v_a0_trial_pace) (C := RX4) (T := TX4) (N := 7) hx hb hts uX1_takeAges_4 hown hK.1 hP 1 rfl rfl 2 (by decide) (hts (.fieldLink RX1 44 "RingShadow$Shadow" "pace" "I") (List.mem_of_getElem? (i := 2) rfl)) (fun _ h9 => h9) rfl dX1_takeAges_11 ?_
  refine lv_imul hx hb dX1_takeAges_14 ?_
  refine lv_bipush (v := 100) hx hb dX1_takeAges_15 (by decide) ?_
  refine va_mmin hx hb (hml.trans hl.1.symm) hown (hts (.methodLink RX1 59 Lib.Math.min.name) (List.mem_of_getElem? (i := 3) rfl)) (hts (.static Lib.Math.min.name) (List.mem_of_getElem? (i := 4) rfl)) (hts (.initialized "java/lang/Math") (List.mem_of_getElem? (i := 5) rfl)) (hts (.code Lib.Math.min.name Lib.Math.min.code 2 (some .int)) (List.mem_of_getElem? (i := 6) rfl)) (Nat.le_of_ble_eq_true rfl) (Nat.le_of_ble_eq_true rfl) (Nat.zero_le _) (Nat.zero_le _) dX1_takeAges_17 ?_
  refine rs_topi h (fun x3 h => ?_)
  refine lv_istore (lv' := [(4, .int x3), (0, .ref A_a0), (1, .ref A_a1), (2, .int p2), (3, .int p3)]) hx hb dX1_takeAges_20 hl (by decide) rfl (fun ls hl => ?_)
  refine lv_iconst (v := 0) hx hb dX1_takeAges_22 (by decide) ?_
  refine lv_istore (lv' := [(5, .int 0), (4, .int x3), (0, .ref A_a0), (1, .ref A_a1), (2, .int p2), (3, .int p3)]) hx hb dX1_takeAges_23 hl (by decide) rfl (fun ls hl => ?_)
  obtain ⟨X81, hX81, h⟩ := rs_b4s h
  have J81 : ∀ (f82 : (Nat → Int32)) (x83 : Int32) (x84 : Int32) (x85 : Int32), X81 = (f82, x83, x84, x85) → ∀  (H : Heap) (locs : List Loc) (ls : Array Slot), va_P G.1 vwCl [(A_a0, .inr (1, [.ref A_a0_trial, .ref A_a0_covering, .int x83, .int x84])), (A_a0_trial, .inr (4, [.int v_a0_trial_lands, .int v_a0_trial_wide, .int v_a0_trial_pace, .int x85, .int v_a0_trial_slits, .int v_a0_trial_slitA, .int v_a0_trial_slitB])), (A_a1, .inr (5, [.ref A_a1_lands, .ref A_a1_years, .ref A_a1_covers, .int v_a1_count])), (A_a1_lands, .inl (G.2.1, 8, .inl v_a1_lands)), (A_a1_years, .inl (G.2.1, 8, .inl v_a1_years)), (A_a1_covers, .inl (G.2.1, 8, .inl v_a1_covers)), (A_a0_covering, .inl (G.2.1, 9, .inl f82))] H → va_D A [(A_a0, .inr (1, [.ref A_a0_trial, .ref A_a0_covering, .int x83, .int x84])), (A_a0_trial, .inr (4, [.int v_a0_trial_lands, .int v_a0_trial_wide, .int v_a0_trial_pace, .int x85, .int v_a0_trial_slits, .int v_a0_trial_slitA, .int v_a0_trial_slitB])), (A_a1, .inr (5, [.ref A_a1_lands, .ref A_a1_years, .ref A_a1_covers, .int v_a1_count])), (A_a1_lands, .inl (G.2.1, 8, .inl v_a1_lands)), (A_a1_years, .inl (G.2.1, 8, .inl v_a1_years)), (A_a1_covers, .inl (G.2.1, 8, .inl v_a1_covers)), (A_a0_covering, .inl (G.2.1, 9, .inl f82))] → va_S A s.heap H locs → lv_has ls 6 [] → W p l e rmX1_takeAges s m args below meth c H locs 0 0 Q (F0 m 122 ls []) := by
    intro f82 x83 x84 x85 hz  H locs ls hP hD hS hl
    have h := h _ _ _ _ hz
    exact ret _ _ _ _ () _ _ _ _ h hP hS dX1_takeAges_122
  refine rs_l5W (Wd := fun (f40 : (Nat → Int32)) (x41 : Int32) (x42 : Int32) (x43 : Int32) (x44 : Int32) => ∀  (H : Heap) (locs : List Loc) (ls : Array Slot), va_P G.1 vwCl [(A_a0, .inr (1, [.ref A_a0_trial, .ref A_a0_covering, .int x41, .int x42])), (A_a0_trial, .inr (4, [.int v_a0_trial_lands, .int v_a0_trial_wide, .int v_a0_trial_pace, .int x43, .int v_a0_trial_slits, .int v_a0_trial_slitA, .int v_a0_trial_slitB])), (A_a1, .inr (5, [.ref A_a1_lands, .ref A_a1_years, .ref A_a1_covers, .int v_a1_count])), (A_a1_lands, .inl (G.2.1, 8, .inl v_a1_lands)), (A_a1_years, .inl (G.2.1, 8, .inl v_a1_years)), (A_a1_covers, .inl (G.2.1, 8, .inl v_a1_covers)), (A_a0_covering, .inl (G.2.1, 9, .inl f40))] H → va_D A [(A_a0, .inr (1, [.ref A_a0_trial, .ref A_a0_covering, .int x41, .int x42])), (A_a0_trial, .inr (4, [.int v_a0_trial_lands, .int v_a0_trial_wide, .int v_a0_trial_pace, .int x43, .int v_a0_trial_slits, .int v_a0_trial_slitA, .int v_a0_trial_slitB])), (A_a1, .inr (5, [.ref A_a1_lands, .ref A_a1_years, .ref A_a1_covers, .int v_a1_count])), (A_a1_lands, .inl (G.2.1, 8, .inl v_a1_lands)), (A_a1_years, .inl (G.2.1, 8, .inl v_a1_years)), (A_a1_covers, .inl (G.2.1, 8, .inl v_a1_covers)), (A_a0_covering, .inl (G.2.1, 9, .inl f40))] → va_S A s.heap H locs → lv_has ls 6 [(0, .ref A_a0), (1, .ref A_a1), (2, .int p2), (3, .int p3), (4, .int x3), (5, .int x44)] → W p l e rmX1_takeAges s m args below meth c H locs 0 0 Q (F0 m 25 ls [])) ?_ N v_a0_covering v_a0_count v_a0_law v_a0_trial_age 0 hX81 _ _ _ hP hD hS (lv_sub hl [2, 3, 4, 5, 1, 0] rfl)
  intro f40 x41 x42 x43 x44 o81 h K81 L81  H locs ls hP hD hS hl
  unfold f_X1_takeAges_L25 at h
  refine lv_iload hx hb dX1_takeAges_25 (lv_at hl 5 rfl) ?_
  refine lv_iload hx hb dX1_takeAges_27 (lv_at hl 4 rfl) ?_
  refine lv_icmp_ge (tgt := 122) hx hb dX1_takeAges_29 (by decide) (fun hc => ?_) (fun hc => ?_)
  · have h := rs_pos hc h
    exact J81 _ _ _ _ (L81 _ (Option.some.inj h).symm) _ _ _ hP hD hS (lv_sub hl [] rfl)
  have h := rs_neg hc h
  refine lv_aload_n hx hb dX1_takeAges_32 rfl (lv_at hl 0 rfl) ?_
  refine va_get (D := G.1) (ci := 1) (v := .ref A_a0_trial) (C := RX1) (T := TX1) (N := 4) hx hb hts uX1_takeAges_1 hown hK.1 hP 0 rfl rfl 0 (by decide) (hts (.fieldLink RX1 12 "RingShadow$Census" "trial" "LRingShadow$Shadow;") (List.mem_of_getElem? (i := 1) rfl)) (fun _ h9 => h9) rfl dX1_takeAges_33 ?_
  refine lv_iload hx hb dX1_takeAges_36 (lv_at hl 5 rfl) ?_
  refine va_put (D := G.1) (ci := 4) (v := .int x44) (ty := .int) (C := RX4) (T := TX4) (N := 7) hx hb hts uX1_takeAges_4 tyX4 tyX4_ok nmX4 hown hK.1 hP hD hS 1 rfl rfl 3 (by decide) (hts (.fieldLink RX1 65 "RingShadow$Shadow" "age" "I") (List.mem_of_getElem? (i := 7) rfl)) (fun _ h9 => h9) rfl (by decide +kernel) rfl rfl (Nat.le_of_ble_eq_true rfl) dX1_takeAges_38 (fun H locs hP hD hS => ?_)
  have hP : va_P G.1 vwCl [(A_a0, .inr (1, [.ref A_a0_trial, .ref A_a0_covering, .int x41, .int x42])), (A_a0_trial, .inr (4, [.int v_a0_trial_lands, .int v_a0_trial_wide, .int v_a0_trial_pace, .int x44, .int v_a0_trial_slits, .int v_a0_trial_slitA, .int v_a0_trial_slitB])), (A_a1, .inr (5, [.ref A_a1_lands, .ref A_a1_years, .ref A_a1_covers, .int v_a1_count])), (A_a1_lands, .inl (G.2.1, 8, .inl v_a1_lands)), (A_a1_years, .inl (G.2.1, 8, .inl v_a1_years)), (A_a1_covers, .inl (G.2.1, 8, .inl v_a1_covers)), (A_a0_covering, .inl (G.2.1, 9, .inl f40))] H := hP
  have hD : va_D A [(A_a0, .inr (1, [.ref A_a0_trial, .ref A_a0_covering, .int x41, .int x42])), (A_a0_trial, .inr (4, [.int v_a0_trial_lands, .int v_a0_trial_wide, .int v_a0_trial_pace, .int x44, .int v_a0_trial_slits, .int v_a0_trial_slitA, .int v_a0_trial_slitB])), (A_a1, .inr (5, [.ref A_a1_lands, .ref A_a1_years, .ref A_a1_covers, .int v_a1_count])), (A_a1_lands, .inl (G.2.1, 8, .inl v_a1_lands)), (A_a1_years, .inl (G.2.1, 8, .inl v_a1_years)), (A_a1_covers, .inl (G.2.1, 8, .inl v_a1_covers)), (A_a0_covering, .inl (G.2.1, 9, .inl f40))] := hD
  refine lv_aload_n hx hb dX1_takeAges_41 rfl (lv_at hl 1 rfl) ?_
  refine lv_aload_n hx hb dX1_takeAges_42 rfl (lv_at hl 0 rfl) ?_
  refine va_get (D := G.1) (ci := 1) (v := .ref A_a0_trial) (C := RX1) (T := TX1) (N := 4) hx hb hts uX1_takeAges_1 hown hK.1 hP 0 rfl rfl 0 (by decide) (hts (.fieldLink RX1 12 "RingShadow$Census" "trial" "LRingShadow$Shadow;") (List.mem_of_getElem? (i := 1) rfl)) (fun _ h9 => h9) rfl dX1_takeAges_43 ?_
  obtain ⟨x86, h87, h⟩ := rs_b1s h
  have h := h _ rfl
  refine rs_callVi (As := [.ref A_a0_trial]) (rest := []) ⟨hx, hb, hml, hown, hts⟩ (c_X5_fit l G A_a1 A_a0_trial A_a1_lands A_a1_years A_a1_covers v_a1_count v_a1_lands v_a1_years v_a0_trial_lands v_a0_trial_wide v_a0_trial_pace x44 v_a0_trial_slits v_a0_trial_slitA v_a0_trial_slitB v_a1_covers N x86 h87) (cwV 1 hts gX1_takeAges_X5_fit rfl rfl rfl (by decide +kernel) ⟨Nat.le_of_ble_eq_true rfl, Nat.le_of_ble_eq_true rfl⟩) dX1_takeAges_46 hK hP hD hS hA [2, 3, 4, 1, 5] rfl (by decide) rfl rfl (q0 := 0) (ci := 5) rfl rfl rfl hl.1 (lv_room (Nat.le_of_ble_eq_true rfl)) ⟨Nat.zero_le _, Nat.zero_le _⟩ (fun (_ : Unit) => [(A_a0, .inr (1, [.ref A_a0_trial, .ref A_a0_covering, .int x41, .int x42])), (A_a0_trial, .inr (4, [.int v_a0_trial_lands, .int v_a0_trial_wide, .int v_a0_trial_pace, .int x44, .int v_a0_trial_slits, .int v_a0_trial_slitA, .int v_a0_trial_slitB])), (A_a1, .inr (5, [.ref A_a1_lands, .ref A_a1_years, .ref A_a1_covers, .int v_a1_count])), (A_a1_lands, .inl (G.2.1, 8, .inl v_a1_lands)), (A_a1_years, .inl (G.2.1, 8, .inl v_a1_years)), (A_a1_covers, .inl (G.2.1, 8, .inl v_a1_covers)), (A_a0_covering, .inl (G.2.1, 9, .inl f40))]) (fun _ => rfl) (fun _ => rfl) (fun u87 H locs hP hD hS => ?_)
  obtain ⟨X106, hX106, h⟩ := rs_b3s h
  have J106 : ∀ (x103 : Int32) (x104 : Int32) (f105 : (Nat → Int32)), X106 = (x103, x104, f105) → ∀ (H : Heap) (locs : List Loc) (ls : Array Slot), va_P G.1 vwCl [(A_a0, .inr (1, [.ref A_a0_trial, .ref A_a0_covering, .int x103, .int x104])), (A_a0_trial, .inr (4, [.int v_a0_trial_lands, .int v_a0_trial_wide, .int v_a0_trial_pace, .int x44, .int v_a0_trial_slits, .int v_a0_trial_slitA, .int v_a0_trial_slitB])), (A_a1, .inr (5, [.ref A_a1_lands, .ref A_a1_years, .ref A_a1_covers, .int v_a1_count])), (A_a1_lands, .inl (G.2.1, 8, .inl v_a1_lands)), (A_a1_years, .inl (G.2.1, 8, .inl v_a1_years)), (A_a1_covers, .inl (G.2.1, 8, .inl v_a1_covers)), (A_a0_covering, .inl (G.2.1, 9, .inl f105))] H → va_D A [(A_a0, .inr (1, [.ref A_a0_trial, .ref A_a0_covering, .int x103, .int x104])), (A_a0_trial, .inr (4, [.int v_a0_trial_lands, .int v_a0_trial_wide, .int v_a0_trial_pace, .int x44, .int v_a0_trial_slits, .int v_a0_trial_slitA, .int v_a0_trial_slitB])), (A_a1, .inr (5, [.ref A_a1_lands, .ref A_a1_years, .ref A_a1_covers, .int v_a1_count])), (A_a1_lands, .inl (G.2.1, 8, .inl v_a1_lands)), (A_a1_years, .inl (G.2.1, 8, .inl v_a1_years)), (A_a1_covers, .inl (G.2.1, 8, .inl v_a1_covers)), (A_a0_covering, .inl (G.2.1, 9, .inl f105))] → va_S A s.heap H locs → lv_has ls 6 [(0, .ref A_a0), (1, .ref A_a1), (2, .int p2), (3, .int p3), (4, .int x3), (5, .int x44)] → W p l e rmX1_takeAges s m args below meth c H locs 0 0 Q (F0 m 116 ls []) := by
    intro x103 x104 f105 hz H locs ls hP hD hS hl
    have h := h _ _ _ hz
    refine lv_iinc (v := (x44 + 1)) (lv' := [(5, .int (x44 + 1)), (0, .ref A_a0), (1, .ref A_a1), (2, .int p2), (3, .int p3), (4, .int x3)]) hx hb dX1_takeAges_116 hl (k := 5) rfl (by first | rfl | decide) (by decide) rfl (fun ls hl => ?_)
    refine lv_goto (tgt := 25) hx hb dX1_takeAges_119 (by decide) ?_
    exact K81 _ _ _ _ _ (Option.some.inj h).symm _ _ _ hP hD hS (lv_sub hl [1, 2, 3, 4, 5, 0] rfl)
  have h := hX106
  refine lv_if_eq (tgt := 116) hx hb dX1_takeAges_49 (by decide) (fun hc => ?_) (fun hc => ?_)
  · have h := rs_pos hc h
    exact J106 _ _ _ (Option.some.inj h).symm _ _ _ hP hD hS (lv_sub hl [0, 1, 2, 3, 4, 5] rfl)
  have h := rs_neg hc h
  refine lv_aload_n hx hb dX1_takeAges_52 rfl (lv_at hl 0 rfl) ?_
  refine va_get (D := G.1) (ci := 1) (v := .int x41) (C := RX1) (T := TX1) (N := 4) hx hb hts uX1_takeAges_1 hown hK.1 hP 0 rfl rfl 2 (by decide) (hts (.fieldLink RX1 22 "RingShadow$Census" "count" "I") (List.mem_of_getElem? (i := 8) rfl)) (fun _ h9 => h9) rfl dX1_takeAges_53 ?_
  refine lv_iload_n hx hb dX1_takeAges_56 rfl (lv_at hl 2 rfl) ?_
  obtain ⟨X109, hX109, h⟩ := rs_b1s h
  have J109 : ∀ (x108 : Int32), X109 = x108 → ∀ (H : Heap) (locs : List Loc) (ls : Array Slot), va_P G.1 vwCl [(A_a0, .inr (1, [.ref A_a0_trial, .ref A_a0_covering, .int x41, .int x108])), (A_a0_trial, .inr (4, [.int v_a0_trial_lands, .int v_a0_trial_wide, .int v_a0_trial_pace, .int x44, .int v_a0_trial_slits, .int v_a0_trial_slitA, .int v_a0_trial_slitB])), (A_a1, .inr (5, [.ref A_a1_lands, .ref A_a1_years, .ref A_a1_covers, .int v_a1_count])), (A_a1_lands, .inl (G.2.1, 8, .inl v_a1_lands)), (A_a1_years, .inl (G.2.1, 8, .inl v_a1_years)), (A_a1_covers, .inl (G.2.1, 8, .inl v_a1_covers)), (A_a0_covering, .inl (G.2.1, 9, .inl f40))] H → va_D A [(A_a0, .inr (1, [.ref A_a0_trial, .ref A_a0_covering, .int x41, .int x108])), (A_a0_trial, .inr (4, [.int v_a0_trial_lands, .int v_a0_trial_wide, .int v_a0_trial_pace, .int x44, .int v_a0_trial_slits, .int v_a0_trial_slitA, .int v_a0_trial_slitB])), (A_a1, .inr (5, [.ref A_a1_lands, .ref A_a1_years, .ref A_a1_covers, .int v_a1_count])), (A_a1_lands, .inl (G.2.1, 8, .inl v_a1_lands)), (A_a1_years, .inl (G.2.1, 8, .inl v_a1_years)), (A_a1_covers, .inl (G.2.1, 8, .inl v_a1_covers)), (A_a0_covering, .inl (G.2.1, 9, .inl f40))] → va_S A s.heap H locs → lv_has ls 6 [(0, .ref A_a0), (1, .ref A_a1), (2, .int p2), (3, .int p3), (4, .int x3), (5, .int x44)] → W p l e rmX1_takeAges s m args below meth c H locs 0 0 Q (F0 m 89 ls []) := by
    intro x108 hz H locs ls hP hD hS hl
    have h := h _ hz
    refine lv_iload_n hx hb dX1_takeAges_89 rfl (lv_at hl 3 rfl) ?_
    refine lv_iconst (v := (-1)) hx hb dX1_takeAges_90 (by decide) ?_
    obtain ⟨X115, hX115, h⟩ := rs_b1s h
    have J115 : ∀ (f114 : (Nat → Int32)), X115 = f114 → ∀ (H : Heap) (locs : List Loc) (ls : Array Slot), va_P G.1 vwCl [(A_a0, .inr (1, [.ref A_a0_trial, .ref A_a0_covering, .int x41, .int x108])), (A_a0_trial, .inr (4, [.int v_a0_trial_lands, .int v_a0_trial_wide, .int v_a0_trial_pace, .int x44, .int v_a0_trial_slits, .int v_a0_trial_slitA, .int v_a0_trial_slitB])), (A_a1, .inr (5, [.ref A_a1_lands, .ref A_a1_years, .ref A_a1_covers, .int v_a1_count])), (A_a1_lands, .inl (G.2.1, 8, .inl v_a1_lands)), (A_a1_years, .inl (G.2.1, 8, .inl v_a1_years)), (A_a1_covers, .inl (G.2.1, 8, .inl v_a1_covers)), (A_a0_covering, .inl (G.2.1, 9, .inl f114))] H → va_D A [(A_a0, .inr (1, [.ref A_a0_trial, .ref A_a0_covering, .int x41, .int x108])), (A_a0_trial, .inr (4, [.int v_a0_trial_lands, .int v_a0_trial_wide, .int v_a0_trial_pace, .int x44, .int v_a0_trial_slits, .int v_a0_trial_slitA, .int v_a0_trial_slitB])), (A_a1, .inr (5, [.ref A_a1_lands, .ref A_a1_years, .ref A_a1_covers, .int v_a1_count])), (A_a1_lands, .inl (G.2.1, 8, .inl v_a1_lands)), (A_a1_years, .inl (G.2.1, 8, .inl v_a1_years)), (A_a1_covers, .inl (G.2.1, 8, .inl v_a1_covers)), (A_a0_covering, .inl (G.2.1, 9, .inl f114))] → va_S A s.heap H locs → lv_has ls 6 [(0, .ref A_a0), (1, .ref A_a1), (2, .int p2), (3, .int p3), (4, .int x3), (5, .int x44)] → W p l e rmX1_takeAges s m args below meth c H locs 0 0 Q (F0 m 106 ls []) := by
      intro f114 hz H locs ls hP hD hS hl
      have h := h _ hz
      refine lv_aload_n hx hb dX1_takeAges_106 rfl (lv_at hl 0 rfl) ?_
      refine lv_dup hx hb dX1_takeAges_107 rfl ?_
      refine va_get (D := G.1) (ci := 1) (v := .int x41) (C := RX1) (T := TX1) (N := 4) hx hb hts uX1_takeAges_1 hown hK.1 hP 0 rfl rfl 2 (by decide) (hts (.fieldLink RX1 22 "RingShadow$Census" "count" "I") (List.mem_of_getElem? (i := 8) rfl)) (fun _ h9 => h9) rfl dX1_takeAges_108 ?_
      refine lv_iconst (v := 1) hx hb dX1_takeAges_111 (by decide) ?_
      refine lv_iadd hx hb dX1_takeAges_112 ?_
      refine rs_topi h (fun x116 h => ?_)
      refine va_put (D := G.1) (ci := 1) (v := .int x116) (ty := .int) (C := RX1) (T := TX1) (N := 4) hx hb hts uX1_takeAges_1 tyX1 tyX1_ok nmX1 hown hK.1 hP hD hS 0 rfl rfl 2 (by decide) (hts (.fieldLink RX1 22 "RingShadow$Census" "count" "I") (List.mem_of_getElem? (i := 8) rfl)) (fun _ h9 => h9) rfl (by decide +kernel) rfl rfl (Nat.le_of_ble_eq_true rfl) dX1_takeAges_113 (fun H locs hP hD hS => ?_)
      have hP : va_P G.1 vwCl [(A_a0, .inr (1, [.ref A_a0_trial, .ref A_a0_covering, .int x116, .int x108])), (A_a0_trial, .inr (4, [.int v_a0_trial_lands, .int v_a0_trial_wide, .int v_a0_trial_pace, .int x44, .int v_a0_trial_slits, .int v_a0_trial_slitA, .int v_a0_trial_slitB])), (A_a1, .inr (5, [.ref A_a1_lands, .ref A_a1_years, .ref A_a1_covers, .int v_a1_count])), (A_a1_lands, .inl (G.2.1, 8, .inl v_a1_lands)), (A_a1_years, .inl (G.2.1, 8, .inl v_a1_years)), (A_a1_covers, .inl (G.2.1, 8, .inl v_a1_covers)), (A_a0_covering, .inl (G.2.1, 9, .inl f114))] H := hP
      have hD : va_D A [(A_a0, .inr (1, [.ref A_a0_trial, .ref A_a0_covering, .int x116, .int x108])), (A_a0_trial, .inr (4, [.int v_a0_trial_lands, .int v_a0_trial_wide, .int v_a0_trial_pace, .int x44, .int v_a0_trial_slits, .int v_a0_trial_slitA, .int v_a0_trial_slitB])), (A_a1, .inr (5, [.ref A_a1_lands, .ref A_a1_years, .ref A_a1_covers, .int v_a1_count])), (A_a1_lands, .inl (G.2.1, 8, .inl v_a1_lands)), (A_a1_years, .inl (G.2.1, 8, .inl v_a1_years)), (A_a1_covers, .inl (G.2.1, 8, .inl v_a1_covers)), (A_a0_covering, .inl (G.2.1, 9, .inl f114))] := hD
      exact J106 _ _ _ (Option.some.inj h).symm _ _ _ hP hD hS (lv_sub hl [0, 1, 2, 3, 4, 5] rfl)
    have h := hX115
    refine lv_icmp_eq (tgt := 106) hx hb dX1_takeAges_91 (by decide) (fun hc => ?_) (fun hc => ?_)
    · have h := rs_pos hc h
      exact J115 _ (Option.some.inj h).symm _ _ _ hP hD hS (lv_sub hl [0, 1, 2, 3, 4, 5] rfl)
    have h := rs_neg hc h
    refine lv_aload_n hx hb dX1_takeAges_94 rfl (lv_at hl 0 rfl) ?_
    refine lv_aload_n hx hb dX1_takeAges_95 rfl (lv_at hl 0 rfl) ?_
    refine va_get (D := G.1) (ci := 1) (v := .ref A_a0_trial) (C := RX1) (T := TX1) (N := 4) hx hb hts uX1_takeAges_1 hown hK.1 hP 0 rfl rfl 0 (by decide) (hts (.fieldLink RX1 12 "RingShadow$Census" "trial" "LRingShadow$Shadow;") (List.mem_of_getElem? (i := 1) rfl)) (fun _ h9 => h9) rfl dX1_takeAges_96 ?_
    refine lv_iload_n hx hb dX1_takeAges_99 rfl (lv_at hl 3 rfl) ?_
    obtain ⟨x117, h118, h⟩ := rs_b1s h
    have h := h _ rfl
    refine rs_callVi (As := [.int p3]) (rest := [.ref A_a0]) ⟨hx, hb, hml, hown, hts⟩ (c_X4_firstAt l G A_a0_trial v_a0_trial_lands v_a0_trial_wide v_a0_trial_pace x44 v_a0_trial_slits v_a0_trial_slitA v_a0_trial_slitB p3 x117 h118) (cwV 1 hts gX1_takeAges_X4_firstAt rfl rfl rfl (by decide +kernel) ⟨Nat.le_of_ble_eq_true rfl, Nat.le_of_ble_eq_true rfl⟩) dX1_takeAges_100 hK hP hD hS hA [1] rfl (by decide) rfl rfl (q0 := 0) (ci := 4) rfl rfl rfl hl.1 (lv_room (Nat.le_of_ble_eq_true rfl)) ⟨Nat.zero_le _, Nat.zero_le _⟩ (fun (_ : Unit) => [(A_a0, .inr (1, [.ref A_a0_trial, .ref A_a0_covering, .int x41, .int x108])), (A_a0_trial, .inr (4, [.int v_a0_trial_lands, .int v_a0_trial_wide, .int v_a0_trial_pace, .int x44, .int v_a0_trial_slits, .int v_a0_trial_slitA, .int v_a0_trial_slitB])), (A_a1, .inr (5, [.ref A_a1_lands, .ref A_a1_years, .ref A_a1_covers, .int v_a1_count])), (A_a1_lands, .inl (G.2.1, 8, .inl v_a1_lands)), (A_a1_years, .inl (G.2.1, 8, .inl v_a1_years)), (A_a1_covers, .inl (G.2.1, 8, .inl v_a1_covers)), (A_a0_covering, .inl (G.2.1, 9, .inl f40))]) (fun _ => rfl) (fun _ => rfl) (fun u118 H locs hP hD hS => ?_)
    obtain ⟨f119, h120, h⟩ := rs_b1s h
    have h := h _ rfl
    refine rs_callVv (As := [.int x117]) (rest := []) ⟨hx, hb, hml, hown, hts⟩ (c_X1_countCovered l G A_a0 A_a0_trial A_a0_covering x41 x108 v_a0_trial_lands v_a0_trial_wide v_a0_trial_pace x44 v_a0_trial_slits v_a0_trial_slitA v_a0_trial_slitB f40 x117 N f119 h120) (cwV 1 hts gX1_takeAges_X1_countCovered rfl rfl rfl (by decide +kernel) ⟨Nat.le_of_ble_eq_true rfl, Nat.le_of_ble_eq_true rfl⟩) dX1_takeAges_103 hK hP hD hS hA [0, 1, 6] rfl (by decide) rfl rfl (q0 := 0) (ci := 1) rfl rfl rfl hl.1 (lv_room (Nat.le_of_ble_eq_true rfl)) ⟨Nat.zero_le _, Nat.zero_le _⟩ (fun (_ : Unit) => [(A_a0, .inr (1, [.ref A_a0_trial, .ref A_a0_covering, .int x41, .int x108])), (A_a0_trial, .inr (4, [.int v_a0_trial_lands, .int v_a0_trial_wide, .int v_a0_trial_pace, .int x44, .int v_a0_trial_slits, .int v_a0_trial_slitA, .int v_a0_trial_slitB])), (A_a1, .inr (5, [.ref A_a1_lands, .ref A_a1_years, .ref A_a1_covers, .int v_a1_count])), (A_a1_lands, .inl (G.2.1, 8, .inl v_a1_lands)), (A_a1_years, .inl (G.2.1, 8, .inl v_a1_years)), (A_a1_covers, .inl (G.2.1, 8, .inl v_a1_covers)), (A_a0_covering, .inl (G.2.1, 9, .inl f119))]) (fun _ => rfl) (fun _ => rfl) (fun u120 H locs hP hD hS => ?_)
    exact J115 _ (Option.some.inj h).symm _ _ _ hP hD hS (lv_sub hl [0, 1, 2, 3, 4, 5] rfl)
  have h := hX109
  refine lv_icmp_ne (tgt := 89) hx hb dX1_takeAges_57 (by decide) (fun hc => ?_) (fun hc => ?_)
  · have h := rs_neg hc h
    exact J109 _ (Option.some.inj h).symm _ _ _ hP hD hS (lv_sub hl [0, 1, 2, 3, 4, 5] rfl)
  have h := rs_pos hc h
  refine lv_aload_n hx hb dX1_takeAges_60 rfl (lv_at hl 0 rfl) ?_
  refine lv_sipush (v := 1000) hx hb dX1_takeAges_61 (by decide) ?_
  refine lv_aload_n hx hb dX1_takeAges_64 rfl (lv_at hl 0 rfl) ?_
  refine va_get (D := G.1) (ci := 1) (v := .ref A_a0_trial) (C := RX1) (T := TX1) (N := 4) hx hb hts uX1_takeAges_1 hown hK.1 hP 0 rfl rfl 0 (by decide) (hts (.fieldLink RX1 12 "RingShadow$Census" "trial" "LRingShadow$Shadow;") (List.mem_of_getElem? (i := 1) rfl)) (fun _ h9 => h9) rfl dX1_takeAges_65 ?_
  refine va_get (D := G.1) (ci := 4) (v := .int v_a0_trial_wide) (C := RX4) (T := TX4) (N := 7) hx hb hts uX1_takeAges_4 hown hK.1 hP 1 rfl rfl 1 (by decide) (hts (.fieldLink RX1 41 "RingShadow$Shadow" "wide" "I") (List.mem_of_getElem? (i := 9) rfl)) (fun _ h9 => h9) rfl dX1_takeAges_68 ?_
  refine lv_imul hx hb dX1_takeAges_71 ?_
  refine lv_bipush (v := 100) hx hb dX1_takeAges_72 (by decide) ?_
  refine lv_aload_n hx hb dX1_takeAges_74 rfl (lv_at hl 0 rfl) ?_
  refine va_get (D := G.1) (ci := 1) (v := .ref A_a0_trial) (C := RX1) (T := TX1) (N := 4) hx hb hts uX1_takeAges_1 hown hK.1 hP 0 rfl rfl 0 (by decide) (hts (.fieldLink RX1 12 "RingShadow$Census" "trial" "LRingShadow$Shadow;") (List.mem_of_getElem? (i := 1) rfl)) (fun _ h9 => h9) rfl dX1_takeAges_75 ?_
  refine va_get (D := G.1) (ci := 4) (v := .int v_a0_trial_pace) (C := RX4) (T := TX4) (N := 7) hx hb hts uX1_takeAges_4 hown hK.1 hP 1 rfl rfl 2 (by decide) (hts (.fieldLink RX1 44 "RingShadow$Shadow" "pace" "I") (List.mem_of_getElem? (i := 2) rfl)) (fun _ h9 => h9) rfl dX1_takeAges_78 ?_
  refine lv_imul hx hb dX1_takeAges_81 ?_
  refine lv_iadd hx hb dX1_takeAges_82 ?_
  refine lv_iload hx hb dX1_takeAges_83 (lv_at hl 5 rfl) ?_
  refine lv_iadd hx hb dX1_takeAges_85 ?_
  refine rs_topi h (fun x121 h => ?_)
  refine va_put (D := G.1) (ci := 1) (v := .int x121) (ty := .int) (C := RX1) (T := TX1) (N := 4) hx hb hts uX1_takeAges_1 tyX1 tyX1_ok nmX1 hown hK.1 hP hD hS 0 rfl rfl 3 (by decide) (hts (.fieldLink RX1 26 "RingShadow$Census" "law" "I") (List.mem_of_getElem? (i := 10) rfl)) (fun _ h9 => h9) rfl (by decide +kernel) rfl rfl (Nat.le_of_ble_eq_true rfl) dX1_takeAges_86 (fun H locs hP hD hS => ?_)
  have hP : va_P G.1 vwCl [(A_a0, .inr (1, [.ref A_a0_trial, .ref A_a0_covering, .int x41, .int x121])), (A_a0_trial, .inr (4, [.int v_a0_trial_lands, .int v_a0_trial_wide, .int v_a0_trial_pace, .int x44, .int v_a0_trial_slits, .int v_a0_trial_slitA, .int v_a0_trial_slitB])), (A_a1, .inr (5, [.ref A_a1_lands, .ref A_a1_years, .ref A_a1_covers, .int v_a1_count])), (A_a1_lands, .inl (G.2.1, 8, .inl v_a1_lands)), (A_a1_years, .inl (G.2.1, 8, .inl v_a1_years)), (A_a1_covers, .inl (G.2.1, 8, .inl v_a1_covers)), (A_a0_covering, .inl (G.2.1, 9, .inl f40))] H := hP
  have hD : va_D A [(A_a0, .inr (1, [.ref A_a0_trial, .ref A_a0_covering, .int x41, .int x121])), (A_a0_trial, .inr (4, [.int v_a0_trial_lands, .int v_a0_trial_wide, .int v_a0_trial_pace, .int x44, .int v_a0_trial_slits, .int v_a0_trial_slitA, .int v_a0_trial_slitB])), (A_a1, .inr (5, [.ref A_a1_lands, .ref A_a1_years, .ref A_a1_covers, .int v_a1_count])), (A_a1_lands, .inl (G.2.1, 8, .inl v_a1_lands)), (A_a1_years, .inl (G.2.1, 8, .inl v_a1_years)), (A_a1_covers, .inl (G.2.1, 8, .inl v_a1_covers)), (A_a0_covering, .inl (G.2.1, 9, .inl f40))] := hD
  exact J109 _ (Option.some.inj h).symm _ _ _ hP hD hS (lv_sub hl [0, 1, 2, 3, 4, 5] rfl)
theorem uX1_take_1 : ∀ w ∈ wsX10, w ∈ wsX1_take := fun _ h => List.mem_cons_of_mem _ (List.mem_append_left _ (List.mem_append_left _ (List.mem_append_left _ (List.mem_append_right _ h))))
theorem uX1_take_4 : ∀ w ∈ wsX40, w ∈ wsX1_take := fun _ h => List.mem_cons_of_mem _ (List.mem_append_left _ (List.mem_append_right _ h))
theorem uX1_take_9 : ∀ w ∈ wsX90, w ∈ wsX1_take := fun _ h => List.mem_cons_of_mem _ (List.mem_append_left _ (List.mem_append_left _ (List.mem_append_right _ h)))
abbrev rmX1_take : Room := { frames := 4, cells := 0, slots := 0, locals := 93 }
set_option maxRecDepth 100000 in
set_option maxHeartbeats 4000000 in
theorem c_X1_take (l : Launch) (G : rs_G) (A_a0 : Nat) (A_a1 : Nat) (A_a0_trial : Nat) (A_a0_covering : Nat) (A_a1_shadow : Nat) (A_a1_stock : Nat) (A_a1_sights : Nat) (A_a1_sights_lands : Nat) (A_a1_sights_years : Nat) (A_a1_sights_covers : Nat) (v_a0_count : Int32) (v_a0_law : Int32) (v_a0_covering : (Nat → Int32)) (v_a1_year : Int32) (v_a1_shadow_lands : Int32) (v_a1_shadow_wide : Int32) (v_a1_shadow_pace : Int32) (v_a1_shadow_age : Int32) (v_a1_shadow_slits : Int32) (v_a1_shadow_slitA : Int32) (v_a1_shadow_slitB : Int32) (v_a0_trial_lands : Int32) (v_a0_trial_wide : Int32) (v_a0_trial_pace : Int32) (v_a0_trial_age : Int32) (v_a0_trial_slits : Int32) (v_a0_trial_slitA : Int32) (v_a0_trial_slitB : Int32) (v_a1_sights_count : Int32) (v_a1_sights_lands : (Nat → Int32)) (v_a1_sights_years : (Nat → Int32)) (v_a1_sights_covers : (Nat → Int32)) (p2 : Int32) (p3 : Int32) (N : Nat) (o0 : Int32) (o1 : Int32) (o2 : (Nat → Int32)) (o3 : Int32) (o4 : Int32) (o5 : Int32) (o6 : Int32) (h : f_X1_take N p2 p3 v_a0_covering v_a1_shadow_lands v_a0_trial_wide v_a0_trial_pace v_a0_trial_age v_a1_sights_count v_a1_sights_lands v_a1_sights_years v_a1_sights_covers = some (o0, o1, o2, o3, o4, o5, o6)) : rs_Cv l yX1_take wsX1_take rmX1_take G [.ref A_a0, .ref A_a1, .int p2, .int p3] [(A_a0, .inr (1, [.ref A_a0_trial, .ref A_a0_covering, .int v_a0_count, .int v_a0_law])), (A_a0_covering, .inl (G.2.1, 9, .inl v_a0_covering)), (A_a1, .inr (9, [.ref A_a1_shadow, .ref A_a1_stock, .ref A_a1_sights, .int v_a1_year])), (A_a1_shadow, .inr (4, [.int v_a1_shadow_lands, .int v_a1_shadow_wide, .int v_a1_shadow_pace, .int v_a1_shadow_age, .int v_a1_shadow_slits, .int v_a1_shadow_slitA, .int v_a1_shadow_slitB])), (A_a0_trial, .inr (4, [.int v_a0_trial_lands, .int v_a0_trial_wide, .int v_a0_trial_pace, .int v_a0_trial_age, .int v_a0_trial_slits, .int v_a0_trial_slitA, .int v_a0_trial_slitB])), (A_a1_sights, .inr (5, [.ref A_a1_sights_lands, .ref A_a1_sights_years, .ref A_a1_sights_covers, .int v_a1_sights_count])), (A_a1_sights_lands, .inl (G.2.1, 8, .inl v_a1_sights_lands)), (A_a1_sights_years, .inl (G.2.1, 8, .inl v_a1_sights_years)), (A_a1_sights_covers, .inl (G.2.1, 8, .inl v_a1_sights_covers))] (fun (_ : Unit) => [(A_a0, .inr (1, [.ref A_a0_trial, .ref A_a0_covering, .int o0, .int o1])), (A_a0_covering, .inl (G.2.1, 9, .inl o2)), (A_a1, .inr (9, [.ref A_a1_shadow, .ref A_a1_stock, .ref A_a1_sights, .int v_a1_year])), (A_a1_shadow, .inr (4, [.int v_a1_shadow_lands, .int v_a1_shadow_wide, .int v_a1_shadow_pace, .int v_a1_shadow_age, .int v_a1_shadow_slits, .int v_a1_shadow_slitA, .int v_a1_shadow_slitB])), (A_a0_trial, .inr (4, [.int o3, .int o4, .int o5, .int o6, .int v_a0_trial_slits, .int v_a0_trial_slitA, .int v_a0_trial_slitB])), (A_a1_sights, .inr (5, [.ref A_a1_sights_lands, .ref A_a1_sights_years, .ref A_a1_sights_covers, .int v_a1_sights_count])), (A_a1_sights_lands, .inl (G.2.1, 8, .inl v_a1_sights_lands)), (A_a1_sights_years, .inl (G.2.1, 8, .inl v_a1_sights_years)), (A_a1_sights_covers, .inl (G.2.1, 8, .inl v_a1_sights_covers))]) := by
  refine rs_enter_v (cc := cX1_take) (maxL := 6) (by decide) rfl (Nat.le_of_ble_eq_true rfl) (fun p e s m args below meth c A Q ls E ret hP hD hS hA hl => ?_)
  obtain ⟨hx, hb, hml, hown, hts, hK⟩ := E
  have hown : s.vm.findClass RX1 = some m.cls := hown
  have hl : lv_has ls 6 [(0, .ref A_a0), (1, .ref A_a1), (2, .int p2), (3, .int p3)] := hl
  have ret : ∀ (w0 : Int32) (w1 : Int32) (w2 : (Nat → Int32)) (w3 : Int32) (w4 : Int32) (w5 : Int32) (w6 : Int32) (u : Unit) (H : Heap) (locs : List Loc) (pc : Nat) (ls : Array Slot), some (w0, w1, w2, w3, w4, w5, w6) = some (o0, o1, o2, o3, o4, o5, o6) → va_P G.1 vwCl [(A_a0, .inr (1, [.ref A_a0_trial, .ref A_a0_covering, .int w0, .int w1])), (A_a0_covering, .inl (G.2.1, 9, .inl w2)), (A_a1, .inr (9, [.ref A_a1_shadow, .ref A_a1_stock, .ref A_a1_sights, .int v_a1_year])), (A_a1_shadow, .inr (4, [.int v_a1_shadow_lands, .int v_a1_shadow_wide, .int v_a1_shadow_pace, .int v_a1_shadow_age, .int v_a1_shadow_slits, .int v_a1_shadow_slitA, .int v_a1_shadow_slitB])), (A_a0_trial, .inr (4, [.int w3, .int w4, .int w5, .int w6, .int v_a0_trial_slits, .int v_a0_trial_slitA, .int v_a0_trial_slitB])), (A_a1_sights, .inr (5, [.ref A_a1_sights_lands, .ref A_a1_sights_years, .ref A_a1_sights_covers, .int v_a1_sights_count])), (A_a1_sights_lands, .inl (G.2.1, 8, .inl v_a1_sights_lands)), (A_a1_sights_years, .inl (G.2.1, 8, .inl v_a1_sights_years)), (A_a1_sights_covers, .inl (G.2.1, 8, .inl v_a1_sights_covers))] H → va_S A s.heap H locs → decode cX1_take pc = .ok (.return_, 1) → W p l e rmX1_take s m args below meth c H locs 0 0 Q (F0 m pc ls []) := by
    intro w0 w1 w2 w3 w4 w5 w6 u H locs pc ls hz
    cases hz
    exact ret u H locs pc ls
  unfold f_X1_take at h
  refine lv_aload_n hx hb dX1_take_0 rfl (lv_at hl 0 rfl) ?_
  refine lv_iconst (v := 0) hx hb dX1_take_1 (by decide) ?_
  refine va_put (D := G.1) (ci := 1) (v := .int 0) (ty := .int) (C := RX1) (T := TX1) (N := 4) hx hb hts uX1_take_1 tyX1 tyX1_ok nmX1 hown hK.1 hP hD hS 0 rfl rfl 2 (by decide) (hts (.fieldLink RX1 22 "RingShadow$Census" "count" "I") (List.mem_of_getElem? (i := 1) rfl)) (fun _ h9 => h9) rfl (by decide +kernel) rfl rfl (Nat.le_of_ble_eq_true rfl) dX1_take_2 (fun H locs hP hD hS => ?_)
  have hP : va_P G.1 vwCl [(A_a0, .inr (1, [.ref A_a0_trial, .ref A_a0_covering, .int 0, .int v_a0_law])), (A_a0_covering, .inl (G.2.1, 9, .inl v_a0_covering)), (A_a1, .inr (9, [.ref A_a1_shadow, .ref A_a1_stock, .ref A_a1_sights, .int v_a1_year])), (A_a1_shadow, .inr (4, [.int v_a1_shadow_lands, .int v_a1_shadow_wide, .int v_a1_shadow_pace, .int v_a1_shadow_age, .int v_a1_shadow_slits, .int v_a1_shadow_slitA, .int v_a1_shadow_slitB])), (A_a0_trial, .inr (4, [.int v_a0_trial_lands, .int v_a0_trial_wide, .int v_a0_trial_pace, .int v_a0_trial_age, .int v_a0_trial_slits, .int v_a0_trial_slitA, .int v_a0_trial_slitB])), (A_a1_sights, .inr (5, [.ref A_a1_sights_lands, .ref A_a1_sights_years, .ref A_a1_sights_covers, .int v_a1_sights_count])), (A_a1_sights_lands, .inl (G.2.1, 8, .inl v_a1_sights_lands)), (A_a1_sights_years, .inl (G.2.1, 8, .inl v_a1_sights_years)), (A_a1_sights_covers, .inl (G.2.1, 8, .inl v_a1_sights_covers))] H := hP
  have hD : va_D A [(A_a0, .inr (1, [.ref A_a0_trial, .ref A_a0_covering, .int 0, .int v_a0_law])), (A_a0_covering, .inl (G.2.1, 9, .inl v_a0_covering)), (A_a1, .inr (9, [.ref A_a1_shadow, .ref A_a1_stock, .ref A_a1_sights, .int v_a1_year])), (A_a1_shadow, .inr (4, [.int v_a1_shadow_lands, .int v_a1_shadow_wide, .int v_a1_shadow_pace, .int v_a1_shadow_age, .int v_a1_shadow_slits, .int v_a1_shadow_slitA, .int v_a1_shadow_slitB])), (A_a0_trial, .inr (4, [.int v_a0_trial_lands, .int v_a0_trial_wide, .int v_a0_trial_pace, .int v_a0_trial_age, .int v_a0_trial_slits, .int v_a0_trial_slitA, .int v_a0_trial_slitB])), (A_a1_sights, .inr (5, [.ref A_a1_sights_lands, .ref A_a1_sights_years, .ref A_a1_sights_covers, .int v_a1_sights_count])), (A_a1_sights_lands, .inl (G.2.1, 8, .inl v_a1_sights_lands)), (A_a1_sights_years, .inl (G.2.1, 8, .inl v_a1_sights_years)), (A_a1_sights_covers, .inl (G.2.1, 8, .inl v_a1_sights_covers))] := hD
  refine lv_aload_n hx hb dX1_take_5 rfl (lv_at hl 0 rfl) ?_
  refine lv_bipush (v := (-6)) hx hb dX1_take_6 (by decide) ?_
  refine va_put (D := G.1) (ci := 1) (v := .int (-6)) (ty := .int) (C := RX1) (T := TX1) (N := 4) hx hb hts uX1_take_1 tyX1 tyX1_ok nmX1 hown hK.1 hP hD hS 0 rfl rfl 3 (by decide) (hts (.fieldLink RX1 26 "RingShadow$Census" "law" "I") (List.mem_of_getElem? (i := 2) rfl)) (fun _ h9 => h9) rfl (by decide +kernel) rfl rfl (Nat.le_of_ble_eq_true rfl) dX1_take_8 (fun H locs hP hD hS => ?_)
  have hP : va_P G.1 vwCl [(A_a0, .inr (1, [.ref A_a0_trial, .ref A_a0_covering, .int 0, .int (-6)])), (A_a0_covering, .inl (G.2.1, 9, .inl v_a0_covering)), (A_a1, .inr (9, [.ref A_a1_shadow, .ref A_a1_stock, .ref A_a1_sights, .int v_a1_year])), (A_a1_shadow, .inr (4, [.int v_a1_shadow_lands, .int v_a1_shadow_wide, .int v_a1_shadow_pace, .int v_a1_shadow_age, .int v_a1_shadow_slits, .int v_a1_shadow_slitA, .int v_a1_shadow_slitB])), (A_a0_trial, .inr (4, [.int v_a0_trial_lands, .int v_a0_trial_wide, .int v_a0_trial_pace, .int v_a0_trial_age, .int v_a0_trial_slits, .int v_a0_trial_slitA, .int v_a0_trial_slitB])), (A_a1_sights, .inr (5, [.ref A_a1_sights_lands, .ref A_a1_sights_years, .ref A_a1_sights_covers, .int v_a1_sights_count])), (A_a1_sights_lands, .inl (G.2.1, 8, .inl v_a1_sights_lands)), (A_a1_sights_years, .inl (G.2.1, 8, .inl v_a1_sights_years)), (A_a1_sights_covers, .inl (G.2.1, 8, .inl v_a1_sights_covers))] H := hP
  have hD : va_D A [(A_a0, .inr (1, [.ref A_a0_trial, .ref A_a0_covering, .int 0, .int (-6)])), (A_a0_covering, .inl (G.2.1, 9, .inl v_a0_covering)), (A_a1, .inr (9, [.ref A_a1_shadow, .ref A_a1_stock, .ref A_a1_sights, .int v_a1_year])), (A_a1_shadow, .inr (4, [.int v_a1_shadow_lands, .int v_a1_shadow_wide, .int v_a1_shadow_pace, .int v_a1_shadow_age, .int v_a1_shadow_slits, .int v_a1_shadow_slitA, .int v_a1_shadow_slitB])), (A_a0_trial, .inr (4, [.int v_a0_trial_lands, .int v_a0_trial_wide, .int v_a0_trial_pace, .int v_a0_trial_age, .int v_a0_trial_slits, .int v_a0_trial_slitA, .int v_a0_trial_slitB])), (A_a1_sights, .inr (5, [.ref A_a1_sights_lands, .ref A_a1_sights_years, .ref A_a1_sights_covers, .int v_a1_sights_count])), (A_a1_sights_lands, .inl (G.2.1, 8, .inl v_a1_sights_lands)), (A_a1_sights_years, .inl (G.2.1, 8, .inl v_a1_sights_years)), (A_a1_sights_covers, .inl (G.2.1, 8, .inl v_a1_sights_covers))] := hD
  refine lv_aload_n hx hb dX1_take_11 rfl (lv_at hl 0 rfl) ?_
  refine va_get (D := G.1) (ci := 1) (v := .ref A_a0_covering) (C := RX1) (T := TX1) (N := 4) hx hb hts uX1_take_1 hown hK.1 hP 0 rfl rfl 1 (by decide) (hts (.fieldLink RX1 18 "RingShadow$Census" "covering" "[I") (List.mem_of_getElem? (i := 3) rfl)) (fun _ h9 => h9) rfl dX1_take_12 ?_
  obtain ⟨f1, h2, h⟩ := rs_b1s h
  have h := h _ rfl
  refine rs_callNv (As := [.ref A_a0_covering]) (rest := []) ⟨hx, hb, hml, hown, hts⟩ (c_X10_clear l G A_a0_covering v_a0_covering 9 N f1 h2) ⟨va_cnB 1 hts gX1_take_X10_clear_n29 rfl rfl rfl (rs_nw16 hK.2.1) (hts (.initialized RX10) (List.mem_of_getElem? (i := 11) rfl)) (by decide +kernel) ⟨Nat.le_of_ble_eq_true rfl, Nat.le_of_ble_eq_true rfl⟩, (hts (.static yX10_clear) (List.mem_of_getElem? (i := 10) rfl)), trivial⟩ dX1_take_15 hK hP hD hS hA [1] rfl (by decide) rfl rfl hl.1 (lv_room (Nat.le_of_ble_eq_true rfl)) ⟨Nat.zero_le _, Nat.zero_le _⟩ (fun (_ : Unit) => [(A_a0, .inr (1, [.ref A_a0_trial, .ref A_a0_covering, .int 0, .int (-6)])), (A_a0_covering, .inl (G.2.1, 9, .inl f1)), (A_a1, .inr (9, [.ref A_a1_shadow, .ref A_a1_stock, .ref A_a1_sights, .int v_a1_year])), (A_a1_shadow, .inr (4, [.int v_a1_shadow_lands, .int v_a1_shadow_wide, .int v_a1_shadow_pace, .int v_a1_shadow_age, .int v_a1_shadow_slits, .int v_a1_shadow_slitA, .int v_a1_shadow_slitB])), (A_a0_trial, .inr (4, [.int v_a0_trial_lands, .int v_a0_trial_wide, .int v_a0_trial_pace, .int v_a0_trial_age, .int v_a0_trial_slits, .int v_a0_trial_slitA, .int v_a0_trial_slitB])), (A_a1_sights, .inr (5, [.ref A_a1_sights_lands, .ref A_a1_sights_years, .ref A_a1_sights_covers, .int v_a1_sights_count])), (A_a1_sights_lands, .inl (G.2.1, 8, .inl v_a1_sights_lands)), (A_a1_sights_years, .inl (G.2.1, 8, .inl v_a1_sights_years)), (A_a1_sights_covers, .inl (G.2.1, 8, .inl v_a1_sights_covers))]) (fun _ => rfl) (fun _ => rfl) (fun u2 H locs hP hD hS => ?_)
  refine lv_aload_n hx hb dX1_take_18 rfl (lv_at hl 0 rfl) ?_
  refine va_get (D := G.1) (ci := 1) (v := .ref A_a0_trial) (C := RX1) (T := TX1) (N := 4) hx hb hts uX1_take_1 hown hK.1 hP 0 rfl rfl 0 (by decide) (hts (.fieldLink RX1 12 "RingShadow$Census" "trial" "LRingShadow$Shadow;") (List.mem_of_getElem? (i := 4) rfl)) (fun _ h9 => h9) rfl dX1_take_19 ?_
  refine lv_aload_n hx hb dX1_take_22 rfl (lv_at hl 1 rfl) ?_
  refine va_get (D := G.1) (ci := 9) (v := .ref A_a1_shadow) (C := RX9) (T := TX9) (N := 4) hx hb hts uX1_take_9 hown hK.1 hP 2 rfl rfl 0 (by decide) (hts (.fieldLink RX1 33 "RingShadow$World" "shadow" "LRingShadow$Shadow;") (List.mem_of_getElem? (i := 5) rfl)) (fun _ h9 => h9) rfl dX1_take_23 ?_
  refine va_get (D := G.1) (ci := 4) (v := .int v_a1_shadow_lands) (C := RX4) (T := TX4) (N := 7) hx hb hts uX1_take_4 hown hK.1 hP 3 rfl rfl 0 (by decide) (hts (.fieldLink RX1 38 "RingShadow$Shadow" "lands" "I") (List.mem_of_getElem? (i := 6) rfl)) (fun _ h9 => h9) rfl dX1_take_26 ?_
  refine va_put (D := G.1) (ci := 4) (v := .int v_a1_shadow_lands) (ty := .int) (C := RX4) (T := TX4) (N := 7) hx hb hts uX1_take_4 tyX4 tyX4_ok nmX4 hown hK.1 hP hD hS 4 rfl rfl 0 (by decide) (hts (.fieldLink RX1 38 "RingShadow$Shadow" "lands" "I") (List.mem_of_getElem? (i := 6) rfl)) (fun _ h9 => h9) rfl (by decide +kernel) rfl rfl (Nat.le_of_ble_eq_true rfl) dX1_take_29 (fun H locs hP hD hS => ?_)
  have hP : va_P G.1 vwCl [(A_a0, .inr (1, [.ref A_a0_trial, .ref A_a0_covering, .int 0, .int (-6)])), (A_a0_covering, .inl (G.2.1, 9, .inl f1)), (A_a1, .inr (9, [.ref A_a1_shadow, .ref A_a1_stock, .ref A_a1_sights, .int v_a1_year])), (A_a1_shadow, .inr (4, [.int v_a1_shadow_lands, .int v_a1_shadow_wide, .int v_a1_shadow_pace, .int v_a1_shadow_age, .int v_a1_shadow_slits, .int v_a1_shadow_slitA, .int v_a1_shadow_slitB])), (A_a0_trial, .inr (4, [.int v_a1_shadow_lands, .int v_a0_trial_wide, .int v_a0_trial_pace, .int v_a0_trial_age, .int v_a0_trial_slits, .int v_a0_trial_slitA, .int v_a0_trial_slitB])), (A_a1_sights, .inr (5, [.ref A_a1_sights_lands, .ref A_a1_sights_years, .ref A_a1_sights_covers, .int v_a1_sights_count])), (A_a1_sights_lands, .inl (G.2.1, 8, .inl v_a1_sights_lands)), (A_a1_sights_years, .inl (G.2.1, 8, .inl v_a1_sights_years)), (A_a1_sights_covers, .inl (G.2.1, 8, .inl v_a1_sights_covers))] H := hP
  have hD : va_D A [(A_a0, .inr (1, [.ref A_a0_trial, .ref A_a0_covering, .int 0, .int (-6)])), (A_a0_covering, .inl (G.2.1, 9, .inl f1)), (A_a1, .inr (9, [.ref A_a1_shadow, .ref A_a1_stock, .ref A_a1_sights, .int v_a1_year])), (A_a1_shadow, .inr (4, [.int v_a1_shadow_lands, .int v_a1_shadow_wide, .int v_a1_shadow_pace, .int v_a1_shadow_age, .int v_a1_shadow_slits, .int v_a1_shadow_slitA, .int v_a1_shadow_slitB])), (A_a0_trial, .inr (4, [.int v_a1_shadow_lands, .int v_a0_trial_wide, .int v_a0_trial_pace, .int v_a0_trial_age, .int v_a0_trial_slits, .int v_a0_trial_slitA, .int v_a0_trial_slitB])), (A_a1_sights, .inr (5, [.ref A_a1_sights_lands, .ref A_a1_sights_years, .ref A_a1_sights_covers, .int v_a1_sights_count])), (A_a1_sights_lands, .inl (G.2.1, 8, .inl v_a1_sights_lands)), (A_a1_sights_years, .inl (G.2.1, 8, .inl v_a1_sights_years)), (A_a1_sights_covers, .inl (G.2.1, 8, .inl v_a1_sights_covers))] := hD
  refine lv_iconst (v := 1) hx hb dX1_take_32 (by decide) ?_
  refine lv_istore (lv' := [(4, .int 1), (0, .ref A_a0), (1, .ref A_a1), (2, .int p2), (3, .int p3)]) hx hb dX1_take_33 hl (by decide) rfl (fun ls hl => ?_)
  obtain ⟨X68, hX68, h⟩ := rs_b6s h
  have J68 : ∀ (f69 : (Nat → Int32)) (x70 : Int32) (x71 : Int32) (x72 : Int32) (x73 : Int32) (x74 : Int32), X68 = (f69, x70, x71, x72, x73, x74) → ∀  (H : Heap) (locs : List Loc) (ls : Array Slot), va_P G.1 vwCl [(A_a0, .inr (1, [.ref A_a0_trial, .ref A_a0_covering, .int x70, .int x71])), (A_a0_covering, .inl (G.2.1, 9, .inl f69)), (A_a1, .inr (9, [.ref A_a1_shadow, .ref A_a1_stock, .ref A_a1_sights, .int v_a1_year])), (A_a1_shadow, .inr (4, [.int v_a1_shadow_lands, .int v_a1_shadow_wide, .int v_a1_shadow_pace, .int v_a1_shadow_age, .int v_a1_shadow_slits, .int v_a1_shadow_slitA, .int v_a1_shadow_slitB])), (A_a0_trial, .inr (4, [.int v_a1_shadow_lands, .int x72, .int x73, .int x74, .int v_a0_trial_slits, .int v_a0_trial_slitA, .int v_a0_trial_slitB])), (A_a1_sights, .inr (5, [.ref A_a1_sights_lands, .ref A_a1_sights_years, .ref A_a1_sights_covers, .int v_a1_sights_count])), (A_a1_sights_lands, .inl (G.2.1, 8, .inl v_a1_sights_lands)), (A_a1_sights_years, .inl (G.2.1, 8, .inl v_a1_sights_years)), (A_a1_sights_covers, .inl (G.2.1, 8, .inl v_a1_sights_covers))] H → va_D A [(A_a0, .inr (1, [.ref A_a0_trial, .ref A_a0_covering, .int x70, .int x71])), (A_a0_covering, .inl (G.2.1, 9, .inl f69)), (A_a1, .inr (9, [.ref A_a1_shadow, .ref A_a1_stock, .ref A_a1_sights, .int v_a1_year])), (A_a1_shadow, .inr (4, [.int v_a1_shadow_lands, .int v_a1_shadow_wide, .int v_a1_shadow_pace, .int v_a1_shadow_age, .int v_a1_shadow_slits, .int v_a1_shadow_slitA, .int v_a1_shadow_slitB])), (A_a0_trial, .inr (4, [.int v_a1_shadow_lands, .int x72, .int x73, .int x74, .int v_a0_trial_slits, .int v_a0_trial_slitA, .int v_a0_trial_slitB])), (A_a1_sights, .inr (5, [.ref A_a1_sights_lands, .ref A_a1_sights_years, .ref A_a1_sights_covers, .int v_a1_sights_count])), (A_a1_sights_lands, .inl (G.2.1, 8, .inl v_a1_sights_lands)), (A_a1_sights_years, .inl (G.2.1, 8, .inl v_a1_sights_years)), (A_a1_sights_covers, .inl (G.2.1, 8, .inl v_a1_sights_covers))] → va_S A s.heap H locs → lv_has ls 6 [] → W p l e rmX1_take s m args below meth c H locs 0 0 Q (F0 m 104 ls []) := by
    intro f69 x70 x71 x72 x73 x74 hz  H locs ls hP hD hS hl
    have h := h _ _ _ _ _ _ hz
    exact ret _ _ _ _ _ _ _ () _ _ _ _ h hP hS dX1_take_104
  refine rs_l7W (Wd := fun (f32 : (Nat → Int32)) (x33 : Int32) (x34 : Int32) (x35 : Int32) (x36 : Int32) (x37 : Int32) (x38 : Int32) => ∀  (H : Heap) (locs : List Loc) (ls : Array Slot), va_P G.1 vwCl [(A_a0, .inr (1, [.ref A_a0_trial, .ref A_a0_covering, .int x33, .int x34])), (A_a0_covering, .inl (G.2.1, 9, .inl f32)), (A_a1, .inr (9, [.ref A_a1_shadow, .ref A_a1_stock, .ref A_a1_sights, .int v_a1_year])), (A_a1_shadow, .inr (4, [.int v_a1_shadow_lands, .int v_a1_shadow_wide, .int v_a1_shadow_pace, .int v_a1_shadow_age, .int v_a1_shadow_slits, .int v_a1_shadow_slitA, .int v_a1_shadow_slitB])), (A_a0_trial, .inr (4, [.int v_a1_shadow_lands, .int x35, .int x36, .int x37, .int v_a0_trial_slits, .int v_a0_trial_slitA, .int v_a0_trial_slitB])), (A_a1_sights, .inr (5, [.ref A_a1_sights_lands, .ref A_a1_sights_years, .ref A_a1_sights_covers, .int v_a1_sights_count])), (A_a1_sights_lands, .inl (G.2.1, 8, .inl v_a1_sights_lands)), (A_a1_sights_years, .inl (G.2.1, 8, .inl v_a1_sights_years)), (A_a1_sights_covers, .inl (G.2.1, 8, .inl v_a1_sights_covers))] H → va_D A [(A_a0, .inr (1, [.ref A_a0_trial, .ref A_a0_covering, .int x33, .int x34])), (A_a0_covering, .inl (G.2.1, 9, .inl f32)), (A_a1, .inr (9, [.ref A_a1_shadow, .ref A_a1_stock, .ref A_a1_sights, .int v_a1_year])), (A_a1_shadow, .inr (4, [.int v_a1_shadow_lands, .int v_a1_shadow_wide, .int v_a1_shadow_pace, .int v_a1_shadow_age, .int v_a1_shadow_slits, .int v_a1_shadow_slitA, .int v_a1_shadow_slitB])), (A_a0_trial, .inr (4, [.int v_a1_shadow_lands, .int x35, .int x36, .int x37, .int v_a0_trial_slits, .int v_a0_trial_slitA, .int v_a0_trial_slitB])), (A_a1_sights, .inr (5, [.ref A_a1_sights_lands, .ref A_a1_sights_years, .ref A_a1_sights_covers, .int v_a1_sights_count])), (A_a1_sights_lands, .inl (G.2.1, 8, .inl v_a1_sights_lands)), (A_a1_sights_years, .inl (G.2.1, 8, .inl v_a1_sights_years)), (A_a1_sights_covers, .inl (G.2.1, 8, .inl v_a1_sights_covers))] → va_S A s.heap H locs → lv_has ls 6 [(0, .ref A_a0), (1, .ref A_a1), (2, .int p2), (3, .int p3), (4, .int x38)] → W p l e rmX1_take s m args below meth c H locs 0 0 Q (F0 m 35 ls [])) ?_ N f1 0 (-6) v_a0_trial_wide v_a0_trial_pace v_a0_trial_age 1 hX68 _ _ _ hP hD hS (lv_sub hl [1, 2, 3, 4, 0] rfl)
  intro f32 x33 x34 x35 x36 x37 x38 o68 h K68 L68  H locs ls hP hD hS hl
  unfold f_X1_take_L35 at h
  refine lv_iload hx hb dX1_take_35 (lv_at hl 4 rfl) ?_
  refine lv_aload_n hx hb dX1_take_37 rfl (lv_at hl 0 rfl) ?_
  refine va_get (D := G.1) (ci := 1) (v := .ref A_a0_trial) (C := RX1) (T := TX1) (N := 4) hx hb hts uX1_take_1 hown hK.1 hP 0 rfl rfl 0 (by decide) (hts (.fieldLink RX1 12 "RingShadow$Census" "trial" "LRingShadow$Shadow;") (List.mem_of_getElem? (i := 4) rfl)) (fun _ h9 => h9) rfl dX1_take_38 ?_
  refine va_get (D := G.1) (ci := 4) (v := .int v_a1_shadow_lands) (C := RX4) (T := TX4) (N := 7) hx hb hts uX1_take_4 hown hK.1 hP 4 rfl rfl 0 (by decide) (hts (.fieldLink RX1 38 "RingShadow$Shadow" "lands" "I") (List.mem_of_getElem? (i := 6) rfl)) (fun _ h9 => h9) rfl dX1_take_41 ?_
  refine lv_icmp_ge (tgt := 104) hx hb dX1_take_44 (by decide) (fun hc => ?_) (fun hc => ?_)
  · have h := rs_pos hc h
    exact J68 _ _ _ _ _ _ (L68 _ (Option.some.inj h).symm) _ _ _ hP hD hS (lv_sub hl [] rfl)
  have h := rs_neg hc h
  refine lv_iload hx hb dX1_take_47 (lv_at hl 4 rfl) ?_
  refine lv_bipush (v := 8) hx hb dX1_take_49 (by decide) ?_
  refine lv_icmp_gt (tgt := 104) hx hb dX1_take_51 (by decide) (fun hc => ?_) (fun hc => ?_)
  · have h := rs_pos hc h
    exact J68 _ _ _ _ _ _ (L68 _ (Option.some.inj h).symm) _ _ _ hP hD hS (lv_sub hl [] rfl)
  have h := rs_neg hc h
  refine lv_iconst (v := 1) hx hb dX1_take_54 (by decide) ?_
  refine lv_istore (lv' := [(5, .int 1), (0, .ref A_a0), (1, .ref A_a1), (2, .int p2), (3, .int p3), (4, .int x38)]) hx hb dX1_take_55 hl (by decide) rfl (fun ls hl => ?_)
  obtain ⟨X92, hX92, h⟩ := rs_b6s h
  have J92 : ∀ (f93 : (Nat → Int32)) (x94 : Int32) (x95 : Int32) (x96 : Int32) (x97 : Int32) (x98 : Int32), X92 = (f93, x94, x95, x96, x97, x98) → ∀  (H : Heap) (locs : List Loc) (ls : Array Slot), va_P G.1 vwCl [(A_a0, .inr (1, [.ref A_a0_trial, .ref A_a0_covering, .int x94, .int x95])), (A_a0_covering, .inl (G.2.1, 9, .inl f93)), (A_a1, .inr (9, [.ref A_a1_shadow, .ref A_a1_stock, .ref A_a1_sights, .int v_a1_year])), (A_a1_shadow, .inr (4, [.int v_a1_shadow_lands, .int v_a1_shadow_wide, .int v_a1_shadow_pace, .int v_a1_shadow_age, .int v_a1_shadow_slits, .int v_a1_shadow_slitA, .int v_a1_shadow_slitB])), (A_a0_trial, .inr (4, [.int v_a1_shadow_lands, .int x96, .int x97, .int x98, .int v_a0_trial_slits, .int v_a0_trial_slitA, .int v_a0_trial_slitB])), (A_a1_sights, .inr (5, [.ref A_a1_sights_lands, .ref A_a1_sights_years, .ref A_a1_sights_covers, .int v_a1_sights_count])), (A_a1_sights_lands, .inl (G.2.1, 8, .inl v_a1_sights_lands)), (A_a1_sights_years, .inl (G.2.1, 8, .inl v_a1_sights_years)), (A_a1_sights_covers, .inl (G.2.1, 8, .inl v_a1_sights_covers))] H → va_D A [(A_a0, .inr (1, [.ref A_a0_trial, .ref A_a0_covering, .int x94, .int x95])), (A_a0_covering, .inl (G.2.1, 9, .inl f93)), (A_a1, .inr (9, [.ref A_a1_shadow, .ref A_a1_stock, .ref A_a1_sights, .int v_a1_year])), (A_a1_shadow, .inr (4, [.int v_a1_shadow_lands, .int v_a1_shadow_wide, .int v_a1_shadow_pace, .int v_a1_shadow_age, .int v_a1_shadow_slits, .int v_a1_shadow_slitA, .int v_a1_shadow_slitB])), (A_a0_trial, .inr (4, [.int v_a1_shadow_lands, .int x96, .int x97, .int x98, .int v_a0_trial_slits, .int v_a0_trial_slitA, .int v_a0_trial_slitB])), (A_a1_sights, .inr (5, [.ref A_a1_sights_lands, .ref A_a1_sights_years, .ref A_a1_sights_covers, .int v_a1_sights_count])), (A_a1_sights_lands, .inl (G.2.1, 8, .inl v_a1_sights_lands)), (A_a1_sights_years, .inl (G.2.1, 8, .inl v_a1_sights_years)), (A_a1_sights_covers, .inl (G.2.1, 8, .inl v_a1_sights_covers))] → va_S A s.heap H locs → lv_has ls 6 [(0, .ref A_a0), (1, .ref A_a1), (2, .int p2), (3, .int p3), (4, .int x38)] → W p l e rmX1_take s m args below meth c H locs 0 0 Q (F0 m 98 ls []) := by
    intro f93 x94 x95 x96 x97 x98 hz  H locs ls hP hD hS hl
    have h := h _ _ _ _ _ _ hz
    refine lv_iinc (v := (x38 + 1)) (lv' := [(4, .int (x38 + 1)), (0, .ref A_a0), (1, .ref A_a1), (2, .int p2), (3, .int p3)]) hx hb dX1_take_98 hl (k := 4) rfl (by first | rfl | decide) (by decide) rfl (fun ls hl => ?_)
    refine lv_goto (tgt := 35) hx hb dX1_take_101 (by decide) ?_
    exact K68 _ _ _ _ _ _ _ (Option.some.inj h).symm _ _ _ hP hD hS (lv_sub hl [1, 2, 3, 4, 0] rfl)
  refine rs_l7W (Wd := fun (f80 : (Nat → Int32)) (x81 : Int32) (x82 : Int32) (x83 : Int32) (x84 : Int32) (x85 : Int32) (x86 : Int32) => ∀  (H : Heap) (locs : List Loc) (ls : Array Slot), va_P G.1 vwCl [(A_a0, .inr (1, [.ref A_a0_trial, .ref A_a0_covering, .int x81, .int x82])), (A_a0_covering, .inl (G.2.1, 9, .inl f80)), (A_a1, .inr (9, [.ref A_a1_shadow, .ref A_a1_stock, .ref A_a1_sights, .int v_a1_year])), (A_a1_shadow, .inr (4, [.int v_a1_shadow_lands, .int v_a1_shadow_wide, .int v_a1_shadow_pace, .int v_a1_shadow_age, .int v_a1_shadow_slits, .int v_a1_shadow_slitA, .int v_a1_shadow_slitB])), (A_a0_trial, .inr (4, [.int v_a1_shadow_lands, .int x83, .int x84, .int x85, .int v_a0_trial_slits, .int v_a0_trial_slitA, .int v_a0_trial_slitB])), (A_a1_sights, .inr (5, [.ref A_a1_sights_lands, .ref A_a1_sights_years, .ref A_a1_sights_covers, .int v_a1_sights_count])), (A_a1_sights_lands, .inl (G.2.1, 8, .inl v_a1_sights_lands)), (A_a1_sights_years, .inl (G.2.1, 8, .inl v_a1_sights_years)), (A_a1_sights_covers, .inl (G.2.1, 8, .inl v_a1_sights_covers))] H → va_D A [(A_a0, .inr (1, [.ref A_a0_trial, .ref A_a0_covering, .int x81, .int x82])), (A_a0_covering, .inl (G.2.1, 9, .inl f80)), (A_a1, .inr (9, [.ref A_a1_shadow, .ref A_a1_stock, .ref A_a1_sights, .int v_a1_year])), (A_a1_shadow, .inr (4, [.int v_a1_shadow_lands, .int v_a1_shadow_wide, .int v_a1_shadow_pace, .int v_a1_shadow_age, .int v_a1_shadow_slits, .int v_a1_shadow_slitA, .int v_a1_shadow_slitB])), (A_a0_trial, .inr (4, [.int v_a1_shadow_lands, .int x83, .int x84, .int x85, .int v_a0_trial_slits, .int v_a0_trial_slitA, .int v_a0_trial_slitB])), (A_a1_sights, .inr (5, [.ref A_a1_sights_lands, .ref A_a1_sights_years, .ref A_a1_sights_covers, .int v_a1_sights_count])), (A_a1_sights_lands, .inl (G.2.1, 8, .inl v_a1_sights_lands)), (A_a1_sights_years, .inl (G.2.1, 8, .inl v_a1_sights_years)), (A_a1_sights_covers, .inl (G.2.1, 8, .inl v_a1_sights_covers))] → va_S A s.heap H locs → lv_has ls 6 [(0, .ref A_a0), (1, .ref A_a1), (2, .int p2), (3, .int p3), (4, .int x38), (5, .int x86)] → W p l e rmX1_take s m args below meth c H locs 0 0 Q (F0 m 57 ls [])) ?_ N f32 x33 x34 x35 x36 x37 1 hX92 _ _ _ hP hD hS (lv_sub hl [1, 2, 3, 4, 5, 0] rfl)
  intro f80 x81 x82 x83 x84 x85 x86 o92 h K92 L92  H locs ls hP hD hS hl
  unfold f_X1_take_L57 at h
  refine lv_iload hx hb dX1_take_57 (lv_at hl 5 rfl) ?_
  refine lv_bipush (v := 9) hx hb dX1_take_59 (by decide) ?_
  refine lv_icmp_gt (tgt := 98) hx hb dX1_take_61 (by decide) (fun hc => ?_) (fun hc => ?_)
  · have h := rs_pos hc h
    exact J92 _ _ _ _ _ _ (L92 _ (Option.some.inj h).symm) _ _ _ hP hD hS (lv_sub hl [0, 1, 2, 3, 4] rfl)
  have h := rs_neg hc h
  refine lv_aload_n hx hb dX1_take_64 rfl (lv_at hl 0 rfl) ?_
  refine va_get (D := G.1) (ci := 1) (v := .ref A_a0_trial) (C := RX1) (T := TX1) (N := 4) hx hb hts uX1_take_1 hown hK.1 hP 0 rfl rfl 0 (by decide) (hts (.fieldLink RX1 12 "RingShadow$Census" "trial" "LRingShadow$Shadow;") (List.mem_of_getElem? (i := 4) rfl)) (fun _ h9 => h9) rfl dX1_take_65 ?_
  refine lv_iload hx hb dX1_take_68 (lv_at hl 4 rfl) ?_
  refine va_put (D := G.1) (ci := 4) (v := .int x38) (ty := .int) (C := RX4) (T := TX4) (N := 7) hx hb hts uX1_take_4 tyX4 tyX4_ok nmX4 hown hK.1 hP hD hS 4 rfl rfl 1 (by decide) (hts (.fieldLink RX1 41 "RingShadow$Shadow" "wide" "I") (List.mem_of_getElem? (i := 7) rfl)) (fun _ h9 => h9) rfl (by decide +kernel) rfl rfl (Nat.le_of_ble_eq_true rfl) dX1_take_70 (fun H locs hP hD hS => ?_)
  have hP : va_P G.1 vwCl [(A_a0, .inr (1, [.ref A_a0_trial, .ref A_a0_covering, .int x81, .int x82])), (A_a0_covering, .inl (G.2.1, 9, .inl f80)), (A_a1, .inr (9, [.ref A_a1_shadow, .ref A_a1_stock, .ref A_a1_sights, .int v_a1_year])), (A_a1_shadow, .inr (4, [.int v_a1_shadow_lands, .int v_a1_shadow_wide, .int v_a1_shadow_pace, .int v_a1_shadow_age, .int v_a1_shadow_slits, .int v_a1_shadow_slitA, .int v_a1_shadow_slitB])), (A_a0_trial, .inr (4, [.int v_a1_shadow_lands, .int x38, .int x84, .int x85, .int v_a0_trial_slits, .int v_a0_trial_slitA, .int v_a0_trial_slitB])), (A_a1_sights, .inr (5, [.ref A_a1_sights_lands, .ref A_a1_sights_years, .ref A_a1_sights_covers, .int v_a1_sights_count])), (A_a1_sights_lands, .inl (G.2.1, 8, .inl v_a1_sights_lands)), (A_a1_sights_years, .inl (G.2.1, 8, .inl v_a1_sights_years)), (A_a1_sights_covers, .inl (G.2.1, 8, .inl v_a1_sights_covers))] H := hP
  have hD : va_D A [(A_a0, .inr (1, [.ref A_a0_trial, .ref A_a0_covering, .int x81, .int x82])), (A_a0_covering, .inl (G.2.1, 9, .inl f80)), (A_a1, .inr (9, [.ref A_a1_shadow, .ref A_a1_stock, .ref A_a1_sights, .int v_a1_year])), (A_a1_shadow, .inr (4, [.int v_a1_shadow_lands, .int v_a1_shadow_wide, .int v_a1_shadow_pace, .int v_a1_shadow_age, .int v_a1_shadow_slits, .int v_a1_shadow_slitA, .int v_a1_shadow_slitB])), (A_a0_trial, .inr (4, [.int v_a1_shadow_lands, .int x38, .int x84, .int x85, .int v_a0_trial_slits, .int v_a0_trial_slitA, .int v_a0_trial_slitB])), (A_a1_sights, .inr (5, [.ref A_a1_sights_lands, .ref A_a1_sights_years, .ref A_a1_sights_covers, .int v_a1_sights_count])), (A_a1_sights_lands, .inl (G.2.1, 8, .inl v_a1_sights_lands)), (A_a1_sights_years, .inl (G.2.1, 8, .inl v_a1_sights_years)), (A_a1_sights_covers, .inl (G.2.1, 8, .inl v_a1_sights_covers))] := hD
  refine lv_aload_n hx hb dX1_take_73 rfl (lv_at hl 0 rfl) ?_
  refine va_get (D := G.1) (ci := 1) (v := .ref A_a0_trial) (C := RX1) (T := TX1) (N := 4) hx hb hts uX1_take_1 hown hK.1 hP 0 rfl rfl 0 (by decide) (hts (.fieldLink RX1 12 "RingShadow$Census" "trial" "LRingShadow$Shadow;") (List.mem_of_getElem? (i := 4) rfl)) (fun _ h9 => h9) rfl dX1_take_74 ?_
  refine lv_iload hx hb dX1_take_77 (lv_at hl 5 rfl) ?_
  refine va_put (D := G.1) (ci := 4) (v := .int x86) (ty := .int) (C := RX4) (T := TX4) (N := 7) hx hb hts uX1_take_4 tyX4 tyX4_ok nmX4 hown hK.1 hP hD hS 4 rfl rfl 2 (by decide) (hts (.fieldLink RX1 44 "RingShadow$Shadow" "pace" "I") (List.mem_of_getElem? (i := 8) rfl)) (fun _ h9 => h9) rfl (by decide +kernel) rfl rfl (Nat.le_of_ble_eq_true rfl) dX1_take_79 (fun H locs hP hD hS => ?_)
  have hP : va_P G.1 vwCl [(A_a0, .inr (1, [.ref A_a0_trial, .ref A_a0_covering, .int x81, .int x82])), (A_a0_covering, .inl (G.2.1, 9, .inl f80)), (A_a1, .inr (9, [.ref A_a1_shadow, .ref A_a1_stock, .ref A_a1_sights, .int v_a1_year])), (A_a1_shadow, .inr (4, [.int v_a1_shadow_lands, .int v_a1_shadow_wide, .int v_a1_shadow_pace, .int v_a1_shadow_age, .int v_a1_shadow_slits, .int v_a1_shadow_slitA, .int v_a1_shadow_slitB])), (A_a0_trial, .inr (4, [.int v_a1_shadow_lands, .int x38, .int x86, .int x85, .int v_a0_trial_slits, .int v_a0_trial_slitA, .int v_a0_trial_slitB])), (A_a1_sights, .inr (5, [.ref A_a1_sights_lands, .ref A_a1_sights_years, .ref A_a1_sights_covers, .int v_a1_sights_count])), (A_a1_sights_lands, .inl (G.2.1, 8, .inl v_a1_sights_lands)), (A_a1_sights_years, .inl (G.2.1, 8, .inl v_a1_sights_years)), (A_a1_sights_covers, .inl (G.2.1, 8, .inl v_a1_sights_covers))] H := hP
  have hD : va_D A [(A_a0, .inr (1, [.ref A_a0_trial, .ref A_a0_covering, .int x81, .int x82])), (A_a0_covering, .inl (G.2.1, 9, .inl f80)), (A_a1, .inr (9, [.ref A_a1_shadow, .ref A_a1_stock, .ref A_a1_sights, .int v_a1_year])), (A_a1_shadow, .inr (4, [.int v_a1_shadow_lands, .int v_a1_shadow_wide, .int v_a1_shadow_pace, .int v_a1_shadow_age, .int v_a1_shadow_slits, .int v_a1_shadow_slitA, .int v_a1_shadow_slitB])), (A_a0_trial, .inr (4, [.int v_a1_shadow_lands, .int x38, .int x86, .int x85, .int v_a0_trial_slits, .int v_a0_trial_slitA, .int v_a0_trial_slitB])), (A_a1_sights, .inr (5, [.ref A_a1_sights_lands, .ref A_a1_sights_years, .ref A_a1_sights_covers, .int v_a1_sights_count])), (A_a1_sights_lands, .inl (G.2.1, 8, .inl v_a1_sights_lands)), (A_a1_sights_years, .inl (G.2.1, 8, .inl v_a1_sights_years)), (A_a1_sights_covers, .inl (G.2.1, 8, .inl v_a1_sights_covers))] := hD
  refine lv_aload_n hx hb dX1_take_82 rfl (lv_at hl 0 rfl) ?_
  refine lv_aload_n hx hb dX1_take_83 rfl (lv_at hl 1 rfl) ?_
  refine va_get (D := G.1) (ci := 9) (v := .ref A_a1_sights) (C := RX9) (T := TX9) (N := 4) hx hb hts uX1_take_9 hown hK.1 hP 2 rfl rfl 2 (by decide) (hts (.fieldLink RX1 47 "RingShadow$World" "sights" "LRingShadow$Sights;") (List.mem_of_getElem? (i := 9) rfl)) (fun _ h9 => h9) rfl dX1_take_84 ?_
  refine lv_iload_n hx hb dX1_take_87 rfl (lv_at hl 2 rfl) ?_
  refine lv_iload_n hx hb dX1_take_88 rfl (lv_at hl 3 rfl) ?_
  obtain ⟨⟨x99, x100, x101, f102⟩, h103, h⟩ := rs_b4s h
  have h := h _ _ _ _ rfl
  refine rs_callVv (As := [.ref A_a1_sights, .int p2, .int p3]) (rest := []) ⟨hx, hb, hml, hown, hts⟩ (c_X1_takeAges l G A_a0 A_a1_sights A_a0_trial A_a0_covering A_a1_sights_lands A_a1_sights_years A_a1_sights_covers x81 x82 v_a1_shadow_lands x38 x86 x85 v_a0_trial_slits v_a0_trial_slitA v_a0_trial_slitB v_a1_sights_count v_a1_sights_lands v_a1_sights_years v_a1_sights_covers f80 p2 p3 N x99 x100 x101 f102 h103) (cwV 3 hts gX1_take_X1_takeAges rfl rfl rfl (by decide +kernel) ⟨Nat.le_of_ble_eq_true rfl, Nat.le_of_ble_eq_true rfl⟩) dX1_take_89 hK hP hD hS hA [0, 4, 5, 6, 7, 8, 1] rfl (by decide) rfl rfl (q0 := 0) (ci := 1) rfl rfl rfl hl.1 (lv_room (Nat.le_of_ble_eq_true rfl)) ⟨Nat.zero_le _, Nat.zero_le _⟩ (fun (_ : Unit) => [(A_a0, .inr (1, [.ref A_a0_trial, .ref A_a0_covering, .int x99, .int x100])), (A_a0_covering, .inl (G.2.1, 9, .inl f102)), (A_a1, .inr (9, [.ref A_a1_shadow, .ref A_a1_stock, .ref A_a1_sights, .int v_a1_year])), (A_a1_shadow, .inr (4, [.int v_a1_shadow_lands, .int v_a1_shadow_wide, .int v_a1_shadow_pace, .int v_a1_shadow_age, .int v_a1_shadow_slits, .int v_a1_shadow_slitA, .int v_a1_shadow_slitB])), (A_a0_trial, .inr (4, [.int v_a1_shadow_lands, .int x38, .int x86, .int x101, .int v_a0_trial_slits, .int v_a0_trial_slitA, .int v_a0_trial_slitB])), (A_a1_sights, .inr (5, [.ref A_a1_sights_lands, .ref A_a1_sights_years, .ref A_a1_sights_covers, .int v_a1_sights_count])), (A_a1_sights_lands, .inl (G.2.1, 8, .inl v_a1_sights_lands)), (A_a1_sights_years, .inl (G.2.1, 8, .inl v_a1_sights_years)), (A_a1_sights_covers, .inl (G.2.1, 8, .inl v_a1_sights_covers))]) (fun _ => rfl) (fun _ => rfl) (fun u103 H locs hP hD hS => ?_)
  refine lv_iinc (v := (x86 + 1)) (lv' := [(5, .int (x86 + 1)), (0, .ref A_a0), (1, .ref A_a1), (2, .int p2), (3, .int p3), (4, .int x38)]) hx hb dX1_take_92 hl (k := 5) rfl (by first | rfl | decide) (by decide) rfl (fun ls hl => ?_)
  refine lv_goto (tgt := 57) hx hb dX1_take_95 (by decide) ?_
  exact K92 _ _ _ _ _ _ _ (Option.some.inj h).symm _ _ _ hP hD hS (lv_sub hl [1, 2, 3, 4, 5, 0] rfl)
theorem uX1_leftAtMost_1 : ∀ w ∈ wsX10, w ∈ wsX1_leftAtMost := fun _ h => List.mem_cons_of_mem _ (List.mem_append_right _ h)
abbrev rmX1_leftAtMost : Room := { frames := 1, cells := 0, slots := 0, locals := 21 }
set_option maxRecDepth 100000 in
set_option maxHeartbeats 4000000 in
theorem c_X1_leftAtMost (l : Launch) (G : rs_G) (A_a0 : Nat) (A_a0_trial : Nat) (A_a0_covering : Nat) (v_a0_count : Int32) (v_a0_law : Int32) (v_a0_covering : (Nat → Int32)) (p1 : Int32) (r0 : Int32) (h : f_X1_leftAtMost p1 v_a0_count v_a0_covering = some r0) : rs_Ci l yX1_leftAtMost wsX1_leftAtMost rmX1_leftAtMost G [.ref A_a0, .int p1] [(A_a0, .inr (1, [.ref A_a0_trial, .ref A_a0_covering, .int v_a0_count, .int v_a0_law])), (A_a0_covering, .inl (G.2.1, 9, .inl v_a0_covering))] (fun (_ : Unit) => [(A_a0, .inr (1, [.ref A_a0_trial, .ref A_a0_covering, .int v_a0_count, .int v_a0_law])), (A_a0_covering, .inl (G.2.1, 9, .inl v_a0_covering))]) r0 := by
  refine rs_enter_i (cc := cX1_leftAtMost) (maxL := 3) (ty := .int) (by decide) rfl (Nat.le_of_ble_eq_true rfl) (fun p e s m args below meth c A Q ls E ret hP hD hS hA hl => ?_)
  obtain ⟨hx, hb, hml, hown, hts, hK⟩ := E
  have hown : s.vm.findClass RX1 = some m.cls := hown
  have hl : lv_has ls 3 [(0, .ref A_a0), (1, .int p1)] := hl
  have ret : ∀ (v0 : Int32) (u : Unit) (H : Heap) (locs : List Loc) (pc : Nat) (ls : Array Slot), some v0 = some r0 → va_P G.1 vwCl [(A_a0, .inr (1, [.ref A_a0_trial, .ref A_a0_covering, .int v_a0_count, .int v_a0_law])), (A_a0_covering, .inl (G.2.1, 9, .inl v_a0_covering))] H → va_S A s.heap H locs → decode cX1_leftAtMost pc = .ok (.ireturn, 1) → narrow .int (.int v0) = .int v0 → W p l e rmX1_leftAtMost s m args below meth c H locs 0 0 Q (F0 m pc ls [.int v0]) := by
    intro v0 u H locs pc ls hz
    cases hz
    exact ret u H locs pc ls
  unfold f_X1_leftAtMost at h
  refine lv_aload_n hx hb dX1_leftAtMost_0 rfl (lv_at hl 0 rfl) ?_
  refine va_get (D := G.1) (ci := 1) (v := .ref A_a0_covering) (C := RX1) (T := TX1) (N := 4) hx hb hts uX1_leftAtMost_1 hown hK.1 hP 0 rfl rfl 1 (by decide) (hts (.fieldLink RX1 18 "RingShadow$Census" "covering" "[I") (List.mem_of_getElem? (i := 1) rfl)) (fun _ h9 => h9) rfl dX1_leftAtMost_1 ?_
  refine lv_iload_n hx hb dX1_leftAtMost_4 rfl (lv_at hl 1 rfl) ?_
  obtain ⟨x1, h2, h⟩ := rs_b1s h
  have h := h _ rfl
  refine rs_callNi (As := [.ref A_a0_covering, .int p1]) (rest := []) ⟨hx, hb, hml, hown, hts⟩ (c_X10_at l G A_a0_covering v_a0_covering 9 p1 x1 h2) ⟨va_cnB 2 hts gX1_leftAtMost_X10_at_n82 rfl rfl rfl (rs_nw18 hK.2.1) (hts (.initialized RX10) (List.mem_of_getElem? (i := 8) rfl)) (by decide +kernel) ⟨Nat.le_of_ble_eq_true rfl, Nat.le_of_ble_eq_true rfl⟩, (hts (.static yX10_at) (List.mem_of_getElem? (i := 7) rfl)), trivial⟩ dX1_leftAtMost_5 hK hP hD hS hA [1] rfl (by decide) rfl rfl hl.1 (lv_room (Nat.le_of_ble_eq_true rfl)) ⟨Nat.zero_le _, Nat.zero_le _⟩ (fun (_ : Unit) => [(A_a0, .inr (1, [.ref A_a0_trial, .ref A_a0_covering, .int v_a0_count, .int v_a0_law])), (A_a0_covering, .inl (G.2.1, 9, .inl v_a0_covering))]) (fun _ => rfl) (fun _ => rfl) (fun u2 H locs hP hD hS => ?_)
  refine lv_istore_n (lv' := [(2, .int x1), (0, .ref A_a0), (1, .int p1)]) hx hb dX1_leftAtMost_8 rfl hl (by decide) rfl (fun ls hl => ?_)
  refine lv_iload_n hx hb dX1_leftAtMost_9 rfl (lv_at hl 0 rfl) ?_
  refine lv_aload_n hx hb dX1_leftAtMost_10 rfl (lv_at hl 1 rfl) ?_
  refine va_get (D := G.1) (ci := 1) (v := .int v_a0_count) (C := RX1) (T := TX1) (N := 4) hx hb hts uX1_leftAtMost_1 hown hK.1 hP 0 rfl rfl 2 (by decide) (hts (.fieldLink RX1 22 "RingShadow$Census" "count" "I") (List.mem_of_getElem? (i := 2) rfl)) (fun _ h9 => h9) rfl dX1_leftAtMost_11 ?_
  refine lv_iload_n hx hb dX1_leftAtMost_14 rfl (lv_at hl 0 rfl) ?_
  refine lv_isub hx hb dX1_leftAtMost_15 ?_
  refine va_mmax hx hb (hml.trans hl.1.symm) hown (hts (.methodLink RX1 90 Lib.Math.max.name) (List.mem_of_getElem? (i := 3) rfl)) (hts (.static Lib.Math.max.name) (List.mem_of_getElem? (i := 4) rfl)) (hts (.initialized "java/lang/Math") (List.mem_of_getElem? (i := 5) rfl)) (hts (.code Lib.Math.max.name Lib.Math.max.code 2 (some .int)) (List.mem_of_getElem? (i := 6) rfl)) (Nat.le_of_ble_eq_true rfl) (Nat.le_of_ble_eq_true rfl) (Nat.zero_le _) (Nat.zero_le _) dX1_leftAtMost_16 ?_
  exact ret _ () _ _ _ _ h hP hS dX1_leftAtMost_19 rfl
abbrev rmX1_bestLook : Room := { frames := 2, cells := 0, slots := 0, locals := 43 }
set_option maxRecDepth 100000 in
set_option maxHeartbeats 4000000 in
theorem c_X1_bestLook (l : Launch) (G : rs_G) (A_a0 : Nat) (A_a0_trial : Nat) (A_a0_covering : Nat) (v_a0_count : Int32) (v_a0_law : Int32) (v_a0_covering : (Nat → Int32)) (p1 : Int32) (N : Nat) (r0 : Int32) (h : f_X1_bestLook N p1 v_a0_count v_a0_covering = some r0) : rs_Ci l yX1_bestLook wsX1_bestLook rmX1_bestLook G [.ref A_a0, .int p1] [(A_a0, .inr (1, [.ref A_a0_trial, .ref A_a0_covering, .int v_a0_count, .int v_a0_law])), (A_a0_covering, .inl (G.2.1, 9, .inl v_a0_covering))] (fun (_ : Unit) => [(A_a0, .inr (1, [.ref A_a0_trial, .ref A_a0_covering, .int v_a0_count, .int v_a0_law])), (A_a0_covering, .inl (G.2.1, 9, .inl v_a0_covering))]) r0 := by
  refine rs_enter_i (cc := cX1_bestLook) (maxL := 4) (ty := .int) (by decide) rfl (Nat.le_of_ble_eq_true rfl) (fun p e s m args below meth c A Q ls E ret hP hD hS hA hl => ?_)
  obtain ⟨hx, hb, hml, hown, hts, hK⟩ := E
  have hown : s.vm.findClass RX1 = some m.cls := hown
  have hl : lv_has ls 4 [(0, .ref A_a0), (1, .int p1)] := hl
  have ret : ∀ (v0 : Int32) (u : Unit) (H : Heap) (locs : List Loc) (pc : Nat) (ls : Array Slot), some v0 = some r0 → va_P G.1 vwCl [(A_a0, .inr (1, [.ref A_a0_trial, .ref A_a0_covering, .int v_a0_count, .int v_a0_law])), (A_a0_covering, .inl (G.2.1, 9, .inl v_a0_covering))] H → va_S A s.heap H locs → decode cX1_bestLook pc = .ok (.ireturn, 1) → narrow .int (.int v0) = .int v0 → W p l e rmX1_bestLook s m args below meth c H locs 0 0 Q (F0 m pc ls [.int v0]) := by
    intro v0 u H locs pc ls hz
    cases hz
    exact ret u H locs pc ls
  unfold f_X1_bestLook at h
  refine lv_iconst (v := 0) hx hb dX1_bestLook_0 (by decide) ?_
  refine lv_istore_n (lv' := [(2, .int 0), (0, .ref A_a0), (1, .int p1)]) hx hb dX1_bestLook_1 rfl hl (by decide) rfl (fun ls hl => ?_)
  refine lv_iconst (v := 1) hx hb dX1_bestLook_2 (by decide) ?_
  refine lv_istore_n (lv' := [(3, .int 1), (2, .int 0), (0, .ref A_a0), (1, .int p1)]) hx hb dX1_bestLook_3 rfl hl (by decide) rfl (fun ls hl => ?_)
  obtain ⟨X15, hX15, h⟩ := rs_b1s h
  have J15 : ∀ (x16 : Int32), X15 = x16 → ∀  (H : Heap) (locs : List Loc) (ls : Array Slot), va_P G.1 vwCl [(A_a0, .inr (1, [.ref A_a0_trial, .ref A_a0_covering, .int v_a0_count, .int v_a0_law])), (A_a0_covering, .inl (G.2.1, 9, .inl v_a0_covering))] H → va_D A [(A_a0, .inr (1, [.ref A_a0_trial, .ref A_a0_covering, .int v_a0_count, .int v_a0_law])), (A_a0_covering, .inl (G.2.1, 9, .inl v_a0_covering))] → va_S A s.heap H locs → lv_has ls 4 [(2, .int x16)] → W p l e rmX1_bestLook s m args below meth c H locs 0 0 Q (F0 m 30 ls []) := by
    intro x16 hz  H locs ls hP hD hS hl
    have h := h _ hz
    refine lv_iload_n hx hb dX1_bestLook_30 rfl (lv_at hl 0 rfl) ?_
    exact ret _ () _ _ _ _ h hP hS dX1_bestLook_31 rfl
  refine rs_l2W (Wd := fun (x7 : Int32) (x8 : Int32) => ∀  (H : Heap) (locs : List Loc) (ls : Array Slot), va_P G.1 vwCl [(A_a0, .inr (1, [.ref A_a0_trial, .ref A_a0_covering, .int v_a0_count, .int v_a0_law])), (A_a0_covering, .inl (G.2.1, 9, .inl v_a0_covering))] H → va_D A [(A_a0, .inr (1, [.ref A_a0_trial, .ref A_a0_covering, .int v_a0_count, .int v_a0_law])), (A_a0_covering, .inl (G.2.1, 9, .inl v_a0_covering))] → va_S A s.heap H locs → lv_has ls 4 [(0, .ref A_a0), (1, .int p1), (2, .int x7), (3, .int x8)] → W p l e rmX1_bestLook s m args below meth c H locs 0 0 Q (F0 m 4 ls [])) ?_ N 0 1 hX15 _ _ _ hP hD hS (lv_sub hl [2, 3, 1, 0] rfl)
  intro x7 x8 o15 h K15 L15  H locs ls hP hD hS hl
  unfold f_X1_bestLook_L4 at h
  refine lv_iload_n hx hb dX1_bestLook_4 rfl (lv_at hl 3 rfl) ?_
  refine lv_iload_n hx hb dX1_bestLook_5 rfl (lv_at hl 1 rfl) ?_
  refine lv_icmp_ge (tgt := 30) hx hb dX1_bestLook_6 (by decide) (fun hc => ?_) (fun hc => ?_)
  · have h := rs_pos hc h
    exact J15 _ (L15 _ (Option.some.inj h).symm) _ _ _ hP hD hS (lv_sub hl [2] rfl)
  have h := rs_neg hc h
  refine lv_aload_n hx hb dX1_bestLook_9 rfl (lv_at hl 0 rfl) ?_
  refine lv_iload_n hx hb dX1_bestLook_10 rfl (lv_at hl 3 rfl) ?_
  obtain ⟨x17, h18, h⟩ := rs_b1s h
  have h := h _ rfl
  refine rs_callVi (As := [.int x8]) (rest := []) ⟨hx, hb, hml, hown, hts⟩ (c_X1_leftAtMost l G A_a0 A_a0_trial A_a0_covering v_a0_count v_a0_law v_a0_covering x8 x17 h18) (cwV 1 hts gX1_bestLook_X1_leftAtMost rfl rfl rfl (by decide +kernel) ⟨Nat.le_of_ble_eq_true rfl, Nat.le_of_ble_eq_true rfl⟩) dX1_bestLook_11 hK hP hD hS hA [0, 1] rfl (by decide) rfl rfl (q0 := 0) (ci := 1) rfl rfl rfl hl.1 (lv_room (Nat.le_of_ble_eq_true rfl)) ⟨Nat.zero_le _, Nat.zero_le _⟩ (fun (_ : Unit) => [(A_a0, .inr (1, [.ref A_a0_trial, .ref A_a0_covering, .int v_a0_count, .int v_a0_law])), (A_a0_covering, .inl (G.2.1, 9, .inl v_a0_covering))]) (fun _ => rfl) (fun _ => rfl) (fun u18 H locs hP hD hS => ?_)
  refine lv_aload_n hx hb dX1_bestLook_14 rfl (lv_at hl 0 rfl) ?_
  refine lv_iload_n hx hb dX1_bestLook_15 rfl (lv_at hl 2 rfl) ?_
  obtain ⟨x19, h20, h⟩ := rs_b1s h
  have h := h _ rfl
  refine rs_callVi (As := [.int x7]) (rest := [.int x17]) ⟨hx, hb, hml, hown, hts⟩ (c_X1_leftAtMost l G A_a0 A_a0_trial A_a0_covering v_a0_count v_a0_law v_a0_covering x7 x19 h20) (cwV 1 hts gX1_bestLook_X1_leftAtMost rfl rfl rfl (by decide +kernel) ⟨Nat.le_of_ble_eq_true rfl, Nat.le_of_ble_eq_true rfl⟩) dX1_bestLook_16 hK hP hD hS hA [0, 1] rfl (by decide) rfl rfl (q0 := 0) (ci := 1) rfl rfl rfl hl.1 (lv_room (Nat.le_of_ble_eq_true rfl)) ⟨Nat.zero_le _, Nat.zero_le _⟩ (fun (_ : Unit) => [(A_a0, .inr (1, [.ref A_a0_trial, .ref A_a0_covering, .int v_a0_count, .int v_a0_law])), (A_a0_covering, .inl (G.2.1, 9, .inl v_a0_covering))]) (fun _ => rfl) (fun _ => rfl) (fun u20 H locs hP hD hS => ?_)
  obtain ⟨X22, hX22, h⟩ := rs_b1s h
  have J22 : ∀ (x21 : Int32), X22 = x21 → ∀ (H : Heap) (locs : List Loc) (ls : Array Slot), va_P G.1 vwCl [(A_a0, .inr (1, [.ref A_a0_trial, .ref A_a0_covering, .int v_a0_count, .int v_a0_law])), (A_a0_covering, .inl (G.2.1, 9, .inl v_a0_covering))] H → va_D A [(A_a0, .inr (1, [.ref A_a0_trial, .ref A_a0_covering, .int v_a0_count, .int v_a0_law])), (A_a0_covering, .inl (G.2.1, 9, .inl v_a0_covering))] → va_S A s.heap H locs → lv_has ls 4 [(0, .ref A_a0), (1, .int p1), (2, .int x21), (3, .int x8)] → W p l e rmX1_bestLook s m args below meth c H locs 0 0 Q (F0 m 24 ls []) := by
    intro x21 hz H locs ls hP hD hS hl
    have h := h _ hz
    refine lv_iinc (v := (x8 + 1)) (lv' := [(3, .int (x8 + 1)), (0, .ref A_a0), (1, .int p1), (2, .int x21)]) hx hb dX1_bestLook_24 hl (k := 3) rfl (by first | rfl | decide) (by decide) rfl (fun ls hl => ?_)
    refine lv_goto (tgt := 4) hx hb dX1_bestLook_27 (by decide) ?_
    exact K15 _ _ (Option.some.inj h).symm _ _ _ hP hD hS (lv_sub hl [1, 2, 3, 0] rfl)
  have h := hX22
  refine lv_icmp_ge (tgt := 24) hx hb dX1_bestLook_19 (by decide) (fun hc => ?_) (fun hc => ?_)
  · have h := rs_pos hc h
    exact J22 _ (Option.some.inj h).symm _ _ _ hP hD hS (lv_sub hl [0, 1, 2, 3] rfl)
  have h := rs_neg hc h
  refine lv_iload_n hx hb dX1_bestLook_22 rfl (lv_at hl 3 rfl) ?_
  refine lv_istore_n (lv' := [(2, .int x8), (0, .ref A_a0), (1, .int p1), (3, .int x8)]) hx hb dX1_bestLook_23 rfl hl (by decide) rfl (fun ls hl => ?_)
  exact J22 _ (Option.some.inj h).symm _ _ _ hP hD hS (lv_sub hl [1, 2, 0, 3] rfl)
abbrev rmX10_clear_ : Room := { frames := 0, cells := 0, slots := 0, locals := 0 }
set_option maxRecDepth 100000 in
set_option maxHeartbeats 4000000 in
theorem c_X10_clear_ (l : Launch) (G : rs_G) (A_a0 : Nat) (v_a0 : (Nat → Int64)) (n_a0 : Nat) (N : Nat) (o0 : (Nat → Int64)) (h : f_X10_clear_ N n_a0 v_a0 = some o0) : rs_Cv l yX10_clear_ wsX10_clear_ rmX10_clear_ G [.ref A_a0] [(A_a0, .inl (G.2.2.1, n_a0, .inr (.inl v_a0)))] (fun (_ : Unit) => [(A_a0, .inl (G.2.2.1, n_a0, .inr (.inl o0)))]) := by
  refine rs_enter_v (cc := cX10_clear_) (maxL := 2) (by decide) rfl (Nat.le_of_ble_eq_true rfl) (fun p e s m args below meth c A Q ls E ret hP hD hS hA hl => ?_)
  obtain ⟨hx, hb, hml, hown, hts, hK⟩ := E
  have hown : s.vm.findClass RX10 = some m.cls := hown
  have hl : lv_has ls 2 [(0, .ref A_a0)] := hl
  have ret : ∀ (w0 : (Nat → Int64)) (u : Unit) (H : Heap) (locs : List Loc) (pc : Nat) (ls : Array Slot), some w0 = some o0 → va_P G.1 vwCl [(A_a0, .inl (G.2.2.1, n_a0, .inr (.inl w0)))] H → va_S A s.heap H locs → decode cX10_clear_ pc = .ok (.return_, 1) → W p l e rmX10_clear_ s m args below meth c H locs 0 0 Q (F0 m pc ls []) := by
    intro w0 u H locs pc ls hz
    cases hz
    exact ret u H locs pc ls
  unfold f_X10_clear_ at h
  refine lv_iconst (v := 0) hx hb dX10_clear__0 (by decide) ?_
  refine lv_istore_n (lv' := [(1, .int 0), (0, .ref A_a0)]) hx hb dX10_clear__1 rfl hl (by decide) rfl (fun ls hl => ?_)
  obtain ⟨X3, hX3, h⟩ := rs_b1s h
  have J3 : ∀ (f4 : (Nat → Int64)), X3 = f4 → ∀  (H : Heap) (locs : List Loc) (ls : Array Slot), va_P G.1 vwCl [(A_a0, .inl (G.2.2.1, n_a0, .inr (.inl f4)))] H → va_D A [(A_a0, .inl (G.2.2.1, n_a0, .inr (.inl f4)))] → va_S A s.heap H locs → lv_has ls 2 [] → W p l e rmX10_clear_ s m args below meth c H locs 0 0 Q (F0 m 18 ls []) := by
    intro f4 hz  H locs ls hP hD hS hl
    have h := h _ hz
    exact ret _ () _ _ _ _ h hP hS dX10_clear__18
  refine rs_l2W (Wd := fun (f1 : (Nat → Int64)) (x2 : Int32) => ∀  (H : Heap) (locs : List Loc) (ls : Array Slot), va_P G.1 vwCl [(A_a0, .inl (G.2.2.1, n_a0, .inr (.inl f1)))] H → va_D A [(A_a0, .inl (G.2.2.1, n_a0, .inr (.inl f1)))] → va_S A s.heap H locs → lv_has ls 2 [(0, .ref A_a0), (1, .int x2)] → W p l e rmX10_clear_ s m args below meth c H locs 0 0 Q (F0 m 2 ls [])) ?_ N v_a0 0 hX3 _ _ _ hP hD hS (lv_sub hl [1, 0] rfl)
  intro f1 x2 o3 h K3 L3  H locs ls hP hD hS hl
  unfold f_X10_clear__L2 at h
  refine lv_iload_n hx hb dX10_clear__2 rfl (lv_at hl 1 rfl) ?_
  refine lv_aload_n hx hb dX10_clear__3 rfl (lv_at hl 0 rfl) ?_
  refine va_alen (v := (Int32.ofNat n_a0)) hx hb hK.1 hP 0 1 rfl rfl rfl dX10_clear__4 ?_
  refine lv_icmp_ge (tgt := 18) hx hb dX10_clear__5 (by decide) (fun hc => ?_) (fun hc => ?_)
  · have h := rs_pos hc h
    exact J3 _ (L3 _ (Option.some.inj h).symm) _ _ _ hP hD hS (lv_sub hl [] rfl)
  have h := rs_neg hc h
  refine lv_aload_n hx hb dX10_clear__8 rfl (lv_at hl 0 rfl) ?_
  refine lv_iload_n hx hb dX10_clear__9 rfl (lv_at hl 1 rfl) ?_
  refine lv_lconst (v := 0) hx hb dX10_clear__10 (by decide) ?_
  obtain ⟨hg, h⟩ := rs_gd h
  refine va_last hx hb hK.1 hP hD hS 0 1 rfl rfl hg dX10_clear__11 (fun H locs hP hD hS => ?_)
  have hP : va_P G.1 vwCl [(A_a0, .inl (G.2.2.1, n_a0, .inr (.inl (vp_updL f1 x2.toNatClampNeg 0))))] H := hP
  have hD : va_D A [(A_a0, .inl (G.2.2.1, n_a0, .inr (.inl (vp_updL f1 x2.toNatClampNeg 0))))] := hD
  refine lv_iinc (v := (x2 + 1)) (lv' := [(1, .int (x2 + 1)), (0, .ref A_a0)]) hx hb dX10_clear__12 hl (k := 1) rfl (by first | rfl | decide) (by decide) rfl (fun ls hl => ?_)
  refine lv_goto (tgt := 2) hx hb dX10_clear__15 (by decide) ?_
  exact K3 _ _ (Option.some.inj h).symm _ _ _ hP hD hS (lv_sub hl [1, 0] rfl)
abbrev rmX10_add : Room := { frames := 0, cells := 0, slots := 0, locals := 0 }
set_option maxRecDepth 100000 in
set_option maxHeartbeats 4000000 in
theorem c_X10_add (l : Launch) (G : rs_G) (A_a0 : Nat) (v_a0 : (Nat → Int64)) (n_a0 : Nat) (p1 : Int32) (p2 : Int64) (o0 : (Nat → Int64)) (h : f_X10_add n_a0 p1 p2 v_a0 = some o0) : rs_Cv l yX10_add wsX10_add rmX10_add G [.ref A_a0, .int p1, .long p2] [(A_a0, .inl (G.2.2.1, n_a0, .inr (.inl v_a0)))] (fun (_ : Unit) => [(A_a0, .inl (G.2.2.1, n_a0, .inr (.inl o0)))]) := by
  refine rs_enter_v (cc := cX10_add) (maxL := 4) (by decide) rfl (Nat.le_of_ble_eq_true rfl) (fun p e s m args below meth c A Q ls E ret hP hD hS hA hl => ?_)
  obtain ⟨hx, hb, hml, hown, hts, hK⟩ := E
  have hown : s.vm.findClass RX10 = some m.cls := hown
  have hl : lv_has ls 4 [(0, .ref A_a0), (1, .int p1), (2, .long p2)] := hl
  have ret : ∀ (w0 : (Nat → Int64)) (u : Unit) (H : Heap) (locs : List Loc) (pc : Nat) (ls : Array Slot), some w0 = some o0 → va_P G.1 vwCl [(A_a0, .inl (G.2.2.1, n_a0, .inr (.inl w0)))] H → va_S A s.heap H locs → decode cX10_add pc = .ok (.return_, 1) → W p l e rmX10_add s m args below meth c H locs 0 0 Q (F0 m pc ls []) := by
    intro w0 u H locs pc ls hz
    cases hz
    exact ret u H locs pc ls
  unfold f_X10_add at h
  refine lv_iload_n hx hb dX10_add_0 rfl (lv_at hl 1 rfl) ?_
  refine lv_if_lt (tgt := 17) hx hb dX10_add_1 (by decide) (fun hc => ?_) (fun hc => ?_)
  · have h := rs_pos hc h
    exact ret _ () _ _ _ _ h hP hS dX10_add_17
  have h := rs_neg hc h
  refine lv_iload_n hx hb dX10_add_4 rfl (lv_at hl 1 rfl) ?_
  refine lv_aload_n hx hb dX10_add_5 rfl (lv_at hl 0 rfl) ?_
  refine va_alen (v := (Int32.ofNat n_a0)) hx hb hK.1 hP 0 1 rfl rfl rfl dX10_add_6 ?_
  refine lv_icmp_ge (tgt := 17) hx hb dX10_add_7 (by decide) (fun hc => ?_) (fun hc => ?_)
  · have h := rs_pos hc h
    exact ret _ () _ _ _ _ h hP hS dX10_add_17
  have h := rs_neg hc h
  refine lv_aload_n hx hb dX10_add_10 rfl (lv_at hl 0 rfl) ?_
  refine lv_iload_n hx hb dX10_add_11 rfl (lv_at hl 1 rfl) ?_
  refine lv_dup2_11 hx hb dX10_add_12 rfl rfl ?_
  obtain ⟨hg, h⟩ := rs_gd h
  refine va_lald hx hb hK.1 hP 0 1 rfl rfl hg dX10_add_13 ?_
  refine lv_lload_n hx hb dX10_add_14 rfl (lv_at hl 2 rfl) ?_
  refine lv_ladd hx hb dX10_add_15 ?_
  refine rs_topl h (fun x1 h => ?_)
  obtain ⟨hg, h⟩ := rs_gd h
  refine va_last hx hb hK.1 hP hD hS 0 1 rfl rfl hg dX10_add_16 (fun H locs hP hD hS => ?_)
  have hP : va_P G.1 vwCl [(A_a0, .inl (G.2.2.1, n_a0, .inr (.inl (vp_updL v_a0 p1.toNatClampNeg x1))))] H := hP
  have hD : va_D A [(A_a0, .inl (G.2.2.1, n_a0, .inr (.inl (vp_updL v_a0 p1.toNatClampNeg x1))))] := hD
  exact ret _ () _ _ _ _ h hP hS dX10_add_17
abbrev rmX2_spread : Room := { frames := 1, cells := 0, slots := 0, locals := 23 }
set_option maxRecDepth 100000 in
set_option maxHeartbeats 4000000 in
theorem c_X2_spread (l : Launch) (G : rs_G) (A_a0 : Nat) (A_a1 : Nat) (A_a2 : Nat) (A_a2_cells : Nat) (v_a2_cells : (Nat → Int32)) (v_a0 : (Nat → Int64)) (v_a1 : (Nat → Int64)) (n_a0 : Nat) (n_a1 : Nat) (p3 : Int32) (p4 : Int32) (p5 : Int32) (N : Nat) (o0 : (Nat → Int64)) (h : f_X2_spread N n_a0 n_a1 p3 p4 p5 v_a2_cells v_a0 v_a1 = some o0) : rs_Cv l yX2_spread wsX2_spread rmX2_spread G [.ref A_a0, .ref A_a1, .ref A_a2, .int p3, .int p4, .int p5] [(A_a2, .inr (6, [.ref A_a2_cells])), (A_a2_cells, .inl (G.2.1, 36, .inl v_a2_cells)), (A_a0, .inl (G.2.2.1, n_a0, .inr (.inl v_a0))), (A_a1, .inl (G.2.2.1, n_a1, .inr (.inl v_a1)))] (fun (_ : Unit) => [(A_a2, .inr (6, [.ref A_a2_cells])), (A_a2_cells, .inl (G.2.1, 36, .inl v_a2_cells)), (A_a0, .inl (G.2.2.1, n_a0, .inr (.inl v_a0))), (A_a1, .inl (G.2.2.1, n_a1, .inr (.inl o0)))]) := by
  refine rs_enter_v (cc := cX2_spread) (maxL := 9) (by decide) rfl (Nat.le_of_ble_eq_true rfl) (fun p e s m args below meth c A Q ls E ret hP hD hS hA hl => ?_)
  obtain ⟨hx, hb, hml, hown, hts, hK⟩ := E
  have hown : s.vm.findClass RX2 = some m.cls := hown
  have hl : lv_has ls 9 [(0, .ref A_a0), (1, .ref A_a1), (2, .ref A_a2), (3, .int p3), (4, .int p4), (5, .int p5)] := hl
  have ret : ∀ (w0 : (Nat → Int64)) (u : Unit) (H : Heap) (locs : List Loc) (pc : Nat) (ls : Array Slot), some w0 = some o0 → va_P G.1 vwCl [(A_a2, .inr (6, [.ref A_a2_cells])), (A_a2_cells, .inl (G.2.1, 36, .inl v_a2_cells)), (A_a0, .inl (G.2.2.1, n_a0, .inr (.inl v_a0))), (A_a1, .inl (G.2.2.1, n_a1, .inr (.inl w0)))] H → va_S A s.heap H locs → decode cX2_spread pc = .ok (.return_, 1) → W p l e rmX2_spread s m args below meth c H locs 0 0 Q (F0 m pc ls []) := by
    intro w0 u H locs pc ls hz
    cases hz
    exact ret u H locs pc ls
  unfold f_X2_spread at h
  refine lv_iload hx hb dX2_spread_0 (lv_at hl 4 rfl) ?_
  obtain ⟨X4, hX4, h⟩ := rs_b1s h
  have J4 : ∀ (x3 : Int32), X4 = x3 → ∀ (H : Heap) (locs : List Loc) (ls : Array Slot), va_P G.1 vwCl [(A_a2, .inr (6, [.ref A_a2_cells])), (A_a2_cells, .inl (G.2.1, 36, .inl v_a2_cells)), (A_a0, .inl (G.2.2.1, n_a0, .inr (.inl v_a0))), (A_a1, .inl (G.2.2.1, n_a1, .inr (.inl v_a1)))] H → va_D A [(A_a2, .inr (6, [.ref A_a2_cells])), (A_a2_cells, .inl (G.2.1, 36, .inl v_a2_cells)), (A_a0, .inl (G.2.2.1, n_a0, .inr (.inl v_a0))), (A_a1, .inl (G.2.2.1, n_a1, .inr (.inl v_a1)))] → va_S A s.heap H locs → lv_has ls 9 [(0, .ref A_a0), (1, .ref A_a1), (2, .ref A_a2), (3, .int p3), (5, .int p5)] → W p l e rmX2_spread s m args below meth c H locs 0 0 Q (F0 m 15 ls [.int x3]) := by
    intro x3 hz H locs ls hP hD hS hl
    have h := h _ hz
    refine lv_aload_n hx hb dX2_spread_15 rfl (lv_at hl 2 rfl) ?_
    refine lv_iload_n hx hb dX2_spread_16 rfl (lv_at hl 3 rfl) ?_
    refine lv_iconst (v := 1) hx hb dX2_spread_17 (by decide) ?_
    obtain ⟨x5, h6, h⟩ := rs_b1s h
    have h := h _ rfl
    refine rs_callVi (As := [.int p3, .int 1]) (rest := [.int x3]) ⟨hx, hb, hml, hown, hts⟩ (c_X6_of l G A_a2 A_a2_cells v_a2_cells p3 1 x5 h6) (cwV 2 hts gX2_spread_X6_of rfl rfl rfl (by decide +kernel) ⟨Nat.le_of_ble_eq_true rfl, Nat.le_of_ble_eq_true rfl⟩) dX2_spread_18 hK hP hD hS hA [0, 1] rfl (by decide) rfl rfl (q0 := 0) (ci := 6) rfl rfl rfl hl.1 (lv_room (Nat.le_of_ble_eq_true rfl)) ⟨Nat.zero_le _, Nat.zero_le _⟩ (fun (_ : Unit) => [(A_a2, .inr (6, [.ref A_a2_cells])), (A_a2_cells, .inl (G.2.1, 36, .inl v_a2_cells)), (A_a0, .inl (G.2.2.1, n_a0, .inr (.inl v_a0))), (A_a1, .inl (G.2.2.1, n_a1, .inr (.inl v_a1)))]) (fun _ => rfl) (fun _ => rfl) (fun u6 H locs hP hD hS => ?_)
    refine lv_isub hx hb dX2_spread_21 ?_
    refine rs_topi h (fun x7 h => ?_)
    refine lv_istore (lv' := [(6, .int x7), (0, .ref A_a0), (1, .ref A_a1), (2, .ref A_a2), (3, .int p3), (5, .int p5)]) hx hb dX2_spread_22 hl (by decide) rfl (fun ls hl => ?_)
    refine lv_aload_n hx hb dX2_spread_24 rfl (lv_at hl 3 rfl) ?_
    refine lv_iload_n hx hb dX2_spread_25 rfl (lv_at hl 4 rfl) ?_
    refine lv_iconst (v := 3) hx hb dX2_spread_26 (by decide) ?_
    obtain ⟨x8, h9, h⟩ := rs_b1s h
    have h := h _ rfl
    refine rs_callVi (As := [.int p3, .int 3]) (rest := []) ⟨hx, hb, hml, hown, hts⟩ (c_X6_of l G A_a2 A_a2_cells v_a2_cells p3 3 x8 h9) (cwV 2 hts gX2_spread_X6_of rfl rfl rfl (by decide +kernel) ⟨Nat.le_of_ble_eq_true rfl, Nat.le_of_ble_eq_true rfl⟩) dX2_spread_27 hK hP hD hS hA [0, 1] rfl (by decide) rfl rfl (q0 := 0) (ci := 6) rfl rfl rfl hl.1 (lv_room (Nat.le_of_ble_eq_true rfl)) ⟨Nat.zero_le _, Nat.zero_le _⟩ (fun (_ : Unit) => [(A_a2, .inr (6, [.ref A_a2_cells])), (A_a2_cells, .inl (G.2.1, 36, .inl v_a2_cells)), (A_a0, .inl (G.2.2.1, n_a0, .inr (.inl v_a0))), (A_a1, .inl (G.2.2.1, n_a1, .inr (.inl v_a1)))]) (fun _ => rfl) (fun _ => rfl) (fun u9 H locs hP hD hS => ?_)
    refine lv_istore (lv' := [(7, .int x8), (6, .int x7), (0, .ref A_a0), (1, .ref A_a1), (2, .ref A_a2), (3, .int p3), (5, .int p5)]) hx hb dX2_spread_30 hl (by decide) rfl (fun ls hl => ?_)
    refine lv_iconst (v := 0) hx hb dX2_spread_32 (by decide) ?_
    refine lv_istore (lv' := [(8, .int 0), (7, .int x8), (6, .int x7), (0, .ref A_a0), (1, .ref A_a1), (2, .ref A_a2), (3, .int p3), (5, .int p5)]) hx hb dX2_spread_33 hl (by decide) rfl (fun ls hl => ?_)
    obtain ⟨X24, hX24, h⟩ := rs_b1s h
    have J24 : ∀ (f25 : (Nat → Int64)), X24 = f25 → ∀  (H : Heap) (locs : List Loc) (ls : Array Slot), va_P G.1 vwCl [(A_a2, .inr (6, [.ref A_a2_cells])), (A_a2_cells, .inl (G.2.1, 36, .inl v_a2_cells)), (A_a0, .inl (G.2.2.1, n_a0, .inr (.inl v_a0))), (A_a1, .inl (G.2.2.1, n_a1, .inr (.inl f25)))] H → va_D A [(A_a2, .inr (6, [.ref A_a2_cells])), (A_a2_cells, .inl (G.2.1, 36, .inl v_a2_cells)), (A_a0, .inl (G.2.2.1, n_a0, .inr (.inl v_a0))), (A_a1, .inl (G.2.2.1, n_a1, .inr (.inl f25)))] → va_S A s.heap H locs → lv_has ls 9 [] → W p l e rmX2_spread s m args below meth c H locs 0 0 Q (F0 m 87 ls []) := by
      intro f25 hz  H locs ls hP hD hS hl
      have h := h _ hz
      exact ret _ () _ _ _ _ h hP hS dX2_spread_87
    refine rs_l2W (Wd := fun (f16 : (Nat → Int64)) (x17 : Int32) => ∀  (H : Heap) (locs : List Loc) (ls : Array Slot), va_P G.1 vwCl [(A_a2, .inr (6, [.ref A_a2_cells])), (A_a2_cells, .inl (G.2.1, 36, .inl v_a2_cells)), (A_a0, .inl (G.2.2.1, n_a0, .inr (.inl v_a0))), (A_a1, .inl (G.2.2.1, n_a1, .inr (.inl f16)))] H → va_D A [(A_a2, .inr (6, [.ref A_a2_cells])), (A_a2_cells, .inl (G.2.1, 36, .inl v_a2_cells)), (A_a0, .inl (G.2.2.1, n_a0, .inr (.inl v_a0))), (A_a1, .inl (G.2.2.1, n_a1, .inr (.inl f16)))] → va_S A s.heap H locs → lv_has ls 9 [(0, .ref A_a0), (1, .ref A_a1), (5, .int p5), (6, .int x7), (7, .int x8), (8, .int x17)] → W p l e rmX2_spread s m args below meth c H locs 0 0 Q (F0 m 35 ls [])) ?_ N v_a1 0 hX24 _ _ _ hP hD hS (lv_sub hl [3, 4, 7, 2, 1, 0] rfl)
    intro f16 x17 o24 h K24 L24  H locs ls hP hD hS hl
    unfold f_X2_spread_L35 at h
    refine lv_iload hx hb dX2_spread_35 (lv_at hl 5 rfl) ?_
    refine lv_aload_n hx hb dX2_spread_37 rfl (lv_at hl 0 rfl) ?_
    refine va_alen (v := (Int32.ofNat n_a0)) hx hb hK.1 hP 2 1 rfl rfl rfl dX2_spread_38 ?_
    refine lv_icmp_ge (tgt := 87) hx hb dX2_spread_39 (by decide) (fun hc => ?_) (fun hc => ?_)
    · have h := rs_pos hc h
      exact J24 _ (L24 _ (Option.some.inj h).symm) _ _ _ hP hD hS (lv_sub hl [] rfl)
    have h := rs_neg hc h
    refine lv_aload_n hx hb dX2_spread_42 rfl (lv_at hl 0 rfl) ?_
    refine lv_iload hx hb dX2_spread_43 (lv_at hl 5 rfl) ?_
    obtain ⟨hg, h⟩ := rs_gd h
    refine va_lald hx hb hK.1 hP 2 1 rfl rfl hg dX2_spread_45 ?_
    refine lv_lconst (v := 0) hx hb dX2_spread_46 (by decide) ?_
    refine W.lcmp hx hb dX2_spread_47 ?_
    obtain ⟨X29, hX29, h⟩ := rs_b1s h
    have J29 : ∀ (f28 : (Nat → Int64)), X29 = f28 → ∀ (H : Heap) (locs : List Loc) (ls : Array Slot), va_P G.1 vwCl [(A_a2, .inr (6, [.ref A_a2_cells])), (A_a2_cells, .inl (G.2.1, 36, .inl v_a2_cells)), (A_a0, .inl (G.2.2.1, n_a0, .inr (.inl v_a0))), (A_a1, .inl (G.2.2.1, n_a1, .inr (.inl f28)))] H → va_D A [(A_a2, .inr (6, [.ref A_a2_cells])), (A_a2_cells, .inl (G.2.1, 36, .inl v_a2_cells)), (A_a0, .inl (G.2.2.1, n_a0, .inr (.inl v_a0))), (A_a1, .inl (G.2.2.1, n_a1, .inr (.inl f28)))] → va_S A s.heap H locs → lv_has ls 9 [(0, .ref A_a0), (1, .ref A_a1), (5, .int p5), (6, .int x7), (7, .int x8), (8, .int x17)] → W p l e rmX2_spread s m args below meth c H locs 0 0 Q (F0 m 81 ls []) := by
      intro f28 hz H locs ls hP hD hS hl
      have h := h _ hz
      refine lv_iinc (v := (x17 + 1)) (lv' := [(8, .int (x17 + 1)), (0, .ref A_a0), (1, .ref A_a1), (5, .int p5), (6, .int x7), (7, .int x8)]) hx hb dX2_spread_81 hl (k := 5) rfl (by first | rfl | decide) (by decide) rfl (fun ls hl => ?_)
      refine lv_goto (tgt := 35) hx hb dX2_spread_84 (by decide) ?_
      exact K24 _ _ (Option.some.inj h).symm _ _ _ hP hD hS (lv_sub hl [1, 2, 3, 4, 5, 0] rfl)
    have h := hX29
    refine lv_if_eq (tgt := 81) hx hb dX2_spread_48 (by decide) (fun hc => ?_) (fun hc => ?_)
    · have h := rs_pos hc h
      exact J29 _ (Option.some.inj h).symm _ _ _ hP hD hS (lv_sub hl [0, 1, 2, 3, 4, 5] rfl)
    have h := rs_neg hc h
    refine lv_iload hx hb dX2_spread_51 (lv_at hl 5 rfl) ?_
    refine lv_iload hx hb dX2_spread_53 (lv_at hl 3 rfl) ?_
    refine lv_iadd hx hb dX2_spread_55 ?_
    refine lv_if_lt (tgt := 81) hx hb dX2_spread_56 (by decide) (fun hc => ?_) (fun hc => ?_)
    · have h := rs_pos hc h
      exact J29 _ (Option.some.inj h).symm _ _ _ hP hD hS (lv_sub hl [0, 1, 2, 3, 4, 5] rfl)
    have h := rs_neg hc h
    refine lv_aload_n hx hb dX2_spread_59 rfl (lv_at hl 1 rfl) ?_
    refine lv_iload hx hb dX2_spread_60 (lv_at hl 5 rfl) ?_
    refine lv_iload hx hb dX2_spread_62 (lv_at hl 3 rfl) ?_
    refine lv_iadd hx hb dX2_spread_64 ?_
    refine lv_iload hx hb dX2_spread_65 (lv_at hl 4 rfl) ?_
    refine va_mmin hx hb (hml.trans hl.1.symm) hown (hts (.methodLink RX2 65 Lib.Math.min.name) (List.mem_of_getElem? (i := 1) rfl)) (hts (.static Lib.Math.min.name) (List.mem_of_getElem? (i := 2) rfl)) (hts (.initialized "java/lang/Math") (List.mem_of_getElem? (i := 3) rfl)) (hts (.code Lib.Math.min.name Lib.Math.min.code 2 (some .int)) (List.mem_of_getElem? (i := 4) rfl)) (Nat.le_of_ble_eq_true rfl) (Nat.le_of_ble_eq_true rfl) (Nat.zero_le _) (Nat.zero_le _) dX2_spread_67 ?_
    refine lv_aload_n hx hb dX2_spread_70 rfl (lv_at hl 0 rfl) ?_
    refine lv_iload hx hb dX2_spread_71 (lv_at hl 5 rfl) ?_
    obtain ⟨hg, h⟩ := rs_gd h
    refine va_lald hx hb hK.1 hP 2 1 rfl rfl hg dX2_spread_73 ?_
    refine lv_iload hx hb dX2_spread_74 (lv_at hl 2 rfl) ?_
    refine lv_i2l (v := (p5.toInt64)) hx hb dX2_spread_76 rfl ?_
    refine lv_lmul hx hb dX2_spread_77 ?_
    obtain ⟨f30, h31, h⟩ := rs_b1s h
    have h := h _ rfl
    refine rs_callNv (As := [.ref A_a1, .int (if x8 < (x17 + x7) then x8 else (x17 + x7)), .long ((v_a0 x17.toNatClampNeg) * (p5.toInt64))]) (rest := []) ⟨hx, hb, hml, hown, hts⟩ (c_X10_add l G A_a1 f16 n_a1 (if x8 < (x17 + x7) then x8 else (x17 + x7)) ((v_a0 x17.toNatClampNeg) * (p5.toInt64)) f30 h31) ⟨va_cnB 3 hts gX2_spread_X10_add_n34 rfl rfl rfl (rs_nw21 hK.2.1) (hts (.initialized RX10) (List.mem_of_getElem? (i := 12) rfl)) (by decide +kernel) ⟨Nat.le_of_ble_eq_true rfl, Nat.le_of_ble_eq_true rfl⟩, (hts (.static yX10_add) (List.mem_of_getElem? (i := 11) rfl)), trivial⟩ dX2_spread_78 hK hP hD hS hA [3] rfl (by decide) rfl rfl hl.1 (lv_room (Nat.le_of_ble_eq_true rfl)) ⟨Nat.zero_le _, Nat.zero_le _⟩ (fun (_ : Unit) => [(A_a2, .inr (6, [.ref A_a2_cells])), (A_a2_cells, .inl (G.2.1, 36, .inl v_a2_cells)), (A_a0, .inl (G.2.2.1, n_a0, .inr (.inl v_a0))), (A_a1, .inl (G.2.2.1, n_a1, .inr (.inl f30)))]) (fun _ => rfl) (fun _ => rfl) (fun u31 H locs hP hD hS => ?_)
    exact J29 _ (Option.some.inj h).symm _ _ _ hP hD hS (lv_sub hl [0, 1, 2, 3, 4, 5] rfl)
  have h := hX4
  refine lv_if_eq (tgt := 14) hx hb dX2_spread_2 (by decide) (fun hc => ?_) (fun hc => ?_)
  · have h := rs_pos hc h
    refine lv_iconst (v := 0) hx hb dX2_spread_14 (by decide) ?_
    exact J4 _ (Option.some.inj h).symm _ _ _ hP hD hS (lv_sub hl [0, 1, 2, 3, 5] rfl)
  have h := rs_neg hc h
  refine lv_aload_n hx hb dX2_spread_5 rfl (lv_at hl 2 rfl) ?_
  refine lv_iload_n hx hb dX2_spread_6 rfl (lv_at hl 3 rfl) ?_
  refine lv_iconst (v := 0) hx hb dX2_spread_7 (by decide) ?_
  obtain ⟨x32, h33, h⟩ := rs_b1s h
  have h := h _ rfl
  refine rs_callVi (As := [.int p3, .int 0]) (rest := []) ⟨hx, hb, hml, hown, hts⟩ (c_X6_of l G A_a2 A_a2_cells v_a2_cells p3 0 x32 h33) (cwV 2 hts gX2_spread_X6_of rfl rfl rfl (by decide +kernel) ⟨Nat.le_of_ble_eq_true rfl, Nat.le_of_ble_eq_true rfl⟩) dX2_spread_8 hK hP hD hS hA [0, 1] rfl (by decide) rfl rfl (q0 := 0) (ci := 6) rfl rfl rfl hl.1 (lv_room (Nat.le_of_ble_eq_true rfl)) ⟨Nat.zero_le _, Nat.zero_le _⟩ (fun (_ : Unit) => [(A_a2, .inr (6, [.ref A_a2_cells])), (A_a2_cells, .inl (G.2.1, 36, .inl v_a2_cells)), (A_a0, .inl (G.2.2.1, n_a0, .inr (.inl v_a0))), (A_a1, .inl (G.2.2.1, n_a1, .inr (.inl v_a1)))]) (fun _ => rfl) (fun _ => rfl) (fun u33 H locs hP hD hS => ?_)
  refine lv_goto (tgt := 15) hx hb dX2_spread_11 (by decide) ?_
  exact J4 _ (Option.some.inj h).symm _ _ _ hP hD hS (lv_sub hl [0, 1, 2, 3, 5] rfl)
