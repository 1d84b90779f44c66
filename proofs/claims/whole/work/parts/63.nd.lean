abbrev rmX5_init : Room := { frames := 1, cells := 3, slots := 24, locals := 14 }
theorem uX5_init_o : ∀ w ∈ wsX50, w ∈ wsX5_init := fun _ h => List.mem_cons_of_mem _ (List.mem_append_right _ h)
set_option maxHeartbeats 400000 in
theorem c_X5_init (l : Launch) (G : rs_G) (A_a0 : Nat) : rs_Cn l yX5_init wsX5_init rmX5_init G [.ref A_a0] [(A_a0, .inr (5, [.null, .null, .null, .int 0]))] (fun (u : Nat × Nat × Nat) => [(A_a0, .inr (5, [.ref u.1, .ref u.2.1, .ref u.2.2, .int 0])), (u.1, .inl (G.2.1, 8, .inl (fun _ => 0))), (u.2.1, .inl (G.2.1, 8, .inl (fun _ => 0))), (u.2.2, .inl (G.2.1, 8, .inl (fun _ => 0)))]) 3 24 := by
  refine rs_enter_n (cc := cX5_init) (maxL := 1) (by decide) rfl (Nat.le_of_ble_eq_true rfl) (fun p e s m args below meth c A Q ls E hnm ret hP hD hS hA hl => ?_)
  obtain ⟨hx, hb, hml, hown, hts, hK⟩ := E
  have hown : s.vm.findClass RX5 = some m.cls := hown
  have hnm : meth.name = "<init>" := hnm
  have hl : lv_has ls 1 [(0, .ref A_a0)] := hl
  refine lv_aload_n hx hb dX5_init_0 rfl (lv_at hl 0 rfl) ?_
  refine W.objInit hx hb hown (hts (.methodLink RX5 3 objectInit) (List.mem_of_getElem? (i := 1) rfl)) (hts (.instanceMethod objectInit) (List.mem_of_getElem? (i := 2) rfl)) (hts (.code objectInit ⟨#[0xb1]⟩ 1 none) (List.mem_of_getElem? (i := 3) rfl)) rfl (by rw [hml]; exact hl.1) rfl dX5_init_1 (Nat.le_of_ble_eq_true rfl) (Nat.le_of_ble_eq_true rfl) ?_
  refine W.eq (g2 := F0 m 4 ls []) rfl ?_
  refine lv_aload_n hx hb dX5_init_4 rfl (lv_at hl 0 rfl) ?_
  refine lv_bipush (v := 8) hx hb dX5_init_5 (by decide) ?_
  refine rs_newa (atype := .int) (N' := 8) (a0 := (8, .inl (fun _ => 0))) (ty := .int) (n := 8) (cA := G.2.1) hx hb (hts (.arrayClass .int) (List.mem_of_getElem? (i := 4) rfl)) rfl hK hP hD hS hA 0 rfl (fun _ => rfl) (by decide) rfl (by decide) (Nat.le_of_ble_eq_true rfl) (Nat.le_of_ble_eq_true rfl) dX5_init_7 (fun q0 H hP hD hS => ?_)
  have hP : va_P G.1 vwCl [(A_a0, .inr (5, [.null, .null, .null, .int 0])), (q0, .inl (G.2.1, 8, .inl (fun _ => 0)))] H := hP
  have hD : va_D A [(A_a0, .inr (5, [.null, .null, .null, .int 0])), (q0, .inl (G.2.1, 8, .inl (fun _ => 0)))] := hD
  refine va_putF (D := G.1) (ci := 5) (v := .ref q0) (ty := tyX5 0) (C := RX5) (T := TX5) (N := 4) hx hb hts uX5_init_o tyX5 tyX5_ok nmX5 hown hK.1 hP hD hS 0 rfl rfl 0 (by decide) (hts (.fieldLink RX5 9 "RingShadow$Sights" "lands" "[I") (List.mem_of_getElem? (i := 5) rfl)) (fun _ h9 => h9) rfl hnm rfl (by decide +kernel) rfl rfl (Nat.le_of_ble_eq_true rfl) dX5_init_9 (fun H locs hP hD hS => ?_)
  have hP : va_P G.1 vwCl [(A_a0, .inr (5, [.ref q0, .null, .null, .int 0])), (q0, .inl (G.2.1, 8, .inl (fun _ => 0)))] H := hP
  have hD : va_D A [(A_a0, .inr (5, [.ref q0, .null, .null, .int 0])), (q0, .inl (G.2.1, 8, .inl (fun _ => 0)))] := hD
  refine lv_aload_n hx hb dX5_init_12 rfl (lv_at hl 0 rfl) ?_
  refine lv_bipush (v := 8) hx hb dX5_init_13 (by decide) ?_
  refine rs_newa (atype := .int) (N' := 8) (a0 := (8, .inl (fun _ => 0))) (ty := .int) (n := 8) (cA := G.2.1) hx hb (hts (.arrayClass .int) (List.mem_of_getElem? (i := 4) rfl)) rfl hK hP hD hS hA 0 rfl (fun _ => rfl) (by decide) rfl (by decide) (Nat.le_of_ble_eq_true rfl) (Nat.le_of_ble_eq_true rfl) dX5_init_15 (fun q1 H hP hD hS => ?_)
  have hP : va_P G.1 vwCl [(A_a0, .inr (5, [.ref q0, .null, .null, .int 0])), (q0, .inl (G.2.1, 8, .inl (fun _ => 0))), (q1, .inl (G.2.1, 8, .inl (fun _ => 0)))] H := hP
  have hD : va_D A [(A_a0, .inr (5, [.ref q0, .null, .null, .int 0])), (q0, .inl (G.2.1, 8, .inl (fun _ => 0))), (q1, .inl (G.2.1, 8, .inl (fun _ => 0)))] := hD
  refine va_putF (D := G.1) (ci := 5) (v := .ref q1) (ty := tyX5 1) (C := RX5) (T := TX5) (N := 4) hx hb hts uX5_init_o tyX5 tyX5_ok nmX5 hown hK.1 hP hD hS 0 rfl rfl 1 (by decide) (hts (.fieldLink RX5 15 "RingShadow$Sights" "years" "[I") (List.mem_of_getElem? (i := 6) rfl)) (fun _ h9 => h9) rfl hnm rfl (by decide +kernel) rfl rfl (Nat.le_of_ble_eq_true rfl) dX5_init_17 (fun H locs hP hD hS => ?_)
  have hP : va_P G.1 vwCl [(A_a0, .inr (5, [.ref q0, .ref q1, .null, .int 0])), (q0, .inl (G.2.1, 8, .inl (fun _ => 0))), (q1, .inl (G.2.1, 8, .inl (fun _ => 0)))] H := hP
  have hD : va_D A [(A_a0, .inr (5, [.ref q0, .ref q1, .null, .int 0])), (q0, .inl (G.2.1, 8, .inl (fun _ => 0))), (q1, .inl (G.2.1, 8, .inl (fun _ => 0)))] := hD
  refine lv_aload_n hx hb dX5_init_20 rfl (lv_at hl 0 rfl) ?_
  refine lv_bipush (v := 8) hx hb dX5_init_21 (by decide) ?_
  refine rs_newa (atype := .int) (N' := 8) (a0 := (8, .inl (fun _ => 0))) (ty := .int) (n := 8) (cA := G.2.1) hx hb (hts (.arrayClass .int) (List.mem_of_getElem? (i := 4) rfl)) rfl hK hP hD hS hA 0 rfl (fun _ => rfl) (by decide) rfl (by decide) (Nat.le_of_ble_eq_true rfl) (Nat.le_of_ble_eq_true rfl) dX5_init_23 (fun q2 H hP hD hS => ?_)
  have hP : va_P G.1 vwCl [(A_a0, .inr (5, [.ref q0, .ref q1, .null, .int 0])), (q0, .inl (G.2.1, 8, .inl (fun _ => 0))), (q1, .inl (G.2.1, 8, .inl (fun _ => 0))), (q2, .inl (G.2.1, 8, .inl (fun _ => 0)))] H := hP
  have hD : va_D A [(A_a0, .inr (5, [.ref q0, .ref q1, .null, .int 0])), (q0, .inl (G.2.1, 8, .inl (fun _ => 0))), (q1, .inl (G.2.1, 8, .inl (fun _ => 0))), (q2, .inl (G.2.1, 8, .inl (fun _ => 0)))] := hD
  refine va_putF (D := G.1) (ci := 5) (v := .ref q2) (ty := tyX5 2) (C := RX5) (T := TX5) (N := 4) hx hb hts uX5_init_o tyX5 tyX5_ok nmX5 hown hK.1 hP hD hS 0 rfl rfl 2 (by decide) (hts (.fieldLink RX5 18 "RingShadow$Sights" "covers" "[I") (List.mem_of_getElem? (i := 7) rfl)) (fun _ h9 => h9) rfl hnm rfl (by decide +kernel) rfl rfl (Nat.le_of_ble_eq_true rfl) dX5_init_25 (fun H locs hP hD hS => ?_)
  have hP : va_P G.1 vwCl [(A_a0, .inr (5, [.ref q0, .ref q1, .ref q2, .int 0])), (q0, .inl (G.2.1, 8, .inl (fun _ => 0))), (q1, .inl (G.2.1, 8, .inl (fun _ => 0))), (q2, .inl (G.2.1, 8, .inl (fun _ => 0)))] H := hP
  have hD : va_D A [(A_a0, .inr (5, [.ref q0, .ref q1, .ref q2, .int 0])), (q0, .inl (G.2.1, 8, .inl (fun _ => 0))), (q1, .inl (G.2.1, 8, .inl (fun _ => 0))), (q2, .inl (G.2.1, 8, .inl (fun _ => 0)))] := hD
  exact ret (q0, q1, q2) H locs 28 ls hP hD hS dX5_init_28
abbrev rmX3_init : Room := { frames := 1, cells := 1, slots := 60, locals := 14 }
theorem uX3_init_o : ∀ w ∈ wsX30, w ∈ wsX3_init := fun _ h => List.mem_cons_of_mem _ (List.mem_append_right _ h)
set_option maxHeartbeats 400000 in
theorem c_X3_init (l : Launch) (G : rs_G) (A_a0 : Nat) : rs_Cn l yX3_init wsX3_init rmX3_init G [.ref A_a0] [(A_a0, .inr (3, [.null, .int 0]))] (fun (u : Nat) => [(A_a0, .inr (3, [.ref u, .int 0])), (u, .inl (G.2.2.2.1, 60, .inl (fun _ => 0)))]) 1 60 := by
  refine rs_enter_n (cc := cX3_init) (maxL := 1) (by decide) rfl (Nat.le_of_ble_eq_true rfl) (fun p e s m args below meth c A Q ls E hnm ret hP hD hS hA hl => ?_)
  obtain ⟨hx, hb, hml, hown, hts, hK⟩ := E
  have hown : s.vm.findClass RX3 = some m.cls := hown
  have hnm : meth.name = "<init>" := hnm
  have hl : lv_has ls 1 [(0, .ref A_a0)] := hl
  refine lv_aload_n hx hb dX3_init_0 rfl (lv_at hl 0 rfl) ?_
  refine W.objInit hx hb hown (hts (.methodLink RX3 3 objectInit) (List.mem_of_getElem? (i := 1) rfl)) (hts (.instanceMethod objectInit) (List.mem_of_getElem? (i := 2) rfl)) (hts (.code objectInit ⟨#[0xb1]⟩ 1 none) (List.mem_of_getElem? (i := 3) rfl)) rfl (by rw [hml]; exact hl.1) rfl dX3_init_1 (Nat.le_of_ble_eq_true rfl) (Nat.le_of_ble_eq_true rfl) ?_
  refine W.eq (g2 := F0 m 4 ls []) rfl ?_
  refine lv_aload_n hx hb dX3_init_4 rfl (lv_at hl 0 rfl) ?_
  refine lv_bipush (v := 60) hx hb dX3_init_5 (by decide) ?_
  refine rs_newa (atype := .char) (N' := 60) (a0 := (60, .inl (fun _ => 0))) (ty := .char) (n := 60) (cA := G.2.2.2.1) hx hb (hts (.arrayClass .char) (List.mem_of_getElem? (i := 4) rfl)) rfl hK hP hD hS hA 2 rfl (fun _ => rfl) (by decide) rfl (by decide) (Nat.le_of_ble_eq_true rfl) (Nat.le_of_ble_eq_true rfl) dX3_init_7 (fun q0 H hP hD hS => ?_)
  have hP : va_P G.1 vwCl [(A_a0, .inr (3, [.null, .int 0])), (q0, .inl (G.2.2.2.1, 60, .inl (fun _ => 0)))] H := hP
  have hD : va_D A [(A_a0, .inr (3, [.null, .int 0])), (q0, .inl (G.2.2.2.1, 60, .inl (fun _ => 0)))] := hD
  refine va_putF (D := G.1) (ci := 3) (v := .ref q0) (ty := tyX3 0) (C := RX3) (T := TX3) (N := 2) hx hb hts uX3_init_o tyX3 tyX3_ok nmX3 hown hK.1 hP hD hS 0 rfl rfl 0 (by decide) (hts (.fieldLink RX3 9 "RingShadow$Pad" "signs" "[C") (List.mem_of_getElem? (i := 5) rfl)) (fun _ h9 => h9) rfl hnm rfl (by decide +kernel) rfl rfl (Nat.le_of_ble_eq_true rfl) dX3_init_9 (fun H locs hP hD hS => ?_)
  have hP : va_P G.1 vwCl [(A_a0, .inr (3, [.ref q0, .int 0])), (q0, .inl (G.2.2.2.1, 60, .inl (fun _ => 0)))] H := hP
  have hD : va_D A [(A_a0, .inr (3, [.ref q0, .int 0])), (q0, .inl (G.2.2.2.1, 60, .inl (fun _ => 0)))] := hD
  exact ret q0 H locs 12 ls hP hD hS dX3_init_12
abbrev rmX8_init : Room := { frames := 1, cells := 2, slots := 18, locals := 14 }
theorem uX8_init_o : ∀ w ∈ wsX80, w ∈ wsX8_init := fun _ h => List.mem_cons_of_mem _ (List.mem_append_right _ h)
set_option maxHeartbeats 400000 in
theorem c_X8_init (l : Launch) (G : rs_G) (A_a0 : Nat) : rs_Cn l yX8_init wsX8_init rmX8_init G [.ref A_a0] [(A_a0, .inr (8, [.null, .null]))] (fun (u : Nat × Nat) => [(A_a0, .inr (8, [.ref u.1, .ref u.2])), (u.1, .inl (G.2.2.1, 9, .inr (.inl (fun _ => 0)))), (u.2, .inl (G.2.2.1, 9, .inr (.inl (fun _ => 0))))]) 2 18 := by
  refine rs_enter_n (cc := cX8_init) (maxL := 1) (by decide) rfl (Nat.le_of_ble_eq_true rfl) (fun p e s m args below meth c A Q ls E hnm ret hP hD hS hA hl => ?_)
  obtain ⟨hx, hb, hml, hown, hts, hK⟩ := E
  have hown : s.vm.findClass RX8 = some m.cls := hown
  have hnm : meth.name = "<init>" := hnm
  have hl : lv_has ls 1 [(0, .ref A_a0)] := hl
  refine lv_aload_n hx hb dX8_init_0 rfl (lv_at hl 0 rfl) ?_
  refine W.objInit hx hb hown (hts (.methodLink RX8 3 objectInit) (List.mem_of_getElem? (i := 1) rfl)) (hts (.instanceMethod objectInit) (List.mem_of_getElem? (i := 2) rfl)) (hts (.code objectInit ⟨#[0xb1]⟩ 1 none) (List.mem_of_getElem? (i := 3) rfl)) rfl (by rw [hml]; exact hl.1) rfl dX8_init_1 (Nat.le_of_ble_eq_true rfl) (Nat.le_of_ble_eq_true rfl) ?_
  refine W.eq (g2 := F0 m 4 ls []) rfl ?_
  refine lv_aload_n hx hb dX8_init_4 rfl (lv_at hl 0 rfl) ?_
  refine lv_bipush (v := 9) hx hb dX8_init_5 (by decide) ?_
  refine rs_newa (atype := .long) (N' := 9) (a0 := (9, .inr (.inl (fun _ => 0)))) (ty := .long) (n := 9) (cA := G.2.2.1) hx hb (hts (.arrayClass .long) (List.mem_of_getElem? (i := 4) rfl)) rfl hK hP hD hS hA 1 rfl (fun _ => rfl) (by decide) rfl (by decide) (Nat.le_of_ble_eq_true rfl) (Nat.le_of_ble_eq_true rfl) dX8_init_7 (fun q0 H hP hD hS => ?_)
  have hP : va_P G.1 vwCl [(A_a0, .inr (8, [.null, .null])), (q0, .inl (G.2.2.1, 9, .inr (.inl (fun _ => 0))))] H := hP
  have hD : va_D A [(A_a0, .inr (8, [.null, .null])), (q0, .inl (G.2.2.1, 9, .inr (.inl (fun _ => 0))))] := hD
  refine va_putF (D := G.1) (ci := 8) (v := .ref q0) (ty := tyX8 0) (C := RX8) (T := TX8) (N := 2) hx hb hts uX8_init_o tyX8 tyX8_ok nmX8 hown hK.1 hP hD hS 0 rfl rfl 0 (by decide) (hts (.fieldLink RX8 9 "RingShadow$Walk" "first" "[J") (List.mem_of_getElem? (i := 5) rfl)) (fun _ h9 => h9) rfl hnm rfl (by decide +kernel) rfl rfl (Nat.le_of_ble_eq_true rfl) dX8_init_9 (fun H locs hP hD hS => ?_)
  have hP : va_P G.1 vwCl [(A_a0, .inr (8, [.ref q0, .null])), (q0, .inl (G.2.2.1, 9, .inr (.inl (fun _ => 0))))] H := hP
  have hD : va_D A [(A_a0, .inr (8, [.ref q0, .null])), (q0, .inl (G.2.2.1, 9, .inr (.inl (fun _ => 0))))] := hD
  refine lv_aload_n hx hb dX8_init_12 rfl (lv_at hl 0 rfl) ?_
  refine lv_bipush (v := 9) hx hb dX8_init_13 (by decide) ?_
  refine rs_newa (atype := .long) (N' := 9) (a0 := (9, .inr (.inl (fun _ => 0)))) (ty := .long) (n := 9) (cA := G.2.2.1) hx hb (hts (.arrayClass .long) (List.mem_of_getElem? (i := 4) rfl)) rfl hK hP hD hS hA 1 rfl (fun _ => rfl) (by decide) rfl (by decide) (Nat.le_of_ble_eq_true rfl) (Nat.le_of_ble_eq_true rfl) dX8_init_15 (fun q1 H hP hD hS => ?_)
  have hP : va_P G.1 vwCl [(A_a0, .inr (8, [.ref q0, .null])), (q0, .inl (G.2.2.1, 9, .inr (.inl (fun _ => 0)))), (q1, .inl (G.2.2.1, 9, .inr (.inl (fun _ => 0))))] H := hP
  have hD : va_D A [(A_a0, .inr (8, [.ref q0, .null])), (q0, .inl (G.2.2.1, 9, .inr (.inl (fun _ => 0)))), (q1, .inl (G.2.2.1, 9, .inr (.inl (fun _ => 0))))] := hD
  refine va_putF (D := G.1) (ci := 8) (v := .ref q1) (ty := tyX8 1) (C := RX8) (T := TX8) (N := 2) hx hb hts uX8_init_o tyX8 tyX8_ok nmX8 hown hK.1 hP hD hS 0 rfl rfl 1 (by decide) (hts (.fieldLink RX8 15 "RingShadow$Walk" "second" "[J") (List.mem_of_getElem? (i := 6) rfl)) (fun _ h9 => h9) rfl hnm rfl (by decide +kernel) rfl rfl (Nat.le_of_ble_eq_true rfl) dX8_init_17 (fun H locs hP hD hS => ?_)
  have hP : va_P G.1 vwCl [(A_a0, .inr (8, [.ref q0, .ref q1])), (q0, .inl (G.2.2.1, 9, .inr (.inl (fun _ => 0)))), (q1, .inl (G.2.2.1, 9, .inr (.inl (fun _ => 0))))] H := hP
  have hD : va_D A [(A_a0, .inr (8, [.ref q0, .ref q1])), (q0, .inl (G.2.2.1, 9, .inr (.inl (fun _ => 0)))), (q1, .inl (G.2.2.1, 9, .inr (.inl (fun _ => 0))))] := hD
  exact ret (q0, q1) H locs 20 ls hP hD hS dX8_init_20
abbrev rmX0_init : Room := { frames := 1, cells := 2, slots := 1784, locals := 14 }
theorem uX0_init_o : ∀ w ∈ wsX00, w ∈ wsX0_init := fun _ h => List.mem_cons_of_mem _ (List.mem_append_right _ h)
set_option maxHeartbeats 400000 in
theorem c_X0_init (l : Launch) (G : rs_G) (A_a0 : Nat) : rs_Cn l yX0_init wsX0_init rmX0_init G [.ref A_a0] [(A_a0, .inr (0, [.null, .null]))] (fun (u : Nat × Nat) => [(A_a0, .inr (0, [.ref u.1, .ref u.2])), (u.1, .inl (G.2.1, 892, .inl (fun _ => 0))), (u.2, .inl (G.2.1, 892, .inl (fun _ => 0)))]) 2 1784 := by
  refine rs_enter_n (cc := cX0_init) (maxL := 1) (by decide) rfl (Nat.le_of_ble_eq_true rfl) (fun p e s m args below meth c A Q ls E hnm ret hP hD hS hA hl => ?_)
  obtain ⟨hx, hb, hml, hown, hts, hK⟩ := E
  have hown : s.vm.findClass RX0 = some m.cls := hown
  have hnm : meth.name = "<init>" := hnm
  have hl : lv_has ls 1 [(0, .ref A_a0)] := hl
  refine lv_aload_n hx hb dX0_init_0 rfl (lv_at hl 0 rfl) ?_
  refine W.objInit hx hb hown (hts (.methodLink RX0 3 objectInit) (List.mem_of_getElem? (i := 1) rfl)) (hts (.instanceMethod objectInit) (List.mem_of_getElem? (i := 2) rfl)) (hts (.code objectInit ⟨#[0xb1]⟩ 1 none) (List.mem_of_getElem? (i := 3) rfl)) rfl (by rw [hml]; exact hl.1) rfl dX0_init_1 (Nat.le_of_ble_eq_true rfl) (Nat.le_of_ble_eq_true rfl) ?_
  refine W.eq (g2 := F0 m 4 ls []) rfl ?_
  refine lv_aload_n hx hb dX0_init_4 rfl (lv_at hl 0 rfl) ?_
  refine lv_sipush (v := 892) hx hb dX0_init_5 (by decide) ?_
  refine rs_newa (atype := .int) (N' := 892) (a0 := (892, .inl (fun _ => 0))) (ty := .int) (n := 892) (cA := G.2.1) hx hb (hts (.arrayClass .int) (List.mem_of_getElem? (i := 4) rfl)) rfl hK hP hD hS hA 0 rfl (fun _ => rfl) (by decide) rfl (by decide) (Nat.le_of_ble_eq_true rfl) (Nat.le_of_ble_eq_true rfl) dX0_init_8 (fun q0 H hP hD hS => ?_)
  have hP : va_P G.1 vwCl [(A_a0, .inr (0, [.null, .null])), (q0, .inl (G.2.1, 892, .inl (fun _ => 0)))] H := hP
  have hD : va_D A [(A_a0, .inr (0, [.null, .null])), (q0, .inl (G.2.1, 892, .inl (fun _ => 0)))] := hD
  refine va_putF (D := G.1) (ci := 0) (v := .ref q0) (ty := tyX0 0) (C := RX0) (T := TX0) (N := 2) hx hb hts uX0_init_o tyX0 tyX0_ok nmX0 hown hK.1 hP hD hS 0 rfl rfl 0 (by decide) (hts (.fieldLink RX0 9 "RingShadow$Carrier" "first" "[I") (List.mem_of_getElem? (i := 5) rfl)) (fun _ h9 => h9) rfl hnm rfl (by decide +kernel) rfl rfl (Nat.le_of_ble_eq_true rfl) dX0_init_10 (fun H locs hP hD hS => ?_)
  have hP : va_P G.1 vwCl [(A_a0, .inr (0, [.ref q0, .null])), (q0, .inl (G.2.1, 892, .inl (fun _ => 0)))] H := hP
  have hD : va_D A [(A_a0, .inr (0, [.ref q0, .null])), (q0, .inl (G.2.1, 892, .inl (fun _ => 0)))] := hD
  refine lv_aload_n hx hb dX0_init_13 rfl (lv_at hl 0 rfl) ?_
  refine lv_sipush (v := 892) hx hb dX0_init_14 (by decide) ?_
  refine rs_newa (atype := .int) (N' := 892) (a0 := (892, .inl (fun _ => 0))) (ty := .int) (n := 892) (cA := G.2.1) hx hb (hts (.arrayClass .int) (List.mem_of_getElem? (i := 4) rfl)) rfl hK hP hD hS hA 0 rfl (fun _ => rfl) (by decide) rfl (by decide) (Nat.le_of_ble_eq_true rfl) (Nat.le_of_ble_eq_true rfl) dX0_init_17 (fun q1 H hP hD hS => ?_)
  have hP : va_P G.1 vwCl [(A_a0, .inr (0, [.ref q0, .null])), (q0, .inl (G.2.1, 892, .inl (fun _ => 0))), (q1, .inl (G.2.1, 892, .inl (fun _ => 0)))] H := hP
  have hD : va_D A [(A_a0, .inr (0, [.ref q0, .null])), (q0, .inl (G.2.1, 892, .inl (fun _ => 0))), (q1, .inl (G.2.1, 892, .inl (fun _ => 0)))] := hD
  refine va_putF (D := G.1) (ci := 0) (v := .ref q1) (ty := tyX0 1) (C := RX0) (T := TX0) (N := 2) hx hb hts uX0_init_o tyX0 tyX0_ok nmX0 hown hK.1 hP hD hS 0 rfl rfl 1 (by decide) (hts (.fieldLink RX0 15 "RingShadow$Carrier" "second" "[I") (List.mem_of_getElem? (i := 6) rfl)) (fun _ h9 => h9) rfl hnm rfl (by decide +kernel) rfl rfl (Nat.le_of_ble_eq_true rfl) dX0_init_19 (fun H locs hP hD hS => ?_)
  have hP : va_P G.1 vwCl [(A_a0, .inr (0, [.ref q0, .ref q1])), (q0, .inl (G.2.1, 892, .inl (fun _ => 0))), (q1, .inl (G.2.1, 892, .inl (fun _ => 0)))] H := hP
  have hD : va_D A [(A_a0, .inr (0, [.ref q0, .ref q1])), (q0, .inl (G.2.1, 892, .inl (fun _ => 0))), (q1, .inl (G.2.1, 892, .inl (fun _ => 0)))] := hD
  exact ret (q0, q1) H locs 22 ls hP hD hS dX0_init_22
abbrev rmX2_init : Room := { frames := 1, cells := 2, slots := 200, locals := 14 }
theorem uX2_init_o : ∀ w ∈ wsX20, w ∈ wsX2_init := fun _ h => List.mem_cons_of_mem _ (List.mem_append_right _ h)
set_option maxHeartbeats 400000 in
theorem c_X2_init (l : Launch) (G : rs_G) (A_a0 : Nat) : rs_Cn l yX2_init wsX2_init rmX2_init G [.ref A_a0] [(A_a0, .inr (2, [.null, .null, .long 0, .long 0]))] (fun (u : Nat × Nat) => [(A_a0, .inr (2, [.ref u.1, .ref u.2, .long 0, .long 0])), (u.1, .inl (G.2.2.1, 100, .inr (.inl (fun _ => 0)))), (u.2, .inl (G.2.2.1, 100, .inr (.inl (fun _ => 0))))]) 2 200 := by
  refine rs_enter_n (cc := cX2_init) (maxL := 1) (by decide) rfl (Nat.le_of_ble_eq_true rfl) (fun p e s m args below meth c A Q ls E hnm ret hP hD hS hA hl => ?_)
  obtain ⟨hx, hb, hml, hown, hts, hK⟩ := E
  have hown : s.vm.findClass RX2 = some m.cls := hown
  have hnm : meth.name = "<init>" := hnm
  have hl : lv_has ls 1 [(0, .ref A_a0)] := hl
  refine lv_aload_n hx hb dX2_init_0 rfl (lv_at hl 0 rfl) ?_
  refine W.objInit hx hb hown (hts (.methodLink RX2 3 objectInit) (List.mem_of_getElem? (i := 1) rfl)) (hts (.instanceMethod objectInit) (List.mem_of_getElem? (i := 2) rfl)) (hts (.code objectInit ⟨#[0xb1]⟩ 1 none) (List.mem_of_getElem? (i := 3) rfl)) rfl (by rw [hml]; exact hl.1) rfl dX2_init_1 (Nat.le_of_ble_eq_true rfl) (Nat.le_of_ble_eq_true rfl) ?_
  refine W.eq (g2 := F0 m 4 ls []) rfl ?_
  refine lv_aload_n hx hb dX2_init_4 rfl (lv_at hl 0 rfl) ?_
  refine lv_bipush (v := 100) hx hb dX2_init_5 (by decide) ?_
  refine rs_newa (atype := .long) (N' := 100) (a0 := (100, .inr (.inl (fun _ => 0)))) (ty := .long) (n := 100) (cA := G.2.2.1) hx hb (hts (.arrayClass .long) (List.mem_of_getElem? (i := 4) rfl)) rfl hK hP hD hS hA 1 rfl (fun _ => rfl) (by decide) rfl (by decide) (Nat.le_of_ble_eq_true rfl) (Nat.le_of_ble_eq_true rfl) dX2_init_7 (fun q0 H hP hD hS => ?_)
  have hP : va_P G.1 vwCl [(A_a0, .inr (2, [.null, .null, .long 0, .long 0])), (q0, .inl (G.2.2.1, 100, .inr (.inl (fun _ => 0))))] H := hP
  have hD : va_D A [(A_a0, .inr (2, [.null, .null, .long 0, .long 0])), (q0, .inl (G.2.2.1, 100, .inr (.inl (fun _ => 0))))] := hD
  refine va_putF (D := G.1) (ci := 2) (v := .ref q0) (ty := tyX2 0) (C := RX2) (T := TX2) (N := 4) hx hb hts uX2_init_o tyX2 tyX2_ok nmX2 hown hK.1 hP hD hS 0 rfl rfl 0 (by decide) (hts (.fieldLink RX2 9 "RingShadow$Cloud" "first" "[J") (List.mem_of_getElem? (i := 5) rfl)) (fun _ h9 => h9) rfl hnm rfl (by decide +kernel) rfl rfl (Nat.le_of_ble_eq_true rfl) dX2_init_9 (fun H locs hP hD hS => ?_)
  have hP : va_P G.1 vwCl [(A_a0, .inr (2, [.ref q0, .null, .long 0, .long 0])), (q0, .inl (G.2.2.1, 100, .inr (.inl (fun _ => 0))))] H := hP
  have hD : va_D A [(A_a0, .inr (2, [.ref q0, .null, .long 0, .long 0])), (q0, .inl (G.2.2.1, 100, .inr (.inl (fun _ => 0))))] := hD
  refine lv_aload_n hx hb dX2_init_12 rfl (lv_at hl 0 rfl) ?_
  refine lv_bipush (v := 100) hx hb dX2_init_13 (by decide) ?_
  refine rs_newa (atype := .long) (N' := 100) (a0 := (100, .inr (.inl (fun _ => 0)))) (ty := .long) (n := 100) (cA := G.2.2.1) hx hb (hts (.arrayClass .long) (List.mem_of_getElem? (i := 4) rfl)) rfl hK hP hD hS hA 1 rfl (fun _ => rfl) (by decide) rfl (by decide) (Nat.le_of_ble_eq_true rfl) (Nat.le_of_ble_eq_true rfl) dX2_init_15 (fun q1 H hP hD hS => ?_)
  have hP : va_P G.1 vwCl [(A_a0, .inr (2, [.ref q0, .null, .long 0, .long 0])), (q0, .inl (G.2.2.1, 100, .inr (.inl (fun _ => 0)))), (q1, .inl (G.2.2.1, 100, .inr (.inl (fun _ => 0))))] H := hP
  have hD : va_D A [(A_a0, .inr (2, [.ref q0, .null, .long 0, .long 0])), (q0, .inl (G.2.2.1, 100, .inr (.inl (fun _ => 0)))), (q1, .inl (G.2.2.1, 100, .inr (.inl (fun _ => 0))))] := hD
  refine va_putF (D := G.1) (ci := 2) (v := .ref q1) (ty := tyX2 1) (C := RX2) (T := TX2) (N := 4) hx hb hts uX2_init_o tyX2 tyX2_ok nmX2 hown hK.1 hP hD hS 0 rfl rfl 1 (by decide) (hts (.fieldLink RX2 15 "RingShadow$Cloud" "second" "[J") (List.mem_of_getElem? (i := 6) rfl)) (fun _ h9 => h9) rfl hnm rfl (by decide +kernel) rfl rfl (Nat.le_of_ble_eq_true rfl) dX2_init_17 (fun H locs hP hD hS => ?_)
  have hP : va_P G.1 vwCl [(A_a0, .inr (2, [.ref q0, .ref q1, .long 0, .long 0])), (q0, .inl (G.2.2.1, 100, .inr (.inl (fun _ => 0)))), (q1, .inl (G.2.2.1, 100, .inr (.inl (fun _ => 0))))] H := hP
  have hD : va_D A [(A_a0, .inr (2, [.ref q0, .ref q1, .long 0, .long 0])), (q0, .inl (G.2.2.1, 100, .inr (.inl (fun _ => 0)))), (q1, .inl (G.2.2.1, 100, .inr (.inl (fun _ => 0))))] := hD
  exact ret (q0, q1) H locs 20 ls hP hD hS dX2_init_20
