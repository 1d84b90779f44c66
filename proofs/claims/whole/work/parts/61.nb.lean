abbrev rmX4_init : Room := { frames := 1, cells := 0, slots := 0, locals := 12 }
theorem uX4_init_4 : ∀ w ∈ wsX40, w ∈ wsX4_init := fun _ h => List.mem_cons_of_mem _ (List.mem_append_right _ h)
set_option maxHeartbeats 4000000 in
theorem c_X4_init (l : Launch) (G : rs_G) (A_a0 : Nat) (v0 v1 v2 v3 v4 v5 v6 : Int32) : rs_Cn l yX4_init wsX4_init rmX4_init G [.ref A_a0] [(A_a0, .inr (4, [.int v0, .int v1, .int v2, .int v3, .int v4, .int v5, .int v6]))] (fun (_ : Unit) => [(A_a0, .inr (4, [.int 6, .int 2, .int 1, .int 0, .int 0, .int 1, .int 1]))]) 0 0 := by
  refine rs_enter_n (cc := cX4_init) (maxL := 1) (by decide) rfl (Nat.le_of_ble_eq_true rfl) (fun p e s m args below meth c A Q ls E hnm ret hP hD hS hA hl => ?_)
  obtain ⟨hx, hb, hml, hown, hts, hK⟩ := E
  have hown : s.vm.findClass RX4 = some m.cls := hown
  have hl : lv_has ls 1 [(0, .ref A_a0)] := hl
  refine lv_aload_n hx hb dX4_init_0 rfl (lv_at hl 0 rfl) ?_
  refine W.objInit hx hb hown (hts (.methodLink RX4 3 objectInit) (List.mem_of_getElem? (i := 1) rfl)) (hts (.instanceMethod objectInit) (List.mem_of_getElem? (i := 2) rfl)) (hts (.code objectInit ⟨#[0xb1]⟩ 1 none) (List.mem_of_getElem? (i := 3) rfl)) rfl (by rw [hml]; exact hl.1) rfl dX4_init_1 (Nat.le_of_ble_eq_true rfl) (Nat.le_of_ble_eq_true rfl) ?_
  refine W.eq (g2 := F0 m 4 ls []) rfl ?_
  refine lv_aload_n hx hb dX4_init_4 rfl (lv_at hl 0 rfl) ?_
  refine lv_bipush (v := 6) hx hb dX4_init_5 (by decide) ?_
  refine va_put (D := G.1) (ci := 4) (v := .int 6) (ty := .int) (C := RX4) (T := TX4) (N := 7) hx hb hts uX4_init_4 tyX4 tyX4_ok nmX4 hown hK.1 hP hD hS 0 rfl rfl 0 (by decide) (hts (.fieldLink RX4 9 "RingShadow$Shadow" "lands" "I") (List.mem_of_getElem? (i := 4) rfl)) (fun _ h9 => h9) rfl (by decide +kernel) rfl rfl (Nat.le_of_ble_eq_true rfl) dX4_init_7 (fun H locs hP hD hS => ?_)
  have hP : va_P G.1 vwCl [(A_a0, .inr (4, [.int 6, .int v1, .int v2, .int v3, .int v4, .int v5, .int v6]))] H := hP
  have hD : va_D A [(A_a0, .inr (4, [.int 6, .int v1, .int v2, .int v3, .int v4, .int v5, .int v6]))] := hD
  refine lv_aload_n hx hb dX4_init_10 rfl (lv_at hl 0 rfl) ?_
  refine lv_iconst (v := 2) hx hb dX4_init_11 (by decide) ?_
  refine va_put (D := G.1) (ci := 4) (v := .int 2) (ty := .int) (C := RX4) (T := TX4) (N := 7) hx hb hts uX4_init_4 tyX4 tyX4_ok nmX4 hown hK.1 hP hD hS 0 rfl rfl 1 (by decide) (hts (.fieldLink RX4 15 "RingShadow$Shadow" "wide" "I") (List.mem_of_getElem? (i := 5) rfl)) (fun _ h9 => h9) rfl (by decide +kernel) rfl rfl (Nat.le_of_ble_eq_true rfl) dX4_init_12 (fun H locs hP hD hS => ?_)
  have hP : va_P G.1 vwCl [(A_a0, .inr (4, [.int 6, .int 2, .int v2, .int v3, .int v4, .int v5, .int v6]))] H := hP
  have hD : va_D A [(A_a0, .inr (4, [.int 6, .int 2, .int v2, .int v3, .int v4, .int v5, .int v6]))] := hD
  refine lv_aload_n hx hb dX4_init_15 rfl (lv_at hl 0 rfl) ?_
  refine lv_iconst (v := 1) hx hb dX4_init_16 (by decide) ?_
  refine va_put (D := G.1) (ci := 4) (v := .int 1) (ty := .int) (C := RX4) (T := TX4) (N := 7) hx hb hts uX4_init_4 tyX4 tyX4_ok nmX4 hown hK.1 hP hD hS 0 rfl rfl 2 (by decide) (hts (.fieldLink RX4 18 "RingShadow$Shadow" "pace" "I") (List.mem_of_getElem? (i := 6) rfl)) (fun _ h9 => h9) rfl (by decide +kernel) rfl rfl (Nat.le_of_ble_eq_true rfl) dX4_init_17 (fun H locs hP hD hS => ?_)
  have hP : va_P G.1 vwCl [(A_a0, .inr (4, [.int 6, .int 2, .int 1, .int v3, .int v4, .int v5, .int v6]))] H := hP
  have hD : va_D A [(A_a0, .inr (4, [.int 6, .int 2, .int 1, .int v3, .int v4, .int v5, .int v6]))] := hD
  refine lv_aload_n hx hb dX4_init_20 rfl (lv_at hl 0 rfl) ?_
  refine lv_iconst (v := 0) hx hb dX4_init_21 (by decide) ?_
  refine va_put (D := G.1) (ci := 4) (v := .int 0) (ty := .int) (C := RX4) (T := TX4) (N := 7) hx hb hts uX4_init_4 tyX4 tyX4_ok nmX4 hown hK.1 hP hD hS 0 rfl rfl 3 (by decide) (hts (.fieldLink RX4 21 "RingShadow$Shadow" "age" "I") (List.mem_of_getElem? (i := 7) rfl)) (fun _ h9 => h9) rfl (by decide +kernel) rfl rfl (Nat.le_of_ble_eq_true rfl) dX4_init_22 (fun H locs hP hD hS => ?_)
  have hP : va_P G.1 vwCl [(A_a0, .inr (4, [.int 6, .int 2, .int 1, .int 0, .int v4, .int v5, .int v6]))] H := hP
  have hD : va_D A [(A_a0, .inr (4, [.int 6, .int 2, .int 1, .int 0, .int v4, .int v5, .int v6]))] := hD
  refine lv_aload_n hx hb dX4_init_25 rfl (lv_at hl 0 rfl) ?_
  refine lv_iconst (v := 0) hx hb dX4_init_26 (by decide) ?_
  refine va_put (D := G.1) (ci := 4) (v := .int 0) (ty := .int) (C := RX4) (T := TX4) (N := 7) hx hb hts uX4_init_4 tyX4 tyX4_ok nmX4 hown hK.1 hP hD hS 0 rfl rfl 4 (by decide) (hts (.fieldLink RX4 24 "RingShadow$Shadow" "slits" "I") (List.mem_of_getElem? (i := 8) rfl)) (fun _ h9 => h9) rfl (by decide +kernel) rfl rfl (Nat.le_of_ble_eq_true rfl) dX4_init_27 (fun H locs hP hD hS => ?_)
  have hP : va_P G.1 vwCl [(A_a0, .inr (4, [.int 6, .int 2, .int 1, .int 0, .int 0, .int v5, .int v6]))] H := hP
  have hD : va_D A [(A_a0, .inr (4, [.int 6, .int 2, .int 1, .int 0, .int 0, .int v5, .int v6]))] := hD
  refine lv_aload_n hx hb dX4_init_30 rfl (lv_at hl 0 rfl) ?_
  refine lv_iconst (v := 1) hx hb dX4_init_31 (by decide) ?_
  refine va_put (D := G.1) (ci := 4) (v := .int 1) (ty := .int) (C := RX4) (T := TX4) (N := 7) hx hb hts uX4_init_4 tyX4 tyX4_ok nmX4 hown hK.1 hP hD hS 0 rfl rfl 5 (by decide) (hts (.fieldLink RX4 27 "RingShadow$Shadow" "slitA" "I") (List.mem_of_getElem? (i := 9) rfl)) (fun _ h9 => h9) rfl (by decide +kernel) rfl rfl (Nat.le_of_ble_eq_true rfl) dX4_init_32 (fun H locs hP hD hS => ?_)
  have hP : va_P G.1 vwCl [(A_a0, .inr (4, [.int 6, .int 2, .int 1, .int 0, .int 0, .int 1, .int v6]))] H := hP
  have hD : va_D A [(A_a0, .inr (4, [.int 6, .int 2, .int 1, .int 0, .int 0, .int 1, .int v6]))] := hD
  refine lv_aload_n hx hb dX4_init_35 rfl (lv_at hl 0 rfl) ?_
  refine lv_iconst (v := 1) hx hb dX4_init_36 (by decide) ?_
  refine va_put (D := G.1) (ci := 4) (v := .int 1) (ty := .int) (C := RX4) (T := TX4) (N := 7) hx hb hts uX4_init_4 tyX4 tyX4_ok nmX4 hown hK.1 hP hD hS 0 rfl rfl 6 (by decide) (hts (.fieldLink RX4 30 "RingShadow$Shadow" "slitB" "I") (List.mem_of_getElem? (i := 10) rfl)) (fun _ h9 => h9) rfl (by decide +kernel) rfl rfl (Nat.le_of_ble_eq_true rfl) dX4_init_37 (fun H locs hP hD hS => ?_)
  have hP : va_P G.1 vwCl [(A_a0, .inr (4, [.int 6, .int 2, .int 1, .int 0, .int 0, .int 1, .int 1]))] H := hP
  have hD : va_D A [(A_a0, .inr (4, [.int 6, .int 2, .int 1, .int 0, .int 0, .int 1, .int 1]))] := hD
  exact ret () H locs 40 ls hP hD hS dX4_init_40
