abbrev rmX6_init : Room := { frames := 2, cells := 1, slots := 36, locals := 48 }
theorem uX6_init_6 : ∀ w ∈ wsX60, w ∈ wsX6_init := fun _ h => List.mem_cons_of_mem _ (List.mem_append_right _ h)
set_option maxHeartbeats 400000 in
theorem c_X6_init (l : Launch) (G : rs_G) (A_a0 : Nat) (N : Nat) (o0 : (Nat → Int32)) (h : f_X6_begin N (fun _ => 0) = some o0) : rs_Cn l yX6_init wsX6_init rmX6_init G [.ref A_a0] [(A_a0, .inr (6, [.null]))] (fun (q : Nat) => [(A_a0, .inr (6, [.ref q])), (q, .inl (G.2.1, 36, .inl o0))]) 1 36 := by
  refine rs_enter_n (cc := cX6_init) (maxL := 1) (by decide) rfl (Nat.le_of_ble_eq_true rfl) (fun p e s m args below meth c A Q ls E hnm ret hP hD hS hA hl => ?_)
  obtain ⟨hx, hb, hml, hown, hts, hK⟩ := E
  have hown : s.vm.findClass RX6 = some m.cls := hown
  have hnm : meth.name = "<init>" := hnm
  have hl : lv_has ls 1 [(0, .ref A_a0)] := hl
  refine lv_aload_n hx hb dX6_init_0 rfl (lv_at hl 0 rfl) ?_
  refine W.objInit hx hb hown (hts (.methodLink RX6 3 objectInit) (List.mem_of_getElem? (i := 1) rfl)) (hts (.instanceMethod objectInit) (List.mem_of_getElem? (i := 2) rfl)) (hts (.code objectInit ⟨#[0xb1]⟩ 1 none) (List.mem_of_getElem? (i := 3) rfl)) rfl (by rw [hml]; exact hl.1) rfl dX6_init_1 (Nat.le_of_ble_eq_true rfl) (Nat.le_of_ble_eq_true rfl) ?_
  refine W.eq (g2 := F0 m 4 ls []) rfl ?_
  refine lv_aload_n hx hb dX6_init_4 rfl (lv_at hl 0 rfl) ?_
  refine lv_bipush (v := 36) hx hb dX6_init_5 (by decide) ?_
  refine rs_newa (atype := .int) (N' := 36) (a0 := (36, .inl (fun _ => 0))) (ty := .int) (n := 36) (cA := G.2.1) hx hb (hts (.arrayClass .int) (List.mem_of_getElem? (i := 4) rfl)) rfl hK hP hD hS hA 0 rfl (fun _ => rfl) (by decide) rfl (by decide) (Nat.le_of_ble_eq_true rfl) (Nat.le_of_ble_eq_true rfl) dX6_init_7 (fun q H hP hD hS => ?_)
  have hP : va_P G.1 vwCl [(A_a0, .inr (6, [.null])), (q, .inl (G.2.1, 36, .inl (fun _ => 0)))] H := hP
  have hD : va_D A [(A_a0, .inr (6, [.null])), (q, .inl (G.2.1, 36, .inl (fun _ => 0)))] := hD
  refine va_putF (D := G.1) (ci := 6) (v := .ref q) (ty := tyX6 0) (C := RX6) (T := TX6) (N := 1) hx hb hts uX6_init_6 tyX6 tyX6_ok nmX6 hown hK.1 hP hD hS 0 rfl rfl 0 (by decide) (hts (.fieldLink RX6 9 "RingShadow$Stock" "cells" "[I") (List.mem_of_getElem? (i := 5) rfl)) (fun _ h9 => h9) rfl hnm rfl (by decide +kernel) rfl rfl (Nat.le_of_ble_eq_true rfl) dX6_init_9 (fun H locs hP hD hS => ?_)
  have hP : va_P G.1 vwCl [(A_a0, .inr (6, [.ref q])), (q, .inl (G.2.1, 36, .inl (fun _ => 0)))] H := hP
  have hD : va_D A [(A_a0, .inr (6, [.ref q])), (q, .inl (G.2.1, 36, .inl (fun _ => 0)))] := hD
  refine lv_aload_n hx hb dX6_init_12 rfl (lv_at hl 0 rfl) ?_
  refine rs_callVv (As := []) (rest := []) ⟨hx, hb, hml, hown, hts⟩ (c_X6_begin l G A_a0 q (fun _ => 0) N o0 h) (cwV 0 hts gX6_init_X6_begin rfl rfl rfl (by decide +kernel) ⟨Nat.le_of_ble_eq_true rfl, Nat.le_of_ble_eq_true rfl⟩) dX6_init_13 hK hP hD hS hA [0, 1] rfl (by decide) rfl rfl (q0 := 0) (ci := 6) rfl rfl rfl hl.1 (lv_room (Nat.le_of_ble_eq_true rfl)) ⟨Nat.le_of_ble_eq_true rfl, Nat.le_of_ble_eq_true rfl⟩ (fun (_ : Unit) => [(A_a0, .inr (6, [.ref q])), (q, .inl (G.2.1, 36, .inl o0))]) (fun _ => rfl) (fun _ => rfl) (fun u120 H locs hP hD hS => ?_)
  exact ret q H locs 16 ls hP hD hS dX6_init_16
